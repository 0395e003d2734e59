abbrev M_X0_init : m_M := (yX0_init, cX0_init, 2, none, 1, 4, 16)
theorem mk_X0_init : m_MK M_X0_init 0 := ⟨m_ws_in (List.mem_append_right _ (List.mem_of_getElem? (i := 76) (by decide +kernel))) rfl, m_ws_in (List.mem_append_right _ (List.mem_of_getElem? (i := 4) (by decide +kernel))) rfl, by decide +kernel⟩
theorem in_X0_init : Cond.instanceMethod yX0_init ∈ m_ws := m_ws_in (List.mem_append_right _ (List.mem_of_getElem? (i := 75) (by decide +kernel))) rfl
abbrev M_X0_learn : m_M := (yX0_learn, cX0_learn, 4, none, 1, 0, 0)
theorem mk_X0_learn : m_MK M_X0_learn 2 := ⟨m_ws_in (List.mem_append_right _ (List.mem_of_getElem? (i := 561) (by decide +kernel))) rfl, m_ws_in (List.mem_append_right _ (List.mem_of_getElem? (i := 4) (by decide +kernel))) rfl, by decide +kernel⟩
theorem in_X0_learn : Cond.instanceMethod yX0_learn ∈ m_ws := m_ws_in (List.mem_append_right _ (List.mem_of_getElem? (i := 559) (by decide +kernel))) rfl
theorem se_X0_learn : Cond.selects RX0 yX0_learn yX0_learn ∈ m_ws := m_ws_in (List.mem_append_right _ (List.mem_of_getElem? (i := 560) (by decide +kernel))) rfl
abbrev M_X1_init : m_M := (yX1_init, cX1_init, 1, none, 2, 15, 745)
theorem mk_X1_init : m_MK M_X1_init 0 := ⟨m_ws_in (List.mem_append_right _ (List.mem_of_getElem? (i := 35) (by decide +kernel))) rfl, m_ws_in (List.mem_append_right _ (List.mem_of_getElem? (i := 2) (by decide +kernel))) rfl, by decide +kernel⟩
theorem in_X1_init : Cond.instanceMethod yX1_init ∈ m_ws := m_ws_in (List.mem_append_right _ (List.mem_of_getElem? (i := 34) (by decide +kernel))) rfl
abbrev M_X1_bring : m_M := (yX1_bring, cX1_bring, 2, none, 5, 0, 0)
theorem mk_X1_bring : m_MK M_X1_bring 1 := ⟨m_ws_in (List.mem_append_right _ (List.mem_of_getElem? (i := 528) (by decide +kernel))) rfl, m_ws_in (List.mem_append_right _ (List.mem_of_getElem? (i := 2) (by decide +kernel))) rfl, by decide +kernel⟩
theorem in_X1_bring : Cond.instanceMethod yX1_bring ∈ m_ws := m_ws_in (List.mem_append_right _ (List.mem_of_getElem? (i := 526) (by decide +kernel))) rfl
theorem se_X1_bring : Cond.selects RX1 yX1_bring yX1_bring ∈ m_ws := m_ws_in (List.mem_append_right _ (List.mem_of_getElem? (i := 527) (by decide +kernel))) rfl
abbrev M_X1_gateOf : m_M := (yX1_gateOf, cX1_gateOf, 2, (some .int), 2, 0, 0)
theorem mk_X1_gateOf : m_MK M_X1_gateOf 1 := ⟨m_ws_in (List.mem_append_right _ (List.mem_of_getElem? (i := 625) (by decide +kernel))) rfl, m_ws_in (List.mem_append_right _ (List.mem_of_getElem? (i := 2) (by decide +kernel))) rfl, by decide +kernel⟩
theorem in_X1_gateOf : Cond.instanceMethod yX1_gateOf ∈ m_ws := m_ws_in (List.mem_append_right _ (List.mem_of_getElem? (i := 623) (by decide +kernel))) rfl
theorem se_X1_gateOf : Cond.selects RX1 yX1_gateOf yX1_gateOf ∈ m_ws := m_ws_in (List.mem_append_right _ (List.mem_of_getElem? (i := 624) (by decide +kernel))) rfl
abbrev M_X1_startBatch : m_M := (yX1_startBatch, cX1_startBatch, 2, (some .int), 2, 0, 0)
theorem mk_X1_startBatch : m_MK M_X1_startBatch 0 := ⟨m_ws_in (List.mem_append_right _ (List.mem_of_getElem? (i := 511) (by decide +kernel))) rfl, m_ws_in (List.mem_append_right _ (List.mem_of_getElem? (i := 2) (by decide +kernel))) rfl, by decide +kernel⟩
theorem in_X1_startBatch : Cond.instanceMethod yX1_startBatch ∈ m_ws := m_ws_in (List.mem_append_right _ (List.mem_of_getElem? (i := 509) (by decide +kernel))) rfl
theorem se_X1_startBatch : Cond.selects RX1 yX1_startBatch yX1_startBatch ∈ m_ws := m_ws_in (List.mem_append_right _ (List.mem_of_getElem? (i := 510) (by decide +kernel))) rfl
abbrev M_X1_halt : m_M := (yX1_halt, cX1_halt, 2, none, 1, 0, 0)
theorem mk_X1_halt : m_MK M_X1_halt 1 := ⟨m_ws_in (List.mem_append_right _ (List.mem_of_getElem? (i := 391) (by decide +kernel))) rfl, m_ws_in (List.mem_append_right _ (List.mem_of_getElem? (i := 2) (by decide +kernel))) rfl, by decide +kernel⟩
theorem in_X1_halt : Cond.instanceMethod yX1_halt ∈ m_ws := m_ws_in (List.mem_append_right _ (List.mem_of_getElem? (i := 389) (by decide +kernel))) rfl
theorem se_X1_halt : Cond.selects RX1 yX1_halt yX1_halt ∈ m_ws := m_ws_in (List.mem_append_right _ (List.mem_of_getElem? (i := 390) (by decide +kernel))) rfl
abbrev M_X1_goOn : m_M := (yX1_goOn, cX1_goOn, 1, none, 4, 0, 0)
theorem mk_X1_goOn : m_MK M_X1_goOn 0 := ⟨m_ws_in (List.mem_append_right _ (List.mem_of_getElem? (i := 418) (by decide +kernel))) rfl, m_ws_in (List.mem_append_right _ (List.mem_of_getElem? (i := 2) (by decide +kernel))) rfl, by decide +kernel⟩
theorem in_X1_goOn : Cond.instanceMethod yX1_goOn ∈ m_ws := m_ws_in (List.mem_append_right _ (List.mem_of_getElem? (i := 416) (by decide +kernel))) rfl
theorem se_X1_goOn : Cond.selects RX1 yX1_goOn yX1_goOn ∈ m_ws := m_ws_in (List.mem_append_right _ (List.mem_of_getElem? (i := 417) (by decide +kernel))) rfl
abbrev M_X1_breakOff : m_M := (yX1_breakOff, cX1_breakOff, 2, (some .int), 3, 0, 0)
theorem mk_X1_breakOff : m_MK M_X1_breakOff 0 := ⟨m_ws_in (List.mem_append_right _ (List.mem_of_getElem? (i := 474) (by decide +kernel))) rfl, m_ws_in (List.mem_append_right _ (List.mem_of_getElem? (i := 2) (by decide +kernel))) rfl, by decide +kernel⟩
theorem in_X1_breakOff : Cond.instanceMethod yX1_breakOff ∈ m_ws := m_ws_in (List.mem_append_right _ (List.mem_of_getElem? (i := 472) (by decide +kernel))) rfl
theorem se_X1_breakOff : Cond.selects RX1 yX1_breakOff yX1_breakOff ∈ m_ws := m_ws_in (List.mem_append_right _ (List.mem_of_getElem? (i := 473) (by decide +kernel))) rfl
abbrev M_X1_tareStep : m_M := (yX1_tareStep, cX1_tareStep, 1, none, 2, 0, 0)
theorem mk_X1_tareStep : m_MK M_X1_tareStep 0 := ⟨m_ws_in (List.mem_append_right _ (List.mem_of_getElem? (i := 542) (by decide +kernel))) rfl, m_ws_in (List.mem_append_right _ (List.mem_of_getElem? (i := 2) (by decide +kernel))) rfl, by decide +kernel⟩
theorem in_X1_tareStep : Cond.instanceMethod yX1_tareStep ∈ m_ws := m_ws_in (List.mem_append_right _ (List.mem_of_getElem? (i := 541) (by decide +kernel))) rfl
theorem se_X1_tareStep : Cond.selects RX1 yX1_tareStep yX1_tareStep ∈ m_ws := m_ws_in (List.mem_append_left _ (List.mem_of_getElem? (i := 6) (by decide +kernel))) rfl
abbrev M_X1_feed : m_M := (yX1_feed, cX1_feed, 3, none, 2, 0, 0)
theorem mk_X1_feed : m_MK M_X1_feed 0 := ⟨m_ws_in (List.mem_append_right _ (List.mem_of_getElem? (i := 552) (by decide +kernel))) rfl, m_ws_in (List.mem_append_right _ (List.mem_of_getElem? (i := 2) (by decide +kernel))) rfl, by decide +kernel⟩
theorem in_X1_feed : Cond.instanceMethod yX1_feed ∈ m_ws := m_ws_in (List.mem_append_right _ (List.mem_of_getElem? (i := 551) (by decide +kernel))) rfl
theorem se_X1_feed : Cond.selects RX1 yX1_feed yX1_feed ∈ m_ws := m_ws_in (List.mem_append_left _ (List.mem_of_getElem? (i := 8) (by decide +kernel))) rfl
abbrev M_X1_weigh : m_M := (yX1_weigh, cX1_weigh, 3, none, 4, 0, 0)
theorem mk_X1_weigh : m_MK M_X1_weigh 0 := ⟨m_ws_in (List.mem_append_right _ (List.mem_of_getElem? (i := 557) (by decide +kernel))) rfl, m_ws_in (List.mem_append_right _ (List.mem_of_getElem? (i := 2) (by decide +kernel))) rfl, by decide +kernel⟩
theorem in_X1_weigh : Cond.instanceMethod yX1_weigh ∈ m_ws := m_ws_in (List.mem_append_right _ (List.mem_of_getElem? (i := 556) (by decide +kernel))) rfl
theorem se_X1_weigh : Cond.selects RX1 yX1_weigh yX1_weigh ∈ m_ws := m_ws_in (List.mem_append_left _ (List.mem_of_getElem? (i := 9) (by decide +kernel))) rfl
abbrev M_X1_jog : m_M := (yX1_jog, cX1_jog, 1, none, 2, 0, 0)
theorem mk_X1_jog : m_MK M_X1_jog 0 := ⟨m_ws_in (List.mem_append_right _ (List.mem_of_getElem? (i := 572) (by decide +kernel))) rfl, m_ws_in (List.mem_append_right _ (List.mem_of_getElem? (i := 2) (by decide +kernel))) rfl, by decide +kernel⟩
theorem in_X1_jog : Cond.instanceMethod yX1_jog ∈ m_ws := m_ws_in (List.mem_append_right _ (List.mem_of_getElem? (i := 571) (by decide +kernel))) rfl
theorem se_X1_jog : Cond.selects RX1 yX1_jog yX1_jog ∈ m_ws := m_ws_in (List.mem_append_left _ (List.mem_of_getElem? (i := 10) (by decide +kernel))) rfl
abbrev M_X1_finishStep : m_M := (yX1_finishStep, cX1_finishStep, 1, none, 3, 0, 0)
theorem mk_X1_finishStep : m_MK M_X1_finishStep 0 := ⟨m_ws_in (List.mem_append_right _ (List.mem_of_getElem? (i := 422) (by decide +kernel))) rfl, m_ws_in (List.mem_append_right _ (List.mem_of_getElem? (i := 2) (by decide +kernel))) rfl, by decide +kernel⟩
theorem in_X1_finishStep : Cond.instanceMethod yX1_finishStep ∈ m_ws := m_ws_in (List.mem_append_right _ (List.mem_of_getElem? (i := 421) (by decide +kernel))) rfl
theorem se_X1_finishStep : Cond.selects RX1 yX1_finishStep yX1_finishStep ∈ m_ws := m_ws_in (List.mem_append_left _ (List.mem_of_getElem? (i := 2) (by decide +kernel))) rfl
abbrev M_X1_beginStep : m_M := (yX1_beginStep, cX1_beginStep, 2, none, 1, 0, 0)
theorem mk_X1_beginStep : m_MK M_X1_beginStep 1 := ⟨m_ws_in (List.mem_append_right _ (List.mem_of_getElem? (i := 463) (by decide +kernel))) rfl, m_ws_in (List.mem_append_right _ (List.mem_of_getElem? (i := 2) (by decide +kernel))) rfl, by decide +kernel⟩
theorem in_X1_beginStep : Cond.instanceMethod yX1_beginStep ∈ m_ws := m_ws_in (List.mem_append_right _ (List.mem_of_getElem? (i := 462) (by decide +kernel))) rfl
theorem se_X1_beginStep : Cond.selects RX1 yX1_beginStep yX1_beginStep ∈ m_ws := m_ws_in (List.mem_append_left _ (List.mem_of_getElem? (i := 5) (by decide +kernel))) rfl
abbrev M_X1_enter : m_M := (yX1_enter, cX1_enter, 2, none, 0, 0, 0)
theorem mk_X1_enter : m_MK M_X1_enter 1 := ⟨m_ws_in (List.mem_append_right _ (List.mem_of_getElem? (i := 395) (by decide +kernel))) rfl, m_ws_in (List.mem_append_right _ (List.mem_of_getElem? (i := 2) (by decide +kernel))) rfl, by decide +kernel⟩
theorem in_X1_enter : Cond.instanceMethod yX1_enter ∈ m_ws := m_ws_in (List.mem_append_right _ (List.mem_of_getElem? (i := 394) (by decide +kernel))) rfl
theorem se_X1_enter : Cond.selects RX1 yX1_enter yX1_enter ∈ m_ws := m_ws_in (List.mem_append_left _ (List.mem_of_getElem? (i := 1) (by decide +kernel))) rfl
abbrev M_X1_bookNet : m_M := (yX1_bookNet, cX1_bookNet, 4, (some .int), 2, 0, 0)
theorem mk_X1_bookNet : m_MK M_X1_bookNet 0 := ⟨m_ws_in (List.mem_append_right _ (List.mem_of_getElem? (i := 426) (by decide +kernel))) rfl, m_ws_in (List.mem_append_right _ (List.mem_of_getElem? (i := 2) (by decide +kernel))) rfl, by decide +kernel⟩
theorem in_X1_bookNet : Cond.instanceMethod yX1_bookNet ∈ m_ws := m_ws_in (List.mem_append_right _ (List.mem_of_getElem? (i := 425) (by decide +kernel))) rfl
theorem se_X1_bookNet : Cond.selects RX1 yX1_bookNet yX1_bookNet ∈ m_ws := m_ws_in (List.mem_append_left _ (List.mem_of_getElem? (i := 3) (by decide +kernel))) rfl
abbrev M_X1_stepBin : m_M := (yX1_stepBin, cX1_stepBin, 1, (some .int), 1, 0, 0)
theorem mk_X1_stepBin : m_MK M_X1_stepBin 0 := ⟨m_ws_in (List.mem_append_right _ (List.mem_of_getElem? (i := 441) (by decide +kernel))) rfl, m_ws_in (List.mem_append_right _ (List.mem_of_getElem? (i := 2) (by decide +kernel))) rfl, by decide +kernel⟩
theorem in_X1_stepBin : Cond.instanceMethod yX1_stepBin ∈ m_ws := m_ws_in (List.mem_append_right _ (List.mem_of_getElem? (i := 440) (by decide +kernel))) rfl
theorem se_X1_stepBin : Cond.selects RX1 yX1_stepBin yX1_stepBin ∈ m_ws := m_ws_in (List.mem_append_left _ (List.mem_of_getElem? (i := 4) (by decide +kernel))) rfl
abbrev M_X1_target : m_M := (yX1_target, cX1_target, 1, (some .int), 1, 0, 0)
theorem mk_X1_target : m_MK M_X1_target 0 := ⟨m_ws_in (List.mem_append_right _ (List.mem_of_getElem? (i := 548) (by decide +kernel))) rfl, m_ws_in (List.mem_append_right _ (List.mem_of_getElem? (i := 2) (by decide +kernel))) rfl, by decide +kernel⟩
theorem in_X1_target : Cond.instanceMethod yX1_target ∈ m_ws := m_ws_in (List.mem_append_right _ (List.mem_of_getElem? (i := 547) (by decide +kernel))) rfl
theorem se_X1_target : Cond.selects RX1 yX1_target yX1_target ∈ m_ws := m_ws_in (List.mem_append_left _ (List.mem_of_getElem? (i := 7) (by decide +kernel))) rfl
abbrev M_X2_init : m_M := (yX2_init, cX2_init, 1, none, 1, 4, 690)
theorem mk_X2_init : m_MK M_X2_init 0 := ⟨m_ws_in (List.mem_append_right _ (List.mem_of_getElem? (i := 104) (by decide +kernel))) rfl, m_ws_in (List.mem_append_right _ (List.mem_of_getElem? (i := 5) (by decide +kernel))) rfl, by decide +kernel⟩
theorem in_X2_init : Cond.instanceMethod yX2_init ∈ m_ws := m_ws_in (List.mem_append_right _ (List.mem_of_getElem? (i := 103) (by decide +kernel))) rfl
abbrev M_X2_store : m_M := (yX2_store, cX2_store, 4, (some .int), 1, 0, 0)
theorem mk_X2_store : m_MK M_X2_store 2 := ⟨m_ws_in (List.mem_append_right _ (List.mem_of_getElem? (i := 353) (by decide +kernel))) rfl, m_ws_in (List.mem_append_right _ (List.mem_of_getElem? (i := 5) (by decide +kernel))) rfl, by decide +kernel⟩
theorem in_X2_store : Cond.instanceMethod yX2_store ∈ m_ws := m_ws_in (List.mem_append_right _ (List.mem_of_getElem? (i := 351) (by decide +kernel))) rfl
theorem se_X2_store : Cond.selects RX2 yX2_store yX2_store ∈ m_ws := m_ws_in (List.mem_append_right _ (List.mem_of_getElem? (i := 352) (by decide +kernel))) rfl
abbrev M_X2_takeOut : m_M := (yX2_takeOut, cX2_takeOut, 7, (some .int), 1, 0, 0)
theorem mk_X2_takeOut : m_MK M_X2_takeOut 3 := ⟨m_ws_in (List.mem_append_right _ (List.mem_of_getElem? (i := 448) (by decide +kernel))) rfl, m_ws_in (List.mem_append_right _ (List.mem_of_getElem? (i := 5) (by decide +kernel))) rfl, by decide +kernel⟩
theorem in_X2_takeOut : Cond.instanceMethod yX2_takeOut ∈ m_ws := m_ws_in (List.mem_append_right _ (List.mem_of_getElem? (i := 446) (by decide +kernel))) rfl
theorem se_X2_takeOut : Cond.selects RX2 yX2_takeOut yX2_takeOut ∈ m_ws := m_ws_in (List.mem_append_right _ (List.mem_of_getElem? (i := 447) (by decide +kernel))) rfl
abbrev M_X2_leftIn : m_M := (yX2_leftIn, cX2_leftIn, 4, (some .int), 1, 0, 0)
theorem mk_X2_leftIn : m_MK M_X2_leftIn 1 := ⟨m_ws_in (List.mem_append_right _ (List.mem_of_getElem? (i := 649) (by decide +kernel))) rfl, m_ws_in (List.mem_append_right _ (List.mem_of_getElem? (i := 5) (by decide +kernel))) rfl, by decide +kernel⟩
theorem in_X2_leftIn : Cond.instanceMethod yX2_leftIn ∈ m_ws := m_ws_in (List.mem_append_right _ (List.mem_of_getElem? (i := 647) (by decide +kernel))) rfl
theorem se_X2_leftIn : Cond.selects RX2 yX2_leftIn yX2_leftIn ∈ m_ws := m_ws_in (List.mem_append_right _ (List.mem_of_getElem? (i := 648) (by decide +kernel))) rfl
abbrev M_X2_goneFrom : m_M := (yX2_goneFrom, cX2_goneFrom, 4, (some .int), 1, 0, 0)
theorem mk_X2_goneFrom : m_MK M_X2_goneFrom 1 := ⟨m_ws_in (List.mem_append_right _ (List.mem_of_getElem? (i := 641) (by decide +kernel))) rfl, m_ws_in (List.mem_append_right _ (List.mem_of_getElem? (i := 5) (by decide +kernel))) rfl, by decide +kernel⟩
theorem in_X2_goneFrom : Cond.instanceMethod yX2_goneFrom ∈ m_ws := m_ws_in (List.mem_append_right _ (List.mem_of_getElem? (i := 639) (by decide +kernel))) rfl
theorem se_X2_goneFrom : Cond.selects RX2 yX2_goneFrom yX2_goneFrom ∈ m_ws := m_ws_in (List.mem_append_right _ (List.mem_of_getElem? (i := 640) (by decide +kernel))) rfl
abbrev M_X2_usedFor : m_M := (yX2_usedFor, cX2_usedFor, 3, (some .int), 1, 0, 0)
theorem mk_X2_usedFor : m_MK M_X2_usedFor 2 := ⟨m_ws_in (List.mem_append_right _ (List.mem_of_getElem? (i := 670) (by decide +kernel))) rfl, m_ws_in (List.mem_append_right _ (List.mem_of_getElem? (i := 5) (by decide +kernel))) rfl, by decide +kernel⟩
theorem in_X2_usedFor : Cond.instanceMethod yX2_usedFor ∈ m_ws := m_ws_in (List.mem_append_right _ (List.mem_of_getElem? (i := 668) (by decide +kernel))) rfl
theorem se_X2_usedFor : Cond.selects RX2 yX2_usedFor yX2_usedFor ∈ m_ws := m_ws_in (List.mem_append_right _ (List.mem_of_getElem? (i := 669) (by decide +kernel))) rfl
abbrev M_X2_firstBatchOf : m_M := (yX2_firstBatchOf, cX2_firstBatchOf, 4, (some .int), 2, 0, 0)
theorem mk_X2_firstBatchOf : m_MK M_X2_firstBatchOf 2 := ⟨m_ws_in (List.mem_append_right _ (List.mem_of_getElem? (i := 666) (by decide +kernel))) rfl, m_ws_in (List.mem_append_right _ (List.mem_of_getElem? (i := 5) (by decide +kernel))) rfl, by decide +kernel⟩
theorem in_X2_firstBatchOf : Cond.instanceMethod yX2_firstBatchOf ∈ m_ws := m_ws_in (List.mem_append_right _ (List.mem_of_getElem? (i := 664) (by decide +kernel))) rfl
theorem se_X2_firstBatchOf : Cond.selects RX2 yX2_firstBatchOf yX2_firstBatchOf ∈ m_ws := m_ws_in (List.mem_append_right _ (List.mem_of_getElem? (i := 665) (by decide +kernel))) rfl
abbrev M_X2_place : m_M := (yX2_place, cX2_place, 2, (some .int), 0, 0, 0)
theorem mk_X2_place : m_MK M_X2_place 2 := ⟨m_ws_in (List.mem_append_right _ (List.mem_of_getElem? (i := 458) (by decide +kernel))) rfl, m_ws_in (List.mem_append_right _ (List.mem_of_getElem? (i := 5) (by decide +kernel))) rfl, by decide +kernel⟩
theorem st_X2_place : Cond.static yX2_place ∈ m_ws := m_ws_in (List.mem_append_right _ (List.mem_of_getElem? (i := 457) (by decide +kernel))) rfl
abbrev M_X3_init : m_M := (yX3_init, cX3_init, 1, none, 1, 3, 18)
theorem mk_X3_init : m_MK M_X3_init 0 := ⟨m_ws_in (List.mem_append_right _ (List.mem_of_getElem? (i := 128) (by decide +kernel))) rfl, m_ws_in (List.mem_append_right _ (List.mem_of_getElem? (i := 6) (by decide +kernel))) rfl, by decide +kernel⟩
theorem in_X3_init : Cond.instanceMethod yX3_init ∈ m_ws := m_ws_in (List.mem_append_right _ (List.mem_of_getElem? (i := 127) (by decide +kernel))) rfl
abbrev M_X3_append : m_M := (yX3_append, cX3_append, 4, none, 1, 0, 0)
theorem mk_X3_append : m_MK M_X3_append 3 := ⟨m_ws_in (List.mem_append_right _ (List.mem_of_getElem? (i := 364) (by decide +kernel))) rfl, m_ws_in (List.mem_append_right _ (List.mem_of_getElem? (i := 6) (by decide +kernel))) rfl, by decide +kernel⟩
theorem in_X3_append : Cond.instanceMethod yX3_append ∈ m_ws := m_ws_in (List.mem_append_right _ (List.mem_of_getElem? (i := 362) (by decide +kernel))) rfl
theorem se_X3_append : Cond.selects RX3 yX3_append yX3_append ∈ m_ws := m_ws_in (List.mem_append_right _ (List.mem_of_getElem? (i := 363) (by decide +kernel))) rfl
abbrev M_X4_init : m_M := (yX4_init, cX4_init, 1, none, 1, 0, 0)
theorem mk_X4_init : m_MK M_X4_init 0 := ⟨m_ws_in (List.mem_append_right _ (List.mem_of_getElem? (i := 41) (by decide +kernel))) rfl, m_ws_in (List.mem_append_right _ (List.mem_of_getElem? (i := 3) (by decide +kernel))) rfl, by decide +kernel⟩
theorem in_X4_init : Cond.instanceMethod yX4_init ∈ m_ws := m_ws_in (List.mem_append_right _ (List.mem_of_getElem? (i := 40) (by decide +kernel))) rfl
abbrev M_X4_take : m_M := (yX4_take, cX4_take, 2, none, 0, 0, 0)
theorem mk_X4_take : m_MK M_X4_take 1 := ⟨m_ws_in (List.mem_append_right _ (List.mem_of_getElem? (i := 532) (by decide +kernel))) rfl, m_ws_in (List.mem_append_right _ (List.mem_of_getElem? (i := 3) (by decide +kernel))) rfl, by decide +kernel⟩
theorem in_X4_take : Cond.instanceMethod yX4_take ∈ m_ws := m_ws_in (List.mem_append_right _ (List.mem_of_getElem? (i := 530) (by decide +kernel))) rfl
theorem se_X4_take : Cond.selects RX4 yX4_take yX4_take ∈ m_ws := m_ws_in (List.mem_append_right _ (List.mem_of_getElem? (i := 531) (by decide +kernel))) rfl
abbrev M_X4_isCalm : m_M := (yX4_isCalm, cX4_isCalm, 3, (some .boolean), 1, 0, 0)
theorem mk_X4_isCalm : m_MK M_X4_isCalm 0 := ⟨m_ws_in (List.mem_append_right _ (List.mem_of_getElem? (i := 488) (by decide +kernel))) rfl, m_ws_in (List.mem_append_right _ (List.mem_of_getElem? (i := 3) (by decide +kernel))) rfl, by decide +kernel⟩
theorem in_X4_isCalm : Cond.instanceMethod yX4_isCalm ∈ m_ws := m_ws_in (List.mem_append_right _ (List.mem_of_getElem? (i := 486) (by decide +kernel))) rfl
theorem se_X4_isCalm : Cond.selects RX4 yX4_isCalm yX4_isCalm ∈ m_ws := m_ws_in (List.mem_append_right _ (List.mem_of_getElem? (i := 487) (by decide +kernel))) rfl
abbrev M_X4_grossNow : m_M := (yX4_grossNow, cX4_grossNow, 1, (some .int), 0, 0, 0)
theorem mk_X4_grossNow : m_MK M_X4_grossNow 0 := ⟨m_ws_in (List.mem_append_right _ (List.mem_of_getElem? (i := 434) (by decide +kernel))) rfl, m_ws_in (List.mem_append_right _ (List.mem_of_getElem? (i := 3) (by decide +kernel))) rfl, by decide +kernel⟩
theorem in_X4_grossNow : Cond.instanceMethod yX4_grossNow ∈ m_ws := m_ws_in (List.mem_append_right _ (List.mem_of_getElem? (i := 432) (by decide +kernel))) rfl
theorem se_X4_grossNow : Cond.selects RX4 yX4_grossNow yX4_grossNow ∈ m_ws := m_ws_in (List.mem_append_right _ (List.mem_of_getElem? (i := 433) (by decide +kernel))) rfl
abbrev M_X4_netNow : m_M := (yX4_netNow, cX4_netNow, 1, (some .int), 1, 0, 0)
theorem mk_X4_netNow : m_MK M_X4_netNow 0 := ⟨m_ws_in (List.mem_append_right _ (List.mem_of_getElem? (i := 430) (by decide +kernel))) rfl, m_ws_in (List.mem_append_right _ (List.mem_of_getElem? (i := 3) (by decide +kernel))) rfl, by decide +kernel⟩
theorem in_X4_netNow : Cond.instanceMethod yX4_netNow ∈ m_ws := m_ws_in (List.mem_append_right _ (List.mem_of_getElem? (i := 428) (by decide +kernel))) rfl
theorem se_X4_netNow : Cond.selects RX4 yX4_netNow yX4_netNow ∈ m_ws := m_ws_in (List.mem_append_right _ (List.mem_of_getElem? (i := 429) (by decide +kernel))) rfl
abbrev M_X4_trackZero : m_M := (yX4_trackZero, cX4_trackZero, 3, none, 2, 0, 0)
theorem mk_X4_trackZero : m_MK M_X4_trackZero 0 := ⟨m_ws_in (List.mem_append_right _ (List.mem_of_getElem? (i := 536) (by decide +kernel))) rfl, m_ws_in (List.mem_append_right _ (List.mem_of_getElem? (i := 3) (by decide +kernel))) rfl, by decide +kernel⟩
theorem in_X4_trackZero : Cond.instanceMethod yX4_trackZero ∈ m_ws := m_ws_in (List.mem_append_right _ (List.mem_of_getElem? (i := 534) (by decide +kernel))) rfl
theorem se_X4_trackZero : Cond.selects RX4 yX4_trackZero yX4_trackZero ∈ m_ws := m_ws_in (List.mem_append_right _ (List.mem_of_getElem? (i := 535) (by decide +kernel))) rfl
abbrev M_X5_init : m_M := (yX5_init, cX5_init, 1, none, 3, 16, 761)
theorem mk_X5_init : m_MK M_X5_init 0 := ⟨m_ws_in (List.mem_append_right _ (List.mem_of_getElem? (i := 27) (by decide +kernel))) rfl, m_ws_in (List.mem_append_right _ (List.mem_of_getElem? (i := 1) (by decide +kernel))) rfl, by decide +kernel⟩
theorem in_X5_init : Cond.instanceMethod yX5_init ∈ m_ws := m_ws_in (List.mem_append_right _ (List.mem_of_getElem? (i := 26) (by decide +kernel))) rfl
abbrev M_X5_tick : m_M := (yX5_tick, cX5_tick, 2, (some .int), 8, 0, 0)
theorem mk_X5_tick : m_MK M_X5_tick 1 := ⟨m_ws_in (List.mem_append_right _ (List.mem_of_getElem? (i := 521) (by decide +kernel))) rfl, m_ws_in (List.mem_append_right _ (List.mem_of_getElem? (i := 1) (by decide +kernel))) rfl, by decide +kernel⟩
abbrev Mx_X5_tick : m_M := (yX5_tick, cX5_tick, 2, (some .int), 8, 1, 6)
theorem mkx_X5_tick : m_MK Mx_X5_tick 1 := mk_X5_tick
theorem in_X5_tick : Cond.instanceMethod yX5_tick ∈ m_ws := m_ws_in (List.mem_append_right _ (List.mem_of_getElem? (i := 519) (by decide +kernel))) rfl
theorem se_X5_tick : Cond.selects RX5 yX5_tick yX5_tick ∈ m_ws := m_ws_in (List.mem_append_right _ (List.mem_of_getElem? (i := 520) (by decide +kernel))) rfl
abbrev M_X5_ticks : m_M := (yX5_ticks, cX5_ticks, 4, (some .int), 8, 0, 0)
theorem mk_X5_ticks : m_MK M_X5_ticks 2 := ⟨m_ws_in (List.mem_append_right _ (List.mem_of_getElem? (i := 576) (by decide +kernel))) rfl, m_ws_in (List.mem_append_right _ (List.mem_of_getElem? (i := 1) (by decide +kernel))) rfl, by decide +kernel⟩
abbrev Mx_X5_ticks : m_M := (yX5_ticks, cX5_ticks, 4, (some .int), 8, 1, 6)
theorem mkx_X5_ticks : m_MK Mx_X5_ticks 2 := mk_X5_ticks
theorem in_X5_ticks : Cond.instanceMethod yX5_ticks ∈ m_ws := m_ws_in (List.mem_append_right _ (List.mem_of_getElem? (i := 574) (by decide +kernel))) rfl
theorem se_X5_ticks : Cond.selects RX5 yX5_ticks yX5_ticks ∈ m_ws := m_ws_in (List.mem_append_right _ (List.mem_of_getElem? (i := 575) (by decide +kernel))) rfl
abbrev M_X5_zero : m_M := (yX5_zero, cX5_zero, 2, (some .int), 7, 0, 0)
theorem mk_X5_zero : m_MK M_X5_zero 0 := ⟨m_ws_in (List.mem_append_right _ (List.mem_of_getElem? (i := 484) (by decide +kernel))) rfl, m_ws_in (List.mem_append_right _ (List.mem_of_getElem? (i := 1) (by decide +kernel))) rfl, by decide +kernel⟩
abbrev Mx_X5_zero : m_M := (yX5_zero, cX5_zero, 2, (some .int), 7, 1, 6)
theorem mkx_X5_zero : m_MK Mx_X5_zero 0 := mk_X5_zero
theorem in_X5_zero : Cond.instanceMethod yX5_zero ∈ m_ws := m_ws_in (List.mem_append_right _ (List.mem_of_getElem? (i := 482) (by decide +kernel))) rfl
theorem se_X5_zero : Cond.selects RX5 yX5_zero yX5_zero ∈ m_ws := m_ws_in (List.mem_append_right _ (List.mem_of_getElem? (i := 483) (by decide +kernel))) rfl
abbrev M_X5_setBand : m_M := (yX5_setBand, cX5_setBand, 3, (some .int), 7, 0, 0)
theorem mk_X5_setBand : m_MK M_X5_setBand 1 := ⟨m_ws_in (List.mem_append_right _ (List.mem_of_getElem? (i := 494) (by decide +kernel))) rfl, m_ws_in (List.mem_append_right _ (List.mem_of_getElem? (i := 1) (by decide +kernel))) rfl, by decide +kernel⟩
abbrev Mx_X5_setBand : m_M := (yX5_setBand, cX5_setBand, 3, (some .int), 7, 1, 6)
theorem mkx_X5_setBand : m_MK Mx_X5_setBand 1 := mk_X5_setBand
theorem in_X5_setBand : Cond.instanceMethod yX5_setBand ∈ m_ws := m_ws_in (List.mem_append_right _ (List.mem_of_getElem? (i := 492) (by decide +kernel))) rfl
theorem se_X5_setBand : Cond.selects RX5 yX5_setBand yX5_setBand ∈ m_ws := m_ws_in (List.mem_append_right _ (List.mem_of_getElem? (i := 493) (by decide +kernel))) rfl
abbrev M_X5_gross : m_M := (yX5_gross, cX5_gross, 1, (some .int), 1, 0, 0)
theorem mk_X5_gross : m_MK M_X5_gross 0 := ⟨m_ws_in (List.mem_append_right _ (List.mem_of_getElem? (i := 583) (by decide +kernel))) rfl, m_ws_in (List.mem_append_right _ (List.mem_of_getElem? (i := 1) (by decide +kernel))) rfl, by decide +kernel⟩
theorem in_X5_gross : Cond.instanceMethod yX5_gross ∈ m_ws := m_ws_in (List.mem_append_right _ (List.mem_of_getElem? (i := 581) (by decide +kernel))) rfl
theorem se_X5_gross : Cond.selects RX5 yX5_gross yX5_gross ∈ m_ws := m_ws_in (List.mem_append_right _ (List.mem_of_getElem? (i := 582) (by decide +kernel))) rfl
abbrev M_X5_net : m_M := (yX5_net, cX5_net, 1, (some .int), 2, 0, 0)
theorem mk_X5_net : m_MK M_X5_net 0 := ⟨m_ws_in (List.mem_append_right _ (List.mem_of_getElem? (i := 588) (by decide +kernel))) rfl, m_ws_in (List.mem_append_right _ (List.mem_of_getElem? (i := 1) (by decide +kernel))) rfl, by decide +kernel⟩
theorem in_X5_net : Cond.instanceMethod yX5_net ∈ m_ws := m_ws_in (List.mem_append_right _ (List.mem_of_getElem? (i := 586) (by decide +kernel))) rfl
theorem se_X5_net : Cond.selects RX5 yX5_net yX5_net ∈ m_ws := m_ws_in (List.mem_append_right _ (List.mem_of_getElem? (i := 587) (by decide +kernel))) rfl
abbrev M_X5_isSettled : m_M := (yX5_isSettled, cX5_isSettled, 1, (some .boolean), 2, 0, 0)
theorem mk_X5_isSettled : m_MK M_X5_isSettled 0 := ⟨m_ws_in (List.mem_append_right _ (List.mem_of_getElem? (i := 593) (by decide +kernel))) rfl, m_ws_in (List.mem_append_right _ (List.mem_of_getElem? (i := 1) (by decide +kernel))) rfl, by decide +kernel⟩
theorem in_X5_isSettled : Cond.instanceMethod yX5_isSettled ∈ m_ws := m_ws_in (List.mem_append_right _ (List.mem_of_getElem? (i := 591) (by decide +kernel))) rfl
theorem se_X5_isSettled : Cond.selects RX5 yX5_isSettled yX5_isSettled ∈ m_ws := m_ws_in (List.mem_append_right _ (List.mem_of_getElem? (i := 592) (by decide +kernel))) rfl
abbrev M_X5_fill : m_M := (yX5_fill, cX5_fill, 3, (some .int), 7, 0, 0)
theorem mk_X5_fill : m_MK M_X5_fill 2 := ⟨m_ws_in (List.mem_append_right _ (List.mem_of_getElem? (i := 236) (by decide +kernel))) rfl, m_ws_in (List.mem_append_right _ (List.mem_of_getElem? (i := 1) (by decide +kernel))) rfl, by decide +kernel⟩
abbrev Mx_X5_fill : m_M := (yX5_fill, cX5_fill, 3, (some .int), 7, 1, 6)
theorem mkx_X5_fill : m_MK Mx_X5_fill 2 := mk_X5_fill
theorem in_X5_fill : Cond.instanceMethod yX5_fill ∈ m_ws := m_ws_in (List.mem_append_right _ (List.mem_of_getElem? (i := 234) (by decide +kernel))) rfl
theorem se_X5_fill : Cond.selects RX5 yX5_fill yX5_fill ∈ m_ws := m_ws_in (List.mem_append_right _ (List.mem_of_getElem? (i := 235) (by decide +kernel))) rfl
abbrev M_X5_setMargin : m_M := (yX5_setMargin, cX5_setMargin, 4, (some .int), 7, 0, 0)
theorem mk_X5_setMargin : m_MK M_X5_setMargin 2 := ⟨m_ws_in (List.mem_append_right _ (List.mem_of_getElem? (i := 498) (by decide +kernel))) rfl, m_ws_in (List.mem_append_right _ (List.mem_of_getElem? (i := 1) (by decide +kernel))) rfl, by decide +kernel⟩
abbrev Mx_X5_setMargin : m_M := (yX5_setMargin, cX5_setMargin, 4, (some .int), 7, 1, 6)
theorem mkx_X5_setMargin : m_MK Mx_X5_setMargin 2 := mk_X5_setMargin
theorem in_X5_setMargin : Cond.instanceMethod yX5_setMargin ∈ m_ws := m_ws_in (List.mem_append_right _ (List.mem_of_getElem? (i := 496) (by decide +kernel))) rfl
theorem se_X5_setMargin : Cond.selects RX5 yX5_setMargin yX5_setMargin ∈ m_ws := m_ws_in (List.mem_append_right _ (List.mem_of_getElem? (i := 497) (by decide +kernel))) rfl
abbrev M_X5_flight : m_M := (yX5_flight, cX5_flight, 2, (some .int), 7, 0, 0)
theorem mk_X5_flight : m_MK M_X5_flight 1 := ⟨m_ws_in (List.mem_append_right _ (List.mem_of_getElem? (i := 629) (by decide +kernel))) rfl, m_ws_in (List.mem_append_right _ (List.mem_of_getElem? (i := 1) (by decide +kernel))) rfl, by decide +kernel⟩
abbrev Mx_X5_flight : m_M := (yX5_flight, cX5_flight, 2, (some .int), 7, 1, 6)
theorem mkx_X5_flight : m_MK Mx_X5_flight 1 := mk_X5_flight
theorem in_X5_flight : Cond.instanceMethod yX5_flight ∈ m_ws := m_ws_in (List.mem_append_right _ (List.mem_of_getElem? (i := 627) (by decide +kernel))) rfl
theorem se_X5_flight : Cond.selects RX5 yX5_flight yX5_flight ∈ m_ws := m_ws_in (List.mem_append_right _ (List.mem_of_getElem? (i := 628) (by decide +kernel))) rfl
abbrev M_X5_gate : m_M := (yX5_gate, cX5_gate, 2, (some .int), 7, 0, 0)
theorem mk_X5_gate : m_MK M_X5_gate 1 := ⟨m_ws_in (List.mem_append_right _ (List.mem_of_getElem? (i := 621) (by decide +kernel))) rfl, m_ws_in (List.mem_append_right _ (List.mem_of_getElem? (i := 1) (by decide +kernel))) rfl, by decide +kernel⟩
abbrev Mx_X5_gate : m_M := (yX5_gate, cX5_gate, 2, (some .int), 7, 1, 6)
theorem mkx_X5_gate : m_MK Mx_X5_gate 1 := mk_X5_gate
theorem in_X5_gate : Cond.instanceMethod yX5_gate ∈ m_ws := m_ws_in (List.mem_append_right _ (List.mem_of_getElem? (i := 619) (by decide +kernel))) rfl
theorem se_X5_gate : Cond.selects RX5 yX5_gate yX5_gate ∈ m_ws := m_ws_in (List.mem_append_right _ (List.mem_of_getElem? (i := 620) (by decide +kernel))) rfl
abbrev M_X5_stock : m_M := (yX5_stock, cX5_stock, 2, (some .int), 7, 0, 0)
theorem mk_X5_stock : m_MK M_X5_stock 1 := ⟨m_ws_in (List.mem_append_right _ (List.mem_of_getElem? (i := 645) (by decide +kernel))) rfl, m_ws_in (List.mem_append_right _ (List.mem_of_getElem? (i := 1) (by decide +kernel))) rfl, by decide +kernel⟩
abbrev Mx_X5_stock : m_M := (yX5_stock, cX5_stock, 2, (some .int), 7, 1, 6)
theorem mkx_X5_stock : m_MK Mx_X5_stock 1 := mk_X5_stock
theorem in_X5_stock : Cond.instanceMethod yX5_stock ∈ m_ws := m_ws_in (List.mem_append_right _ (List.mem_of_getElem? (i := 643) (by decide +kernel))) rfl
theorem se_X5_stock : Cond.selects RX5 yX5_stock yX5_stock ∈ m_ws := m_ws_in (List.mem_append_right _ (List.mem_of_getElem? (i := 644) (by decide +kernel))) rfl
abbrev M_X5_register : m_M := (yX5_register, cX5_register, 2, (some .int), 7, 0, 0)
theorem mk_X5_register : m_MK M_X5_register 1 := ⟨m_ws_in (List.mem_append_right _ (List.mem_of_getElem? (i := 633) (by decide +kernel))) rfl, m_ws_in (List.mem_append_right _ (List.mem_of_getElem? (i := 1) (by decide +kernel))) rfl, by decide +kernel⟩
abbrev Mx_X5_register : m_M := (yX5_register, cX5_register, 2, (some .int), 7, 1, 6)
theorem mkx_X5_register : m_MK Mx_X5_register 1 := mk_X5_register
theorem in_X5_register : Cond.instanceMethod yX5_register ∈ m_ws := m_ws_in (List.mem_append_right _ (List.mem_of_getElem? (i := 631) (by decide +kernel))) rfl
theorem se_X5_register : Cond.selects RX5 yX5_register yX5_register ∈ m_ws := m_ws_in (List.mem_append_right _ (List.mem_of_getElem? (i := 632) (by decide +kernel))) rfl
abbrev M_X5_registerByLots : m_M := (yX5_registerByLots, cX5_registerByLots, 2, (some .int), 7, 0, 0)
theorem mk_X5_registerByLots : m_MK M_X5_registerByLots 1 := ⟨m_ws_in (List.mem_append_right _ (List.mem_of_getElem? (i := 637) (by decide +kernel))) rfl, m_ws_in (List.mem_append_right _ (List.mem_of_getElem? (i := 1) (by decide +kernel))) rfl, by decide +kernel⟩
abbrev Mx_X5_registerByLots : m_M := (yX5_registerByLots, cX5_registerByLots, 2, (some .int), 7, 1, 6)
theorem mkx_X5_registerByLots : m_MK Mx_X5_registerByLots 1 := mk_X5_registerByLots
theorem in_X5_registerByLots : Cond.instanceMethod yX5_registerByLots ∈ m_ws := m_ws_in (List.mem_append_right _ (List.mem_of_getElem? (i := 635) (by decide +kernel))) rfl
theorem se_X5_registerByLots : Cond.selects RX5 yX5_registerByLots yX5_registerByLots ∈ m_ws := m_ws_in (List.mem_append_right _ (List.mem_of_getElem? (i := 636) (by decide +kernel))) rfl
abbrev M_X5_leftOf : m_M := (yX5_leftOf, cX5_leftOf, 2, (some .int), 7, 0, 0)
theorem mk_X5_leftOf : m_MK M_X5_leftOf 1 := ⟨m_ws_in (List.mem_append_right _ (List.mem_of_getElem? (i := 653) (by decide +kernel))) rfl, m_ws_in (List.mem_append_right _ (List.mem_of_getElem? (i := 1) (by decide +kernel))) rfl, by decide +kernel⟩
abbrev Mx_X5_leftOf : m_M := (yX5_leftOf, cX5_leftOf, 2, (some .int), 7, 1, 6)
theorem mkx_X5_leftOf : m_MK Mx_X5_leftOf 1 := mk_X5_leftOf
theorem in_X5_leftOf : Cond.instanceMethod yX5_leftOf ∈ m_ws := m_ws_in (List.mem_append_right _ (List.mem_of_getElem? (i := 651) (by decide +kernel))) rfl
theorem se_X5_leftOf : Cond.selects RX5 yX5_leftOf yX5_leftOf ∈ m_ws := m_ws_in (List.mem_append_right _ (List.mem_of_getElem? (i := 652) (by decide +kernel))) rfl
abbrev M_X5_firstBatch : m_M := (yX5_firstBatch, cX5_firstBatch, 2, (some .int), 7, 0, 0)
theorem mk_X5_firstBatch : m_MK M_X5_firstBatch 1 := ⟨m_ws_in (List.mem_append_right _ (List.mem_of_getElem? (i := 662) (by decide +kernel))) rfl, m_ws_in (List.mem_append_right _ (List.mem_of_getElem? (i := 1) (by decide +kernel))) rfl, by decide +kernel⟩
abbrev Mx_X5_firstBatch : m_M := (yX5_firstBatch, cX5_firstBatch, 2, (some .int), 7, 1, 6)
theorem mkx_X5_firstBatch : m_MK Mx_X5_firstBatch 1 := mk_X5_firstBatch
theorem in_X5_firstBatch : Cond.instanceMethod yX5_firstBatch ∈ m_ws := m_ws_in (List.mem_append_right _ (List.mem_of_getElem? (i := 660) (by decide +kernel))) rfl
theorem se_X5_firstBatch : Cond.selects RX5 yX5_firstBatch yX5_firstBatch ∈ m_ws := m_ws_in (List.mem_append_right _ (List.mem_of_getElem? (i := 661) (by decide +kernel))) rfl
abbrev M_X5_used : m_M := (yX5_used, cX5_used, 3, (some .int), 7, 0, 0)
theorem mk_X5_used : m_MK M_X5_used 2 := ⟨m_ws_in (List.mem_append_right _ (List.mem_of_getElem? (i := 674) (by decide +kernel))) rfl, m_ws_in (List.mem_append_right _ (List.mem_of_getElem? (i := 1) (by decide +kernel))) rfl, by decide +kernel⟩
abbrev Mx_X5_used : m_M := (yX5_used, cX5_used, 3, (some .int), 7, 1, 6)
theorem mkx_X5_used : m_MK Mx_X5_used 2 := mk_X5_used
theorem in_X5_used : Cond.instanceMethod yX5_used ∈ m_ws := m_ws_in (List.mem_append_right _ (List.mem_of_getElem? (i := 672) (by decide +kernel))) rfl
theorem se_X5_used : Cond.selects RX5 yX5_used yX5_used ∈ m_ws := m_ws_in (List.mem_append_right _ (List.mem_of_getElem? (i := 673) (by decide +kernel))) rfl
abbrev M_X5_addStep : m_M := (yX5_addStep, cX5_addStep, 4, (some .int), 7, 0, 0)
theorem mk_X5_addStep : m_MK M_X5_addStep 3 := ⟨m_ws_in (List.mem_append_right _ (List.mem_of_getElem? (i := 360) (by decide +kernel))) rfl, m_ws_in (List.mem_append_right _ (List.mem_of_getElem? (i := 1) (by decide +kernel))) rfl, by decide +kernel⟩
abbrev Mx_X5_addStep : m_M := (yX5_addStep, cX5_addStep, 4, (some .int), 7, 1, 6)
theorem mkx_X5_addStep : m_MK Mx_X5_addStep 3 := mk_X5_addStep
theorem in_X5_addStep : Cond.instanceMethod yX5_addStep ∈ m_ws := m_ws_in (List.mem_append_right _ (List.mem_of_getElem? (i := 358) (by decide +kernel))) rfl
theorem se_X5_addStep : Cond.selects RX5 yX5_addStep yX5_addStep ∈ m_ws := m_ws_in (List.mem_append_right _ (List.mem_of_getElem? (i := 359) (by decide +kernel))) rfl
abbrev M_X5_start : m_M := (yX5_start, cX5_start, 1, (some .int), 7, 0, 0)
theorem mk_X5_start : m_MK M_X5_start 0 := ⟨m_ws_in (List.mem_append_right _ (List.mem_of_getElem? (i := 507) (by decide +kernel))) rfl, m_ws_in (List.mem_append_right _ (List.mem_of_getElem? (i := 1) (by decide +kernel))) rfl, by decide +kernel⟩
abbrev Mx_X5_start : m_M := (yX5_start, cX5_start, 1, (some .int), 7, 1, 6)
theorem mkx_X5_start : m_MK Mx_X5_start 0 := mk_X5_start
theorem in_X5_start : Cond.instanceMethod yX5_start ∈ m_ws := m_ws_in (List.mem_append_right _ (List.mem_of_getElem? (i := 505) (by decide +kernel))) rfl
theorem se_X5_start : Cond.selects RX5 yX5_start yX5_start ∈ m_ws := m_ws_in (List.mem_append_right _ (List.mem_of_getElem? (i := 506) (by decide +kernel))) rfl
abbrev M_X5_hold : m_M := (yX5_hold, cX5_hold, 1, (some .int), 7, 0, 0)
theorem mk_X5_hold : m_MK M_X5_hold 0 := ⟨m_ws_in (List.mem_append_right _ (List.mem_of_getElem? (i := 387) (by decide +kernel))) rfl, m_ws_in (List.mem_append_right _ (List.mem_of_getElem? (i := 1) (by decide +kernel))) rfl, by decide +kernel⟩
abbrev Mx_X5_hold : m_M := (yX5_hold, cX5_hold, 1, (some .int), 7, 1, 6)
theorem mkx_X5_hold : m_MK Mx_X5_hold 0 := mk_X5_hold
theorem in_X5_hold : Cond.instanceMethod yX5_hold ∈ m_ws := m_ws_in (List.mem_append_right _ (List.mem_of_getElem? (i := 385) (by decide +kernel))) rfl
theorem se_X5_hold : Cond.selects RX5 yX5_hold yX5_hold ∈ m_ws := m_ws_in (List.mem_append_right _ (List.mem_of_getElem? (i := 386) (by decide +kernel))) rfl
abbrev M_X5_resume : m_M := (yX5_resume, cX5_resume, 1, (some .int), 7, 0, 0)
theorem mk_X5_resume : m_MK M_X5_resume 0 := ⟨m_ws_in (List.mem_append_right _ (List.mem_of_getElem? (i := 414) (by decide +kernel))) rfl, m_ws_in (List.mem_append_right _ (List.mem_of_getElem? (i := 1) (by decide +kernel))) rfl, by decide +kernel⟩
abbrev Mx_X5_resume : m_M := (yX5_resume, cX5_resume, 1, (some .int), 7, 1, 6)
theorem mkx_X5_resume : m_MK Mx_X5_resume 0 := mk_X5_resume
theorem in_X5_resume : Cond.instanceMethod yX5_resume ∈ m_ws := m_ws_in (List.mem_append_right _ (List.mem_of_getElem? (i := 412) (by decide +kernel))) rfl
theorem se_X5_resume : Cond.selects RX5 yX5_resume yX5_resume ∈ m_ws := m_ws_in (List.mem_append_right _ (List.mem_of_getElem? (i := 413) (by decide +kernel))) rfl
abbrev M_X5_abort : m_M := (yX5_abort, cX5_abort, 1, (some .int), 7, 0, 0)
theorem mk_X5_abort : m_MK M_X5_abort 0 := ⟨m_ws_in (List.mem_append_right _ (List.mem_of_getElem? (i := 470) (by decide +kernel))) rfl, m_ws_in (List.mem_append_right _ (List.mem_of_getElem? (i := 1) (by decide +kernel))) rfl, by decide +kernel⟩
abbrev Mx_X5_abort : m_M := (yX5_abort, cX5_abort, 1, (some .int), 7, 1, 6)
theorem mkx_X5_abort : m_MK Mx_X5_abort 0 := mk_X5_abort
theorem in_X5_abort : Cond.instanceMethod yX5_abort ∈ m_ws := m_ws_in (List.mem_append_right _ (List.mem_of_getElem? (i := 468) (by decide +kernel))) rfl
theorem se_X5_abort : Cond.selects RX5 yX5_abort yX5_abort ∈ m_ws := m_ws_in (List.mem_append_right _ (List.mem_of_getElem? (i := 469) (by decide +kernel))) rfl
abbrev M_X5_state : m_M := (yX5_state, cX5_state, 1, (some .int), 0, 0, 0)
theorem mk_X5_state : m_MK M_X5_state 0 := ⟨m_ws_in (List.mem_append_right _ (List.mem_of_getElem? (i := 597) (by decide +kernel))) rfl, m_ws_in (List.mem_append_right _ (List.mem_of_getElem? (i := 1) (by decide +kernel))) rfl, by decide +kernel⟩
theorem in_X5_state : Cond.instanceMethod yX5_state ∈ m_ws := m_ws_in (List.mem_append_right _ (List.mem_of_getElem? (i := 595) (by decide +kernel))) rfl
theorem se_X5_state : Cond.selects RX5 yX5_state yX5_state ∈ m_ws := m_ws_in (List.mem_append_right _ (List.mem_of_getElem? (i := 596) (by decide +kernel))) rfl
abbrev M_X5_alarm : m_M := (yX5_alarm, cX5_alarm, 1, (some .int), 0, 0, 0)
theorem mk_X5_alarm : m_MK M_X5_alarm 0 := ⟨m_ws_in (List.mem_append_right _ (List.mem_of_getElem? (i := 601) (by decide +kernel))) rfl, m_ws_in (List.mem_append_right _ (List.mem_of_getElem? (i := 1) (by decide +kernel))) rfl, by decide +kernel⟩
theorem in_X5_alarm : Cond.instanceMethod yX5_alarm ∈ m_ws := m_ws_in (List.mem_append_right _ (List.mem_of_getElem? (i := 599) (by decide +kernel))) rfl
theorem se_X5_alarm : Cond.selects RX5 yX5_alarm yX5_alarm ∈ m_ws := m_ws_in (List.mem_append_right _ (List.mem_of_getElem? (i := 600) (by decide +kernel))) rfl
abbrev M_X5_step : m_M := (yX5_step, cX5_step, 1, (some .int), 0, 0, 0)
theorem mk_X5_step : m_MK M_X5_step 0 := ⟨m_ws_in (List.mem_append_right _ (List.mem_of_getElem? (i := 605) (by decide +kernel))) rfl, m_ws_in (List.mem_append_right _ (List.mem_of_getElem? (i := 1) (by decide +kernel))) rfl, by decide +kernel⟩
theorem in_X5_step : Cond.instanceMethod yX5_step ∈ m_ws := m_ws_in (List.mem_append_right _ (List.mem_of_getElem? (i := 603) (by decide +kernel))) rfl
theorem se_X5_step : Cond.selects RX5 yX5_step yX5_step ∈ m_ws := m_ws_in (List.mem_append_right _ (List.mem_of_getElem? (i := 604) (by decide +kernel))) rfl
abbrev M_X5_jogs : m_M := (yX5_jogs, cX5_jogs, 1, (some .int), 0, 0, 0)
theorem mk_X5_jogs : m_MK M_X5_jogs 0 := ⟨m_ws_in (List.mem_append_right _ (List.mem_of_getElem? (i := 609) (by decide +kernel))) rfl, m_ws_in (List.mem_append_right _ (List.mem_of_getElem? (i := 1) (by decide +kernel))) rfl, by decide +kernel⟩
theorem in_X5_jogs : Cond.instanceMethod yX5_jogs ∈ m_ws := m_ws_in (List.mem_append_right _ (List.mem_of_getElem? (i := 607) (by decide +kernel))) rfl
theorem se_X5_jogs : Cond.selects RX5 yX5_jogs yX5_jogs ∈ m_ws := m_ws_in (List.mem_append_right _ (List.mem_of_getElem? (i := 608) (by decide +kernel))) rfl
abbrev M_X5_batches : m_M := (yX5_batches, cX5_batches, 1, (some .int), 0, 0, 0)
theorem mk_X5_batches : m_MK M_X5_batches 0 := ⟨m_ws_in (List.mem_append_right _ (List.mem_of_getElem? (i := 613) (by decide +kernel))) rfl, m_ws_in (List.mem_append_right _ (List.mem_of_getElem? (i := 1) (by decide +kernel))) rfl, by decide +kernel⟩
theorem in_X5_batches : Cond.instanceMethod yX5_batches ∈ m_ws := m_ws_in (List.mem_append_right _ (List.mem_of_getElem? (i := 611) (by decide +kernel))) rfl
theorem se_X5_batches : Cond.selects RX5 yX5_batches yX5_batches ∈ m_ws := m_ws_in (List.mem_append_right _ (List.mem_of_getElem? (i := 612) (by decide +kernel))) rfl
abbrev M_X5_done : m_M := (yX5_done, cX5_done, 1, (some .int), 0, 0, 0)
theorem mk_X5_done : m_MK M_X5_done 0 := ⟨m_ws_in (List.mem_append_right _ (List.mem_of_getElem? (i := 617) (by decide +kernel))) rfl, m_ws_in (List.mem_append_right _ (List.mem_of_getElem? (i := 1) (by decide +kernel))) rfl, by decide +kernel⟩
theorem in_X5_done : Cond.instanceMethod yX5_done ∈ m_ws := m_ws_in (List.mem_append_right _ (List.mem_of_getElem? (i := 615) (by decide +kernel))) rfl
theorem se_X5_done : Cond.selects RX5 yX5_done yX5_done ∈ m_ws := m_ws_in (List.mem_append_right _ (List.mem_of_getElem? (i := 616) (by decide +kernel))) rfl
abbrev M_X5_belt : m_M := (yX5_belt, cX5_belt, 4, (some .long), 7, 0, 0)
theorem mk_X5_belt : m_MK M_X5_belt 3 := ⟨m_ws_in (List.mem_append_right _ (List.mem_of_getElem? (i := 369) (by decide +kernel))) rfl, m_ws_in (List.mem_append_right _ (List.mem_of_getElem? (i := 1) (by decide +kernel))) rfl, by decide +kernel⟩
abbrev Mx_X5_belt : m_M := (yX5_belt, cX5_belt, 4, (some .long), 7, 1, 6)
theorem mkx_X5_belt : m_MK Mx_X5_belt 3 := mk_X5_belt
theorem in_X5_belt : Cond.instanceMethod yX5_belt ∈ m_ws := m_ws_in (List.mem_append_right _ (List.mem_of_getElem? (i := 367) (by decide +kernel))) rfl
theorem se_X5_belt : Cond.selects RX5 yX5_belt yX5_belt ∈ m_ws := m_ws_in (List.mem_append_right _ (List.mem_of_getElem? (i := 368) (by decide +kernel))) rfl
abbrev M_X5_needLot : m_M := (yX5_needLot, cX5_needLot, 2, none, 6, 0, 0)
theorem mk_X5_needLot : m_MK M_X5_needLot 1 := ⟨m_ws_in (List.mem_append_right _ (List.mem_of_getElem? (i := 657) (by decide +kernel))) rfl, m_ws_in (List.mem_append_right _ (List.mem_of_getElem? (i := 1) (by decide +kernel))) rfl, by decide +kernel⟩
abbrev Mx_X5_needLot : m_M := (yX5_needLot, cX5_needLot, 2, none, 6, 1, 6)
theorem mkx_X5_needLot : m_MK Mx_X5_needLot 1 := mk_X5_needLot
theorem in_X5_needLot : Cond.instanceMethod yX5_needLot ∈ m_ws := m_ws_in (List.mem_append_right _ (List.mem_of_getElem? (i := 656) (by decide +kernel))) rfl
theorem se_X5_needLot : Cond.selects RX5 yX5_needLot yX5_needLot ∈ m_ws := m_ws_in (List.mem_append_left _ (List.mem_of_getElem? (i := 11) (by decide +kernel))) rfl
abbrev M_X5_needBatch : m_M := (yX5_needBatch, cX5_needBatch, 2, none, 6, 0, 0)
theorem mk_X5_needBatch : m_MK M_X5_needBatch 1 := ⟨m_ws_in (List.mem_append_right _ (List.mem_of_getElem? (i := 678) (by decide +kernel))) rfl, m_ws_in (List.mem_append_right _ (List.mem_of_getElem? (i := 1) (by decide +kernel))) rfl, by decide +kernel⟩
abbrev Mx_X5_needBatch : m_M := (yX5_needBatch, cX5_needBatch, 2, none, 6, 1, 6)
theorem mkx_X5_needBatch : m_MK Mx_X5_needBatch 1 := mk_X5_needBatch
theorem in_X5_needBatch : Cond.instanceMethod yX5_needBatch ∈ m_ws := m_ws_in (List.mem_append_right _ (List.mem_of_getElem? (i := 677) (by decide +kernel))) rfl
theorem se_X5_needBatch : Cond.selects RX5 yX5_needBatch yX5_needBatch ∈ m_ws := m_ws_in (List.mem_append_left _ (List.mem_of_getElem? (i := 12) (by decide +kernel))) rfl
abbrev M_X5_needBin : m_M := (yX5_needBin, cX5_needBin, 1, none, 6, 0, 0)
theorem mk_X5_needBin : m_MK M_X5_needBin 1 := ⟨m_ws_in (List.mem_append_right _ (List.mem_of_getElem? (i := 239) (by decide +kernel))) rfl, m_ws_in (List.mem_append_right _ (List.mem_of_getElem? (i := 1) (by decide +kernel))) rfl, by decide +kernel⟩
abbrev Mx_X5_needBin : m_M := (yX5_needBin, cX5_needBin, 1, none, 6, 1, 6)
theorem mkx_X5_needBin : m_MK Mx_X5_needBin 1 := mk_X5_needBin
theorem st_X5_needBin : Cond.static yX5_needBin ∈ m_ws := m_ws_in (List.mem_append_right _ (List.mem_of_getElem? (i := 238) (by decide +kernel))) rfl
abbrev M_X5_needReading : m_M := (yX5_needReading, cX5_needReading, 1, none, 7, 0, 0)
theorem mk_X5_needReading : m_MK M_X5_needReading 1 := ⟨m_ws_in (List.mem_append_right _ (List.mem_of_getElem? (i := 524) (by decide +kernel))) rfl, m_ws_in (List.mem_append_right _ (List.mem_of_getElem? (i := 1) (by decide +kernel))) rfl, by decide +kernel⟩
abbrev Mx_X5_needReading : m_M := (yX5_needReading, cX5_needReading, 1, none, 7, 1, 6)
theorem mkx_X5_needReading : m_MK Mx_X5_needReading 1 := mk_X5_needReading
theorem st_X5_needReading : Cond.static yX5_needReading ∈ m_ws := m_ws_in (List.mem_append_right _ (List.mem_of_getElem? (i := 523) (by decide +kernel))) rfl
abbrev M_X5_needArgument : m_M := (yX5_needArgument, cX5_needArgument, 1, none, 6, 0, 0)
theorem mk_X5_needArgument : m_MK M_X5_needArgument 1 := ⟨m_ws_in (List.mem_append_right _ (List.mem_of_getElem? (i := 314) (by decide +kernel))) rfl, m_ws_in (List.mem_append_right _ (List.mem_of_getElem? (i := 1) (by decide +kernel))) rfl, by decide +kernel⟩
abbrev Mx_X5_needArgument : m_M := (yX5_needArgument, cX5_needArgument, 1, none, 6, 1, 6)
theorem mkx_X5_needArgument : m_MK Mx_X5_needArgument 1 := mk_X5_needArgument
theorem st_X5_needArgument : Cond.static yX5_needArgument ∈ m_ws := m_ws_in (List.mem_append_right _ (List.mem_of_getElem? (i := 313) (by decide +kernel))) rfl
abbrev M_X5_needState : m_M := (yX5_needState, cX5_needState, 1, none, 6, 0, 0)
theorem mk_X5_needState : m_MK M_X5_needState 1 := ⟨m_ws_in (List.mem_append_right _ (List.mem_of_getElem? (i := 333) (by decide +kernel))) rfl, m_ws_in (List.mem_append_right _ (List.mem_of_getElem? (i := 1) (by decide +kernel))) rfl, by decide +kernel⟩
abbrev Mx_X5_needState : m_M := (yX5_needState, cX5_needState, 1, none, 6, 1, 6)
theorem mkx_X5_needState : m_MK Mx_X5_needState 1 := mk_X5_needState
theorem st_X5_needState : Cond.static yX5_needState ∈ m_ws := m_ws_in (List.mem_append_right _ (List.mem_of_getElem? (i := 332) (by decide +kernel))) rfl
abbrev M_X5_isWithin : m_M := (yX5_isWithin, cX5_isWithin, 3, (some .boolean), 0, 0, 0)
theorem mk_X5_isWithin : m_MK M_X5_isWithin 3 := ⟨m_ws_in (List.mem_append_right _ (List.mem_of_getElem? (i := 242) (by decide +kernel))) rfl, m_ws_in (List.mem_append_right _ (List.mem_of_getElem? (i := 1) (by decide +kernel))) rfl, by decide +kernel⟩
theorem st_X5_isWithin : Cond.static yX5_isWithin ∈ m_ws := m_ws_in (List.mem_append_right _ (List.mem_of_getElem? (i := 241) (by decide +kernel))) rfl
abbrev M_X5_at : m_M := (yX5_at, cX5_at, 2, (some .int), 0, 0, 0)
theorem mk_X5_at : m_MK M_X5_at 2 := ⟨m_ws_in (List.mem_append_right _ (List.mem_of_getElem? (i := 444) (by decide +kernel))) rfl, m_ws_in (List.mem_append_right _ (List.mem_of_getElem? (i := 1) (by decide +kernel))) rfl, by decide +kernel⟩
theorem st_X5_at : Cond.static yX5_at ∈ m_ws := m_ws_in (List.mem_append_right _ (List.mem_of_getElem? (i := 443) (by decide +kernel))) rfl
abbrev M_X5_put : m_M := (yX5_put, cX5_put, 3, none, 0, 0, 0)
theorem mk_X5_put : m_MK M_X5_put 3 := ⟨m_ws_in (List.mem_append_right _ (List.mem_of_getElem? (i := 356) (by decide +kernel))) rfl, m_ws_in (List.mem_append_right _ (List.mem_of_getElem? (i := 1) (by decide +kernel))) rfl, by decide +kernel⟩
theorem st_X5_put : Cond.static yX5_put ∈ m_ws := m_ws_in (List.mem_append_right _ (List.mem_of_getElem? (i := 355) (by decide +kernel))) rfl
abbrev M_X5_increase : m_M := (yX5_increase, cX5_increase, 3, none, 0, 0, 0)
theorem mk_X5_increase : m_MK M_X5_increase 3 := ⟨m_ws_in (List.mem_append_right _ (List.mem_of_getElem? (i := 455) (by decide +kernel))) rfl, m_ws_in (List.mem_append_right _ (List.mem_of_getElem? (i := 1) (by decide +kernel))) rfl, by decide +kernel⟩
theorem st_X5_increase : Cond.static yX5_increase ∈ m_ws := m_ws_in (List.mem_append_right _ (List.mem_of_getElem? (i := 454) (by decide +kernel))) rfl
abbrev M_J9_floorDiv_7cf53 : m_M := (yJ9_floorDiv_7cf53, cJ9_floorDiv_7cf53, 3, (some .int), 0, 0, 0)
theorem mk_J9_floorDiv_7cf53 : m_MK M_J9_floorDiv_7cf53 2 := ⟨m_ws_in (List.mem_append_right _ (List.mem_of_getElem? (i := 565) (by decide +kernel))) rfl, m_ws_in (List.mem_append_right _ (List.mem_of_getElem? (i := 13) (by decide +kernel))) rfl, by decide +kernel⟩
theorem st_J9_floorDiv_7cf53 : Cond.static yJ9_floorDiv_7cf53 ∈ m_ws := m_ws_in (List.mem_append_right _ (List.mem_of_getElem? (i := 564) (by decide +kernel))) rfl
theorem fl_X0_9 : m_FL RX0 9 0 0 := ⟨RX0, TX0, 4, rfl, by decide, Or.inl (m_ws_in (List.mem_append_right _ (List.mem_of_getElem? (i := 78) (by decide +kernel))) rfl)⟩
theorem fw_X0_9 : ∀ (C : String) (T : u_T) (N : Nat), m_cl[0]? = some (C, T, N) → Cond.fieldLink RX0 9 (T 0).1 (T 0).2.1 (T 0).2.2.1 ∈ m_ws := fun C T N h => by cases h; exact m_ws_in (List.mem_append_right _ (List.mem_of_getElem? (i := 78) (by decide +kernel))) rfl
theorem ff_X0_0 : m_FF RX0 0 0 (.array .int) := ⟨RX0, TX0, 4, rfl, rfl, rfl, by decide +kernel⟩
theorem fl_X0_15 : m_FL RX0 15 0 1 := ⟨RX0, TX0, 4, rfl, by decide, Or.inl (m_ws_in (List.mem_append_right _ (List.mem_of_getElem? (i := 81) (by decide +kernel))) rfl)⟩
theorem fw_X0_15 : ∀ (C : String) (T : u_T) (N : Nat), m_cl[0]? = some (C, T, N) → Cond.fieldLink RX0 15 (T 1).1 (T 1).2.1 (T 1).2.2.1 ∈ m_ws := fun C T N h => by cases h; exact m_ws_in (List.mem_append_right _ (List.mem_of_getElem? (i := 81) (by decide +kernel))) rfl
theorem ff_X0_1 : m_FF RX0 0 1 (.array .int) := ⟨RX0, TX0, 4, rfl, rfl, rfl, by decide +kernel⟩
theorem fl_X0_18 : m_FL RX0 18 0 2 := ⟨RX0, TX0, 4, rfl, by decide, Or.inl (m_ws_in (List.mem_append_right _ (List.mem_of_getElem? (i := 84) (by decide +kernel))) rfl)⟩
theorem fw_X0_18 : ∀ (C : String) (T : u_T) (N : Nat), m_cl[0]? = some (C, T, N) → Cond.fieldLink RX0 18 (T 2).1 (T 2).2.1 (T 2).2.2.1 ∈ m_ws := fun C T N h => by cases h; exact m_ws_in (List.mem_append_right _ (List.mem_of_getElem? (i := 84) (by decide +kernel))) rfl
theorem ff_X0_2 : m_FF RX0 0 2 (.array .int) := ⟨RX0, TX0, 4, rfl, rfl, rfl, by decide +kernel⟩
theorem fl_X0_21 : m_FL RX0 21 0 3 := ⟨RX0, TX0, 4, rfl, by decide, Or.inl (m_ws_in (List.mem_append_right _ (List.mem_of_getElem? (i := 87) (by decide +kernel))) rfl)⟩
theorem fw_X0_21 : ∀ (C : String) (T : u_T) (N : Nat), m_cl[0]? = some (C, T, N) → Cond.fieldLink RX0 21 (T 3).1 (T 3).2.1 (T 3).2.2.1 ∈ m_ws := fun C T N h => by cases h; exact m_ws_in (List.mem_append_right _ (List.mem_of_getElem? (i := 87) (by decide +kernel))) rfl
theorem ff_X0_3 : m_FF RX0 0 3 (.array .int) := ⟨RX0, TX0, 4, rfl, rfl, rfl, by decide +kernel⟩
theorem lm_X0_3 : Cond.methodLink RX0 3 Lib.objectInit ∈ m_ws := m_ws_in (List.mem_append_right _ (List.mem_of_getElem? (i := 77) (by decide +kernel))) rfl
theorem lk_X0_24 : m_LK RX0 24 M_X5_at := Or.inr ⟨"BatchDoser", m_nw_in (List.mem_append_right _ (List.mem_of_getElem? (i := 562) (by decide +kernel))) rfl⟩
theorem ll_X0_28 : Cond.methodLink RX0 28 yJ9_floorDiv_7cf53 ∈ m_ws := m_ws_in (List.mem_append_right _ (List.mem_of_getElem? (i := 563) (by decide +kernel))) rfl
theorem lk_X0_28 : m_LK RX0 28 M_J9_floorDiv_7cf53 := Or.inl ll_X0_28
theorem lm_X0_34 : Cond.methodLink RX0 34 Lib.Math.min.name ∈ m_ws := m_ws_in (List.mem_append_right _ (List.mem_of_getElem? (i := 566) (by decide +kernel))) rfl
theorem lm_X0_37 : Cond.methodLink RX0 37 Lib.Math.max.name ∈ m_ws := m_ws_in (List.mem_append_right _ (List.mem_of_getElem? (i := 567) (by decide +kernel))) rfl
theorem lk_X0_40 : m_LK RX0 40 M_X5_put := Or.inr ⟨"BatchDoser", m_nw_in (List.mem_append_right _ (List.mem_of_getElem? (i := 568) (by decide +kernel))) rfl⟩
theorem fl_X1_12 : m_FL RX1 12 1 0 := ⟨RX1, TX1, 16, rfl, by decide, Or.inl (m_ws_in (List.mem_append_right _ (List.mem_of_getElem? (i := 148) (by decide +kernel))) rfl)⟩
theorem fw_X1_12 : ∀ (C : String) (T : u_T) (N : Nat), m_cl[1]? = some (C, T, N) → Cond.fieldLink RX1 12 (T 0).1 (T 0).2.1 (T 0).2.2.1 ∈ m_ws := fun C T N h => by cases h; exact m_ws_in (List.mem_append_right _ (List.mem_of_getElem? (i := 148) (by decide +kernel))) rfl
theorem ff_X1_0 : m_FF RX1 1 0 (.object "BatchDoser$Scale") := ⟨RX1, TX1, 16, rfl, rfl, rfl, by decide +kernel⟩
theorem fl_X1_21 : m_FL RX1 21 1 1 := ⟨RX1, TX1, 16, rfl, by decide, Or.inl (m_ws_in (List.mem_append_right _ (List.mem_of_getElem? (i := 150) (by decide +kernel))) rfl)⟩
theorem fw_X1_21 : ∀ (C : String) (T : u_T) (N : Nat), m_cl[1]? = some (C, T, N) → Cond.fieldLink RX1 21 (T 1).1 (T 1).2.1 (T 1).2.2.1 ∈ m_ws := fun C T N h => by cases h; exact m_ws_in (List.mem_append_right _ (List.mem_of_getElem? (i := 150) (by decide +kernel))) rfl
theorem ff_X1_1 : m_FF RX1 1 1 (.object "BatchDoser$Bins") := ⟨RX1, TX1, 16, rfl, rfl, rfl, by decide +kernel⟩
theorem fl_X1_28 : m_FL RX1 28 1 2 := ⟨RX1, TX1, 16, rfl, by decide, Or.inl (m_ws_in (List.mem_append_right _ (List.mem_of_getElem? (i := 152) (by decide +kernel))) rfl)⟩
theorem fw_X1_28 : ∀ (C : String) (T : u_T) (N : Nat), m_cl[1]? = some (C, T, N) → Cond.fieldLink RX1 28 (T 2).1 (T 2).2.1 (T 2).2.2.1 ∈ m_ws := fun C T N h => by cases h; exact m_ws_in (List.mem_append_right _ (List.mem_of_getElem? (i := 152) (by decide +kernel))) rfl
theorem ff_X1_2 : m_FF RX1 1 2 (.object "BatchDoser$Lots") := ⟨RX1, TX1, 16, rfl, rfl, rfl, by decide +kernel⟩
theorem fl_X1_35 : m_FL RX1 35 1 3 := ⟨RX1, TX1, 16, rfl, by decide, Or.inl (m_ws_in (List.mem_append_right _ (List.mem_of_getElem? (i := 154) (by decide +kernel))) rfl)⟩
theorem fw_X1_35 : ∀ (C : String) (T : u_T) (N : Nat), m_cl[1]? = some (C, T, N) → Cond.fieldLink RX1 35 (T 3).1 (T 3).2.1 (T 3).2.2.1 ∈ m_ws := fun C T N h => by cases h; exact m_ws_in (List.mem_append_right _ (List.mem_of_getElem? (i := 154) (by decide +kernel))) rfl
theorem ff_X1_3 : m_FF RX1 1 3 (.object "BatchDoser$Recipe") := ⟨RX1, TX1, 16, rfl, rfl, rfl, by decide +kernel⟩
theorem fl_X1_39 : m_FL RX1 39 1 4 := ⟨RX1, TX1, 16, rfl, by decide, Or.inl (m_ws_in (List.mem_append_right _ (List.mem_of_getElem? (i := 156) (by decide +kernel))) rfl)⟩
theorem fw_X1_39 : ∀ (C : String) (T : u_T) (N : Nat), m_cl[1]? = some (C, T, N) → Cond.fieldLink RX1 39 (T 4).1 (T 4).2.1 (T 4).2.2.1 ∈ m_ws := fun C T N h => by cases h; exact m_ws_in (List.mem_append_right _ (List.mem_of_getElem? (i := 156) (by decide +kernel))) rfl
theorem fp_X1_4 : m_FP 1 4 (.int) := ⟨RX1, TX1, 16, rfl, rfl, by decide +kernel⟩
theorem fl_X1_43 : m_FL RX1 43 1 5 := ⟨RX1, TX1, 16, rfl, by decide, Or.inl (m_ws_in (List.mem_append_right _ (List.mem_of_getElem? (i := 158) (by decide +kernel))) rfl)⟩
theorem fw_X1_43 : ∀ (C : String) (T : u_T) (N : Nat), m_cl[1]? = some (C, T, N) → Cond.fieldLink RX1 43 (T 5).1 (T 5).2.1 (T 5).2.2.1 ∈ m_ws := fun C T N h => by cases h; exact m_ws_in (List.mem_append_right _ (List.mem_of_getElem? (i := 158) (by decide +kernel))) rfl
theorem fp_X1_5 : m_FP 1 5 (.int) := ⟨RX1, TX1, 16, rfl, rfl, by decide +kernel⟩
theorem fl_X1_46 : m_FL RX1 46 1 6 := ⟨RX1, TX1, 16, rfl, by decide, Or.inl (m_ws_in (List.mem_append_right _ (List.mem_of_getElem? (i := 160) (by decide +kernel))) rfl)⟩
theorem fw_X1_46 : ∀ (C : String) (T : u_T) (N : Nat), m_cl[1]? = some (C, T, N) → Cond.fieldLink RX1 46 (T 6).1 (T 6).2.1 (T 6).2.2.1 ∈ m_ws := fun C T N h => by cases h; exact m_ws_in (List.mem_append_right _ (List.mem_of_getElem? (i := 160) (by decide +kernel))) rfl
theorem fp_X1_6 : m_FP 1 6 (.int) := ⟨RX1, TX1, 16, rfl, rfl, by decide +kernel⟩
theorem lm_X1_3 : Cond.methodLink RX1 3 Lib.objectInit ∈ m_ws := m_ws_in (List.mem_append_right _ (List.mem_of_getElem? (i := 36) (by decide +kernel))) rfl
theorem lk_X1_11 : m_LK RX1 11 M_X4_init := Or.inr ⟨"BatchDoser", m_nw_in (List.mem_append_right _ (List.mem_of_getElem? (i := 39) (by decide +kernel))) rfl⟩
theorem ll_X1_20 : Cond.methodLink RX1 20 yX0_init ∈ m_ws := m_ws_in (List.mem_append_right _ (List.mem_of_getElem? (i := 74) (by decide +kernel))) rfl
theorem lk_X1_20 : m_LK RX1 20 M_X0_init := Or.inl ll_X1_20
theorem lk_X1_27 : m_LK RX1 27 M_X2_init := Or.inr ⟨"BatchDoser", m_nw_in (List.mem_append_right _ (List.mem_of_getElem? (i := 102) (by decide +kernel))) rfl⟩
theorem lk_X1_34 : m_LK RX1 34 M_X3_init := Or.inr ⟨"BatchDoser", m_nw_in (List.mem_append_right _ (List.mem_of_getElem? (i := 126) (by decide +kernel))) rfl⟩
theorem fl_X1_53 : m_FL RX1 53 1 7 := ⟨RX1, TX1, 16, rfl, by decide, Or.inl (m_ws_in (List.mem_append_right _ (List.mem_of_getElem? (i := 162) (by decide +kernel))) rfl)⟩
theorem fw_X1_53 : ∀ (C : String) (T : u_T) (N : Nat), m_cl[1]? = some (C, T, N) → Cond.fieldLink RX1 53 (T 7).1 (T 7).2.1 (T 7).2.2.1 ∈ m_ws := fun C T N h => by cases h; exact m_ws_in (List.mem_append_right _ (List.mem_of_getElem? (i := 162) (by decide +kernel))) rfl
theorem fp_X1_7 : m_FP 1 7 (.int) := ⟨RX1, TX1, 16, rfl, rfl, by decide +kernel⟩
theorem ll_X1_49 : Cond.methodLink RX1 49 yX4_take ∈ m_ws := m_ws_in (List.mem_append_right _ (List.mem_of_getElem? (i := 529) (by decide +kernel))) rfl
theorem lk_X1_49 : m_LK RX1 49 M_X4_take := Or.inl ll_X1_49
theorem ll_X1_56 : Cond.methodLink RX1 56 yX4_trackZero ∈ m_ws := m_ws_in (List.mem_append_right _ (List.mem_of_getElem? (i := 533) (by decide +kernel))) rfl
theorem lk_X1_56 : m_LK RX1 56 M_X4_trackZero := Or.inl ll_X1_56
theorem ll_X1_59 : Cond.methodLink RX1 59 yX1_tareStep ∈ m_ws := m_ws_in (List.mem_append_right _ (List.mem_of_getElem? (i := 539) (by decide +kernel))) rfl
theorem lk_X1_59 : m_LK RX1 59 M_X1_tareStep := Or.inl ll_X1_59
theorem ll_X1_62 : Cond.methodLink RX1 62 yX1_feed ∈ m_ws := m_ws_in (List.mem_append_right _ (List.mem_of_getElem? (i := 549) (by decide +kernel))) rfl
theorem lk_X1_62 : m_LK RX1 62 M_X1_feed := Or.inl ll_X1_62
theorem ll_X1_65 : Cond.methodLink RX1 65 yX4_isCalm ∈ m_ws := m_ws_in (List.mem_append_right _ (List.mem_of_getElem? (i := 543) (by decide +kernel))) rfl
theorem lk_X1_65 : m_LK RX1 65 M_X4_isCalm := Or.inl ll_X1_65
theorem ll_X1_69 : Cond.methodLink RX1 69 yX1_weigh ∈ m_ws := m_ws_in (List.mem_append_right _ (List.mem_of_getElem? (i := 554) (by decide +kernel))) rfl
theorem lk_X1_69 : m_LK RX1 69 M_X1_weigh := Or.inl ll_X1_69
theorem ll_X1_72 : Cond.methodLink RX1 72 yX1_enter ∈ m_ws := m_ws_in (List.mem_append_right _ (List.mem_of_getElem? (i := 392) (by decide +kernel))) rfl
theorem lk_X1_72 : m_LK RX1 72 M_X1_enter := Or.inl ll_X1_72
theorem ll_X1_75 : Cond.methodLink RX1 75 yX1_stepBin ∈ m_ws := m_ws_in (List.mem_append_right _ (List.mem_of_getElem? (i := 438) (by decide +kernel))) rfl
theorem lk_X1_75 : m_LK RX1 75 M_X1_stepBin := Or.inl ll_X1_75
theorem fl_X1_79 : m_FL RX1 79 1 14 := ⟨RX1, TX1, 16, rfl, by decide, Or.inl (m_ws_in (List.mem_append_right _ (List.mem_of_getElem? (i := 171) (by decide +kernel))) rfl)⟩
theorem fw_X1_79 : ∀ (C : String) (T : u_T) (N : Nat), m_cl[1]? = some (C, T, N) → Cond.fieldLink RX1 79 (T 14).1 (T 14).2.1 (T 14).2.2.1 ∈ m_ws := fun C T N h => by cases h; exact m_ws_in (List.mem_append_right _ (List.mem_of_getElem? (i := 171) (by decide +kernel))) rfl
theorem fp_X1_14 : m_FP 1 14 (.int) := ⟨RX1, TX1, 16, rfl, rfl, by decide +kernel⟩
theorem ll_X1_82 : Cond.methodLink RX1 82 yX1_beginStep ∈ m_ws := m_ws_in (List.mem_append_right _ (List.mem_of_getElem? (i := 460) (by decide +kernel))) rfl
theorem lk_X1_82 : m_LK RX1 82 M_X1_beginStep := Or.inl ll_X1_82
theorem fl_X1_88 : m_FL RX1 88 1 8 := ⟨RX1, TX1, 16, rfl, by decide, Or.inl (m_ws_in (List.mem_append_right _ (List.mem_of_getElem? (i := 163) (by decide +kernel))) rfl)⟩
theorem fw_X1_88 : ∀ (C : String) (T : u_T) (N : Nat), m_cl[1]? = some (C, T, N) → Cond.fieldLink RX1 88 (T 8).1 (T 8).2.1 (T 8).2.2.1 ∈ m_ws := fun C T N h => by cases h; exact m_ws_in (List.mem_append_right _ (List.mem_of_getElem? (i := 163) (by decide +kernel))) rfl
theorem fp_X1_8 : m_FP 1 8 (.int) := ⟨RX1, TX1, 16, rfl, rfl, by decide +kernel⟩
theorem ll_X1_85 : Cond.methodLink RX1 85 yX1_finishStep ∈ m_ws := m_ws_in (List.mem_append_right _ (List.mem_of_getElem? (i := 419) (by decide +kernel))) rfl
theorem lk_X1_85 : m_LK RX1 85 M_X1_finishStep := Or.inl ll_X1_85
theorem fl_X1_91 : m_FL RX1 91 1 12 := ⟨RX1, TX1, 16, rfl, by decide, Or.inl (m_ws_in (List.mem_append_right _ (List.mem_of_getElem? (i := 169) (by decide +kernel))) rfl)⟩
theorem fw_X1_91 : ∀ (C : String) (T : u_T) (N : Nat), m_cl[1]? = some (C, T, N) → Cond.fieldLink RX1 91 (T 12).1 (T 12).2.1 (T 12).2.2.1 ∈ m_ws := fun C T N h => by cases h; exact m_ws_in (List.mem_append_right _ (List.mem_of_getElem? (i := 169) (by decide +kernel))) rfl
theorem ll_X1_95 : Cond.methodLink RX1 95 yX1_bookNet ∈ m_ws := m_ws_in (List.mem_append_right _ (List.mem_of_getElem? (i := 423) (by decide +kernel))) rfl
theorem lk_X1_95 : m_LK RX1 95 M_X1_bookNet := Or.inl ll_X1_95
theorem fl_X1_101 : m_FL RX1 101 4 1 := ⟨RX4, TX4, 8, rfl, by decide, Or.inr ⟨"BatchDoser", m_nw_in (List.mem_append_right _ (List.mem_of_getElem? (i := 46) (by decide +kernel))) rfl⟩⟩
theorem fp_X4_1 : m_FP 4 1 (.int) := ⟨RX4, TX4, 8, rfl, rfl, by decide +kernel⟩
theorem fp_X1_12 : m_FP 1 12 (.boolean) := ⟨RX1, TX1, 16, rfl, rfl, by decide +kernel⟩
theorem fl_X1_107 : m_FL RX1 107 0 0 := ⟨RX0, TX0, 4, rfl, by decide, Or.inr ⟨"BatchDoser", m_nw_in (List.mem_append_right _ (List.mem_of_getElem? (i := 79) (by decide +kernel))) rfl⟩⟩
theorem ll_X1_98 : Cond.methodLink RX1 98 yX4_grossNow ∈ m_ws := m_ws_in (List.mem_append_right _ (List.mem_of_getElem? (i := 544) (by decide +kernel))) rfl
theorem lk_X1_98 : m_LK RX1 98 M_X4_grossNow := Or.inl ll_X1_98
theorem ll_X1_104 : Cond.methodLink RX1 104 yX1_target ∈ m_ws := m_ws_in (List.mem_append_right _ (List.mem_of_getElem? (i := 545) (by decide +kernel))) rfl
theorem lk_X1_104 : m_LK RX1 104 M_X1_target := Or.inl ll_X1_104
theorem lk_X1_111 : m_LK RX1 111 M_X5_at := Or.inr ⟨"BatchDoser", m_nw_in (List.mem_append_right _ (List.mem_of_getElem? (i := 442) (by decide +kernel))) rfl⟩
theorem fl_X1_118 : m_FL RX1 118 1 11 := ⟨RX1, TX1, 16, rfl, by decide, Or.inl (m_ws_in (List.mem_append_right _ (List.mem_of_getElem? (i := 168) (by decide +kernel))) rfl)⟩
theorem fw_X1_118 : ∀ (C : String) (T : u_T) (N : Nat), m_cl[1]? = some (C, T, N) → Cond.fieldLink RX1 118 (T 11).1 (T 11).2.1 (T 11).2.2.1 ∈ m_ws := fun C T N h => by cases h; exact m_ws_in (List.mem_append_right _ (List.mem_of_getElem? (i := 168) (by decide +kernel))) rfl
theorem fp_X1_11 : m_FP 1 11 (.int) := ⟨RX1, TX1, 16, rfl, rfl, by decide +kernel⟩
theorem fl_X1_121 : m_FL RX1 121 0 1 := ⟨RX0, TX0, 4, rfl, by decide, Or.inr ⟨"BatchDoser", m_nw_in (List.mem_append_right _ (List.mem_of_getElem? (i := 82) (by decide +kernel))) rfl⟩⟩
theorem ll_X1_115 : Cond.methodLink RX1 115 yX4_netNow ∈ m_ws := m_ws_in (List.mem_append_right _ (List.mem_of_getElem? (i := 427) (by decide +kernel))) rfl
theorem lk_X1_115 : m_LK RX1 115 M_X4_netNow := Or.inl ll_X1_115
theorem ll_X1_124 : Cond.methodLink RX1 124 yX1_halt ∈ m_ws := m_ws_in (List.mem_append_right _ (List.mem_of_getElem? (i := 553) (by decide +kernel))) rfl
theorem lk_X1_124 : m_LK RX1 124 M_X1_halt := Or.inl ll_X1_124
theorem fl_X1_127 : m_FL RX1 127 3 2 := ⟨RX3, TX3, 4, rfl, by decide, Or.inr ⟨"BatchDoser", m_nw_in (List.mem_append_right _ (List.mem_of_getElem? (i := 135) (by decide +kernel))) rfl⟩⟩
theorem fl_X1_130 : m_FL RX1 130 1 9 := ⟨RX1, TX1, 16, rfl, by decide, Or.inl (m_ws_in (List.mem_append_right _ (List.mem_of_getElem? (i := 164) (by decide +kernel))) rfl)⟩
theorem fw_X1_130 : ∀ (C : String) (T : u_T) (N : Nat), m_cl[1]? = some (C, T, N) → Cond.fieldLink RX1 130 (T 9).1 (T 9).2.1 (T 9).2.2.1 ∈ m_ws := fun C T N h => by cases h; exact m_ws_in (List.mem_append_right _ (List.mem_of_getElem? (i := 164) (by decide +kernel))) rfl
theorem fl_X1_133 : m_FL RX1 133 1 13 := ⟨RX1, TX1, 16, rfl, by decide, Or.inl (m_ws_in (List.mem_append_right _ (List.mem_of_getElem? (i := 170) (by decide +kernel))) rfl)⟩
theorem fw_X1_133 : ∀ (C : String) (T : u_T) (N : Nat), m_cl[1]? = some (C, T, N) → Cond.fieldLink RX1 133 (T 13).1 (T 13).2.1 (T 13).2.2.1 ∈ m_ws := fun C T N h => by cases h; exact m_ws_in (List.mem_append_right _ (List.mem_of_getElem? (i := 170) (by decide +kernel))) rfl
theorem fp_X1_13 : m_FP 1 13 (.boolean) := ⟨RX1, TX1, 16, rfl, rfl, by decide +kernel⟩
theorem ll_X1_136 : Cond.methodLink RX1 136 yX0_learn ∈ m_ws := m_ws_in (List.mem_append_right _ (List.mem_of_getElem? (i := 558) (by decide +kernel))) rfl
theorem lk_X1_136 : m_LK RX1 136 M_X0_learn := Or.inl ll_X1_136
theorem ll_X1_140 : Cond.methodLink RX1 140 yX1_jog ∈ m_ws := m_ws_in (List.mem_append_right _ (List.mem_of_getElem? (i := 569) (by decide +kernel))) rfl
theorem lk_X1_140 : m_LK RX1 140 M_X1_jog := Or.inl ll_X1_140
theorem fl_X1_143 : m_FL RX1 143 1 10 := ⟨RX1, TX1, 16, rfl, by decide, Or.inl (m_ws_in (List.mem_append_right _ (List.mem_of_getElem? (i := 166) (by decide +kernel))) rfl)⟩
theorem fw_X1_143 : ∀ (C : String) (T : u_T) (N : Nat), m_cl[1]? = some (C, T, N) → Cond.fieldLink RX1 143 (T 10).1 (T 10).2.1 (T 10).2.2.1 ∈ m_ws := fun C T N h => by cases h; exact m_ws_in (List.mem_append_right _ (List.mem_of_getElem? (i := 166) (by decide +kernel))) rfl
theorem fp_X1_10 : m_FP 1 10 (.int) := ⟨RX1, TX1, 16, rfl, rfl, by decide +kernel⟩
theorem fl_X1_146 : m_FL RX1 146 3 3 := ⟨RX3, TX3, 4, rfl, by decide, Or.inr ⟨"BatchDoser", m_nw_in (List.mem_append_right _ (List.mem_of_getElem? (i := 137) (by decide +kernel))) rfl⟩⟩
theorem fl_X1_149 : m_FL RX1 149 1 15 := ⟨RX1, TX1, 16, rfl, by decide, Or.inl (m_ws_in (List.mem_append_right _ (List.mem_of_getElem? (i := 173) (by decide +kernel))) rfl)⟩
theorem fw_X1_149 : ∀ (C : String) (T : u_T) (N : Nat), m_cl[1]? = some (C, T, N) → Cond.fieldLink RX1 149 (T 15).1 (T 15).2.1 (T 15).2.2.1 ∈ m_ws := fun C T N h => by cases h; exact m_ws_in (List.mem_append_right _ (List.mem_of_getElem? (i := 173) (by decide +kernel))) rfl
theorem fp_X1_15 : m_FP 1 15 (.int) := ⟨RX1, TX1, 16, rfl, rfl, by decide +kernel⟩
theorem fp_X1_9 : m_FP 1 9 (.int) := ⟨RX1, TX1, 16, rfl, rfl, by decide +kernel⟩
theorem fl_X1_162 : m_FL RX1 162 0 2 := ⟨RX0, TX0, 4, rfl, by decide, Or.inr ⟨"BatchDoser", m_nw_in (List.mem_append_right _ (List.mem_of_getElem? (i := 86) (by decide +kernel))) rfl⟩⟩
theorem fl_X1_169 : m_FL RX1 169 0 3 := ⟨RX0, TX0, 4, rfl, by decide, Or.inr ⟨"BatchDoser", m_nw_in (List.mem_append_right _ (List.mem_of_getElem? (i := 89) (by decide +kernel))) rfl⟩⟩
theorem lm_X1_152 : Cond.methodLink RX1 152 Lib.Math.max.name ∈ m_ws := m_ws_in (List.mem_append_right _ (List.mem_of_getElem? (i := 435) (by decide +kernel))) rfl
theorem ll_X1_158 : Cond.methodLink RX1 158 yX2_takeOut ∈ m_ws := m_ws_in (List.mem_append_right _ (List.mem_of_getElem? (i := 445) (by decide +kernel))) rfl
theorem lk_X1_158 : m_LK RX1 158 M_X2_takeOut := Or.inl ll_X1_158
theorem lk_X1_165 : m_LK RX1 165 M_X5_increase := Or.inr ⟨"BatchDoser", m_nw_in (List.mem_append_right _ (List.mem_of_getElem? (i := 459) (by decide +kernel))) rfl⟩
theorem fl_X1_172 : m_FL RX1 172 3 0 := ⟨RX3, TX3, 4, rfl, by decide, Or.inr ⟨"BatchDoser", m_nw_in (List.mem_append_right _ (List.mem_of_getElem? (i := 131) (by decide +kernel))) rfl⟩⟩
theorem fl_X1_175 : m_FL RX1 175 3 1 := ⟨RX3, TX3, 4, rfl, by decide, Or.inr ⟨"BatchDoser", m_nw_in (List.mem_append_right _ (List.mem_of_getElem? (i := 133) (by decide +kernel))) rfl⟩⟩
theorem fl_X2_9 : m_FL RX2 9 2 0 := ⟨RX2, TX2, 5, rfl, by decide, Or.inl (m_ws_in (List.mem_append_right _ (List.mem_of_getElem? (i := 106) (by decide +kernel))) rfl)⟩
theorem fw_X2_9 : ∀ (C : String) (T : u_T) (N : Nat), m_cl[2]? = some (C, T, N) → Cond.fieldLink RX2 9 (T 0).1 (T 0).2.1 (T 0).2.2.1 ∈ m_ws := fun C T N h => by cases h; exact m_ws_in (List.mem_append_right _ (List.mem_of_getElem? (i := 106) (by decide +kernel))) rfl
theorem ff_X2_0 : m_FF RX2 2 0 (.array .int) := ⟨RX2, TX2, 5, rfl, rfl, rfl, by decide +kernel⟩
theorem fl_X2_15 : m_FL RX2 15 2 1 := ⟨RX2, TX2, 5, rfl, by decide, Or.inl (m_ws_in (List.mem_append_right _ (List.mem_of_getElem? (i := 107) (by decide +kernel))) rfl)⟩
theorem fw_X2_15 : ∀ (C : String) (T : u_T) (N : Nat), m_cl[2]? = some (C, T, N) → Cond.fieldLink RX2 15 (T 1).1 (T 1).2.1 (T 1).2.2.1 ∈ m_ws := fun C T N h => by cases h; exact m_ws_in (List.mem_append_right _ (List.mem_of_getElem? (i := 107) (by decide +kernel))) rfl
theorem ff_X2_1 : m_FF RX2 2 1 (.array .int) := ⟨RX2, TX2, 5, rfl, rfl, rfl, by decide +kernel⟩
theorem fl_X2_18 : m_FL RX2 18 2 2 := ⟨RX2, TX2, 5, rfl, by decide, Or.inl (m_ws_in (List.mem_append_right _ (List.mem_of_getElem? (i := 108) (by decide +kernel))) rfl)⟩
theorem fw_X2_18 : ∀ (C : String) (T : u_T) (N : Nat), m_cl[2]? = some (C, T, N) → Cond.fieldLink RX2 18 (T 2).1 (T 2).2.1 (T 2).2.2.1 ∈ m_ws := fun C T N h => by cases h; exact m_ws_in (List.mem_append_right _ (List.mem_of_getElem? (i := 108) (by decide +kernel))) rfl
theorem ff_X2_2 : m_FF RX2 2 2 (.array .int) := ⟨RX2, TX2, 5, rfl, rfl, rfl, by decide +kernel⟩
theorem fl_X2_21 : m_FL RX2 21 2 3 := ⟨RX2, TX2, 5, rfl, by decide, Or.inl (m_ws_in (List.mem_append_right _ (List.mem_of_getElem? (i := 110) (by decide +kernel))) rfl)⟩
theorem fw_X2_21 : ∀ (C : String) (T : u_T) (N : Nat), m_cl[2]? = some (C, T, N) → Cond.fieldLink RX2 21 (T 3).1 (T 3).2.1 (T 3).2.2.1 ∈ m_ws := fun C T N h => by cases h; exact m_ws_in (List.mem_append_right _ (List.mem_of_getElem? (i := 110) (by decide +kernel))) rfl
theorem ff_X2_3 : m_FF RX2 2 3 (.array .int) := ⟨RX2, TX2, 5, rfl, rfl, rfl, by decide +kernel⟩
theorem lm_X2_3 : Cond.methodLink RX2 3 Lib.objectInit ∈ m_ws := m_ws_in (List.mem_append_right _ (List.mem_of_getElem? (i := 105) (by decide +kernel))) rfl
theorem fl_X2_24 : m_FL RX2 24 2 4 := ⟨RX2, TX2, 5, rfl, by decide, Or.inl (m_ws_in (List.mem_append_right _ (List.mem_of_getElem? (i := 111) (by decide +kernel))) rfl)⟩
theorem fw_X2_24 : ∀ (C : String) (T : u_T) (N : Nat), m_cl[2]? = some (C, T, N) → Cond.fieldLink RX2 24 (T 4).1 (T 4).2.1 (T 4).2.2.1 ∈ m_ws := fun C T N h => by cases h; exact m_ws_in (List.mem_append_right _ (List.mem_of_getElem? (i := 111) (by decide +kernel))) rfl
theorem fp_X2_4 : m_FP 2 4 (.int) := ⟨RX2, TX2, 5, rfl, rfl, by decide +kernel⟩
theorem lk_X2_28 : m_LK RX2 28 M_X5_put := Or.inr ⟨"BatchDoser", m_nw_in (List.mem_append_right _ (List.mem_of_getElem? (i := 354) (by decide +kernel))) rfl⟩
theorem lk_X2_32 : m_LK RX2 32 M_X5_at := Or.inr ⟨"BatchDoser", m_nw_in (List.mem_append_right _ (List.mem_of_getElem? (i := 449) (by decide +kernel))) rfl⟩
theorem lm_X2_36 : Cond.methodLink RX2 36 Lib.Math.min.name ∈ m_ws := m_ws_in (List.mem_append_right _ (List.mem_of_getElem? (i := 450) (by decide +kernel))) rfl
theorem lk_X2_42 : m_LK RX2 42 M_X5_increase := Or.inr ⟨"BatchDoser", m_nw_in (List.mem_append_right _ (List.mem_of_getElem? (i := 453) (by decide +kernel))) rfl⟩
theorem ll_X2_45 : Cond.methodLink RX2 45 yX2_place ∈ m_ws := m_ws_in (List.mem_append_right _ (List.mem_of_getElem? (i := 456) (by decide +kernel))) rfl
theorem lk_X2_45 : m_LK RX2 45 M_X2_place := Or.inl ll_X2_45
theorem ll_X2_48 : Cond.methodLink RX2 48 yX2_usedFor ∈ m_ws := m_ws_in (List.mem_append_right _ (List.mem_of_getElem? (i := 667) (by decide +kernel))) rfl
theorem lk_X2_48 : m_LK RX2 48 M_X2_usedFor := Or.inl ll_X2_48
theorem fl_X3_9 : m_FL RX3 9 3 0 := ⟨RX3, TX3, 4, rfl, by decide, Or.inl (m_ws_in (List.mem_append_right _ (List.mem_of_getElem? (i := 130) (by decide +kernel))) rfl)⟩
theorem fw_X3_9 : ∀ (C : String) (T : u_T) (N : Nat), m_cl[3]? = some (C, T, N) → Cond.fieldLink RX3 9 (T 0).1 (T 0).2.1 (T 0).2.2.1 ∈ m_ws := fun C T N h => by cases h; exact m_ws_in (List.mem_append_right _ (List.mem_of_getElem? (i := 130) (by decide +kernel))) rfl
theorem ff_X3_0 : m_FF RX3 3 0 (.array .int) := ⟨RX3, TX3, 4, rfl, rfl, rfl, by decide +kernel⟩
theorem fl_X3_15 : m_FL RX3 15 3 1 := ⟨RX3, TX3, 4, rfl, by decide, Or.inl (m_ws_in (List.mem_append_right _ (List.mem_of_getElem? (i := 132) (by decide +kernel))) rfl)⟩
theorem fw_X3_15 : ∀ (C : String) (T : u_T) (N : Nat), m_cl[3]? = some (C, T, N) → Cond.fieldLink RX3 15 (T 1).1 (T 1).2.1 (T 1).2.2.1 ∈ m_ws := fun C T N h => by cases h; exact m_ws_in (List.mem_append_right _ (List.mem_of_getElem? (i := 132) (by decide +kernel))) rfl
theorem ff_X3_1 : m_FF RX3 3 1 (.array .int) := ⟨RX3, TX3, 4, rfl, rfl, rfl, by decide +kernel⟩
theorem fl_X3_18 : m_FL RX3 18 3 2 := ⟨RX3, TX3, 4, rfl, by decide, Or.inl (m_ws_in (List.mem_append_right _ (List.mem_of_getElem? (i := 134) (by decide +kernel))) rfl)⟩
theorem fw_X3_18 : ∀ (C : String) (T : u_T) (N : Nat), m_cl[3]? = some (C, T, N) → Cond.fieldLink RX3 18 (T 2).1 (T 2).2.1 (T 2).2.2.1 ∈ m_ws := fun C T N h => by cases h; exact m_ws_in (List.mem_append_right _ (List.mem_of_getElem? (i := 134) (by decide +kernel))) rfl
theorem ff_X3_2 : m_FF RX3 3 2 (.array .int) := ⟨RX3, TX3, 4, rfl, rfl, rfl, by decide +kernel⟩
theorem lm_X3_3 : Cond.methodLink RX3 3 Lib.objectInit ∈ m_ws := m_ws_in (List.mem_append_right _ (List.mem_of_getElem? (i := 129) (by decide +kernel))) rfl
theorem fl_X3_21 : m_FL RX3 21 3 3 := ⟨RX3, TX3, 4, rfl, by decide, Or.inl (m_ws_in (List.mem_append_right _ (List.mem_of_getElem? (i := 136) (by decide +kernel))) rfl)⟩
theorem fw_X3_21 : ∀ (C : String) (T : u_T) (N : Nat), m_cl[3]? = some (C, T, N) → Cond.fieldLink RX3 21 (T 3).1 (T 3).2.1 (T 3).2.2.1 ∈ m_ws := fun C T N h => by cases h; exact m_ws_in (List.mem_append_right _ (List.mem_of_getElem? (i := 136) (by decide +kernel))) rfl
theorem fp_X3_3 : m_FP 3 3 (.int) := ⟨RX3, TX3, 4, rfl, rfl, by decide +kernel⟩
theorem lk_X3_25 : m_LK RX3 25 M_X5_put := Or.inr ⟨"BatchDoser", m_nw_in (List.mem_append_right _ (List.mem_of_getElem? (i := 365) (by decide +kernel))) rfl⟩
theorem fl_X4_9 : m_FL RX4 9 4 2 := ⟨RX4, TX4, 8, rfl, by decide, Or.inl (m_ws_in (List.mem_append_right _ (List.mem_of_getElem? (i := 47) (by decide +kernel))) rfl)⟩
theorem fw_X4_9 : ∀ (C : String) (T : u_T) (N : Nat), m_cl[4]? = some (C, T, N) → Cond.fieldLink RX4 9 (T 2).1 (T 2).2.1 (T 2).2.2.1 ∈ m_ws := fun C T N h => by cases h; exact m_ws_in (List.mem_append_right _ (List.mem_of_getElem? (i := 47) (by decide +kernel))) rfl
theorem fp_X4_2 : m_FP 4 2 (.int) := ⟨RX4, TX4, 8, rfl, rfl, by decide +kernel⟩
theorem lm_X4_3 : Cond.methodLink RX4 3 Lib.objectInit ∈ m_ws := m_ws_in (List.mem_append_right _ (List.mem_of_getElem? (i := 42) (by decide +kernel))) rfl
theorem fl_X4_15 : m_FL RX4 15 4 6 := ⟨RX4, TX4, 8, rfl, by decide, Or.inl (m_ws_in (List.mem_append_right _ (List.mem_of_getElem? (i := 53) (by decide +kernel))) rfl)⟩
theorem fw_X4_15 : ∀ (C : String) (T : u_T) (N : Nat), m_cl[4]? = some (C, T, N) → Cond.fieldLink RX4 15 (T 6).1 (T 6).2.1 (T 6).2.2.1 ∈ m_ws := fun C T N h => by cases h; exact m_ws_in (List.mem_append_right _ (List.mem_of_getElem? (i := 53) (by decide +kernel))) rfl
theorem fl_X4_18 : m_FL RX4 18 4 7 := ⟨RX4, TX4, 8, rfl, by decide, Or.inl (m_ws_in (List.mem_append_right _ (List.mem_of_getElem? (i := 54) (by decide +kernel))) rfl)⟩
theorem fw_X4_18 : ∀ (C : String) (T : u_T) (N : Nat), m_cl[4]? = some (C, T, N) → Cond.fieldLink RX4 18 (T 7).1 (T 7).2.1 (T 7).2.2.1 ∈ m_ws := fun C T N h => by cases h; exact m_ws_in (List.mem_append_right _ (List.mem_of_getElem? (i := 54) (by decide +kernel))) rfl
theorem fp_X4_7 : m_FP 4 7 (.int) := ⟨RX4, TX4, 8, rfl, rfl, by decide +kernel⟩
theorem fl_X4_21 : m_FL RX4 21 4 5 := ⟨RX4, TX4, 8, rfl, by decide, Or.inl (m_ws_in (List.mem_append_right _ (List.mem_of_getElem? (i := 52) (by decide +kernel))) rfl)⟩
theorem fw_X4_21 : ∀ (C : String) (T : u_T) (N : Nat), m_cl[4]? = some (C, T, N) → Cond.fieldLink RX4 21 (T 5).1 (T 5).2.1 (T 5).2.2.1 ∈ m_ws := fun C T N h => by cases h; exact m_ws_in (List.mem_append_right _ (List.mem_of_getElem? (i := 52) (by decide +kernel))) rfl
theorem fp_X4_6 : m_FP 4 6 (.int) := ⟨RX4, TX4, 8, rfl, rfl, by decide +kernel⟩
theorem fl_X4_24 : m_FL RX4 24 4 4 := ⟨RX4, TX4, 8, rfl, by decide, Or.inl (m_ws_in (List.mem_append_right _ (List.mem_of_getElem? (i := 50) (by decide +kernel))) rfl)⟩
theorem fw_X4_24 : ∀ (C : String) (T : u_T) (N : Nat), m_cl[4]? = some (C, T, N) → Cond.fieldLink RX4 24 (T 4).1 (T 4).2.1 (T 4).2.2.1 ∈ m_ws := fun C T N h => by cases h; exact m_ws_in (List.mem_append_right _ (List.mem_of_getElem? (i := 50) (by decide +kernel))) rfl
theorem fp_X4_5 : m_FP 4 5 (.int) := ⟨RX4, TX4, 8, rfl, rfl, by decide +kernel⟩
theorem fp_X4_4 : m_FP 4 4 (.int) := ⟨RX4, TX4, 8, rfl, rfl, by decide +kernel⟩
theorem fl_X4_27 : m_FL RX4 27 4 3 := ⟨RX4, TX4, 8, rfl, by decide, Or.inl (m_ws_in (List.mem_append_right _ (List.mem_of_getElem? (i := 49) (by decide +kernel))) rfl)⟩
theorem fw_X4_27 : ∀ (C : String) (T : u_T) (N : Nat), m_cl[4]? = some (C, T, N) → Cond.fieldLink RX4 27 (T 3).1 (T 3).2.1 (T 3).2.2.1 ∈ m_ws := fun C T N h => by cases h; exact m_ws_in (List.mem_append_right _ (List.mem_of_getElem? (i := 49) (by decide +kernel))) rfl
theorem fp_X4_3 : m_FP 4 3 (.int) := ⟨RX4, TX4, 8, rfl, rfl, by decide +kernel⟩
theorem lm_X4_30 : Cond.methodLink RX4 30 Lib.Math.max.name ∈ m_ws := m_ws_in (List.mem_append_right _ (List.mem_of_getElem? (i := 489) (by decide +kernel))) rfl
theorem lm_X4_36 : Cond.methodLink RX4 36 Lib.Math.min.name ∈ m_ws := m_ws_in (List.mem_append_right _ (List.mem_of_getElem? (i := 490) (by decide +kernel))) rfl
theorem fl_X4_39 : m_FL RX4 39 4 0 := ⟨RX4, TX4, 8, rfl, by decide, Or.inl (m_ws_in (List.mem_append_right _ (List.mem_of_getElem? (i := 43) (by decide +kernel))) rfl)⟩
theorem fw_X4_39 : ∀ (C : String) (T : u_T) (N : Nat), m_cl[4]? = some (C, T, N) → Cond.fieldLink RX4 39 (T 0).1 (T 0).2.1 (T 0).2.2.1 ∈ m_ws := fun C T N h => by cases h; exact m_ws_in (List.mem_append_right _ (List.mem_of_getElem? (i := 43) (by decide +kernel))) rfl
theorem fl_X4_46 : m_FL RX4 46 4 1 := ⟨RX4, TX4, 8, rfl, by decide, Or.inl (m_ws_in (List.mem_append_right _ (List.mem_of_getElem? (i := 45) (by decide +kernel))) rfl)⟩
theorem fw_X4_46 : ∀ (C : String) (T : u_T) (N : Nat), m_cl[4]? = some (C, T, N) → Cond.fieldLink RX4 46 (T 1).1 (T 1).2.1 (T 1).2.2.1 ∈ m_ws := fun C T N h => by cases h; exact m_ws_in (List.mem_append_right _ (List.mem_of_getElem? (i := 45) (by decide +kernel))) rfl
theorem ll_X4_42 : Cond.methodLink RX4 42 yX4_grossNow ∈ m_ws := m_ws_in (List.mem_append_right _ (List.mem_of_getElem? (i := 431) (by decide +kernel))) rfl
theorem lk_X4_42 : m_LK RX4 42 M_X4_grossNow := Or.inl ll_X4_42
theorem fp_X4_0 : m_FP 4 0 (.int) := ⟨RX4, TX4, 8, rfl, rfl, by decide +kernel⟩
theorem lk_X4_49 : m_LK RX4 49 M_X5_isWithin := Or.inr ⟨"BatchDoser", m_nw_in (List.mem_append_right _ (List.mem_of_getElem? (i := 537) (by decide +kernel))) rfl⟩
theorem ll_X4_53 : Cond.methodLink RX4 53 yX4_isCalm ∈ m_ws := m_ws_in (List.mem_append_right _ (List.mem_of_getElem? (i := 538) (by decide +kernel))) rfl
theorem lk_X4_53 : m_LK RX4 53 M_X4_isCalm := Or.inl ll_X4_53
theorem fl_X5_10 : m_FL RX5 10 5 0 := ⟨RX5, TX5, 6, rfl, by decide, Or.inl (m_ws_in (List.mem_append_right _ (List.mem_of_getElem? (i := 208) (by decide +kernel))) rfl)⟩
theorem fw_X5_10 : ∀ (C : String) (T : u_T) (N : Nat), m_cl[5]? = some (C, T, N) → Cond.fieldLink RX5 10 (T 0).1 (T 0).2.1 (T 0).2.2.1 ∈ m_ws := fun C T N h => by cases h; exact m_ws_in (List.mem_append_right _ (List.mem_of_getElem? (i := 208) (by decide +kernel))) rfl
theorem ff_X5_0 : m_FF RX5 5 0 (.object "BatchDoser$Dosing") := ⟨RX5, TX5, 6, rfl, rfl, rfl, by decide +kernel⟩
theorem fl_X5_16 : m_FL RX5 16 1 0 := ⟨RX1, TX1, 16, rfl, by decide, Or.inr ⟨"BatchDoser", m_nw_in (List.mem_append_right _ (List.mem_of_getElem? (i := 149) (by decide +kernel))) rfl⟩⟩
theorem fl_X5_20 : m_FL RX5 20 5 1 := ⟨RX5, TX5, 6, rfl, by decide, Or.inl (m_ws_in (List.mem_append_right _ (List.mem_of_getElem? (i := 209) (by decide +kernel))) rfl)⟩
theorem fw_X5_20 : ∀ (C : String) (T : u_T) (N : Nat), m_cl[5]? = some (C, T, N) → Cond.fieldLink RX5 20 (T 1).1 (T 1).2.1 (T 1).2.2.1 ∈ m_ws := fun C T N h => by cases h; exact m_ws_in (List.mem_append_right _ (List.mem_of_getElem? (i := 209) (by decide +kernel))) rfl
theorem ff_X5_1 : m_FF RX5 5 1 (.object "BatchDoser$Scale") := ⟨RX5, TX5, 6, rfl, rfl, rfl, by decide +kernel⟩
theorem fl_X5_21 : m_FL RX5 21 1 1 := ⟨RX1, TX1, 16, rfl, by decide, Or.inr ⟨"BatchDoser", m_nw_in (List.mem_append_right _ (List.mem_of_getElem? (i := 151) (by decide +kernel))) rfl⟩⟩
theorem fl_X5_25 : m_FL RX5 25 5 2 := ⟨RX5, TX5, 6, rfl, by decide, Or.inl (m_ws_in (List.mem_append_right _ (List.mem_of_getElem? (i := 210) (by decide +kernel))) rfl)⟩
theorem fw_X5_25 : ∀ (C : String) (T : u_T) (N : Nat), m_cl[5]? = some (C, T, N) → Cond.fieldLink RX5 25 (T 2).1 (T 2).2.1 (T 2).2.2.1 ∈ m_ws := fun C T N h => by cases h; exact m_ws_in (List.mem_append_right _ (List.mem_of_getElem? (i := 210) (by decide +kernel))) rfl
theorem ff_X5_2 : m_FF RX5 5 2 (.object "BatchDoser$Bins") := ⟨RX5, TX5, 6, rfl, rfl, rfl, by decide +kernel⟩
theorem fl_X5_26 : m_FL RX5 26 1 2 := ⟨RX1, TX1, 16, rfl, by decide, Or.inr ⟨"BatchDoser", m_nw_in (List.mem_append_right _ (List.mem_of_getElem? (i := 153) (by decide +kernel))) rfl⟩⟩
theorem fl_X5_30 : m_FL RX5 30 5 3 := ⟨RX5, TX5, 6, rfl, by decide, Or.inl (m_ws_in (List.mem_append_right _ (List.mem_of_getElem? (i := 211) (by decide +kernel))) rfl)⟩
theorem fw_X5_30 : ∀ (C : String) (T : u_T) (N : Nat), m_cl[5]? = some (C, T, N) → Cond.fieldLink RX5 30 (T 3).1 (T 3).2.1 (T 3).2.2.1 ∈ m_ws := fun C T N h => by cases h; exact m_ws_in (List.mem_append_right _ (List.mem_of_getElem? (i := 211) (by decide +kernel))) rfl
theorem ff_X5_3 : m_FF RX5 5 3 (.object "BatchDoser$Lots") := ⟨RX5, TX5, 6, rfl, rfl, rfl, by decide +kernel⟩
theorem fl_X5_31 : m_FL RX5 31 1 3 := ⟨RX1, TX1, 16, rfl, by decide, Or.inr ⟨"BatchDoser", m_nw_in (List.mem_append_right _ (List.mem_of_getElem? (i := 155) (by decide +kernel))) rfl⟩⟩
theorem fl_X5_35 : m_FL RX5 35 5 4 := ⟨RX5, TX5, 6, rfl, by decide, Or.inl (m_ws_in (List.mem_append_right _ (List.mem_of_getElem? (i := 212) (by decide +kernel))) rfl)⟩
theorem fw_X5_35 : ∀ (C : String) (T : u_T) (N : Nat), m_cl[5]? = some (C, T, N) → Cond.fieldLink RX5 35 (T 4).1 (T 4).2.1 (T 4).2.2.1 ∈ m_ws := fun C T N h => by cases h; exact m_ws_in (List.mem_append_right _ (List.mem_of_getElem? (i := 212) (by decide +kernel))) rfl
theorem ff_X5_4 : m_FF RX5 5 4 (.object "BatchDoser$Recipe") := ⟨RX5, TX5, 6, rfl, rfl, rfl, by decide +kernel⟩
theorem lm_X5_1 : Cond.methodLink RX5 1 Lib.objectInit ∈ m_ws := m_ws_in (List.mem_append_right _ (List.mem_of_getElem? (i := 28) (by decide +kernel))) rfl
theorem lk_X5_9 : m_LK RX5 9 M_X1_init := Or.inr ⟨"BatchDoser", m_nw_in (List.mem_append_right _ (List.mem_of_getElem? (i := 33) (by decide +kernel))) rfl⟩
theorem fl_X5_43 : m_FL RX5 43 1 4 := ⟨RX1, TX1, 16, rfl, by decide, Or.inr ⟨"BatchDoser", m_nw_in (List.mem_append_right _ (List.mem_of_getElem? (i := 157) (by decide +kernel))) rfl⟩⟩
theorem ll_X5_36 : Cond.methodLink RX5 36 yX5_needReading ∈ m_ws := m_ws_in (List.mem_append_right _ (List.mem_of_getElem? (i := 522) (by decide +kernel))) rfl
theorem lk_X5_36 : m_LK RX5 36 M_X5_needReading := Or.inl ll_X5_36
theorem ll_X5_40 : Cond.methodLink RX5 40 yX1_bring ∈ m_ws := m_ws_in (List.mem_append_right _ (List.mem_of_getElem? (i := 525) (by decide +kernel))) rfl
theorem lk_X5_40 : m_LK RX5 40 M_X1_bring := Or.inl ll_X5_40
theorem ll_X5_47 : Cond.methodLink RX5 47 yX5_isWithin ∈ m_ws := m_ws_in (List.mem_append_right _ (List.mem_of_getElem? (i := 240) (by decide +kernel))) rfl
theorem lk_X5_47 : m_LK RX5 47 M_X5_isWithin := Or.inl ll_X5_47
theorem ll_X5_51 : Cond.methodLink RX5 51 yX5_needArgument ∈ m_ws := m_ws_in (List.mem_append_right _ (List.mem_of_getElem? (i := 312) (by decide +kernel))) rfl
theorem lk_X5_51 : m_LK RX5 51 M_X5_needArgument := Or.inl ll_X5_51
theorem fl_X5_64 : m_FL RX5 64 4 4 := ⟨RX4, TX4, 8, rfl, by decide, Or.inr ⟨"BatchDoser", m_nw_in (List.mem_append_right _ (List.mem_of_getElem? (i := 51) (by decide +kernel))) rfl⟩⟩
theorem fl_X5_67 : m_FL RX5 67 4 0 := ⟨RX4, TX4, 8, rfl, by decide, Or.inr ⟨"BatchDoser", m_nw_in (List.mem_append_right _ (List.mem_of_getElem? (i := 44) (by decide +kernel))) rfl⟩⟩
theorem ll_X5_55 : Cond.methodLink RX5 55 yX4_isCalm ∈ m_ws := m_ws_in (List.mem_append_right _ (List.mem_of_getElem? (i := 485) (by decide +kernel))) rfl
theorem lk_X5_55 : m_LK RX5 55 M_X4_isCalm := Or.inl ll_X5_55
theorem ll_X5_61 : Cond.methodLink RX5 61 yX5_needState ∈ m_ws := m_ws_in (List.mem_append_right _ (List.mem_of_getElem? (i := 331) (by decide +kernel))) rfl
theorem lk_X5_61 : m_LK RX5 61 M_X5_needState := Or.inl ll_X5_61
theorem fl_X5_70 : m_FL RX5 70 4 2 := ⟨RX4, TX4, 8, rfl, by decide, Or.inr ⟨"BatchDoser", m_nw_in (List.mem_append_right _ (List.mem_of_getElem? (i := 48) (by decide +kernel))) rfl⟩⟩
theorem ll_X5_73 : Cond.methodLink RX5 73 yX4_grossNow ∈ m_ws := m_ws_in (List.mem_append_right _ (List.mem_of_getElem? (i := 584) (by decide +kernel))) rfl
theorem lk_X5_73 : m_LK RX5 73 M_X4_grossNow := Or.inl ll_X5_73
theorem ll_X5_77 : Cond.methodLink RX5 77 yX4_netNow ∈ m_ws := m_ws_in (List.mem_append_right _ (List.mem_of_getElem? (i := 589) (by decide +kernel))) rfl
theorem lk_X5_77 : m_LK RX5 77 M_X4_netNow := Or.inl ll_X5_77
theorem fl_X5_84 : m_FL RX5 84 2 4 := ⟨RX2, TX2, 5, rfl, by decide, Or.inr ⟨"BatchDoser", m_nw_in (List.mem_append_right _ (List.mem_of_getElem? (i := 112) (by decide +kernel))) rfl⟩⟩
theorem ll_X5_80 : Cond.methodLink RX5 80 yX5_needBin ∈ m_ws := m_ws_in (List.mem_append_right _ (List.mem_of_getElem? (i := 237) (by decide +kernel))) rfl
theorem lk_X5_80 : m_LK RX5 80 M_X5_needBin := Or.inl ll_X5_80
theorem ll_X5_89 : Cond.methodLink RX5 89 yX2_store ∈ m_ws := m_ws_in (List.mem_append_right _ (List.mem_of_getElem? (i := 350) (by decide +kernel))) rfl
theorem lk_X5_89 : m_LK RX5 89 M_X2_store := Or.inl ll_X5_89
theorem fl_X5_93 : m_FL RX5 93 0 0 := ⟨RX0, TX0, 4, rfl, by decide, Or.inr ⟨"BatchDoser", m_nw_in (List.mem_append_right _ (List.mem_of_getElem? (i := 80) (by decide +kernel))) rfl⟩⟩
theorem ll_X5_99 : Cond.methodLink RX5 99 yX5_at ∈ m_ws := m_ws_in (List.mem_append_right _ (List.mem_of_getElem? (i := 499) (by decide +kernel))) rfl
theorem lk_X5_99 : m_LK RX5 99 M_X5_at := Or.inl ll_X5_99
theorem ll_X5_103 : Cond.methodLink RX5 103 yX5_put ∈ m_ws := m_ws_in (List.mem_append_right _ (List.mem_of_getElem? (i := 500) (by decide +kernel))) rfl
theorem lk_X5_103 : m_LK RX5 103 M_X5_put := Or.inl ll_X5_103
theorem fl_X5_107 : m_FL RX5 107 0 1 := ⟨RX0, TX0, 4, rfl, by decide, Or.inr ⟨"BatchDoser", m_nw_in (List.mem_append_right _ (List.mem_of_getElem? (i := 83) (by decide +kernel))) rfl⟩⟩
theorem ll_X5_110 : Cond.methodLink RX5 110 yX1_gateOf ∈ m_ws := m_ws_in (List.mem_append_right _ (List.mem_of_getElem? (i := 622) (by decide +kernel))) rfl
theorem lk_X5_110 : m_LK RX5 110 M_X1_gateOf := Or.inl ll_X5_110
theorem ll_X5_114 : Cond.methodLink RX5 114 yX2_leftIn ∈ m_ws := m_ws_in (List.mem_append_right _ (List.mem_of_getElem? (i := 646) (by decide +kernel))) rfl
theorem lk_X5_114 : m_LK RX5 114 M_X2_leftIn := Or.inl ll_X5_114
theorem fl_X5_117 : m_FL RX5 117 0 2 := ⟨RX0, TX0, 4, rfl, by decide, Or.inr ⟨"BatchDoser", m_nw_in (List.mem_append_right _ (List.mem_of_getElem? (i := 85) (by decide +kernel))) rfl⟩⟩
theorem fl_X5_123 : m_FL RX5 123 0 3 := ⟨RX0, TX0, 4, rfl, by decide, Or.inr ⟨"BatchDoser", m_nw_in (List.mem_append_right _ (List.mem_of_getElem? (i := 88) (by decide +kernel))) rfl⟩⟩
theorem ll_X5_120 : Cond.methodLink RX5 120 yX2_goneFrom ∈ m_ws := m_ws_in (List.mem_append_right _ (List.mem_of_getElem? (i := 638) (by decide +kernel))) rfl
theorem lk_X5_120 : m_LK RX5 120 M_X2_goneFrom := Or.inl ll_X5_120
theorem fl_X5_129 : m_FL RX5 129 2 2 := ⟨RX2, TX2, 5, rfl, by decide, Or.inr ⟨"BatchDoser", m_nw_in (List.mem_append_right _ (List.mem_of_getElem? (i := 109) (by decide +kernel))) rfl⟩⟩
theorem ll_X5_126 : Cond.methodLink RX5 126 yX5_needLot ∈ m_ws := m_ws_in (List.mem_append_right _ (List.mem_of_getElem? (i := 654) (by decide +kernel))) rfl
theorem lk_X5_126 : m_LK RX5 126 M_X5_needLot := Or.inl ll_X5_126
theorem fl_X5_132 : m_FL RX5 132 1 14 := ⟨RX1, TX1, 16, rfl, by decide, Or.inr ⟨"BatchDoser", m_nw_in (List.mem_append_right _ (List.mem_of_getElem? (i := 172) (by decide +kernel))) rfl⟩⟩
theorem ll_X5_135 : Cond.methodLink RX5 135 yX2_firstBatchOf ∈ m_ws := m_ws_in (List.mem_append_right _ (List.mem_of_getElem? (i := 663) (by decide +kernel))) rfl
theorem lk_X5_135 : m_LK RX5 135 M_X2_firstBatchOf := Or.inl ll_X5_135
theorem ll_X5_138 : Cond.methodLink RX5 138 yX5_needBatch ∈ m_ws := m_ws_in (List.mem_append_right _ (List.mem_of_getElem? (i := 675) (by decide +kernel))) rfl
theorem lk_X5_138 : m_LK RX5 138 M_X5_needBatch := Or.inl ll_X5_138
theorem ll_X5_141 : Cond.methodLink RX5 141 yX2_usedFor ∈ m_ws := m_ws_in (List.mem_append_right _ (List.mem_of_getElem? (i := 680) (by decide +kernel))) rfl
theorem lk_X5_141 : m_LK RX5 141 M_X2_usedFor := Or.inl ll_X5_141
theorem fl_X5_144 : m_FL RX5 144 3 3 := ⟨RX3, TX3, 4, rfl, by decide, Or.inr ⟨"BatchDoser", m_nw_in (List.mem_append_right _ (List.mem_of_getElem? (i := 138) (by decide +kernel))) rfl⟩⟩
theorem ll_X5_147 : Cond.methodLink RX5 147 yX3_append ∈ m_ws := m_ws_in (List.mem_append_right _ (List.mem_of_getElem? (i := 361) (by decide +kernel))) rfl
theorem lk_X5_147 : m_LK RX5 147 M_X3_append := Or.inl ll_X5_147
theorem ll_X5_151 : Cond.methodLink RX5 151 yX1_startBatch ∈ m_ws := m_ws_in (List.mem_append_right _ (List.mem_of_getElem? (i := 508) (by decide +kernel))) rfl
theorem lk_X5_151 : m_LK RX5 151 M_X1_startBatch := Or.inl ll_X5_151
theorem fl_X5_157 : m_FL RX5 157 1 6 := ⟨RX1, TX1, 16, rfl, by decide, Or.inr ⟨"BatchDoser", m_nw_in (List.mem_append_right _ (List.mem_of_getElem? (i := 161) (by decide +kernel))) rfl⟩⟩
theorem ll_X5_154 : Cond.methodLink RX5 154 yX1_halt ∈ m_ws := m_ws_in (List.mem_append_right _ (List.mem_of_getElem? (i := 388) (by decide +kernel))) rfl
theorem lk_X5_154 : m_LK RX5 154 M_X1_halt := Or.inl ll_X5_154
theorem ll_X5_160 : Cond.methodLink RX5 160 yX1_goOn ∈ m_ws := m_ws_in (List.mem_append_right _ (List.mem_of_getElem? (i := 415) (by decide +kernel))) rfl
theorem lk_X5_160 : m_LK RX5 160 M_X1_goOn := Or.inl ll_X5_160
theorem ll_X5_163 : Cond.methodLink RX5 163 yX1_breakOff ∈ m_ws := m_ws_in (List.mem_append_right _ (List.mem_of_getElem? (i := 471) (by decide +kernel))) rfl
theorem lk_X5_163 : m_LK RX5 163 M_X1_breakOff := Or.inl ll_X5_163
theorem fl_X5_166 : m_FL RX5 166 1 5 := ⟨RX1, TX1, 16, rfl, by decide, Or.inr ⟨"BatchDoser", m_nw_in (List.mem_append_right _ (List.mem_of_getElem? (i := 159) (by decide +kernel))) rfl⟩⟩
theorem fl_X5_169 : m_FL RX5 169 1 9 := ⟨RX1, TX1, 16, rfl, by decide, Or.inr ⟨"BatchDoser", m_nw_in (List.mem_append_right _ (List.mem_of_getElem? (i := 165) (by decide +kernel))) rfl⟩⟩
theorem fl_X5_172 : m_FL RX5 172 1 10 := ⟨RX1, TX1, 16, rfl, by decide, Or.inr ⟨"BatchDoser", m_nw_in (List.mem_append_right _ (List.mem_of_getElem? (i := 167) (by decide +kernel))) rfl⟩⟩
theorem fl_X5_175 : m_FL RX5 175 1 15 := ⟨RX1, TX1, 16, rfl, by decide, Or.inr ⟨"BatchDoser", m_nw_in (List.mem_append_right _ (List.mem_of_getElem? (i := 174) (by decide +kernel))) rfl⟩⟩
theorem fl_X5_178 : m_FL RX5 178 5 5 := ⟨RX5, TX5, 6, rfl, by decide, Or.inl (m_ws_in (List.mem_append_right _ (List.mem_of_getElem? (i := 213) (by decide +kernel))) rfl)⟩
theorem fw_X5_178 : ∀ (C : String) (T : u_T) (N : Nat), m_cl[5]? = some (C, T, N) → Cond.fieldLink RX5 178 (T 5).1 (T 5).2.1 (T 5).2.2.1 ∈ m_ws := fun C T N h => by cases h; exact m_ws_in (List.mem_append_right _ (List.mem_of_getElem? (i := 213) (by decide +kernel))) rfl
theorem fp_X5_5 : m_FP 5 5 (.long) := ⟨RX5, TX5, 6, rfl, rfl, by decide +kernel⟩
theorem cs_X5_83 : Cond.constant RX5 83 (100000) ∈ m_ws := m_ws_in (List.mem_append_right _ (List.mem_of_getElem? (i := 311) (by decide +kernel))) rfl
theorem cs_X5_182 : Cond.constantLong RX5 182 (1000) ∈ m_ws := m_ws_in (List.mem_append_right _ (List.mem_of_getElem? (i := 370) (by decide +kernel))) rfl
theorem aw_int : Cond.arrayClass .int ∈ m_ws := m_ws_in (by decide +kernel) rfl
theorem xc_X5_184 : Cond.classLink RX5 184 "java/lang/IndexOutOfBoundsException" ∈ m_ws := m_ws_in (List.mem_append_right _ (List.mem_of_getElem? (i := 243) (by decide +kernel))) rfl
theorem xi_X5_184 : Cond.initialized "java/lang/IndexOutOfBoundsException" ∈ m_ws := m_ws_in (List.mem_append_right _ (List.mem_of_getElem? (i := 10) (by decide +kernel))) rfl
theorem xw_X5_188 : ∀ w ∈ vx_atS RX5 188 "java/lang/IndexOutOfBoundsException" ["java/lang/RuntimeException", "java/lang/Exception"], w ∈ m_ws ∨ w ∈ m_nw := by
  have h : ∀ w ∈ vx_atS RX5 188 "java/lang/IndexOutOfBoundsException" ["java/lang/RuntimeException", "java/lang/Exception"], w ∈ lw_tbl ∧ (goodWord w || m_isN w) = true := by decide +kernel
  intro w hw
  obtain ⟨h1, h2⟩ := h w hw
  rcases Bool.or_eq_true _ _ |>.mp h2 with h2 | h2
  · exact Or.inl (m_ws_in h1 h2)
  · exact Or.inr (m_nw_in h1 h2)
theorem xc_X5_195 : Cond.classLink RX5 195 "java/lang/IllegalArgumentException" ∈ m_ws := m_ws_in (List.mem_append_right _ (List.mem_of_getElem? (i := 315) (by decide +kernel))) rfl
theorem xi_X5_195 : Cond.initialized "java/lang/IllegalArgumentException" ∈ m_ws := m_ws_in (List.mem_append_right _ (List.mem_of_getElem? (i := 11) (by decide +kernel))) rfl
theorem xw_X5_199 : ∀ w ∈ vx_atS RX5 199 "java/lang/IllegalArgumentException" ["java/lang/RuntimeException", "java/lang/Exception"], w ∈ m_ws ∨ w ∈ m_nw := by
  have h : ∀ w ∈ vx_atS RX5 199 "java/lang/IllegalArgumentException" ["java/lang/RuntimeException", "java/lang/Exception"], w ∈ lw_tbl ∧ (goodWord w || m_isN w) = true := by decide +kernel
  intro w hw
  obtain ⟨h1, h2⟩ := h w hw
  rcases Bool.or_eq_true _ _ |>.mp h2 with h2 | h2
  · exact Or.inl (m_ws_in h1 h2)
  · exact Or.inr (m_nw_in h1 h2)
theorem xc_X5_200 : Cond.classLink RX5 200 "java/lang/IllegalStateException" ∈ m_ws := m_ws_in (List.mem_append_right _ (List.mem_of_getElem? (i := 334) (by decide +kernel))) rfl
theorem xi_X5_200 : Cond.initialized "java/lang/IllegalStateException" ∈ m_ws := m_ws_in (List.mem_append_right _ (List.mem_of_getElem? (i := 12) (by decide +kernel))) rfl
theorem xw_X5_204 : ∀ w ∈ vx_atS RX5 204 "java/lang/IllegalStateException" ["java/lang/RuntimeException", "java/lang/Exception"], w ∈ m_ws ∨ w ∈ m_nw := by
  have h : ∀ w ∈ vx_atS RX5 204 "java/lang/IllegalStateException" ["java/lang/RuntimeException", "java/lang/Exception"], w ∈ lw_tbl ∧ (goodWord w || m_isN w) = true := by decide +kernel
  intro w hw
  obtain ⟨h1, h2⟩ := h w hw
  rcases Bool.or_eq_true _ _ |>.mp h2 with h2 | h2
  · exact Or.inl (m_ws_in h1 h2)
  · exact Or.inr (m_nw_in h1 h2)
theorem nc_X1_9 : Cond.classLink RX1 9 RX4 ∈ m_ws := m_ws_in (List.mem_append_right _ (List.mem_of_getElem? (i := 37) (by decide +kernel))) rfl
theorem ni_X4 : Cond.instantiable RX4 8 ∈ m_ws := m_ws_in (List.mem_append_right _ (List.mem_of_getElem? (i := 38) (by decide +kernel))) rfl
theorem nn_X4 : Cond.initialized RX4 ∈ m_ws := m_ws_in (List.mem_append_right _ (List.mem_of_getElem? (i := 3) (by decide +kernel))) rfl
theorem nc_X1_18 : Cond.classLink RX1 18 RX0 ∈ m_ws := m_ws_in (List.mem_append_right _ (List.mem_of_getElem? (i := 72) (by decide +kernel))) rfl
theorem ni_X0 : Cond.instantiable RX0 4 ∈ m_ws := m_ws_in (List.mem_append_right _ (List.mem_of_getElem? (i := 73) (by decide +kernel))) rfl
theorem nn_X0 : Cond.initialized RX0 ∈ m_ws := m_ws_in (List.mem_append_right _ (List.mem_of_getElem? (i := 4) (by decide +kernel))) rfl
theorem nc_X1_25 : Cond.classLink RX1 25 RX2 ∈ m_ws := m_ws_in (List.mem_append_right _ (List.mem_of_getElem? (i := 100) (by decide +kernel))) rfl
theorem ni_X2 : Cond.instantiable RX2 5 ∈ m_ws := m_ws_in (List.mem_append_right _ (List.mem_of_getElem? (i := 101) (by decide +kernel))) rfl
theorem nn_X2 : Cond.initialized RX2 ∈ m_ws := m_ws_in (List.mem_append_right _ (List.mem_of_getElem? (i := 5) (by decide +kernel))) rfl
theorem nc_X1_32 : Cond.classLink RX1 32 RX3 ∈ m_ws := m_ws_in (List.mem_append_right _ (List.mem_of_getElem? (i := 124) (by decide +kernel))) rfl
theorem ni_X3 : Cond.instantiable RX3 4 ∈ m_ws := m_ws_in (List.mem_append_right _ (List.mem_of_getElem? (i := 125) (by decide +kernel))) rfl
theorem nn_X3 : Cond.initialized RX3 ∈ m_ws := m_ws_in (List.mem_append_right _ (List.mem_of_getElem? (i := 6) (by decide +kernel))) rfl
theorem nc_X5_7 : Cond.classLink RX5 7 RX1 ∈ m_ws := m_ws_in (List.mem_append_right _ (List.mem_of_getElem? (i := 31) (by decide +kernel))) rfl
theorem ni_X1 : Cond.instantiable RX1 16 ∈ m_ws := m_ws_in (List.mem_append_right _ (List.mem_of_getElem? (i := 32) (by decide +kernel))) rfl
theorem nn_X1 : Cond.initialized RX1 ∈ m_ws := m_ws_in (List.mem_append_right _ (List.mem_of_getElem? (i := 2) (by decide +kernel))) rfl
theorem ni_X5 : Cond.instantiable RX5 6 ∈ m_ws := m_ws_in (List.mem_append_right _ (List.mem_of_getElem? (i := 24) (by decide +kernel))) rfl
theorem nn_X5 : Cond.initialized RX5 ∈ m_ws := m_ws_in (List.mem_append_right _ (List.mem_of_getElem? (i := 1) (by decide +kernel))) rfl

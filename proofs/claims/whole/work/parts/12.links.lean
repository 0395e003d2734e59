abbrev M_X0_init : m_M := (yX0_init, cX0_init, 2, none, 1, 4, 16)
theorem mk_X0_init : m_MK M_X0_init 0 := ⟨m_ws_in (List.mem_append_right _ (List.mem_of_getElem? (i := 68) (by decide +kernel))) rfl, m_ws_in (List.mem_append_right _ (List.mem_of_getElem? (i := 4) (by decide +kernel))) rfl, by decide +kernel⟩
theorem in_X0_init : Cond.instanceMethod yX0_init ∈ m_ws := m_ws_in (List.mem_append_right _ (List.mem_of_getElem? (i := 67) (by decide +kernel))) rfl
abbrev M_X0_learn : m_M := (yX0_learn, cX0_learn, 4, none, 1, 0, 0)
theorem mk_X0_learn : m_MK M_X0_learn 2 := ⟨m_ws_in (List.mem_append_right _ (List.mem_of_getElem? (i := 411) (by decide +kernel))) rfl, m_ws_in (List.mem_append_right _ (List.mem_of_getElem? (i := 4) (by decide +kernel))) rfl, by decide +kernel⟩
theorem in_X0_learn : Cond.instanceMethod yX0_learn ∈ m_ws := m_ws_in (List.mem_append_right _ (List.mem_of_getElem? (i := 409) (by decide +kernel))) rfl
theorem se_X0_learn : Cond.selects RX0 yX0_learn yX0_learn ∈ m_ws := m_ws_in (List.mem_append_right _ (List.mem_of_getElem? (i := 410) (by decide +kernel))) rfl
abbrev M_X1_init : m_M := (yX1_init, cX1_init, 1, none, 2, 15, 745)
theorem mk_X1_init : m_MK M_X1_init 0 := ⟨m_ws_in (List.mem_append_right _ (List.mem_of_getElem? (i := 27) (by decide +kernel))) rfl, m_ws_in (List.mem_append_right _ (List.mem_of_getElem? (i := 2) (by decide +kernel))) rfl, by decide +kernel⟩
theorem in_X1_init : Cond.instanceMethod yX1_init ∈ m_ws := m_ws_in (List.mem_append_right _ (List.mem_of_getElem? (i := 26) (by decide +kernel))) rfl
abbrev M_X1_bring : m_M := (yX1_bring, cX1_bring, 2, none, 5, 0, 0)
theorem mk_X1_bring : m_MK M_X1_bring 1 := ⟨m_ws_in (List.mem_append_right _ (List.mem_of_getElem? (i := 363) (by decide +kernel))) rfl, m_ws_in (List.mem_append_right _ (List.mem_of_getElem? (i := 2) (by decide +kernel))) rfl, by decide +kernel⟩
theorem in_X1_bring : Cond.instanceMethod yX1_bring ∈ m_ws := m_ws_in (List.mem_append_right _ (List.mem_of_getElem? (i := 361) (by decide +kernel))) rfl
theorem se_X1_bring : Cond.selects RX1 yX1_bring yX1_bring ∈ m_ws := m_ws_in (List.mem_append_right _ (List.mem_of_getElem? (i := 362) (by decide +kernel))) rfl
abbrev M_X1_gateOf : m_M := (yX1_gateOf, cX1_gateOf, 2, (some .int), 2, 0, 0)
theorem mk_X1_gateOf : m_MK M_X1_gateOf 1 := ⟨m_ws_in (List.mem_append_right _ (List.mem_of_getElem? (i := 550) (by decide +kernel))) rfl, m_ws_in (List.mem_append_right _ (List.mem_of_getElem? (i := 2) (by decide +kernel))) rfl, by decide +kernel⟩
theorem in_X1_gateOf : Cond.instanceMethod yX1_gateOf ∈ m_ws := m_ws_in (List.mem_append_right _ (List.mem_of_getElem? (i := 548) (by decide +kernel))) rfl
theorem se_X1_gateOf : Cond.selects RX1 yX1_gateOf yX1_gateOf ∈ m_ws := m_ws_in (List.mem_append_right _ (List.mem_of_getElem? (i := 549) (by decide +kernel))) rfl
abbrev M_X1_startBatch : m_M := (yX1_startBatch, cX1_startBatch, 2, (some .int), 2, 0, 0)
theorem mk_X1_startBatch : m_MK M_X1_startBatch 0 := ⟨m_ws_in (List.mem_append_right _ (List.mem_of_getElem? (i := 649) (by decide +kernel))) rfl, m_ws_in (List.mem_append_right _ (List.mem_of_getElem? (i := 2) (by decide +kernel))) rfl, by decide +kernel⟩
theorem in_X1_startBatch : Cond.instanceMethod yX1_startBatch ∈ m_ws := m_ws_in (List.mem_append_right _ (List.mem_of_getElem? (i := 647) (by decide +kernel))) rfl
theorem se_X1_startBatch : Cond.selects RX1 yX1_startBatch yX1_startBatch ∈ m_ws := m_ws_in (List.mem_append_right _ (List.mem_of_getElem? (i := 648) (by decide +kernel))) rfl
abbrev M_X1_halt : m_M := (yX1_halt, cX1_halt, 2, none, 1, 0, 0)
theorem mk_X1_halt : m_MK M_X1_halt 1 := ⟨m_ws_in (List.mem_append_right _ (List.mem_of_getElem? (i := 403) (by decide +kernel))) rfl, m_ws_in (List.mem_append_right _ (List.mem_of_getElem? (i := 2) (by decide +kernel))) rfl, by decide +kernel⟩
theorem in_X1_halt : Cond.instanceMethod yX1_halt ∈ m_ws := m_ws_in (List.mem_append_right _ (List.mem_of_getElem? (i := 401) (by decide +kernel))) rfl
theorem se_X1_halt : Cond.selects RX1 yX1_halt yX1_halt ∈ m_ws := m_ws_in (List.mem_append_right _ (List.mem_of_getElem? (i := 402) (by decide +kernel))) rfl
abbrev M_X1_goOn : m_M := (yX1_goOn, cX1_goOn, 1, none, 4, 0, 0)
theorem mk_X1_goOn : m_MK M_X1_goOn 0 := ⟨m_ws_in (List.mem_append_right _ (List.mem_of_getElem? (i := 668) (by decide +kernel))) rfl, m_ws_in (List.mem_append_right _ (List.mem_of_getElem? (i := 2) (by decide +kernel))) rfl, by decide +kernel⟩
theorem in_X1_goOn : Cond.instanceMethod yX1_goOn ∈ m_ws := m_ws_in (List.mem_append_right _ (List.mem_of_getElem? (i := 666) (by decide +kernel))) rfl
theorem se_X1_goOn : Cond.selects RX1 yX1_goOn yX1_goOn ∈ m_ws := m_ws_in (List.mem_append_right _ (List.mem_of_getElem? (i := 667) (by decide +kernel))) rfl
abbrev M_X1_breakOff : m_M := (yX1_breakOff, cX1_breakOff, 2, (some .int), 3, 0, 0)
theorem mk_X1_breakOff : m_MK M_X1_breakOff 0 := ⟨m_ws_in (List.mem_append_right _ (List.mem_of_getElem? (i := 679) (by decide +kernel))) rfl, m_ws_in (List.mem_append_right _ (List.mem_of_getElem? (i := 2) (by decide +kernel))) rfl, by decide +kernel⟩
theorem in_X1_breakOff : Cond.instanceMethod yX1_breakOff ∈ m_ws := m_ws_in (List.mem_append_right _ (List.mem_of_getElem? (i := 677) (by decide +kernel))) rfl
theorem se_X1_breakOff : Cond.selects RX1 yX1_breakOff yX1_breakOff ∈ m_ws := m_ws_in (List.mem_append_right _ (List.mem_of_getElem? (i := 678) (by decide +kernel))) rfl
abbrev M_X1_tareStep : m_M := (yX1_tareStep, cX1_tareStep, 1, none, 2, 0, 0)
theorem mk_X1_tareStep : m_MK M_X1_tareStep 0 := ⟨m_ws_in (List.mem_append_right _ (List.mem_of_getElem? (i := 377) (by decide +kernel))) rfl, m_ws_in (List.mem_append_right _ (List.mem_of_getElem? (i := 2) (by decide +kernel))) rfl, by decide +kernel⟩
theorem in_X1_tareStep : Cond.instanceMethod yX1_tareStep ∈ m_ws := m_ws_in (List.mem_append_right _ (List.mem_of_getElem? (i := 376) (by decide +kernel))) rfl
theorem se_X1_tareStep : Cond.selects RX1 yX1_tareStep yX1_tareStep ∈ m_ws := m_ws_in (List.mem_append_left _ (List.mem_of_getElem? (i := 1) (by decide +kernel))) rfl
abbrev M_X1_feed : m_M := (yX1_feed, cX1_feed, 3, none, 2, 0, 0)
theorem mk_X1_feed : m_MK M_X1_feed 0 := ⟨m_ws_in (List.mem_append_right _ (List.mem_of_getElem? (i := 398) (by decide +kernel))) rfl, m_ws_in (List.mem_append_right _ (List.mem_of_getElem? (i := 2) (by decide +kernel))) rfl, by decide +kernel⟩
theorem in_X1_feed : Cond.instanceMethod yX1_feed ∈ m_ws := m_ws_in (List.mem_append_right _ (List.mem_of_getElem? (i := 397) (by decide +kernel))) rfl
theorem se_X1_feed : Cond.selects RX1 yX1_feed yX1_feed ∈ m_ws := m_ws_in (List.mem_append_left _ (List.mem_of_getElem? (i := 5) (by decide +kernel))) rfl
abbrev M_X1_weigh : m_M := (yX1_weigh, cX1_weigh, 3, none, 4, 0, 0)
theorem mk_X1_weigh : m_MK M_X1_weigh 0 := ⟨m_ws_in (List.mem_append_right _ (List.mem_of_getElem? (i := 407) (by decide +kernel))) rfl, m_ws_in (List.mem_append_right _ (List.mem_of_getElem? (i := 2) (by decide +kernel))) rfl, by decide +kernel⟩
theorem in_X1_weigh : Cond.instanceMethod yX1_weigh ∈ m_ws := m_ws_in (List.mem_append_right _ (List.mem_of_getElem? (i := 406) (by decide +kernel))) rfl
theorem se_X1_weigh : Cond.selects RX1 yX1_weigh yX1_weigh ∈ m_ws := m_ws_in (List.mem_append_left _ (List.mem_of_getElem? (i := 6) (by decide +kernel))) rfl
abbrev M_X1_jog : m_M := (yX1_jog, cX1_jog, 1, none, 2, 0, 0)
theorem mk_X1_jog : m_MK M_X1_jog 0 := ⟨m_ws_in (List.mem_append_right _ (List.mem_of_getElem? (i := 424) (by decide +kernel))) rfl, m_ws_in (List.mem_append_right _ (List.mem_of_getElem? (i := 2) (by decide +kernel))) rfl, by decide +kernel⟩
theorem in_X1_jog : Cond.instanceMethod yX1_jog ∈ m_ws := m_ws_in (List.mem_append_right _ (List.mem_of_getElem? (i := 423) (by decide +kernel))) rfl
theorem se_X1_jog : Cond.selects RX1 yX1_jog yX1_jog ∈ m_ws := m_ws_in (List.mem_append_left _ (List.mem_of_getElem? (i := 7) (by decide +kernel))) rfl
abbrev M_X1_finishStep : m_M := (yX1_finishStep, cX1_finishStep, 1, none, 3, 0, 0)
theorem mk_X1_finishStep : m_MK M_X1_finishStep 0 := ⟨m_ws_in (List.mem_append_right _ (List.mem_of_getElem? (i := 428) (by decide +kernel))) rfl, m_ws_in (List.mem_append_right _ (List.mem_of_getElem? (i := 2) (by decide +kernel))) rfl, by decide +kernel⟩
theorem in_X1_finishStep : Cond.instanceMethod yX1_finishStep ∈ m_ws := m_ws_in (List.mem_append_right _ (List.mem_of_getElem? (i := 427) (by decide +kernel))) rfl
theorem se_X1_finishStep : Cond.selects RX1 yX1_finishStep yX1_finishStep ∈ m_ws := m_ws_in (List.mem_append_left _ (List.mem_of_getElem? (i := 8) (by decide +kernel))) rfl
abbrev M_X1_beginStep : m_M := (yX1_beginStep, cX1_beginStep, 2, none, 1, 0, 0)
theorem mk_X1_beginStep : m_MK M_X1_beginStep 1 := ⟨m_ws_in (List.mem_append_right _ (List.mem_of_getElem? (i := 450) (by decide +kernel))) rfl, m_ws_in (List.mem_append_right _ (List.mem_of_getElem? (i := 2) (by decide +kernel))) rfl, by decide +kernel⟩
theorem in_X1_beginStep : Cond.instanceMethod yX1_beginStep ∈ m_ws := m_ws_in (List.mem_append_right _ (List.mem_of_getElem? (i := 449) (by decide +kernel))) rfl
theorem se_X1_beginStep : Cond.selects RX1 yX1_beginStep yX1_beginStep ∈ m_ws := m_ws_in (List.mem_append_left _ (List.mem_of_getElem? (i := 10) (by decide +kernel))) rfl
abbrev M_X1_enter : m_M := (yX1_enter, cX1_enter, 2, none, 0, 0, 0)
theorem mk_X1_enter : m_MK M_X1_enter 1 := ⟨m_ws_in (List.mem_append_right _ (List.mem_of_getElem? (i := 394) (by decide +kernel))) rfl, m_ws_in (List.mem_append_right _ (List.mem_of_getElem? (i := 2) (by decide +kernel))) rfl, by decide +kernel⟩
theorem in_X1_enter : Cond.instanceMethod yX1_enter ∈ m_ws := m_ws_in (List.mem_append_right _ (List.mem_of_getElem? (i := 393) (by decide +kernel))) rfl
theorem se_X1_enter : Cond.selects RX1 yX1_enter yX1_enter ∈ m_ws := m_ws_in (List.mem_append_left _ (List.mem_of_getElem? (i := 4) (by decide +kernel))) rfl
abbrev M_X1_bookNet : m_M := (yX1_bookNet, cX1_bookNet, 4, (some .int), 2, 0, 0)
theorem mk_X1_bookNet : m_MK M_X1_bookNet 0 := ⟨m_ws_in (List.mem_append_right _ (List.mem_of_getElem? (i := 432) (by decide +kernel))) rfl, m_ws_in (List.mem_append_right _ (List.mem_of_getElem? (i := 2) (by decide +kernel))) rfl, by decide +kernel⟩
theorem in_X1_bookNet : Cond.instanceMethod yX1_bookNet ∈ m_ws := m_ws_in (List.mem_append_right _ (List.mem_of_getElem? (i := 431) (by decide +kernel))) rfl
theorem se_X1_bookNet : Cond.selects RX1 yX1_bookNet yX1_bookNet ∈ m_ws := m_ws_in (List.mem_append_left _ (List.mem_of_getElem? (i := 9) (by decide +kernel))) rfl
abbrev M_X1_stepBin : m_M := (yX1_stepBin, cX1_stepBin, 1, (some .int), 1, 0, 0)
theorem mk_X1_stepBin : m_MK M_X1_stepBin 0 := ⟨m_ws_in (List.mem_append_right _ (List.mem_of_getElem? (i := 390) (by decide +kernel))) rfl, m_ws_in (List.mem_append_right _ (List.mem_of_getElem? (i := 2) (by decide +kernel))) rfl, by decide +kernel⟩
theorem in_X1_stepBin : Cond.instanceMethod yX1_stepBin ∈ m_ws := m_ws_in (List.mem_append_right _ (List.mem_of_getElem? (i := 389) (by decide +kernel))) rfl
theorem se_X1_stepBin : Cond.selects RX1 yX1_stepBin yX1_stepBin ∈ m_ws := m_ws_in (List.mem_append_left _ (List.mem_of_getElem? (i := 3) (by decide +kernel))) rfl
abbrev M_X1_target : m_M := (yX1_target, cX1_target, 1, (some .int), 1, 0, 0)
theorem mk_X1_target : m_MK M_X1_target 0 := ⟨m_ws_in (List.mem_append_right _ (List.mem_of_getElem? (i := 383) (by decide +kernel))) rfl, m_ws_in (List.mem_append_right _ (List.mem_of_getElem? (i := 2) (by decide +kernel))) rfl, by decide +kernel⟩
theorem in_X1_target : Cond.instanceMethod yX1_target ∈ m_ws := m_ws_in (List.mem_append_right _ (List.mem_of_getElem? (i := 382) (by decide +kernel))) rfl
theorem se_X1_target : Cond.selects RX1 yX1_target yX1_target ∈ m_ws := m_ws_in (List.mem_append_left _ (List.mem_of_getElem? (i := 2) (by decide +kernel))) rfl
abbrev M_X2_init : m_M := (yX2_init, cX2_init, 1, none, 1, 4, 690)
theorem mk_X2_init : m_MK M_X2_init 0 := ⟨m_ws_in (List.mem_append_right _ (List.mem_of_getElem? (i := 96) (by decide +kernel))) rfl, m_ws_in (List.mem_append_right _ (List.mem_of_getElem? (i := 5) (by decide +kernel))) rfl, by decide +kernel⟩
theorem in_X2_init : Cond.instanceMethod yX2_init ∈ m_ws := m_ws_in (List.mem_append_right _ (List.mem_of_getElem? (i := 95) (by decide +kernel))) rfl
abbrev M_X2_store : m_M := (yX2_store, cX2_store, 4, (some .int), 1, 0, 0)
theorem mk_X2_store : m_MK M_X2_store 2 := ⟨m_ws_in (List.mem_append_right _ (List.mem_of_getElem? (i := 522) (by decide +kernel))) rfl, m_ws_in (List.mem_append_right _ (List.mem_of_getElem? (i := 5) (by decide +kernel))) rfl, by decide +kernel⟩
theorem in_X2_store : Cond.instanceMethod yX2_store ∈ m_ws := m_ws_in (List.mem_append_right _ (List.mem_of_getElem? (i := 520) (by decide +kernel))) rfl
theorem se_X2_store : Cond.selects RX2 yX2_store yX2_store ∈ m_ws := m_ws_in (List.mem_append_right _ (List.mem_of_getElem? (i := 521) (by decide +kernel))) rfl
abbrev M_X2_takeOut : m_M := (yX2_takeOut, cX2_takeOut, 7, (some .int), 1, 0, 0)
theorem mk_X2_takeOut : m_MK M_X2_takeOut 3 := ⟨m_ws_in (List.mem_append_right _ (List.mem_of_getElem? (i := 437) (by decide +kernel))) rfl, m_ws_in (List.mem_append_right _ (List.mem_of_getElem? (i := 5) (by decide +kernel))) rfl, by decide +kernel⟩
theorem in_X2_takeOut : Cond.instanceMethod yX2_takeOut ∈ m_ws := m_ws_in (List.mem_append_right _ (List.mem_of_getElem? (i := 435) (by decide +kernel))) rfl
theorem se_X2_takeOut : Cond.selects RX2 yX2_takeOut yX2_takeOut ∈ m_ws := m_ws_in (List.mem_append_right _ (List.mem_of_getElem? (i := 436) (by decide +kernel))) rfl
abbrev M_X2_leftIn : m_M := (yX2_leftIn, cX2_leftIn, 4, (some .int), 1, 0, 0)
theorem mk_X2_leftIn : m_MK M_X2_leftIn 1 := ⟨m_ws_in (List.mem_append_right _ (List.mem_of_getElem? (i := 561) (by decide +kernel))) rfl, m_ws_in (List.mem_append_right _ (List.mem_of_getElem? (i := 5) (by decide +kernel))) rfl, by decide +kernel⟩
theorem in_X2_leftIn : Cond.instanceMethod yX2_leftIn ∈ m_ws := m_ws_in (List.mem_append_right _ (List.mem_of_getElem? (i := 559) (by decide +kernel))) rfl
theorem se_X2_leftIn : Cond.selects RX2 yX2_leftIn yX2_leftIn ∈ m_ws := m_ws_in (List.mem_append_right _ (List.mem_of_getElem? (i := 560) (by decide +kernel))) rfl
abbrev M_X2_goneFrom : m_M := (yX2_goneFrom, cX2_goneFrom, 4, (some .int), 1, 0, 0)
theorem mk_X2_goneFrom : m_MK M_X2_goneFrom 1 := ⟨m_ws_in (List.mem_append_right _ (List.mem_of_getElem? (i := 579) (by decide +kernel))) rfl, m_ws_in (List.mem_append_right _ (List.mem_of_getElem? (i := 5) (by decide +kernel))) rfl, by decide +kernel⟩
theorem in_X2_goneFrom : Cond.instanceMethod yX2_goneFrom ∈ m_ws := m_ws_in (List.mem_append_right _ (List.mem_of_getElem? (i := 577) (by decide +kernel))) rfl
theorem se_X2_goneFrom : Cond.selects RX2 yX2_goneFrom yX2_goneFrom ∈ m_ws := m_ws_in (List.mem_append_right _ (List.mem_of_getElem? (i := 578) (by decide +kernel))) rfl
abbrev M_X2_usedFor : m_M := (yX2_usedFor, cX2_usedFor, 3, (some .int), 1, 0, 0)
theorem mk_X2_usedFor : m_MK M_X2_usedFor 2 := ⟨m_ws_in (List.mem_append_right _ (List.mem_of_getElem? (i := 606) (by decide +kernel))) rfl, m_ws_in (List.mem_append_right _ (List.mem_of_getElem? (i := 5) (by decide +kernel))) rfl, by decide +kernel⟩
theorem in_X2_usedFor : Cond.instanceMethod yX2_usedFor ∈ m_ws := m_ws_in (List.mem_append_right _ (List.mem_of_getElem? (i := 604) (by decide +kernel))) rfl
theorem se_X2_usedFor : Cond.selects RX2 yX2_usedFor yX2_usedFor ∈ m_ws := m_ws_in (List.mem_append_right _ (List.mem_of_getElem? (i := 605) (by decide +kernel))) rfl
abbrev M_X2_firstBatchOf : m_M := (yX2_firstBatchOf, cX2_firstBatchOf, 4, (some .int), 2, 0, 0)
theorem mk_X2_firstBatchOf : m_MK M_X2_firstBatchOf 2 := ⟨m_ws_in (List.mem_append_right _ (List.mem_of_getElem? (i := 602) (by decide +kernel))) rfl, m_ws_in (List.mem_append_right _ (List.mem_of_getElem? (i := 5) (by decide +kernel))) rfl, by decide +kernel⟩
theorem in_X2_firstBatchOf : Cond.instanceMethod yX2_firstBatchOf ∈ m_ws := m_ws_in (List.mem_append_right _ (List.mem_of_getElem? (i := 600) (by decide +kernel))) rfl
theorem se_X2_firstBatchOf : Cond.selects RX2 yX2_firstBatchOf yX2_firstBatchOf ∈ m_ws := m_ws_in (List.mem_append_right _ (List.mem_of_getElem? (i := 601) (by decide +kernel))) rfl
abbrev M_X2_place : m_M := (yX2_place, cX2_place, 2, (some .int), 0, 0, 0)
theorem mk_X2_place : m_MK M_X2_place 2 := ⟨m_ws_in (List.mem_append_right _ (List.mem_of_getElem? (i := 445) (by decide +kernel))) rfl, m_ws_in (List.mem_append_right _ (List.mem_of_getElem? (i := 5) (by decide +kernel))) rfl, by decide +kernel⟩
theorem st_X2_place : Cond.static yX2_place ∈ m_ws := m_ws_in (List.mem_append_right _ (List.mem_of_getElem? (i := 444) (by decide +kernel))) rfl
abbrev M_X3_init : m_M := (yX3_init, cX3_init, 1, none, 1, 3, 18)
theorem mk_X3_init : m_MK M_X3_init 0 := ⟨m_ws_in (List.mem_append_right _ (List.mem_of_getElem? (i := 120) (by decide +kernel))) rfl, m_ws_in (List.mem_append_right _ (List.mem_of_getElem? (i := 6) (by decide +kernel))) rfl, by decide +kernel⟩
theorem in_X3_init : Cond.instanceMethod yX3_init ∈ m_ws := m_ws_in (List.mem_append_right _ (List.mem_of_getElem? (i := 119) (by decide +kernel))) rfl
abbrev M_X3_append : m_M := (yX3_append, cX3_append, 4, none, 1, 0, 0)
theorem mk_X3_append : m_MK M_X3_append 3 := ⟨m_ws_in (List.mem_append_right _ (List.mem_of_getElem? (i := 630) (by decide +kernel))) rfl, m_ws_in (List.mem_append_right _ (List.mem_of_getElem? (i := 6) (by decide +kernel))) rfl, by decide +kernel⟩
theorem in_X3_append : Cond.instanceMethod yX3_append ∈ m_ws := m_ws_in (List.mem_append_right _ (List.mem_of_getElem? (i := 628) (by decide +kernel))) rfl
theorem se_X3_append : Cond.selects RX3 yX3_append yX3_append ∈ m_ws := m_ws_in (List.mem_append_right _ (List.mem_of_getElem? (i := 629) (by decide +kernel))) rfl
abbrev M_X4_init : m_M := (yX4_init, cX4_init, 1, none, 1, 0, 0)
theorem mk_X4_init : m_MK M_X4_init 0 := ⟨m_ws_in (List.mem_append_right _ (List.mem_of_getElem? (i := 33) (by decide +kernel))) rfl, m_ws_in (List.mem_append_right _ (List.mem_of_getElem? (i := 3) (by decide +kernel))) rfl, by decide +kernel⟩
theorem in_X4_init : Cond.instanceMethod yX4_init ∈ m_ws := m_ws_in (List.mem_append_right _ (List.mem_of_getElem? (i := 32) (by decide +kernel))) rfl
abbrev M_X4_take : m_M := (yX4_take, cX4_take, 2, none, 0, 0, 0)
theorem mk_X4_take : m_MK M_X4_take 1 := ⟨m_ws_in (List.mem_append_right _ (List.mem_of_getElem? (i := 367) (by decide +kernel))) rfl, m_ws_in (List.mem_append_right _ (List.mem_of_getElem? (i := 3) (by decide +kernel))) rfl, by decide +kernel⟩
theorem in_X4_take : Cond.instanceMethod yX4_take ∈ m_ws := m_ws_in (List.mem_append_right _ (List.mem_of_getElem? (i := 365) (by decide +kernel))) rfl
theorem se_X4_take : Cond.selects RX4 yX4_take yX4_take ∈ m_ws := m_ws_in (List.mem_append_right _ (List.mem_of_getElem? (i := 366) (by decide +kernel))) rfl
abbrev M_X4_isCalm : m_M := (yX4_isCalm, cX4_isCalm, 3, (some .boolean), 1, 0, 0)
theorem mk_X4_isCalm : m_MK M_X4_isCalm 0 := ⟨m_ws_in (List.mem_append_right _ (List.mem_of_getElem? (i := 243) (by decide +kernel))) rfl, m_ws_in (List.mem_append_right _ (List.mem_of_getElem? (i := 3) (by decide +kernel))) rfl, by decide +kernel⟩
theorem in_X4_isCalm : Cond.instanceMethod yX4_isCalm ∈ m_ws := m_ws_in (List.mem_append_right _ (List.mem_of_getElem? (i := 241) (by decide +kernel))) rfl
theorem se_X4_isCalm : Cond.selects RX4 yX4_isCalm yX4_isCalm ∈ m_ws := m_ws_in (List.mem_append_right _ (List.mem_of_getElem? (i := 242) (by decide +kernel))) rfl
abbrev M_X4_grossNow : m_M := (yX4_grossNow, cX4_grossNow, 1, (some .int), 0, 0, 0)
theorem mk_X4_grossNow : m_MK M_X4_grossNow 0 := ⟨m_ws_in (List.mem_append_right _ (List.mem_of_getElem? (i := 226) (by decide +kernel))) rfl, m_ws_in (List.mem_append_right _ (List.mem_of_getElem? (i := 3) (by decide +kernel))) rfl, by decide +kernel⟩
theorem in_X4_grossNow : Cond.instanceMethod yX4_grossNow ∈ m_ws := m_ws_in (List.mem_append_right _ (List.mem_of_getElem? (i := 224) (by decide +kernel))) rfl
theorem se_X4_grossNow : Cond.selects RX4 yX4_grossNow yX4_grossNow ∈ m_ws := m_ws_in (List.mem_append_right _ (List.mem_of_getElem? (i := 225) (by decide +kernel))) rfl
abbrev M_X4_netNow : m_M := (yX4_netNow, cX4_netNow, 1, (some .int), 1, 0, 0)
theorem mk_X4_netNow : m_MK M_X4_netNow 0 := ⟨m_ws_in (List.mem_append_right _ (List.mem_of_getElem? (i := 234) (by decide +kernel))) rfl, m_ws_in (List.mem_append_right _ (List.mem_of_getElem? (i := 3) (by decide +kernel))) rfl, by decide +kernel⟩
theorem in_X4_netNow : Cond.instanceMethod yX4_netNow ∈ m_ws := m_ws_in (List.mem_append_right _ (List.mem_of_getElem? (i := 232) (by decide +kernel))) rfl
theorem se_X4_netNow : Cond.selects RX4 yX4_netNow yX4_netNow ∈ m_ws := m_ws_in (List.mem_append_right _ (List.mem_of_getElem? (i := 233) (by decide +kernel))) rfl
abbrev M_X4_trackZero : m_M := (yX4_trackZero, cX4_trackZero, 3, none, 2, 0, 0)
theorem mk_X4_trackZero : m_MK M_X4_trackZero 0 := ⟨m_ws_in (List.mem_append_right _ (List.mem_of_getElem? (i := 371) (by decide +kernel))) rfl, m_ws_in (List.mem_append_right _ (List.mem_of_getElem? (i := 3) (by decide +kernel))) rfl, by decide +kernel⟩
theorem in_X4_trackZero : Cond.instanceMethod yX4_trackZero ∈ m_ws := m_ws_in (List.mem_append_right _ (List.mem_of_getElem? (i := 369) (by decide +kernel))) rfl
theorem se_X4_trackZero : Cond.selects RX4 yX4_trackZero yX4_trackZero ∈ m_ws := m_ws_in (List.mem_append_right _ (List.mem_of_getElem? (i := 370) (by decide +kernel))) rfl
abbrev M_X5_init : m_M := (yX5_init, cX5_init, 1, none, 3, 16, 761)
theorem mk_X5_init : m_MK M_X5_init 0 := ⟨m_ws_in (List.mem_append_right _ (List.mem_of_getElem? (i := 19) (by decide +kernel))) rfl, m_ws_in (List.mem_append_right _ (List.mem_of_getElem? (i := 1) (by decide +kernel))) rfl, by decide +kernel⟩
theorem in_X5_init : Cond.instanceMethod yX5_init ∈ m_ws := m_ws_in (List.mem_append_right _ (List.mem_of_getElem? (i := 18) (by decide +kernel))) rfl
abbrev M_X5_tick : m_M := (yX5_tick, cX5_tick, 2, (some .int), 8, 0, 0)
theorem mk_X5_tick : m_MK M_X5_tick 1 := ⟨m_ws_in (List.mem_append_right _ (List.mem_of_getElem? (i := 281) (by decide +kernel))) rfl, m_ws_in (List.mem_append_right _ (List.mem_of_getElem? (i := 1) (by decide +kernel))) rfl, by decide +kernel⟩
abbrev Mx_X5_tick : m_M := (yX5_tick, cX5_tick, 2, (some .int), 8, 1, 6)
theorem mkx_X5_tick : m_MK Mx_X5_tick 1 := mk_X5_tick
theorem in_X5_tick : Cond.instanceMethod yX5_tick ∈ m_ws := m_ws_in (List.mem_append_right _ (List.mem_of_getElem? (i := 279) (by decide +kernel))) rfl
theorem se_X5_tick : Cond.selects RX5 yX5_tick yX5_tick ∈ m_ws := m_ws_in (List.mem_append_right _ (List.mem_of_getElem? (i := 280) (by decide +kernel))) rfl
abbrev M_X5_ticks : m_M := (yX5_ticks, cX5_ticks, 4, (some .int), 8, 0, 0)
theorem mk_X5_ticks : m_MK M_X5_ticks 2 := ⟨m_ws_in (List.mem_append_right _ (List.mem_of_getElem? (i := 457) (by decide +kernel))) rfl, m_ws_in (List.mem_append_right _ (List.mem_of_getElem? (i := 1) (by decide +kernel))) rfl, by decide +kernel⟩
abbrev Mx_X5_ticks : m_M := (yX5_ticks, cX5_ticks, 4, (some .int), 8, 1, 6)
theorem mkx_X5_ticks : m_MK Mx_X5_ticks 2 := mk_X5_ticks
theorem in_X5_ticks : Cond.instanceMethod yX5_ticks ∈ m_ws := m_ws_in (List.mem_append_right _ (List.mem_of_getElem? (i := 455) (by decide +kernel))) rfl
theorem se_X5_ticks : Cond.selects RX5 yX5_ticks yX5_ticks ∈ m_ws := m_ws_in (List.mem_append_right _ (List.mem_of_getElem? (i := 456) (by decide +kernel))) rfl
abbrev M_X5_zero : m_M := (yX5_zero, cX5_zero, 2, (some .int), 7, 0, 0)
theorem mk_X5_zero : m_MK M_X5_zero 0 := ⟨m_ws_in (List.mem_append_right _ (List.mem_of_getElem? (i := 465) (by decide +kernel))) rfl, m_ws_in (List.mem_append_right _ (List.mem_of_getElem? (i := 1) (by decide +kernel))) rfl, by decide +kernel⟩
abbrev Mx_X5_zero : m_M := (yX5_zero, cX5_zero, 2, (some .int), 7, 1, 6)
theorem mkx_X5_zero : m_MK Mx_X5_zero 0 := mk_X5_zero
theorem in_X5_zero : Cond.instanceMethod yX5_zero ∈ m_ws := m_ws_in (List.mem_append_right _ (List.mem_of_getElem? (i := 463) (by decide +kernel))) rfl
theorem se_X5_zero : Cond.selects RX5 yX5_zero yX5_zero ∈ m_ws := m_ws_in (List.mem_append_right _ (List.mem_of_getElem? (i := 464) (by decide +kernel))) rfl
abbrev M_X5_setBand : m_M := (yX5_setBand, cX5_setBand, 3, (some .int), 7, 0, 0)
theorem mk_X5_setBand : m_MK M_X5_setBand 1 := ⟨m_ws_in (List.mem_append_right _ (List.mem_of_getElem? (i := 491) (by decide +kernel))) rfl, m_ws_in (List.mem_append_right _ (List.mem_of_getElem? (i := 1) (by decide +kernel))) rfl, by decide +kernel⟩
abbrev Mx_X5_setBand : m_M := (yX5_setBand, cX5_setBand, 3, (some .int), 7, 1, 6)
theorem mkx_X5_setBand : m_MK Mx_X5_setBand 1 := mk_X5_setBand
theorem in_X5_setBand : Cond.instanceMethod yX5_setBand ∈ m_ws := m_ws_in (List.mem_append_right _ (List.mem_of_getElem? (i := 489) (by decide +kernel))) rfl
theorem se_X5_setBand : Cond.selects RX5 yX5_setBand yX5_setBand ∈ m_ws := m_ws_in (List.mem_append_right _ (List.mem_of_getElem? (i := 490) (by decide +kernel))) rfl
abbrev M_X5_gross : m_M := (yX5_gross, cX5_gross, 1, (some .int), 1, 0, 0)
theorem mk_X5_gross : m_MK M_X5_gross 0 := ⟨m_ws_in (List.mem_append_right _ (List.mem_of_getElem? (i := 222) (by decide +kernel))) rfl, m_ws_in (List.mem_append_right _ (List.mem_of_getElem? (i := 1) (by decide +kernel))) rfl, by decide +kernel⟩
theorem in_X5_gross : Cond.instanceMethod yX5_gross ∈ m_ws := m_ws_in (List.mem_append_right _ (List.mem_of_getElem? (i := 220) (by decide +kernel))) rfl
theorem se_X5_gross : Cond.selects RX5 yX5_gross yX5_gross ∈ m_ws := m_ws_in (List.mem_append_right _ (List.mem_of_getElem? (i := 221) (by decide +kernel))) rfl
abbrev M_X5_net : m_M := (yX5_net, cX5_net, 1, (some .int), 2, 0, 0)
theorem mk_X5_net : m_MK M_X5_net 0 := ⟨m_ws_in (List.mem_append_right _ (List.mem_of_getElem? (i := 230) (by decide +kernel))) rfl, m_ws_in (List.mem_append_right _ (List.mem_of_getElem? (i := 1) (by decide +kernel))) rfl, by decide +kernel⟩
theorem in_X5_net : Cond.instanceMethod yX5_net ∈ m_ws := m_ws_in (List.mem_append_right _ (List.mem_of_getElem? (i := 228) (by decide +kernel))) rfl
theorem se_X5_net : Cond.selects RX5 yX5_net yX5_net ∈ m_ws := m_ws_in (List.mem_append_right _ (List.mem_of_getElem? (i := 229) (by decide +kernel))) rfl
abbrev M_X5_isSettled : m_M := (yX5_isSettled, cX5_isSettled, 1, (some .boolean), 2, 0, 0)
theorem mk_X5_isSettled : m_MK M_X5_isSettled 0 := ⟨m_ws_in (List.mem_append_right _ (List.mem_of_getElem? (i := 239) (by decide +kernel))) rfl, m_ws_in (List.mem_append_right _ (List.mem_of_getElem? (i := 1) (by decide +kernel))) rfl, by decide +kernel⟩
theorem in_X5_isSettled : Cond.instanceMethod yX5_isSettled ∈ m_ws := m_ws_in (List.mem_append_right _ (List.mem_of_getElem? (i := 237) (by decide +kernel))) rfl
theorem se_X5_isSettled : Cond.selects RX5 yX5_isSettled yX5_isSettled ∈ m_ws := m_ws_in (List.mem_append_right _ (List.mem_of_getElem? (i := 238) (by decide +kernel))) rfl
abbrev M_X5_fill : m_M := (yX5_fill, cX5_fill, 3, (some .int), 7, 0, 0)
theorem mk_X5_fill : m_MK M_X5_fill 2 := ⟨m_ws_in (List.mem_append_right _ (List.mem_of_getElem? (i := 499) (by decide +kernel))) rfl, m_ws_in (List.mem_append_right _ (List.mem_of_getElem? (i := 1) (by decide +kernel))) rfl, by decide +kernel⟩
abbrev Mx_X5_fill : m_M := (yX5_fill, cX5_fill, 3, (some .int), 7, 1, 6)
theorem mkx_X5_fill : m_MK Mx_X5_fill 2 := mk_X5_fill
theorem in_X5_fill : Cond.instanceMethod yX5_fill ∈ m_ws := m_ws_in (List.mem_append_right _ (List.mem_of_getElem? (i := 497) (by decide +kernel))) rfl
theorem se_X5_fill : Cond.selects RX5 yX5_fill yX5_fill ∈ m_ws := m_ws_in (List.mem_append_right _ (List.mem_of_getElem? (i := 498) (by decide +kernel))) rfl
abbrev M_X5_setMargin : m_M := (yX5_setMargin, cX5_setMargin, 4, (some .int), 7, 0, 0)
theorem mk_X5_setMargin : m_MK M_X5_setMargin 2 := ⟨m_ws_in (List.mem_append_right _ (List.mem_of_getElem? (i := 530) (by decide +kernel))) rfl, m_ws_in (List.mem_append_right _ (List.mem_of_getElem? (i := 1) (by decide +kernel))) rfl, by decide +kernel⟩
abbrev Mx_X5_setMargin : m_M := (yX5_setMargin, cX5_setMargin, 4, (some .int), 7, 1, 6)
theorem mkx_X5_setMargin : m_MK Mx_X5_setMargin 2 := mk_X5_setMargin
theorem in_X5_setMargin : Cond.instanceMethod yX5_setMargin ∈ m_ws := m_ws_in (List.mem_append_right _ (List.mem_of_getElem? (i := 528) (by decide +kernel))) rfl
theorem se_X5_setMargin : Cond.selects RX5 yX5_setMargin yX5_setMargin ∈ m_ws := m_ws_in (List.mem_append_right _ (List.mem_of_getElem? (i := 529) (by decide +kernel))) rfl
abbrev M_X5_flight : m_M := (yX5_flight, cX5_flight, 2, (some .int), 7, 0, 0)
theorem mk_X5_flight : m_MK M_X5_flight 1 := ⟨m_ws_in (List.mem_append_right _ (List.mem_of_getElem? (i := 539) (by decide +kernel))) rfl, m_ws_in (List.mem_append_right _ (List.mem_of_getElem? (i := 1) (by decide +kernel))) rfl, by decide +kernel⟩
abbrev Mx_X5_flight : m_M := (yX5_flight, cX5_flight, 2, (some .int), 7, 1, 6)
theorem mkx_X5_flight : m_MK Mx_X5_flight 1 := mk_X5_flight
theorem in_X5_flight : Cond.instanceMethod yX5_flight ∈ m_ws := m_ws_in (List.mem_append_right _ (List.mem_of_getElem? (i := 537) (by decide +kernel))) rfl
theorem se_X5_flight : Cond.selects RX5 yX5_flight yX5_flight ∈ m_ws := m_ws_in (List.mem_append_right _ (List.mem_of_getElem? (i := 538) (by decide +kernel))) rfl
abbrev M_X5_gate : m_M := (yX5_gate, cX5_gate, 2, (some .int), 7, 0, 0)
theorem mk_X5_gate : m_MK M_X5_gate 1 := ⟨m_ws_in (List.mem_append_right _ (List.mem_of_getElem? (i := 546) (by decide +kernel))) rfl, m_ws_in (List.mem_append_right _ (List.mem_of_getElem? (i := 1) (by decide +kernel))) rfl, by decide +kernel⟩
abbrev Mx_X5_gate : m_M := (yX5_gate, cX5_gate, 2, (some .int), 7, 1, 6)
theorem mkx_X5_gate : m_MK Mx_X5_gate 1 := mk_X5_gate
theorem in_X5_gate : Cond.instanceMethod yX5_gate ∈ m_ws := m_ws_in (List.mem_append_right _ (List.mem_of_getElem? (i := 544) (by decide +kernel))) rfl
theorem se_X5_gate : Cond.selects RX5 yX5_gate yX5_gate ∈ m_ws := m_ws_in (List.mem_append_right _ (List.mem_of_getElem? (i := 545) (by decide +kernel))) rfl
abbrev M_X5_stock : m_M := (yX5_stock, cX5_stock, 2, (some .int), 7, 0, 0)
theorem mk_X5_stock : m_MK M_X5_stock 1 := ⟨m_ws_in (List.mem_append_right _ (List.mem_of_getElem? (i := 557) (by decide +kernel))) rfl, m_ws_in (List.mem_append_right _ (List.mem_of_getElem? (i := 1) (by decide +kernel))) rfl, by decide +kernel⟩
abbrev Mx_X5_stock : m_M := (yX5_stock, cX5_stock, 2, (some .int), 7, 1, 6)
theorem mkx_X5_stock : m_MK Mx_X5_stock 1 := mk_X5_stock
theorem in_X5_stock : Cond.instanceMethod yX5_stock ∈ m_ws := m_ws_in (List.mem_append_right _ (List.mem_of_getElem? (i := 555) (by decide +kernel))) rfl
theorem se_X5_stock : Cond.selects RX5 yX5_stock yX5_stock ∈ m_ws := m_ws_in (List.mem_append_right _ (List.mem_of_getElem? (i := 556) (by decide +kernel))) rfl
abbrev M_X5_register : m_M := (yX5_register, cX5_register, 2, (some .int), 7, 0, 0)
theorem mk_X5_register : m_MK M_X5_register 1 := ⟨m_ws_in (List.mem_append_right _ (List.mem_of_getElem? (i := 568) (by decide +kernel))) rfl, m_ws_in (List.mem_append_right _ (List.mem_of_getElem? (i := 1) (by decide +kernel))) rfl, by decide +kernel⟩
abbrev Mx_X5_register : m_M := (yX5_register, cX5_register, 2, (some .int), 7, 1, 6)
theorem mkx_X5_register : m_MK Mx_X5_register 1 := mk_X5_register
theorem in_X5_register : Cond.instanceMethod yX5_register ∈ m_ws := m_ws_in (List.mem_append_right _ (List.mem_of_getElem? (i := 566) (by decide +kernel))) rfl
theorem se_X5_register : Cond.selects RX5 yX5_register yX5_register ∈ m_ws := m_ws_in (List.mem_append_right _ (List.mem_of_getElem? (i := 567) (by decide +kernel))) rfl
abbrev M_X5_registerByLots : m_M := (yX5_registerByLots, cX5_registerByLots, 2, (some .int), 7, 0, 0)
theorem mk_X5_registerByLots : m_MK M_X5_registerByLots 1 := ⟨m_ws_in (List.mem_append_right _ (List.mem_of_getElem? (i := 575) (by decide +kernel))) rfl, m_ws_in (List.mem_append_right _ (List.mem_of_getElem? (i := 1) (by decide +kernel))) rfl, by decide +kernel⟩
abbrev Mx_X5_registerByLots : m_M := (yX5_registerByLots, cX5_registerByLots, 2, (some .int), 7, 1, 6)
theorem mkx_X5_registerByLots : m_MK Mx_X5_registerByLots 1 := mk_X5_registerByLots
theorem in_X5_registerByLots : Cond.instanceMethod yX5_registerByLots ∈ m_ws := m_ws_in (List.mem_append_right _ (List.mem_of_getElem? (i := 573) (by decide +kernel))) rfl
theorem se_X5_registerByLots : Cond.selects RX5 yX5_registerByLots yX5_registerByLots ∈ m_ws := m_ws_in (List.mem_append_right _ (List.mem_of_getElem? (i := 574) (by decide +kernel))) rfl
abbrev M_X5_leftOf : m_M := (yX5_leftOf, cX5_leftOf, 2, (some .int), 7, 0, 0)
theorem mk_X5_leftOf : m_MK M_X5_leftOf 1 := ⟨m_ws_in (List.mem_append_right _ (List.mem_of_getElem? (i := 586) (by decide +kernel))) rfl, m_ws_in (List.mem_append_right _ (List.mem_of_getElem? (i := 1) (by decide +kernel))) rfl, by decide +kernel⟩
abbrev Mx_X5_leftOf : m_M := (yX5_leftOf, cX5_leftOf, 2, (some .int), 7, 1, 6)
theorem mkx_X5_leftOf : m_MK Mx_X5_leftOf 1 := mk_X5_leftOf
theorem in_X5_leftOf : Cond.instanceMethod yX5_leftOf ∈ m_ws := m_ws_in (List.mem_append_right _ (List.mem_of_getElem? (i := 584) (by decide +kernel))) rfl
theorem se_X5_leftOf : Cond.selects RX5 yX5_leftOf yX5_leftOf ∈ m_ws := m_ws_in (List.mem_append_right _ (List.mem_of_getElem? (i := 585) (by decide +kernel))) rfl
abbrev M_X5_firstBatch : m_M := (yX5_firstBatch, cX5_firstBatch, 2, (some .int), 7, 0, 0)
theorem mk_X5_firstBatch : m_MK M_X5_firstBatch 1 := ⟨m_ws_in (List.mem_append_right _ (List.mem_of_getElem? (i := 598) (by decide +kernel))) rfl, m_ws_in (List.mem_append_right _ (List.mem_of_getElem? (i := 1) (by decide +kernel))) rfl, by decide +kernel⟩
abbrev Mx_X5_firstBatch : m_M := (yX5_firstBatch, cX5_firstBatch, 2, (some .int), 7, 1, 6)
theorem mkx_X5_firstBatch : m_MK Mx_X5_firstBatch 1 := mk_X5_firstBatch
theorem in_X5_firstBatch : Cond.instanceMethod yX5_firstBatch ∈ m_ws := m_ws_in (List.mem_append_right _ (List.mem_of_getElem? (i := 596) (by decide +kernel))) rfl
theorem se_X5_firstBatch : Cond.selects RX5 yX5_firstBatch yX5_firstBatch ∈ m_ws := m_ws_in (List.mem_append_right _ (List.mem_of_getElem? (i := 597) (by decide +kernel))) rfl
abbrev M_X5_used : m_M := (yX5_used, cX5_used, 3, (some .int), 7, 0, 0)
theorem mk_X5_used : m_MK M_X5_used 2 := ⟨m_ws_in (List.mem_append_right _ (List.mem_of_getElem? (i := 613) (by decide +kernel))) rfl, m_ws_in (List.mem_append_right _ (List.mem_of_getElem? (i := 1) (by decide +kernel))) rfl, by decide +kernel⟩
abbrev Mx_X5_used : m_M := (yX5_used, cX5_used, 3, (some .int), 7, 1, 6)
theorem mkx_X5_used : m_MK Mx_X5_used 2 := mk_X5_used
theorem in_X5_used : Cond.instanceMethod yX5_used ∈ m_ws := m_ws_in (List.mem_append_right _ (List.mem_of_getElem? (i := 611) (by decide +kernel))) rfl
theorem se_X5_used : Cond.selects RX5 yX5_used yX5_used ∈ m_ws := m_ws_in (List.mem_append_right _ (List.mem_of_getElem? (i := 612) (by decide +kernel))) rfl
abbrev M_X5_addStep : m_M := (yX5_addStep, cX5_addStep, 4, (some .int), 7, 0, 0)
theorem mk_X5_addStep : m_MK M_X5_addStep 3 := ⟨m_ws_in (List.mem_append_right _ (List.mem_of_getElem? (i := 626) (by decide +kernel))) rfl, m_ws_in (List.mem_append_right _ (List.mem_of_getElem? (i := 1) (by decide +kernel))) rfl, by decide +kernel⟩
abbrev Mx_X5_addStep : m_M := (yX5_addStep, cX5_addStep, 4, (some .int), 7, 1, 6)
theorem mkx_X5_addStep : m_MK Mx_X5_addStep 3 := mk_X5_addStep
theorem in_X5_addStep : Cond.instanceMethod yX5_addStep ∈ m_ws := m_ws_in (List.mem_append_right _ (List.mem_of_getElem? (i := 624) (by decide +kernel))) rfl
theorem se_X5_addStep : Cond.selects RX5 yX5_addStep yX5_addStep ∈ m_ws := m_ws_in (List.mem_append_right _ (List.mem_of_getElem? (i := 625) (by decide +kernel))) rfl
abbrev M_X5_clearRecipe : m_M := (yX5_clearRecipe, cX5_clearRecipe, 2, (some .int), 7, 0, 0)
theorem mk_X5_clearRecipe : m_MK M_X5_clearRecipe 0 := ⟨m_ws_in (List.mem_append_right _ (List.mem_of_getElem? (i := 638) (by decide +kernel))) rfl, m_ws_in (List.mem_append_right _ (List.mem_of_getElem? (i := 1) (by decide +kernel))) rfl, by decide +kernel⟩
abbrev Mx_X5_clearRecipe : m_M := (yX5_clearRecipe, cX5_clearRecipe, 2, (some .int), 7, 1, 6)
theorem mkx_X5_clearRecipe : m_MK Mx_X5_clearRecipe 0 := mk_X5_clearRecipe
theorem in_X5_clearRecipe : Cond.instanceMethod yX5_clearRecipe ∈ m_ws := m_ws_in (List.mem_append_right _ (List.mem_of_getElem? (i := 636) (by decide +kernel))) rfl
theorem se_X5_clearRecipe : Cond.selects RX5 yX5_clearRecipe yX5_clearRecipe ∈ m_ws := m_ws_in (List.mem_append_right _ (List.mem_of_getElem? (i := 637) (by decide +kernel))) rfl
abbrev M_X5_start : m_M := (yX5_start, cX5_start, 1, (some .int), 7, 0, 0)
theorem mk_X5_start : m_MK M_X5_start 0 := ⟨m_ws_in (List.mem_append_right _ (List.mem_of_getElem? (i := 645) (by decide +kernel))) rfl, m_ws_in (List.mem_append_right _ (List.mem_of_getElem? (i := 1) (by decide +kernel))) rfl, by decide +kernel⟩
abbrev Mx_X5_start : m_M := (yX5_start, cX5_start, 1, (some .int), 7, 1, 6)
theorem mkx_X5_start : m_MK Mx_X5_start 0 := mk_X5_start
theorem in_X5_start : Cond.instanceMethod yX5_start ∈ m_ws := m_ws_in (List.mem_append_right _ (List.mem_of_getElem? (i := 643) (by decide +kernel))) rfl
theorem se_X5_start : Cond.selects RX5 yX5_start yX5_start ∈ m_ws := m_ws_in (List.mem_append_right _ (List.mem_of_getElem? (i := 644) (by decide +kernel))) rfl
abbrev M_X5_hold : m_M := (yX5_hold, cX5_hold, 1, (some .int), 7, 0, 0)
theorem mk_X5_hold : m_MK M_X5_hold 0 := ⟨m_ws_in (List.mem_append_right _ (List.mem_of_getElem? (i := 656) (by decide +kernel))) rfl, m_ws_in (List.mem_append_right _ (List.mem_of_getElem? (i := 1) (by decide +kernel))) rfl, by decide +kernel⟩
abbrev Mx_X5_hold : m_M := (yX5_hold, cX5_hold, 1, (some .int), 7, 1, 6)
theorem mkx_X5_hold : m_MK Mx_X5_hold 0 := mk_X5_hold
theorem in_X5_hold : Cond.instanceMethod yX5_hold ∈ m_ws := m_ws_in (List.mem_append_right _ (List.mem_of_getElem? (i := 654) (by decide +kernel))) rfl
theorem se_X5_hold : Cond.selects RX5 yX5_hold yX5_hold ∈ m_ws := m_ws_in (List.mem_append_right _ (List.mem_of_getElem? (i := 655) (by decide +kernel))) rfl
abbrev M_X5_resume : m_M := (yX5_resume, cX5_resume, 1, (some .int), 7, 0, 0)
theorem mk_X5_resume : m_MK M_X5_resume 0 := ⟨m_ws_in (List.mem_append_right _ (List.mem_of_getElem? (i := 664) (by decide +kernel))) rfl, m_ws_in (List.mem_append_right _ (List.mem_of_getElem? (i := 1) (by decide +kernel))) rfl, by decide +kernel⟩
abbrev Mx_X5_resume : m_M := (yX5_resume, cX5_resume, 1, (some .int), 7, 1, 6)
theorem mkx_X5_resume : m_MK Mx_X5_resume 0 := mk_X5_resume
theorem in_X5_resume : Cond.instanceMethod yX5_resume ∈ m_ws := m_ws_in (List.mem_append_right _ (List.mem_of_getElem? (i := 662) (by decide +kernel))) rfl
theorem se_X5_resume : Cond.selects RX5 yX5_resume yX5_resume ∈ m_ws := m_ws_in (List.mem_append_right _ (List.mem_of_getElem? (i := 663) (by decide +kernel))) rfl
abbrev M_X5_abort : m_M := (yX5_abort, cX5_abort, 1, (some .int), 7, 0, 0)
theorem mk_X5_abort : m_MK M_X5_abort 0 := ⟨m_ws_in (List.mem_append_right _ (List.mem_of_getElem? (i := 675) (by decide +kernel))) rfl, m_ws_in (List.mem_append_right _ (List.mem_of_getElem? (i := 1) (by decide +kernel))) rfl, by decide +kernel⟩
abbrev Mx_X5_abort : m_M := (yX5_abort, cX5_abort, 1, (some .int), 7, 1, 6)
theorem mkx_X5_abort : m_MK Mx_X5_abort 0 := mk_X5_abort
theorem in_X5_abort : Cond.instanceMethod yX5_abort ∈ m_ws := m_ws_in (List.mem_append_right _ (List.mem_of_getElem? (i := 673) (by decide +kernel))) rfl
theorem se_X5_abort : Cond.selects RX5 yX5_abort yX5_abort ∈ m_ws := m_ws_in (List.mem_append_right _ (List.mem_of_getElem? (i := 674) (by decide +kernel))) rfl
abbrev M_X5_state : m_M := (yX5_state, cX5_state, 1, (some .int), 0, 0, 0)
theorem mk_X5_state : m_MK M_X5_state 0 := ⟨m_ws_in (List.mem_append_right _ (List.mem_of_getElem? (i := 253) (by decide +kernel))) rfl, m_ws_in (List.mem_append_right _ (List.mem_of_getElem? (i := 1) (by decide +kernel))) rfl, by decide +kernel⟩
theorem in_X5_state : Cond.instanceMethod yX5_state ∈ m_ws := m_ws_in (List.mem_append_right _ (List.mem_of_getElem? (i := 251) (by decide +kernel))) rfl
theorem se_X5_state : Cond.selects RX5 yX5_state yX5_state ∈ m_ws := m_ws_in (List.mem_append_right _ (List.mem_of_getElem? (i := 252) (by decide +kernel))) rfl
abbrev M_X5_alarm : m_M := (yX5_alarm, cX5_alarm, 1, (some .int), 0, 0, 0)
theorem mk_X5_alarm : m_MK M_X5_alarm 0 := ⟨m_ws_in (List.mem_append_right _ (List.mem_of_getElem? (i := 257) (by decide +kernel))) rfl, m_ws_in (List.mem_append_right _ (List.mem_of_getElem? (i := 1) (by decide +kernel))) rfl, by decide +kernel⟩
theorem in_X5_alarm : Cond.instanceMethod yX5_alarm ∈ m_ws := m_ws_in (List.mem_append_right _ (List.mem_of_getElem? (i := 255) (by decide +kernel))) rfl
theorem se_X5_alarm : Cond.selects RX5 yX5_alarm yX5_alarm ∈ m_ws := m_ws_in (List.mem_append_right _ (List.mem_of_getElem? (i := 256) (by decide +kernel))) rfl
abbrev M_X5_step : m_M := (yX5_step, cX5_step, 1, (some .int), 0, 0, 0)
theorem mk_X5_step : m_MK M_X5_step 0 := ⟨m_ws_in (List.mem_append_right _ (List.mem_of_getElem? (i := 261) (by decide +kernel))) rfl, m_ws_in (List.mem_append_right _ (List.mem_of_getElem? (i := 1) (by decide +kernel))) rfl, by decide +kernel⟩
theorem in_X5_step : Cond.instanceMethod yX5_step ∈ m_ws := m_ws_in (List.mem_append_right _ (List.mem_of_getElem? (i := 259) (by decide +kernel))) rfl
theorem se_X5_step : Cond.selects RX5 yX5_step yX5_step ∈ m_ws := m_ws_in (List.mem_append_right _ (List.mem_of_getElem? (i := 260) (by decide +kernel))) rfl
abbrev M_X5_jogs : m_M := (yX5_jogs, cX5_jogs, 1, (some .int), 0, 0, 0)
theorem mk_X5_jogs : m_MK M_X5_jogs 0 := ⟨m_ws_in (List.mem_append_right _ (List.mem_of_getElem? (i := 265) (by decide +kernel))) rfl, m_ws_in (List.mem_append_right _ (List.mem_of_getElem? (i := 1) (by decide +kernel))) rfl, by decide +kernel⟩
theorem in_X5_jogs : Cond.instanceMethod yX5_jogs ∈ m_ws := m_ws_in (List.mem_append_right _ (List.mem_of_getElem? (i := 263) (by decide +kernel))) rfl
theorem se_X5_jogs : Cond.selects RX5 yX5_jogs yX5_jogs ∈ m_ws := m_ws_in (List.mem_append_right _ (List.mem_of_getElem? (i := 264) (by decide +kernel))) rfl
abbrev M_X5_batches : m_M := (yX5_batches, cX5_batches, 1, (some .int), 0, 0, 0)
theorem mk_X5_batches : m_MK M_X5_batches 0 := ⟨m_ws_in (List.mem_append_right _ (List.mem_of_getElem? (i := 269) (by decide +kernel))) rfl, m_ws_in (List.mem_append_right _ (List.mem_of_getElem? (i := 1) (by decide +kernel))) rfl, by decide +kernel⟩
theorem in_X5_batches : Cond.instanceMethod yX5_batches ∈ m_ws := m_ws_in (List.mem_append_right _ (List.mem_of_getElem? (i := 267) (by decide +kernel))) rfl
theorem se_X5_batches : Cond.selects RX5 yX5_batches yX5_batches ∈ m_ws := m_ws_in (List.mem_append_right _ (List.mem_of_getElem? (i := 268) (by decide +kernel))) rfl
abbrev M_X5_done : m_M := (yX5_done, cX5_done, 1, (some .int), 0, 0, 0)
theorem mk_X5_done : m_MK M_X5_done 0 := ⟨m_ws_in (List.mem_append_right _ (List.mem_of_getElem? (i := 273) (by decide +kernel))) rfl, m_ws_in (List.mem_append_right _ (List.mem_of_getElem? (i := 1) (by decide +kernel))) rfl, by decide +kernel⟩
theorem in_X5_done : Cond.instanceMethod yX5_done ∈ m_ws := m_ws_in (List.mem_append_right _ (List.mem_of_getElem? (i := 271) (by decide +kernel))) rfl
theorem se_X5_done : Cond.selects RX5 yX5_done yX5_done ∈ m_ws := m_ws_in (List.mem_append_right _ (List.mem_of_getElem? (i := 272) (by decide +kernel))) rfl
abbrev M_X5_belt : m_M := (yX5_belt, cX5_belt, 4, (some .long), 7, 0, 0)
theorem mk_X5_belt : m_MK M_X5_belt 3 := ⟨m_ws_in (List.mem_append_right _ (List.mem_of_getElem? (i := 686) (by decide +kernel))) rfl, m_ws_in (List.mem_append_right _ (List.mem_of_getElem? (i := 1) (by decide +kernel))) rfl, by decide +kernel⟩
abbrev Mx_X5_belt : m_M := (yX5_belt, cX5_belt, 4, (some .long), 7, 1, 6)
theorem mkx_X5_belt : m_MK Mx_X5_belt 3 := mk_X5_belt
theorem in_X5_belt : Cond.instanceMethod yX5_belt ∈ m_ws := m_ws_in (List.mem_append_right _ (List.mem_of_getElem? (i := 684) (by decide +kernel))) rfl
theorem se_X5_belt : Cond.selects RX5 yX5_belt yX5_belt ∈ m_ws := m_ws_in (List.mem_append_right _ (List.mem_of_getElem? (i := 685) (by decide +kernel))) rfl
abbrev M_X5_needLot : m_M := (yX5_needLot, cX5_needLot, 2, none, 6, 0, 0)
theorem mk_X5_needLot : m_MK M_X5_needLot 1 := ⟨m_ws_in (List.mem_append_right _ (List.mem_of_getElem? (i := 590) (by decide +kernel))) rfl, m_ws_in (List.mem_append_right _ (List.mem_of_getElem? (i := 1) (by decide +kernel))) rfl, by decide +kernel⟩
abbrev Mx_X5_needLot : m_M := (yX5_needLot, cX5_needLot, 2, none, 6, 1, 6)
theorem mkx_X5_needLot : m_MK Mx_X5_needLot 1 := mk_X5_needLot
theorem in_X5_needLot : Cond.instanceMethod yX5_needLot ∈ m_ws := m_ws_in (List.mem_append_right _ (List.mem_of_getElem? (i := 589) (by decide +kernel))) rfl
theorem se_X5_needLot : Cond.selects RX5 yX5_needLot yX5_needLot ∈ m_ws := m_ws_in (List.mem_append_left _ (List.mem_of_getElem? (i := 11) (by decide +kernel))) rfl
abbrev M_X5_needBatch : m_M := (yX5_needBatch, cX5_needBatch, 2, none, 6, 0, 0)
theorem mk_X5_needBatch : m_MK M_X5_needBatch 1 := ⟨m_ws_in (List.mem_append_right _ (List.mem_of_getElem? (i := 617) (by decide +kernel))) rfl, m_ws_in (List.mem_append_right _ (List.mem_of_getElem? (i := 1) (by decide +kernel))) rfl, by decide +kernel⟩
abbrev Mx_X5_needBatch : m_M := (yX5_needBatch, cX5_needBatch, 2, none, 6, 1, 6)
theorem mkx_X5_needBatch : m_MK Mx_X5_needBatch 1 := mk_X5_needBatch
theorem in_X5_needBatch : Cond.instanceMethod yX5_needBatch ∈ m_ws := m_ws_in (List.mem_append_right _ (List.mem_of_getElem? (i := 616) (by decide +kernel))) rfl
theorem se_X5_needBatch : Cond.selects RX5 yX5_needBatch yX5_needBatch ∈ m_ws := m_ws_in (List.mem_append_left _ (List.mem_of_getElem? (i := 12) (by decide +kernel))) rfl
abbrev M_X5_needBin : m_M := (yX5_needBin, cX5_needBin, 1, none, 6, 0, 0)
theorem mk_X5_needBin : m_MK M_X5_needBin 1 := ⟨m_ws_in (List.mem_append_right _ (List.mem_of_getElem? (i := 502) (by decide +kernel))) rfl, m_ws_in (List.mem_append_right _ (List.mem_of_getElem? (i := 1) (by decide +kernel))) rfl, by decide +kernel⟩
abbrev Mx_X5_needBin : m_M := (yX5_needBin, cX5_needBin, 1, none, 6, 1, 6)
theorem mkx_X5_needBin : m_MK Mx_X5_needBin 1 := mk_X5_needBin
theorem st_X5_needBin : Cond.static yX5_needBin ∈ m_ws := m_ws_in (List.mem_append_right _ (List.mem_of_getElem? (i := 501) (by decide +kernel))) rfl
abbrev M_X5_needReading : m_M := (yX5_needReading, cX5_needReading, 1, none, 7, 0, 0)
theorem mk_X5_needReading : m_MK M_X5_needReading 1 := ⟨m_ws_in (List.mem_append_right _ (List.mem_of_getElem? (i := 284) (by decide +kernel))) rfl, m_ws_in (List.mem_append_right _ (List.mem_of_getElem? (i := 1) (by decide +kernel))) rfl, by decide +kernel⟩
abbrev Mx_X5_needReading : m_M := (yX5_needReading, cX5_needReading, 1, none, 7, 1, 6)
theorem mkx_X5_needReading : m_MK Mx_X5_needReading 1 := mk_X5_needReading
theorem st_X5_needReading : Cond.static yX5_needReading ∈ m_ws := m_ws_in (List.mem_append_right _ (List.mem_of_getElem? (i := 283) (by decide +kernel))) rfl
abbrev M_X5_needArgument : m_M := (yX5_needArgument, cX5_needArgument, 1, none, 6, 0, 0)
theorem mk_X5_needArgument : m_MK M_X5_needArgument 1 := ⟨m_ws_in (List.mem_append_right _ (List.mem_of_getElem? (i := 291) (by decide +kernel))) rfl, m_ws_in (List.mem_append_right _ (List.mem_of_getElem? (i := 1) (by decide +kernel))) rfl, by decide +kernel⟩
abbrev Mx_X5_needArgument : m_M := (yX5_needArgument, cX5_needArgument, 1, none, 6, 1, 6)
theorem mkx_X5_needArgument : m_MK Mx_X5_needArgument 1 := mk_X5_needArgument
theorem st_X5_needArgument : Cond.static yX5_needArgument ∈ m_ws := m_ws_in (List.mem_append_right _ (List.mem_of_getElem? (i := 290) (by decide +kernel))) rfl
abbrev M_X5_needState : m_M := (yX5_needState, cX5_needState, 1, none, 6, 0, 0)
theorem mk_X5_needState : m_MK M_X5_needState 1 := ⟨m_ws_in (List.mem_append_right _ (List.mem_of_getElem? (i := 468) (by decide +kernel))) rfl, m_ws_in (List.mem_append_right _ (List.mem_of_getElem? (i := 1) (by decide +kernel))) rfl, by decide +kernel⟩
abbrev Mx_X5_needState : m_M := (yX5_needState, cX5_needState, 1, none, 6, 1, 6)
theorem mkx_X5_needState : m_MK Mx_X5_needState 1 := mk_X5_needState
theorem st_X5_needState : Cond.static yX5_needState ∈ m_ws := m_ws_in (List.mem_append_right _ (List.mem_of_getElem? (i := 467) (by decide +kernel))) rfl
abbrev M_X5_isWithin : m_M := (yX5_isWithin, cX5_isWithin, 3, (some .boolean), 0, 0, 0)
theorem mk_X5_isWithin : m_MK M_X5_isWithin 3 := ⟨m_ws_in (List.mem_append_right _ (List.mem_of_getElem? (i := 288) (by decide +kernel))) rfl, m_ws_in (List.mem_append_right _ (List.mem_of_getElem? (i := 1) (by decide +kernel))) rfl, by decide +kernel⟩
theorem st_X5_isWithin : Cond.static yX5_isWithin ∈ m_ws := m_ws_in (List.mem_append_right _ (List.mem_of_getElem? (i := 287) (by decide +kernel))) rfl
abbrev M_X5_at : m_M := (yX5_at, cX5_at, 2, (some .int), 0, 0, 0)
theorem mk_X5_at : m_MK M_X5_at 2 := ⟨m_ws_in (List.mem_append_right _ (List.mem_of_getElem? (i := 386) (by decide +kernel))) rfl, m_ws_in (List.mem_append_right _ (List.mem_of_getElem? (i := 1) (by decide +kernel))) rfl, by decide +kernel⟩
theorem st_X5_at : Cond.static yX5_at ∈ m_ws := m_ws_in (List.mem_append_right _ (List.mem_of_getElem? (i := 385) (by decide +kernel))) rfl
abbrev M_X5_put : m_M := (yX5_put, cX5_put, 3, none, 0, 0, 0)
theorem mk_X5_put : m_MK M_X5_put 3 := ⟨m_ws_in (List.mem_append_right _ (List.mem_of_getElem? (i := 420) (by decide +kernel))) rfl, m_ws_in (List.mem_append_right _ (List.mem_of_getElem? (i := 1) (by decide +kernel))) rfl, by decide +kernel⟩
theorem st_X5_put : Cond.static yX5_put ∈ m_ws := m_ws_in (List.mem_append_right _ (List.mem_of_getElem? (i := 419) (by decide +kernel))) rfl
abbrev M_X5_increase : m_M := (yX5_increase, cX5_increase, 3, none, 0, 0, 0)
theorem mk_X5_increase : m_MK M_X5_increase 3 := ⟨m_ws_in (List.mem_append_right _ (List.mem_of_getElem? (i := 442) (by decide +kernel))) rfl, m_ws_in (List.mem_append_right _ (List.mem_of_getElem? (i := 1) (by decide +kernel))) rfl, by decide +kernel⟩
theorem st_X5_increase : Cond.static yX5_increase ∈ m_ws := m_ws_in (List.mem_append_right _ (List.mem_of_getElem? (i := 441) (by decide +kernel))) rfl
abbrev M_X6_init : m_M := (yX6_init, cX6_init, 2, none, 1, 13, 758)
theorem mk_X6_init : m_MK M_X6_init 0 := ⟨m_ws_in (List.mem_append_right _ (List.mem_of_getElem? (i := 692) (by decide +kernel))) rfl, m_ws_in (List.mem_append_right _ (List.mem_of_getElem? (i := 7) (by decide +kernel))) rfl, by decide +kernel⟩
theorem in_X6_init : Cond.instanceMethod yX6_init ∈ m_ws := m_ws_in (List.mem_append_right _ (List.mem_of_getElem? (i := 691) (by decide +kernel))) rfl
abbrev M_X6_thrown : m_M := (yX6_thrown, cX6_thrown, 1, (some .int), 0, 0, 0)
theorem mk_X6_thrown : m_MK M_X6_thrown 0 := ⟨m_ws_in (List.mem_append_right _ (List.mem_of_getElem? (i := 800) (by decide +kernel))) rfl, m_ws_in (List.mem_append_right _ (List.mem_of_getElem? (i := 7) (by decide +kernel))) rfl, by decide +kernel⟩
theorem in_X6_thrown : Cond.instanceMethod yX6_thrown ∈ m_ws := m_ws_in (List.mem_append_right _ (List.mem_of_getElem? (i := 798) (by decide +kernel))) rfl
theorem se_X6_thrown : Cond.selects RX6 yX6_thrown yX6_thrown ∈ m_ws := m_ws_in (List.mem_append_right _ (List.mem_of_getElem? (i := 799) (by decide +kernel))) rfl
abbrev M_X6_in : m_M := (yX6_in, cX6_in, 3, (some .boolean), 0, 0, 0)
theorem mk_X6_in : m_MK M_X6_in 3 := ⟨m_ws_in (List.mem_append_right _ (List.mem_of_getElem? (i := 808) (by decide +kernel))) rfl, m_ws_in (List.mem_append_right _ (List.mem_of_getElem? (i := 7) (by decide +kernel))) rfl, by decide +kernel⟩
theorem st_X6_in : Cond.static yX6_in ∈ m_ws := m_ws_in (List.mem_append_right _ (List.mem_of_getElem? (i := 807) (by decide +kernel))) rfl
abbrev M_X6_goes : m_M := (yX6_goes, cX6_goes, 4, (some .boolean), 0, 0, 0)
theorem mk_X6_goes : m_MK M_X6_goes 3 := ⟨m_ws_in (List.mem_append_right _ (List.mem_of_getElem? (i := 812) (by decide +kernel))) rfl, m_ws_in (List.mem_append_right _ (List.mem_of_getElem? (i := 7) (by decide +kernel))) rfl, by decide +kernel⟩
theorem in_X6_goes : Cond.instanceMethod yX6_goes ∈ m_ws := m_ws_in (List.mem_append_right _ (List.mem_of_getElem? (i := 811) (by decide +kernel))) rfl
theorem se_X6_goes : Cond.selects RX6 yX6_goes yX6_goes ∈ m_ws := m_ws_in (List.mem_append_left _ (List.mem_of_getElem? (i := 13) (by decide +kernel))) rfl
abbrev M_X6_isBin : m_M := (yX6_isBin, cX6_isBin, 1, (some .boolean), 1, 0, 0)
theorem mk_X6_isBin : m_MK M_X6_isBin 1 := ⟨m_ws_in (List.mem_append_right _ (List.mem_of_getElem? (i := 894) (by decide +kernel))) rfl, m_ws_in (List.mem_append_right _ (List.mem_of_getElem? (i := 7) (by decide +kernel))) rfl, by decide +kernel⟩
theorem st_X6_isBin : Cond.static yX6_isBin ∈ m_ws := m_ws_in (List.mem_append_right _ (List.mem_of_getElem? (i := 893) (by decide +kernel))) rfl
abbrev M_X6_isLot : m_M := (yX6_isLot, cX6_isLot, 2, (some .boolean), 1, 0, 0)
theorem mk_X6_isLot : m_MK M_X6_isLot 1 := ⟨m_ws_in (List.mem_append_right _ (List.mem_of_getElem? (i := 926) (by decide +kernel))) rfl, m_ws_in (List.mem_append_right _ (List.mem_of_getElem? (i := 7) (by decide +kernel))) rfl, by decide +kernel⟩
theorem in_X6_isLot : Cond.instanceMethod yX6_isLot ∈ m_ws := m_ws_in (List.mem_append_right _ (List.mem_of_getElem? (i := 925) (by decide +kernel))) rfl
theorem se_X6_isLot : Cond.selects RX6 yX6_isLot yX6_isLot ∈ m_ws := m_ws_in (List.mem_append_left _ (List.mem_of_getElem? (i := 26) (by decide +kernel))) rfl
abbrev M_X6_settles : m_M := (yX6_settles, cX6_settles, 4, (some .boolean), 0, 0, 0)
theorem mk_X6_settles : m_MK M_X6_settles 0 := ⟨m_ws_in (List.mem_append_right _ (List.mem_of_getElem? (i := 828) (by decide +kernel))) rfl, m_ws_in (List.mem_append_right _ (List.mem_of_getElem? (i := 7) (by decide +kernel))) rfl, by decide +kernel⟩
theorem in_X6_settles : Cond.instanceMethod yX6_settles ∈ m_ws := m_ws_in (List.mem_append_right _ (List.mem_of_getElem? (i := 827) (by decide +kernel))) rfl
theorem se_X6_settles : Cond.selects RX6 yX6_settles yX6_settles ∈ m_ws := m_ws_in (List.mem_append_left _ (List.mem_of_getElem? (i := 17) (by decide +kernel))) rfl
abbrev M_X6_grossNow : m_M := (yX6_grossNow, cX6_grossNow, 1, (some .int), 0, 0, 0)
theorem mk_X6_grossNow : m_MK M_X6_grossNow 0 := ⟨m_ws_in (List.mem_append_right _ (List.mem_of_getElem? (i := 824) (by decide +kernel))) rfl, m_ws_in (List.mem_append_right _ (List.mem_of_getElem? (i := 7) (by decide +kernel))) rfl, by decide +kernel⟩
theorem in_X6_grossNow : Cond.instanceMethod yX6_grossNow ∈ m_ws := m_ws_in (List.mem_append_right _ (List.mem_of_getElem? (i := 823) (by decide +kernel))) rfl
theorem se_X6_grossNow : Cond.selects RX6 yX6_grossNow yX6_grossNow ∈ m_ws := m_ws_in (List.mem_append_left _ (List.mem_of_getElem? (i := 16) (by decide +kernel))) rfl
abbrev M_X6_netNow : m_M := (yX6_netNow, cX6_netNow, 1, (some .int), 1, 0, 0)
theorem mk_X6_netNow : m_MK M_X6_netNow 0 := ⟨m_ws_in (List.mem_append_right _ (List.mem_of_getElem? (i := 836) (by decide +kernel))) rfl, m_ws_in (List.mem_append_right _ (List.mem_of_getElem? (i := 7) (by decide +kernel))) rfl, by decide +kernel⟩
theorem in_X6_netNow : Cond.instanceMethod yX6_netNow ∈ m_ws := m_ws_in (List.mem_append_right _ (List.mem_of_getElem? (i := 835) (by decide +kernel))) rfl
theorem se_X6_netNow : Cond.selects RX6 yX6_netNow yX6_netNow ∈ m_ws := m_ws_in (List.mem_append_left _ (List.mem_of_getElem? (i := 19) (by decide +kernel))) rfl
abbrev M_X6_becomes : m_M := (yX6_becomes, cX6_becomes, 2, none, 0, 0, 0)
theorem mk_X6_becomes : m_MK M_X6_becomes 1 := ⟨m_ws_in (List.mem_append_right _ (List.mem_of_getElem? (i := 840) (by decide +kernel))) rfl, m_ws_in (List.mem_append_right _ (List.mem_of_getElem? (i := 7) (by decide +kernel))) rfl, by decide +kernel⟩
theorem in_X6_becomes : Cond.instanceMethod yX6_becomes ∈ m_ws := m_ws_in (List.mem_append_right _ (List.mem_of_getElem? (i := 839) (by decide +kernel))) rfl
theorem se_X6_becomes : Cond.selects RX6 yX6_becomes yX6_becomes ∈ m_ws := m_ws_in (List.mem_append_left _ (List.mem_of_getElem? (i := 20) (by decide +kernel))) rfl
abbrev M_X6_holds : m_M := (yX6_holds, cX6_holds, 2, none, 1, 0, 0)
theorem mk_X6_holds : m_MK M_X6_holds 1 := ⟨m_ws_in (List.mem_append_right _ (List.mem_of_getElem? (i := 851) (by decide +kernel))) rfl, m_ws_in (List.mem_append_right _ (List.mem_of_getElem? (i := 7) (by decide +kernel))) rfl, by decide +kernel⟩
theorem in_X6_holds : Cond.instanceMethod yX6_holds ∈ m_ws := m_ws_in (List.mem_append_right _ (List.mem_of_getElem? (i := 850) (by decide +kernel))) rfl
theorem se_X6_holds : Cond.selects RX6 yX6_holds yX6_holds ∈ m_ws := m_ws_in (List.mem_append_left _ (List.mem_of_getElem? (i := 22) (by decide +kernel))) rfl
abbrev M_X6_tracks : m_M := (yX6_tracks, cX6_tracks, 3, none, 1, 0, 0)
theorem mk_X6_tracks : m_MK M_X6_tracks 0 := ⟨m_ws_in (List.mem_append_right _ (List.mem_of_getElem? (i := 820) (by decide +kernel))) rfl, m_ws_in (List.mem_append_right _ (List.mem_of_getElem? (i := 7) (by decide +kernel))) rfl, by decide +kernel⟩
theorem in_X6_tracks : Cond.instanceMethod yX6_tracks ∈ m_ws := m_ws_in (List.mem_append_right _ (List.mem_of_getElem? (i := 819) (by decide +kernel))) rfl
theorem se_X6_tracks : Cond.selects RX6 yX6_tracks yX6_tracks ∈ m_ws := m_ws_in (List.mem_append_left _ (List.mem_of_getElem? (i := 15) (by decide +kernel))) rfl
abbrev M_X6_down : m_M := (yX6_down, cX6_down, 2, (some .int), 0, 0, 0)
theorem mk_X6_down : m_MK M_X6_down 2 := ⟨m_ws_in (List.mem_append_right _ (List.mem_of_getElem? (i := 847) (by decide +kernel))) rfl, m_ws_in (List.mem_append_right _ (List.mem_of_getElem? (i := 7) (by decide +kernel))) rfl, by decide +kernel⟩
theorem st_X6_down : Cond.static yX6_down ∈ m_ws := m_ws_in (List.mem_append_right _ (List.mem_of_getElem? (i := 846) (by decide +kernel))) rfl
abbrev M_X6_weighs : m_M := (yX6_weighs, cX6_weighs, 4, none, 4, 0, 0)
theorem mk_X6_weighs : m_MK M_X6_weighs 0 := ⟨m_ws_in (List.mem_append_right _ (List.mem_of_getElem? (i := 844) (by decide +kernel))) rfl, m_ws_in (List.mem_append_right _ (List.mem_of_getElem? (i := 7) (by decide +kernel))) rfl, by decide +kernel⟩
theorem in_X6_weighs : Cond.instanceMethod yX6_weighs ∈ m_ws := m_ws_in (List.mem_append_right _ (List.mem_of_getElem? (i := 843) (by decide +kernel))) rfl
theorem se_X6_weighs : Cond.selects RX6 yX6_weighs yX6_weighs ∈ m_ws := m_ws_in (List.mem_append_left _ (List.mem_of_getElem? (i := 21) (by decide +kernel))) rfl
abbrev M_X6_goesOn : m_M := (yX6_goesOn, cX6_goesOn, 4, none, 5, 0, 0)
theorem mk_X6_goesOn : m_MK M_X6_goesOn 0 := ⟨m_ws_in (List.mem_append_right _ (List.mem_of_getElem? (i := 832) (by decide +kernel))) rfl, m_ws_in (List.mem_append_right _ (List.mem_of_getElem? (i := 7) (by decide +kernel))) rfl, by decide +kernel⟩
theorem in_X6_goesOn : Cond.instanceMethod yX6_goesOn ∈ m_ws := m_ws_in (List.mem_append_right _ (List.mem_of_getElem? (i := 831) (by decide +kernel))) rfl
theorem se_X6_goesOn : Cond.selects RX6 yX6_goesOn yX6_goesOn ∈ m_ws := m_ws_in (List.mem_append_left _ (List.mem_of_getElem? (i := 18) (by decide +kernel))) rfl
abbrev M_X6_brings : m_M := (yX6_brings, cX6_brings, 2, (some .int), 6, 0, 0)
theorem mk_X6_brings : m_MK M_X6_brings 1 := ⟨m_ws_in (List.mem_append_right _ (List.mem_of_getElem? (i := 816) (by decide +kernel))) rfl, m_ws_in (List.mem_append_right _ (List.mem_of_getElem? (i := 7) (by decide +kernel))) rfl, by decide +kernel⟩
theorem in_X6_brings : Cond.instanceMethod yX6_brings ∈ m_ws := m_ws_in (List.mem_append_right _ (List.mem_of_getElem? (i := 815) (by decide +kernel))) rfl
theorem se_X6_brings : Cond.selects RX6 yX6_brings yX6_brings ∈ m_ws := m_ws_in (List.mem_append_left _ (List.mem_of_getElem? (i := 14) (by decide +kernel))) rfl
abbrev M_X6_tick : m_M := (yX6_tick, cX6_tick, 2, (some .int), 7, 0, 0)
theorem mk_X6_tick : m_MK M_X6_tick 1 := ⟨m_ws_in (List.mem_append_right _ (List.mem_of_getElem? (i := 804) (by decide +kernel))) rfl, m_ws_in (List.mem_append_right _ (List.mem_of_getElem? (i := 7) (by decide +kernel))) rfl, by decide +kernel⟩
theorem in_X6_tick : Cond.instanceMethod yX6_tick ∈ m_ws := m_ws_in (List.mem_append_right _ (List.mem_of_getElem? (i := 802) (by decide +kernel))) rfl
theorem se_X6_tick : Cond.selects RX6 yX6_tick yX6_tick ∈ m_ws := m_ws_in (List.mem_append_right _ (List.mem_of_getElem? (i := 803) (by decide +kernel))) rfl
abbrev M_X6_ticks : m_M := (yX6_ticks, cX6_ticks, 5, (some .int), 7, 0, 0)
theorem mk_X6_ticks : m_MK M_X6_ticks 2 := ⟨m_ws_in (List.mem_append_right _ (List.mem_of_getElem? (i := 867) (by decide +kernel))) rfl, m_ws_in (List.mem_append_right _ (List.mem_of_getElem? (i := 7) (by decide +kernel))) rfl, by decide +kernel⟩
theorem in_X6_ticks : Cond.instanceMethod yX6_ticks ∈ m_ws := m_ws_in (List.mem_append_right _ (List.mem_of_getElem? (i := 865) (by decide +kernel))) rfl
theorem se_X6_ticks : Cond.selects RX6 yX6_ticks yX6_ticks ∈ m_ws := m_ws_in (List.mem_append_right _ (List.mem_of_getElem? (i := 866) (by decide +kernel))) rfl
abbrev M_X6_zero : m_M := (yX6_zero, cX6_zero, 2, (some .int), 1, 0, 0)
theorem mk_X6_zero : m_MK M_X6_zero 0 := ⟨m_ws_in (List.mem_append_right _ (List.mem_of_getElem? (i := 871) (by decide +kernel))) rfl, m_ws_in (List.mem_append_right _ (List.mem_of_getElem? (i := 7) (by decide +kernel))) rfl, by decide +kernel⟩
theorem in_X6_zero : Cond.instanceMethod yX6_zero ∈ m_ws := m_ws_in (List.mem_append_right _ (List.mem_of_getElem? (i := 869) (by decide +kernel))) rfl
theorem se_X6_zero : Cond.selects RX6 yX6_zero yX6_zero ∈ m_ws := m_ws_in (List.mem_append_right _ (List.mem_of_getElem? (i := 870) (by decide +kernel))) rfl
abbrev M_X6_setBand : m_M := (yX6_setBand, cX6_setBand, 3, (some .int), 1, 0, 0)
theorem mk_X6_setBand : m_MK M_X6_setBand 1 := ⟨m_ws_in (List.mem_append_right _ (List.mem_of_getElem? (i := 875) (by decide +kernel))) rfl, m_ws_in (List.mem_append_right _ (List.mem_of_getElem? (i := 7) (by decide +kernel))) rfl, by decide +kernel⟩
theorem in_X6_setBand : Cond.instanceMethod yX6_setBand ∈ m_ws := m_ws_in (List.mem_append_right _ (List.mem_of_getElem? (i := 873) (by decide +kernel))) rfl
theorem se_X6_setBand : Cond.selects RX6 yX6_setBand yX6_setBand ∈ m_ws := m_ws_in (List.mem_append_right _ (List.mem_of_getElem? (i := 874) (by decide +kernel))) rfl
abbrev M_X6_gross : m_M := (yX6_gross, cX6_gross, 1, (some .int), 1, 0, 0)
theorem mk_X6_gross : m_MK M_X6_gross 0 := ⟨m_ws_in (List.mem_append_right _ (List.mem_of_getElem? (i := 879) (by decide +kernel))) rfl, m_ws_in (List.mem_append_right _ (List.mem_of_getElem? (i := 7) (by decide +kernel))) rfl, by decide +kernel⟩
theorem in_X6_gross : Cond.instanceMethod yX6_gross ∈ m_ws := m_ws_in (List.mem_append_right _ (List.mem_of_getElem? (i := 877) (by decide +kernel))) rfl
theorem se_X6_gross : Cond.selects RX6 yX6_gross yX6_gross ∈ m_ws := m_ws_in (List.mem_append_right _ (List.mem_of_getElem? (i := 878) (by decide +kernel))) rfl
abbrev M_X6_net : m_M := (yX6_net, cX6_net, 1, (some .int), 2, 0, 0)
theorem mk_X6_net : m_MK M_X6_net 0 := ⟨m_ws_in (List.mem_append_right _ (List.mem_of_getElem? (i := 883) (by decide +kernel))) rfl, m_ws_in (List.mem_append_right _ (List.mem_of_getElem? (i := 7) (by decide +kernel))) rfl, by decide +kernel⟩
theorem in_X6_net : Cond.instanceMethod yX6_net ∈ m_ws := m_ws_in (List.mem_append_right _ (List.mem_of_getElem? (i := 881) (by decide +kernel))) rfl
theorem se_X6_net : Cond.selects RX6 yX6_net yX6_net ∈ m_ws := m_ws_in (List.mem_append_right _ (List.mem_of_getElem? (i := 882) (by decide +kernel))) rfl
abbrev M_X6_isSettled : m_M := (yX6_isSettled, cX6_isSettled, 1, (some .boolean), 1, 0, 0)
theorem mk_X6_isSettled : m_MK M_X6_isSettled 0 := ⟨m_ws_in (List.mem_append_right _ (List.mem_of_getElem? (i := 887) (by decide +kernel))) rfl, m_ws_in (List.mem_append_right _ (List.mem_of_getElem? (i := 7) (by decide +kernel))) rfl, by decide +kernel⟩
theorem in_X6_isSettled : Cond.instanceMethod yX6_isSettled ∈ m_ws := m_ws_in (List.mem_append_right _ (List.mem_of_getElem? (i := 885) (by decide +kernel))) rfl
theorem se_X6_isSettled : Cond.selects RX6 yX6_isSettled yX6_isSettled ∈ m_ws := m_ws_in (List.mem_append_right _ (List.mem_of_getElem? (i := 886) (by decide +kernel))) rfl
abbrev M_X6_fill : m_M := (yX6_fill, cX6_fill, 3, (some .int), 2, 0, 0)
theorem mk_X6_fill : m_MK M_X6_fill 2 := ⟨m_ws_in (List.mem_append_right _ (List.mem_of_getElem? (i := 891) (by decide +kernel))) rfl, m_ws_in (List.mem_append_right _ (List.mem_of_getElem? (i := 7) (by decide +kernel))) rfl, by decide +kernel⟩
theorem in_X6_fill : Cond.instanceMethod yX6_fill ∈ m_ws := m_ws_in (List.mem_append_right _ (List.mem_of_getElem? (i := 889) (by decide +kernel))) rfl
theorem se_X6_fill : Cond.selects RX6 yX6_fill yX6_fill ∈ m_ws := m_ws_in (List.mem_append_right _ (List.mem_of_getElem? (i := 890) (by decide +kernel))) rfl
abbrev M_X6_setMargin : m_M := (yX6_setMargin, cX6_setMargin, 4, (some .int), 2, 0, 0)
theorem mk_X6_setMargin : m_MK M_X6_setMargin 2 := ⟨m_ws_in (List.mem_append_right _ (List.mem_of_getElem? (i := 898) (by decide +kernel))) rfl, m_ws_in (List.mem_append_right _ (List.mem_of_getElem? (i := 7) (by decide +kernel))) rfl, by decide +kernel⟩
theorem in_X6_setMargin : Cond.instanceMethod yX6_setMargin ∈ m_ws := m_ws_in (List.mem_append_right _ (List.mem_of_getElem? (i := 896) (by decide +kernel))) rfl
theorem se_X6_setMargin : Cond.selects RX6 yX6_setMargin yX6_setMargin ∈ m_ws := m_ws_in (List.mem_append_right _ (List.mem_of_getElem? (i := 897) (by decide +kernel))) rfl
abbrev M_X6_flight : m_M := (yX6_flight, cX6_flight, 2, (some .int), 2, 0, 0)
theorem mk_X6_flight : m_MK M_X6_flight 1 := ⟨m_ws_in (List.mem_append_right _ (List.mem_of_getElem? (i := 902) (by decide +kernel))) rfl, m_ws_in (List.mem_append_right _ (List.mem_of_getElem? (i := 7) (by decide +kernel))) rfl, by decide +kernel⟩
theorem in_X6_flight : Cond.instanceMethod yX6_flight ∈ m_ws := m_ws_in (List.mem_append_right _ (List.mem_of_getElem? (i := 900) (by decide +kernel))) rfl
theorem se_X6_flight : Cond.selects RX6 yX6_flight yX6_flight ∈ m_ws := m_ws_in (List.mem_append_right _ (List.mem_of_getElem? (i := 901) (by decide +kernel))) rfl
abbrev M_X6_gate : m_M := (yX6_gate, cX6_gate, 2, (some .int), 2, 0, 0)
theorem mk_X6_gate : m_MK M_X6_gate 1 := ⟨m_ws_in (List.mem_append_right _ (List.mem_of_getElem? (i := 906) (by decide +kernel))) rfl, m_ws_in (List.mem_append_right _ (List.mem_of_getElem? (i := 7) (by decide +kernel))) rfl, by decide +kernel⟩
theorem in_X6_gate : Cond.instanceMethod yX6_gate ∈ m_ws := m_ws_in (List.mem_append_right _ (List.mem_of_getElem? (i := 904) (by decide +kernel))) rfl
theorem se_X6_gate : Cond.selects RX6 yX6_gate yX6_gate ∈ m_ws := m_ws_in (List.mem_append_right _ (List.mem_of_getElem? (i := 905) (by decide +kernel))) rfl
abbrev M_X6_stock : m_M := (yX6_stock, cX6_stock, 5, (some .int), 2, 0, 0)
theorem mk_X6_stock : m_MK M_X6_stock 1 := ⟨m_ws_in (List.mem_append_right _ (List.mem_of_getElem? (i := 910) (by decide +kernel))) rfl, m_ws_in (List.mem_append_right _ (List.mem_of_getElem? (i := 7) (by decide +kernel))) rfl, by decide +kernel⟩
theorem in_X6_stock : Cond.instanceMethod yX6_stock ∈ m_ws := m_ws_in (List.mem_append_right _ (List.mem_of_getElem? (i := 908) (by decide +kernel))) rfl
theorem se_X6_stock : Cond.selects RX6 yX6_stock yX6_stock ∈ m_ws := m_ws_in (List.mem_append_right _ (List.mem_of_getElem? (i := 909) (by decide +kernel))) rfl
abbrev M_X6_register : m_M := (yX6_register, cX6_register, 2, (some .int), 2, 0, 0)
theorem mk_X6_register : m_MK M_X6_register 1 := ⟨m_ws_in (List.mem_append_right _ (List.mem_of_getElem? (i := 914) (by decide +kernel))) rfl, m_ws_in (List.mem_append_right _ (List.mem_of_getElem? (i := 7) (by decide +kernel))) rfl, by decide +kernel⟩
theorem in_X6_register : Cond.instanceMethod yX6_register ∈ m_ws := m_ws_in (List.mem_append_right _ (List.mem_of_getElem? (i := 912) (by decide +kernel))) rfl
theorem se_X6_register : Cond.selects RX6 yX6_register yX6_register ∈ m_ws := m_ws_in (List.mem_append_right _ (List.mem_of_getElem? (i := 913) (by decide +kernel))) rfl
abbrev M_X6_registerByLots : m_M := (yX6_registerByLots, cX6_registerByLots, 5, (some .int), 2, 0, 0)
theorem mk_X6_registerByLots : m_MK M_X6_registerByLots 1 := ⟨m_ws_in (List.mem_append_right _ (List.mem_of_getElem? (i := 918) (by decide +kernel))) rfl, m_ws_in (List.mem_append_right _ (List.mem_of_getElem? (i := 7) (by decide +kernel))) rfl, by decide +kernel⟩
theorem in_X6_registerByLots : Cond.instanceMethod yX6_registerByLots ∈ m_ws := m_ws_in (List.mem_append_right _ (List.mem_of_getElem? (i := 916) (by decide +kernel))) rfl
theorem se_X6_registerByLots : Cond.selects RX6 yX6_registerByLots yX6_registerByLots ∈ m_ws := m_ws_in (List.mem_append_right _ (List.mem_of_getElem? (i := 917) (by decide +kernel))) rfl
abbrev M_X6_leftOf : m_M := (yX6_leftOf, cX6_leftOf, 2, (some .int), 2, 0, 0)
theorem mk_X6_leftOf : m_MK M_X6_leftOf 1 := ⟨m_ws_in (List.mem_append_right _ (List.mem_of_getElem? (i := 922) (by decide +kernel))) rfl, m_ws_in (List.mem_append_right _ (List.mem_of_getElem? (i := 7) (by decide +kernel))) rfl, by decide +kernel⟩
theorem in_X6_leftOf : Cond.instanceMethod yX6_leftOf ∈ m_ws := m_ws_in (List.mem_append_right _ (List.mem_of_getElem? (i := 920) (by decide +kernel))) rfl
theorem se_X6_leftOf : Cond.selects RX6 yX6_leftOf yX6_leftOf ∈ m_ws := m_ws_in (List.mem_append_right _ (List.mem_of_getElem? (i := 921) (by decide +kernel))) rfl
abbrev M_X6_firstBatch : m_M := (yX6_firstBatch, cX6_firstBatch, 2, (some .int), 2, 0, 0)
theorem mk_X6_firstBatch : m_MK M_X6_firstBatch 1 := ⟨m_ws_in (List.mem_append_right _ (List.mem_of_getElem? (i := 930) (by decide +kernel))) rfl, m_ws_in (List.mem_append_right _ (List.mem_of_getElem? (i := 7) (by decide +kernel))) rfl, by decide +kernel⟩
theorem in_X6_firstBatch : Cond.instanceMethod yX6_firstBatch ∈ m_ws := m_ws_in (List.mem_append_right _ (List.mem_of_getElem? (i := 928) (by decide +kernel))) rfl
theorem se_X6_firstBatch : Cond.selects RX6 yX6_firstBatch yX6_firstBatch ∈ m_ws := m_ws_in (List.mem_append_right _ (List.mem_of_getElem? (i := 929) (by decide +kernel))) rfl
abbrev M_X6_used : m_M := (yX6_used, cX6_used, 3, (some .int), 2, 0, 0)
theorem mk_X6_used : m_MK M_X6_used 2 := ⟨m_ws_in (List.mem_append_right _ (List.mem_of_getElem? (i := 934) (by decide +kernel))) rfl, m_ws_in (List.mem_append_right _ (List.mem_of_getElem? (i := 7) (by decide +kernel))) rfl, by decide +kernel⟩
theorem in_X6_used : Cond.instanceMethod yX6_used ∈ m_ws := m_ws_in (List.mem_append_right _ (List.mem_of_getElem? (i := 932) (by decide +kernel))) rfl
theorem se_X6_used : Cond.selects RX6 yX6_used yX6_used ∈ m_ws := m_ws_in (List.mem_append_right _ (List.mem_of_getElem? (i := 933) (by decide +kernel))) rfl
abbrev M_X6_books : m_M := (yX6_books, cX6_books, 6, (some .int), 2, 0, 0)
theorem mk_X6_books : m_MK M_X6_books 0 := ⟨m_ws_in (List.mem_append_right _ (List.mem_of_getElem? (i := 859) (by decide +kernel))) rfl, m_ws_in (List.mem_append_right _ (List.mem_of_getElem? (i := 7) (by decide +kernel))) rfl, by decide +kernel⟩
theorem in_X6_books : Cond.instanceMethod yX6_books ∈ m_ws := m_ws_in (List.mem_append_right _ (List.mem_of_getElem? (i := 858) (by decide +kernel))) rfl
theorem se_X6_books : Cond.selects RX6 yX6_books yX6_books ∈ m_ws := m_ws_in (List.mem_append_left _ (List.mem_of_getElem? (i := 24) (by decide +kernel))) rfl
abbrev M_X6_addStep : m_M := (yX6_addStep, cX6_addStep, 4, (some .int), 2, 0, 0)
theorem mk_X6_addStep : m_MK M_X6_addStep 3 := ⟨m_ws_in (List.mem_append_right _ (List.mem_of_getElem? (i := 938) (by decide +kernel))) rfl, m_ws_in (List.mem_append_right _ (List.mem_of_getElem? (i := 7) (by decide +kernel))) rfl, by decide +kernel⟩
theorem in_X6_addStep : Cond.instanceMethod yX6_addStep ∈ m_ws := m_ws_in (List.mem_append_right _ (List.mem_of_getElem? (i := 936) (by decide +kernel))) rfl
theorem se_X6_addStep : Cond.selects RX6 yX6_addStep yX6_addStep ∈ m_ws := m_ws_in (List.mem_append_right _ (List.mem_of_getElem? (i := 937) (by decide +kernel))) rfl
abbrev M_X6_clearRecipe : m_M := (yX6_clearRecipe, cX6_clearRecipe, 2, (some .int), 1, 0, 0)
theorem mk_X6_clearRecipe : m_MK M_X6_clearRecipe 0 := ⟨m_ws_in (List.mem_append_right _ (List.mem_of_getElem? (i := 942) (by decide +kernel))) rfl, m_ws_in (List.mem_append_right _ (List.mem_of_getElem? (i := 7) (by decide +kernel))) rfl, by decide +kernel⟩
theorem in_X6_clearRecipe : Cond.instanceMethod yX6_clearRecipe ∈ m_ws := m_ws_in (List.mem_append_right _ (List.mem_of_getElem? (i := 940) (by decide +kernel))) rfl
theorem se_X6_clearRecipe : Cond.selects RX6 yX6_clearRecipe yX6_clearRecipe ∈ m_ws := m_ws_in (List.mem_append_right _ (List.mem_of_getElem? (i := 941) (by decide +kernel))) rfl
abbrev M_X6_begins : m_M := (yX6_begins, cX6_begins, 2, none, 1, 0, 0)
theorem mk_X6_begins : m_MK M_X6_begins 1 := ⟨m_ws_in (List.mem_append_right _ (List.mem_of_getElem? (i := 863) (by decide +kernel))) rfl, m_ws_in (List.mem_append_right _ (List.mem_of_getElem? (i := 7) (by decide +kernel))) rfl, by decide +kernel⟩
theorem in_X6_begins : Cond.instanceMethod yX6_begins ∈ m_ws := m_ws_in (List.mem_append_right _ (List.mem_of_getElem? (i := 862) (by decide +kernel))) rfl
theorem se_X6_begins : Cond.selects RX6 yX6_begins yX6_begins ∈ m_ws := m_ws_in (List.mem_append_left _ (List.mem_of_getElem? (i := 25) (by decide +kernel))) rfl
abbrev M_X6_finishes : m_M := (yX6_finishes, cX6_finishes, 2, none, 3, 0, 0)
theorem mk_X6_finishes : m_MK M_X6_finishes 0 := ⟨m_ws_in (List.mem_append_right _ (List.mem_of_getElem? (i := 855) (by decide +kernel))) rfl, m_ws_in (List.mem_append_right _ (List.mem_of_getElem? (i := 7) (by decide +kernel))) rfl, by decide +kernel⟩
theorem in_X6_finishes : Cond.instanceMethod yX6_finishes ∈ m_ws := m_ws_in (List.mem_append_right _ (List.mem_of_getElem? (i := 854) (by decide +kernel))) rfl
theorem se_X6_finishes : Cond.selects RX6 yX6_finishes yX6_finishes ∈ m_ws := m_ws_in (List.mem_append_left _ (List.mem_of_getElem? (i := 23) (by decide +kernel))) rfl
abbrev M_X6_start : m_M := (yX6_start, cX6_start, 1, (some .int), 2, 0, 0)
theorem mk_X6_start : m_MK M_X6_start 0 := ⟨m_ws_in (List.mem_append_right _ (List.mem_of_getElem? (i := 946) (by decide +kernel))) rfl, m_ws_in (List.mem_append_right _ (List.mem_of_getElem? (i := 7) (by decide +kernel))) rfl, by decide +kernel⟩
theorem in_X6_start : Cond.instanceMethod yX6_start ∈ m_ws := m_ws_in (List.mem_append_right _ (List.mem_of_getElem? (i := 944) (by decide +kernel))) rfl
theorem se_X6_start : Cond.selects RX6 yX6_start yX6_start ∈ m_ws := m_ws_in (List.mem_append_right _ (List.mem_of_getElem? (i := 945) (by decide +kernel))) rfl
abbrev M_X6_hold : m_M := (yX6_hold, cX6_hold, 2, (some .int), 2, 0, 0)
theorem mk_X6_hold : m_MK M_X6_hold 0 := ⟨m_ws_in (List.mem_append_right _ (List.mem_of_getElem? (i := 950) (by decide +kernel))) rfl, m_ws_in (List.mem_append_right _ (List.mem_of_getElem? (i := 7) (by decide +kernel))) rfl, by decide +kernel⟩
theorem in_X6_hold : Cond.instanceMethod yX6_hold ∈ m_ws := m_ws_in (List.mem_append_right _ (List.mem_of_getElem? (i := 948) (by decide +kernel))) rfl
theorem se_X6_hold : Cond.selects RX6 yX6_hold yX6_hold ∈ m_ws := m_ws_in (List.mem_append_right _ (List.mem_of_getElem? (i := 949) (by decide +kernel))) rfl
abbrev M_X6_resume : m_M := (yX6_resume, cX6_resume, 1, (some .int), 4, 0, 0)
theorem mk_X6_resume : m_MK M_X6_resume 0 := ⟨m_ws_in (List.mem_append_right _ (List.mem_of_getElem? (i := 954) (by decide +kernel))) rfl, m_ws_in (List.mem_append_right _ (List.mem_of_getElem? (i := 7) (by decide +kernel))) rfl, by decide +kernel⟩
theorem in_X6_resume : Cond.instanceMethod yX6_resume ∈ m_ws := m_ws_in (List.mem_append_right _ (List.mem_of_getElem? (i := 952) (by decide +kernel))) rfl
theorem se_X6_resume : Cond.selects RX6 yX6_resume yX6_resume ∈ m_ws := m_ws_in (List.mem_append_right _ (List.mem_of_getElem? (i := 953) (by decide +kernel))) rfl
abbrev M_X6_abort : m_M := (yX6_abort, cX6_abort, 2, (some .int), 3, 0, 0)
theorem mk_X6_abort : m_MK M_X6_abort 0 := ⟨m_ws_in (List.mem_append_right _ (List.mem_of_getElem? (i := 958) (by decide +kernel))) rfl, m_ws_in (List.mem_append_right _ (List.mem_of_getElem? (i := 7) (by decide +kernel))) rfl, by decide +kernel⟩
theorem in_X6_abort : Cond.instanceMethod yX6_abort ∈ m_ws := m_ws_in (List.mem_append_right _ (List.mem_of_getElem? (i := 956) (by decide +kernel))) rfl
theorem se_X6_abort : Cond.selects RX6 yX6_abort yX6_abort ∈ m_ws := m_ws_in (List.mem_append_right _ (List.mem_of_getElem? (i := 957) (by decide +kernel))) rfl
abbrev M_X6_state : m_M := (yX6_state, cX6_state, 1, (some .int), 0, 0, 0)
theorem mk_X6_state : m_MK M_X6_state 0 := ⟨m_ws_in (List.mem_append_right _ (List.mem_of_getElem? (i := 962) (by decide +kernel))) rfl, m_ws_in (List.mem_append_right _ (List.mem_of_getElem? (i := 7) (by decide +kernel))) rfl, by decide +kernel⟩
theorem in_X6_state : Cond.instanceMethod yX6_state ∈ m_ws := m_ws_in (List.mem_append_right _ (List.mem_of_getElem? (i := 960) (by decide +kernel))) rfl
theorem se_X6_state : Cond.selects RX6 yX6_state yX6_state ∈ m_ws := m_ws_in (List.mem_append_right _ (List.mem_of_getElem? (i := 961) (by decide +kernel))) rfl
abbrev M_X6_alarm : m_M := (yX6_alarm, cX6_alarm, 1, (some .int), 0, 0, 0)
theorem mk_X6_alarm : m_MK M_X6_alarm 0 := ⟨m_ws_in (List.mem_append_right _ (List.mem_of_getElem? (i := 966) (by decide +kernel))) rfl, m_ws_in (List.mem_append_right _ (List.mem_of_getElem? (i := 7) (by decide +kernel))) rfl, by decide +kernel⟩
theorem in_X6_alarm : Cond.instanceMethod yX6_alarm ∈ m_ws := m_ws_in (List.mem_append_right _ (List.mem_of_getElem? (i := 964) (by decide +kernel))) rfl
theorem se_X6_alarm : Cond.selects RX6 yX6_alarm yX6_alarm ∈ m_ws := m_ws_in (List.mem_append_right _ (List.mem_of_getElem? (i := 965) (by decide +kernel))) rfl
abbrev M_X6_step : m_M := (yX6_step, cX6_step, 1, (some .int), 0, 0, 0)
theorem mk_X6_step : m_MK M_X6_step 0 := ⟨m_ws_in (List.mem_append_right _ (List.mem_of_getElem? (i := 970) (by decide +kernel))) rfl, m_ws_in (List.mem_append_right _ (List.mem_of_getElem? (i := 7) (by decide +kernel))) rfl, by decide +kernel⟩
theorem in_X6_step : Cond.instanceMethod yX6_step ∈ m_ws := m_ws_in (List.mem_append_right _ (List.mem_of_getElem? (i := 968) (by decide +kernel))) rfl
theorem se_X6_step : Cond.selects RX6 yX6_step yX6_step ∈ m_ws := m_ws_in (List.mem_append_right _ (List.mem_of_getElem? (i := 969) (by decide +kernel))) rfl
abbrev M_X6_jogs : m_M := (yX6_jogs, cX6_jogs, 1, (some .int), 0, 0, 0)
theorem mk_X6_jogs : m_MK M_X6_jogs 0 := ⟨m_ws_in (List.mem_append_right _ (List.mem_of_getElem? (i := 974) (by decide +kernel))) rfl, m_ws_in (List.mem_append_right _ (List.mem_of_getElem? (i := 7) (by decide +kernel))) rfl, by decide +kernel⟩
theorem in_X6_jogs : Cond.instanceMethod yX6_jogs ∈ m_ws := m_ws_in (List.mem_append_right _ (List.mem_of_getElem? (i := 972) (by decide +kernel))) rfl
theorem se_X6_jogs : Cond.selects RX6 yX6_jogs yX6_jogs ∈ m_ws := m_ws_in (List.mem_append_right _ (List.mem_of_getElem? (i := 973) (by decide +kernel))) rfl
abbrev M_X6_batches : m_M := (yX6_batches, cX6_batches, 1, (some .int), 0, 0, 0)
theorem mk_X6_batches : m_MK M_X6_batches 0 := ⟨m_ws_in (List.mem_append_right _ (List.mem_of_getElem? (i := 978) (by decide +kernel))) rfl, m_ws_in (List.mem_append_right _ (List.mem_of_getElem? (i := 7) (by decide +kernel))) rfl, by decide +kernel⟩
theorem in_X6_batches : Cond.instanceMethod yX6_batches ∈ m_ws := m_ws_in (List.mem_append_right _ (List.mem_of_getElem? (i := 976) (by decide +kernel))) rfl
theorem se_X6_batches : Cond.selects RX6 yX6_batches yX6_batches ∈ m_ws := m_ws_in (List.mem_append_right _ (List.mem_of_getElem? (i := 977) (by decide +kernel))) rfl
abbrev M_X6_done : m_M := (yX6_done, cX6_done, 1, (some .int), 0, 0, 0)
theorem mk_X6_done : m_MK M_X6_done 0 := ⟨m_ws_in (List.mem_append_right _ (List.mem_of_getElem? (i := 982) (by decide +kernel))) rfl, m_ws_in (List.mem_append_right _ (List.mem_of_getElem? (i := 7) (by decide +kernel))) rfl, by decide +kernel⟩
theorem in_X6_done : Cond.instanceMethod yX6_done ∈ m_ws := m_ws_in (List.mem_append_right _ (List.mem_of_getElem? (i := 980) (by decide +kernel))) rfl
theorem se_X6_done : Cond.selects RX6 yX6_done yX6_done ∈ m_ws := m_ws_in (List.mem_append_right _ (List.mem_of_getElem? (i := 981) (by decide +kernel))) rfl
abbrev M_X6_belt : m_M := (yX6_belt, cX6_belt, 4, (some .long), 1, 0, 0)
theorem mk_X6_belt : m_MK M_X6_belt 3 := ⟨m_ws_in (List.mem_append_right _ (List.mem_of_getElem? (i := 986) (by decide +kernel))) rfl, m_ws_in (List.mem_append_right _ (List.mem_of_getElem? (i := 7) (by decide +kernel))) rfl, by decide +kernel⟩
theorem in_X6_belt : Cond.instanceMethod yX6_belt ∈ m_ws := m_ws_in (List.mem_append_right _ (List.mem_of_getElem? (i := 984) (by decide +kernel))) rfl
theorem se_X6_belt : Cond.selects RX6 yX6_belt yX6_belt ∈ m_ws := m_ws_in (List.mem_append_right _ (List.mem_of_getElem? (i := 985) (by decide +kernel))) rfl
abbrev M_J9_floorDiv_7cf53 : m_M := (yJ9_floorDiv_7cf53, cJ9_floorDiv_7cf53, 3, (some .int), 0, 0, 0)
theorem mk_J9_floorDiv_7cf53 : m_MK M_J9_floorDiv_7cf53 2 := ⟨m_ws_in (List.mem_append_right _ (List.mem_of_getElem? (i := 415) (by decide +kernel))) rfl, m_ws_in (List.mem_append_right _ (List.mem_of_getElem? (i := 12) (by decide +kernel))) rfl, by decide +kernel⟩
theorem st_J9_floorDiv_7cf53 : Cond.static yJ9_floorDiv_7cf53 ∈ m_ws := m_ws_in (List.mem_append_right _ (List.mem_of_getElem? (i := 414) (by decide +kernel))) rfl
abbrev M_L_tick : m_M := (yL_tick, cL_tick, 4, (some .int), 9, 1, 6)
abbrev H_L_tick : List (Nat × Nat × Nat × Nat) := [(0, 9, 12, 13)]
theorem mk_L_tick : m_MKH M_L_tick H_L_tick 3 := ⟨m_ws_in (List.mem_append_right _ (List.mem_of_getElem? (i := 276) (by decide +kernel))) rfl, m_ws_in (List.mem_append_right _ (List.mem_of_getElem? (i := 0) (by decide +kernel))) rfl, by decide +kernel⟩
theorem st_L_tick : Cond.static yL_tick ∈ m_ws := m_ws_in (List.mem_append_right _ (List.mem_of_getElem? (i := 275) (by decide +kernel))) rfl
abbrev M_L_ticks : m_M := (yL_ticks, cL_ticks, 5, (some .int), 9, 1, 6)
abbrev H_L_ticks : List (Nat × Nat × Nat × Nat) := [(0, 10, 13, 13)]
theorem mk_L_ticks : m_MKH M_L_ticks H_L_ticks 4 := ⟨m_ws_in (List.mem_append_right _ (List.mem_of_getElem? (i := 453) (by decide +kernel))) rfl, m_ws_in (List.mem_append_right _ (List.mem_of_getElem? (i := 0) (by decide +kernel))) rfl, by decide +kernel⟩
theorem st_L_ticks : Cond.static yL_ticks ∈ m_ws := m_ws_in (List.mem_append_right _ (List.mem_of_getElem? (i := 452) (by decide +kernel))) rfl
abbrev M_L_zero : m_M := (yL_zero, cL_zero, 3, (some .int), 8, 1, 6)
abbrev H_L_zero : List (Nat × Nat × Nat × Nat) := [(0, 8, 11, 23)]
theorem mk_L_zero : m_MKH M_L_zero H_L_zero 2 := ⟨m_ws_in (List.mem_append_right _ (List.mem_of_getElem? (i := 460) (by decide +kernel))) rfl, m_ws_in (List.mem_append_right _ (List.mem_of_getElem? (i := 0) (by decide +kernel))) rfl, by decide +kernel⟩
theorem st_L_zero : Cond.static yL_zero ∈ m_ws := m_ws_in (List.mem_append_right _ (List.mem_of_getElem? (i := 459) (by decide +kernel))) rfl
abbrev M_L_setBand : m_M := (yL_setBand, cL_setBand, 4, (some .int), 8, 1, 6)
abbrev H_L_setBand : List (Nat × Nat × Nat × Nat) := [(0, 9, 12, 13)]
theorem mk_L_setBand : m_MKH M_L_setBand H_L_setBand 3 := ⟨m_ws_in (List.mem_append_right _ (List.mem_of_getElem? (i := 487) (by decide +kernel))) rfl, m_ws_in (List.mem_append_right _ (List.mem_of_getElem? (i := 0) (by decide +kernel))) rfl, by decide +kernel⟩
theorem st_L_setBand : Cond.static yL_setBand ∈ m_ws := m_ws_in (List.mem_append_right _ (List.mem_of_getElem? (i := 486) (by decide +kernel))) rfl
abbrev M_L_fill : m_M := (yL_fill, cL_fill, 5, (some .int), 8, 1, 6)
abbrev H_L_fill : List (Nat × Nat × Nat × Nat) := [(0, 10, 13, 31), (0, 10, 17, 13), (0, 10, 21, 23)]
theorem mk_L_fill : m_MKH M_L_fill H_L_fill 4 := ⟨m_ws_in (List.mem_append_right _ (List.mem_of_getElem? (i := 494) (by decide +kernel))) rfl, m_ws_in (List.mem_append_right _ (List.mem_of_getElem? (i := 0) (by decide +kernel))) rfl, by decide +kernel⟩
theorem st_L_fill : Cond.static yL_fill ∈ m_ws := m_ws_in (List.mem_append_right _ (List.mem_of_getElem? (i := 493) (by decide +kernel))) rfl
abbrev M_L_setMargin : m_M := (yL_setMargin, cL_setMargin, 5, (some .int), 8, 1, 6)
abbrev H_L_setMargin : List (Nat × Nat × Nat × Nat) := [(0, 10, 13, 31), (0, 10, 17, 13)]
theorem mk_L_setMargin : m_MKH M_L_setMargin H_L_setMargin 4 := ⟨m_ws_in (List.mem_append_right _ (List.mem_of_getElem? (i := 526) (by decide +kernel))) rfl, m_ws_in (List.mem_append_right _ (List.mem_of_getElem? (i := 0) (by decide +kernel))) rfl, by decide +kernel⟩
theorem st_L_setMargin : Cond.static yL_setMargin ∈ m_ws := m_ws_in (List.mem_append_right _ (List.mem_of_getElem? (i := 525) (by decide +kernel))) rfl
abbrev M_L_flight : m_M := (yL_flight, cL_flight, 4, (some .int), 8, 1, 6)
abbrev H_L_flight : List (Nat × Nat × Nat × Nat) := [(0, 9, 12, 31)]
theorem mk_L_flight : m_MKH M_L_flight H_L_flight 3 := ⟨m_ws_in (List.mem_append_right _ (List.mem_of_getElem? (i := 535) (by decide +kernel))) rfl, m_ws_in (List.mem_append_right _ (List.mem_of_getElem? (i := 0) (by decide +kernel))) rfl, by decide +kernel⟩
theorem st_L_flight : Cond.static yL_flight ∈ m_ws := m_ws_in (List.mem_append_right _ (List.mem_of_getElem? (i := 534) (by decide +kernel))) rfl
abbrev M_L_gate : m_M := (yL_gate, cL_gate, 4, (some .int), 8, 1, 6)
abbrev H_L_gate : List (Nat × Nat × Nat × Nat) := [(0, 9, 12, 31)]
theorem mk_L_gate : m_MKH M_L_gate H_L_gate 3 := ⟨m_ws_in (List.mem_append_right _ (List.mem_of_getElem? (i := 542) (by decide +kernel))) rfl, m_ws_in (List.mem_append_right _ (List.mem_of_getElem? (i := 0) (by decide +kernel))) rfl, by decide +kernel⟩
theorem st_L_gate : Cond.static yL_gate ∈ m_ws := m_ws_in (List.mem_append_right _ (List.mem_of_getElem? (i := 541) (by decide +kernel))) rfl
abbrev M_L_stock : m_M := (yL_stock, cL_stock, 4, (some .int), 8, 1, 6)
abbrev H_L_stock : List (Nat × Nat × Nat × Nat) := [(0, 9, 12, 31)]
theorem mk_L_stock : m_MKH M_L_stock H_L_stock 3 := ⟨m_ws_in (List.mem_append_right _ (List.mem_of_getElem? (i := 553) (by decide +kernel))) rfl, m_ws_in (List.mem_append_right _ (List.mem_of_getElem? (i := 0) (by decide +kernel))) rfl, by decide +kernel⟩
theorem st_L_stock : Cond.static yL_stock ∈ m_ws := m_ws_in (List.mem_append_right _ (List.mem_of_getElem? (i := 552) (by decide +kernel))) rfl
abbrev M_L_register : m_M := (yL_register, cL_register, 4, (some .int), 8, 1, 6)
abbrev H_L_register : List (Nat × Nat × Nat × Nat) := [(0, 9, 12, 31)]
theorem mk_L_register : m_MKH M_L_register H_L_register 3 := ⟨m_ws_in (List.mem_append_right _ (List.mem_of_getElem? (i := 564) (by decide +kernel))) rfl, m_ws_in (List.mem_append_right _ (List.mem_of_getElem? (i := 0) (by decide +kernel))) rfl, by decide +kernel⟩
theorem st_L_register : Cond.static yL_register ∈ m_ws := m_ws_in (List.mem_append_right _ (List.mem_of_getElem? (i := 563) (by decide +kernel))) rfl
abbrev M_L_registerByLots : m_M := (yL_registerByLots, cL_registerByLots, 4, (some .int), 8, 1, 6)
abbrev H_L_registerByLots : List (Nat × Nat × Nat × Nat) := [(0, 9, 12, 31)]
theorem mk_L_registerByLots : m_MKH M_L_registerByLots H_L_registerByLots 3 := ⟨m_ws_in (List.mem_append_right _ (List.mem_of_getElem? (i := 571) (by decide +kernel))) rfl, m_ws_in (List.mem_append_right _ (List.mem_of_getElem? (i := 0) (by decide +kernel))) rfl, by decide +kernel⟩
theorem st_L_registerByLots : Cond.static yL_registerByLots ∈ m_ws := m_ws_in (List.mem_append_right _ (List.mem_of_getElem? (i := 570) (by decide +kernel))) rfl
abbrev M_L_leftOf : m_M := (yL_leftOf, cL_leftOf, 4, (some .int), 8, 1, 6)
abbrev H_L_leftOf : List (Nat × Nat × Nat × Nat) := [(0, 9, 12, 31)]
theorem mk_L_leftOf : m_MKH M_L_leftOf H_L_leftOf 3 := ⟨m_ws_in (List.mem_append_right _ (List.mem_of_getElem? (i := 582) (by decide +kernel))) rfl, m_ws_in (List.mem_append_right _ (List.mem_of_getElem? (i := 0) (by decide +kernel))) rfl, by decide +kernel⟩
theorem st_L_leftOf : Cond.static yL_leftOf ∈ m_ws := m_ws_in (List.mem_append_right _ (List.mem_of_getElem? (i := 581) (by decide +kernel))) rfl
abbrev M_L_firstBatch : m_M := (yL_firstBatch, cL_firstBatch, 4, (some .int), 8, 1, 6)
abbrev H_L_firstBatch : List (Nat × Nat × Nat × Nat) := [(0, 9, 12, 31)]
theorem mk_L_firstBatch : m_MKH M_L_firstBatch H_L_firstBatch 3 := ⟨m_ws_in (List.mem_append_right _ (List.mem_of_getElem? (i := 594) (by decide +kernel))) rfl, m_ws_in (List.mem_append_right _ (List.mem_of_getElem? (i := 0) (by decide +kernel))) rfl, by decide +kernel⟩
theorem st_L_firstBatch : Cond.static yL_firstBatch ∈ m_ws := m_ws_in (List.mem_append_right _ (List.mem_of_getElem? (i := 593) (by decide +kernel))) rfl
abbrev M_L_used : m_M := (yL_used, cL_used, 5, (some .int), 8, 1, 6)
abbrev H_L_used : List (Nat × Nat × Nat × Nat) := [(0, 10, 13, 31)]
theorem mk_L_used : m_MKH M_L_used H_L_used 4 := ⟨m_ws_in (List.mem_append_right _ (List.mem_of_getElem? (i := 609) (by decide +kernel))) rfl, m_ws_in (List.mem_append_right _ (List.mem_of_getElem? (i := 0) (by decide +kernel))) rfl, by decide +kernel⟩
theorem st_L_used : Cond.static yL_used ∈ m_ws := m_ws_in (List.mem_append_right _ (List.mem_of_getElem? (i := 608) (by decide +kernel))) rfl
abbrev M_L_addStep : m_M := (yL_addStep, cL_addStep, 6, (some .int), 8, 1, 6)
abbrev H_L_addStep : List (Nat × Nat × Nat × Nat) := [(0, 12, 15, 31), (0, 12, 19, 13), (0, 12, 23, 23)]
theorem mk_L_addStep : m_MKH M_L_addStep H_L_addStep 5 := ⟨m_ws_in (List.mem_append_right _ (List.mem_of_getElem? (i := 622) (by decide +kernel))) rfl, m_ws_in (List.mem_append_right _ (List.mem_of_getElem? (i := 0) (by decide +kernel))) rfl, by decide +kernel⟩
theorem st_L_addStep : Cond.static yL_addStep ∈ m_ws := m_ws_in (List.mem_append_right _ (List.mem_of_getElem? (i := 621) (by decide +kernel))) rfl
abbrev M_L_clearRecipe : m_M := (yL_clearRecipe, cL_clearRecipe, 3, (some .int), 8, 1, 6)
abbrev H_L_clearRecipe : List (Nat × Nat × Nat × Nat) := [(0, 8, 11, 23)]
theorem mk_L_clearRecipe : m_MKH M_L_clearRecipe H_L_clearRecipe 2 := ⟨m_ws_in (List.mem_append_right _ (List.mem_of_getElem? (i := 634) (by decide +kernel))) rfl, m_ws_in (List.mem_append_right _ (List.mem_of_getElem? (i := 0) (by decide +kernel))) rfl, by decide +kernel⟩
theorem st_L_clearRecipe : Cond.static yL_clearRecipe ∈ m_ws := m_ws_in (List.mem_append_right _ (List.mem_of_getElem? (i := 633) (by decide +kernel))) rfl
abbrev M_L_start : m_M := (yL_start, cL_start, 3, (some .int), 8, 1, 6)
abbrev H_L_start : List (Nat × Nat × Nat × Nat) := [(0, 8, 11, 23)]
theorem mk_L_start : m_MKH M_L_start H_L_start 2 := ⟨m_ws_in (List.mem_append_right _ (List.mem_of_getElem? (i := 641) (by decide +kernel))) rfl, m_ws_in (List.mem_append_right _ (List.mem_of_getElem? (i := 0) (by decide +kernel))) rfl, by decide +kernel⟩
theorem st_L_start : Cond.static yL_start ∈ m_ws := m_ws_in (List.mem_append_right _ (List.mem_of_getElem? (i := 640) (by decide +kernel))) rfl
abbrev M_L_hold : m_M := (yL_hold, cL_hold, 3, (some .int), 8, 1, 6)
abbrev H_L_hold : List (Nat × Nat × Nat × Nat) := [(0, 8, 11, 23)]
theorem mk_L_hold : m_MKH M_L_hold H_L_hold 2 := ⟨m_ws_in (List.mem_append_right _ (List.mem_of_getElem? (i := 652) (by decide +kernel))) rfl, m_ws_in (List.mem_append_right _ (List.mem_of_getElem? (i := 0) (by decide +kernel))) rfl, by decide +kernel⟩
theorem st_L_hold : Cond.static yL_hold ∈ m_ws := m_ws_in (List.mem_append_right _ (List.mem_of_getElem? (i := 651) (by decide +kernel))) rfl
abbrev M_L_resume : m_M := (yL_resume, cL_resume, 3, (some .int), 8, 1, 6)
abbrev H_L_resume : List (Nat × Nat × Nat × Nat) := [(0, 8, 11, 23)]
theorem mk_L_resume : m_MKH M_L_resume H_L_resume 2 := ⟨m_ws_in (List.mem_append_right _ (List.mem_of_getElem? (i := 660) (by decide +kernel))) rfl, m_ws_in (List.mem_append_right _ (List.mem_of_getElem? (i := 0) (by decide +kernel))) rfl, by decide +kernel⟩
theorem st_L_resume : Cond.static yL_resume ∈ m_ws := m_ws_in (List.mem_append_right _ (List.mem_of_getElem? (i := 659) (by decide +kernel))) rfl
abbrev M_L_abort : m_M := (yL_abort, cL_abort, 3, (some .int), 8, 1, 6)
abbrev H_L_abort : List (Nat × Nat × Nat × Nat) := [(0, 8, 11, 23)]
theorem mk_L_abort : m_MKH M_L_abort H_L_abort 2 := ⟨m_ws_in (List.mem_append_right _ (List.mem_of_getElem? (i := 671) (by decide +kernel))) rfl, m_ws_in (List.mem_append_right _ (List.mem_of_getElem? (i := 0) (by decide +kernel))) rfl, by decide +kernel⟩
theorem st_L_abort : Cond.static yL_abort ∈ m_ws := m_ws_in (List.mem_append_right _ (List.mem_of_getElem? (i := 670) (by decide +kernel))) rfl
abbrev M_L_belt : m_M := (yL_belt, cL_belt, 6, (some .int), 8, 1, 6)
abbrev H_L_belt : List (Nat × Nat × Nat × Nat) := [(0, 11, 14, 13)]
theorem mk_L_belt : m_MKH M_L_belt H_L_belt 5 := ⟨m_ws_in (List.mem_append_right _ (List.mem_of_getElem? (i := 682) (by decide +kernel))) rfl, m_ws_in (List.mem_append_right _ (List.mem_of_getElem? (i := 0) (by decide +kernel))) rfl, by decide +kernel⟩
theorem st_L_belt : Cond.static yL_belt ∈ m_ws := m_ws_in (List.mem_append_right _ (List.mem_of_getElem? (i := 681) (by decide +kernel))) rfl
theorem fl_X0_9 : m_FL RX0 9 0 0 := ⟨RX0, TX0, 4, rfl, by decide, Or.inl (m_ws_in (List.mem_append_right _ (List.mem_of_getElem? (i := 70) (by decide +kernel))) rfl)⟩
theorem fw_X0_9 : ∀ (C : String) (T : u_T) (N : Nat), m_cl[0]? = some (C, T, N) → Cond.fieldLink RX0 9 (T 0).1 (T 0).2.1 (T 0).2.2.1 ∈ m_ws := fun C T N h => by cases h; exact m_ws_in (List.mem_append_right _ (List.mem_of_getElem? (i := 70) (by decide +kernel))) rfl
theorem ff_X0_0 : m_FF RX0 0 0 (.array .int) := ⟨RX0, TX0, 4, rfl, rfl, rfl, by decide +kernel⟩
theorem fl_X0_15 : m_FL RX0 15 0 1 := ⟨RX0, TX0, 4, rfl, by decide, Or.inl (m_ws_in (List.mem_append_right _ (List.mem_of_getElem? (i := 73) (by decide +kernel))) rfl)⟩
theorem fw_X0_15 : ∀ (C : String) (T : u_T) (N : Nat), m_cl[0]? = some (C, T, N) → Cond.fieldLink RX0 15 (T 1).1 (T 1).2.1 (T 1).2.2.1 ∈ m_ws := fun C T N h => by cases h; exact m_ws_in (List.mem_append_right _ (List.mem_of_getElem? (i := 73) (by decide +kernel))) rfl
theorem ff_X0_1 : m_FF RX0 0 1 (.array .int) := ⟨RX0, TX0, 4, rfl, rfl, rfl, by decide +kernel⟩
theorem fl_X0_18 : m_FL RX0 18 0 2 := ⟨RX0, TX0, 4, rfl, by decide, Or.inl (m_ws_in (List.mem_append_right _ (List.mem_of_getElem? (i := 76) (by decide +kernel))) rfl)⟩
theorem fw_X0_18 : ∀ (C : String) (T : u_T) (N : Nat), m_cl[0]? = some (C, T, N) → Cond.fieldLink RX0 18 (T 2).1 (T 2).2.1 (T 2).2.2.1 ∈ m_ws := fun C T N h => by cases h; exact m_ws_in (List.mem_append_right _ (List.mem_of_getElem? (i := 76) (by decide +kernel))) rfl
theorem ff_X0_2 : m_FF RX0 0 2 (.array .int) := ⟨RX0, TX0, 4, rfl, rfl, rfl, by decide +kernel⟩
theorem fl_X0_21 : m_FL RX0 21 0 3 := ⟨RX0, TX0, 4, rfl, by decide, Or.inl (m_ws_in (List.mem_append_right _ (List.mem_of_getElem? (i := 79) (by decide +kernel))) rfl)⟩
theorem fw_X0_21 : ∀ (C : String) (T : u_T) (N : Nat), m_cl[0]? = some (C, T, N) → Cond.fieldLink RX0 21 (T 3).1 (T 3).2.1 (T 3).2.2.1 ∈ m_ws := fun C T N h => by cases h; exact m_ws_in (List.mem_append_right _ (List.mem_of_getElem? (i := 79) (by decide +kernel))) rfl
theorem ff_X0_3 : m_FF RX0 0 3 (.array .int) := ⟨RX0, TX0, 4, rfl, rfl, rfl, by decide +kernel⟩
theorem lm_X0_3 : Cond.methodLink RX0 3 Lib.objectInit ∈ m_ws := m_ws_in (List.mem_append_right _ (List.mem_of_getElem? (i := 69) (by decide +kernel))) rfl
theorem lk_X0_24 : m_LK RX0 24 M_X5_at := Or.inr ⟨"BatchDoser", m_nw_in (List.mem_append_right _ (List.mem_of_getElem? (i := 412) (by decide +kernel))) rfl⟩
theorem ll_X0_28 : Cond.methodLink RX0 28 yJ9_floorDiv_7cf53 ∈ m_ws := m_ws_in (List.mem_append_right _ (List.mem_of_getElem? (i := 413) (by decide +kernel))) rfl
theorem lk_X0_28 : m_LK RX0 28 M_J9_floorDiv_7cf53 := Or.inl ll_X0_28
theorem lm_X0_34 : Cond.methodLink RX0 34 Lib.Math.min.name ∈ m_ws := m_ws_in (List.mem_append_right _ (List.mem_of_getElem? (i := 416) (by decide +kernel))) rfl
theorem lm_X0_37 : Cond.methodLink RX0 37 Lib.Math.max.name ∈ m_ws := m_ws_in (List.mem_append_right _ (List.mem_of_getElem? (i := 417) (by decide +kernel))) rfl
theorem lk_X0_40 : m_LK RX0 40 M_X5_put := Or.inr ⟨"BatchDoser", m_nw_in (List.mem_append_right _ (List.mem_of_getElem? (i := 418) (by decide +kernel))) rfl⟩
theorem fl_X1_12 : m_FL RX1 12 1 0 := ⟨RX1, TX1, 16, rfl, by decide, Or.inl (m_ws_in (List.mem_append_right _ (List.mem_of_getElem? (i := 140) (by decide +kernel))) rfl)⟩
theorem fw_X1_12 : ∀ (C : String) (T : u_T) (N : Nat), m_cl[1]? = some (C, T, N) → Cond.fieldLink RX1 12 (T 0).1 (T 0).2.1 (T 0).2.2.1 ∈ m_ws := fun C T N h => by cases h; exact m_ws_in (List.mem_append_right _ (List.mem_of_getElem? (i := 140) (by decide +kernel))) rfl
theorem ff_X1_0 : m_FF RX1 1 0 (.object "BatchDoser$Scale") := ⟨RX1, TX1, 16, rfl, rfl, rfl, by decide +kernel⟩
theorem fl_X1_21 : m_FL RX1 21 1 1 := ⟨RX1, TX1, 16, rfl, by decide, Or.inl (m_ws_in (List.mem_append_right _ (List.mem_of_getElem? (i := 142) (by decide +kernel))) rfl)⟩
theorem fw_X1_21 : ∀ (C : String) (T : u_T) (N : Nat), m_cl[1]? = some (C, T, N) → Cond.fieldLink RX1 21 (T 1).1 (T 1).2.1 (T 1).2.2.1 ∈ m_ws := fun C T N h => by cases h; exact m_ws_in (List.mem_append_right _ (List.mem_of_getElem? (i := 142) (by decide +kernel))) rfl
theorem ff_X1_1 : m_FF RX1 1 1 (.object "BatchDoser$Bins") := ⟨RX1, TX1, 16, rfl, rfl, rfl, by decide +kernel⟩
theorem fl_X1_28 : m_FL RX1 28 1 2 := ⟨RX1, TX1, 16, rfl, by decide, Or.inl (m_ws_in (List.mem_append_right _ (List.mem_of_getElem? (i := 144) (by decide +kernel))) rfl)⟩
theorem fw_X1_28 : ∀ (C : String) (T : u_T) (N : Nat), m_cl[1]? = some (C, T, N) → Cond.fieldLink RX1 28 (T 2).1 (T 2).2.1 (T 2).2.2.1 ∈ m_ws := fun C T N h => by cases h; exact m_ws_in (List.mem_append_right _ (List.mem_of_getElem? (i := 144) (by decide +kernel))) rfl
theorem ff_X1_2 : m_FF RX1 1 2 (.object "BatchDoser$Lots") := ⟨RX1, TX1, 16, rfl, rfl, rfl, by decide +kernel⟩
theorem fl_X1_35 : m_FL RX1 35 1 3 := ⟨RX1, TX1, 16, rfl, by decide, Or.inl (m_ws_in (List.mem_append_right _ (List.mem_of_getElem? (i := 146) (by decide +kernel))) rfl)⟩
theorem fw_X1_35 : ∀ (C : String) (T : u_T) (N : Nat), m_cl[1]? = some (C, T, N) → Cond.fieldLink RX1 35 (T 3).1 (T 3).2.1 (T 3).2.2.1 ∈ m_ws := fun C T N h => by cases h; exact m_ws_in (List.mem_append_right _ (List.mem_of_getElem? (i := 146) (by decide +kernel))) rfl
theorem ff_X1_3 : m_FF RX1 1 3 (.object "BatchDoser$Recipe") := ⟨RX1, TX1, 16, rfl, rfl, rfl, by decide +kernel⟩
theorem fl_X1_39 : m_FL RX1 39 1 4 := ⟨RX1, TX1, 16, rfl, by decide, Or.inl (m_ws_in (List.mem_append_right _ (List.mem_of_getElem? (i := 148) (by decide +kernel))) rfl)⟩
theorem fw_X1_39 : ∀ (C : String) (T : u_T) (N : Nat), m_cl[1]? = some (C, T, N) → Cond.fieldLink RX1 39 (T 4).1 (T 4).2.1 (T 4).2.2.1 ∈ m_ws := fun C T N h => by cases h; exact m_ws_in (List.mem_append_right _ (List.mem_of_getElem? (i := 148) (by decide +kernel))) rfl
theorem fp_X1_4 : m_FP 1 4 (.int) := ⟨RX1, TX1, 16, rfl, rfl, by decide +kernel⟩
theorem fl_X1_43 : m_FL RX1 43 1 5 := ⟨RX1, TX1, 16, rfl, by decide, Or.inl (m_ws_in (List.mem_append_right _ (List.mem_of_getElem? (i := 150) (by decide +kernel))) rfl)⟩
theorem fw_X1_43 : ∀ (C : String) (T : u_T) (N : Nat), m_cl[1]? = some (C, T, N) → Cond.fieldLink RX1 43 (T 5).1 (T 5).2.1 (T 5).2.2.1 ∈ m_ws := fun C T N h => by cases h; exact m_ws_in (List.mem_append_right _ (List.mem_of_getElem? (i := 150) (by decide +kernel))) rfl
theorem fp_X1_5 : m_FP 1 5 (.int) := ⟨RX1, TX1, 16, rfl, rfl, by decide +kernel⟩
theorem fl_X1_46 : m_FL RX1 46 1 6 := ⟨RX1, TX1, 16, rfl, by decide, Or.inl (m_ws_in (List.mem_append_right _ (List.mem_of_getElem? (i := 152) (by decide +kernel))) rfl)⟩
theorem fw_X1_46 : ∀ (C : String) (T : u_T) (N : Nat), m_cl[1]? = some (C, T, N) → Cond.fieldLink RX1 46 (T 6).1 (T 6).2.1 (T 6).2.2.1 ∈ m_ws := fun C T N h => by cases h; exact m_ws_in (List.mem_append_right _ (List.mem_of_getElem? (i := 152) (by decide +kernel))) rfl
theorem fp_X1_6 : m_FP 1 6 (.int) := ⟨RX1, TX1, 16, rfl, rfl, by decide +kernel⟩
theorem lm_X1_3 : Cond.methodLink RX1 3 Lib.objectInit ∈ m_ws := m_ws_in (List.mem_append_right _ (List.mem_of_getElem? (i := 28) (by decide +kernel))) rfl
theorem lk_X1_11 : m_LK RX1 11 M_X4_init := Or.inr ⟨"BatchDoser", m_nw_in (List.mem_append_right _ (List.mem_of_getElem? (i := 31) (by decide +kernel))) rfl⟩
theorem ll_X1_20 : Cond.methodLink RX1 20 yX0_init ∈ m_ws := m_ws_in (List.mem_append_right _ (List.mem_of_getElem? (i := 66) (by decide +kernel))) rfl
theorem lk_X1_20 : m_LK RX1 20 M_X0_init := Or.inl ll_X1_20
theorem lk_X1_27 : m_LK RX1 27 M_X2_init := Or.inr ⟨"BatchDoser", m_nw_in (List.mem_append_right _ (List.mem_of_getElem? (i := 94) (by decide +kernel))) rfl⟩
theorem lk_X1_34 : m_LK RX1 34 M_X3_init := Or.inr ⟨"BatchDoser", m_nw_in (List.mem_append_right _ (List.mem_of_getElem? (i := 118) (by decide +kernel))) rfl⟩
theorem fl_X1_53 : m_FL RX1 53 1 7 := ⟨RX1, TX1, 16, rfl, by decide, Or.inl (m_ws_in (List.mem_append_right _ (List.mem_of_getElem? (i := 154) (by decide +kernel))) rfl)⟩
theorem fw_X1_53 : ∀ (C : String) (T : u_T) (N : Nat), m_cl[1]? = some (C, T, N) → Cond.fieldLink RX1 53 (T 7).1 (T 7).2.1 (T 7).2.2.1 ∈ m_ws := fun C T N h => by cases h; exact m_ws_in (List.mem_append_right _ (List.mem_of_getElem? (i := 154) (by decide +kernel))) rfl
theorem fp_X1_7 : m_FP 1 7 (.int) := ⟨RX1, TX1, 16, rfl, rfl, by decide +kernel⟩
theorem ll_X1_49 : Cond.methodLink RX1 49 yX4_take ∈ m_ws := m_ws_in (List.mem_append_right _ (List.mem_of_getElem? (i := 364) (by decide +kernel))) rfl
theorem lk_X1_49 : m_LK RX1 49 M_X4_take := Or.inl ll_X1_49
theorem ll_X1_56 : Cond.methodLink RX1 56 yX4_trackZero ∈ m_ws := m_ws_in (List.mem_append_right _ (List.mem_of_getElem? (i := 368) (by decide +kernel))) rfl
theorem lk_X1_56 : m_LK RX1 56 M_X4_trackZero := Or.inl ll_X1_56
theorem ll_X1_59 : Cond.methodLink RX1 59 yX1_tareStep ∈ m_ws := m_ws_in (List.mem_append_right _ (List.mem_of_getElem? (i := 374) (by decide +kernel))) rfl
theorem lk_X1_59 : m_LK RX1 59 M_X1_tareStep := Or.inl ll_X1_59
theorem ll_X1_62 : Cond.methodLink RX1 62 yX1_feed ∈ m_ws := m_ws_in (List.mem_append_right _ (List.mem_of_getElem? (i := 395) (by decide +kernel))) rfl
theorem lk_X1_62 : m_LK RX1 62 M_X1_feed := Or.inl ll_X1_62
theorem ll_X1_65 : Cond.methodLink RX1 65 yX4_isCalm ∈ m_ws := m_ws_in (List.mem_append_right _ (List.mem_of_getElem? (i := 378) (by decide +kernel))) rfl
theorem lk_X1_65 : m_LK RX1 65 M_X4_isCalm := Or.inl ll_X1_65
theorem ll_X1_69 : Cond.methodLink RX1 69 yX1_weigh ∈ m_ws := m_ws_in (List.mem_append_right _ (List.mem_of_getElem? (i := 404) (by decide +kernel))) rfl
theorem lk_X1_69 : m_LK RX1 69 M_X1_weigh := Or.inl ll_X1_69
theorem ll_X1_72 : Cond.methodLink RX1 72 yX1_enter ∈ m_ws := m_ws_in (List.mem_append_right _ (List.mem_of_getElem? (i := 391) (by decide +kernel))) rfl
theorem lk_X1_72 : m_LK RX1 72 M_X1_enter := Or.inl ll_X1_72
theorem ll_X1_75 : Cond.methodLink RX1 75 yX1_stepBin ∈ m_ws := m_ws_in (List.mem_append_right _ (List.mem_of_getElem? (i := 387) (by decide +kernel))) rfl
theorem lk_X1_75 : m_LK RX1 75 M_X1_stepBin := Or.inl ll_X1_75
theorem fl_X1_79 : m_FL RX1 79 1 14 := ⟨RX1, TX1, 16, rfl, by decide, Or.inl (m_ws_in (List.mem_append_right _ (List.mem_of_getElem? (i := 163) (by decide +kernel))) rfl)⟩
theorem fw_X1_79 : ∀ (C : String) (T : u_T) (N : Nat), m_cl[1]? = some (C, T, N) → Cond.fieldLink RX1 79 (T 14).1 (T 14).2.1 (T 14).2.2.1 ∈ m_ws := fun C T N h => by cases h; exact m_ws_in (List.mem_append_right _ (List.mem_of_getElem? (i := 163) (by decide +kernel))) rfl
theorem fp_X1_14 : m_FP 1 14 (.int) := ⟨RX1, TX1, 16, rfl, rfl, by decide +kernel⟩
theorem ll_X1_82 : Cond.methodLink RX1 82 yX1_beginStep ∈ m_ws := m_ws_in (List.mem_append_right _ (List.mem_of_getElem? (i := 447) (by decide +kernel))) rfl
theorem lk_X1_82 : m_LK RX1 82 M_X1_beginStep := Or.inl ll_X1_82
theorem fl_X1_88 : m_FL RX1 88 1 8 := ⟨RX1, TX1, 16, rfl, by decide, Or.inl (m_ws_in (List.mem_append_right _ (List.mem_of_getElem? (i := 155) (by decide +kernel))) rfl)⟩
theorem fw_X1_88 : ∀ (C : String) (T : u_T) (N : Nat), m_cl[1]? = some (C, T, N) → Cond.fieldLink RX1 88 (T 8).1 (T 8).2.1 (T 8).2.2.1 ∈ m_ws := fun C T N h => by cases h; exact m_ws_in (List.mem_append_right _ (List.mem_of_getElem? (i := 155) (by decide +kernel))) rfl
theorem fp_X1_8 : m_FP 1 8 (.int) := ⟨RX1, TX1, 16, rfl, rfl, by decide +kernel⟩
theorem ll_X1_85 : Cond.methodLink RX1 85 yX1_finishStep ∈ m_ws := m_ws_in (List.mem_append_right _ (List.mem_of_getElem? (i := 425) (by decide +kernel))) rfl
theorem lk_X1_85 : m_LK RX1 85 M_X1_finishStep := Or.inl ll_X1_85
theorem fl_X1_91 : m_FL RX1 91 1 12 := ⟨RX1, TX1, 16, rfl, by decide, Or.inl (m_ws_in (List.mem_append_right _ (List.mem_of_getElem? (i := 161) (by decide +kernel))) rfl)⟩
theorem fw_X1_91 : ∀ (C : String) (T : u_T) (N : Nat), m_cl[1]? = some (C, T, N) → Cond.fieldLink RX1 91 (T 12).1 (T 12).2.1 (T 12).2.2.1 ∈ m_ws := fun C T N h => by cases h; exact m_ws_in (List.mem_append_right _ (List.mem_of_getElem? (i := 161) (by decide +kernel))) rfl
theorem ll_X1_95 : Cond.methodLink RX1 95 yX1_bookNet ∈ m_ws := m_ws_in (List.mem_append_right _ (List.mem_of_getElem? (i := 429) (by decide +kernel))) rfl
theorem lk_X1_95 : m_LK RX1 95 M_X1_bookNet := Or.inl ll_X1_95
theorem fl_X1_101 : m_FL RX1 101 4 1 := ⟨RX4, TX4, 8, rfl, by decide, Or.inr ⟨"BatchDoser", m_nw_in (List.mem_append_right _ (List.mem_of_getElem? (i := 38) (by decide +kernel))) rfl⟩⟩
theorem fp_X4_1 : m_FP 4 1 (.int) := ⟨RX4, TX4, 8, rfl, rfl, by decide +kernel⟩
theorem fp_X1_12 : m_FP 1 12 (.boolean) := ⟨RX1, TX1, 16, rfl, rfl, by decide +kernel⟩
theorem fl_X1_107 : m_FL RX1 107 0 0 := ⟨RX0, TX0, 4, rfl, by decide, Or.inr ⟨"BatchDoser", m_nw_in (List.mem_append_right _ (List.mem_of_getElem? (i := 71) (by decide +kernel))) rfl⟩⟩
theorem ll_X1_98 : Cond.methodLink RX1 98 yX4_grossNow ∈ m_ws := m_ws_in (List.mem_append_right _ (List.mem_of_getElem? (i := 379) (by decide +kernel))) rfl
theorem lk_X1_98 : m_LK RX1 98 M_X4_grossNow := Or.inl ll_X1_98
theorem ll_X1_104 : Cond.methodLink RX1 104 yX1_target ∈ m_ws := m_ws_in (List.mem_append_right _ (List.mem_of_getElem? (i := 380) (by decide +kernel))) rfl
theorem lk_X1_104 : m_LK RX1 104 M_X1_target := Or.inl ll_X1_104
theorem lk_X1_111 : m_LK RX1 111 M_X5_at := Or.inr ⟨"BatchDoser", m_nw_in (List.mem_append_right _ (List.mem_of_getElem? (i := 384) (by decide +kernel))) rfl⟩
theorem fl_X1_118 : m_FL RX1 118 1 11 := ⟨RX1, TX1, 16, rfl, by decide, Or.inl (m_ws_in (List.mem_append_right _ (List.mem_of_getElem? (i := 160) (by decide +kernel))) rfl)⟩
theorem fw_X1_118 : ∀ (C : String) (T : u_T) (N : Nat), m_cl[1]? = some (C, T, N) → Cond.fieldLink RX1 118 (T 11).1 (T 11).2.1 (T 11).2.2.1 ∈ m_ws := fun C T N h => by cases h; exact m_ws_in (List.mem_append_right _ (List.mem_of_getElem? (i := 160) (by decide +kernel))) rfl
theorem fp_X1_11 : m_FP 1 11 (.int) := ⟨RX1, TX1, 16, rfl, rfl, by decide +kernel⟩
theorem fl_X1_121 : m_FL RX1 121 0 1 := ⟨RX0, TX0, 4, rfl, by decide, Or.inr ⟨"BatchDoser", m_nw_in (List.mem_append_right _ (List.mem_of_getElem? (i := 74) (by decide +kernel))) rfl⟩⟩
theorem ll_X1_115 : Cond.methodLink RX1 115 yX4_netNow ∈ m_ws := m_ws_in (List.mem_append_right _ (List.mem_of_getElem? (i := 399) (by decide +kernel))) rfl
theorem lk_X1_115 : m_LK RX1 115 M_X4_netNow := Or.inl ll_X1_115
theorem ll_X1_124 : Cond.methodLink RX1 124 yX1_halt ∈ m_ws := m_ws_in (List.mem_append_right _ (List.mem_of_getElem? (i := 400) (by decide +kernel))) rfl
theorem lk_X1_124 : m_LK RX1 124 M_X1_halt := Or.inl ll_X1_124
theorem fl_X1_127 : m_FL RX1 127 3 2 := ⟨RX3, TX3, 4, rfl, by decide, Or.inr ⟨"BatchDoser", m_nw_in (List.mem_append_right _ (List.mem_of_getElem? (i := 127) (by decide +kernel))) rfl⟩⟩
theorem fl_X1_130 : m_FL RX1 130 1 9 := ⟨RX1, TX1, 16, rfl, by decide, Or.inl (m_ws_in (List.mem_append_right _ (List.mem_of_getElem? (i := 156) (by decide +kernel))) rfl)⟩
theorem fw_X1_130 : ∀ (C : String) (T : u_T) (N : Nat), m_cl[1]? = some (C, T, N) → Cond.fieldLink RX1 130 (T 9).1 (T 9).2.1 (T 9).2.2.1 ∈ m_ws := fun C T N h => by cases h; exact m_ws_in (List.mem_append_right _ (List.mem_of_getElem? (i := 156) (by decide +kernel))) rfl
theorem fl_X1_133 : m_FL RX1 133 1 13 := ⟨RX1, TX1, 16, rfl, by decide, Or.inl (m_ws_in (List.mem_append_right _ (List.mem_of_getElem? (i := 162) (by decide +kernel))) rfl)⟩
theorem fw_X1_133 : ∀ (C : String) (T : u_T) (N : Nat), m_cl[1]? = some (C, T, N) → Cond.fieldLink RX1 133 (T 13).1 (T 13).2.1 (T 13).2.2.1 ∈ m_ws := fun C T N h => by cases h; exact m_ws_in (List.mem_append_right _ (List.mem_of_getElem? (i := 162) (by decide +kernel))) rfl
theorem fp_X1_13 : m_FP 1 13 (.boolean) := ⟨RX1, TX1, 16, rfl, rfl, by decide +kernel⟩
theorem ll_X1_136 : Cond.methodLink RX1 136 yX0_learn ∈ m_ws := m_ws_in (List.mem_append_right _ (List.mem_of_getElem? (i := 408) (by decide +kernel))) rfl
theorem lk_X1_136 : m_LK RX1 136 M_X0_learn := Or.inl ll_X1_136
theorem ll_X1_140 : Cond.methodLink RX1 140 yX1_jog ∈ m_ws := m_ws_in (List.mem_append_right _ (List.mem_of_getElem? (i := 421) (by decide +kernel))) rfl
theorem lk_X1_140 : m_LK RX1 140 M_X1_jog := Or.inl ll_X1_140
theorem fl_X1_143 : m_FL RX1 143 1 10 := ⟨RX1, TX1, 16, rfl, by decide, Or.inl (m_ws_in (List.mem_append_right _ (List.mem_of_getElem? (i := 158) (by decide +kernel))) rfl)⟩
theorem fw_X1_143 : ∀ (C : String) (T : u_T) (N : Nat), m_cl[1]? = some (C, T, N) → Cond.fieldLink RX1 143 (T 10).1 (T 10).2.1 (T 10).2.2.1 ∈ m_ws := fun C T N h => by cases h; exact m_ws_in (List.mem_append_right _ (List.mem_of_getElem? (i := 158) (by decide +kernel))) rfl
theorem fp_X1_10 : m_FP 1 10 (.int) := ⟨RX1, TX1, 16, rfl, rfl, by decide +kernel⟩
theorem fl_X1_146 : m_FL RX1 146 3 3 := ⟨RX3, TX3, 4, rfl, by decide, Or.inr ⟨"BatchDoser", m_nw_in (List.mem_append_right _ (List.mem_of_getElem? (i := 129) (by decide +kernel))) rfl⟩⟩
theorem fl_X1_149 : m_FL RX1 149 1 15 := ⟨RX1, TX1, 16, rfl, by decide, Or.inl (m_ws_in (List.mem_append_right _ (List.mem_of_getElem? (i := 165) (by decide +kernel))) rfl)⟩
theorem fw_X1_149 : ∀ (C : String) (T : u_T) (N : Nat), m_cl[1]? = some (C, T, N) → Cond.fieldLink RX1 149 (T 15).1 (T 15).2.1 (T 15).2.2.1 ∈ m_ws := fun C T N h => by cases h; exact m_ws_in (List.mem_append_right _ (List.mem_of_getElem? (i := 165) (by decide +kernel))) rfl
theorem fp_X1_15 : m_FP 1 15 (.int) := ⟨RX1, TX1, 16, rfl, rfl, by decide +kernel⟩
theorem fp_X1_9 : m_FP 1 9 (.int) := ⟨RX1, TX1, 16, rfl, rfl, by decide +kernel⟩
theorem fl_X1_162 : m_FL RX1 162 0 2 := ⟨RX0, TX0, 4, rfl, by decide, Or.inr ⟨"BatchDoser", m_nw_in (List.mem_append_right _ (List.mem_of_getElem? (i := 78) (by decide +kernel))) rfl⟩⟩
theorem fl_X1_169 : m_FL RX1 169 0 3 := ⟨RX0, TX0, 4, rfl, by decide, Or.inr ⟨"BatchDoser", m_nw_in (List.mem_append_right _ (List.mem_of_getElem? (i := 81) (by decide +kernel))) rfl⟩⟩
theorem lm_X1_152 : Cond.methodLink RX1 152 Lib.Math.max.name ∈ m_ws := m_ws_in (List.mem_append_right _ (List.mem_of_getElem? (i := 433) (by decide +kernel))) rfl
theorem ll_X1_158 : Cond.methodLink RX1 158 yX2_takeOut ∈ m_ws := m_ws_in (List.mem_append_right _ (List.mem_of_getElem? (i := 434) (by decide +kernel))) rfl
theorem lk_X1_158 : m_LK RX1 158 M_X2_takeOut := Or.inl ll_X1_158
theorem lk_X1_165 : m_LK RX1 165 M_X5_increase := Or.inr ⟨"BatchDoser", m_nw_in (List.mem_append_right _ (List.mem_of_getElem? (i := 446) (by decide +kernel))) rfl⟩
theorem fl_X1_172 : m_FL RX1 172 3 0 := ⟨RX3, TX3, 4, rfl, by decide, Or.inr ⟨"BatchDoser", m_nw_in (List.mem_append_right _ (List.mem_of_getElem? (i := 123) (by decide +kernel))) rfl⟩⟩
theorem fl_X1_175 : m_FL RX1 175 3 1 := ⟨RX3, TX3, 4, rfl, by decide, Or.inr ⟨"BatchDoser", m_nw_in (List.mem_append_right _ (List.mem_of_getElem? (i := 125) (by decide +kernel))) rfl⟩⟩
theorem fl_X2_9 : m_FL RX2 9 2 0 := ⟨RX2, TX2, 5, rfl, by decide, Or.inl (m_ws_in (List.mem_append_right _ (List.mem_of_getElem? (i := 98) (by decide +kernel))) rfl)⟩
theorem fw_X2_9 : ∀ (C : String) (T : u_T) (N : Nat), m_cl[2]? = some (C, T, N) → Cond.fieldLink RX2 9 (T 0).1 (T 0).2.1 (T 0).2.2.1 ∈ m_ws := fun C T N h => by cases h; exact m_ws_in (List.mem_append_right _ (List.mem_of_getElem? (i := 98) (by decide +kernel))) rfl
theorem ff_X2_0 : m_FF RX2 2 0 (.array .int) := ⟨RX2, TX2, 5, rfl, rfl, rfl, by decide +kernel⟩
theorem fl_X2_15 : m_FL RX2 15 2 1 := ⟨RX2, TX2, 5, rfl, by decide, Or.inl (m_ws_in (List.mem_append_right _ (List.mem_of_getElem? (i := 99) (by decide +kernel))) rfl)⟩
theorem fw_X2_15 : ∀ (C : String) (T : u_T) (N : Nat), m_cl[2]? = some (C, T, N) → Cond.fieldLink RX2 15 (T 1).1 (T 1).2.1 (T 1).2.2.1 ∈ m_ws := fun C T N h => by cases h; exact m_ws_in (List.mem_append_right _ (List.mem_of_getElem? (i := 99) (by decide +kernel))) rfl
theorem ff_X2_1 : m_FF RX2 2 1 (.array .int) := ⟨RX2, TX2, 5, rfl, rfl, rfl, by decide +kernel⟩
theorem fl_X2_18 : m_FL RX2 18 2 2 := ⟨RX2, TX2, 5, rfl, by decide, Or.inl (m_ws_in (List.mem_append_right _ (List.mem_of_getElem? (i := 100) (by decide +kernel))) rfl)⟩
theorem fw_X2_18 : ∀ (C : String) (T : u_T) (N : Nat), m_cl[2]? = some (C, T, N) → Cond.fieldLink RX2 18 (T 2).1 (T 2).2.1 (T 2).2.2.1 ∈ m_ws := fun C T N h => by cases h; exact m_ws_in (List.mem_append_right _ (List.mem_of_getElem? (i := 100) (by decide +kernel))) rfl
theorem ff_X2_2 : m_FF RX2 2 2 (.array .int) := ⟨RX2, TX2, 5, rfl, rfl, rfl, by decide +kernel⟩
theorem fl_X2_21 : m_FL RX2 21 2 3 := ⟨RX2, TX2, 5, rfl, by decide, Or.inl (m_ws_in (List.mem_append_right _ (List.mem_of_getElem? (i := 102) (by decide +kernel))) rfl)⟩
theorem fw_X2_21 : ∀ (C : String) (T : u_T) (N : Nat), m_cl[2]? = some (C, T, N) → Cond.fieldLink RX2 21 (T 3).1 (T 3).2.1 (T 3).2.2.1 ∈ m_ws := fun C T N h => by cases h; exact m_ws_in (List.mem_append_right _ (List.mem_of_getElem? (i := 102) (by decide +kernel))) rfl
theorem ff_X2_3 : m_FF RX2 2 3 (.array .int) := ⟨RX2, TX2, 5, rfl, rfl, rfl, by decide +kernel⟩
theorem lm_X2_3 : Cond.methodLink RX2 3 Lib.objectInit ∈ m_ws := m_ws_in (List.mem_append_right _ (List.mem_of_getElem? (i := 97) (by decide +kernel))) rfl
theorem fl_X2_24 : m_FL RX2 24 2 4 := ⟨RX2, TX2, 5, rfl, by decide, Or.inl (m_ws_in (List.mem_append_right _ (List.mem_of_getElem? (i := 103) (by decide +kernel))) rfl)⟩
theorem fw_X2_24 : ∀ (C : String) (T : u_T) (N : Nat), m_cl[2]? = some (C, T, N) → Cond.fieldLink RX2 24 (T 4).1 (T 4).2.1 (T 4).2.2.1 ∈ m_ws := fun C T N h => by cases h; exact m_ws_in (List.mem_append_right _ (List.mem_of_getElem? (i := 103) (by decide +kernel))) rfl
theorem fp_X2_4 : m_FP 2 4 (.int) := ⟨RX2, TX2, 5, rfl, rfl, by decide +kernel⟩
theorem lk_X2_28 : m_LK RX2 28 M_X5_put := Or.inr ⟨"BatchDoser", m_nw_in (List.mem_append_right _ (List.mem_of_getElem? (i := 523) (by decide +kernel))) rfl⟩
theorem lk_X2_32 : m_LK RX2 32 M_X5_at := Or.inr ⟨"BatchDoser", m_nw_in (List.mem_append_right _ (List.mem_of_getElem? (i := 438) (by decide +kernel))) rfl⟩
theorem lm_X2_36 : Cond.methodLink RX2 36 Lib.Math.min.name ∈ m_ws := m_ws_in (List.mem_append_right _ (List.mem_of_getElem? (i := 439) (by decide +kernel))) rfl
theorem lk_X2_42 : m_LK RX2 42 M_X5_increase := Or.inr ⟨"BatchDoser", m_nw_in (List.mem_append_right _ (List.mem_of_getElem? (i := 440) (by decide +kernel))) rfl⟩
theorem ll_X2_45 : Cond.methodLink RX2 45 yX2_place ∈ m_ws := m_ws_in (List.mem_append_right _ (List.mem_of_getElem? (i := 443) (by decide +kernel))) rfl
theorem lk_X2_45 : m_LK RX2 45 M_X2_place := Or.inl ll_X2_45
theorem ll_X2_48 : Cond.methodLink RX2 48 yX2_usedFor ∈ m_ws := m_ws_in (List.mem_append_right _ (List.mem_of_getElem? (i := 603) (by decide +kernel))) rfl
theorem lk_X2_48 : m_LK RX2 48 M_X2_usedFor := Or.inl ll_X2_48
theorem fl_X3_9 : m_FL RX3 9 3 0 := ⟨RX3, TX3, 4, rfl, by decide, Or.inl (m_ws_in (List.mem_append_right _ (List.mem_of_getElem? (i := 122) (by decide +kernel))) rfl)⟩
theorem fw_X3_9 : ∀ (C : String) (T : u_T) (N : Nat), m_cl[3]? = some (C, T, N) → Cond.fieldLink RX3 9 (T 0).1 (T 0).2.1 (T 0).2.2.1 ∈ m_ws := fun C T N h => by cases h; exact m_ws_in (List.mem_append_right _ (List.mem_of_getElem? (i := 122) (by decide +kernel))) rfl
theorem ff_X3_0 : m_FF RX3 3 0 (.array .int) := ⟨RX3, TX3, 4, rfl, rfl, rfl, by decide +kernel⟩
theorem fl_X3_15 : m_FL RX3 15 3 1 := ⟨RX3, TX3, 4, rfl, by decide, Or.inl (m_ws_in (List.mem_append_right _ (List.mem_of_getElem? (i := 124) (by decide +kernel))) rfl)⟩
theorem fw_X3_15 : ∀ (C : String) (T : u_T) (N : Nat), m_cl[3]? = some (C, T, N) → Cond.fieldLink RX3 15 (T 1).1 (T 1).2.1 (T 1).2.2.1 ∈ m_ws := fun C T N h => by cases h; exact m_ws_in (List.mem_append_right _ (List.mem_of_getElem? (i := 124) (by decide +kernel))) rfl
theorem ff_X3_1 : m_FF RX3 3 1 (.array .int) := ⟨RX3, TX3, 4, rfl, rfl, rfl, by decide +kernel⟩
theorem fl_X3_18 : m_FL RX3 18 3 2 := ⟨RX3, TX3, 4, rfl, by decide, Or.inl (m_ws_in (List.mem_append_right _ (List.mem_of_getElem? (i := 126) (by decide +kernel))) rfl)⟩
theorem fw_X3_18 : ∀ (C : String) (T : u_T) (N : Nat), m_cl[3]? = some (C, T, N) → Cond.fieldLink RX3 18 (T 2).1 (T 2).2.1 (T 2).2.2.1 ∈ m_ws := fun C T N h => by cases h; exact m_ws_in (List.mem_append_right _ (List.mem_of_getElem? (i := 126) (by decide +kernel))) rfl
theorem ff_X3_2 : m_FF RX3 3 2 (.array .int) := ⟨RX3, TX3, 4, rfl, rfl, rfl, by decide +kernel⟩
theorem lm_X3_3 : Cond.methodLink RX3 3 Lib.objectInit ∈ m_ws := m_ws_in (List.mem_append_right _ (List.mem_of_getElem? (i := 121) (by decide +kernel))) rfl
theorem fl_X3_21 : m_FL RX3 21 3 3 := ⟨RX3, TX3, 4, rfl, by decide, Or.inl (m_ws_in (List.mem_append_right _ (List.mem_of_getElem? (i := 128) (by decide +kernel))) rfl)⟩
theorem fw_X3_21 : ∀ (C : String) (T : u_T) (N : Nat), m_cl[3]? = some (C, T, N) → Cond.fieldLink RX3 21 (T 3).1 (T 3).2.1 (T 3).2.2.1 ∈ m_ws := fun C T N h => by cases h; exact m_ws_in (List.mem_append_right _ (List.mem_of_getElem? (i := 128) (by decide +kernel))) rfl
theorem fp_X3_3 : m_FP 3 3 (.int) := ⟨RX3, TX3, 4, rfl, rfl, by decide +kernel⟩
theorem lk_X3_25 : m_LK RX3 25 M_X5_put := Or.inr ⟨"BatchDoser", m_nw_in (List.mem_append_right _ (List.mem_of_getElem? (i := 631) (by decide +kernel))) rfl⟩
theorem fl_X4_9 : m_FL RX4 9 4 2 := ⟨RX4, TX4, 8, rfl, by decide, Or.inl (m_ws_in (List.mem_append_right _ (List.mem_of_getElem? (i := 39) (by decide +kernel))) rfl)⟩
theorem fw_X4_9 : ∀ (C : String) (T : u_T) (N : Nat), m_cl[4]? = some (C, T, N) → Cond.fieldLink RX4 9 (T 2).1 (T 2).2.1 (T 2).2.2.1 ∈ m_ws := fun C T N h => by cases h; exact m_ws_in (List.mem_append_right _ (List.mem_of_getElem? (i := 39) (by decide +kernel))) rfl
theorem fp_X4_2 : m_FP 4 2 (.int) := ⟨RX4, TX4, 8, rfl, rfl, by decide +kernel⟩
theorem lm_X4_3 : Cond.methodLink RX4 3 Lib.objectInit ∈ m_ws := m_ws_in (List.mem_append_right _ (List.mem_of_getElem? (i := 34) (by decide +kernel))) rfl
theorem fl_X4_15 : m_FL RX4 15 4 6 := ⟨RX4, TX4, 8, rfl, by decide, Or.inl (m_ws_in (List.mem_append_right _ (List.mem_of_getElem? (i := 45) (by decide +kernel))) rfl)⟩
theorem fw_X4_15 : ∀ (C : String) (T : u_T) (N : Nat), m_cl[4]? = some (C, T, N) → Cond.fieldLink RX4 15 (T 6).1 (T 6).2.1 (T 6).2.2.1 ∈ m_ws := fun C T N h => by cases h; exact m_ws_in (List.mem_append_right _ (List.mem_of_getElem? (i := 45) (by decide +kernel))) rfl
theorem fl_X4_18 : m_FL RX4 18 4 7 := ⟨RX4, TX4, 8, rfl, by decide, Or.inl (m_ws_in (List.mem_append_right _ (List.mem_of_getElem? (i := 46) (by decide +kernel))) rfl)⟩
theorem fw_X4_18 : ∀ (C : String) (T : u_T) (N : Nat), m_cl[4]? = some (C, T, N) → Cond.fieldLink RX4 18 (T 7).1 (T 7).2.1 (T 7).2.2.1 ∈ m_ws := fun C T N h => by cases h; exact m_ws_in (List.mem_append_right _ (List.mem_of_getElem? (i := 46) (by decide +kernel))) rfl
theorem fp_X4_7 : m_FP 4 7 (.int) := ⟨RX4, TX4, 8, rfl, rfl, by decide +kernel⟩
theorem fl_X4_21 : m_FL RX4 21 4 5 := ⟨RX4, TX4, 8, rfl, by decide, Or.inl (m_ws_in (List.mem_append_right _ (List.mem_of_getElem? (i := 44) (by decide +kernel))) rfl)⟩
theorem fw_X4_21 : ∀ (C : String) (T : u_T) (N : Nat), m_cl[4]? = some (C, T, N) → Cond.fieldLink RX4 21 (T 5).1 (T 5).2.1 (T 5).2.2.1 ∈ m_ws := fun C T N h => by cases h; exact m_ws_in (List.mem_append_right _ (List.mem_of_getElem? (i := 44) (by decide +kernel))) rfl
theorem fp_X4_6 : m_FP 4 6 (.int) := ⟨RX4, TX4, 8, rfl, rfl, by decide +kernel⟩
theorem fl_X4_24 : m_FL RX4 24 4 4 := ⟨RX4, TX4, 8, rfl, by decide, Or.inl (m_ws_in (List.mem_append_right _ (List.mem_of_getElem? (i := 42) (by decide +kernel))) rfl)⟩
theorem fw_X4_24 : ∀ (C : String) (T : u_T) (N : Nat), m_cl[4]? = some (C, T, N) → Cond.fieldLink RX4 24 (T 4).1 (T 4).2.1 (T 4).2.2.1 ∈ m_ws := fun C T N h => by cases h; exact m_ws_in (List.mem_append_right _ (List.mem_of_getElem? (i := 42) (by decide +kernel))) rfl
theorem fp_X4_5 : m_FP 4 5 (.int) := ⟨RX4, TX4, 8, rfl, rfl, by decide +kernel⟩
theorem fp_X4_4 : m_FP 4 4 (.int) := ⟨RX4, TX4, 8, rfl, rfl, by decide +kernel⟩
theorem fl_X4_27 : m_FL RX4 27 4 3 := ⟨RX4, TX4, 8, rfl, by decide, Or.inl (m_ws_in (List.mem_append_right _ (List.mem_of_getElem? (i := 41) (by decide +kernel))) rfl)⟩
theorem fw_X4_27 : ∀ (C : String) (T : u_T) (N : Nat), m_cl[4]? = some (C, T, N) → Cond.fieldLink RX4 27 (T 3).1 (T 3).2.1 (T 3).2.2.1 ∈ m_ws := fun C T N h => by cases h; exact m_ws_in (List.mem_append_right _ (List.mem_of_getElem? (i := 41) (by decide +kernel))) rfl
theorem fp_X4_3 : m_FP 4 3 (.int) := ⟨RX4, TX4, 8, rfl, rfl, by decide +kernel⟩
theorem lm_X4_30 : Cond.methodLink RX4 30 Lib.Math.max.name ∈ m_ws := m_ws_in (List.mem_append_right _ (List.mem_of_getElem? (i := 244) (by decide +kernel))) rfl
theorem lm_X4_36 : Cond.methodLink RX4 36 Lib.Math.min.name ∈ m_ws := m_ws_in (List.mem_append_right _ (List.mem_of_getElem? (i := 247) (by decide +kernel))) rfl
theorem fl_X4_39 : m_FL RX4 39 4 0 := ⟨RX4, TX4, 8, rfl, by decide, Or.inl (m_ws_in (List.mem_append_right _ (List.mem_of_getElem? (i := 35) (by decide +kernel))) rfl)⟩
theorem fw_X4_39 : ∀ (C : String) (T : u_T) (N : Nat), m_cl[4]? = some (C, T, N) → Cond.fieldLink RX4 39 (T 0).1 (T 0).2.1 (T 0).2.2.1 ∈ m_ws := fun C T N h => by cases h; exact m_ws_in (List.mem_append_right _ (List.mem_of_getElem? (i := 35) (by decide +kernel))) rfl
theorem fl_X4_46 : m_FL RX4 46 4 1 := ⟨RX4, TX4, 8, rfl, by decide, Or.inl (m_ws_in (List.mem_append_right _ (List.mem_of_getElem? (i := 37) (by decide +kernel))) rfl)⟩
theorem fw_X4_46 : ∀ (C : String) (T : u_T) (N : Nat), m_cl[4]? = some (C, T, N) → Cond.fieldLink RX4 46 (T 1).1 (T 1).2.1 (T 1).2.2.1 ∈ m_ws := fun C T N h => by cases h; exact m_ws_in (List.mem_append_right _ (List.mem_of_getElem? (i := 37) (by decide +kernel))) rfl
theorem ll_X4_42 : Cond.methodLink RX4 42 yX4_grossNow ∈ m_ws := m_ws_in (List.mem_append_right _ (List.mem_of_getElem? (i := 235) (by decide +kernel))) rfl
theorem lk_X4_42 : m_LK RX4 42 M_X4_grossNow := Or.inl ll_X4_42
theorem fp_X4_0 : m_FP 4 0 (.int) := ⟨RX4, TX4, 8, rfl, rfl, by decide +kernel⟩
theorem lk_X4_49 : m_LK RX4 49 M_X5_isWithin := Or.inr ⟨"BatchDoser", m_nw_in (List.mem_append_right _ (List.mem_of_getElem? (i := 372) (by decide +kernel))) rfl⟩
theorem ll_X4_53 : Cond.methodLink RX4 53 yX4_isCalm ∈ m_ws := m_ws_in (List.mem_append_right _ (List.mem_of_getElem? (i := 373) (by decide +kernel))) rfl
theorem lk_X4_53 : m_LK RX4 53 M_X4_isCalm := Or.inl ll_X4_53
theorem fl_X5_10 : m_FL RX5 10 5 0 := ⟨RX5, TX5, 6, rfl, by decide, Or.inl (m_ws_in (List.mem_append_right _ (List.mem_of_getElem? (i := 200) (by decide +kernel))) rfl)⟩
theorem fw_X5_10 : ∀ (C : String) (T : u_T) (N : Nat), m_cl[5]? = some (C, T, N) → Cond.fieldLink RX5 10 (T 0).1 (T 0).2.1 (T 0).2.2.1 ∈ m_ws := fun C T N h => by cases h; exact m_ws_in (List.mem_append_right _ (List.mem_of_getElem? (i := 200) (by decide +kernel))) rfl
theorem ff_X5_0 : m_FF RX5 5 0 (.object "BatchDoser$Dosing") := ⟨RX5, TX5, 6, rfl, rfl, rfl, by decide +kernel⟩
theorem fl_X5_16 : m_FL RX5 16 1 0 := ⟨RX1, TX1, 16, rfl, by decide, Or.inr ⟨"BatchDoser", m_nw_in (List.mem_append_right _ (List.mem_of_getElem? (i := 141) (by decide +kernel))) rfl⟩⟩
theorem fl_X5_20 : m_FL RX5 20 5 1 := ⟨RX5, TX5, 6, rfl, by decide, Or.inl (m_ws_in (List.mem_append_right _ (List.mem_of_getElem? (i := 201) (by decide +kernel))) rfl)⟩
theorem fw_X5_20 : ∀ (C : String) (T : u_T) (N : Nat), m_cl[5]? = some (C, T, N) → Cond.fieldLink RX5 20 (T 1).1 (T 1).2.1 (T 1).2.2.1 ∈ m_ws := fun C T N h => by cases h; exact m_ws_in (List.mem_append_right _ (List.mem_of_getElem? (i := 201) (by decide +kernel))) rfl
theorem ff_X5_1 : m_FF RX5 5 1 (.object "BatchDoser$Scale") := ⟨RX5, TX5, 6, rfl, rfl, rfl, by decide +kernel⟩
theorem fl_X5_21 : m_FL RX5 21 1 1 := ⟨RX1, TX1, 16, rfl, by decide, Or.inr ⟨"BatchDoser", m_nw_in (List.mem_append_right _ (List.mem_of_getElem? (i := 143) (by decide +kernel))) rfl⟩⟩
theorem fl_X5_25 : m_FL RX5 25 5 2 := ⟨RX5, TX5, 6, rfl, by decide, Or.inl (m_ws_in (List.mem_append_right _ (List.mem_of_getElem? (i := 202) (by decide +kernel))) rfl)⟩
theorem fw_X5_25 : ∀ (C : String) (T : u_T) (N : Nat), m_cl[5]? = some (C, T, N) → Cond.fieldLink RX5 25 (T 2).1 (T 2).2.1 (T 2).2.2.1 ∈ m_ws := fun C T N h => by cases h; exact m_ws_in (List.mem_append_right _ (List.mem_of_getElem? (i := 202) (by decide +kernel))) rfl
theorem ff_X5_2 : m_FF RX5 5 2 (.object "BatchDoser$Bins") := ⟨RX5, TX5, 6, rfl, rfl, rfl, by decide +kernel⟩
theorem fl_X5_26 : m_FL RX5 26 1 2 := ⟨RX1, TX1, 16, rfl, by decide, Or.inr ⟨"BatchDoser", m_nw_in (List.mem_append_right _ (List.mem_of_getElem? (i := 145) (by decide +kernel))) rfl⟩⟩
theorem fl_X5_30 : m_FL RX5 30 5 3 := ⟨RX5, TX5, 6, rfl, by decide, Or.inl (m_ws_in (List.mem_append_right _ (List.mem_of_getElem? (i := 203) (by decide +kernel))) rfl)⟩
theorem fw_X5_30 : ∀ (C : String) (T : u_T) (N : Nat), m_cl[5]? = some (C, T, N) → Cond.fieldLink RX5 30 (T 3).1 (T 3).2.1 (T 3).2.2.1 ∈ m_ws := fun C T N h => by cases h; exact m_ws_in (List.mem_append_right _ (List.mem_of_getElem? (i := 203) (by decide +kernel))) rfl
theorem ff_X5_3 : m_FF RX5 5 3 (.object "BatchDoser$Lots") := ⟨RX5, TX5, 6, rfl, rfl, rfl, by decide +kernel⟩
theorem fl_X5_31 : m_FL RX5 31 1 3 := ⟨RX1, TX1, 16, rfl, by decide, Or.inr ⟨"BatchDoser", m_nw_in (List.mem_append_right _ (List.mem_of_getElem? (i := 147) (by decide +kernel))) rfl⟩⟩
theorem fl_X5_35 : m_FL RX5 35 5 4 := ⟨RX5, TX5, 6, rfl, by decide, Or.inl (m_ws_in (List.mem_append_right _ (List.mem_of_getElem? (i := 204) (by decide +kernel))) rfl)⟩
theorem fw_X5_35 : ∀ (C : String) (T : u_T) (N : Nat), m_cl[5]? = some (C, T, N) → Cond.fieldLink RX5 35 (T 4).1 (T 4).2.1 (T 4).2.2.1 ∈ m_ws := fun C T N h => by cases h; exact m_ws_in (List.mem_append_right _ (List.mem_of_getElem? (i := 204) (by decide +kernel))) rfl
theorem ff_X5_4 : m_FF RX5 5 4 (.object "BatchDoser$Recipe") := ⟨RX5, TX5, 6, rfl, rfl, rfl, by decide +kernel⟩
theorem lm_X5_1 : Cond.methodLink RX5 1 Lib.objectInit ∈ m_ws := m_ws_in (List.mem_append_right _ (List.mem_of_getElem? (i := 20) (by decide +kernel))) rfl
theorem lk_X5_9 : m_LK RX5 9 M_X1_init := Or.inr ⟨"BatchDoser", m_nw_in (List.mem_append_right _ (List.mem_of_getElem? (i := 25) (by decide +kernel))) rfl⟩
theorem fl_X5_43 : m_FL RX5 43 1 4 := ⟨RX1, TX1, 16, rfl, by decide, Or.inr ⟨"BatchDoser", m_nw_in (List.mem_append_right _ (List.mem_of_getElem? (i := 149) (by decide +kernel))) rfl⟩⟩
theorem ll_X5_36 : Cond.methodLink RX5 36 yX5_needReading ∈ m_ws := m_ws_in (List.mem_append_right _ (List.mem_of_getElem? (i := 282) (by decide +kernel))) rfl
theorem lk_X5_36 : m_LK RX5 36 M_X5_needReading := Or.inl ll_X5_36
theorem ll_X5_40 : Cond.methodLink RX5 40 yX1_bring ∈ m_ws := m_ws_in (List.mem_append_right _ (List.mem_of_getElem? (i := 360) (by decide +kernel))) rfl
theorem lk_X5_40 : m_LK RX5 40 M_X1_bring := Or.inl ll_X5_40
theorem ll_X5_47 : Cond.methodLink RX5 47 yX5_isWithin ∈ m_ws := m_ws_in (List.mem_append_right _ (List.mem_of_getElem? (i := 286) (by decide +kernel))) rfl
theorem lk_X5_47 : m_LK RX5 47 M_X5_isWithin := Or.inl ll_X5_47
theorem ll_X5_51 : Cond.methodLink RX5 51 yX5_needArgument ∈ m_ws := m_ws_in (List.mem_append_right _ (List.mem_of_getElem? (i := 289) (by decide +kernel))) rfl
theorem lk_X5_51 : m_LK RX5 51 M_X5_needArgument := Or.inl ll_X5_51
theorem fl_X5_64 : m_FL RX5 64 4 4 := ⟨RX4, TX4, 8, rfl, by decide, Or.inr ⟨"BatchDoser", m_nw_in (List.mem_append_right _ (List.mem_of_getElem? (i := 43) (by decide +kernel))) rfl⟩⟩
theorem fl_X5_67 : m_FL RX5 67 4 0 := ⟨RX4, TX4, 8, rfl, by decide, Or.inr ⟨"BatchDoser", m_nw_in (List.mem_append_right _ (List.mem_of_getElem? (i := 36) (by decide +kernel))) rfl⟩⟩
theorem ll_X5_55 : Cond.methodLink RX5 55 yX4_isCalm ∈ m_ws := m_ws_in (List.mem_append_right _ (List.mem_of_getElem? (i := 240) (by decide +kernel))) rfl
theorem lk_X5_55 : m_LK RX5 55 M_X4_isCalm := Or.inl ll_X5_55
theorem ll_X5_61 : Cond.methodLink RX5 61 yX5_needState ∈ m_ws := m_ws_in (List.mem_append_right _ (List.mem_of_getElem? (i := 466) (by decide +kernel))) rfl
theorem lk_X5_61 : m_LK RX5 61 M_X5_needState := Or.inl ll_X5_61
theorem fl_X5_70 : m_FL RX5 70 4 2 := ⟨RX4, TX4, 8, rfl, by decide, Or.inr ⟨"BatchDoser", m_nw_in (List.mem_append_right _ (List.mem_of_getElem? (i := 40) (by decide +kernel))) rfl⟩⟩
theorem ll_X5_73 : Cond.methodLink RX5 73 yX4_grossNow ∈ m_ws := m_ws_in (List.mem_append_right _ (List.mem_of_getElem? (i := 223) (by decide +kernel))) rfl
theorem lk_X5_73 : m_LK RX5 73 M_X4_grossNow := Or.inl ll_X5_73
theorem ll_X5_77 : Cond.methodLink RX5 77 yX4_netNow ∈ m_ws := m_ws_in (List.mem_append_right _ (List.mem_of_getElem? (i := 231) (by decide +kernel))) rfl
theorem lk_X5_77 : m_LK RX5 77 M_X4_netNow := Or.inl ll_X5_77
theorem fl_X5_84 : m_FL RX5 84 2 4 := ⟨RX2, TX2, 5, rfl, by decide, Or.inr ⟨"BatchDoser", m_nw_in (List.mem_append_right _ (List.mem_of_getElem? (i := 104) (by decide +kernel))) rfl⟩⟩
theorem ll_X5_80 : Cond.methodLink RX5 80 yX5_needBin ∈ m_ws := m_ws_in (List.mem_append_right _ (List.mem_of_getElem? (i := 500) (by decide +kernel))) rfl
theorem lk_X5_80 : m_LK RX5 80 M_X5_needBin := Or.inl ll_X5_80
theorem ll_X5_89 : Cond.methodLink RX5 89 yX2_store ∈ m_ws := m_ws_in (List.mem_append_right _ (List.mem_of_getElem? (i := 519) (by decide +kernel))) rfl
theorem lk_X5_89 : m_LK RX5 89 M_X2_store := Or.inl ll_X5_89
theorem fl_X5_93 : m_FL RX5 93 0 0 := ⟨RX0, TX0, 4, rfl, by decide, Or.inr ⟨"BatchDoser", m_nw_in (List.mem_append_right _ (List.mem_of_getElem? (i := 72) (by decide +kernel))) rfl⟩⟩
theorem ll_X5_99 : Cond.methodLink RX5 99 yX5_at ∈ m_ws := m_ws_in (List.mem_append_right _ (List.mem_of_getElem? (i := 531) (by decide +kernel))) rfl
theorem lk_X5_99 : m_LK RX5 99 M_X5_at := Or.inl ll_X5_99
theorem ll_X5_103 : Cond.methodLink RX5 103 yX5_put ∈ m_ws := m_ws_in (List.mem_append_right _ (List.mem_of_getElem? (i := 532) (by decide +kernel))) rfl
theorem lk_X5_103 : m_LK RX5 103 M_X5_put := Or.inl ll_X5_103
theorem fl_X5_107 : m_FL RX5 107 0 1 := ⟨RX0, TX0, 4, rfl, by decide, Or.inr ⟨"BatchDoser", m_nw_in (List.mem_append_right _ (List.mem_of_getElem? (i := 75) (by decide +kernel))) rfl⟩⟩
theorem ll_X5_110 : Cond.methodLink RX5 110 yX1_gateOf ∈ m_ws := m_ws_in (List.mem_append_right _ (List.mem_of_getElem? (i := 547) (by decide +kernel))) rfl
theorem lk_X5_110 : m_LK RX5 110 M_X1_gateOf := Or.inl ll_X5_110
theorem ll_X5_114 : Cond.methodLink RX5 114 yX2_leftIn ∈ m_ws := m_ws_in (List.mem_append_right _ (List.mem_of_getElem? (i := 558) (by decide +kernel))) rfl
theorem lk_X5_114 : m_LK RX5 114 M_X2_leftIn := Or.inl ll_X5_114
theorem fl_X5_117 : m_FL RX5 117 0 2 := ⟨RX0, TX0, 4, rfl, by decide, Or.inr ⟨"BatchDoser", m_nw_in (List.mem_append_right _ (List.mem_of_getElem? (i := 77) (by decide +kernel))) rfl⟩⟩
theorem fl_X5_123 : m_FL RX5 123 0 3 := ⟨RX0, TX0, 4, rfl, by decide, Or.inr ⟨"BatchDoser", m_nw_in (List.mem_append_right _ (List.mem_of_getElem? (i := 80) (by decide +kernel))) rfl⟩⟩
theorem ll_X5_120 : Cond.methodLink RX5 120 yX2_goneFrom ∈ m_ws := m_ws_in (List.mem_append_right _ (List.mem_of_getElem? (i := 576) (by decide +kernel))) rfl
theorem lk_X5_120 : m_LK RX5 120 M_X2_goneFrom := Or.inl ll_X5_120
theorem fl_X5_129 : m_FL RX5 129 2 2 := ⟨RX2, TX2, 5, rfl, by decide, Or.inr ⟨"BatchDoser", m_nw_in (List.mem_append_right _ (List.mem_of_getElem? (i := 101) (by decide +kernel))) rfl⟩⟩
theorem ll_X5_126 : Cond.methodLink RX5 126 yX5_needLot ∈ m_ws := m_ws_in (List.mem_append_right _ (List.mem_of_getElem? (i := 587) (by decide +kernel))) rfl
theorem lk_X5_126 : m_LK RX5 126 M_X5_needLot := Or.inl ll_X5_126
theorem fl_X5_132 : m_FL RX5 132 1 14 := ⟨RX1, TX1, 16, rfl, by decide, Or.inr ⟨"BatchDoser", m_nw_in (List.mem_append_right _ (List.mem_of_getElem? (i := 164) (by decide +kernel))) rfl⟩⟩
theorem ll_X5_135 : Cond.methodLink RX5 135 yX2_firstBatchOf ∈ m_ws := m_ws_in (List.mem_append_right _ (List.mem_of_getElem? (i := 599) (by decide +kernel))) rfl
theorem lk_X5_135 : m_LK RX5 135 M_X2_firstBatchOf := Or.inl ll_X5_135
theorem ll_X5_138 : Cond.methodLink RX5 138 yX5_needBatch ∈ m_ws := m_ws_in (List.mem_append_right _ (List.mem_of_getElem? (i := 614) (by decide +kernel))) rfl
theorem lk_X5_138 : m_LK RX5 138 M_X5_needBatch := Or.inl ll_X5_138
theorem ll_X5_141 : Cond.methodLink RX5 141 yX2_usedFor ∈ m_ws := m_ws_in (List.mem_append_right _ (List.mem_of_getElem? (i := 619) (by decide +kernel))) rfl
theorem lk_X5_141 : m_LK RX5 141 M_X2_usedFor := Or.inl ll_X5_141
theorem fl_X5_144 : m_FL RX5 144 3 3 := ⟨RX3, TX3, 4, rfl, by decide, Or.inr ⟨"BatchDoser", m_nw_in (List.mem_append_right _ (List.mem_of_getElem? (i := 130) (by decide +kernel))) rfl⟩⟩
theorem ll_X5_147 : Cond.methodLink RX5 147 yX3_append ∈ m_ws := m_ws_in (List.mem_append_right _ (List.mem_of_getElem? (i := 627) (by decide +kernel))) rfl
theorem lk_X5_147 : m_LK RX5 147 M_X3_append := Or.inl ll_X5_147
theorem ll_X5_151 : Cond.methodLink RX5 151 yX1_startBatch ∈ m_ws := m_ws_in (List.mem_append_right _ (List.mem_of_getElem? (i := 646) (by decide +kernel))) rfl
theorem lk_X5_151 : m_LK RX5 151 M_X1_startBatch := Or.inl ll_X5_151
theorem fl_X5_157 : m_FL RX5 157 1 6 := ⟨RX1, TX1, 16, rfl, by decide, Or.inr ⟨"BatchDoser", m_nw_in (List.mem_append_right _ (List.mem_of_getElem? (i := 153) (by decide +kernel))) rfl⟩⟩
theorem ll_X5_154 : Cond.methodLink RX5 154 yX1_halt ∈ m_ws := m_ws_in (List.mem_append_right _ (List.mem_of_getElem? (i := 657) (by decide +kernel))) rfl
theorem lk_X5_154 : m_LK RX5 154 M_X1_halt := Or.inl ll_X5_154
theorem ll_X5_160 : Cond.methodLink RX5 160 yX1_goOn ∈ m_ws := m_ws_in (List.mem_append_right _ (List.mem_of_getElem? (i := 665) (by decide +kernel))) rfl
theorem lk_X5_160 : m_LK RX5 160 M_X1_goOn := Or.inl ll_X5_160
theorem ll_X5_163 : Cond.methodLink RX5 163 yX1_breakOff ∈ m_ws := m_ws_in (List.mem_append_right _ (List.mem_of_getElem? (i := 676) (by decide +kernel))) rfl
theorem lk_X5_163 : m_LK RX5 163 M_X1_breakOff := Or.inl ll_X5_163
theorem fl_X5_166 : m_FL RX5 166 1 5 := ⟨RX1, TX1, 16, rfl, by decide, Or.inr ⟨"BatchDoser", m_nw_in (List.mem_append_right _ (List.mem_of_getElem? (i := 151) (by decide +kernel))) rfl⟩⟩
theorem fl_X5_169 : m_FL RX5 169 1 9 := ⟨RX1, TX1, 16, rfl, by decide, Or.inr ⟨"BatchDoser", m_nw_in (List.mem_append_right _ (List.mem_of_getElem? (i := 157) (by decide +kernel))) rfl⟩⟩
theorem fl_X5_172 : m_FL RX5 172 1 10 := ⟨RX1, TX1, 16, rfl, by decide, Or.inr ⟨"BatchDoser", m_nw_in (List.mem_append_right _ (List.mem_of_getElem? (i := 159) (by decide +kernel))) rfl⟩⟩
theorem fl_X5_175 : m_FL RX5 175 1 15 := ⟨RX1, TX1, 16, rfl, by decide, Or.inr ⟨"BatchDoser", m_nw_in (List.mem_append_right _ (List.mem_of_getElem? (i := 166) (by decide +kernel))) rfl⟩⟩
theorem fl_X5_178 : m_FL RX5 178 5 5 := ⟨RX5, TX5, 6, rfl, by decide, Or.inl (m_ws_in (List.mem_append_right _ (List.mem_of_getElem? (i := 205) (by decide +kernel))) rfl)⟩
theorem fw_X5_178 : ∀ (C : String) (T : u_T) (N : Nat), m_cl[5]? = some (C, T, N) → Cond.fieldLink RX5 178 (T 5).1 (T 5).2.1 (T 5).2.2.1 ∈ m_ws := fun C T N h => by cases h; exact m_ws_in (List.mem_append_right _ (List.mem_of_getElem? (i := 205) (by decide +kernel))) rfl
theorem fp_X5_5 : m_FP 5 5 (.long) := ⟨RX5, TX5, 6, rfl, rfl, by decide +kernel⟩
theorem fl_X6_7 : m_FL RX6 7 6 0 := ⟨RX6, TX6, 34, rfl, by decide, Or.inl (m_ws_in (List.mem_append_right _ (List.mem_of_getElem? (i := 694) (by decide +kernel))) rfl)⟩
theorem fw_X6_7 : ∀ (C : String) (T : u_T) (N : Nat), m_cl[6]? = some (C, T, N) → Cond.fieldLink RX6 7 (T 0).1 (T 0).2.1 (T 0).2.2.1 ∈ m_ws := fun C T N h => by cases h; exact m_ws_in (List.mem_append_right _ (List.mem_of_getElem? (i := 694) (by decide +kernel))) rfl
theorem ff_X6_0 : m_FF RX6 6 0 (.array .int) := ⟨RX6, TX6, 34, rfl, rfl, rfl, by decide +kernel⟩
theorem fl_X6_13 : m_FL RX6 13 6 5 := ⟨RX6, TX6, 34, rfl, by decide, Or.inl (m_ws_in (List.mem_append_right _ (List.mem_of_getElem? (i := 699) (by decide +kernel))) rfl)⟩
theorem fw_X6_13 : ∀ (C : String) (T : u_T) (N : Nat), m_cl[6]? = some (C, T, N) → Cond.fieldLink RX6 13 (T 5).1 (T 5).2.1 (T 5).2.2.1 ∈ m_ws := fun C T N h => by cases h; exact m_ws_in (List.mem_append_right _ (List.mem_of_getElem? (i := 699) (by decide +kernel))) rfl
theorem fp_X6_5 : m_FP 6 5 (.int) := ⟨RX6, TX6, 34, rfl, rfl, by decide +kernel⟩
theorem fl_X6_17 : m_FL RX6 17 6 6 := ⟨RX6, TX6, 34, rfl, by decide, Or.inl (m_ws_in (List.mem_append_right _ (List.mem_of_getElem? (i := 700) (by decide +kernel))) rfl)⟩
theorem fw_X6_17 : ∀ (C : String) (T : u_T) (N : Nat), m_cl[6]? = some (C, T, N) → Cond.fieldLink RX6 17 (T 6).1 (T 6).2.1 (T 6).2.2.1 ∈ m_ws := fun C T N h => by cases h; exact m_ws_in (List.mem_append_right _ (List.mem_of_getElem? (i := 700) (by decide +kernel))) rfl
theorem ff_X6_6 : m_FF RX6 6 6 (.array .int) := ⟨RX6, TX6, 34, rfl, rfl, rfl, by decide +kernel⟩
theorem fl_X6_20 : m_FL RX6 20 6 7 := ⟨RX6, TX6, 34, rfl, by decide, Or.inl (m_ws_in (List.mem_append_right _ (List.mem_of_getElem? (i := 701) (by decide +kernel))) rfl)⟩
theorem fw_X6_20 : ∀ (C : String) (T : u_T) (N : Nat), m_cl[6]? = some (C, T, N) → Cond.fieldLink RX6 20 (T 7).1 (T 7).2.1 (T 7).2.2.1 ∈ m_ws := fun C T N h => by cases h; exact m_ws_in (List.mem_append_right _ (List.mem_of_getElem? (i := 701) (by decide +kernel))) rfl
theorem ff_X6_7 : m_FF RX6 6 7 (.array .int) := ⟨RX6, TX6, 34, rfl, rfl, rfl, by decide +kernel⟩
theorem fl_X6_23 : m_FL RX6 23 6 8 := ⟨RX6, TX6, 34, rfl, by decide, Or.inl (m_ws_in (List.mem_append_right _ (List.mem_of_getElem? (i := 702) (by decide +kernel))) rfl)⟩
theorem fw_X6_23 : ∀ (C : String) (T : u_T) (N : Nat), m_cl[6]? = some (C, T, N) → Cond.fieldLink RX6 23 (T 8).1 (T 8).2.1 (T 8).2.2.1 ∈ m_ws := fun C T N h => by cases h; exact m_ws_in (List.mem_append_right _ (List.mem_of_getElem? (i := 702) (by decide +kernel))) rfl
theorem ff_X6_8 : m_FF RX6 6 8 (.array .int) := ⟨RX6, TX6, 34, rfl, rfl, rfl, by decide +kernel⟩
theorem fl_X6_26 : m_FL RX6 26 6 9 := ⟨RX6, TX6, 34, rfl, by decide, Or.inl (m_ws_in (List.mem_append_right _ (List.mem_of_getElem? (i := 703) (by decide +kernel))) rfl)⟩
theorem fw_X6_26 : ∀ (C : String) (T : u_T) (N : Nat), m_cl[6]? = some (C, T, N) → Cond.fieldLink RX6 26 (T 9).1 (T 9).2.1 (T 9).2.2.1 ∈ m_ws := fun C T N h => by cases h; exact m_ws_in (List.mem_append_right _ (List.mem_of_getElem? (i := 703) (by decide +kernel))) rfl
theorem ff_X6_9 : m_FF RX6 6 9 (.array .int) := ⟨RX6, TX6, 34, rfl, rfl, rfl, by decide +kernel⟩
theorem fl_X6_29 : m_FL RX6 29 6 10 := ⟨RX6, TX6, 34, rfl, by decide, Or.inl (m_ws_in (List.mem_append_right _ (List.mem_of_getElem? (i := 704) (by decide +kernel))) rfl)⟩
theorem fw_X6_29 : ∀ (C : String) (T : u_T) (N : Nat), m_cl[6]? = some (C, T, N) → Cond.fieldLink RX6 29 (T 10).1 (T 10).2.1 (T 10).2.2.1 ∈ m_ws := fun C T N h => by cases h; exact m_ws_in (List.mem_append_right _ (List.mem_of_getElem? (i := 704) (by decide +kernel))) rfl
theorem ff_X6_10 : m_FF RX6 6 10 (.array .int) := ⟨RX6, TX6, 34, rfl, rfl, rfl, by decide +kernel⟩
theorem fl_X6_32 : m_FL RX6 32 6 11 := ⟨RX6, TX6, 34, rfl, by decide, Or.inl (m_ws_in (List.mem_append_right _ (List.mem_of_getElem? (i := 705) (by decide +kernel))) rfl)⟩
theorem fw_X6_32 : ∀ (C : String) (T : u_T) (N : Nat), m_cl[6]? = some (C, T, N) → Cond.fieldLink RX6 32 (T 11).1 (T 11).2.1 (T 11).2.2.1 ∈ m_ws := fun C T N h => by cases h; exact m_ws_in (List.mem_append_right _ (List.mem_of_getElem? (i := 705) (by decide +kernel))) rfl
theorem ff_X6_11 : m_FF RX6 6 11 (.array .int) := ⟨RX6, TX6, 34, rfl, rfl, rfl, by decide +kernel⟩
theorem fl_X6_35 : m_FL RX6 35 6 12 := ⟨RX6, TX6, 34, rfl, by decide, Or.inl (m_ws_in (List.mem_append_right _ (List.mem_of_getElem? (i := 706) (by decide +kernel))) rfl)⟩
theorem fw_X6_35 : ∀ (C : String) (T : u_T) (N : Nat), m_cl[6]? = some (C, T, N) → Cond.fieldLink RX6 35 (T 12).1 (T 12).2.1 (T 12).2.2.1 ∈ m_ws := fun C T N h => by cases h; exact m_ws_in (List.mem_append_right _ (List.mem_of_getElem? (i := 706) (by decide +kernel))) rfl
theorem ff_X6_12 : m_FF RX6 6 12 (.array .int) := ⟨RX6, TX6, 34, rfl, rfl, rfl, by decide +kernel⟩
theorem fl_X6_38 : m_FL RX6 38 6 13 := ⟨RX6, TX6, 34, rfl, by decide, Or.inl (m_ws_in (List.mem_append_right _ (List.mem_of_getElem? (i := 707) (by decide +kernel))) rfl)⟩
theorem fw_X6_38 : ∀ (C : String) (T : u_T) (N : Nat), m_cl[6]? = some (C, T, N) → Cond.fieldLink RX6 38 (T 13).1 (T 13).2.1 (T 13).2.2.1 ∈ m_ws := fun C T N h => by cases h; exact m_ws_in (List.mem_append_right _ (List.mem_of_getElem? (i := 707) (by decide +kernel))) rfl
theorem ff_X6_13 : m_FF RX6 6 13 (.array .int) := ⟨RX6, TX6, 34, rfl, rfl, rfl, by decide +kernel⟩
theorem fl_X6_41 : m_FL RX6 41 6 14 := ⟨RX6, TX6, 34, rfl, by decide, Or.inl (m_ws_in (List.mem_append_right _ (List.mem_of_getElem? (i := 708) (by decide +kernel))) rfl)⟩
theorem fw_X6_41 : ∀ (C : String) (T : u_T) (N : Nat), m_cl[6]? = some (C, T, N) → Cond.fieldLink RX6 41 (T 14).1 (T 14).2.1 (T 14).2.2.1 ∈ m_ws := fun C T N h => by cases h; exact m_ws_in (List.mem_append_right _ (List.mem_of_getElem? (i := 708) (by decide +kernel))) rfl
theorem ff_X6_14 : m_FF RX6 6 14 (.array .int) := ⟨RX6, TX6, 34, rfl, rfl, rfl, by decide +kernel⟩
theorem fl_X6_44 : m_FL RX6 44 6 16 := ⟨RX6, TX6, 34, rfl, by decide, Or.inl (m_ws_in (List.mem_append_right _ (List.mem_of_getElem? (i := 710) (by decide +kernel))) rfl)⟩
theorem fw_X6_44 : ∀ (C : String) (T : u_T) (N : Nat), m_cl[6]? = some (C, T, N) → Cond.fieldLink RX6 44 (T 16).1 (T 16).2.1 (T 16).2.2.1 ∈ m_ws := fun C T N h => by cases h; exact m_ws_in (List.mem_append_right _ (List.mem_of_getElem? (i := 710) (by decide +kernel))) rfl
theorem ff_X6_16 : m_FF RX6 6 16 (.array .int) := ⟨RX6, TX6, 34, rfl, rfl, rfl, by decide +kernel⟩
theorem fl_X6_47 : m_FL RX6 47 6 17 := ⟨RX6, TX6, 34, rfl, by decide, Or.inl (m_ws_in (List.mem_append_right _ (List.mem_of_getElem? (i := 711) (by decide +kernel))) rfl)⟩
theorem fw_X6_47 : ∀ (C : String) (T : u_T) (N : Nat), m_cl[6]? = some (C, T, N) → Cond.fieldLink RX6 47 (T 17).1 (T 17).2.1 (T 17).2.2.1 ∈ m_ws := fun C T N h => by cases h; exact m_ws_in (List.mem_append_right _ (List.mem_of_getElem? (i := 711) (by decide +kernel))) rfl
theorem ff_X6_17 : m_FF RX6 6 17 (.array .int) := ⟨RX6, TX6, 34, rfl, rfl, rfl, by decide +kernel⟩
theorem fl_X6_50 : m_FL RX6 50 6 18 := ⟨RX6, TX6, 34, rfl, by decide, Or.inl (m_ws_in (List.mem_append_right _ (List.mem_of_getElem? (i := 712) (by decide +kernel))) rfl)⟩
theorem fw_X6_50 : ∀ (C : String) (T : u_T) (N : Nat), m_cl[6]? = some (C, T, N) → Cond.fieldLink RX6 50 (T 18).1 (T 18).2.1 (T 18).2.2.1 ∈ m_ws := fun C T N h => by cases h; exact m_ws_in (List.mem_append_right _ (List.mem_of_getElem? (i := 712) (by decide +kernel))) rfl
theorem ff_X6_18 : m_FF RX6 6 18 (.array .int) := ⟨RX6, TX6, 34, rfl, rfl, rfl, by decide +kernel⟩
theorem lm_X6_1 : Cond.methodLink RX6 1 Lib.objectInit ∈ m_ws := m_ws_in (List.mem_append_right _ (List.mem_of_getElem? (i := 693) (by decide +kernel))) rfl
theorem fl_X6_53 : m_FL RX6 53 6 33 := ⟨RX6, TX6, 34, rfl, by decide, Or.inl (m_ws_in (List.mem_append_right _ (List.mem_of_getElem? (i := 727) (by decide +kernel))) rfl)⟩
theorem fw_X6_53 : ∀ (C : String) (T : u_T) (N : Nat), m_cl[6]? = some (C, T, N) → Cond.fieldLink RX6 53 (T 33).1 (T 33).2.1 (T 33).2.2.1 ∈ m_ws := fun C T N h => by cases h; exact m_ws_in (List.mem_append_right _ (List.mem_of_getElem? (i := 727) (by decide +kernel))) rfl
theorem fp_X6_33 : m_FP 6 33 (.int) := ⟨RX6, TX6, 34, rfl, rfl, by decide +kernel⟩
theorem ll_X6_56 : Cond.methodLink RX6 56 yX6_in ∈ m_ws := m_ws_in (List.mem_append_right _ (List.mem_of_getElem? (i := 806) (by decide +kernel))) rfl
theorem lk_X6_56 : m_LK RX6 56 M_X6_in := Or.inl ll_X6_56
theorem fl_X6_60 : m_FL RX6 60 6 15 := ⟨RX6, TX6, 34, rfl, by decide, Or.inl (m_ws_in (List.mem_append_right _ (List.mem_of_getElem? (i := 709) (by decide +kernel))) rfl)⟩
theorem fw_X6_60 : ∀ (C : String) (T : u_T) (N : Nat), m_cl[6]? = some (C, T, N) → Cond.fieldLink RX6 60 (T 15).1 (T 15).2.1 (T 15).2.2.1 ∈ m_ws := fun C T N h => by cases h; exact m_ws_in (List.mem_append_right _ (List.mem_of_getElem? (i := 709) (by decide +kernel))) rfl
theorem fl_X6_63 : m_FL RX6 63 6 1 := ⟨RX6, TX6, 34, rfl, by decide, Or.inl (m_ws_in (List.mem_append_right _ (List.mem_of_getElem? (i := 695) (by decide +kernel))) rfl)⟩
theorem fw_X6_63 : ∀ (C : String) (T : u_T) (N : Nat), m_cl[6]? = some (C, T, N) → Cond.fieldLink RX6 63 (T 1).1 (T 1).2.1 (T 1).2.2.1 ∈ m_ws := fun C T N h => by cases h; exact m_ws_in (List.mem_append_right _ (List.mem_of_getElem? (i := 695) (by decide +kernel))) rfl
theorem fl_X6_66 : m_FL RX6 66 6 2 := ⟨RX6, TX6, 34, rfl, by decide, Or.inl (m_ws_in (List.mem_append_right _ (List.mem_of_getElem? (i := 696) (by decide +kernel))) rfl)⟩
theorem fw_X6_66 : ∀ (C : String) (T : u_T) (N : Nat), m_cl[6]? = some (C, T, N) → Cond.fieldLink RX6 66 (T 2).1 (T 2).2.1 (T 2).2.2.1 ∈ m_ws := fun C T N h => by cases h; exact m_ws_in (List.mem_append_right _ (List.mem_of_getElem? (i := 696) (by decide +kernel))) rfl
theorem fl_X6_69 : m_FL RX6 69 6 3 := ⟨RX6, TX6, 34, rfl, by decide, Or.inl (m_ws_in (List.mem_append_right _ (List.mem_of_getElem? (i := 697) (by decide +kernel))) rfl)⟩
theorem fw_X6_69 : ∀ (C : String) (T : u_T) (N : Nat), m_cl[6]? = some (C, T, N) → Cond.fieldLink RX6 69 (T 3).1 (T 3).2.1 (T 3).2.2.1 ∈ m_ws := fun C T N h => by cases h; exact m_ws_in (List.mem_append_right _ (List.mem_of_getElem? (i := 697) (by decide +kernel))) rfl
theorem fl_X6_76 : m_FL RX6 76 6 4 := ⟨RX6, TX6, 34, rfl, by decide, Or.inl (m_ws_in (List.mem_append_right _ (List.mem_of_getElem? (i := 698) (by decide +kernel))) rfl)⟩
theorem fw_X6_76 : ∀ (C : String) (T : u_T) (N : Nat), m_cl[6]? = some (C, T, N) → Cond.fieldLink RX6 76 (T 4).1 (T 4).2.1 (T 4).2.2.1 ∈ m_ws := fun C T N h => by cases h; exact m_ws_in (List.mem_append_right _ (List.mem_of_getElem? (i := 698) (by decide +kernel))) rfl
theorem ll_X6_72 : Cond.methodLink RX6 72 yX6_grossNow ∈ m_ws := m_ws_in (List.mem_append_right _ (List.mem_of_getElem? (i := 821) (by decide +kernel))) rfl
theorem lk_X6_72 : m_LK RX6 72 M_X6_grossNow := Or.inl ll_X6_72
theorem fl_X6_79 : m_FL RX6 79 6 20 := ⟨RX6, TX6, 34, rfl, by decide, Or.inl (m_ws_in (List.mem_append_right _ (List.mem_of_getElem? (i := 714) (by decide +kernel))) rfl)⟩
theorem fw_X6_79 : ∀ (C : String) (T : u_T) (N : Nat), m_cl[6]? = some (C, T, N) → Cond.fieldLink RX6 79 (T 20).1 (T 20).2.1 (T 20).2.2.1 ∈ m_ws := fun C T N h => by cases h; exact m_ws_in (List.mem_append_right _ (List.mem_of_getElem? (i := 714) (by decide +kernel))) rfl
theorem fp_X6_20 : m_FP 6 20 (.int) := ⟨RX6, TX6, 34, rfl, rfl, by decide +kernel⟩
theorem fl_X6_82 : m_FL RX6 82 6 24 := ⟨RX6, TX6, 34, rfl, by decide, Or.inl (m_ws_in (List.mem_append_right _ (List.mem_of_getElem? (i := 718) (by decide +kernel))) rfl)⟩
theorem fw_X6_82 : ∀ (C : String) (T : u_T) (N : Nat), m_cl[6]? = some (C, T, N) → Cond.fieldLink RX6 82 (T 24).1 (T 24).2.1 (T 24).2.2.1 ∈ m_ws := fun C T N h => by cases h; exact m_ws_in (List.mem_append_right _ (List.mem_of_getElem? (i := 718) (by decide +kernel))) rfl
theorem fp_X6_24 : m_FP 6 24 (.int) := ⟨RX6, TX6, 34, rfl, rfl, by decide +kernel⟩
theorem fl_X6_85 : m_FL RX6 85 6 22 := ⟨RX6, TX6, 34, rfl, by decide, Or.inl (m_ws_in (List.mem_append_right _ (List.mem_of_getElem? (i := 716) (by decide +kernel))) rfl)⟩
theorem fw_X6_85 : ∀ (C : String) (T : u_T) (N : Nat), m_cl[6]? = some (C, T, N) → Cond.fieldLink RX6 85 (T 22).1 (T 22).2.1 (T 22).2.2.1 ∈ m_ws := fun C T N h => by cases h; exact m_ws_in (List.mem_append_right _ (List.mem_of_getElem? (i := 716) (by decide +kernel))) rfl
theorem fp_X6_22 : m_FP 6 22 (.int) := ⟨RX6, TX6, 34, rfl, rfl, by decide +kernel⟩
theorem fl_X6_88 : m_FL RX6 88 6 21 := ⟨RX6, TX6, 34, rfl, by decide, Or.inl (m_ws_in (List.mem_append_right _ (List.mem_of_getElem? (i := 715) (by decide +kernel))) rfl)⟩
theorem fw_X6_88 : ∀ (C : String) (T : u_T) (N : Nat), m_cl[6]? = some (C, T, N) → Cond.fieldLink RX6 88 (T 21).1 (T 21).2.1 (T 21).2.2.1 ∈ m_ws := fun C T N h => by cases h; exact m_ws_in (List.mem_append_right _ (List.mem_of_getElem? (i := 715) (by decide +kernel))) rfl
theorem fp_X6_21 : m_FP 6 21 (.int) := ⟨RX6, TX6, 34, rfl, rfl, by decide +kernel⟩
theorem ll_X6_91 : Cond.methodLink RX6 91 yX6_becomes ∈ m_ws := m_ws_in (List.mem_append_right _ (List.mem_of_getElem? (i := 837) (by decide +kernel))) rfl
theorem lk_X6_91 : m_LK RX6 91 M_X6_becomes := Or.inl ll_X6_91
theorem fp_X6_3 : m_FP 6 3 (.int) := ⟨RX6, TX6, 34, rfl, rfl, by decide +kernel⟩
theorem ll_X6_95 : Cond.methodLink RX6 95 yX6_settles ∈ m_ws := m_ws_in (List.mem_append_right _ (List.mem_of_getElem? (i := 825) (by decide +kernel))) rfl
theorem lk_X6_95 : m_LK RX6 95 M_X6_settles := Or.inl ll_X6_95
theorem fl_X6_99 : m_FL RX6 99 6 23 := ⟨RX6, TX6, 34, rfl, by decide, Or.inl (m_ws_in (List.mem_append_right _ (List.mem_of_getElem? (i := 717) (by decide +kernel))) rfl)⟩
theorem fw_X6_99 : ∀ (C : String) (T : u_T) (N : Nat), m_cl[6]? = some (C, T, N) → Cond.fieldLink RX6 99 (T 23).1 (T 23).2.1 (T 23).2.2.1 ∈ m_ws := fun C T N h => by cases h; exact m_ws_in (List.mem_append_right _ (List.mem_of_getElem? (i := 717) (by decide +kernel))) rfl
theorem fl_X6_105 : m_FL RX6 105 6 28 := ⟨RX6, TX6, 34, rfl, by decide, Or.inl (m_ws_in (List.mem_append_right _ (List.mem_of_getElem? (i := 722) (by decide +kernel))) rfl)⟩
theorem fw_X6_105 : ∀ (C : String) (T : u_T) (N : Nat), m_cl[6]? = some (C, T, N) → Cond.fieldLink RX6 105 (T 28).1 (T 28).2.1 (T 28).2.2.1 ∈ m_ws := fun C T N h => by cases h; exact m_ws_in (List.mem_append_right _ (List.mem_of_getElem? (i := 722) (by decide +kernel))) rfl
theorem fp_X6_28 : m_FP 6 28 (.boolean) := ⟨RX6, TX6, 34, rfl, rfl, by decide +kernel⟩
theorem fl_X6_113 : m_FL RX6 113 6 26 := ⟨RX6, TX6, 34, rfl, by decide, Or.inl (m_ws_in (List.mem_append_right _ (List.mem_of_getElem? (i := 720) (by decide +kernel))) rfl)⟩
theorem fw_X6_113 : ∀ (C : String) (T : u_T) (N : Nat), m_cl[6]? = some (C, T, N) → Cond.fieldLink RX6 113 (T 26).1 (T 26).2.1 (T 26).2.2.1 ∈ m_ws := fun C T N h => by cases h; exact m_ws_in (List.mem_append_right _ (List.mem_of_getElem? (i := 720) (by decide +kernel))) rfl
theorem fp_X6_26 : m_FP 6 26 (.int) := ⟨RX6, TX6, 34, rfl, rfl, by decide +kernel⟩
theorem ll_X6_102 : Cond.methodLink RX6 102 yX6_netNow ∈ m_ws := m_ws_in (List.mem_append_right _ (List.mem_of_getElem? (i := 833) (by decide +kernel))) rfl
theorem lk_X6_102 : m_LK RX6 102 M_X6_netNow := Or.inl ll_X6_102
theorem ll_X6_109 : Cond.methodLink RX6 109 yX6_down ∈ m_ws := m_ws_in (List.mem_append_right _ (List.mem_of_getElem? (i := 845) (by decide +kernel))) rfl
theorem lk_X6_109 : m_LK RX6 109 M_X6_down := Or.inl ll_X6_109
theorem ll_X6_116 : Cond.methodLink RX6 116 yX6_holds ∈ m_ws := m_ws_in (List.mem_append_right _ (List.mem_of_getElem? (i := 848) (by decide +kernel))) rfl
theorem lk_X6_116 : m_LK RX6 116 M_X6_holds := Or.inl ll_X6_116
theorem ll_X6_119 : Cond.methodLink RX6 119 yX6_finishes ∈ m_ws := m_ws_in (List.mem_append_right _ (List.mem_of_getElem? (i := 852) (by decide +kernel))) rfl
theorem lk_X6_119 : m_LK RX6 119 M_X6_finishes := Or.inl ll_X6_119
theorem fp_X6_4 : m_FP 6 4 (.int) := ⟨RX6, TX6, 34, rfl, rfl, by decide +kernel⟩
theorem fl_X6_122 : m_FL RX6 122 6 29 := ⟨RX6, TX6, 34, rfl, by decide, Or.inl (m_ws_in (List.mem_append_right _ (List.mem_of_getElem? (i := 723) (by decide +kernel))) rfl)⟩
theorem fw_X6_122 : ∀ (C : String) (T : u_T) (N : Nat), m_cl[6]? = some (C, T, N) → Cond.fieldLink RX6 122 (T 29).1 (T 29).2.1 (T 29).2.2.1 ∈ m_ws := fun C T N h => by cases h; exact m_ws_in (List.mem_append_right _ (List.mem_of_getElem? (i := 723) (by decide +kernel))) rfl
theorem fp_X6_29 : m_FP 6 29 (.boolean) := ⟨RX6, TX6, 34, rfl, rfl, by decide +kernel⟩
theorem fl_X6_128 : m_FL RX6 128 6 27 := ⟨RX6, TX6, 34, rfl, by decide, Or.inl (m_ws_in (List.mem_append_right _ (List.mem_of_getElem? (i := 721) (by decide +kernel))) rfl)⟩
theorem fw_X6_128 : ∀ (C : String) (T : u_T) (N : Nat), m_cl[6]? = some (C, T, N) → Cond.fieldLink RX6 128 (T 27).1 (T 27).2.1 (T 27).2.2.1 ∈ m_ws := fun C T N h => by cases h; exact m_ws_in (List.mem_append_right _ (List.mem_of_getElem? (i := 721) (by decide +kernel))) rfl
theorem fl_X6_131 : m_FL RX6 131 6 25 := ⟨RX6, TX6, 34, rfl, by decide, Or.inl (m_ws_in (List.mem_append_right _ (List.mem_of_getElem? (i := 719) (by decide +kernel))) rfl)⟩
theorem fw_X6_131 : ∀ (C : String) (T : u_T) (N : Nat), m_cl[6]? = some (C, T, N) → Cond.fieldLink RX6 131 (T 25).1 (T 25).2.1 (T 25).2.2.1 ∈ m_ws := fun C T N h => by cases h; exact m_ws_in (List.mem_append_right _ (List.mem_of_getElem? (i := 719) (by decide +kernel))) rfl
theorem fp_X6_25 : m_FP 6 25 (.int) := ⟨RX6, TX6, 34, rfl, rfl, by decide +kernel⟩
theorem fp_X6_27 : m_FP 6 27 (.int) := ⟨RX6, TX6, 34, rfl, rfl, by decide +kernel⟩
theorem ll_X6_125 : Cond.methodLink RX6 125 yX6_weighs ∈ m_ws := m_ws_in (List.mem_append_right _ (List.mem_of_getElem? (i := 841) (by decide +kernel))) rfl
theorem lk_X6_125 : m_LK RX6 125 M_X6_weighs := Or.inl ll_X6_125
theorem fp_X6_1 : m_FP 6 1 (.int) := ⟨RX6, TX6, 34, rfl, rfl, by decide +kernel⟩
theorem fp_X6_2 : m_FP 6 2 (.int) := ⟨RX6, TX6, 34, rfl, rfl, by decide +kernel⟩
theorem ll_X6_134 : Cond.methodLink RX6 134 yX6_tracks ∈ m_ws := m_ws_in (List.mem_append_right _ (List.mem_of_getElem? (i := 817) (by decide +kernel))) rfl
theorem lk_X6_134 : m_LK RX6 134 M_X6_tracks := Or.inl ll_X6_134
theorem ll_X6_137 : Cond.methodLink RX6 137 yX6_goesOn ∈ m_ws := m_ws_in (List.mem_append_right _ (List.mem_of_getElem? (i := 829) (by decide +kernel))) rfl
theorem lk_X6_137 : m_LK RX6 137 M_X6_goesOn := Or.inl ll_X6_137
theorem ll_X6_141 : Cond.methodLink RX6 141 yX6_goes ∈ m_ws := m_ws_in (List.mem_append_right _ (List.mem_of_getElem? (i := 809) (by decide +kernel))) rfl
theorem lk_X6_141 : m_LK RX6 141 M_X6_goes := Or.inl ll_X6_141
theorem ll_X6_145 : Cond.methodLink RX6 145 yX6_brings ∈ m_ws := m_ws_in (List.mem_append_right _ (List.mem_of_getElem? (i := 813) (by decide +kernel))) rfl
theorem lk_X6_145 : m_LK RX6 145 M_X6_brings := Or.inl ll_X6_145
theorem fp_X6_15 : m_FP 6 15 (.int) := ⟨RX6, TX6, 34, rfl, rfl, by decide +kernel⟩
theorem ll_X6_149 : Cond.methodLink RX6 149 yX6_isBin ∈ m_ws := m_ws_in (List.mem_append_right _ (List.mem_of_getElem? (i := 892) (by decide +kernel))) rfl
theorem lk_X6_149 : m_LK RX6 149 M_X6_isBin := Or.inl ll_X6_149
theorem ll_X6_153 : Cond.methodLink RX6 153 yX6_isLot ∈ m_ws := m_ws_in (List.mem_append_right _ (List.mem_of_getElem? (i := 923) (by decide +kernel))) rfl
theorem lk_X6_153 : m_LK RX6 153 M_X6_isLot := Or.inl ll_X6_153
theorem fl_X6_156 : m_FL RX6 156 6 30 := ⟨RX6, TX6, 34, rfl, by decide, Or.inl (m_ws_in (List.mem_append_right _ (List.mem_of_getElem? (i := 724) (by decide +kernel))) rfl)⟩
theorem fw_X6_156 : ∀ (C : String) (T : u_T) (N : Nat), m_cl[6]? = some (C, T, N) → Cond.fieldLink RX6 156 (T 30).1 (T 30).2.1 (T 30).2.2.1 ∈ m_ws := fun C T N h => by cases h; exact m_ws_in (List.mem_append_right _ (List.mem_of_getElem? (i := 724) (by decide +kernel))) rfl
theorem fl_X6_159 : m_FL RX6 159 6 19 := ⟨RX6, TX6, 34, rfl, by decide, Or.inl (m_ws_in (List.mem_append_right _ (List.mem_of_getElem? (i := 713) (by decide +kernel))) rfl)⟩
theorem fw_X6_159 : ∀ (C : String) (T : u_T) (N : Nat), m_cl[6]? = some (C, T, N) → Cond.fieldLink RX6 159 (T 19).1 (T 19).2.1 (T 19).2.2.1 ∈ m_ws := fun C T N h => by cases h; exact m_ws_in (List.mem_append_right _ (List.mem_of_getElem? (i := 713) (by decide +kernel))) rfl
theorem fp_X6_19 : m_FP 6 19 (.int) := ⟨RX6, TX6, 34, rfl, rfl, by decide +kernel⟩
theorem fp_X6_23 : m_FP 6 23 (.int) := ⟨RX6, TX6, 34, rfl, rfl, by decide +kernel⟩
theorem fl_X6_168 : m_FL RX6 168 6 31 := ⟨RX6, TX6, 34, rfl, by decide, Or.inl (m_ws_in (List.mem_append_right _ (List.mem_of_getElem? (i := 725) (by decide +kernel))) rfl)⟩
theorem fw_X6_168 : ∀ (C : String) (T : u_T) (N : Nat), m_cl[6]? = some (C, T, N) → Cond.fieldLink RX6 168 (T 31).1 (T 31).2.1 (T 31).2.2.1 ∈ m_ws := fun C T N h => by cases h; exact m_ws_in (List.mem_append_right _ (List.mem_of_getElem? (i := 725) (by decide +kernel))) rfl
theorem fp_X6_31 : m_FP 6 31 (.int) := ⟨RX6, TX6, 34, rfl, rfl, by decide +kernel⟩
theorem ll_X6_162 : Cond.methodLink RX6 162 yX6_books ∈ m_ws := m_ws_in (List.mem_append_right _ (List.mem_of_getElem? (i := 856) (by decide +kernel))) rfl
theorem lk_X6_162 : m_LK RX6 162 M_X6_books := Or.inl ll_X6_162
theorem ll_X6_165 : Cond.methodLink RX6 165 yX6_begins ∈ m_ws := m_ws_in (List.mem_append_right _ (List.mem_of_getElem? (i := 860) (by decide +kernel))) rfl
theorem lk_X6_165 : m_LK RX6 165 M_X6_begins := Or.inl ll_X6_165
theorem fp_X6_30 : m_FP 6 30 (.int) := ⟨RX6, TX6, 34, rfl, rfl, by decide +kernel⟩
theorem fl_X6_171 : m_FL RX6 171 6 32 := ⟨RX6, TX6, 34, rfl, by decide, Or.inl (m_ws_in (List.mem_append_right _ (List.mem_of_getElem? (i := 726) (by decide +kernel))) rfl)⟩
theorem fw_X6_171 : ∀ (C : String) (T : u_T) (N : Nat), m_cl[6]? = some (C, T, N) → Cond.fieldLink RX6 171 (T 32).1 (T 32).2.1 (T 32).2.2.1 ∈ m_ws := fun C T N h => by cases h; exact m_ws_in (List.mem_append_right _ (List.mem_of_getElem? (i := 726) (by decide +kernel))) rfl
theorem fp_X6_32 : m_FP 6 32 (.long) := ⟨RX6, TX6, 34, rfl, rfl, by decide +kernel⟩
theorem ll_L_7 : Cond.methodLink RL 7 yX5_tick ∈ m_ws := m_ws_in (List.mem_append_right _ (List.mem_of_getElem? (i := 278) (by decide +kernel))) rfl
theorem lk_L_7 : m_LK RL 7 M_X5_tick := Or.inl ll_L_7
theorem ll_L_15 : Cond.methodLink RL 15 yX5_ticks ∈ m_ws := m_ws_in (List.mem_append_right _ (List.mem_of_getElem? (i := 454) (by decide +kernel))) rfl
theorem lk_L_15 : m_LK RL 15 M_X5_ticks := Or.inl ll_L_15
theorem ll_L_19 : Cond.methodLink RL 19 yX5_zero ∈ m_ws := m_ws_in (List.mem_append_right _ (List.mem_of_getElem? (i := 462) (by decide +kernel))) rfl
theorem lk_L_19 : m_LK RL 19 M_X5_zero := Or.inl ll_L_19
theorem ll_L_25 : Cond.methodLink RL 25 yX5_setBand ∈ m_ws := m_ws_in (List.mem_append_right _ (List.mem_of_getElem? (i := 488) (by decide +kernel))) rfl
theorem lk_L_25 : m_LK RL 25 M_X5_setBand := Or.inl ll_L_25
theorem ll_L_28 : Cond.methodLink RL 28 yX5_fill ∈ m_ws := m_ws_in (List.mem_append_right _ (List.mem_of_getElem? (i := 496) (by decide +kernel))) rfl
theorem lk_L_28 : m_LK RL 28 M_X5_fill := Or.inl ll_L_28
theorem ll_L_33 : Cond.methodLink RL 33 yX5_setMargin ∈ m_ws := m_ws_in (List.mem_append_right _ (List.mem_of_getElem? (i := 527) (by decide +kernel))) rfl
theorem lk_L_33 : m_LK RL 33 M_X5_setMargin := Or.inl ll_L_33
theorem ll_L_36 : Cond.methodLink RL 36 yX5_flight ∈ m_ws := m_ws_in (List.mem_append_right _ (List.mem_of_getElem? (i := 536) (by decide +kernel))) rfl
theorem lk_L_36 : m_LK RL 36 M_X5_flight := Or.inl ll_L_36
theorem ll_L_39 : Cond.methodLink RL 39 yX5_gate ∈ m_ws := m_ws_in (List.mem_append_right _ (List.mem_of_getElem? (i := 543) (by decide +kernel))) rfl
theorem lk_L_39 : m_LK RL 39 M_X5_gate := Or.inl ll_L_39
theorem ll_L_42 : Cond.methodLink RL 42 yX5_stock ∈ m_ws := m_ws_in (List.mem_append_right _ (List.mem_of_getElem? (i := 554) (by decide +kernel))) rfl
theorem lk_L_42 : m_LK RL 42 M_X5_stock := Or.inl ll_L_42
theorem ll_L_45 : Cond.methodLink RL 45 yX5_register ∈ m_ws := m_ws_in (List.mem_append_right _ (List.mem_of_getElem? (i := 565) (by decide +kernel))) rfl
theorem lk_L_45 : m_LK RL 45 M_X5_register := Or.inl ll_L_45
theorem ll_L_48 : Cond.methodLink RL 48 yX5_registerByLots ∈ m_ws := m_ws_in (List.mem_append_right _ (List.mem_of_getElem? (i := 572) (by decide +kernel))) rfl
theorem lk_L_48 : m_LK RL 48 M_X5_registerByLots := Or.inl ll_L_48
theorem ll_L_51 : Cond.methodLink RL 51 yX5_leftOf ∈ m_ws := m_ws_in (List.mem_append_right _ (List.mem_of_getElem? (i := 583) (by decide +kernel))) rfl
theorem lk_L_51 : m_LK RL 51 M_X5_leftOf := Or.inl ll_L_51
theorem ll_L_54 : Cond.methodLink RL 54 yX5_firstBatch ∈ m_ws := m_ws_in (List.mem_append_right _ (List.mem_of_getElem? (i := 595) (by decide +kernel))) rfl
theorem lk_L_54 : m_LK RL 54 M_X5_firstBatch := Or.inl ll_L_54
theorem ll_L_57 : Cond.methodLink RL 57 yX5_used ∈ m_ws := m_ws_in (List.mem_append_right _ (List.mem_of_getElem? (i := 610) (by decide +kernel))) rfl
theorem lk_L_57 : m_LK RL 57 M_X5_used := Or.inl ll_L_57
theorem ll_L_60 : Cond.methodLink RL 60 yX5_addStep ∈ m_ws := m_ws_in (List.mem_append_right _ (List.mem_of_getElem? (i := 623) (by decide +kernel))) rfl
theorem lk_L_60 : m_LK RL 60 M_X5_addStep := Or.inl ll_L_60
theorem ll_L_64 : Cond.methodLink RL 64 yX5_clearRecipe ∈ m_ws := m_ws_in (List.mem_append_right _ (List.mem_of_getElem? (i := 635) (by decide +kernel))) rfl
theorem lk_L_64 : m_LK RL 64 M_X5_clearRecipe := Or.inl ll_L_64
theorem ll_L_67 : Cond.methodLink RL 67 yX5_start ∈ m_ws := m_ws_in (List.mem_append_right _ (List.mem_of_getElem? (i := 642) (by decide +kernel))) rfl
theorem lk_L_67 : m_LK RL 67 M_X5_start := Or.inl ll_L_67
theorem ll_L_70 : Cond.methodLink RL 70 yX5_hold ∈ m_ws := m_ws_in (List.mem_append_right _ (List.mem_of_getElem? (i := 653) (by decide +kernel))) rfl
theorem lk_L_70 : m_LK RL 70 M_X5_hold := Or.inl ll_L_70
theorem ll_L_73 : Cond.methodLink RL 73 yX5_resume ∈ m_ws := m_ws_in (List.mem_append_right _ (List.mem_of_getElem? (i := 661) (by decide +kernel))) rfl
theorem lk_L_73 : m_LK RL 73 M_X5_resume := Or.inl ll_L_73
theorem ll_L_76 : Cond.methodLink RL 76 yX5_abort ∈ m_ws := m_ws_in (List.mem_append_right _ (List.mem_of_getElem? (i := 672) (by decide +kernel))) rfl
theorem lk_L_76 : m_LK RL 76 M_X5_abort := Or.inl ll_L_76
theorem ll_L_79 : Cond.methodLink RL 79 yX5_belt ∈ m_ws := m_ws_in (List.mem_append_right _ (List.mem_of_getElem? (i := 683) (by decide +kernel))) rfl
theorem lk_L_79 : m_LK RL 79 M_X5_belt := Or.inl ll_L_79
theorem ll_L_83 : Cond.methodLink RL 83 yX5_init ∈ m_ws := m_ws_in (List.mem_append_right _ (List.mem_of_getElem? (i := 17) (by decide +kernel))) rfl
theorem lk_L_83 : m_LK RL 83 M_X5_init := Or.inl ll_L_83
theorem ll_L_86 : Cond.methodLink RL 86 yX6_init ∈ m_ws := m_ws_in (List.mem_append_right _ (List.mem_of_getElem? (i := 690) (by decide +kernel))) rfl
theorem lk_L_86 : m_LK RL 86 M_X6_init := Or.inl ll_L_86
theorem ll_L_87 : Cond.methodLink RL 87 yL_tick ∈ m_ws := m_ws_in (List.mem_append_right _ (List.mem_of_getElem? (i := 274) (by decide +kernel))) rfl
theorem lk_L_87 : m_LK RL 87 M_L_tick := Or.inl ll_L_87
theorem ll_L_92 : Cond.methodLink RL 92 yX6_tick ∈ m_ws := m_ws_in (List.mem_append_right _ (List.mem_of_getElem? (i := 801) (by decide +kernel))) rfl
theorem lk_L_92 : m_LK RL 92 M_X6_tick := Or.inl ll_L_92
theorem ll_L_93 : Cond.methodLink RL 93 yX6_thrown ∈ m_ws := m_ws_in (List.mem_append_right _ (List.mem_of_getElem? (i := 797) (by decide +kernel))) rfl
theorem lk_L_93 : m_LK RL 93 M_X6_thrown := Or.inl ll_L_93
theorem ll_L_96 : Cond.methodLink RL 96 yL_ticks ∈ m_ws := m_ws_in (List.mem_append_right _ (List.mem_of_getElem? (i := 451) (by decide +kernel))) rfl
theorem lk_L_96 : m_LK RL 96 M_L_ticks := Or.inl ll_L_96
theorem ll_L_99 : Cond.methodLink RL 99 yX6_ticks ∈ m_ws := m_ws_in (List.mem_append_right _ (List.mem_of_getElem? (i := 864) (by decide +kernel))) rfl
theorem lk_L_99 : m_LK RL 99 M_X6_ticks := Or.inl ll_L_99
theorem ll_L_100 : Cond.methodLink RL 100 yL_zero ∈ m_ws := m_ws_in (List.mem_append_right _ (List.mem_of_getElem? (i := 458) (by decide +kernel))) rfl
theorem lk_L_100 : m_LK RL 100 M_L_zero := Or.inl ll_L_100
theorem ll_L_103 : Cond.methodLink RL 103 yX6_zero ∈ m_ws := m_ws_in (List.mem_append_right _ (List.mem_of_getElem? (i := 868) (by decide +kernel))) rfl
theorem lk_L_103 : m_LK RL 103 M_X6_zero := Or.inl ll_L_103
theorem ll_L_104 : Cond.methodLink RL 104 yL_setBand ∈ m_ws := m_ws_in (List.mem_append_right _ (List.mem_of_getElem? (i := 485) (by decide +kernel))) rfl
theorem lk_L_104 : m_LK RL 104 M_L_setBand := Or.inl ll_L_104
theorem ll_L_106 : Cond.methodLink RL 106 yX6_setBand ∈ m_ws := m_ws_in (List.mem_append_right _ (List.mem_of_getElem? (i := 872) (by decide +kernel))) rfl
theorem lk_L_106 : m_LK RL 106 M_X6_setBand := Or.inl ll_L_106
theorem ll_L_107 : Cond.methodLink RL 107 yX5_gross ∈ m_ws := m_ws_in (List.mem_append_right _ (List.mem_of_getElem? (i := 219) (by decide +kernel))) rfl
theorem lk_L_107 : m_LK RL 107 M_X5_gross := Or.inl ll_L_107
theorem ll_L_110 : Cond.methodLink RL 110 yX6_gross ∈ m_ws := m_ws_in (List.mem_append_right _ (List.mem_of_getElem? (i := 876) (by decide +kernel))) rfl
theorem lk_L_110 : m_LK RL 110 M_X6_gross := Or.inl ll_L_110
theorem ll_L_111 : Cond.methodLink RL 111 yX5_net ∈ m_ws := m_ws_in (List.mem_append_right _ (List.mem_of_getElem? (i := 227) (by decide +kernel))) rfl
theorem lk_L_111 : m_LK RL 111 M_X5_net := Or.inl ll_L_111
theorem ll_L_114 : Cond.methodLink RL 114 yX6_net ∈ m_ws := m_ws_in (List.mem_append_right _ (List.mem_of_getElem? (i := 880) (by decide +kernel))) rfl
theorem lk_L_114 : m_LK RL 114 M_X6_net := Or.inl ll_L_114
theorem ll_L_115 : Cond.methodLink RL 115 yX5_isSettled ∈ m_ws := m_ws_in (List.mem_append_right _ (List.mem_of_getElem? (i := 236) (by decide +kernel))) rfl
theorem lk_L_115 : m_LK RL 115 M_X5_isSettled := Or.inl ll_L_115
theorem ll_L_119 : Cond.methodLink RL 119 yX6_isSettled ∈ m_ws := m_ws_in (List.mem_append_right _ (List.mem_of_getElem? (i := 884) (by decide +kernel))) rfl
theorem lk_L_119 : m_LK RL 119 M_X6_isSettled := Or.inl ll_L_119
theorem ll_L_120 : Cond.methodLink RL 120 yL_fill ∈ m_ws := m_ws_in (List.mem_append_right _ (List.mem_of_getElem? (i := 492) (by decide +kernel))) rfl
theorem lk_L_120 : m_LK RL 120 M_L_fill := Or.inl ll_L_120
theorem ll_L_122 : Cond.methodLink RL 122 yX6_fill ∈ m_ws := m_ws_in (List.mem_append_right _ (List.mem_of_getElem? (i := 888) (by decide +kernel))) rfl
theorem lk_L_122 : m_LK RL 122 M_X6_fill := Or.inl ll_L_122
theorem ll_L_123 : Cond.methodLink RL 123 yL_setMargin ∈ m_ws := m_ws_in (List.mem_append_right _ (List.mem_of_getElem? (i := 524) (by decide +kernel))) rfl
theorem lk_L_123 : m_LK RL 123 M_L_setMargin := Or.inl ll_L_123
theorem ll_L_125 : Cond.methodLink RL 125 yX6_setMargin ∈ m_ws := m_ws_in (List.mem_append_right _ (List.mem_of_getElem? (i := 895) (by decide +kernel))) rfl
theorem lk_L_125 : m_LK RL 125 M_X6_setMargin := Or.inl ll_L_125
theorem ll_L_126 : Cond.methodLink RL 126 yL_flight ∈ m_ws := m_ws_in (List.mem_append_right _ (List.mem_of_getElem? (i := 533) (by decide +kernel))) rfl
theorem lk_L_126 : m_LK RL 126 M_L_flight := Or.inl ll_L_126
theorem ll_L_128 : Cond.methodLink RL 128 yX6_flight ∈ m_ws := m_ws_in (List.mem_append_right _ (List.mem_of_getElem? (i := 899) (by decide +kernel))) rfl
theorem lk_L_128 : m_LK RL 128 M_X6_flight := Or.inl ll_L_128
theorem ll_L_129 : Cond.methodLink RL 129 yL_gate ∈ m_ws := m_ws_in (List.mem_append_right _ (List.mem_of_getElem? (i := 540) (by decide +kernel))) rfl
theorem lk_L_129 : m_LK RL 129 M_L_gate := Or.inl ll_L_129
theorem ll_L_131 : Cond.methodLink RL 131 yX6_gate ∈ m_ws := m_ws_in (List.mem_append_right _ (List.mem_of_getElem? (i := 903) (by decide +kernel))) rfl
theorem lk_L_131 : m_LK RL 131 M_X6_gate := Or.inl ll_L_131
theorem ll_L_132 : Cond.methodLink RL 132 yL_stock ∈ m_ws := m_ws_in (List.mem_append_right _ (List.mem_of_getElem? (i := 551) (by decide +kernel))) rfl
theorem lk_L_132 : m_LK RL 132 M_L_stock := Or.inl ll_L_132
theorem ll_L_134 : Cond.methodLink RL 134 yX6_stock ∈ m_ws := m_ws_in (List.mem_append_right _ (List.mem_of_getElem? (i := 907) (by decide +kernel))) rfl
theorem lk_L_134 : m_LK RL 134 M_X6_stock := Or.inl ll_L_134
theorem ll_L_135 : Cond.methodLink RL 135 yL_register ∈ m_ws := m_ws_in (List.mem_append_right _ (List.mem_of_getElem? (i := 562) (by decide +kernel))) rfl
theorem lk_L_135 : m_LK RL 135 M_L_register := Or.inl ll_L_135
theorem ll_L_137 : Cond.methodLink RL 137 yX6_register ∈ m_ws := m_ws_in (List.mem_append_right _ (List.mem_of_getElem? (i := 911) (by decide +kernel))) rfl
theorem lk_L_137 : m_LK RL 137 M_X6_register := Or.inl ll_L_137
theorem ll_L_138 : Cond.methodLink RL 138 yL_registerByLots ∈ m_ws := m_ws_in (List.mem_append_right _ (List.mem_of_getElem? (i := 569) (by decide +kernel))) rfl
theorem lk_L_138 : m_LK RL 138 M_L_registerByLots := Or.inl ll_L_138
theorem ll_L_140 : Cond.methodLink RL 140 yX6_registerByLots ∈ m_ws := m_ws_in (List.mem_append_right _ (List.mem_of_getElem? (i := 915) (by decide +kernel))) rfl
theorem lk_L_140 : m_LK RL 140 M_X6_registerByLots := Or.inl ll_L_140
theorem ll_L_141 : Cond.methodLink RL 141 yL_leftOf ∈ m_ws := m_ws_in (List.mem_append_right _ (List.mem_of_getElem? (i := 580) (by decide +kernel))) rfl
theorem lk_L_141 : m_LK RL 141 M_L_leftOf := Or.inl ll_L_141
theorem ll_L_143 : Cond.methodLink RL 143 yX6_leftOf ∈ m_ws := m_ws_in (List.mem_append_right _ (List.mem_of_getElem? (i := 919) (by decide +kernel))) rfl
theorem lk_L_143 : m_LK RL 143 M_X6_leftOf := Or.inl ll_L_143
theorem ll_L_144 : Cond.methodLink RL 144 yL_firstBatch ∈ m_ws := m_ws_in (List.mem_append_right _ (List.mem_of_getElem? (i := 592) (by decide +kernel))) rfl
theorem lk_L_144 : m_LK RL 144 M_L_firstBatch := Or.inl ll_L_144
theorem ll_L_146 : Cond.methodLink RL 146 yX6_firstBatch ∈ m_ws := m_ws_in (List.mem_append_right _ (List.mem_of_getElem? (i := 927) (by decide +kernel))) rfl
theorem lk_L_146 : m_LK RL 146 M_X6_firstBatch := Or.inl ll_L_146
theorem ll_L_147 : Cond.methodLink RL 147 yL_used ∈ m_ws := m_ws_in (List.mem_append_right _ (List.mem_of_getElem? (i := 607) (by decide +kernel))) rfl
theorem lk_L_147 : m_LK RL 147 M_L_used := Or.inl ll_L_147
theorem ll_L_149 : Cond.methodLink RL 149 yX6_used ∈ m_ws := m_ws_in (List.mem_append_right _ (List.mem_of_getElem? (i := 931) (by decide +kernel))) rfl
theorem lk_L_149 : m_LK RL 149 M_X6_used := Or.inl ll_L_149
theorem ll_L_150 : Cond.methodLink RL 150 yL_addStep ∈ m_ws := m_ws_in (List.mem_append_right _ (List.mem_of_getElem? (i := 620) (by decide +kernel))) rfl
theorem lk_L_150 : m_LK RL 150 M_L_addStep := Or.inl ll_L_150
theorem ll_L_153 : Cond.methodLink RL 153 yX6_addStep ∈ m_ws := m_ws_in (List.mem_append_right _ (List.mem_of_getElem? (i := 935) (by decide +kernel))) rfl
theorem lk_L_153 : m_LK RL 153 M_X6_addStep := Or.inl ll_L_153
theorem ll_L_154 : Cond.methodLink RL 154 yL_clearRecipe ∈ m_ws := m_ws_in (List.mem_append_right _ (List.mem_of_getElem? (i := 632) (by decide +kernel))) rfl
theorem lk_L_154 : m_LK RL 154 M_L_clearRecipe := Or.inl ll_L_154
theorem ll_L_156 : Cond.methodLink RL 156 yX6_clearRecipe ∈ m_ws := m_ws_in (List.mem_append_right _ (List.mem_of_getElem? (i := 939) (by decide +kernel))) rfl
theorem lk_L_156 : m_LK RL 156 M_X6_clearRecipe := Or.inl ll_L_156
theorem ll_L_157 : Cond.methodLink RL 157 yL_start ∈ m_ws := m_ws_in (List.mem_append_right _ (List.mem_of_getElem? (i := 639) (by decide +kernel))) rfl
theorem lk_L_157 : m_LK RL 157 M_L_start := Or.inl ll_L_157
theorem ll_L_159 : Cond.methodLink RL 159 yX6_start ∈ m_ws := m_ws_in (List.mem_append_right _ (List.mem_of_getElem? (i := 943) (by decide +kernel))) rfl
theorem lk_L_159 : m_LK RL 159 M_X6_start := Or.inl ll_L_159
theorem ll_L_160 : Cond.methodLink RL 160 yL_hold ∈ m_ws := m_ws_in (List.mem_append_right _ (List.mem_of_getElem? (i := 650) (by decide +kernel))) rfl
theorem lk_L_160 : m_LK RL 160 M_L_hold := Or.inl ll_L_160
theorem ll_L_162 : Cond.methodLink RL 162 yX6_hold ∈ m_ws := m_ws_in (List.mem_append_right _ (List.mem_of_getElem? (i := 947) (by decide +kernel))) rfl
theorem lk_L_162 : m_LK RL 162 M_X6_hold := Or.inl ll_L_162
theorem ll_L_163 : Cond.methodLink RL 163 yL_resume ∈ m_ws := m_ws_in (List.mem_append_right _ (List.mem_of_getElem? (i := 658) (by decide +kernel))) rfl
theorem lk_L_163 : m_LK RL 163 M_L_resume := Or.inl ll_L_163
theorem ll_L_165 : Cond.methodLink RL 165 yX6_resume ∈ m_ws := m_ws_in (List.mem_append_right _ (List.mem_of_getElem? (i := 951) (by decide +kernel))) rfl
theorem lk_L_165 : m_LK RL 165 M_X6_resume := Or.inl ll_L_165
theorem ll_L_166 : Cond.methodLink RL 166 yL_abort ∈ m_ws := m_ws_in (List.mem_append_right _ (List.mem_of_getElem? (i := 669) (by decide +kernel))) rfl
theorem lk_L_166 : m_LK RL 166 M_L_abort := Or.inl ll_L_166
theorem ll_L_168 : Cond.methodLink RL 168 yX6_abort ∈ m_ws := m_ws_in (List.mem_append_right _ (List.mem_of_getElem? (i := 955) (by decide +kernel))) rfl
theorem lk_L_168 : m_LK RL 168 M_X6_abort := Or.inl ll_L_168
theorem ll_L_169 : Cond.methodLink RL 169 yX5_state ∈ m_ws := m_ws_in (List.mem_append_right _ (List.mem_of_getElem? (i := 250) (by decide +kernel))) rfl
theorem lk_L_169 : m_LK RL 169 M_X5_state := Or.inl ll_L_169
theorem ll_L_172 : Cond.methodLink RL 172 yX6_state ∈ m_ws := m_ws_in (List.mem_append_right _ (List.mem_of_getElem? (i := 959) (by decide +kernel))) rfl
theorem lk_L_172 : m_LK RL 172 M_X6_state := Or.inl ll_L_172
theorem ll_L_173 : Cond.methodLink RL 173 yX5_alarm ∈ m_ws := m_ws_in (List.mem_append_right _ (List.mem_of_getElem? (i := 254) (by decide +kernel))) rfl
theorem lk_L_173 : m_LK RL 173 M_X5_alarm := Or.inl ll_L_173
theorem ll_L_176 : Cond.methodLink RL 176 yX6_alarm ∈ m_ws := m_ws_in (List.mem_append_right _ (List.mem_of_getElem? (i := 963) (by decide +kernel))) rfl
theorem lk_L_176 : m_LK RL 176 M_X6_alarm := Or.inl ll_L_176
theorem ll_L_177 : Cond.methodLink RL 177 yX5_step ∈ m_ws := m_ws_in (List.mem_append_right _ (List.mem_of_getElem? (i := 258) (by decide +kernel))) rfl
theorem lk_L_177 : m_LK RL 177 M_X5_step := Or.inl ll_L_177
theorem ll_L_180 : Cond.methodLink RL 180 yX6_step ∈ m_ws := m_ws_in (List.mem_append_right _ (List.mem_of_getElem? (i := 967) (by decide +kernel))) rfl
theorem lk_L_180 : m_LK RL 180 M_X6_step := Or.inl ll_L_180
theorem ll_L_181 : Cond.methodLink RL 181 yX5_jogs ∈ m_ws := m_ws_in (List.mem_append_right _ (List.mem_of_getElem? (i := 262) (by decide +kernel))) rfl
theorem lk_L_181 : m_LK RL 181 M_X5_jogs := Or.inl ll_L_181
theorem ll_L_184 : Cond.methodLink RL 184 yX6_jogs ∈ m_ws := m_ws_in (List.mem_append_right _ (List.mem_of_getElem? (i := 971) (by decide +kernel))) rfl
theorem lk_L_184 : m_LK RL 184 M_X6_jogs := Or.inl ll_L_184
theorem ll_L_185 : Cond.methodLink RL 185 yX5_batches ∈ m_ws := m_ws_in (List.mem_append_right _ (List.mem_of_getElem? (i := 266) (by decide +kernel))) rfl
theorem lk_L_185 : m_LK RL 185 M_X5_batches := Or.inl ll_L_185
theorem ll_L_188 : Cond.methodLink RL 188 yX6_batches ∈ m_ws := m_ws_in (List.mem_append_right _ (List.mem_of_getElem? (i := 975) (by decide +kernel))) rfl
theorem lk_L_188 : m_LK RL 188 M_X6_batches := Or.inl ll_L_188
theorem ll_L_189 : Cond.methodLink RL 189 yX5_done ∈ m_ws := m_ws_in (List.mem_append_right _ (List.mem_of_getElem? (i := 270) (by decide +kernel))) rfl
theorem lk_L_189 : m_LK RL 189 M_X5_done := Or.inl ll_L_189
theorem ll_L_192 : Cond.methodLink RL 192 yX6_done ∈ m_ws := m_ws_in (List.mem_append_right _ (List.mem_of_getElem? (i := 979) (by decide +kernel))) rfl
theorem lk_L_192 : m_LK RL 192 M_X6_done := Or.inl ll_L_192
theorem ll_L_193 : Cond.methodLink RL 193 yL_belt ∈ m_ws := m_ws_in (List.mem_append_right _ (List.mem_of_getElem? (i := 680) (by decide +kernel))) rfl
theorem lk_L_193 : m_LK RL 193 M_L_belt := Or.inl ll_L_193
theorem ll_L_195 : Cond.methodLink RL 195 yX6_belt ∈ m_ws := m_ws_in (List.mem_append_right _ (List.mem_of_getElem? (i := 983) (by decide +kernel))) rfl
theorem lk_L_195 : m_LK RL 195 M_X6_belt := Or.inl ll_L_195
theorem cs_X5_83 : Cond.constant RX5 83 (100000) ∈ m_ws := m_ws_in (List.mem_append_right _ (List.mem_of_getElem? (i := 285) (by decide +kernel))) rfl
theorem cs_X5_182 : Cond.constantLong RX5 182 (1000) ∈ m_ws := m_ws_in (List.mem_append_right _ (List.mem_of_getElem? (i := 687) (by decide +kernel))) rfl
theorem cs_X6_140 : Cond.constant RX6 140 (100000) ∈ m_ws := m_ws_in (List.mem_append_right _ (List.mem_of_getElem? (i := 805) (by decide +kernel))) rfl
theorem cs_X6_175 : Cond.constantLong RX6 175 (1000) ∈ m_ws := m_ws_in (List.mem_append_right _ (List.mem_of_getElem? (i := 987) (by decide +kernel))) rfl
theorem aw_int : Cond.arrayClass .int ∈ m_ws := m_ws_in (by decide +kernel) rfl
theorem aw_long : Cond.arrayClass .long ∈ m_ws := m_ws_in (by decide +kernel) rfl
theorem xc_X5_184 : Cond.classLink RX5 184 "java/lang/IndexOutOfBoundsException" ∈ m_ws := m_ws_in (List.mem_append_right _ (List.mem_of_getElem? (i := 503) (by decide +kernel))) rfl
theorem xi_X5_184 : Cond.initialized "java/lang/IndexOutOfBoundsException" ∈ m_ws := m_ws_in (List.mem_append_right _ (List.mem_of_getElem? (i := 14) (by decide +kernel))) rfl
theorem xw_X5_188 : ∀ w ∈ vx_atS RX5 188 "java/lang/IndexOutOfBoundsException" ["java/lang/RuntimeException", "java/lang/Exception"], w ∈ m_ws ∨ w ∈ m_nw := by
  have h : ∀ w ∈ vx_atS RX5 188 "java/lang/IndexOutOfBoundsException" ["java/lang/RuntimeException", "java/lang/Exception"], w ∈ lw_tbl ∧ (goodWord w || m_isN w) = true := by decide +kernel
  intro w hw
  obtain ⟨h1, h2⟩ := h w hw
  rcases Bool.or_eq_true _ _ |>.mp h2 with h2 | h2
  · exact Or.inl (m_ws_in h1 h2)
  · exact Or.inr (m_nw_in h1 h2)
theorem xc_X5_195 : Cond.classLink RX5 195 "java/lang/IllegalArgumentException" ∈ m_ws := m_ws_in (List.mem_append_right _ (List.mem_of_getElem? (i := 292) (by decide +kernel))) rfl
theorem xi_X5_195 : Cond.initialized "java/lang/IllegalArgumentException" ∈ m_ws := m_ws_in (List.mem_append_right _ (List.mem_of_getElem? (i := 11) (by decide +kernel))) rfl
theorem xw_X5_199 : ∀ w ∈ vx_atS RX5 199 "java/lang/IllegalArgumentException" ["java/lang/RuntimeException", "java/lang/Exception"], w ∈ m_ws ∨ w ∈ m_nw := by
  have h : ∀ w ∈ vx_atS RX5 199 "java/lang/IllegalArgumentException" ["java/lang/RuntimeException", "java/lang/Exception"], w ∈ lw_tbl ∧ (goodWord w || m_isN w) = true := by decide +kernel
  intro w hw
  obtain ⟨h1, h2⟩ := h w hw
  rcases Bool.or_eq_true _ _ |>.mp h2 with h2 | h2
  · exact Or.inl (m_ws_in h1 h2)
  · exact Or.inr (m_nw_in h1 h2)
theorem xc_X5_200 : Cond.classLink RX5 200 "java/lang/IllegalStateException" ∈ m_ws := m_ws_in (List.mem_append_right _ (List.mem_of_getElem? (i := 469) (by decide +kernel))) rfl
theorem xi_X5_200 : Cond.initialized "java/lang/IllegalStateException" ∈ m_ws := m_ws_in (List.mem_append_right _ (List.mem_of_getElem? (i := 13) (by decide +kernel))) rfl
theorem xw_X5_204 : ∀ w ∈ vx_atS RX5 204 "java/lang/IllegalStateException" ["java/lang/RuntimeException", "java/lang/Exception"], w ∈ m_ws ∨ w ∈ m_nw := by
  have h : ∀ w ∈ vx_atS RX5 204 "java/lang/IllegalStateException" ["java/lang/RuntimeException", "java/lang/Exception"], w ∈ lw_tbl ∧ (goodWord w || m_isN w) = true := by decide +kernel
  intro w hw
  obtain ⟨h1, h2⟩ := h w hw
  rcases Bool.or_eq_true _ _ |>.mp h2 with h2 | h2
  · exact Or.inl (m_ws_in h1 h2)
  · exact Or.inr (m_nw_in h1 h2)
theorem nc_X1_9 : Cond.classLink RX1 9 RX4 ∈ m_ws := m_ws_in (List.mem_append_right _ (List.mem_of_getElem? (i := 29) (by decide +kernel))) rfl
theorem ni_X4 : Cond.instantiable RX4 8 ∈ m_ws := m_ws_in (List.mem_append_right _ (List.mem_of_getElem? (i := 30) (by decide +kernel))) rfl
theorem nn_X4 : Cond.initialized RX4 ∈ m_ws := m_ws_in (List.mem_append_right _ (List.mem_of_getElem? (i := 3) (by decide +kernel))) rfl
theorem nc_X1_18 : Cond.classLink RX1 18 RX0 ∈ m_ws := m_ws_in (List.mem_append_right _ (List.mem_of_getElem? (i := 64) (by decide +kernel))) rfl
theorem ni_X0 : Cond.instantiable RX0 4 ∈ m_ws := m_ws_in (List.mem_append_right _ (List.mem_of_getElem? (i := 65) (by decide +kernel))) rfl
theorem nn_X0 : Cond.initialized RX0 ∈ m_ws := m_ws_in (List.mem_append_right _ (List.mem_of_getElem? (i := 4) (by decide +kernel))) rfl
theorem nc_X1_25 : Cond.classLink RX1 25 RX2 ∈ m_ws := m_ws_in (List.mem_append_right _ (List.mem_of_getElem? (i := 92) (by decide +kernel))) rfl
theorem ni_X2 : Cond.instantiable RX2 5 ∈ m_ws := m_ws_in (List.mem_append_right _ (List.mem_of_getElem? (i := 93) (by decide +kernel))) rfl
theorem nn_X2 : Cond.initialized RX2 ∈ m_ws := m_ws_in (List.mem_append_right _ (List.mem_of_getElem? (i := 5) (by decide +kernel))) rfl
theorem nc_X1_32 : Cond.classLink RX1 32 RX3 ∈ m_ws := m_ws_in (List.mem_append_right _ (List.mem_of_getElem? (i := 116) (by decide +kernel))) rfl
theorem ni_X3 : Cond.instantiable RX3 4 ∈ m_ws := m_ws_in (List.mem_append_right _ (List.mem_of_getElem? (i := 117) (by decide +kernel))) rfl
theorem nn_X3 : Cond.initialized RX3 ∈ m_ws := m_ws_in (List.mem_append_right _ (List.mem_of_getElem? (i := 6) (by decide +kernel))) rfl
theorem nc_X5_7 : Cond.classLink RX5 7 RX1 ∈ m_ws := m_ws_in (List.mem_append_right _ (List.mem_of_getElem? (i := 23) (by decide +kernel))) rfl
theorem ni_X1 : Cond.instantiable RX1 16 ∈ m_ws := m_ws_in (List.mem_append_right _ (List.mem_of_getElem? (i := 24) (by decide +kernel))) rfl
theorem nn_X1 : Cond.initialized RX1 ∈ m_ws := m_ws_in (List.mem_append_right _ (List.mem_of_getElem? (i := 2) (by decide +kernel))) rfl
theorem nc_L_8 : Cond.classLink RL 8 RX5 ∈ m_ws := m_ws_in (List.mem_append_right _ (List.mem_of_getElem? (i := 15) (by decide +kernel))) rfl
theorem ni_X5 : Cond.instantiable RX5 6 ∈ m_ws := m_ws_in (List.mem_append_right _ (List.mem_of_getElem? (i := 16) (by decide +kernel))) rfl
theorem nn_X5 : Cond.initialized RX5 ∈ m_ws := m_ws_in (List.mem_append_right _ (List.mem_of_getElem? (i := 1) (by decide +kernel))) rfl
theorem nc_L_84 : Cond.classLink RL 84 RX6 ∈ m_ws := m_ws_in (List.mem_append_right _ (List.mem_of_getElem? (i := 688) (by decide +kernel))) rfl
theorem ni_X6 : Cond.instantiable RX6 34 ∈ m_ws := m_ws_in (List.mem_append_right _ (List.mem_of_getElem? (i := 689) (by decide +kernel))) rfl
theorem nn_X6 : Cond.initialized RX6 ∈ m_ws := m_ws_in (List.mem_append_right _ (List.mem_of_getElem? (i := 7) (by decide +kernel))) rfl

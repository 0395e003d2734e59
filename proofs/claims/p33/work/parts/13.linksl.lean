abbrev M_L_from : m_M := (yL_from, cL_from, 4, (some .int), 0, 0, 0)
theorem mk_L_from : m_MK M_L_from 3 := ⟨m_ws_in (List.mem_append_right _ (List.mem_of_getElem? (i := 229) (by decide +kernel))) rfl, m_ws_in (List.mem_append_right _ (List.mem_of_getElem? (i := 0) (by decide +kernel))) rfl, by decide +kernel⟩
theorem st_L_from : Cond.static yL_from ∈ m_ws := m_ws_in (List.mem_append_right _ (List.mem_of_getElem? (i := 228) (by decide +kernel))) rfl
abbrev M_L_isSettled : m_M := (yL_isSettled, cL_isSettled, 4, (some .boolean), 0, 0, 0)
theorem mk_L_isSettled : m_MK M_L_isSettled 1 := ⟨m_ws_in (List.mem_append_right _ (List.mem_of_getElem? (i := 477) (by decide +kernel))) rfl, m_ws_in (List.mem_append_right _ (List.mem_of_getElem? (i := 0) (by decide +kernel))) rfl, by decide +kernel⟩
theorem st_L_isSettled : Cond.static yL_isSettled ∈ m_ws := m_ws_in (List.mem_append_right _ (List.mem_of_getElem? (i := 476) (by decide +kernel))) rfl
abbrev M_L_net : m_M := (yL_net, cL_net, 1, (some .int), 0, 0, 0)
theorem mk_L_net : m_MK M_L_net 1 := ⟨m_ws_in (List.mem_append_right _ (List.mem_of_getElem? (i := 404) (by decide +kernel))) rfl, m_ws_in (List.mem_append_right _ (List.mem_of_getElem? (i := 0) (by decide +kernel))) rfl, by decide +kernel⟩
theorem st_L_net : Cond.static yL_net ∈ m_ws := m_ws_in (List.mem_append_right _ (List.mem_of_getElem? (i := 403) (by decide +kernel))) rfl
abbrev M_L_turn : m_M := (yL_turn, cL_turn, 2, none, 0, 0, 0)
theorem mk_L_turn : m_MK M_L_turn 2 := ⟨m_ws_in (List.mem_append_right _ (List.mem_of_getElem? (i := 380) (by decide +kernel))) rfl, m_ws_in (List.mem_append_right _ (List.mem_of_getElem? (i := 0) (by decide +kernel))) rfl, by decide +kernel⟩
theorem st_L_turn : Cond.static yL_turn ∈ m_ws := m_ws_in (List.mem_append_right _ (List.mem_of_getElem? (i := 379) (by decide +kernel))) rfl
abbrev M_L_stop : m_M := (yL_stop, cL_stop, 2, none, 1, 0, 0)
theorem mk_L_stop : m_MK M_L_stop 2 := ⟨m_ws_in (List.mem_append_right _ (List.mem_of_getElem? (i := 377) (by decide +kernel))) rfl, m_ws_in (List.mem_append_right _ (List.mem_of_getElem? (i := 0) (by decide +kernel))) rfl, by decide +kernel⟩
theorem st_L_stop : Cond.static yL_stop ∈ m_ws := m_ws_in (List.mem_append_right _ (List.mem_of_getElem? (i := 376) (by decide +kernel))) rfl
abbrev M_L_book : m_M := (yL_book, cL_book, 12, (some .int), 1, 0, 0)
theorem mk_L_book : m_MK M_L_book 7 := ⟨m_ws_in (List.mem_append_right _ (List.mem_of_getElem? (i := 401) (by decide +kernel))) rfl, m_ws_in (List.mem_append_right _ (List.mem_of_getElem? (i := 0) (by decide +kernel))) rfl, by decide +kernel⟩
theorem st_L_book : Cond.static yL_book ∈ m_ws := m_ws_in (List.mem_append_right _ (List.mem_of_getElem? (i := 400) (by decide +kernel))) rfl
abbrev M_L_next : m_M := (yL_next, cL_next, 3, none, 1, 0, 0)
theorem mk_L_next : m_MK M_L_next 2 := ⟨m_ws_in (List.mem_append_right _ (List.mem_of_getElem? (i := 407) (by decide +kernel))) rfl, m_ws_in (List.mem_append_right _ (List.mem_of_getElem? (i := 0) (by decide +kernel))) rfl, by decide +kernel⟩
theorem st_L_next : Cond.static yL_next ∈ m_ws := m_ws_in (List.mem_append_right _ (List.mem_of_getElem? (i := 406) (by decide +kernel))) rfl
abbrev M_L_end : m_M := (yL_end, cL_end, 8, none, 2, 0, 0)
theorem mk_L_end : m_MK M_L_end 7 := ⟨m_ws_in (List.mem_append_right _ (List.mem_of_getElem? (i := 398) (by decide +kernel))) rfl, m_ws_in (List.mem_append_right _ (List.mem_of_getElem? (i := 0) (by decide +kernel))) rfl, by decide +kernel⟩
theorem st_L_end : Cond.static yL_end ∈ m_ws := m_ws_in (List.mem_append_right _ (List.mem_of_getElem? (i := 397) (by decide +kernel))) rfl
abbrev M_L_weigh : m_M := (yL_weigh, cL_weigh, 10, none, 3, 0, 0)
theorem mk_L_weigh : m_MK M_L_weigh 7 := ⟨m_ws_in (List.mem_append_right _ (List.mem_of_getElem? (i := 517) (by decide +kernel))) rfl, m_ws_in (List.mem_append_right _ (List.mem_of_getElem? (i := 0) (by decide +kernel))) rfl, by decide +kernel⟩
theorem st_L_weigh : Cond.static yL_weigh ∈ m_ws := m_ws_in (List.mem_append_right _ (List.mem_of_getElem? (i := 516) (by decide +kernel))) rfl
abbrev M_L_bring : m_M := (yL_bring, cL_bring, 16, none, 4, 0, 0)
theorem mk_L_bring : m_MK M_L_bring 8 := ⟨m_ws_in (List.mem_append_right _ (List.mem_of_getElem? (i := 514) (by decide +kernel))) rfl, m_ws_in (List.mem_append_right _ (List.mem_of_getElem? (i := 0) (by decide +kernel))) rfl, by decide +kernel⟩
theorem st_L_bring : Cond.static yL_bring ∈ m_ws := m_ws_in (List.mem_append_right _ (List.mem_of_getElem? (i := 513) (by decide +kernel))) rfl
abbrev M_L_isTold : m_M := (yL_isTold, cL_isTold, 13, (some .boolean), 8, 0, 0)
theorem mk_L_isTold : m_MK M_L_isTold 8 := ⟨m_ws_in (List.mem_append_right _ (List.mem_of_getElem? (i := 579) (by decide +kernel))) rfl, m_ws_in (List.mem_append_right _ (List.mem_of_getElem? (i := 0) (by decide +kernel))) rfl, by decide +kernel⟩
abbrev Mx_L_isTold : m_M := (yL_isTold, cL_isTold, 13, (some .boolean), 8, 1, 6)
theorem mkx_L_isTold : m_MK Mx_L_isTold 8 := mk_L_isTold
theorem st_L_isTold : Cond.static yL_isTold ∈ m_ws := m_ws_in (List.mem_append_right _ (List.mem_of_getElem? (i := 578) (by decide +kernel))) rfl
abbrev M_L_resumed : m_M := (yL_resumed, cL_resumed, 2, (some .int), 8, 1, 6)
abbrev H_L_resumed : List (Nat × Nat × Nat × Nat) := [(0, 4, 5, 98)]
theorem mk_L_resumed : m_MKH M_L_resumed H_L_resumed 1 := ⟨m_ws_in (List.mem_append_right _ (List.mem_of_getElem? (i := 410) (by decide +kernel))) rfl, m_ws_in (List.mem_append_right _ (List.mem_of_getElem? (i := 0) (by decide +kernel))) rfl, by decide +kernel⟩
theorem st_L_resumed : Cond.static yL_resumed ∈ m_ws := m_ws_in (List.mem_append_right _ (List.mem_of_getElem? (i := 409) (by decide +kernel))) rfl
abbrev M_L_held : m_M := (yL_held, cL_held, 2, (some .int), 8, 1, 6)
abbrev H_L_held : List (Nat × Nat × Nat × Nat) := [(0, 4, 5, 98)]
theorem mk_L_held : m_MKH M_L_held H_L_held 1 := ⟨m_ws_in (List.mem_append_right _ (List.mem_of_getElem? (i := 383) (by decide +kernel))) rfl, m_ws_in (List.mem_append_right _ (List.mem_of_getElem? (i := 0) (by decide +kernel))) rfl, by decide +kernel⟩
theorem st_L_held : Cond.static yL_held ∈ m_ws := m_ws_in (List.mem_append_right _ (List.mem_of_getElem? (i := 382) (by decide +kernel))) rfl
abbrev M_L_aborted : m_M := (yL_aborted, cL_aborted, 2, (some .int), 8, 1, 6)
abbrev H_L_aborted : List (Nat × Nat × Nat × Nat) := [(0, 4, 5, 98)]
theorem mk_L_aborted : m_MKH M_L_aborted H_L_aborted 1 := ⟨m_ws_in (List.mem_append_right _ (List.mem_of_getElem? (i := 466) (by decide +kernel))) rfl, m_ws_in (List.mem_append_right _ (List.mem_of_getElem? (i := 0) (by decide +kernel))) rfl, by decide +kernel⟩
theorem st_L_aborted : Cond.static yL_aborted ∈ m_ws := m_ws_in (List.mem_append_right _ (List.mem_of_getElem? (i := 465) (by decide +kernel))) rfl
abbrev M_L_started : m_M := (yL_started, cL_started, 2, (some .int), 8, 1, 6)
abbrev H_L_started : List (Nat × Nat × Nat × Nat) := [(0, 4, 5, 98)]
theorem mk_L_started : m_MKH M_L_started H_L_started 1 := ⟨m_ws_in (List.mem_append_right _ (List.mem_of_getElem? (i := 503) (by decide +kernel))) rfl, m_ws_in (List.mem_append_right _ (List.mem_of_getElem? (i := 0) (by decide +kernel))) rfl, by decide +kernel⟩
theorem st_L_started : Cond.static yL_started ∈ m_ws := m_ws_in (List.mem_append_right _ (List.mem_of_getElem? (i := 502) (by decide +kernel))) rfl
abbrev M_L_zeroed : m_M := (yL_zeroed, cL_zeroed, 2, (some .int), 8, 1, 6)
abbrev H_L_zeroed : List (Nat × Nat × Nat × Nat) := [(0, 4, 5, 98)]
theorem mk_L_zeroed : m_MKH M_L_zeroed H_L_zeroed 1 := ⟨m_ws_in (List.mem_append_right _ (List.mem_of_getElem? (i := 480) (by decide +kernel))) rfl, m_ws_in (List.mem_append_right _ (List.mem_of_getElem? (i := 0) (by decide +kernel))) rfl, by decide +kernel⟩
theorem st_L_zeroed : Cond.static yL_zeroed ∈ m_ws := m_ws_in (List.mem_append_right _ (List.mem_of_getElem? (i := 479) (by decide +kernel))) rfl
abbrev M_L_acts : m_M := (yL_acts, cL_acts, 12, (some .boolean), 9, 1, 6)
theorem mk_L_acts : m_MK M_L_acts 10 := ⟨m_ws_in (List.mem_append_right _ (List.mem_of_getElem? (i := 374) (by decide +kernel))) rfl, m_ws_in (List.mem_append_right _ (List.mem_of_getElem? (i := 0) (by decide +kernel))) rfl, by decide +kernel⟩
abbrev Mx_L_acts : m_M := (yL_acts, cL_acts, 12, (some .boolean), 9, 1, 6)
theorem mkx_L_acts : m_MK Mx_L_acts 10 := mk_L_acts
theorem st_L_acts : Cond.static yL_acts ∈ m_ws := m_ws_in (List.mem_append_right _ (List.mem_of_getElem? (i := 373) (by decide +kernel))) rfl
abbrev M_L_holds : m_M := (yL_holds, cL_holds, 19, (some .boolean), 10, 263, 2361)
theorem mk_L_holds : m_MK M_L_holds 1 := ⟨m_ws_in (List.mem_append_right _ (List.mem_of_getElem? (i := 22) rfl)) rfl, m_ws_in (List.mem_append_right _ (List.mem_of_getElem? (i := 0) (by decide +kernel))) rfl, by decide +kernel⟩
abbrev Mx_L_holds : m_M := (yL_holds, cL_holds, 19, (some .boolean), 10, 1, 6)
theorem mkx_L_holds : m_MK Mx_L_holds 1 := mk_L_holds
theorem st_L_holds : Cond.static yL_holds ∈ m_ws := m_ws_in (List.mem_append_right _ (List.mem_of_getElem? (i := 21) (by decide +kernel))) rfl
abbrev M_L_isHeld : m_M := (yL_isHeld, cL_isHeld, 2, (some .boolean), 12, 263, 2361)
abbrev H_L_isHeld : List (Nat × Nat × Nat × Nat) := [(0, 4, 5, 174), (0, 4, 8, 176), (0, 4, 11, 98)]
theorem mk_L_isHeld : m_MKH M_L_isHeld H_L_isHeld 1 := ⟨m_ws_in (List.mem_append_right _ (List.mem_of_getElem? (i := 16) (by decide +kernel))) rfl, m_ws_in (List.mem_append_right _ (List.mem_of_getElem? (i := 0) (by decide +kernel))) rfl, by decide +kernel⟩
theorem st_L_isHeld : Cond.static yL_isHeld ∈ m_ws := m_ws_in (List.mem_append_right _ (List.mem_of_getElem? (i := 15) (by decide +kernel))) rfl
theorem ll_L_9 : Cond.methodLink RL 9 yL_turn ∈ m_ws := m_ws_in (List.mem_append_right _ (List.mem_of_getElem? (i := 378) (by decide +kernel))) rfl
theorem lk_L_9 : m_LK RL 9 M_L_turn := Or.inl ll_L_9
theorem ll_L_15 : Cond.methodLink RL 15 yL_net ∈ m_ws := m_ws_in (List.mem_append_right _ (List.mem_of_getElem? (i := 402) (by decide +kernel))) rfl
theorem lk_L_15 : m_LK RL 15 M_L_net := Or.inl ll_L_15
theorem ll_L_19 : Cond.methodLink RL 19 yL_book ∈ m_ws := m_ws_in (List.mem_append_right _ (List.mem_of_getElem? (i := 399) (by decide +kernel))) rfl
theorem lk_L_19 : m_LK RL 19 M_L_book := Or.inl ll_L_19
theorem ll_L_23 : Cond.methodLink RL 23 yL_next ∈ m_ws := m_ws_in (List.mem_append_right _ (List.mem_of_getElem? (i := 405) (by decide +kernel))) rfl
theorem lk_L_23 : m_LK RL 23 M_L_next := Or.inl ll_L_23
theorem ll_L_26 : Cond.methodLink RL 26 yL_stop ∈ m_ws := m_ws_in (List.mem_append_right _ (List.mem_of_getElem? (i := 375) (by decide +kernel))) rfl
theorem lk_L_26 : m_LK RL 26 M_L_stop := Or.inl ll_L_26
theorem ll_L_29 : Cond.methodLink RL 29 yL_end ∈ m_ws := m_ws_in (List.mem_append_right _ (List.mem_of_getElem? (i := 396) (by decide +kernel))) rfl
theorem lk_L_29 : m_LK RL 29 M_L_end := Or.inl ll_L_29
theorem ll_L_33 : Cond.methodLink RL 33 yL_isSettled ∈ m_ws := m_ws_in (List.mem_append_right _ (List.mem_of_getElem? (i := 475) (by decide +kernel))) rfl
theorem lk_L_33 : m_LK RL 33 M_L_isSettled := Or.inl ll_L_33
theorem ll_L_37 : Cond.methodLink RL 37 yL_weigh ∈ m_ws := m_ws_in (List.mem_append_right _ (List.mem_of_getElem? (i := 515) (by decide +kernel))) rfl
theorem lk_L_37 : m_LK RL 37 M_L_weigh := Or.inl ll_L_37
theorem ll_L_40 : Cond.methodLink RL 40 yX5_gross ∈ m_ws := m_ws_in (List.mem_append_right _ (List.mem_of_getElem? (i := 580) (by decide +kernel))) rfl
theorem lk_L_40 : m_LK RL 40 M_X5_gross := Or.inl ll_L_40
theorem ll_L_46 : Cond.methodLink RL 46 yX5_net ∈ m_ws := m_ws_in (List.mem_append_right _ (List.mem_of_getElem? (i := 585) (by decide +kernel))) rfl
theorem lk_L_46 : m_LK RL 46 M_X5_net := Or.inl ll_L_46
theorem ll_L_48 : Cond.methodLink RL 48 yX5_isSettled ∈ m_ws := m_ws_in (List.mem_append_right _ (List.mem_of_getElem? (i := 590) (by decide +kernel))) rfl
theorem lk_L_48 : m_LK RL 48 M_X5_isSettled := Or.inl ll_L_48
theorem ll_L_51 : Cond.methodLink RL 51 yX5_state ∈ m_ws := m_ws_in (List.mem_append_right _ (List.mem_of_getElem? (i := 594) (by decide +kernel))) rfl
theorem lk_L_51 : m_LK RL 51 M_X5_state := Or.inl ll_L_51
theorem ll_L_54 : Cond.methodLink RL 54 yX5_alarm ∈ m_ws := m_ws_in (List.mem_append_right _ (List.mem_of_getElem? (i := 598) (by decide +kernel))) rfl
theorem lk_L_54 : m_LK RL 54 M_X5_alarm := Or.inl ll_L_54
theorem ll_L_57 : Cond.methodLink RL 57 yX5_step ∈ m_ws := m_ws_in (List.mem_append_right _ (List.mem_of_getElem? (i := 602) (by decide +kernel))) rfl
theorem lk_L_57 : m_LK RL 57 M_X5_step := Or.inl ll_L_57
theorem ll_L_60 : Cond.methodLink RL 60 yX5_jogs ∈ m_ws := m_ws_in (List.mem_append_right _ (List.mem_of_getElem? (i := 606) (by decide +kernel))) rfl
theorem lk_L_60 : m_LK RL 60 M_X5_jogs := Or.inl ll_L_60
theorem ll_L_63 : Cond.methodLink RL 63 yX5_batches ∈ m_ws := m_ws_in (List.mem_append_right _ (List.mem_of_getElem? (i := 610) (by decide +kernel))) rfl
theorem lk_L_63 : m_LK RL 63 M_X5_batches := Or.inl ll_L_63
theorem ll_L_66 : Cond.methodLink RL 66 yX5_done ∈ m_ws := m_ws_in (List.mem_append_right _ (List.mem_of_getElem? (i := 614) (by decide +kernel))) rfl
theorem lk_L_66 : m_LK RL 66 M_X5_done := Or.inl ll_L_66
theorem ll_L_69 : Cond.methodLink RL 69 yX5_gate ∈ m_ws := m_ws_in (List.mem_append_right _ (List.mem_of_getElem? (i := 618) (by decide +kernel))) rfl
theorem lk_L_69 : m_LK RL 69 M_X5_gate := Or.inl ll_L_69
theorem ll_L_73 : Cond.methodLink RL 73 yX5_flight ∈ m_ws := m_ws_in (List.mem_append_right _ (List.mem_of_getElem? (i := 626) (by decide +kernel))) rfl
theorem lk_L_73 : m_LK RL 73 M_X5_flight := Or.inl ll_L_73
theorem ll_L_76 : Cond.methodLink RL 76 yX5_register ∈ m_ws := m_ws_in (List.mem_append_right _ (List.mem_of_getElem? (i := 630) (by decide +kernel))) rfl
theorem lk_L_76 : m_LK RL 76 M_X5_register := Or.inl ll_L_76
theorem ll_L_79 : Cond.methodLink RL 79 yX5_registerByLots ∈ m_ws := m_ws_in (List.mem_append_right _ (List.mem_of_getElem? (i := 634) (by decide +kernel))) rfl
theorem lk_L_79 : m_LK RL 79 M_X5_registerByLots := Or.inl ll_L_79
theorem ll_L_82 : Cond.methodLink RL 82 yX5_stock ∈ m_ws := m_ws_in (List.mem_append_right _ (List.mem_of_getElem? (i := 642) (by decide +kernel))) rfl
theorem lk_L_82 : m_LK RL 82 M_X5_stock := Or.inl ll_L_82
theorem ll_L_85 : Cond.methodLink RL 85 yX5_leftOf ∈ m_ws := m_ws_in (List.mem_append_right _ (List.mem_of_getElem? (i := 650) (by decide +kernel))) rfl
theorem lk_L_85 : m_LK RL 85 M_X5_leftOf := Or.inl ll_L_85
theorem ll_L_88 : Cond.methodLink RL 88 yX5_firstBatch ∈ m_ws := m_ws_in (List.mem_append_right _ (List.mem_of_getElem? (i := 659) (by decide +kernel))) rfl
theorem lk_L_88 : m_LK RL 88 M_X5_firstBatch := Or.inl ll_L_88
theorem ll_L_91 : Cond.methodLink RL 91 yX5_used ∈ m_ws := m_ws_in (List.mem_append_right _ (List.mem_of_getElem? (i := 671) (by decide +kernel))) rfl
theorem lk_L_91 : m_LK RL 91 M_X5_used := Or.inl ll_L_91
theorem ll_L_95 : Cond.methodLink RL 95 yX5_resume ∈ m_ws := m_ws_in (List.mem_append_right _ (List.mem_of_getElem? (i := 411) (by decide +kernel))) rfl
theorem lk_L_95 : m_LK RL 95 M_X5_resume := Or.inl ll_L_95
theorem ll_L_100 : Cond.methodLink RL 100 yX5_hold ∈ m_ws := m_ws_in (List.mem_append_right _ (List.mem_of_getElem? (i := 384) (by decide +kernel))) rfl
theorem lk_L_100 : m_LK RL 100 M_X5_hold := Or.inl ll_L_100
theorem ll_L_103 : Cond.methodLink RL 103 yX5_abort ∈ m_ws := m_ws_in (List.mem_append_right _ (List.mem_of_getElem? (i := 467) (by decide +kernel))) rfl
theorem lk_L_103 : m_LK RL 103 M_X5_abort := Or.inl ll_L_103
theorem ll_L_106 : Cond.methodLink RL 106 yX5_start ∈ m_ws := m_ws_in (List.mem_append_right _ (List.mem_of_getElem? (i := 504) (by decide +kernel))) rfl
theorem lk_L_106 : m_LK RL 106 M_X5_start := Or.inl ll_L_106
theorem ll_L_109 : Cond.methodLink RL 109 yX5_zero ∈ m_ws := m_ws_in (List.mem_append_right _ (List.mem_of_getElem? (i := 481) (by decide +kernel))) rfl
theorem lk_L_109 : m_LK RL 109 M_X5_zero := Or.inl ll_L_109
theorem ll_L_112 : Cond.methodLink RL 112 yL_held ∈ m_ws := m_ws_in (List.mem_append_right _ (List.mem_of_getElem? (i := 381) (by decide +kernel))) rfl
theorem lk_L_112 : m_LK RL 112 M_L_held := Or.inl ll_L_112
theorem ll_L_116 : Cond.methodLink RL 116 yL_resumed ∈ m_ws := m_ws_in (List.mem_append_right _ (List.mem_of_getElem? (i := 408) (by decide +kernel))) rfl
theorem lk_L_116 : m_LK RL 116 M_L_resumed := Or.inl ll_L_116
theorem ll_L_119 : Cond.methodLink RL 119 yL_aborted ∈ m_ws := m_ws_in (List.mem_append_right _ (List.mem_of_getElem? (i := 464) (by decide +kernel))) rfl
theorem lk_L_119 : m_LK RL 119 M_L_aborted := Or.inl ll_L_119
theorem ll_L_122 : Cond.methodLink RL 122 yL_zeroed ∈ m_ws := m_ws_in (List.mem_append_right _ (List.mem_of_getElem? (i := 478) (by decide +kernel))) rfl
theorem lk_L_122 : m_LK RL 122 M_L_zeroed := Or.inl ll_L_122
theorem ll_L_125 : Cond.methodLink RL 125 yX5_setBand ∈ m_ws := m_ws_in (List.mem_append_right _ (List.mem_of_getElem? (i := 491) (by decide +kernel))) rfl
theorem lk_L_125 : m_LK RL 125 M_X5_setBand := Or.inl ll_L_125
theorem ll_L_128 : Cond.methodLink RL 128 yX5_setMargin ∈ m_ws := m_ws_in (List.mem_append_right _ (List.mem_of_getElem? (i := 495) (by decide +kernel))) rfl
theorem lk_L_128 : m_LK RL 128 M_X5_setMargin := Or.inl ll_L_128
theorem ll_L_131 : Cond.methodLink RL 131 yL_started ∈ m_ws := m_ws_in (List.mem_append_right _ (List.mem_of_getElem? (i := 501) (by decide +kernel))) rfl
theorem lk_L_131 : m_LK RL 131 M_L_started := Or.inl ll_L_131
theorem ll_L_134 : Cond.methodLink RL 134 yX5_init ∈ m_ws := m_ws_in (List.mem_append_right _ (List.mem_of_getElem? (i := 25) (by decide +kernel))) rfl
theorem lk_L_134 : m_LK RL 134 M_X5_init := Or.inl ll_L_134
theorem ll_L_135 : Cond.methodLink RL 135 yL_from ∈ m_ws := m_ws_in (List.mem_append_right _ (List.mem_of_getElem? (i := 227) (by decide +kernel))) rfl
theorem lk_L_135 : m_LK RL 135 M_L_from := Or.inl ll_L_135
theorem ll_L_140 : Cond.methodLink RL 140 yX5_fill ∈ m_ws := m_ws_in (List.mem_append_right _ (List.mem_of_getElem? (i := 233) (by decide +kernel))) rfl
theorem lk_L_140 : m_LK RL 140 M_X5_fill := Or.inl ll_L_140
theorem ll_L_143 : Cond.methodLink RL 143 yX5_addStep ∈ m_ws := m_ws_in (List.mem_append_right _ (List.mem_of_getElem? (i := 357) (by decide +kernel))) rfl
theorem lk_L_143 : m_LK RL 143 M_X5_addStep := Or.inl ll_L_143
theorem ll_L_147 : Cond.methodLink RL 147 yX5_belt ∈ m_ws := m_ws_in (List.mem_append_right _ (List.mem_of_getElem? (i := 366) (by decide +kernel))) rfl
theorem lk_L_147 : m_LK RL 147 M_X5_belt := Or.inl ll_L_147
theorem ll_L_153 : Cond.methodLink RL 153 yL_acts ∈ m_ws := m_ws_in (List.mem_append_right _ (List.mem_of_getElem? (i := 372) (by decide +kernel))) rfl
theorem lk_L_153 : m_LK RL 153 M_L_acts := Or.inl ll_L_153
theorem ll_L_157 : Cond.methodLink RL 157 yL_bring ∈ m_ws := m_ws_in (List.mem_append_right _ (List.mem_of_getElem? (i := 512) (by decide +kernel))) rfl
theorem lk_L_157 : m_LK RL 157 M_L_bring := Or.inl ll_L_157
theorem ll_L_161 : Cond.methodLink RL 161 yX5_tick ∈ m_ws := m_ws_in (List.mem_append_right _ (List.mem_of_getElem? (i := 518) (by decide +kernel))) rfl
theorem lk_L_161 : m_LK RL 161 M_X5_tick := Or.inl ll_L_161
theorem ll_L_164 : Cond.methodLink RL 164 yX5_ticks ∈ m_ws := m_ws_in (List.mem_append_right _ (List.mem_of_getElem? (i := 573) (by decide +kernel))) rfl
theorem lk_L_164 : m_LK RL 164 M_X5_ticks := Or.inl ll_L_164
theorem ll_L_167 : Cond.methodLink RL 167 yL_isTold ∈ m_ws := m_ws_in (List.mem_append_right _ (List.mem_of_getElem? (i := 577) (by decide +kernel))) rfl
theorem lk_L_167 : m_LK RL 167 M_L_isTold := Or.inl ll_L_167
theorem ll_L_171 : Cond.methodLink RL 171 yL_holds ∈ m_ws := m_ws_in (List.mem_append_right _ (List.mem_of_getElem? (i := 20) (by decide +kernel))) rfl
theorem lk_L_171 : m_LK RL 171 M_L_holds := Or.inl ll_L_171
theorem ll_L_178 : Cond.methodLink RL 178 yL_isHeld ∈ m_ws := m_ws_in (List.mem_append_right _ (List.mem_of_getElem? (i := 14) (by decide +kernel))) rfl
theorem lk_L_178 : m_LK RL 178 M_L_isHeld := Or.inl ll_L_178
theorem cs_L_7 : Cond.constant RL 7 (107377) ∈ m_ws := m_ws_in (List.mem_append_right _ (List.mem_of_getElem? (i := 230) (by decide +kernel))) rfl
theorem cs_L_8 : Cond.constant RL 8 (2147483647) ∈ m_ws := m_ws_in (List.mem_append_right _ (List.mem_of_getElem? (i := 231) (by decide +kernel))) rfl
theorem cs_L_139 : Cond.constant RL 139 (100000) ∈ m_ws := m_ws_in (List.mem_append_right _ (List.mem_of_getElem? (i := 232) (by decide +kernel))) rfl
theorem cs_L_151 : Cond.constantLong RL 151 (1000) ∈ m_ws := m_ws_in (List.mem_append_right _ (List.mem_of_getElem? (i := 371) (by decide +kernel))) rfl
theorem nc_L_41 : Cond.classLink RL 41 RX5 ∈ m_ws := m_ws_in (List.mem_append_right _ (List.mem_of_getElem? (i := 23) (by decide +kernel))) rfl

section LA4
theorem sTrack_no {v : m_V} (h : ¬ (¬ bi (calm v) = 0 ∧ ¬ gross v = 0 ∧ ¬ 11 ≤ gross v ∧ ¬ gross v ≤ -11 ∧ ¬ 501 ≤ sMoved v ∧ ¬ sMoved v ≤ -501)) : sTrack v = v := by
  unfold sTrack
  by_cases c1 : gross v = 0
  · rw [if_pos c1]
  · rw [if_neg c1]
    by_cases c2 : bi (-10 ≤ gross v ∧ gross v ≤ 10) = 0
    · rw [if_pos c2]
    · rw [if_neg c2]
      by_cases c3 : ¬ bi (calm v) = 0
      · rw [if_pos c3]
        by_cases c4 : bi (-500 ≤ sMoved v ∧ sMoved v ≤ 500) = 0
        · rw [if_pos c4]
        · refine absurd ⟨c3, c1, ?_, ?_, ?_, ?_⟩ h
          · rw [bi_0] at c2
            have := (Classical.not_not.mp c2).2
            rw [i_le] at this ⊢
            have e1 : (10 : Int32).toInt = 10 := rfl
            have e2 : (11 : Int32).toInt = 11 := rfl
            omega
          · rw [bi_0] at c2
            have := (Classical.not_not.mp c2).1
            rw [i_le] at this ⊢
            have e1 : (-10 : Int32).toInt = -10 := rfl
            have e2 : (-11 : Int32).toInt = -11 := rfl
            omega
          · rw [bi_0] at c4
            have := (Classical.not_not.mp c4).2
            rw [i_le] at this ⊢
            have e1 : (500 : Int32).toInt = 500 := rfl
            have e2 : (501 : Int32).toInt = 501 := rfl
            omega
          · rw [bi_0] at c4
            have := (Classical.not_not.mp c4).1
            rw [i_le] at this ⊢
            have e1 : (-500 : Int32).toInt = -500 := rfl
            have e2 : (-501 : Int32).toInt = -501 := rfl
            omega
      · rw [if_neg c3]
theorem sTrack_yes {v : m_V} (h1 : ¬ bi (calm v) = 0) (h2 : ¬ gross v = 0) (h3 : ¬ 11 ≤ gross v) (h4 : ¬ gross v ≤ -11) (h5 : ¬ 501 ≤ sMoved v) (h6 : ¬ sMoved v ≤ -501) : sTrack v = upd v 0 (sMoved v) := by
  unfold sTrack
  rw [i_le] at h3 h4 h5 h6
  have e1 : (10 : Int32).toInt = 10 := rfl
  have e2 : (11 : Int32).toInt = 11 := rfl
  have e3 : (-10 : Int32).toInt = -10 := rfl
  have e4 : (-11 : Int32).toInt = -11 := rfl
  have e5 : (500 : Int32).toInt = 500 := rfl
  have e6 : (501 : Int32).toInt = 501 := rfl
  have e7 : (-500 : Int32).toInt = -500 := rfl
  have e8 : (-501 : Int32).toInt = -501 := rfl
  rw [if_neg h2, if_neg (by rw [bi_0]; refine not_not_intro ⟨?_, ?_⟩ <;> rw [i_le] <;> omega), if_pos h1, if_neg (by rw [bi_0]; refine not_not_intro ⟨?_, ?_⟩ <;> rw [i_le] <;> omega)]
theorem J_count {n L B : Nat} {v : m_V} {a : m_R} {r : Int32} (hn : n < 2 ^ 30) (hr : -1000 ≤ r ∧ r ≤ 100000) (h : J n L B v a) : Inv0 (n + 1) L B (sCount v r) (sRing v a r) ∧ iX (sCount v r) (sRing v a r) ∧ iJ (sCount v r) := by
  obtain ⟨⟨⟨hA, hR, ⟨n1, n2, n3, n4⟩, hB⟩, hT⟩, hX, hG, h8, hJ⟩ := h
  have r1 := rd_of hr
  exact ⟨⟨hA, iR_take r hn hR, ⟨⟨r1.1, r1.2⟩, n2, n3, n4⟩, hB⟩, ⟨⟨r1, hX.1.1, hX.1.2.1, hX.1.2.2.1⟩, hX.2.1, hX.2.2.1, hX.2.2.2⟩, hJ⟩
theorem g_bring0 {D : va_G} {cI cL : ClassId} {sa : Nat → Nat} {A : Nat → Prop} {p : Program} {l : Launch} {e : Env} {s : State} {m : MethodId} {args : Array Value} {below : List Frame} {meth : Method} {c : Code} {ad : Nat → Nat} (X : m_At D cI cL sa (m_My M_L_bring) (m_Mb M_L_bring) (m_Ml M_L_bring) (m_Mr M_L_bring) A [] p l s m args meth c) {h0 : m_H} {v0 v : m_V} {a0 a : m_R} {x0 : Int64} {fm fb fr fl fu fv : Nat → Int32} {n B L : Nat} (hn : n < 2 ^ 30) (h : Inv0 n L B v a) (hX : iX v a) (hJ : iJ v) (hL8 : L ≤ 8) (hM : PM n v fm) (hA : PA B a fb fr fl fu fv) (hs : v 10 = 0) : m_Go D cI cL ad (h0).length (m_Ml M_L_bring) A p l e (m_rm M_L_bring) s m args below meth c (m_VP D cI cL ad (h0).length A (oW v0 a0 x0 none n B (sGoV v a) (sGoA v a)) below args s (m_Mc M_L_bring) (m_Ms M_L_bring)) 36 [(8, .int 0), (0, .ref 17), (1, .ref 18), (2, .ref 19), (3, .ref 20), (4, .ref 21), (5, .ref 22), (6, .int (nI L)), (7, .int (v 4))] [] (hW v0 a0 x0 fm fb fr fl fu fv) 0 0 := by
  have hA' := hA
  obtain ⟨hPB, hR, hPL, hPU⟩ := hA'
  obtain ⟨st, bn, hst, hbn, e15, ebn, es, eg, et, ec, esc⟩ := b_st h
  have k131 : sTrack v = v → m_Go D cI cL ad (h0).length (m_Ml M_L_bring) A p l e (m_rm M_L_bring) s m args below meth c (m_VP D cI cL ad (h0).length A (oW v0 a0 x0 none n B (sGoV v a) (sGoA v a)) below args s (m_Mc M_L_bring) (m_Ms M_L_bring)) 131 [(11, .int (sMoved v)), (10, .int (v 13)), (9, .int (gross v)), (8, .int 0), (0, .ref 17), (1, .ref 18), (2, .ref 19), (3, .ref 20), (4, .ref 21), (5, .ref 22), (6, .int (nI L)), (7, .int (v 4))] [] (hW v0 a0 x0 fm fb fr fl fu fv) 0 0 := by
    intro eTr
    refine m_iconst (v := 0) X dL_bring_131 (by decide) rfl ?_
    refine m_ist (l1 := [(12, .int 0), (11, .int (sMoved v)), (10, .int (v 13)), (9, .int (gross v)), (8, .int 0), (0, .ref 17), (1, .ref 18), (2, .ref 19), (3, .ref 20), (4, .ref 21), (5, .ref 22), (6, .int (nI L)), (7, .int (v 4))]) X dL_bring_132 (Nat.le_of_ble_eq_true rfl) rfl rfl ?_
    refine m_aload_n X dL_bring_134 rfl rfl ?_
    refine m_iconst (v := 5) X dL_bring_135 (by decide) rfl ?_
    refine m_iload X dL_bring_136 rfl rfl ?_
    refine m_if_eq (tgt := 146) X dL_bring_138 (by decide) rfl (fun b138 => ?_) (fun b138 => absurd b138 (by decide))
    refine m_aload_n X dL_bring_146 rfl rfl ?_
    refine m_iconst (v := 5) X dL_bring_147 (by decide) rfl ?_
    refine m_ald (k := 5) (x := v 0) X dL_bring_148 hW_g0 (vp_in_nI (n := 5) (by decide) (by decide)) (rfl) (pm5 hM) rfl ?_
    refine m_ast (k := 5) (h1 := (hW v0 a0 x0 (upd fm 5 (v 0)) fb fr fl fu fv)) X dL_bring_149 hW_g0 (vp_in_nI (n := 5) (by decide) (by decide)) (rfl) rfl rfl ?_
    have eV : sGoV v a = sTrack v := by unfold sGoV; rw [if_pos hs]
    rw [eTr] at eV
    have eA : sGoA v a = a := by unfold sGoA; rw [if_neg (show ¬ v 10 = 4 by rw [hs]; decide)]
    refine m_toP (v := none) (hf := (hW v0 a0 x0 (upd fm 5 (v 0)) fb fr fl fu fv)) ⟨rfl, _, fb, fr, fl, fu, fv, rfl, ?_, ?_⟩ (m_vret X dL_bring_150 rfl rfl (Nat.le_of_ble_eq_true rfl) (Nat.le_of_ble_eq_true rfl) rfl)
    · rw [eV]; exact PM_same rfl hM
    · rw [eA]; exact hA
  have k83 : m_Go D cI cL ad (h0).length (m_Ml M_L_bring) A p l e (m_rm M_L_bring) s m args below meth c (m_VP D cI cL ad (h0).length A (oW v0 a0 x0 none n B (sGoV v a) (sGoA v a)) below args s (m_Mc M_L_bring) (m_Ms M_L_bring)) 83 [(10, .int (v 13)), (9, .int (gross v)), (8, .int 0), (0, .ref 17), (1, .ref 18), (2, .ref 19), (3, .ref 20), (4, .ref 21), (5, .ref 22), (6, .int (nI L)), (7, .int (v 4))] [.int (sMoved v)] (hW v0 a0 x0 fm fb fr fl fu fv) 0 0 := by
    refine m_ist (l1 := [(11, .int (sMoved v)), (10, .int (v 13)), (9, .int (gross v)), (8, .int 0), (0, .ref 17), (1, .ref 18), (2, .ref 19), (3, .ref 20), (4, .ref 21), (5, .ref 22), (6, .int (nI L)), (7, .int (v 4))]) X dL_bring_83 (Nat.le_of_ble_eq_true rfl) rfl rfl ?_
    refine m_aload_n X dL_bring_85 rfl rfl ?_
    refine m_cS1 X dL_bring_86 lk_L_33 mk_L_isSettled st_L_isSettled (c_L_isSettled hn hM h.2.1.2.1 hX.1.1 hX.1.2.1 hX.1.2.2.1 hX.1.2.2.2) rfl (Nat.le_of_ble_eq_true rfl) (Nat.le_of_ble_eq_true rfl) (Nat.le_of_ble_eq_true rfl) (Nat.le_of_ble_eq_true rfl) (Nat.le_of_ble_eq_true rfl) rfl ?_
    refine m_if_eq (tgt := 131) X dL_bring_89 (by decide) rfl (fun b89 => ?_) (fun b89 => ?_)
    · replace b89 : bi (calm v) = 0 := b89
      exact k131 (sTrack_no (fun q => q.1 b89))
    · replace b89 : ¬ bi (calm v) = 0 := b89
      refine m_iload X dL_bring_92 rfl rfl ?_
      refine m_if_eq (tgt := 131) X dL_bring_94 (by decide) rfl (fun b94 => ?_) (fun b94 => ?_)
      · replace b94 : gross v = 0 := b94
        exact k131 (sTrack_no (fun q => q.2.1 b94))
      · replace b94 : ¬ gross v = 0 := b94
        refine m_iload X dL_bring_97 rfl rfl ?_
        refine m_bipush (v := 11) X dL_bring_99 (by decide) rfl ?_
        refine m_icmp_ge (tgt := 131) X dL_bring_101 (by decide) rfl (fun b101 => ?_) (fun b101 => ?_)
        · replace b101 : 11 ≤ gross v := b101
          exact k131 (sTrack_no (fun q => q.2.2.1 b101))
        · replace b101 : ¬ 11 ≤ gross v := b101
          refine m_iload X dL_bring_104 rfl rfl ?_
          refine m_bipush (v := (-11)) X dL_bring_106 (by decide) rfl ?_
          refine m_icmp_le (tgt := 131) X dL_bring_108 (by decide) rfl (fun b108 => ?_) (fun b108 => ?_)
          · replace b108 : gross v ≤ -11 := b108
            exact k131 (sTrack_no (fun q => q.2.2.2.1 b108))
          · replace b108 : ¬ gross v ≤ -11 := b108
            refine m_iload X dL_bring_111 rfl rfl ?_
            refine m_sipush (v := 501) X dL_bring_113 (by decide) rfl ?_
            refine m_icmp_ge (tgt := 131) X dL_bring_116 (by decide) rfl (fun b116 => ?_) (fun b116 => ?_)
            · replace b116 : 501 ≤ sMoved v := b116
              exact k131 (sTrack_no (fun q => q.2.2.2.2.1 b116))
            · replace b116 : ¬ 501 ≤ sMoved v := b116
              refine m_iload X dL_bring_119 rfl rfl ?_
              refine m_sipush (v := (-501)) X dL_bring_121 (by decide) rfl ?_
              refine m_icmp_le (tgt := 131) X dL_bring_124 (by decide) rfl (fun b124 => ?_) (fun b124 => ?_)
              · replace b124 : sMoved v ≤ -501 := b124
                exact k131 (sTrack_no (fun q => q.2.2.2.2.2 b124))
              · replace b124 : ¬ sMoved v ≤ -501 := b124
                refine m_iconst (v := 1) X dL_bring_127 (by decide) rfl ?_
                refine m_goto (tgt := 132) X dL_bring_128 (by decide) rfl ?_
                refine m_ist (l1 := [(12, .int 1), (11, .int (sMoved v)), (10, .int (v 13)), (9, .int (gross v)), (8, .int 0), (0, .ref 17), (1, .ref 18), (2, .ref 19), (3, .ref 20), (4, .ref 21), (5, .ref 22), (6, .int (nI L)), (7, .int (v 4))]) X dL_bring_132 (Nat.le_of_ble_eq_true rfl) rfl rfl ?_
                refine m_aload_n X dL_bring_134 rfl rfl ?_
                refine m_iconst (v := 5) X dL_bring_135 (by decide) rfl ?_
                refine m_iload X dL_bring_136 rfl rfl ?_
                refine m_if_eq (tgt := 146) X dL_bring_138 (by decide) rfl (fun b138 => absurd b138 (by decide)) (fun b138 => ?_)
                refine m_iload X dL_bring_141 rfl rfl ?_
                refine m_goto (tgt := 149) X dL_bring_143 (by decide) rfl ?_
                refine m_ast (k := 5) (h1 := (hW v0 a0 x0 (upd fm 5 (sMoved v)) fb fr fl fu fv)) X dL_bring_149 hW_g0 (vp_in_nI (n := 5) (by decide) (by decide)) (rfl) rfl rfl ?_
                have eV : sGoV v a = sTrack v := by unfold sGoV; rw [if_pos hs]
                rw [sTrack_yes b89 b94 b101 b108 b116 b124] at eV
                have eA : sGoA v a = a := by unfold sGoA; rw [if_neg (show ¬ v 10 = 4 by rw [hs]; decide)]
                refine m_toP (v := none) (hf := (hW v0 a0 x0 (upd fm 5 (sMoved v)) fb fr fl fu fv)) ⟨rfl, _, fb, fr, fl, fu, fv, rfl, ?_, ?_⟩ (m_vret X dL_bring_150 rfl rfl (Nat.le_of_ble_eq_true rfl) (Nat.le_of_ble_eq_true rfl) rfl)
                · rw [eV]; exact PM_zero (sMoved v) hM
                · rw [eA]; exact hA
  refine m_aload_n X dL_bring_36 rfl rfl ?_
  refine m_bipush (v := 8) X dL_bring_37 (by decide) rfl ?_
  refine m_ald (k := 8) (x := 0) X dL_bring_39 hW_g0 (vp_in_nI (n := 8) (by decide) (by decide)) (rfl) ((pm8 hM).trans hs) rfl ?_
  refine m_ist (l1 := [(8, .int 0), (0, .ref 17), (1, .ref 18), (2, .ref 19), (3, .ref 20), (4, .ref 21), (5, .ref 22), (6, .int (nI L)), (7, .int (v 4))]) X dL_bring_40 (Nat.le_of_ble_eq_true rfl) rfl rfl ?_
  refine m_iload X dL_bring_42 rfl rfl ?_
  refine m_aload_n X dL_bring_44 rfl rfl ?_
  refine m_iconst (v := 5) X dL_bring_45 (by decide) rfl ?_
  refine m_ald (k := 5) (x := v 0) X dL_bring_46 hW_g0 (vp_in_nI (n := 5) (by decide) (by decide)) (rfl) (pm5 hM) rfl ?_
  refine m_isub X dL_bring_47 rfl ?_
  refine m_top (x1 := gross v) (rfl) ?_
  refine m_ist (l1 := [(9, .int (gross v)), (8, .int 0), (0, .ref 17), (1, .ref 18), (2, .ref 19), (3, .ref 20), (4, .ref 21), (5, .ref 22), (6, .int (nI L)), (7, .int (v 4))]) X dL_bring_48 (Nat.le_of_ble_eq_true rfl) rfl rfl ?_
  refine m_aload_n X dL_bring_50 rfl rfl ?_
  refine m_iconst (v := 4) X dL_bring_51 (by decide) rfl ?_
  refine m_ald (k := 4) (x := nI n) X dL_bring_52 hW_g0 (vp_in_nI (n := 4) (by decide) (by decide)) (rfl) (pm4 hM) rfl ?_
  refine m_aload_n X dL_bring_53 rfl rfl ?_
  refine m_bipush (v := 12) X dL_bring_54 (by decide) rfl ?_
  refine m_ald (k := 12) (x := fm 12) X dL_bring_56 hW_g0 (vp_in_nI (n := 12) (by decide) (by decide)) (rfl) (rfl) rfl ?_
  refine m_isub X dL_bring_57 rfl ?_
  refine m_top (x1 := v 13) (by rw [← pm4 hM]; exact pm12 hM) ?_
  refine m_ist (l1 := [(10, .int (v 13)), (9, .int (gross v)), (8, .int 0), (0, .ref 17), (1, .ref 18), (2, .ref 19), (3, .ref 20), (4, .ref 21), (5, .ref 22), (6, .int (nI L)), (7, .int (v 4))]) X dL_bring_58 (Nat.le_of_ble_eq_true rfl) rfl rfl ?_
  refine m_iload X dL_bring_60 rfl rfl ?_
  refine m_if_ne (tgt := 151) X dL_bring_62 (by decide) rfl (fun b62 => absurd b62 (by decide)) (fun b62 => ?_)
  refine m_iload X dL_bring_65 rfl rfl ?_
  refine m_if_le (tgt := 78) X dL_bring_67 (by decide) rfl (fun b67 => ?_) (fun b67 => ?_)
  · replace b67 : gross v ≤ 0 := b67
    refine m_aload_n X dL_bring_78 rfl rfl ?_
    refine m_iconst (v := 5) X dL_bring_79 (by decide) rfl ?_
    refine m_ald (k := 5) (x := v 0) X dL_bring_80 hW_g0 (vp_in_nI (n := 5) (by decide) (by decide)) (rfl) (pm5 hM) rfl ?_
    refine m_iconst (v := 1) X dL_bring_81 (by decide) rfl ?_
    refine m_isub X dL_bring_82 rfl ?_
    refine m_top (x1 := sMoved v) (by unfold sMoved; rw [if_pos b67]; exact i_subneg _ _) ?_
    exact k83
  · replace b67 : ¬ gross v ≤ 0 := b67
    refine m_aload_n X dL_bring_70 rfl rfl ?_
    refine m_iconst (v := 5) X dL_bring_71 (by decide) rfl ?_
    refine m_ald (k := 5) (x := v 0) X dL_bring_72 hW_g0 (vp_in_nI (n := 5) (by decide) (by decide)) (rfl) (pm5 hM) rfl ?_
    refine m_iconst (v := 1) X dL_bring_73 (by decide) rfl ?_
    refine m_iadd X dL_bring_74 rfl ?_
    refine m_goto (tgt := 83) X dL_bring_75 (by decide) rfl ?_
    refine m_top (x1 := sMoved v) (by unfold sMoved; rw [if_neg b67]) ?_
    exact k83
theorem g_bring1 {D : va_G} {cI cL : ClassId} {sa : Nat → Nat} {A : Nat → Prop} {p : Program} {l : Launch} {e : Env} {s : State} {m : MethodId} {args : Array Value} {below : List Frame} {meth : Method} {c : Code} {ad : Nat → Nat} (X : m_At D cI cL sa (m_My M_L_bring) (m_Mb M_L_bring) (m_Ml M_L_bring) (m_Mr M_L_bring) A [] p l s m args meth c) {h0 : m_H} {v0 v : m_V} {a0 a : m_R} {x0 : Int64} {fm fb fr fl fu fv : Nat → Int32} {n B L : Nat} (hn : n < 2 ^ 30) (h : Inv0 n L B v a) (hX : iX v a) (hJ : iJ v) (hL8 : L ≤ 8) (hM : PM n v fm) (hA : PA B a fb fr fl fu fv) (hs : v 10 = 1) : m_Go D cI cL ad (h0).length (m_Ml M_L_bring) A p l e (m_rm M_L_bring) s m args below meth c (m_VP D cI cL ad (h0).length A (oW v0 a0 x0 none n B (sGoV v a) (sGoA v a)) below args s (m_Mc M_L_bring) (m_Ms M_L_bring)) 36 [(8, .int 0), (0, .ref 17), (1, .ref 18), (2, .ref 19), (3, .ref 20), (4, .ref 21), (5, .ref 22), (6, .int (nI L)), (7, .int (v 4))] [] (hW v0 a0 x0 fm fb fr fl fu fv) 0 0 := by
  have hA' := hA
  obtain ⟨hPB, hR, hPL, hPU⟩ := hA'
  obtain ⟨st, bn, hst, hbn, e15, ebn, es, eg, et, ec, esc⟩ := b_st h
  refine m_aload_n X dL_bring_36 rfl rfl ?_
  refine m_bipush (v := 8) X dL_bring_37 (by decide) rfl ?_
  refine m_ald (k := 8) (x := 1) X dL_bring_39 hW_g0 (vp_in_nI (n := 8) (by decide) (by decide)) (rfl) ((pm8 hM).trans hs) rfl ?_
  refine m_ist (l1 := [(8, .int 1), (0, .ref 17), (1, .ref 18), (2, .ref 19), (3, .ref 20), (4, .ref 21), (5, .ref 22), (6, .int (nI L)), (7, .int (v 4))]) X dL_bring_40 (Nat.le_of_ble_eq_true rfl) rfl rfl ?_
  refine m_iload X dL_bring_42 rfl rfl ?_
  refine m_aload_n X dL_bring_44 rfl rfl ?_
  refine m_iconst (v := 5) X dL_bring_45 (by decide) rfl ?_
  refine m_ald (k := 5) (x := v 0) X dL_bring_46 hW_g0 (vp_in_nI (n := 5) (by decide) (by decide)) (rfl) (pm5 hM) rfl ?_
  refine m_isub X dL_bring_47 rfl ?_
  refine m_top (x1 := gross v) (rfl) ?_
  refine m_ist (l1 := [(9, .int (gross v)), (8, .int 1), (0, .ref 17), (1, .ref 18), (2, .ref 19), (3, .ref 20), (4, .ref 21), (5, .ref 22), (6, .int (nI L)), (7, .int (v 4))]) X dL_bring_48 (Nat.le_of_ble_eq_true rfl) rfl rfl ?_
  refine m_aload_n X dL_bring_50 rfl rfl ?_
  refine m_iconst (v := 4) X dL_bring_51 (by decide) rfl ?_
  refine m_ald (k := 4) (x := nI n) X dL_bring_52 hW_g0 (vp_in_nI (n := 4) (by decide) (by decide)) (rfl) (pm4 hM) rfl ?_
  refine m_aload_n X dL_bring_53 rfl rfl ?_
  refine m_bipush (v := 12) X dL_bring_54 (by decide) rfl ?_
  refine m_ald (k := 12) (x := fm 12) X dL_bring_56 hW_g0 (vp_in_nI (n := 12) (by decide) (by decide)) (rfl) (rfl) rfl ?_
  refine m_isub X dL_bring_57 rfl ?_
  refine m_top (x1 := v 13) (by rw [← pm4 hM]; exact pm12 hM) ?_
  refine m_ist (l1 := [(10, .int (v 13)), (9, .int (gross v)), (8, .int 1), (0, .ref 17), (1, .ref 18), (2, .ref 19), (3, .ref 20), (4, .ref 21), (5, .ref 22), (6, .int (nI L)), (7, .int (v 4))]) X dL_bring_58 (Nat.le_of_ble_eq_true rfl) rfl rfl ?_
  refine m_iload X dL_bring_60 rfl rfl ?_
  refine m_if_ne (tgt := 151) X dL_bring_62 (by decide) rfl (fun b62 => ?_) (fun b62 => absurd b62 (by decide))
  refine m_iload X dL_bring_151 rfl rfl ?_
  refine m_bipush (v := 6) X dL_bring_153 (by decide) rfl ?_
  refine m_icmp_ne (tgt := 162) X dL_bring_155 (by decide) rfl (fun b155 => ?_) (fun b155 => absurd b155 (by decide))
  refine m_iconst (v := 4) X dL_bring_162 (by decide) rfl ?_
  refine m_aload_n X dL_bring_163 rfl rfl ?_
  refine m_iconst (v := 3) X dL_bring_164 (by decide) rfl ?_
  refine m_aload_n X dL_bring_165 rfl rfl ?_
  refine m_bipush (v := 11) X dL_bring_166 (by decide) rfl ?_
  refine m_ald (k := 11) (x := v 15) X dL_bring_168 hW_g0 (vp_in_nI (n := 11) (by decide) (by decide)) (rfl) (pm11 hM) rfl ?_
  refine m_imul X dL_bring_169 rfl ?_
  refine m_top (x1 := nI (3 * st)) (by rw [e15]; exact nI_mul 3 st) ?_
  refine m_ald (k := (3 * st)) (x := nI bn) X dL_bring_170 hW_g2 (vp_in_nI (by omega) (by decide)) (nI_clamp (by omega)) ((hR st hst).1.trans ebn) rfl ?_
  refine m_imul X dL_bring_171 rfl ?_
  refine m_top (x1 := nI (4 * bn)) (nI_mul 4 bn) ?_
  refine m_ist (l1 := [(11, .int (nI (4 * bn))), (10, .int (v 13)), (9, .int (gross v)), (8, .int 1), (0, .ref 17), (1, .ref 18), (2, .ref 19), (3, .ref 20), (4, .ref 21), (5, .ref 22), (6, .int (nI L)), (7, .int (v 4))]) X dL_bring_172 (Nat.le_of_ble_eq_true rfl) rfl rfl ?_
  refine m_iload X dL_bring_174 rfl rfl ?_
  refine m_bipush (v := 6) X dL_bring_176 (by decide) rfl ?_
  refine m_icmp_ne (tgt := 185) X dL_bring_178 (by decide) rfl (fun b178 => ?_) (fun b178 => absurd b178 (by decide))
  refine m_aload_n X dL_bring_185 rfl rfl ?_
  refine m_iconst (v := 3) X dL_bring_186 (by decide) rfl ?_
  refine m_aload_n X dL_bring_187 rfl rfl ?_
  refine m_bipush (v := 11) X dL_bring_188 (by decide) rfl ?_
  refine m_ald (k := 11) (x := v 15) X dL_bring_190 hW_g0 (vp_in_nI (n := 11) (by decide) (by decide)) (rfl) (pm11 hM) rfl ?_
  refine m_imul X dL_bring_191 rfl ?_
  refine m_top (x1 := nI (3 * st)) (by rw [e15]; exact nI_mul 3 st) ?_
  refine m_iconst (v := 1) X dL_bring_192 (by decide) rfl ?_
  refine m_iadd X dL_bring_193 rfl ?_
  refine m_top (x1 := nI (3 * st + 1)) (nI_add (3 * st) 1) ?_
  refine m_ald (k := (3 * st + 1)) (x := stgt v a) X dL_bring_194 hW_g2 (vp_in_nI (by omega) (by decide)) (nI_clamp (by omega)) ((hR st hst).2.1.trans eg.symm) rfl ?_
  refine m_ist (l1 := [(12, .int (stgt v a)), (11, .int (nI (4 * bn))), (10, .int (v 13)), (9, .int (gross v)), (8, .int 1), (0, .ref 17), (1, .ref 18), (2, .ref 19), (3, .ref 20), (4, .ref 21), (5, .ref 22), (6, .int (nI L)), (7, .int (v 4))]) X dL_bring_195 (Nat.le_of_ble_eq_true rfl) rfl rfl ?_
  refine m_aload_n X dL_bring_197 rfl rfl ?_
  refine m_cS1 X dL_bring_198 lk_L_15 mk_L_net st_L_net (c_L_net hM) rfl (Nat.le_of_ble_eq_true rfl) (Nat.le_of_ble_eq_true rfl) (Nat.le_of_ble_eq_true rfl) (Nat.le_of_ble_eq_true rfl) (Nat.le_of_ble_eq_true rfl) rfl ?_
  refine m_ist (l1 := [(13, .int (net v)), (12, .int (stgt v a)), (11, .int (nI (4 * bn))), (10, .int (v 13)), (9, .int (gross v)), (8, .int 1), (0, .ref 17), (1, .ref 18), (2, .ref 19), (3, .ref 20), (4, .ref 21), (5, .ref 22), (6, .int (nI L)), (7, .int (v 4))]) X dL_bring_201 (Nat.le_of_ble_eq_true rfl) rfl rfl ?_
  refine m_iload X dL_bring_203 rfl rfl ?_
  refine m_iconst (v := 1) X dL_bring_205 (by decide) rfl ?_
  refine m_icmp_ne (tgt := 245) X dL_bring_206 (by decide) rfl (fun b206 => absurd b206 (by decide)) (fun b206 => ?_)
  refine m_aload_n X dL_bring_209 rfl rfl ?_
  refine m_cS1 X dL_bring_210 lk_L_33 mk_L_isSettled st_L_isSettled (c_L_isSettled hn hM h.2.1.2.1 hX.1.1 hX.1.2.1 hX.1.2.2.1 hX.1.2.2.2) rfl (Nat.le_of_ble_eq_true rfl) (Nat.le_of_ble_eq_true rfl) (Nat.le_of_ble_eq_true rfl) (Nat.le_of_ble_eq_true rfl) (Nat.le_of_ble_eq_true rfl) rfl ?_
  refine m_if_eq (tgt := 245) X dL_bring_213 (by decide) rfl (fun b213 => ?_) (fun b213 => ?_)
  · replace b213 : bi (calm v) = 0 := b213
    refine m_iload X dL_bring_245 rfl rfl ?_
    refine m_iconst (v := 2) X dL_bring_247 (by decide) rfl ?_
    refine m_icmp_eq (tgt := 257) X dL_bring_248 (by decide) rfl (fun b248 => absurd b248 (by decide)) (fun b248 => ?_)
    refine m_iload X dL_bring_251 rfl rfl ?_
    refine m_iconst (v := 3) X dL_bring_253 (by decide) rfl ?_
    refine m_icmp_ne (tgt := 379) X dL_bring_254 (by decide) rfl (fun b254 => ?_) (fun b254 => absurd b254 (by decide))
    refine m_iload X dL_bring_379 rfl rfl ?_
    refine m_iconst (v := 4) X dL_bring_381 (by decide) rfl ?_
    refine m_icmp_ne (tgt := 411) X dL_bring_382 (by decide) rfl (fun b382 => ?_) (fun b382 => absurd b382 (by decide))
    refine m_iload X dL_bring_411 rfl rfl ?_
    refine m_iconst (v := 5) X dL_bring_413 (by decide) rfl ?_
    refine m_icmp_ne (tgt := 428) X dL_bring_414 (by decide) rfl (fun b414 => ?_) (fun b414 => absurd b414 (by decide))
    have eT : sTare v a = v := by unfold sTare; rw [if_pos b213]
    have eV : sGoV v a = sTare v a := by unfold sGoV; rw [if_neg (show ¬ v 10 = 0 by rw [hs]; decide), if_pos hs]
    rw [eT] at eV
    have eA : sGoA v a = a := by unfold sGoA; rw [if_neg (show ¬ v 10 = 4 by rw [hs]; decide)]
    refine m_toP (v := none) (hf := (hW v0 a0 x0 fm fb fr fl fu fv)) ⟨rfl, _, fb, fr, fl, fu, fv, rfl, ?_, ?_⟩ (m_vret X dL_bring_428 rfl rfl (Nat.le_of_ble_eq_true rfl) (Nat.le_of_ble_eq_true rfl) rfl)
    · rw [eV]; exact hM
    · rw [eA]; exact hA
  · replace b213 : ¬ bi (calm v) = 0 := b213
    refine m_aload_n X dL_bring_216 rfl rfl ?_
    refine m_bipush (v := 6) X dL_bring_217 (by decide) rfl ?_
    refine m_iload X dL_bring_219 rfl rfl ?_
    refine m_ast (k := 6) (h1 := (hW v0 a0 x0 (upd fm 6 (gross v)) fb fr fl fu fv)) X dL_bring_221 hW_g0 (vp_in_nI (n := 6) (by decide) (by decide)) (rfl) rfl rfl ?_
    refine m_aload_n X dL_bring_222 rfl rfl ?_
    refine m_bipush (v := 18) X dL_bring_223 (by decide) rfl ?_
    refine m_iconst (v := 1) X dL_bring_225 (by decide) rfl ?_
    refine m_ast (k := 18) (h1 := (hW v0 a0 x0 (upd (upd fm 6 (gross v)) 18 1) fb fr fl fu fv)) X dL_bring_226 hW_g0 (vp_in_nI (n := 18) (by decide) (by decide)) (rfl) rfl rfl ?_
    refine m_aload_n X dL_bring_227 rfl rfl ?_
    refine m_iload X dL_bring_228 rfl rfl ?_
    refine m_aload_n X dL_bring_230 rfl rfl ?_
    refine m_iload X dL_bring_231 rfl rfl ?_
    refine m_ald (k := (4 * bn)) (x := a 0 bn) X dL_bring_233 hW_g1 (vp_in_nI (by omega) (by decide)) (nI_clamp (by omega)) ((hPB bn hbn).1) rfl ?_
    refine m_icmp_gt (tgt := 241) X dL_bring_234 (by decide) rfl (fun b234 => ?_) (fun b234 => ?_)
    · replace b234 : a 0 bn < stgt v a := b234
      replace b234 : a 0 (sbin v a).toNatClampNeg < stgt v a := by rw [esc]; exact b234
      refine m_iconst (v := 2) X dL_bring_241 (by decide) rfl ?_
      refine m_cS2 X dL_bring_242 lk_L_9 mk_L_turn st_L_turn (c_L_turn) rfl (Nat.le_of_ble_eq_true rfl) (Nat.le_of_ble_eq_true rfl) (Nat.le_of_ble_eq_true rfl) (Nat.le_of_ble_eq_true rfl) (Nat.le_of_ble_eq_true rfl) rfl ?_
      refine m_iload X dL_bring_245 rfl rfl ?_
      refine m_iconst (v := 2) X dL_bring_247 (by decide) rfl ?_
      refine m_icmp_eq (tgt := 257) X dL_bring_248 (by decide) rfl (fun b248 => absurd b248 (by decide)) (fun b248 => ?_)
      refine m_iload X dL_bring_251 rfl rfl ?_
      refine m_iconst (v := 3) X dL_bring_253 (by decide) rfl ?_
      refine m_icmp_ne (tgt := 379) X dL_bring_254 (by decide) rfl (fun b254 => ?_) (fun b254 => absurd b254 (by decide))
      refine m_iload X dL_bring_379 rfl rfl ?_
      refine m_iconst (v := 4) X dL_bring_381 (by decide) rfl ?_
      refine m_icmp_ne (tgt := 411) X dL_bring_382 (by decide) rfl (fun b382 => ?_) (fun b382 => absurd b382 (by decide))
      refine m_iload X dL_bring_411 rfl rfl ?_
      refine m_iconst (v := 5) X dL_bring_413 (by decide) rfl ?_
      refine m_icmp_ne (tgt := 428) X dL_bring_414 (by decide) rfl (fun b414 => ?_) (fun b414 => absurd b414 (by decide))
      have eT : sTare v a = sEnter (upd (upd v 1 (gross v)) 18 1) 2 := by unfold sTare; rw [if_neg b213, if_neg (fun q => i_nle.mpr b234 q)]
      have eV : sGoV v a = sTare v a := by unfold sGoV; rw [if_neg (show ¬ v 10 = 0 by rw [hs]; decide), if_pos hs]
      rw [eT] at eV
      have eA : sGoA v a = a := by unfold sGoA; rw [if_neg (show ¬ v 10 = 4 by rw [hs]; decide)]
      refine m_toP (v := none) (hf := (hW v0 a0 x0 (gTurn (upd (upd fm 6 (gross v)) 18 1) 2) fb fr fl fu fv)) ⟨rfl, _, fb, fr, fl, fu, fv, rfl, ?_, ?_⟩ (m_vret X dL_bring_428 rfl rfl (Nat.le_of_ble_eq_true rfl) (Nat.le_of_ble_eq_true rfl) rfl)
      · rw [eV]; exact PM_turn (by decide) (PM_tare hM)
      · rw [eA]; exact hA
    · replace b234 : ¬ a 0 bn < stgt v a := b234
      replace b234 : stgt v a ≤ a 0 (sbin v a).toNatClampNeg := by rw [esc]; exact i_nlt.mp b234
      refine m_iconst (v := 3) X dL_bring_237 (by decide) rfl ?_
      refine m_goto (tgt := 242) X dL_bring_238 (by decide) rfl ?_
      refine m_cS2 X dL_bring_242 lk_L_9 mk_L_turn st_L_turn (c_L_turn) rfl (Nat.le_of_ble_eq_true rfl) (Nat.le_of_ble_eq_true rfl) (Nat.le_of_ble_eq_true rfl) (Nat.le_of_ble_eq_true rfl) (Nat.le_of_ble_eq_true rfl) rfl ?_
      refine m_iload X dL_bring_245 rfl rfl ?_
      refine m_iconst (v := 2) X dL_bring_247 (by decide) rfl ?_
      refine m_icmp_eq (tgt := 257) X dL_bring_248 (by decide) rfl (fun b248 => absurd b248 (by decide)) (fun b248 => ?_)
      refine m_iload X dL_bring_251 rfl rfl ?_
      refine m_iconst (v := 3) X dL_bring_253 (by decide) rfl ?_
      refine m_icmp_ne (tgt := 379) X dL_bring_254 (by decide) rfl (fun b254 => ?_) (fun b254 => absurd b254 (by decide))
      refine m_iload X dL_bring_379 rfl rfl ?_
      refine m_iconst (v := 4) X dL_bring_381 (by decide) rfl ?_
      refine m_icmp_ne (tgt := 411) X dL_bring_382 (by decide) rfl (fun b382 => ?_) (fun b382 => absurd b382 (by decide))
      refine m_iload X dL_bring_411 rfl rfl ?_
      refine m_iconst (v := 5) X dL_bring_413 (by decide) rfl ?_
      refine m_icmp_ne (tgt := 428) X dL_bring_414 (by decide) rfl (fun b414 => ?_) (fun b414 => absurd b414 (by decide))
      have eT : sTare v a = sEnter (upd (upd v 1 (gross v)) 18 1) 3 := by unfold sTare; rw [if_neg b213, if_pos b234]
      have eV : sGoV v a = sTare v a := by unfold sGoV; rw [if_neg (show ¬ v 10 = 0 by rw [hs]; decide), if_pos hs]
      rw [eT] at eV
      have eA : sGoA v a = a := by unfold sGoA; rw [if_neg (show ¬ v 10 = 4 by rw [hs]; decide)]
      refine m_toP (v := none) (hf := (hW v0 a0 x0 (gTurn (upd (upd fm 6 (gross v)) 18 1) 3) fb fr fl fu fv)) ⟨rfl, _, fb, fr, fl, fu, fv, rfl, ?_, ?_⟩ (m_vret X dL_bring_428 rfl rfl (Nat.le_of_ble_eq_true rfl) (Nat.le_of_ble_eq_true rfl) rfl)
      · rw [eV]; exact PM_turn (by decide) (PM_tare hM)
      · rw [eA]; exact hA
theorem g_bring2 {D : va_G} {cI cL : ClassId} {sa : Nat → Nat} {A : Nat → Prop} {p : Program} {l : Launch} {e : Env} {s : State} {m : MethodId} {args : Array Value} {below : List Frame} {meth : Method} {c : Code} {ad : Nat → Nat} (X : m_At D cI cL sa (m_My M_L_bring) (m_Mb M_L_bring) (m_Ml M_L_bring) (m_Mr M_L_bring) A [] p l s m args meth c) {h0 : m_H} {v0 v : m_V} {a0 a : m_R} {x0 : Int64} {fm fb fr fl fu fv : Nat → Int32} {n B L : Nat} (hn : n < 2 ^ 30) (h : Inv0 n L B v a) (hX : iX v a) (hJ : iJ v) (hL8 : L ≤ 8) (hM : PM n v fm) (hA : PA B a fb fr fl fu fv) (hs : v 10 = 2) : m_Go D cI cL ad (h0).length (m_Ml M_L_bring) A p l e (m_rm M_L_bring) s m args below meth c (m_VP D cI cL ad (h0).length A (oW v0 a0 x0 none n B (sGoV v a) (sGoA v a)) below args s (m_Mc M_L_bring) (m_Ms M_L_bring)) 36 [(8, .int 0), (0, .ref 17), (1, .ref 18), (2, .ref 19), (3, .ref 20), (4, .ref 21), (5, .ref 22), (6, .int (nI L)), (7, .int (v 4))] [] (hW v0 a0 x0 fm fb fr fl fu fv) 0 0 := by
  have hA' := hA
  obtain ⟨hPB, hR, hPL, hPU⟩ := hA'
  obtain ⟨st, bn, hst, hbn, e15, ebn, es, eg, et, ec, esc⟩ := b_st h
  have hxA : 0 ≤ (a 0 bn).toInt ∧ (a 0 bn).toInt ≤ 1000 := hX.2.1 bn
  refine m_aload_n X dL_bring_36 rfl rfl ?_
  refine m_bipush (v := 8) X dL_bring_37 (by decide) rfl ?_
  refine m_ald (k := 8) (x := 2) X dL_bring_39 hW_g0 (vp_in_nI (n := 8) (by decide) (by decide)) (rfl) ((pm8 hM).trans hs) rfl ?_
  refine m_ist (l1 := [(8, .int 2), (0, .ref 17), (1, .ref 18), (2, .ref 19), (3, .ref 20), (4, .ref 21), (5, .ref 22), (6, .int (nI L)), (7, .int (v 4))]) X dL_bring_40 (Nat.le_of_ble_eq_true rfl) rfl rfl ?_
  refine m_iload X dL_bring_42 rfl rfl ?_
  refine m_aload_n X dL_bring_44 rfl rfl ?_
  refine m_iconst (v := 5) X dL_bring_45 (by decide) rfl ?_
  refine m_ald (k := 5) (x := v 0) X dL_bring_46 hW_g0 (vp_in_nI (n := 5) (by decide) (by decide)) (rfl) (pm5 hM) rfl ?_
  refine m_isub X dL_bring_47 rfl ?_
  refine m_top (x1 := gross v) (rfl) ?_
  refine m_ist (l1 := [(9, .int (gross v)), (8, .int 2), (0, .ref 17), (1, .ref 18), (2, .ref 19), (3, .ref 20), (4, .ref 21), (5, .ref 22), (6, .int (nI L)), (7, .int (v 4))]) X dL_bring_48 (Nat.le_of_ble_eq_true rfl) rfl rfl ?_
  refine m_aload_n X dL_bring_50 rfl rfl ?_
  refine m_iconst (v := 4) X dL_bring_51 (by decide) rfl ?_
  refine m_ald (k := 4) (x := nI n) X dL_bring_52 hW_g0 (vp_in_nI (n := 4) (by decide) (by decide)) (rfl) (pm4 hM) rfl ?_
  refine m_aload_n X dL_bring_53 rfl rfl ?_
  refine m_bipush (v := 12) X dL_bring_54 (by decide) rfl ?_
  refine m_ald (k := 12) (x := fm 12) X dL_bring_56 hW_g0 (vp_in_nI (n := 12) (by decide) (by decide)) (rfl) (rfl) rfl ?_
  refine m_isub X dL_bring_57 rfl ?_
  refine m_top (x1 := v 13) (by rw [← pm4 hM]; exact pm12 hM) ?_
  refine m_ist (l1 := [(10, .int (v 13)), (9, .int (gross v)), (8, .int 2), (0, .ref 17), (1, .ref 18), (2, .ref 19), (3, .ref 20), (4, .ref 21), (5, .ref 22), (6, .int (nI L)), (7, .int (v 4))]) X dL_bring_58 (Nat.le_of_ble_eq_true rfl) rfl rfl ?_
  refine m_iload X dL_bring_60 rfl rfl ?_
  refine m_if_ne (tgt := 151) X dL_bring_62 (by decide) rfl (fun b62 => ?_) (fun b62 => absurd b62 (by decide))
  refine m_iload X dL_bring_151 rfl rfl ?_
  refine m_bipush (v := 6) X dL_bring_153 (by decide) rfl ?_
  refine m_icmp_ne (tgt := 162) X dL_bring_155 (by decide) rfl (fun b155 => ?_) (fun b155 => absurd b155 (by decide))
  refine m_iconst (v := 4) X dL_bring_162 (by decide) rfl ?_
  refine m_aload_n X dL_bring_163 rfl rfl ?_
  refine m_iconst (v := 3) X dL_bring_164 (by decide) rfl ?_
  refine m_aload_n X dL_bring_165 rfl rfl ?_
  refine m_bipush (v := 11) X dL_bring_166 (by decide) rfl ?_
  refine m_ald (k := 11) (x := v 15) X dL_bring_168 hW_g0 (vp_in_nI (n := 11) (by decide) (by decide)) (rfl) (pm11 hM) rfl ?_
  refine m_imul X dL_bring_169 rfl ?_
  refine m_top (x1 := nI (3 * st)) (by rw [e15]; exact nI_mul 3 st) ?_
  refine m_ald (k := (3 * st)) (x := nI bn) X dL_bring_170 hW_g2 (vp_in_nI (by omega) (by decide)) (nI_clamp (by omega)) ((hR st hst).1.trans ebn) rfl ?_
  refine m_imul X dL_bring_171 rfl ?_
  refine m_top (x1 := nI (4 * bn)) (nI_mul 4 bn) ?_
  refine m_ist (l1 := [(11, .int (nI (4 * bn))), (10, .int (v 13)), (9, .int (gross v)), (8, .int 2), (0, .ref 17), (1, .ref 18), (2, .ref 19), (3, .ref 20), (4, .ref 21), (5, .ref 22), (6, .int (nI L)), (7, .int (v 4))]) X dL_bring_172 (Nat.le_of_ble_eq_true rfl) rfl rfl ?_
  refine m_iload X dL_bring_174 rfl rfl ?_
  refine m_bipush (v := 6) X dL_bring_176 (by decide) rfl ?_
  refine m_icmp_ne (tgt := 185) X dL_bring_178 (by decide) rfl (fun b178 => ?_) (fun b178 => absurd b178 (by decide))
  refine m_aload_n X dL_bring_185 rfl rfl ?_
  refine m_iconst (v := 3) X dL_bring_186 (by decide) rfl ?_
  refine m_aload_n X dL_bring_187 rfl rfl ?_
  refine m_bipush (v := 11) X dL_bring_188 (by decide) rfl ?_
  refine m_ald (k := 11) (x := v 15) X dL_bring_190 hW_g0 (vp_in_nI (n := 11) (by decide) (by decide)) (rfl) (pm11 hM) rfl ?_
  refine m_imul X dL_bring_191 rfl ?_
  refine m_top (x1 := nI (3 * st)) (by rw [e15]; exact nI_mul 3 st) ?_
  refine m_iconst (v := 1) X dL_bring_192 (by decide) rfl ?_
  refine m_iadd X dL_bring_193 rfl ?_
  refine m_top (x1 := nI (3 * st + 1)) (nI_add (3 * st) 1) ?_
  refine m_ald (k := (3 * st + 1)) (x := stgt v a) X dL_bring_194 hW_g2 (vp_in_nI (by omega) (by decide)) (nI_clamp (by omega)) ((hR st hst).2.1.trans eg.symm) rfl ?_
  refine m_ist (l1 := [(12, .int (stgt v a)), (11, .int (nI (4 * bn))), (10, .int (v 13)), (9, .int (gross v)), (8, .int 2), (0, .ref 17), (1, .ref 18), (2, .ref 19), (3, .ref 20), (4, .ref 21), (5, .ref 22), (6, .int (nI L)), (7, .int (v 4))]) X dL_bring_195 (Nat.le_of_ble_eq_true rfl) rfl rfl ?_
  refine m_aload_n X dL_bring_197 rfl rfl ?_
  refine m_cS1 X dL_bring_198 lk_L_15 mk_L_net st_L_net (c_L_net hM) rfl (Nat.le_of_ble_eq_true rfl) (Nat.le_of_ble_eq_true rfl) (Nat.le_of_ble_eq_true rfl) (Nat.le_of_ble_eq_true rfl) (Nat.le_of_ble_eq_true rfl) rfl ?_
  refine m_ist (l1 := [(13, .int (net v)), (12, .int (stgt v a)), (11, .int (nI (4 * bn))), (10, .int (v 13)), (9, .int (gross v)), (8, .int 2), (0, .ref 17), (1, .ref 18), (2, .ref 19), (3, .ref 20), (4, .ref 21), (5, .ref 22), (6, .int (nI L)), (7, .int (v 4))]) X dL_bring_201 (Nat.le_of_ble_eq_true rfl) rfl rfl ?_
  refine m_iload X dL_bring_203 rfl rfl ?_
  refine m_iconst (v := 1) X dL_bring_205 (by decide) rfl ?_
  refine m_icmp_ne (tgt := 245) X dL_bring_206 (by decide) rfl (fun b206 => ?_) (fun b206 => absurd b206 (by decide))
  refine m_iload X dL_bring_245 rfl rfl ?_
  refine m_iconst (v := 2) X dL_bring_247 (by decide) rfl ?_
  refine m_icmp_eq (tgt := 257) X dL_bring_248 (by decide) rfl (fun b248 => ?_) (fun b248 => absurd b248 (by decide))
  refine m_aload_n X dL_bring_257 rfl rfl ?_
  refine m_bipush (v := 14) X dL_bring_258 (by decide) rfl ?_
  refine m_dup2 X dL_bring_260 rfl rfl rfl ?_
  refine m_ald (k := 14) (x := fm 14) X dL_bring_261 hW_g0 (vp_in_nI (n := 14) (by decide) (by decide)) (rfl) (rfl) rfl ?_
  refine m_iconst (v := 1) X dL_bring_262 (by decide) rfl ?_
  refine m_iadd X dL_bring_263 rfl ?_
  refine m_ast (k := 14) (h1 := (hW v0 a0 x0 (upd fm 14 ((fm 14) + 1)) fb fr fl fu fv)) X dL_bring_264 hW_g0 (vp_in_nI (n := 14) (by decide) (by decide)) (rfl) rfl rfl ?_
  refine m_iload X dL_bring_265 rfl rfl ?_
  refine m_aload_n X dL_bring_267 rfl rfl ?_
  refine m_bipush (v := 16) X dL_bring_268 (by decide) rfl ?_
  refine m_ald (k := 16) (x := v 17) X dL_bring_270 hW_g0 (vp_in_nI (n := 16) (by decide) (by decide)) (rfl) (show fm 16 = v 17 from pm16 hM) rfl ?_
  refine m_icmp_le (tgt := 278) X dL_bring_271 (by decide) rfl (fun b271 => ?_) (fun b271 => ?_)
  · replace b271 : net v ≤ v 17 := b271
    refine m_iconst (v := 0) X dL_bring_278 (by decide) rfl ?_
    refine m_ist (l1 := [(14, .int 0), (13, .int (net v)), (12, .int (stgt v a)), (11, .int (nI (4 * bn))), (10, .int (v 13)), (9, .int (gross v)), (8, .int 2), (0, .ref 17), (1, .ref 18), (2, .ref 19), (3, .ref 20), (4, .ref 21), (5, .ref 22), (6, .int (nI L)), (7, .int (v 4))]) X dL_bring_279 (Nat.le_of_ble_eq_true rfl) rfl rfl ?_
    refine m_aload_n X dL_bring_281 rfl rfl ?_
    refine m_bipush (v := 16) X dL_bring_282 (by decide) rfl ?_
    refine m_iload X dL_bring_284 rfl rfl ?_
    refine m_if_eq (tgt := 294) X dL_bring_286 (by decide) rfl (fun b286 => ?_) (fun b286 => absurd b286 (by decide))
    refine m_aload_n X dL_bring_294 rfl rfl ?_
    refine m_bipush (v := 16) X dL_bring_295 (by decide) rfl ?_
    refine m_ald (k := 16) (x := v 17) X dL_bring_297 hW_g0 (vp_in_nI (n := 16) (by decide) (by decide)) (rfl) (show fm 16 = v 17 from pm16 hM) rfl ?_
    refine m_ast (k := 16) (h1 := (hW v0 a0 x0 (upd (upd fm 14 ((fm 14) + 1)) 16 (v 17)) fb fr fl fu fv)) X dL_bring_298 hW_g0 (vp_in_nI (n := 16) (by decide) (by decide)) (rfl) rfl rfl ?_
    refine m_aload_n X dL_bring_299 rfl rfl ?_
    refine m_bipush (v := 13) X dL_bring_300 (by decide) rfl ?_
    refine m_iload X dL_bring_302 rfl rfl ?_
    refine m_if_eq (tgt := 314) X dL_bring_304 (by decide) rfl (fun b304 => ?_) (fun b304 => absurd b304 (by decide))
    refine m_aload_n X dL_bring_314 rfl rfl ?_
    refine m_bipush (v := 13) X dL_bring_315 (by decide) rfl ?_
    refine m_ald (k := 13) (x := fm 13) X dL_bring_317 hW_g0 (vp_in_nI (n := 13) (by decide) (by decide)) (rfl) (rfl) rfl ?_
    refine m_ast (k := 13) (h1 := (hW v0 a0 x0 (upd (upd (upd fm 14 ((fm 14) + 1)) 16 (v 17)) 13 (fm 13)) fb fr fl fu fv)) X dL_bring_318 hW_g0 (vp_in_nI (n := 13) (by decide) (by decide)) (rfl) rfl rfl ?_
    have eI : sIdle v = upd v 14 (v 14 + 1) := by unfold sIdle; rw [if_pos b271]
    have hM3 : PM n (sIdle v) (upd (upd (upd fm 14 ((fm 14) + 1)) 16 (v 17)) 13 (fm 13)) := by rw [eI]; exact PM_stale hM
    refine m_iload X dL_bring_319 rfl rfl ?_
    refine m_iload X dL_bring_321 rfl rfl ?_
    refine m_isub X dL_bring_323 rfl ?_
    refine m_aload_n X dL_bring_324 rfl rfl ?_
    refine m_iload X dL_bring_325 rfl rfl ?_
    refine m_iconst (v := 2) X dL_bring_327 (by decide) rfl ?_
    refine m_icmp_ne (tgt := 336) X dL_bring_328 (by decide) rfl (fun b328 => absurd b328 (by decide)) (fun b328 => ?_)
    refine m_iload X dL_bring_331 rfl rfl ?_
    refine m_goto (tgt := 340) X dL_bring_333 (by decide) rfl ?_
    refine m_ald (k := (4 * bn)) (x := a 0 bn) X dL_bring_340 hW_g1 (vp_in_nI (by omega) (by decide)) (nI_clamp (by omega)) ((hPB bn hbn).1) rfl ?_
    refine m_iadd X dL_bring_341 rfl ?_
    refine m_ist (l1 := [(15, .int (((net v) - (stgt v a)) + (a 0 bn))), (14, .int 0), (13, .int (net v)), (12, .int (stgt v a)), (11, .int (nI (4 * bn))), (10, .int (v 13)), (9, .int (gross v)), (8, .int 2), (0, .ref 17), (1, .ref 18), (2, .ref 19), (3, .ref 20), (4, .ref 21), (5, .ref 22), (6, .int (nI L)), (7, .int (v 4))]) X dL_bring_342 (Nat.le_of_ble_eq_true rfl) rfl rfl ?_
    refine m_iload X dL_bring_344 rfl rfl ?_
    refine m_if_lt (tgt := 360) X dL_bring_346 (by decide) rfl (fun b346 => ?_) (fun b346 => ?_)
    · replace b346 : net v - stgt v a + a 0 bn < 0 := b346
      refine m_aload_n X dL_bring_360 rfl rfl ?_
      refine m_bipush (v := 14) X dL_bring_361 (by decide) rfl ?_
      refine m_ald (k := 14) (x := ((fm 14) + 1)) X dL_bring_363 hW_g0 (vp_in_nI (n := 14) (by decide) (by decide)) (rfl) (rfl) rfl ?_
      refine m_aload_n X dL_bring_364 rfl rfl ?_
      refine m_bipush (v := 13) X dL_bring_365 (by decide) rfl ?_
      refine m_ald (k := 13) (x := (fm 13)) X dL_bring_367 hW_g0 (vp_in_nI (n := 13) (by decide) (by decide)) (rfl) (rfl) rfl ?_
      refine m_isub X dL_bring_368 rfl ?_
      refine m_top (x1 := sIdle v 14) (pm13 hM3) ?_
      refine m_bipush (v := 20) X dL_bring_369 (by decide) rfl ?_
      refine m_icmp_lt (tgt := 379) X dL_bring_371 (by decide) rfl (fun b371 => ?_) (fun b371 => ?_)
      · replace b371 : sIdle v 14 < 20 := b371
        refine m_iload X dL_bring_379 rfl rfl ?_
        refine m_iconst (v := 4) X dL_bring_381 (by decide) rfl ?_
        refine m_icmp_ne (tgt := 411) X dL_bring_382 (by decide) rfl (fun b382 => ?_) (fun b382 => absurd b382 (by decide))
        refine m_iload X dL_bring_411 rfl rfl ?_
        refine m_iconst (v := 5) X dL_bring_413 (by decide) rfl ?_
        refine m_icmp_ne (tgt := 428) X dL_bring_414 (by decide) rfl (fun b414 => ?_) (fun b414 => absurd b414 (by decide))
        have eAh : sAhead v a = a 0 bn := by unfold sAhead; rw [if_neg (not_not_intro hs), esc]
        have eT : sFeed v a = sIdle v := by unfold sFeed; rw [eAh, if_pos ((over_iff h hxA).mp b346), if_pos b371]
        have eV : sGoV v a = sFeed v a := by unfold sGoV; rw [if_neg (show ¬ v 10 = 0 by rw [hs]; decide), if_neg (show ¬ v 10 = 1 by rw [hs]; decide), if_pos (Or.inl hs)]
        rw [eT] at eV
        have eA : sGoA v a = a := by unfold sGoA; rw [if_neg (show ¬ v 10 = 4 by rw [hs]; decide)]
        refine m_toP (v := none) (hf := (hW v0 a0 x0 (upd (upd (upd fm 14 ((fm 14) + 1)) 16 (v 17)) 13 (fm 13)) fb fr fl fu fv)) ⟨rfl, _, fb, fr, fl, fu, fv, rfl, ?_, ?_⟩ (m_vret X dL_bring_428 rfl rfl (Nat.le_of_ble_eq_true rfl) (Nat.le_of_ble_eq_true rfl) rfl)
        · rw [eV]; exact hM3
        · rw [eA]; exact hA
      · replace b371 : ¬ sIdle v 14 < 20 := b371
        refine m_aload_n X dL_bring_374 rfl rfl ?_
        refine m_iconst (v := 3) X dL_bring_375 (by decide) rfl ?_
        refine m_cS2 X dL_bring_376 lk_L_26 mk_L_stop st_L_stop (c_L_stop) rfl (Nat.le_of_ble_eq_true rfl) (Nat.le_of_ble_eq_true rfl) (Nat.le_of_ble_eq_true rfl) (Nat.le_of_ble_eq_true rfl) (Nat.le_of_ble_eq_true rfl) rfl ?_
        refine m_iload X dL_bring_379 rfl rfl ?_
        refine m_iconst (v := 4) X dL_bring_381 (by decide) rfl ?_
        refine m_icmp_ne (tgt := 411) X dL_bring_382 (by decide) rfl (fun b382 => ?_) (fun b382 => absurd b382 (by decide))
        refine m_iload X dL_bring_411 rfl rfl ?_
        refine m_iconst (v := 5) X dL_bring_413 (by decide) rfl ?_
        refine m_icmp_ne (tgt := 428) X dL_bring_414 (by decide) rfl (fun b414 => ?_) (fun b414 => absurd b414 (by decide))
        have eAh : sAhead v a = a 0 bn := by unfold sAhead; rw [if_neg (not_not_intro hs), esc]
        have eT : sFeed v a = sHalt (sIdle v) 3 := by unfold sFeed; rw [eAh, if_pos ((over_iff h hxA).mp b346), if_neg b371]
        have eV : sGoV v a = sFeed v a := by unfold sGoV; rw [if_neg (show ¬ v 10 = 0 by rw [hs]; decide), if_neg (show ¬ v 10 = 1 by rw [hs]; decide), if_pos (Or.inl hs)]
        rw [eT] at eV
        have eA : sGoA v a = a := by unfold sGoA; rw [if_neg (show ¬ v 10 = 4 by rw [hs]; decide)]
        refine m_toP (v := none) (hf := (hW v0 a0 x0 (gStop (upd (upd (upd fm 14 ((fm 14) + 1)) 16 (v 17)) 13 (fm 13)) 3) fb fr fl fu fv)) ⟨rfl, _, fb, fr, fl, fu, fv, rfl, ?_, ?_⟩ (m_vret X dL_bring_428 rfl rfl (Nat.le_of_ble_eq_true rfl) (Nat.le_of_ble_eq_true rfl) rfl)
        · rw [eV]; exact PM_stop hM3
        · rw [eA]; exact hA
    · replace b346 : ¬ net v - stgt v a + a 0 bn < 0 := b346
      refine m_aload_n X dL_bring_349 rfl rfl ?_
      refine m_iload X dL_bring_350 rfl rfl ?_
      refine m_iconst (v := 1) X dL_bring_352 (by decide) rfl ?_
      refine m_iadd X dL_bring_353 rfl ?_
      refine m_top (x1 := 3) (by decide) ?_
      refine m_cS2 X dL_bring_354 lk_L_9 mk_L_turn st_L_turn (c_L_turn) rfl (Nat.le_of_ble_eq_true rfl) (Nat.le_of_ble_eq_true rfl) (Nat.le_of_ble_eq_true rfl) (Nat.le_of_ble_eq_true rfl) (Nat.le_of_ble_eq_true rfl) rfl ?_
      refine m_goto (tgt := 379) X dL_bring_357 (by decide) rfl ?_
      refine m_iload X dL_bring_379 rfl rfl ?_
      refine m_iconst (v := 4) X dL_bring_381 (by decide) rfl ?_
      refine m_icmp_ne (tgt := 411) X dL_bring_382 (by decide) rfl (fun b382 => ?_) (fun b382 => absurd b382 (by decide))
      refine m_iload X dL_bring_411 rfl rfl ?_
      refine m_iconst (v := 5) X dL_bring_413 (by decide) rfl ?_
      refine m_icmp_ne (tgt := 428) X dL_bring_414 (by decide) rfl (fun b414 => ?_) (fun b414 => absurd b414 (by decide))
      have eAh : sAhead v a = a 0 bn := by unfold sAhead; rw [if_neg (not_not_intro hs), esc]
      have eT : sFeed v a = sEnter (sIdle v) 3 := by unfold sFeed; rw [eAh, if_neg (fun q => b346 ((over_iff h hxA).mpr q)), if_neg (not_not_intro hs)]
      have eV : sGoV v a = sFeed v a := by unfold sGoV; rw [if_neg (show ¬ v 10 = 0 by rw [hs]; decide), if_neg (show ¬ v 10 = 1 by rw [hs]; decide), if_pos (Or.inl hs)]
      rw [eT] at eV
      have eA : sGoA v a = a := by unfold sGoA; rw [if_neg (show ¬ v 10 = 4 by rw [hs]; decide)]
      refine m_toP (v := none) (hf := (hW v0 a0 x0 (gTurn (upd (upd (upd fm 14 ((fm 14) + 1)) 16 (v 17)) 13 (fm 13)) 3) fb fr fl fu fv)) ⟨rfl, _, fb, fr, fl, fu, fv, rfl, ?_, ?_⟩ (m_vret X dL_bring_428 rfl rfl (Nat.le_of_ble_eq_true rfl) (Nat.le_of_ble_eq_true rfl) rfl)
      · rw [eV]; exact PM_turn (by decide) hM3
      · rw [eA]; exact hA
  · replace b271 : ¬ net v ≤ v 17 := b271
    refine m_iconst (v := 1) X dL_bring_274 (by decide) rfl ?_
    refine m_goto (tgt := 279) X dL_bring_275 (by decide) rfl ?_
    refine m_ist (l1 := [(14, .int 1), (13, .int (net v)), (12, .int (stgt v a)), (11, .int (nI (4 * bn))), (10, .int (v 13)), (9, .int (gross v)), (8, .int 2), (0, .ref 17), (1, .ref 18), (2, .ref 19), (3, .ref 20), (4, .ref 21), (5, .ref 22), (6, .int (nI L)), (7, .int (v 4))]) X dL_bring_279 (Nat.le_of_ble_eq_true rfl) rfl rfl ?_
    refine m_aload_n X dL_bring_281 rfl rfl ?_
    refine m_bipush (v := 16) X dL_bring_282 (by decide) rfl ?_
    refine m_iload X dL_bring_284 rfl rfl ?_
    refine m_if_eq (tgt := 294) X dL_bring_286 (by decide) rfl (fun b286 => absurd b286 (by decide)) (fun b286 => ?_)
    refine m_iload X dL_bring_289 rfl rfl ?_
    refine m_goto (tgt := 298) X dL_bring_291 (by decide) rfl ?_
    refine m_ast (k := 16) (h1 := (hW v0 a0 x0 (upd (upd fm 14 ((fm 14) + 1)) 16 (net v)) fb fr fl fu fv)) X dL_bring_298 hW_g0 (vp_in_nI (n := 16) (by decide) (by decide)) (rfl) rfl rfl ?_
    refine m_aload_n X dL_bring_299 rfl rfl ?_
    refine m_bipush (v := 13) X dL_bring_300 (by decide) rfl ?_
    refine m_iload X dL_bring_302 rfl rfl ?_
    refine m_if_eq (tgt := 314) X dL_bring_304 (by decide) rfl (fun b304 => absurd b304 (by decide)) (fun b304 => ?_)
    refine m_aload_n X dL_bring_307 rfl rfl ?_
    refine m_bipush (v := 14) X dL_bring_308 (by decide) rfl ?_
    refine m_ald (k := 14) (x := ((fm 14) + 1)) X dL_bring_310 hW_g0 (vp_in_nI (n := 14) (by decide) (by decide)) (rfl) (rfl) rfl ?_
    refine m_goto (tgt := 318) X dL_bring_311 (by decide) rfl ?_
    refine m_ast (k := 13) (h1 := (hW v0 a0 x0 (upd (upd (upd fm 14 ((fm 14) + 1)) 16 (net v)) 13 ((fm 14) + 1)) fb fr fl fu fv)) X dL_bring_318 hW_g0 (vp_in_nI (n := 13) (by decide) (by decide)) (rfl) rfl rfl ?_
    have eI : sIdle v = upd (upd v 17 (net v)) 14 0 := by unfold sIdle; rw [if_neg b271]
    have hM3 : PM n (sIdle v) (upd (upd (upd fm 14 ((fm 14) + 1)) 16 (net v)) 13 ((fm 14) + 1)) := by rw [eI]; exact PM_fresh hM
    refine m_iload X dL_bring_319 rfl rfl ?_
    refine m_iload X dL_bring_321 rfl rfl ?_
    refine m_isub X dL_bring_323 rfl ?_
    refine m_aload_n X dL_bring_324 rfl rfl ?_
    refine m_iload X dL_bring_325 rfl rfl ?_
    refine m_iconst (v := 2) X dL_bring_327 (by decide) rfl ?_
    refine m_icmp_ne (tgt := 336) X dL_bring_328 (by decide) rfl (fun b328 => absurd b328 (by decide)) (fun b328 => ?_)
    refine m_iload X dL_bring_331 rfl rfl ?_
    refine m_goto (tgt := 340) X dL_bring_333 (by decide) rfl ?_
    refine m_ald (k := (4 * bn)) (x := a 0 bn) X dL_bring_340 hW_g1 (vp_in_nI (by omega) (by decide)) (nI_clamp (by omega)) ((hPB bn hbn).1) rfl ?_
    refine m_iadd X dL_bring_341 rfl ?_
    refine m_ist (l1 := [(15, .int (((net v) - (stgt v a)) + (a 0 bn))), (14, .int 1), (13, .int (net v)), (12, .int (stgt v a)), (11, .int (nI (4 * bn))), (10, .int (v 13)), (9, .int (gross v)), (8, .int 2), (0, .ref 17), (1, .ref 18), (2, .ref 19), (3, .ref 20), (4, .ref 21), (5, .ref 22), (6, .int (nI L)), (7, .int (v 4))]) X dL_bring_342 (Nat.le_of_ble_eq_true rfl) rfl rfl ?_
    refine m_iload X dL_bring_344 rfl rfl ?_
    refine m_if_lt (tgt := 360) X dL_bring_346 (by decide) rfl (fun b346 => ?_) (fun b346 => ?_)
    · replace b346 : net v - stgt v a + a 0 bn < 0 := b346
      refine m_aload_n X dL_bring_360 rfl rfl ?_
      refine m_bipush (v := 14) X dL_bring_361 (by decide) rfl ?_
      refine m_ald (k := 14) (x := ((fm 14) + 1)) X dL_bring_363 hW_g0 (vp_in_nI (n := 14) (by decide) (by decide)) (rfl) (rfl) rfl ?_
      refine m_aload_n X dL_bring_364 rfl rfl ?_
      refine m_bipush (v := 13) X dL_bring_365 (by decide) rfl ?_
      refine m_ald (k := 13) (x := ((fm 14) + 1)) X dL_bring_367 hW_g0 (vp_in_nI (n := 13) (by decide) (by decide)) (rfl) (rfl) rfl ?_
      refine m_isub X dL_bring_368 rfl ?_
      refine m_top (x1 := sIdle v 14) (pm13 hM3) ?_
      refine m_bipush (v := 20) X dL_bring_369 (by decide) rfl ?_
      refine m_icmp_lt (tgt := 379) X dL_bring_371 (by decide) rfl (fun b371 => ?_) (fun b371 => ?_)
      · replace b371 : sIdle v 14 < 20 := b371
        refine m_iload X dL_bring_379 rfl rfl ?_
        refine m_iconst (v := 4) X dL_bring_381 (by decide) rfl ?_
        refine m_icmp_ne (tgt := 411) X dL_bring_382 (by decide) rfl (fun b382 => ?_) (fun b382 => absurd b382 (by decide))
        refine m_iload X dL_bring_411 rfl rfl ?_
        refine m_iconst (v := 5) X dL_bring_413 (by decide) rfl ?_
        refine m_icmp_ne (tgt := 428) X dL_bring_414 (by decide) rfl (fun b414 => ?_) (fun b414 => absurd b414 (by decide))
        have eAh : sAhead v a = a 0 bn := by unfold sAhead; rw [if_neg (not_not_intro hs), esc]
        have eT : sFeed v a = sIdle v := by unfold sFeed; rw [eAh, if_pos ((over_iff h hxA).mp b346), if_pos b371]
        have eV : sGoV v a = sFeed v a := by unfold sGoV; rw [if_neg (show ¬ v 10 = 0 by rw [hs]; decide), if_neg (show ¬ v 10 = 1 by rw [hs]; decide), if_pos (Or.inl hs)]
        rw [eT] at eV
        have eA : sGoA v a = a := by unfold sGoA; rw [if_neg (show ¬ v 10 = 4 by rw [hs]; decide)]
        refine m_toP (v := none) (hf := (hW v0 a0 x0 (upd (upd (upd fm 14 ((fm 14) + 1)) 16 (net v)) 13 ((fm 14) + 1)) fb fr fl fu fv)) ⟨rfl, _, fb, fr, fl, fu, fv, rfl, ?_, ?_⟩ (m_vret X dL_bring_428 rfl rfl (Nat.le_of_ble_eq_true rfl) (Nat.le_of_ble_eq_true rfl) rfl)
        · rw [eV]; exact hM3
        · rw [eA]; exact hA
      · replace b371 : ¬ sIdle v 14 < 20 := b371
        refine m_aload_n X dL_bring_374 rfl rfl ?_
        refine m_iconst (v := 3) X dL_bring_375 (by decide) rfl ?_
        refine m_cS2 X dL_bring_376 lk_L_26 mk_L_stop st_L_stop (c_L_stop) rfl (Nat.le_of_ble_eq_true rfl) (Nat.le_of_ble_eq_true rfl) (Nat.le_of_ble_eq_true rfl) (Nat.le_of_ble_eq_true rfl) (Nat.le_of_ble_eq_true rfl) rfl ?_
        refine m_iload X dL_bring_379 rfl rfl ?_
        refine m_iconst (v := 4) X dL_bring_381 (by decide) rfl ?_
        refine m_icmp_ne (tgt := 411) X dL_bring_382 (by decide) rfl (fun b382 => ?_) (fun b382 => absurd b382 (by decide))
        refine m_iload X dL_bring_411 rfl rfl ?_
        refine m_iconst (v := 5) X dL_bring_413 (by decide) rfl ?_
        refine m_icmp_ne (tgt := 428) X dL_bring_414 (by decide) rfl (fun b414 => ?_) (fun b414 => absurd b414 (by decide))
        have eAh : sAhead v a = a 0 bn := by unfold sAhead; rw [if_neg (not_not_intro hs), esc]
        have eT : sFeed v a = sHalt (sIdle v) 3 := by unfold sFeed; rw [eAh, if_pos ((over_iff h hxA).mp b346), if_neg b371]
        have eV : sGoV v a = sFeed v a := by unfold sGoV; rw [if_neg (show ¬ v 10 = 0 by rw [hs]; decide), if_neg (show ¬ v 10 = 1 by rw [hs]; decide), if_pos (Or.inl hs)]
        rw [eT] at eV
        have eA : sGoA v a = a := by unfold sGoA; rw [if_neg (show ¬ v 10 = 4 by rw [hs]; decide)]
        refine m_toP (v := none) (hf := (hW v0 a0 x0 (gStop (upd (upd (upd fm 14 ((fm 14) + 1)) 16 (net v)) 13 ((fm 14) + 1)) 3) fb fr fl fu fv)) ⟨rfl, _, fb, fr, fl, fu, fv, rfl, ?_, ?_⟩ (m_vret X dL_bring_428 rfl rfl (Nat.le_of_ble_eq_true rfl) (Nat.le_of_ble_eq_true rfl) rfl)
        · rw [eV]; exact PM_stop hM3
        · rw [eA]; exact hA
    · replace b346 : ¬ net v - stgt v a + a 0 bn < 0 := b346
      refine m_aload_n X dL_bring_349 rfl rfl ?_
      refine m_iload X dL_bring_350 rfl rfl ?_
      refine m_iconst (v := 1) X dL_bring_352 (by decide) rfl ?_
      refine m_iadd X dL_bring_353 rfl ?_
      refine m_top (x1 := 3) (by decide) ?_
      refine m_cS2 X dL_bring_354 lk_L_9 mk_L_turn st_L_turn (c_L_turn) rfl (Nat.le_of_ble_eq_true rfl) (Nat.le_of_ble_eq_true rfl) (Nat.le_of_ble_eq_true rfl) (Nat.le_of_ble_eq_true rfl) (Nat.le_of_ble_eq_true rfl) rfl ?_
      refine m_goto (tgt := 379) X dL_bring_357 (by decide) rfl ?_
      refine m_iload X dL_bring_379 rfl rfl ?_
      refine m_iconst (v := 4) X dL_bring_381 (by decide) rfl ?_
      refine m_icmp_ne (tgt := 411) X dL_bring_382 (by decide) rfl (fun b382 => ?_) (fun b382 => absurd b382 (by decide))
      refine m_iload X dL_bring_411 rfl rfl ?_
      refine m_iconst (v := 5) X dL_bring_413 (by decide) rfl ?_
      refine m_icmp_ne (tgt := 428) X dL_bring_414 (by decide) rfl (fun b414 => ?_) (fun b414 => absurd b414 (by decide))
      have eAh : sAhead v a = a 0 bn := by unfold sAhead; rw [if_neg (not_not_intro hs), esc]
      have eT : sFeed v a = sEnter (sIdle v) 3 := by unfold sFeed; rw [eAh, if_neg (fun q => b346 ((over_iff h hxA).mpr q)), if_neg (not_not_intro hs)]
      have eV : sGoV v a = sFeed v a := by unfold sGoV; rw [if_neg (show ¬ v 10 = 0 by rw [hs]; decide), if_neg (show ¬ v 10 = 1 by rw [hs]; decide), if_pos (Or.inl hs)]
      rw [eT] at eV
      have eA : sGoA v a = a := by unfold sGoA; rw [if_neg (show ¬ v 10 = 4 by rw [hs]; decide)]
      refine m_toP (v := none) (hf := (hW v0 a0 x0 (gTurn (upd (upd (upd fm 14 ((fm 14) + 1)) 16 (net v)) 13 ((fm 14) + 1)) 3) fb fr fl fu fv)) ⟨rfl, _, fb, fr, fl, fu, fv, rfl, ?_, ?_⟩ (m_vret X dL_bring_428 rfl rfl (Nat.le_of_ble_eq_true rfl) (Nat.le_of_ble_eq_true rfl) rfl)
      · rw [eV]; exact PM_turn (by decide) hM3
      · rw [eA]; exact hA
theorem g_bring3 {D : va_G} {cI cL : ClassId} {sa : Nat → Nat} {A : Nat → Prop} {p : Program} {l : Launch} {e : Env} {s : State} {m : MethodId} {args : Array Value} {below : List Frame} {meth : Method} {c : Code} {ad : Nat → Nat} (X : m_At D cI cL sa (m_My M_L_bring) (m_Mb M_L_bring) (m_Ml M_L_bring) (m_Mr M_L_bring) A [] p l s m args meth c) {h0 : m_H} {v0 v : m_V} {a0 a : m_R} {x0 : Int64} {fm fb fr fl fu fv : Nat → Int32} {n B L : Nat} (hn : n < 2 ^ 30) (h : Inv0 n L B v a) (hX : iX v a) (hJ : iJ v) (hL8 : L ≤ 8) (hM : PM n v fm) (hA : PA B a fb fr fl fu fv) (hs : v 10 = 3) : m_Go D cI cL ad (h0).length (m_Ml M_L_bring) A p l e (m_rm M_L_bring) s m args below meth c (m_VP D cI cL ad (h0).length A (oW v0 a0 x0 none n B (sGoV v a) (sGoA v a)) below args s (m_Mc M_L_bring) (m_Ms M_L_bring)) 36 [(8, .int 0), (0, .ref 17), (1, .ref 18), (2, .ref 19), (3, .ref 20), (4, .ref 21), (5, .ref 22), (6, .int (nI L)), (7, .int (v 4))] [] (hW v0 a0 x0 fm fb fr fl fu fv) 0 0 := by
  have hA' := hA
  obtain ⟨hPB, hR, hPL, hPU⟩ := hA'
  obtain ⟨st, bn, hst, hbn, e15, ebn, es, eg, et, ec, esc⟩ := b_st h
  have hxA : 0 ≤ (a 1 bn).toInt ∧ (a 1 bn).toInt ≤ 1000 := hX.2.2.1 bn
  refine m_aload_n X dL_bring_36 rfl rfl ?_
  refine m_bipush (v := 8) X dL_bring_37 (by decide) rfl ?_
  refine m_ald (k := 8) (x := 3) X dL_bring_39 hW_g0 (vp_in_nI (n := 8) (by decide) (by decide)) (rfl) ((pm8 hM).trans hs) rfl ?_
  refine m_ist (l1 := [(8, .int 3), (0, .ref 17), (1, .ref 18), (2, .ref 19), (3, .ref 20), (4, .ref 21), (5, .ref 22), (6, .int (nI L)), (7, .int (v 4))]) X dL_bring_40 (Nat.le_of_ble_eq_true rfl) rfl rfl ?_
  refine m_iload X dL_bring_42 rfl rfl ?_
  refine m_aload_n X dL_bring_44 rfl rfl ?_
  refine m_iconst (v := 5) X dL_bring_45 (by decide) rfl ?_
  refine m_ald (k := 5) (x := v 0) X dL_bring_46 hW_g0 (vp_in_nI (n := 5) (by decide) (by decide)) (rfl) (pm5 hM) rfl ?_
  refine m_isub X dL_bring_47 rfl ?_
  refine m_top (x1 := gross v) (rfl) ?_
  refine m_ist (l1 := [(9, .int (gross v)), (8, .int 3), (0, .ref 17), (1, .ref 18), (2, .ref 19), (3, .ref 20), (4, .ref 21), (5, .ref 22), (6, .int (nI L)), (7, .int (v 4))]) X dL_bring_48 (Nat.le_of_ble_eq_true rfl) rfl rfl ?_
  refine m_aload_n X dL_bring_50 rfl rfl ?_
  refine m_iconst (v := 4) X dL_bring_51 (by decide) rfl ?_
  refine m_ald (k := 4) (x := nI n) X dL_bring_52 hW_g0 (vp_in_nI (n := 4) (by decide) (by decide)) (rfl) (pm4 hM) rfl ?_
  refine m_aload_n X dL_bring_53 rfl rfl ?_
  refine m_bipush (v := 12) X dL_bring_54 (by decide) rfl ?_
  refine m_ald (k := 12) (x := fm 12) X dL_bring_56 hW_g0 (vp_in_nI (n := 12) (by decide) (by decide)) (rfl) (rfl) rfl ?_
  refine m_isub X dL_bring_57 rfl ?_
  refine m_top (x1 := v 13) (by rw [← pm4 hM]; exact pm12 hM) ?_
  refine m_ist (l1 := [(10, .int (v 13)), (9, .int (gross v)), (8, .int 3), (0, .ref 17), (1, .ref 18), (2, .ref 19), (3, .ref 20), (4, .ref 21), (5, .ref 22), (6, .int (nI L)), (7, .int (v 4))]) X dL_bring_58 (Nat.le_of_ble_eq_true rfl) rfl rfl ?_
  refine m_iload X dL_bring_60 rfl rfl ?_
  refine m_if_ne (tgt := 151) X dL_bring_62 (by decide) rfl (fun b62 => ?_) (fun b62 => absurd b62 (by decide))
  refine m_iload X dL_bring_151 rfl rfl ?_
  refine m_bipush (v := 6) X dL_bring_153 (by decide) rfl ?_
  refine m_icmp_ne (tgt := 162) X dL_bring_155 (by decide) rfl (fun b155 => ?_) (fun b155 => absurd b155 (by decide))
  refine m_iconst (v := 4) X dL_bring_162 (by decide) rfl ?_
  refine m_aload_n X dL_bring_163 rfl rfl ?_
  refine m_iconst (v := 3) X dL_bring_164 (by decide) rfl ?_
  refine m_aload_n X dL_bring_165 rfl rfl ?_
  refine m_bipush (v := 11) X dL_bring_166 (by decide) rfl ?_
  refine m_ald (k := 11) (x := v 15) X dL_bring_168 hW_g0 (vp_in_nI (n := 11) (by decide) (by decide)) (rfl) (pm11 hM) rfl ?_
  refine m_imul X dL_bring_169 rfl ?_
  refine m_top (x1 := nI (3 * st)) (by rw [e15]; exact nI_mul 3 st) ?_
  refine m_ald (k := (3 * st)) (x := nI bn) X dL_bring_170 hW_g2 (vp_in_nI (by omega) (by decide)) (nI_clamp (by omega)) ((hR st hst).1.trans ebn) rfl ?_
  refine m_imul X dL_bring_171 rfl ?_
  refine m_top (x1 := nI (4 * bn)) (nI_mul 4 bn) ?_
  refine m_ist (l1 := [(11, .int (nI (4 * bn))), (10, .int (v 13)), (9, .int (gross v)), (8, .int 3), (0, .ref 17), (1, .ref 18), (2, .ref 19), (3, .ref 20), (4, .ref 21), (5, .ref 22), (6, .int (nI L)), (7, .int (v 4))]) X dL_bring_172 (Nat.le_of_ble_eq_true rfl) rfl rfl ?_
  refine m_iload X dL_bring_174 rfl rfl ?_
  refine m_bipush (v := 6) X dL_bring_176 (by decide) rfl ?_
  refine m_icmp_ne (tgt := 185) X dL_bring_178 (by decide) rfl (fun b178 => ?_) (fun b178 => absurd b178 (by decide))
  refine m_aload_n X dL_bring_185 rfl rfl ?_
  refine m_iconst (v := 3) X dL_bring_186 (by decide) rfl ?_
  refine m_aload_n X dL_bring_187 rfl rfl ?_
  refine m_bipush (v := 11) X dL_bring_188 (by decide) rfl ?_
  refine m_ald (k := 11) (x := v 15) X dL_bring_190 hW_g0 (vp_in_nI (n := 11) (by decide) (by decide)) (rfl) (pm11 hM) rfl ?_
  refine m_imul X dL_bring_191 rfl ?_
  refine m_top (x1 := nI (3 * st)) (by rw [e15]; exact nI_mul 3 st) ?_
  refine m_iconst (v := 1) X dL_bring_192 (by decide) rfl ?_
  refine m_iadd X dL_bring_193 rfl ?_
  refine m_top (x1 := nI (3 * st + 1)) (nI_add (3 * st) 1) ?_
  refine m_ald (k := (3 * st + 1)) (x := stgt v a) X dL_bring_194 hW_g2 (vp_in_nI (by omega) (by decide)) (nI_clamp (by omega)) ((hR st hst).2.1.trans eg.symm) rfl ?_
  refine m_ist (l1 := [(12, .int (stgt v a)), (11, .int (nI (4 * bn))), (10, .int (v 13)), (9, .int (gross v)), (8, .int 3), (0, .ref 17), (1, .ref 18), (2, .ref 19), (3, .ref 20), (4, .ref 21), (5, .ref 22), (6, .int (nI L)), (7, .int (v 4))]) X dL_bring_195 (Nat.le_of_ble_eq_true rfl) rfl rfl ?_
  refine m_aload_n X dL_bring_197 rfl rfl ?_
  refine m_cS1 X dL_bring_198 lk_L_15 mk_L_net st_L_net (c_L_net hM) rfl (Nat.le_of_ble_eq_true rfl) (Nat.le_of_ble_eq_true rfl) (Nat.le_of_ble_eq_true rfl) (Nat.le_of_ble_eq_true rfl) (Nat.le_of_ble_eq_true rfl) rfl ?_
  refine m_ist (l1 := [(13, .int (net v)), (12, .int (stgt v a)), (11, .int (nI (4 * bn))), (10, .int (v 13)), (9, .int (gross v)), (8, .int 3), (0, .ref 17), (1, .ref 18), (2, .ref 19), (3, .ref 20), (4, .ref 21), (5, .ref 22), (6, .int (nI L)), (7, .int (v 4))]) X dL_bring_201 (Nat.le_of_ble_eq_true rfl) rfl rfl ?_
  refine m_iload X dL_bring_203 rfl rfl ?_
  refine m_iconst (v := 1) X dL_bring_205 (by decide) rfl ?_
  refine m_icmp_ne (tgt := 245) X dL_bring_206 (by decide) rfl (fun b206 => ?_) (fun b206 => absurd b206 (by decide))
  refine m_iload X dL_bring_245 rfl rfl ?_
  refine m_iconst (v := 2) X dL_bring_247 (by decide) rfl ?_
  refine m_icmp_eq (tgt := 257) X dL_bring_248 (by decide) rfl (fun b248 => absurd b248 (by decide)) (fun b248 => ?_)
  refine m_iload X dL_bring_251 rfl rfl ?_
  refine m_iconst (v := 3) X dL_bring_253 (by decide) rfl ?_
  refine m_icmp_ne (tgt := 379) X dL_bring_254 (by decide) rfl (fun b254 => absurd b254 (by decide)) (fun b254 => ?_)
  refine m_aload_n X dL_bring_257 rfl rfl ?_
  refine m_bipush (v := 14) X dL_bring_258 (by decide) rfl ?_
  refine m_dup2 X dL_bring_260 rfl rfl rfl ?_
  refine m_ald (k := 14) (x := fm 14) X dL_bring_261 hW_g0 (vp_in_nI (n := 14) (by decide) (by decide)) (rfl) (rfl) rfl ?_
  refine m_iconst (v := 1) X dL_bring_262 (by decide) rfl ?_
  refine m_iadd X dL_bring_263 rfl ?_
  refine m_ast (k := 14) (h1 := (hW v0 a0 x0 (upd fm 14 ((fm 14) + 1)) fb fr fl fu fv)) X dL_bring_264 hW_g0 (vp_in_nI (n := 14) (by decide) (by decide)) (rfl) rfl rfl ?_
  refine m_iload X dL_bring_265 rfl rfl ?_
  refine m_aload_n X dL_bring_267 rfl rfl ?_
  refine m_bipush (v := 16) X dL_bring_268 (by decide) rfl ?_
  refine m_ald (k := 16) (x := v 17) X dL_bring_270 hW_g0 (vp_in_nI (n := 16) (by decide) (by decide)) (rfl) (show fm 16 = v 17 from pm16 hM) rfl ?_
  refine m_icmp_le (tgt := 278) X dL_bring_271 (by decide) rfl (fun b271 => ?_) (fun b271 => ?_)
  · replace b271 : net v ≤ v 17 := b271
    refine m_iconst (v := 0) X dL_bring_278 (by decide) rfl ?_
    refine m_ist (l1 := [(14, .int 0), (13, .int (net v)), (12, .int (stgt v a)), (11, .int (nI (4 * bn))), (10, .int (v 13)), (9, .int (gross v)), (8, .int 3), (0, .ref 17), (1, .ref 18), (2, .ref 19), (3, .ref 20), (4, .ref 21), (5, .ref 22), (6, .int (nI L)), (7, .int (v 4))]) X dL_bring_279 (Nat.le_of_ble_eq_true rfl) rfl rfl ?_
    refine m_aload_n X dL_bring_281 rfl rfl ?_
    refine m_bipush (v := 16) X dL_bring_282 (by decide) rfl ?_
    refine m_iload X dL_bring_284 rfl rfl ?_
    refine m_if_eq (tgt := 294) X dL_bring_286 (by decide) rfl (fun b286 => ?_) (fun b286 => absurd b286 (by decide))
    refine m_aload_n X dL_bring_294 rfl rfl ?_
    refine m_bipush (v := 16) X dL_bring_295 (by decide) rfl ?_
    refine m_ald (k := 16) (x := v 17) X dL_bring_297 hW_g0 (vp_in_nI (n := 16) (by decide) (by decide)) (rfl) (show fm 16 = v 17 from pm16 hM) rfl ?_
    refine m_ast (k := 16) (h1 := (hW v0 a0 x0 (upd (upd fm 14 ((fm 14) + 1)) 16 (v 17)) fb fr fl fu fv)) X dL_bring_298 hW_g0 (vp_in_nI (n := 16) (by decide) (by decide)) (rfl) rfl rfl ?_
    refine m_aload_n X dL_bring_299 rfl rfl ?_
    refine m_bipush (v := 13) X dL_bring_300 (by decide) rfl ?_
    refine m_iload X dL_bring_302 rfl rfl ?_
    refine m_if_eq (tgt := 314) X dL_bring_304 (by decide) rfl (fun b304 => ?_) (fun b304 => absurd b304 (by decide))
    refine m_aload_n X dL_bring_314 rfl rfl ?_
    refine m_bipush (v := 13) X dL_bring_315 (by decide) rfl ?_
    refine m_ald (k := 13) (x := fm 13) X dL_bring_317 hW_g0 (vp_in_nI (n := 13) (by decide) (by decide)) (rfl) (rfl) rfl ?_
    refine m_ast (k := 13) (h1 := (hW v0 a0 x0 (upd (upd (upd fm 14 ((fm 14) + 1)) 16 (v 17)) 13 (fm 13)) fb fr fl fu fv)) X dL_bring_318 hW_g0 (vp_in_nI (n := 13) (by decide) (by decide)) (rfl) rfl rfl ?_
    have eI : sIdle v = upd v 14 (v 14 + 1) := by unfold sIdle; rw [if_pos b271]
    have hM3 : PM n (sIdle v) (upd (upd (upd fm 14 ((fm 14) + 1)) 16 (v 17)) 13 (fm 13)) := by rw [eI]; exact PM_stale hM
    refine m_iload X dL_bring_319 rfl rfl ?_
    refine m_iload X dL_bring_321 rfl rfl ?_
    refine m_isub X dL_bring_323 rfl ?_
    refine m_aload_n X dL_bring_324 rfl rfl ?_
    refine m_iload X dL_bring_325 rfl rfl ?_
    refine m_iconst (v := 2) X dL_bring_327 (by decide) rfl ?_
    refine m_icmp_ne (tgt := 336) X dL_bring_328 (by decide) rfl (fun b328 => ?_) (fun b328 => absurd b328 (by decide))
    refine m_iload X dL_bring_336 rfl rfl ?_
    refine m_iconst (v := 1) X dL_bring_338 (by decide) rfl ?_
    refine m_iadd X dL_bring_339 rfl ?_
    refine m_top (x1 := nI (4 * bn + 1)) (nI_add (4 * bn) 1) ?_
    refine m_ald (k := (4 * bn + 1)) (x := a 1 bn) X dL_bring_340 hW_g1 (vp_in_nI (by omega) (by decide)) (nI_clamp (by omega)) ((hPB bn hbn).2.1) rfl ?_
    refine m_iadd X dL_bring_341 rfl ?_
    refine m_ist (l1 := [(15, .int (((net v) - (stgt v a)) + (a 1 bn))), (14, .int 0), (13, .int (net v)), (12, .int (stgt v a)), (11, .int (nI (4 * bn))), (10, .int (v 13)), (9, .int (gross v)), (8, .int 3), (0, .ref 17), (1, .ref 18), (2, .ref 19), (3, .ref 20), (4, .ref 21), (5, .ref 22), (6, .int (nI L)), (7, .int (v 4))]) X dL_bring_342 (Nat.le_of_ble_eq_true rfl) rfl rfl ?_
    refine m_iload X dL_bring_344 rfl rfl ?_
    refine m_if_lt (tgt := 360) X dL_bring_346 (by decide) rfl (fun b346 => ?_) (fun b346 => ?_)
    · replace b346 : net v - stgt v a + a 1 bn < 0 := b346
      refine m_aload_n X dL_bring_360 rfl rfl ?_
      refine m_bipush (v := 14) X dL_bring_361 (by decide) rfl ?_
      refine m_ald (k := 14) (x := ((fm 14) + 1)) X dL_bring_363 hW_g0 (vp_in_nI (n := 14) (by decide) (by decide)) (rfl) (rfl) rfl ?_
      refine m_aload_n X dL_bring_364 rfl rfl ?_
      refine m_bipush (v := 13) X dL_bring_365 (by decide) rfl ?_
      refine m_ald (k := 13) (x := (fm 13)) X dL_bring_367 hW_g0 (vp_in_nI (n := 13) (by decide) (by decide)) (rfl) (rfl) rfl ?_
      refine m_isub X dL_bring_368 rfl ?_
      refine m_top (x1 := sIdle v 14) (pm13 hM3) ?_
      refine m_bipush (v := 20) X dL_bring_369 (by decide) rfl ?_
      refine m_icmp_lt (tgt := 379) X dL_bring_371 (by decide) rfl (fun b371 => ?_) (fun b371 => ?_)
      · replace b371 : sIdle v 14 < 20 := b371
        refine m_iload X dL_bring_379 rfl rfl ?_
        refine m_iconst (v := 4) X dL_bring_381 (by decide) rfl ?_
        refine m_icmp_ne (tgt := 411) X dL_bring_382 (by decide) rfl (fun b382 => ?_) (fun b382 => absurd b382 (by decide))
        refine m_iload X dL_bring_411 rfl rfl ?_
        refine m_iconst (v := 5) X dL_bring_413 (by decide) rfl ?_
        refine m_icmp_ne (tgt := 428) X dL_bring_414 (by decide) rfl (fun b414 => ?_) (fun b414 => absurd b414 (by decide))
        have eAh : sAhead v a = a 1 bn := by unfold sAhead; rw [if_pos (by rw [hs]; decide), esc]
        have eT : sFeed v a = sIdle v := by unfold sFeed; rw [eAh, if_pos ((over_iff h hxA).mp b346), if_pos b371]
        have eV : sGoV v a = sFeed v a := by unfold sGoV; rw [if_neg (show ¬ v 10 = 0 by rw [hs]; decide), if_neg (show ¬ v 10 = 1 by rw [hs]; decide), if_pos (Or.inr hs)]
        rw [eT] at eV
        have eA : sGoA v a = a := by unfold sGoA; rw [if_neg (show ¬ v 10 = 4 by rw [hs]; decide)]
        refine m_toP (v := none) (hf := (hW v0 a0 x0 (upd (upd (upd fm 14 ((fm 14) + 1)) 16 (v 17)) 13 (fm 13)) fb fr fl fu fv)) ⟨rfl, _, fb, fr, fl, fu, fv, rfl, ?_, ?_⟩ (m_vret X dL_bring_428 rfl rfl (Nat.le_of_ble_eq_true rfl) (Nat.le_of_ble_eq_true rfl) rfl)
        · rw [eV]; exact hM3
        · rw [eA]; exact hA
      · replace b371 : ¬ sIdle v 14 < 20 := b371
        refine m_aload_n X dL_bring_374 rfl rfl ?_
        refine m_iconst (v := 3) X dL_bring_375 (by decide) rfl ?_
        refine m_cS2 X dL_bring_376 lk_L_26 mk_L_stop st_L_stop (c_L_stop) rfl (Nat.le_of_ble_eq_true rfl) (Nat.le_of_ble_eq_true rfl) (Nat.le_of_ble_eq_true rfl) (Nat.le_of_ble_eq_true rfl) (Nat.le_of_ble_eq_true rfl) rfl ?_
        refine m_iload X dL_bring_379 rfl rfl ?_
        refine m_iconst (v := 4) X dL_bring_381 (by decide) rfl ?_
        refine m_icmp_ne (tgt := 411) X dL_bring_382 (by decide) rfl (fun b382 => ?_) (fun b382 => absurd b382 (by decide))
        refine m_iload X dL_bring_411 rfl rfl ?_
        refine m_iconst (v := 5) X dL_bring_413 (by decide) rfl ?_
        refine m_icmp_ne (tgt := 428) X dL_bring_414 (by decide) rfl (fun b414 => ?_) (fun b414 => absurd b414 (by decide))
        have eAh : sAhead v a = a 1 bn := by unfold sAhead; rw [if_pos (by rw [hs]; decide), esc]
        have eT : sFeed v a = sHalt (sIdle v) 3 := by unfold sFeed; rw [eAh, if_pos ((over_iff h hxA).mp b346), if_neg b371]
        have eV : sGoV v a = sFeed v a := by unfold sGoV; rw [if_neg (show ¬ v 10 = 0 by rw [hs]; decide), if_neg (show ¬ v 10 = 1 by rw [hs]; decide), if_pos (Or.inr hs)]
        rw [eT] at eV
        have eA : sGoA v a = a := by unfold sGoA; rw [if_neg (show ¬ v 10 = 4 by rw [hs]; decide)]
        refine m_toP (v := none) (hf := (hW v0 a0 x0 (gStop (upd (upd (upd fm 14 ((fm 14) + 1)) 16 (v 17)) 13 (fm 13)) 3) fb fr fl fu fv)) ⟨rfl, _, fb, fr, fl, fu, fv, rfl, ?_, ?_⟩ (m_vret X dL_bring_428 rfl rfl (Nat.le_of_ble_eq_true rfl) (Nat.le_of_ble_eq_true rfl) rfl)
        · rw [eV]; exact PM_stop hM3
        · rw [eA]; exact hA
    · replace b346 : ¬ net v - stgt v a + a 1 bn < 0 := b346
      refine m_aload_n X dL_bring_349 rfl rfl ?_
      refine m_iload X dL_bring_350 rfl rfl ?_
      refine m_iconst (v := 1) X dL_bring_352 (by decide) rfl ?_
      refine m_iadd X dL_bring_353 rfl ?_
      refine m_top (x1 := 4) (by decide) ?_
      refine m_cS2 X dL_bring_354 lk_L_9 mk_L_turn st_L_turn (c_L_turn) rfl (Nat.le_of_ble_eq_true rfl) (Nat.le_of_ble_eq_true rfl) (Nat.le_of_ble_eq_true rfl) (Nat.le_of_ble_eq_true rfl) (Nat.le_of_ble_eq_true rfl) rfl ?_
      refine m_goto (tgt := 379) X dL_bring_357 (by decide) rfl ?_
      refine m_iload X dL_bring_379 rfl rfl ?_
      refine m_iconst (v := 4) X dL_bring_381 (by decide) rfl ?_
      refine m_icmp_ne (tgt := 411) X dL_bring_382 (by decide) rfl (fun b382 => ?_) (fun b382 => absurd b382 (by decide))
      refine m_iload X dL_bring_411 rfl rfl ?_
      refine m_iconst (v := 5) X dL_bring_413 (by decide) rfl ?_
      refine m_icmp_ne (tgt := 428) X dL_bring_414 (by decide) rfl (fun b414 => ?_) (fun b414 => absurd b414 (by decide))
      have eAh : sAhead v a = a 1 bn := by unfold sAhead; rw [if_pos (by rw [hs]; decide), esc]
      have eT : sFeed v a = sEnter (sIdle v) 4 := by unfold sFeed; rw [eAh, if_neg (fun q => b346 ((over_iff h hxA).mpr q)), if_pos (show ¬ v 10 = 2 by rw [hs]; decide)]
      have eV : sGoV v a = sFeed v a := by unfold sGoV; rw [if_neg (show ¬ v 10 = 0 by rw [hs]; decide), if_neg (show ¬ v 10 = 1 by rw [hs]; decide), if_pos (Or.inr hs)]
      rw [eT] at eV
      have eA : sGoA v a = a := by unfold sGoA; rw [if_neg (show ¬ v 10 = 4 by rw [hs]; decide)]
      refine m_toP (v := none) (hf := (hW v0 a0 x0 (gTurn (upd (upd (upd fm 14 ((fm 14) + 1)) 16 (v 17)) 13 (fm 13)) 4) fb fr fl fu fv)) ⟨rfl, _, fb, fr, fl, fu, fv, rfl, ?_, ?_⟩ (m_vret X dL_bring_428 rfl rfl (Nat.le_of_ble_eq_true rfl) (Nat.le_of_ble_eq_true rfl) rfl)
      · rw [eV]; exact PM_turn (by decide) hM3
      · rw [eA]; exact hA
  · replace b271 : ¬ net v ≤ v 17 := b271
    refine m_iconst (v := 1) X dL_bring_274 (by decide) rfl ?_
    refine m_goto (tgt := 279) X dL_bring_275 (by decide) rfl ?_
    refine m_ist (l1 := [(14, .int 1), (13, .int (net v)), (12, .int (stgt v a)), (11, .int (nI (4 * bn))), (10, .int (v 13)), (9, .int (gross v)), (8, .int 3), (0, .ref 17), (1, .ref 18), (2, .ref 19), (3, .ref 20), (4, .ref 21), (5, .ref 22), (6, .int (nI L)), (7, .int (v 4))]) X dL_bring_279 (Nat.le_of_ble_eq_true rfl) rfl rfl ?_
    refine m_aload_n X dL_bring_281 rfl rfl ?_
    refine m_bipush (v := 16) X dL_bring_282 (by decide) rfl ?_
    refine m_iload X dL_bring_284 rfl rfl ?_
    refine m_if_eq (tgt := 294) X dL_bring_286 (by decide) rfl (fun b286 => absurd b286 (by decide)) (fun b286 => ?_)
    refine m_iload X dL_bring_289 rfl rfl ?_
    refine m_goto (tgt := 298) X dL_bring_291 (by decide) rfl ?_
    refine m_ast (k := 16) (h1 := (hW v0 a0 x0 (upd (upd fm 14 ((fm 14) + 1)) 16 (net v)) fb fr fl fu fv)) X dL_bring_298 hW_g0 (vp_in_nI (n := 16) (by decide) (by decide)) (rfl) rfl rfl ?_
    refine m_aload_n X dL_bring_299 rfl rfl ?_
    refine m_bipush (v := 13) X dL_bring_300 (by decide) rfl ?_
    refine m_iload X dL_bring_302 rfl rfl ?_
    refine m_if_eq (tgt := 314) X dL_bring_304 (by decide) rfl (fun b304 => absurd b304 (by decide)) (fun b304 => ?_)
    refine m_aload_n X dL_bring_307 rfl rfl ?_
    refine m_bipush (v := 14) X dL_bring_308 (by decide) rfl ?_
    refine m_ald (k := 14) (x := ((fm 14) + 1)) X dL_bring_310 hW_g0 (vp_in_nI (n := 14) (by decide) (by decide)) (rfl) (rfl) rfl ?_
    refine m_goto (tgt := 318) X dL_bring_311 (by decide) rfl ?_
    refine m_ast (k := 13) (h1 := (hW v0 a0 x0 (upd (upd (upd fm 14 ((fm 14) + 1)) 16 (net v)) 13 ((fm 14) + 1)) fb fr fl fu fv)) X dL_bring_318 hW_g0 (vp_in_nI (n := 13) (by decide) (by decide)) (rfl) rfl rfl ?_
    have eI : sIdle v = upd (upd v 17 (net v)) 14 0 := by unfold sIdle; rw [if_neg b271]
    have hM3 : PM n (sIdle v) (upd (upd (upd fm 14 ((fm 14) + 1)) 16 (net v)) 13 ((fm 14) + 1)) := by rw [eI]; exact PM_fresh hM
    refine m_iload X dL_bring_319 rfl rfl ?_
    refine m_iload X dL_bring_321 rfl rfl ?_
    refine m_isub X dL_bring_323 rfl ?_
    refine m_aload_n X dL_bring_324 rfl rfl ?_
    refine m_iload X dL_bring_325 rfl rfl ?_
    refine m_iconst (v := 2) X dL_bring_327 (by decide) rfl ?_
    refine m_icmp_ne (tgt := 336) X dL_bring_328 (by decide) rfl (fun b328 => ?_) (fun b328 => absurd b328 (by decide))
    refine m_iload X dL_bring_336 rfl rfl ?_
    refine m_iconst (v := 1) X dL_bring_338 (by decide) rfl ?_
    refine m_iadd X dL_bring_339 rfl ?_
    refine m_top (x1 := nI (4 * bn + 1)) (nI_add (4 * bn) 1) ?_
    refine m_ald (k := (4 * bn + 1)) (x := a 1 bn) X dL_bring_340 hW_g1 (vp_in_nI (by omega) (by decide)) (nI_clamp (by omega)) ((hPB bn hbn).2.1) rfl ?_
    refine m_iadd X dL_bring_341 rfl ?_
    refine m_ist (l1 := [(15, .int (((net v) - (stgt v a)) + (a 1 bn))), (14, .int 1), (13, .int (net v)), (12, .int (stgt v a)), (11, .int (nI (4 * bn))), (10, .int (v 13)), (9, .int (gross v)), (8, .int 3), (0, .ref 17), (1, .ref 18), (2, .ref 19), (3, .ref 20), (4, .ref 21), (5, .ref 22), (6, .int (nI L)), (7, .int (v 4))]) X dL_bring_342 (Nat.le_of_ble_eq_true rfl) rfl rfl ?_
    refine m_iload X dL_bring_344 rfl rfl ?_
    refine m_if_lt (tgt := 360) X dL_bring_346 (by decide) rfl (fun b346 => ?_) (fun b346 => ?_)
    · replace b346 : net v - stgt v a + a 1 bn < 0 := b346
      refine m_aload_n X dL_bring_360 rfl rfl ?_
      refine m_bipush (v := 14) X dL_bring_361 (by decide) rfl ?_
      refine m_ald (k := 14) (x := ((fm 14) + 1)) X dL_bring_363 hW_g0 (vp_in_nI (n := 14) (by decide) (by decide)) (rfl) (rfl) rfl ?_
      refine m_aload_n X dL_bring_364 rfl rfl ?_
      refine m_bipush (v := 13) X dL_bring_365 (by decide) rfl ?_
      refine m_ald (k := 13) (x := ((fm 14) + 1)) X dL_bring_367 hW_g0 (vp_in_nI (n := 13) (by decide) (by decide)) (rfl) (rfl) rfl ?_
      refine m_isub X dL_bring_368 rfl ?_
      refine m_top (x1 := sIdle v 14) (pm13 hM3) ?_
      refine m_bipush (v := 20) X dL_bring_369 (by decide) rfl ?_
      refine m_icmp_lt (tgt := 379) X dL_bring_371 (by decide) rfl (fun b371 => ?_) (fun b371 => ?_)
      · replace b371 : sIdle v 14 < 20 := b371
        refine m_iload X dL_bring_379 rfl rfl ?_
        refine m_iconst (v := 4) X dL_bring_381 (by decide) rfl ?_
        refine m_icmp_ne (tgt := 411) X dL_bring_382 (by decide) rfl (fun b382 => ?_) (fun b382 => absurd b382 (by decide))
        refine m_iload X dL_bring_411 rfl rfl ?_
        refine m_iconst (v := 5) X dL_bring_413 (by decide) rfl ?_
        refine m_icmp_ne (tgt := 428) X dL_bring_414 (by decide) rfl (fun b414 => ?_) (fun b414 => absurd b414 (by decide))
        have eAh : sAhead v a = a 1 bn := by unfold sAhead; rw [if_pos (by rw [hs]; decide), esc]
        have eT : sFeed v a = sIdle v := by unfold sFeed; rw [eAh, if_pos ((over_iff h hxA).mp b346), if_pos b371]
        have eV : sGoV v a = sFeed v a := by unfold sGoV; rw [if_neg (show ¬ v 10 = 0 by rw [hs]; decide), if_neg (show ¬ v 10 = 1 by rw [hs]; decide), if_pos (Or.inr hs)]
        rw [eT] at eV
        have eA : sGoA v a = a := by unfold sGoA; rw [if_neg (show ¬ v 10 = 4 by rw [hs]; decide)]
        refine m_toP (v := none) (hf := (hW v0 a0 x0 (upd (upd (upd fm 14 ((fm 14) + 1)) 16 (net v)) 13 ((fm 14) + 1)) fb fr fl fu fv)) ⟨rfl, _, fb, fr, fl, fu, fv, rfl, ?_, ?_⟩ (m_vret X dL_bring_428 rfl rfl (Nat.le_of_ble_eq_true rfl) (Nat.le_of_ble_eq_true rfl) rfl)
        · rw [eV]; exact hM3
        · rw [eA]; exact hA
      · replace b371 : ¬ sIdle v 14 < 20 := b371
        refine m_aload_n X dL_bring_374 rfl rfl ?_
        refine m_iconst (v := 3) X dL_bring_375 (by decide) rfl ?_
        refine m_cS2 X dL_bring_376 lk_L_26 mk_L_stop st_L_stop (c_L_stop) rfl (Nat.le_of_ble_eq_true rfl) (Nat.le_of_ble_eq_true rfl) (Nat.le_of_ble_eq_true rfl) (Nat.le_of_ble_eq_true rfl) (Nat.le_of_ble_eq_true rfl) rfl ?_
        refine m_iload X dL_bring_379 rfl rfl ?_
        refine m_iconst (v := 4) X dL_bring_381 (by decide) rfl ?_
        refine m_icmp_ne (tgt := 411) X dL_bring_382 (by decide) rfl (fun b382 => ?_) (fun b382 => absurd b382 (by decide))
        refine m_iload X dL_bring_411 rfl rfl ?_
        refine m_iconst (v := 5) X dL_bring_413 (by decide) rfl ?_
        refine m_icmp_ne (tgt := 428) X dL_bring_414 (by decide) rfl (fun b414 => ?_) (fun b414 => absurd b414 (by decide))
        have eAh : sAhead v a = a 1 bn := by unfold sAhead; rw [if_pos (by rw [hs]; decide), esc]
        have eT : sFeed v a = sHalt (sIdle v) 3 := by unfold sFeed; rw [eAh, if_pos ((over_iff h hxA).mp b346), if_neg b371]
        have eV : sGoV v a = sFeed v a := by unfold sGoV; rw [if_neg (show ¬ v 10 = 0 by rw [hs]; decide), if_neg (show ¬ v 10 = 1 by rw [hs]; decide), if_pos (Or.inr hs)]
        rw [eT] at eV
        have eA : sGoA v a = a := by unfold sGoA; rw [if_neg (show ¬ v 10 = 4 by rw [hs]; decide)]
        refine m_toP (v := none) (hf := (hW v0 a0 x0 (gStop (upd (upd (upd fm 14 ((fm 14) + 1)) 16 (net v)) 13 ((fm 14) + 1)) 3) fb fr fl fu fv)) ⟨rfl, _, fb, fr, fl, fu, fv, rfl, ?_, ?_⟩ (m_vret X dL_bring_428 rfl rfl (Nat.le_of_ble_eq_true rfl) (Nat.le_of_ble_eq_true rfl) rfl)
        · rw [eV]; exact PM_stop hM3
        · rw [eA]; exact hA
    · replace b346 : ¬ net v - stgt v a + a 1 bn < 0 := b346
      refine m_aload_n X dL_bring_349 rfl rfl ?_
      refine m_iload X dL_bring_350 rfl rfl ?_
      refine m_iconst (v := 1) X dL_bring_352 (by decide) rfl ?_
      refine m_iadd X dL_bring_353 rfl ?_
      refine m_top (x1 := 4) (by decide) ?_
      refine m_cS2 X dL_bring_354 lk_L_9 mk_L_turn st_L_turn (c_L_turn) rfl (Nat.le_of_ble_eq_true rfl) (Nat.le_of_ble_eq_true rfl) (Nat.le_of_ble_eq_true rfl) (Nat.le_of_ble_eq_true rfl) (Nat.le_of_ble_eq_true rfl) rfl ?_
      refine m_goto (tgt := 379) X dL_bring_357 (by decide) rfl ?_
      refine m_iload X dL_bring_379 rfl rfl ?_
      refine m_iconst (v := 4) X dL_bring_381 (by decide) rfl ?_
      refine m_icmp_ne (tgt := 411) X dL_bring_382 (by decide) rfl (fun b382 => ?_) (fun b382 => absurd b382 (by decide))
      refine m_iload X dL_bring_411 rfl rfl ?_
      refine m_iconst (v := 5) X dL_bring_413 (by decide) rfl ?_
      refine m_icmp_ne (tgt := 428) X dL_bring_414 (by decide) rfl (fun b414 => ?_) (fun b414 => absurd b414 (by decide))
      have eAh : sAhead v a = a 1 bn := by unfold sAhead; rw [if_pos (by rw [hs]; decide), esc]
      have eT : sFeed v a = sEnter (sIdle v) 4 := by unfold sFeed; rw [eAh, if_neg (fun q => b346 ((over_iff h hxA).mpr q)), if_pos (show ¬ v 10 = 2 by rw [hs]; decide)]
      have eV : sGoV v a = sFeed v a := by unfold sGoV; rw [if_neg (show ¬ v 10 = 0 by rw [hs]; decide), if_neg (show ¬ v 10 = 1 by rw [hs]; decide), if_pos (Or.inr hs)]
      rw [eT] at eV
      have eA : sGoA v a = a := by unfold sGoA; rw [if_neg (show ¬ v 10 = 4 by rw [hs]; decide)]
      refine m_toP (v := none) (hf := (hW v0 a0 x0 (gTurn (upd (upd (upd fm 14 ((fm 14) + 1)) 16 (net v)) 13 ((fm 14) + 1)) 4) fb fr fl fu fv)) ⟨rfl, _, fb, fr, fl, fu, fv, rfl, ?_, ?_⟩ (m_vret X dL_bring_428 rfl rfl (Nat.le_of_ble_eq_true rfl) (Nat.le_of_ble_eq_true rfl) rfl)
      · rw [eV]; exact PM_turn (by decide) hM3
      · rw [eA]; exact hA
theorem g_bring4 {D : va_G} {cI cL : ClassId} {sa : Nat → Nat} {A : Nat → Prop} {p : Program} {l : Launch} {e : Env} {s : State} {m : MethodId} {args : Array Value} {below : List Frame} {meth : Method} {c : Code} {ad : Nat → Nat} (X : m_At D cI cL sa (m_My M_L_bring) (m_Mb M_L_bring) (m_Ml M_L_bring) (m_Mr M_L_bring) A [] p l s m args meth c) {h0 : m_H} {v0 v : m_V} {a0 a : m_R} {x0 : Int64} {fm fb fr fl fu fv : Nat → Int32} {n B L : Nat} (hn : n < 2 ^ 30) (h : Inv0 n L B v a) (hX : iX v a) (hJ : iJ v) (hL8 : L ≤ 8) (hM : PM n v fm) (hA : PA B a fb fr fl fu fv) (hs : v 10 = 4) : m_Go D cI cL ad (h0).length (m_Ml M_L_bring) A p l e (m_rm M_L_bring) s m args below meth c (m_VP D cI cL ad (h0).length A (oW v0 a0 x0 none n B (sGoV v a) (sGoA v a)) below args s (m_Mc M_L_bring) (m_Ms M_L_bring)) 36 [(8, .int 0), (0, .ref 17), (1, .ref 18), (2, .ref 19), (3, .ref 20), (4, .ref 21), (5, .ref 22), (6, .int (nI L)), (7, .int (v 4))] [] (hW v0 a0 x0 fm fb fr fl fu fv) 0 0 := by
  have hA' := hA
  obtain ⟨hPB, hR, hPL, hPU⟩ := hA'
  obtain ⟨st, bn, hst, hbn, e15, ebn, es, eg, et, ec, esc⟩ := b_st h
  refine m_aload_n X dL_bring_36 rfl rfl ?_
  refine m_bipush (v := 8) X dL_bring_37 (by decide) rfl ?_
  refine m_ald (k := 8) (x := 4) X dL_bring_39 hW_g0 (vp_in_nI (n := 8) (by decide) (by decide)) (rfl) ((pm8 hM).trans hs) rfl ?_
  refine m_ist (l1 := [(8, .int 4), (0, .ref 17), (1, .ref 18), (2, .ref 19), (3, .ref 20), (4, .ref 21), (5, .ref 22), (6, .int (nI L)), (7, .int (v 4))]) X dL_bring_40 (Nat.le_of_ble_eq_true rfl) rfl rfl ?_
  refine m_iload X dL_bring_42 rfl rfl ?_
  refine m_aload_n X dL_bring_44 rfl rfl ?_
  refine m_iconst (v := 5) X dL_bring_45 (by decide) rfl ?_
  refine m_ald (k := 5) (x := v 0) X dL_bring_46 hW_g0 (vp_in_nI (n := 5) (by decide) (by decide)) (rfl) (pm5 hM) rfl ?_
  refine m_isub X dL_bring_47 rfl ?_
  refine m_top (x1 := gross v) (rfl) ?_
  refine m_ist (l1 := [(9, .int (gross v)), (8, .int 4), (0, .ref 17), (1, .ref 18), (2, .ref 19), (3, .ref 20), (4, .ref 21), (5, .ref 22), (6, .int (nI L)), (7, .int (v 4))]) X dL_bring_48 (Nat.le_of_ble_eq_true rfl) rfl rfl ?_
  refine m_aload_n X dL_bring_50 rfl rfl ?_
  refine m_iconst (v := 4) X dL_bring_51 (by decide) rfl ?_
  refine m_ald (k := 4) (x := nI n) X dL_bring_52 hW_g0 (vp_in_nI (n := 4) (by decide) (by decide)) (rfl) (pm4 hM) rfl ?_
  refine m_aload_n X dL_bring_53 rfl rfl ?_
  refine m_bipush (v := 12) X dL_bring_54 (by decide) rfl ?_
  refine m_ald (k := 12) (x := fm 12) X dL_bring_56 hW_g0 (vp_in_nI (n := 12) (by decide) (by decide)) (rfl) (rfl) rfl ?_
  refine m_isub X dL_bring_57 rfl ?_
  refine m_top (x1 := v 13) (by rw [← pm4 hM]; exact pm12 hM) ?_
  refine m_ist (l1 := [(10, .int (v 13)), (9, .int (gross v)), (8, .int 4), (0, .ref 17), (1, .ref 18), (2, .ref 19), (3, .ref 20), (4, .ref 21), (5, .ref 22), (6, .int (nI L)), (7, .int (v 4))]) X dL_bring_58 (Nat.le_of_ble_eq_true rfl) rfl rfl ?_
  refine m_iload X dL_bring_60 rfl rfl ?_
  refine m_if_ne (tgt := 151) X dL_bring_62 (by decide) rfl (fun b62 => ?_) (fun b62 => absurd b62 (by decide))
  refine m_iload X dL_bring_151 rfl rfl ?_
  refine m_bipush (v := 6) X dL_bring_153 (by decide) rfl ?_
  refine m_icmp_ne (tgt := 162) X dL_bring_155 (by decide) rfl (fun b155 => ?_) (fun b155 => absurd b155 (by decide))
  refine m_iconst (v := 4) X dL_bring_162 (by decide) rfl ?_
  refine m_aload_n X dL_bring_163 rfl rfl ?_
  refine m_iconst (v := 3) X dL_bring_164 (by decide) rfl ?_
  refine m_aload_n X dL_bring_165 rfl rfl ?_
  refine m_bipush (v := 11) X dL_bring_166 (by decide) rfl ?_
  refine m_ald (k := 11) (x := v 15) X dL_bring_168 hW_g0 (vp_in_nI (n := 11) (by decide) (by decide)) (rfl) (pm11 hM) rfl ?_
  refine m_imul X dL_bring_169 rfl ?_
  refine m_top (x1 := nI (3 * st)) (by rw [e15]; exact nI_mul 3 st) ?_
  refine m_ald (k := (3 * st)) (x := nI bn) X dL_bring_170 hW_g2 (vp_in_nI (by omega) (by decide)) (nI_clamp (by omega)) ((hR st hst).1.trans ebn) rfl ?_
  refine m_imul X dL_bring_171 rfl ?_
  refine m_top (x1 := nI (4 * bn)) (nI_mul 4 bn) ?_
  refine m_ist (l1 := [(11, .int (nI (4 * bn))), (10, .int (v 13)), (9, .int (gross v)), (8, .int 4), (0, .ref 17), (1, .ref 18), (2, .ref 19), (3, .ref 20), (4, .ref 21), (5, .ref 22), (6, .int (nI L)), (7, .int (v 4))]) X dL_bring_172 (Nat.le_of_ble_eq_true rfl) rfl rfl ?_
  refine m_iload X dL_bring_174 rfl rfl ?_
  refine m_bipush (v := 6) X dL_bring_176 (by decide) rfl ?_
  refine m_icmp_ne (tgt := 185) X dL_bring_178 (by decide) rfl (fun b178 => ?_) (fun b178 => absurd b178 (by decide))
  refine m_aload_n X dL_bring_185 rfl rfl ?_
  refine m_iconst (v := 3) X dL_bring_186 (by decide) rfl ?_
  refine m_aload_n X dL_bring_187 rfl rfl ?_
  refine m_bipush (v := 11) X dL_bring_188 (by decide) rfl ?_
  refine m_ald (k := 11) (x := v 15) X dL_bring_190 hW_g0 (vp_in_nI (n := 11) (by decide) (by decide)) (rfl) (pm11 hM) rfl ?_
  refine m_imul X dL_bring_191 rfl ?_
  refine m_top (x1 := nI (3 * st)) (by rw [e15]; exact nI_mul 3 st) ?_
  refine m_iconst (v := 1) X dL_bring_192 (by decide) rfl ?_
  refine m_iadd X dL_bring_193 rfl ?_
  refine m_top (x1 := nI (3 * st + 1)) (nI_add (3 * st) 1) ?_
  refine m_ald (k := (3 * st + 1)) (x := stgt v a) X dL_bring_194 hW_g2 (vp_in_nI (by omega) (by decide)) (nI_clamp (by omega)) ((hR st hst).2.1.trans eg.symm) rfl ?_
  refine m_ist (l1 := [(12, .int (stgt v a)), (11, .int (nI (4 * bn))), (10, .int (v 13)), (9, .int (gross v)), (8, .int 4), (0, .ref 17), (1, .ref 18), (2, .ref 19), (3, .ref 20), (4, .ref 21), (5, .ref 22), (6, .int (nI L)), (7, .int (v 4))]) X dL_bring_195 (Nat.le_of_ble_eq_true rfl) rfl rfl ?_
  refine m_aload_n X dL_bring_197 rfl rfl ?_
  refine m_cS1 X dL_bring_198 lk_L_15 mk_L_net st_L_net (c_L_net hM) rfl (Nat.le_of_ble_eq_true rfl) (Nat.le_of_ble_eq_true rfl) (Nat.le_of_ble_eq_true rfl) (Nat.le_of_ble_eq_true rfl) (Nat.le_of_ble_eq_true rfl) rfl ?_
  refine m_ist (l1 := [(13, .int (net v)), (12, .int (stgt v a)), (11, .int (nI (4 * bn))), (10, .int (v 13)), (9, .int (gross v)), (8, .int 4), (0, .ref 17), (1, .ref 18), (2, .ref 19), (3, .ref 20), (4, .ref 21), (5, .ref 22), (6, .int (nI L)), (7, .int (v 4))]) X dL_bring_201 (Nat.le_of_ble_eq_true rfl) rfl rfl ?_
  refine m_iload X dL_bring_203 rfl rfl ?_
  refine m_iconst (v := 1) X dL_bring_205 (by decide) rfl ?_
  refine m_icmp_ne (tgt := 245) X dL_bring_206 (by decide) rfl (fun b206 => ?_) (fun b206 => absurd b206 (by decide))
  refine m_iload X dL_bring_245 rfl rfl ?_
  refine m_iconst (v := 2) X dL_bring_247 (by decide) rfl ?_
  refine m_icmp_eq (tgt := 257) X dL_bring_248 (by decide) rfl (fun b248 => absurd b248 (by decide)) (fun b248 => ?_)
  refine m_iload X dL_bring_251 rfl rfl ?_
  refine m_iconst (v := 3) X dL_bring_253 (by decide) rfl ?_
  refine m_icmp_ne (tgt := 379) X dL_bring_254 (by decide) rfl (fun b254 => ?_) (fun b254 => absurd b254 (by decide))
  refine m_iload X dL_bring_379 rfl rfl ?_
  refine m_iconst (v := 4) X dL_bring_381 (by decide) rfl ?_
  refine m_icmp_ne (tgt := 411) X dL_bring_382 (by decide) rfl (fun b382 => absurd b382 (by decide)) (fun b382 => ?_)
  refine m_iload X dL_bring_385 rfl rfl ?_
  refine m_iconst (v := 3) X dL_bring_387 (by decide) rfl ?_
  refine m_icmp_le (tgt := 411) X dL_bring_388 (by decide) rfl (fun b388 => ?_) (fun b388 => ?_)
  · replace b388 : v 13 ≤ 3 := b388
    refine m_iload X dL_bring_411 rfl rfl ?_
    refine m_iconst (v := 5) X dL_bring_413 (by decide) rfl ?_
    refine m_icmp_ne (tgt := 428) X dL_bring_414 (by decide) rfl (fun b414 => ?_) (fun b414 => absurd b414 (by decide))
    have eV : sGoV v a = v := by unfold sGoV; rw [if_neg (show ¬ v 10 = 0 by rw [hs]; decide), if_neg (show ¬ v 10 = 1 by rw [hs]; decide), if_neg (show ¬ (v 10 = 2 ∨ v 10 = 3) by rw [hs]; decide), if_pos hs, if_pos (le3.mp b388)]
    have eA : sGoA v a = a := by unfold sGoA; rw [if_pos hs, if_pos (le3.mp b388)]
    refine m_toP (v := none) (hf := (hW v0 a0 x0 fm fb fr fl fu fv)) ⟨rfl, _, fb, fr, fl, fu, fv, rfl, ?_, ?_⟩ (m_vret X dL_bring_428 rfl rfl (Nat.le_of_ble_eq_true rfl) (Nat.le_of_ble_eq_true rfl) rfl)
    · rw [eV]; exact hM
    · rw [eA]; exact hA
  · replace b388 : ¬ v 13 ≤ 3 := b388
    refine m_aload_n X dL_bring_391 rfl rfl ?_
    refine m_cS1 X dL_bring_392 lk_L_33 mk_L_isSettled st_L_isSettled (c_L_isSettled hn hM h.2.1.2.1 hX.1.1 hX.1.2.1 hX.1.2.2.1 hX.1.2.2.2) rfl (Nat.le_of_ble_eq_true rfl) (Nat.le_of_ble_eq_true rfl) (Nat.le_of_ble_eq_true rfl) (Nat.le_of_ble_eq_true rfl) (Nat.le_of_ble_eq_true rfl) rfl ?_
    refine m_if_eq (tgt := 411) X dL_bring_395 (by decide) rfl (fun b395 => ?_) (fun b395 => ?_)
    · replace b395 : bi (calm v) = 0 := b395
      refine m_iload X dL_bring_411 rfl rfl ?_
      refine m_iconst (v := 5) X dL_bring_413 (by decide) rfl ?_
      refine m_icmp_ne (tgt := 428) X dL_bring_414 (by decide) rfl (fun b414 => ?_) (fun b414 => absurd b414 (by decide))
      have eV : sGoV v a = v := by unfold sGoV; rw [if_neg (show ¬ v 10 = 0 by rw [hs]; decide), if_neg (show ¬ v 10 = 1 by rw [hs]; decide), if_neg (show ¬ (v 10 = 2 ∨ v 10 = 3) by rw [hs]; decide), if_pos hs, if_neg (fun q => b388 (le3.mpr q)), if_pos b395]
      have eA : sGoA v a = a := by unfold sGoA; rw [if_pos hs, if_neg (fun q => b388 (le3.mpr q)), if_pos b395]
      refine m_toP (v := none) (hf := (hW v0 a0 x0 fm fb fr fl fu fv)) ⟨rfl, _, fb, fr, fl, fu, fv, rfl, ?_, ?_⟩ (m_vret X dL_bring_428 rfl rfl (Nat.le_of_ble_eq_true rfl) (Nat.le_of_ble_eq_true rfl) rfl)
      · rw [eV]; exact hM
      · rw [eA]; exact hA
    · replace b395 : ¬ bi (calm v) = 0 := b395
      refine m_aload_n X dL_bring_398 rfl rfl ?_
      refine m_aload_n X dL_bring_399 rfl rfl ?_
      refine m_aload_n X dL_bring_400 rfl rfl ?_
      refine m_aload_n X dL_bring_401 rfl rfl ?_
      refine m_aload X dL_bring_402 rfl rfl ?_
      refine m_aload X dL_bring_404 rfl rfl ?_
      refine m_iload X dL_bring_406 rfl rfl ?_
      refine m_pS7 (M := M_L_weigh) X dL_bring_408 ll_L_37 mk_L_weigh st_L_weigh (c_L_weigh (h.1.2.2.1 (by rw [hs]; decide)) h hX hJ hL8 hM hA) (oW_len) (Nat.le_of_ble_eq_true rfl) (Nat.le_of_ble_eq_true rfl) (Nat.le_of_ble_eq_true rfl) (Nat.le_of_ble_eq_true rfl) (Nat.le_of_ble_eq_true rfl) rfl ?_
      rintro _ _ ⟨rfl, km, kb, kr, kl, ku, kv, rfl, hM3, hA3⟩
      refine m_iload X dL_bring_411 rfl rfl ?_
      refine m_iconst (v := 5) X dL_bring_413 (by decide) rfl ?_
      refine m_icmp_ne (tgt := 428) X dL_bring_414 (by decide) rfl (fun b414 => ?_) (fun b414 => absurd b414 (by decide))
      have eV : sGoV v a = sWeighV v a := by unfold sGoV; rw [if_neg (show ¬ v 10 = 0 by rw [hs]; decide), if_neg (show ¬ v 10 = 1 by rw [hs]; decide), if_neg (show ¬ (v 10 = 2 ∨ v 10 = 3) by rw [hs]; decide), if_pos hs, if_neg (fun q => b388 (le3.mpr q)), if_neg b395]
      have eA : sGoA v a = sWeighA v a := by unfold sGoA; rw [if_pos hs, if_neg (fun q => b388 (le3.mpr q)), if_neg b395]
      refine m_toP (v := none) (hf := (hW v0 a0 x0 km kb kr kl ku kv)) ⟨rfl, _, kb, kr, kl, ku, kv, rfl, ?_, ?_⟩ (m_vret X dL_bring_428 rfl rfl (Nat.le_of_ble_eq_true rfl) (Nat.le_of_ble_eq_true rfl) rfl)
      · rw [eV]; exact hM3
      · rw [eA]; exact hA3
theorem g_bring5 {D : va_G} {cI cL : ClassId} {sa : Nat → Nat} {A : Nat → Prop} {p : Program} {l : Launch} {e : Env} {s : State} {m : MethodId} {args : Array Value} {below : List Frame} {meth : Method} {c : Code} {ad : Nat → Nat} (X : m_At D cI cL sa (m_My M_L_bring) (m_Mb M_L_bring) (m_Ml M_L_bring) (m_Mr M_L_bring) A [] p l s m args meth c) {h0 : m_H} {v0 v : m_V} {a0 a : m_R} {x0 : Int64} {fm fb fr fl fu fv : Nat → Int32} {n B L : Nat} (hn : n < 2 ^ 30) (h : Inv0 n L B v a) (hX : iX v a) (hJ : iJ v) (hL8 : L ≤ 8) (hM : PM n v fm) (hA : PA B a fb fr fl fu fv) (hs : v 10 = 5) : m_Go D cI cL ad (h0).length (m_Ml M_L_bring) A p l e (m_rm M_L_bring) s m args below meth c (m_VP D cI cL ad (h0).length A (oW v0 a0 x0 none n B (sGoV v a) (sGoA v a)) below args s (m_Mc M_L_bring) (m_Ms M_L_bring)) 36 [(8, .int 0), (0, .ref 17), (1, .ref 18), (2, .ref 19), (3, .ref 20), (4, .ref 21), (5, .ref 22), (6, .int (nI L)), (7, .int (v 4))] [] (hW v0 a0 x0 fm fb fr fl fu fv) 0 0 := by
  have hA' := hA
  obtain ⟨hPB, hR, hPL, hPU⟩ := hA'
  obtain ⟨st, bn, hst, hbn, e15, ebn, es, eg, et, ec, esc⟩ := b_st h
  refine m_aload_n X dL_bring_36 rfl rfl ?_
  refine m_bipush (v := 8) X dL_bring_37 (by decide) rfl ?_
  refine m_ald (k := 8) (x := 5) X dL_bring_39 hW_g0 (vp_in_nI (n := 8) (by decide) (by decide)) (rfl) ((pm8 hM).trans hs) rfl ?_
  refine m_ist (l1 := [(8, .int 5), (0, .ref 17), (1, .ref 18), (2, .ref 19), (3, .ref 20), (4, .ref 21), (5, .ref 22), (6, .int (nI L)), (7, .int (v 4))]) X dL_bring_40 (Nat.le_of_ble_eq_true rfl) rfl rfl ?_
  refine m_iload X dL_bring_42 rfl rfl ?_
  refine m_aload_n X dL_bring_44 rfl rfl ?_
  refine m_iconst (v := 5) X dL_bring_45 (by decide) rfl ?_
  refine m_ald (k := 5) (x := v 0) X dL_bring_46 hW_g0 (vp_in_nI (n := 5) (by decide) (by decide)) (rfl) (pm5 hM) rfl ?_
  refine m_isub X dL_bring_47 rfl ?_
  refine m_top (x1 := gross v) (rfl) ?_
  refine m_ist (l1 := [(9, .int (gross v)), (8, .int 5), (0, .ref 17), (1, .ref 18), (2, .ref 19), (3, .ref 20), (4, .ref 21), (5, .ref 22), (6, .int (nI L)), (7, .int (v 4))]) X dL_bring_48 (Nat.le_of_ble_eq_true rfl) rfl rfl ?_
  refine m_aload_n X dL_bring_50 rfl rfl ?_
  refine m_iconst (v := 4) X dL_bring_51 (by decide) rfl ?_
  refine m_ald (k := 4) (x := nI n) X dL_bring_52 hW_g0 (vp_in_nI (n := 4) (by decide) (by decide)) (rfl) (pm4 hM) rfl ?_
  refine m_aload_n X dL_bring_53 rfl rfl ?_
  refine m_bipush (v := 12) X dL_bring_54 (by decide) rfl ?_
  refine m_ald (k := 12) (x := fm 12) X dL_bring_56 hW_g0 (vp_in_nI (n := 12) (by decide) (by decide)) (rfl) (rfl) rfl ?_
  refine m_isub X dL_bring_57 rfl ?_
  refine m_top (x1 := v 13) (by rw [← pm4 hM]; exact pm12 hM) ?_
  refine m_ist (l1 := [(10, .int (v 13)), (9, .int (gross v)), (8, .int 5), (0, .ref 17), (1, .ref 18), (2, .ref 19), (3, .ref 20), (4, .ref 21), (5, .ref 22), (6, .int (nI L)), (7, .int (v 4))]) X dL_bring_58 (Nat.le_of_ble_eq_true rfl) rfl rfl ?_
  refine m_iload X dL_bring_60 rfl rfl ?_
  refine m_if_ne (tgt := 151) X dL_bring_62 (by decide) rfl (fun b62 => ?_) (fun b62 => absurd b62 (by decide))
  refine m_iload X dL_bring_151 rfl rfl ?_
  refine m_bipush (v := 6) X dL_bring_153 (by decide) rfl ?_
  refine m_icmp_ne (tgt := 162) X dL_bring_155 (by decide) rfl (fun b155 => ?_) (fun b155 => absurd b155 (by decide))
  refine m_iconst (v := 4) X dL_bring_162 (by decide) rfl ?_
  refine m_aload_n X dL_bring_163 rfl rfl ?_
  refine m_iconst (v := 3) X dL_bring_164 (by decide) rfl ?_
  refine m_aload_n X dL_bring_165 rfl rfl ?_
  refine m_bipush (v := 11) X dL_bring_166 (by decide) rfl ?_
  refine m_ald (k := 11) (x := v 15) X dL_bring_168 hW_g0 (vp_in_nI (n := 11) (by decide) (by decide)) (rfl) (pm11 hM) rfl ?_
  refine m_imul X dL_bring_169 rfl ?_
  refine m_top (x1 := nI (3 * st)) (by rw [e15]; exact nI_mul 3 st) ?_
  refine m_ald (k := (3 * st)) (x := nI bn) X dL_bring_170 hW_g2 (vp_in_nI (by omega) (by decide)) (nI_clamp (by omega)) ((hR st hst).1.trans ebn) rfl ?_
  refine m_imul X dL_bring_171 rfl ?_
  refine m_top (x1 := nI (4 * bn)) (nI_mul 4 bn) ?_
  refine m_ist (l1 := [(11, .int (nI (4 * bn))), (10, .int (v 13)), (9, .int (gross v)), (8, .int 5), (0, .ref 17), (1, .ref 18), (2, .ref 19), (3, .ref 20), (4, .ref 21), (5, .ref 22), (6, .int (nI L)), (7, .int (v 4))]) X dL_bring_172 (Nat.le_of_ble_eq_true rfl) rfl rfl ?_
  refine m_iload X dL_bring_174 rfl rfl ?_
  refine m_bipush (v := 6) X dL_bring_176 (by decide) rfl ?_
  refine m_icmp_ne (tgt := 185) X dL_bring_178 (by decide) rfl (fun b178 => ?_) (fun b178 => absurd b178 (by decide))
  refine m_aload_n X dL_bring_185 rfl rfl ?_
  refine m_iconst (v := 3) X dL_bring_186 (by decide) rfl ?_
  refine m_aload_n X dL_bring_187 rfl rfl ?_
  refine m_bipush (v := 11) X dL_bring_188 (by decide) rfl ?_
  refine m_ald (k := 11) (x := v 15) X dL_bring_190 hW_g0 (vp_in_nI (n := 11) (by decide) (by decide)) (rfl) (pm11 hM) rfl ?_
  refine m_imul X dL_bring_191 rfl ?_
  refine m_top (x1 := nI (3 * st)) (by rw [e15]; exact nI_mul 3 st) ?_
  refine m_iconst (v := 1) X dL_bring_192 (by decide) rfl ?_
  refine m_iadd X dL_bring_193 rfl ?_
  refine m_top (x1 := nI (3 * st + 1)) (nI_add (3 * st) 1) ?_
  refine m_ald (k := (3 * st + 1)) (x := stgt v a) X dL_bring_194 hW_g2 (vp_in_nI (by omega) (by decide)) (nI_clamp (by omega)) ((hR st hst).2.1.trans eg.symm) rfl ?_
  refine m_ist (l1 := [(12, .int (stgt v a)), (11, .int (nI (4 * bn))), (10, .int (v 13)), (9, .int (gross v)), (8, .int 5), (0, .ref 17), (1, .ref 18), (2, .ref 19), (3, .ref 20), (4, .ref 21), (5, .ref 22), (6, .int (nI L)), (7, .int (v 4))]) X dL_bring_195 (Nat.le_of_ble_eq_true rfl) rfl rfl ?_
  refine m_aload_n X dL_bring_197 rfl rfl ?_
  refine m_cS1 X dL_bring_198 lk_L_15 mk_L_net st_L_net (c_L_net hM) rfl (Nat.le_of_ble_eq_true rfl) (Nat.le_of_ble_eq_true rfl) (Nat.le_of_ble_eq_true rfl) (Nat.le_of_ble_eq_true rfl) (Nat.le_of_ble_eq_true rfl) rfl ?_
  refine m_ist (l1 := [(13, .int (net v)), (12, .int (stgt v a)), (11, .int (nI (4 * bn))), (10, .int (v 13)), (9, .int (gross v)), (8, .int 5), (0, .ref 17), (1, .ref 18), (2, .ref 19), (3, .ref 20), (4, .ref 21), (5, .ref 22), (6, .int (nI L)), (7, .int (v 4))]) X dL_bring_201 (Nat.le_of_ble_eq_true rfl) rfl rfl ?_
  refine m_iload X dL_bring_203 rfl rfl ?_
  refine m_iconst (v := 1) X dL_bring_205 (by decide) rfl ?_
  refine m_icmp_ne (tgt := 245) X dL_bring_206 (by decide) rfl (fun b206 => ?_) (fun b206 => absurd b206 (by decide))
  refine m_iload X dL_bring_245 rfl rfl ?_
  refine m_iconst (v := 2) X dL_bring_247 (by decide) rfl ?_
  refine m_icmp_eq (tgt := 257) X dL_bring_248 (by decide) rfl (fun b248 => absurd b248 (by decide)) (fun b248 => ?_)
  refine m_iload X dL_bring_251 rfl rfl ?_
  refine m_iconst (v := 3) X dL_bring_253 (by decide) rfl ?_
  refine m_icmp_ne (tgt := 379) X dL_bring_254 (by decide) rfl (fun b254 => ?_) (fun b254 => absurd b254 (by decide))
  refine m_iload X dL_bring_379 rfl rfl ?_
  refine m_iconst (v := 4) X dL_bring_381 (by decide) rfl ?_
  refine m_icmp_ne (tgt := 411) X dL_bring_382 (by decide) rfl (fun b382 => ?_) (fun b382 => absurd b382 (by decide))
  refine m_iload X dL_bring_411 rfl rfl ?_
  refine m_iconst (v := 5) X dL_bring_413 (by decide) rfl ?_
  refine m_icmp_ne (tgt := 428) X dL_bring_414 (by decide) rfl (fun b414 => absurd b414 (by decide)) (fun b414 => ?_)
  refine m_iload X dL_bring_417 rfl rfl ?_
  refine m_iconst (v := 1) X dL_bring_419 (by decide) rfl ?_
  refine m_icmp_le (tgt := 428) X dL_bring_420 (by decide) rfl (fun b420 => ?_) (fun b420 => ?_)
  · replace b420 : v 13 ≤ 1 := b420
    have eV : sGoV v a = v := by unfold sGoV; rw [if_neg (show ¬ v 10 = 0 by rw [hs]; decide), if_neg (show ¬ v 10 = 1 by rw [hs]; decide), if_neg (show ¬ (v 10 = 2 ∨ v 10 = 3) by rw [hs]; decide), if_neg (show ¬ v 10 = 4 by rw [hs]; decide), if_pos hs, if_pos (le1.mp b420)]
    have eA : sGoA v a = a := by unfold sGoA; rw [if_neg (show ¬ v 10 = 4 by rw [hs]; decide)]
    refine m_toP (v := none) (hf := (hW v0 a0 x0 fm fb fr fl fu fv)) ⟨rfl, _, fb, fr, fl, fu, fv, rfl, ?_, ?_⟩ (m_vret X dL_bring_428 rfl rfl (Nat.le_of_ble_eq_true rfl) (Nat.le_of_ble_eq_true rfl) rfl)
    · rw [eV]; exact hM
    · rw [eA]; exact hA
  · replace b420 : ¬ v 13 ≤ 1 := b420
    refine m_aload_n X dL_bring_423 rfl rfl ?_
    refine m_iconst (v := 4) X dL_bring_424 (by decide) rfl ?_
    refine m_cS2 X dL_bring_425 lk_L_9 mk_L_turn st_L_turn (c_L_turn) rfl (Nat.le_of_ble_eq_true rfl) (Nat.le_of_ble_eq_true rfl) (Nat.le_of_ble_eq_true rfl) (Nat.le_of_ble_eq_true rfl) (Nat.le_of_ble_eq_true rfl) rfl ?_
    have eV : sGoV v a = sEnter v 4 := by unfold sGoV; rw [if_neg (show ¬ v 10 = 0 by rw [hs]; decide), if_neg (show ¬ v 10 = 1 by rw [hs]; decide), if_neg (show ¬ (v 10 = 2 ∨ v 10 = 3) by rw [hs]; decide), if_neg (show ¬ v 10 = 4 by rw [hs]; decide), if_pos hs, if_neg (fun q => b420 (le1.mpr q))]
    have eA : sGoA v a = a := by unfold sGoA; rw [if_neg (show ¬ v 10 = 4 by rw [hs]; decide)]
    refine m_toP (v := none) (hf := (hW v0 a0 x0 (gTurn fm 4) fb fr fl fu fv)) ⟨rfl, _, fb, fr, fl, fu, fv, rfl, ?_, ?_⟩ (m_vret X dL_bring_428 rfl rfl (Nat.le_of_ble_eq_true rfl) (Nat.le_of_ble_eq_true rfl) rfl)
    · rw [eV]; exact PM_turn (by decide) hM
    · rw [eA]; exact hA
theorem g_bring6 {D : va_G} {cI cL : ClassId} {sa : Nat → Nat} {A : Nat → Prop} {p : Program} {l : Launch} {e : Env} {s : State} {m : MethodId} {args : Array Value} {below : List Frame} {meth : Method} {c : Code} {ad : Nat → Nat} (X : m_At D cI cL sa (m_My M_L_bring) (m_Mb M_L_bring) (m_Ml M_L_bring) (m_Mr M_L_bring) A [] p l s m args meth c) {h0 : m_H} {v0 v : m_V} {a0 a : m_R} {x0 : Int64} {fm fb fr fl fu fv : Nat → Int32} {n B L : Nat} (hn : n < 2 ^ 30) (h : Inv0 n L B v a) (hX : iX v a) (hJ : iJ v) (hL8 : L ≤ 8) (hM : PM n v fm) (hA : PA B a fb fr fl fu fv) (hs : v 10 = 6) : m_Go D cI cL ad (h0).length (m_Ml M_L_bring) A p l e (m_rm M_L_bring) s m args below meth c (m_VP D cI cL ad (h0).length A (oW v0 a0 x0 none n B (sGoV v a) (sGoA v a)) below args s (m_Mc M_L_bring) (m_Ms M_L_bring)) 36 [(8, .int 0), (0, .ref 17), (1, .ref 18), (2, .ref 19), (3, .ref 20), (4, .ref 21), (5, .ref 22), (6, .int (nI L)), (7, .int (v 4))] [] (hW v0 a0 x0 fm fb fr fl fu fv) 0 0 := by
  have hA' := hA
  obtain ⟨hPB, hR, hPL, hPU⟩ := hA'
  obtain ⟨st, bn, hst, hbn, e15, ebn, es, eg, et, ec, esc⟩ := b_st h
  refine m_aload_n X dL_bring_36 rfl rfl ?_
  refine m_bipush (v := 8) X dL_bring_37 (by decide) rfl ?_
  refine m_ald (k := 8) (x := 6) X dL_bring_39 hW_g0 (vp_in_nI (n := 8) (by decide) (by decide)) (rfl) ((pm8 hM).trans hs) rfl ?_
  refine m_ist (l1 := [(8, .int 6), (0, .ref 17), (1, .ref 18), (2, .ref 19), (3, .ref 20), (4, .ref 21), (5, .ref 22), (6, .int (nI L)), (7, .int (v 4))]) X dL_bring_40 (Nat.le_of_ble_eq_true rfl) rfl rfl ?_
  refine m_iload X dL_bring_42 rfl rfl ?_
  refine m_aload_n X dL_bring_44 rfl rfl ?_
  refine m_iconst (v := 5) X dL_bring_45 (by decide) rfl ?_
  refine m_ald (k := 5) (x := v 0) X dL_bring_46 hW_g0 (vp_in_nI (n := 5) (by decide) (by decide)) (rfl) (pm5 hM) rfl ?_
  refine m_isub X dL_bring_47 rfl ?_
  refine m_top (x1 := gross v) (rfl) ?_
  refine m_ist (l1 := [(9, .int (gross v)), (8, .int 6), (0, .ref 17), (1, .ref 18), (2, .ref 19), (3, .ref 20), (4, .ref 21), (5, .ref 22), (6, .int (nI L)), (7, .int (v 4))]) X dL_bring_48 (Nat.le_of_ble_eq_true rfl) rfl rfl ?_
  refine m_aload_n X dL_bring_50 rfl rfl ?_
  refine m_iconst (v := 4) X dL_bring_51 (by decide) rfl ?_
  refine m_ald (k := 4) (x := nI n) X dL_bring_52 hW_g0 (vp_in_nI (n := 4) (by decide) (by decide)) (rfl) (pm4 hM) rfl ?_
  refine m_aload_n X dL_bring_53 rfl rfl ?_
  refine m_bipush (v := 12) X dL_bring_54 (by decide) rfl ?_
  refine m_ald (k := 12) (x := fm 12) X dL_bring_56 hW_g0 (vp_in_nI (n := 12) (by decide) (by decide)) (rfl) (rfl) rfl ?_
  refine m_isub X dL_bring_57 rfl ?_
  refine m_top (x1 := v 13) (by rw [← pm4 hM]; exact pm12 hM) ?_
  refine m_ist (l1 := [(10, .int (v 13)), (9, .int (gross v)), (8, .int 6), (0, .ref 17), (1, .ref 18), (2, .ref 19), (3, .ref 20), (4, .ref 21), (5, .ref 22), (6, .int (nI L)), (7, .int (v 4))]) X dL_bring_58 (Nat.le_of_ble_eq_true rfl) rfl rfl ?_
  refine m_iload X dL_bring_60 rfl rfl ?_
  refine m_if_ne (tgt := 151) X dL_bring_62 (by decide) rfl (fun b62 => ?_) (fun b62 => absurd b62 (by decide))
  refine m_iload X dL_bring_151 rfl rfl ?_
  refine m_bipush (v := 6) X dL_bring_153 (by decide) rfl ?_
  refine m_icmp_ne (tgt := 162) X dL_bring_155 (by decide) rfl (fun b155 => absurd b155 (by decide)) (fun b155 => ?_)
  refine m_iconst (v := 0) X dL_bring_158 (by decide) rfl ?_
  refine m_goto (tgt := 172) X dL_bring_159 (by decide) rfl ?_
  refine m_ist (l1 := [(11, .int 0), (10, .int (v 13)), (9, .int (gross v)), (8, .int 6), (0, .ref 17), (1, .ref 18), (2, .ref 19), (3, .ref 20), (4, .ref 21), (5, .ref 22), (6, .int (nI L)), (7, .int (v 4))]) X dL_bring_172 (Nat.le_of_ble_eq_true rfl) rfl rfl ?_
  refine m_iload X dL_bring_174 rfl rfl ?_
  refine m_bipush (v := 6) X dL_bring_176 (by decide) rfl ?_
  refine m_icmp_ne (tgt := 185) X dL_bring_178 (by decide) rfl (fun b178 => absurd b178 (by decide)) (fun b178 => ?_)
  refine m_iconst (v := 0) X dL_bring_181 (by decide) rfl ?_
  refine m_goto (tgt := 195) X dL_bring_182 (by decide) rfl ?_
  refine m_ist (l1 := [(12, .int 0), (11, .int 0), (10, .int (v 13)), (9, .int (gross v)), (8, .int 6), (0, .ref 17), (1, .ref 18), (2, .ref 19), (3, .ref 20), (4, .ref 21), (5, .ref 22), (6, .int (nI L)), (7, .int (v 4))]) X dL_bring_195 (Nat.le_of_ble_eq_true rfl) rfl rfl ?_
  refine m_aload_n X dL_bring_197 rfl rfl ?_
  refine m_cS1 X dL_bring_198 lk_L_15 mk_L_net st_L_net (c_L_net hM) rfl (Nat.le_of_ble_eq_true rfl) (Nat.le_of_ble_eq_true rfl) (Nat.le_of_ble_eq_true rfl) (Nat.le_of_ble_eq_true rfl) (Nat.le_of_ble_eq_true rfl) rfl ?_
  refine m_ist (l1 := [(13, .int (net v)), (12, .int 0), (11, .int 0), (10, .int (v 13)), (9, .int (gross v)), (8, .int 6), (0, .ref 17), (1, .ref 18), (2, .ref 19), (3, .ref 20), (4, .ref 21), (5, .ref 22), (6, .int (nI L)), (7, .int (v 4))]) X dL_bring_201 (Nat.le_of_ble_eq_true rfl) rfl rfl ?_
  refine m_iload X dL_bring_203 rfl rfl ?_
  refine m_iconst (v := 1) X dL_bring_205 (by decide) rfl ?_
  refine m_icmp_ne (tgt := 245) X dL_bring_206 (by decide) rfl (fun b206 => ?_) (fun b206 => absurd b206 (by decide))
  refine m_iload X dL_bring_245 rfl rfl ?_
  refine m_iconst (v := 2) X dL_bring_247 (by decide) rfl ?_
  refine m_icmp_eq (tgt := 257) X dL_bring_248 (by decide) rfl (fun b248 => absurd b248 (by decide)) (fun b248 => ?_)
  refine m_iload X dL_bring_251 rfl rfl ?_
  refine m_iconst (v := 3) X dL_bring_253 (by decide) rfl ?_
  refine m_icmp_ne (tgt := 379) X dL_bring_254 (by decide) rfl (fun b254 => ?_) (fun b254 => absurd b254 (by decide))
  refine m_iload X dL_bring_379 rfl rfl ?_
  refine m_iconst (v := 4) X dL_bring_381 (by decide) rfl ?_
  refine m_icmp_ne (tgt := 411) X dL_bring_382 (by decide) rfl (fun b382 => ?_) (fun b382 => absurd b382 (by decide))
  refine m_iload X dL_bring_411 rfl rfl ?_
  refine m_iconst (v := 5) X dL_bring_413 (by decide) rfl ?_
  refine m_icmp_ne (tgt := 428) X dL_bring_414 (by decide) rfl (fun b414 => ?_) (fun b414 => absurd b414 (by decide))
  have eV : sGoV v a = v := by unfold sGoV; rw [if_neg (show ¬ v 10 = 0 by rw [hs]; decide), if_neg (show ¬ v 10 = 1 by rw [hs]; decide), if_neg (show ¬ (v 10 = 2 ∨ v 10 = 3) by rw [hs]; decide), if_neg (show ¬ v 10 = 4 by rw [hs]; decide), if_neg (show ¬ v 10 = 5 by rw [hs]; decide)]
  have eA : sGoA v a = a := by unfold sGoA; rw [if_neg (show ¬ v 10 = 4 by rw [hs]; decide)]
  refine m_toP (v := none) (hf := (hW v0 a0 x0 fm fb fr fl fu fv)) ⟨rfl, _, fb, fr, fl, fu, fv, rfl, ?_, ?_⟩ (m_vret X dL_bring_428 rfl rfl (Nat.le_of_ble_eq_true rfl) (Nat.le_of_ble_eq_true rfl) rfl)
  · rw [eV]; exact hM
  · rw [eA]; exact hA
theorem g_bring {D : va_G} {cI cL : ClassId} {sa : Nat → Nat} {A : Nat → Prop} {p : Program} {l : Launch} {e : Env} {s : State} {m : MethodId} {args : Array Value} {below : List Frame} {meth : Method} {c : Code} {ad : Nat → Nat} (X : m_At D cI cL sa (m_My M_L_bring) (m_Mb M_L_bring) (m_Ml M_L_bring) (m_Mr M_L_bring) A [] p l s m args meth c) {h0 : m_H} {v0 v : m_V} {a0 a : m_R} {x0 : Int64} {fm fb fr fl fu fv : Nat → Int32} {n B L : Nat} (hn : n < 2 ^ 30) (h : Inv0 n L B v a) (hX : iX v a) (hJ : iJ v) (hL8 : L ≤ 8) (hM : PM n v fm) (hA : PA B a fb fr fl fu fv) : m_Go D cI cL ad (h0).length (m_Ml M_L_bring) A p l e (m_rm M_L_bring) s m args below meth c (m_VP D cI cL ad (h0).length A (oW v0 a0 x0 none n B (sGoV v a) (sGoA v a)) below args s (m_Mc M_L_bring) (m_Ms M_L_bring)) 36 [(8, .int 0), (0, .ref 17), (1, .ref 18), (2, .ref 19), (3, .ref 20), (4, .ref 21), (5, .ref 22), (6, .int (nI L)), (7, .int (v 4))] [] (hW v0 a0 x0 fm fb fr fl fu fv) 0 0 := by
  rcases h.1.2.2.2.1 with hs | hs | hs | hs | hs | hs | hs
  · exact g_bring0 X hn h hX hJ hL8 hM hA hs
  · exact g_bring1 X hn h hX hJ hL8 hM hA hs
  · exact g_bring2 X hn h hX hJ hL8 hM hA hs
  · exact g_bring3 X hn h hX hJ hL8 hM hA hs
  · exact g_bring4 X hn h hX hJ hL8 hM hA hs
  · exact g_bring5 X hn h hX hJ hL8 hM hA hs
  · exact g_bring6 X hn h hX hJ hL8 hM hA hs
theorem PA_ring {v : m_V} {a : m_R} {fb fr fl fu fv : Nat → Int32} {B : Nat} {r : Int32} (hA : PA B a fb fr fl fu fv) : PA B (sRing v a r) fb fr fl fu fv := by
  obtain ⟨h1, h2, h3, h4⟩ := hA
  exact ⟨fun k hk => h1 k hk, fun k hk => h2 k hk, h3, h4⟩
theorem bring_eq {v0 v : m_V} {a0 a : m_R} {x0 : Int64} {n B : Nat} {r : Int32} : oW v0 a0 x0 none (n + 1) B (sBringV v a r) (sBringA v a r) = oW v0 a0 x0 none (n + 1) B (sGoV (sCount v r) (sRing v a r)) (sGoA (sCount v r) (sRing v a r)) := rfl
theorem c_L_bring {v0 v : m_V} {a0 a : m_R} {x0 : Int64} {fm fb fr fl fu fv : Nat → Int32} {n B L : Nat} {r : Int32} (hn : n + 1 < 2 ^ 30) (hr : -1000 ≤ r ∧ r ≤ 100000) (h : J n L B v a) (hM : PM n v fm) (hA : PA B a fb fr fl fu fv) : m_CtrP M_L_bring [.ref 17, .ref 18, .ref 19, .ref 20, .ref 21, .ref 22, .int (nI L), .int r] (hW v0 a0 x0 fm fb fr fl fu fv) (oW v0 a0 x0 none (n + 1) B (sBringV v a r) (sBringA v a r)) := by
  have hj := J_count (by omega) hr h
  have hT := PM_take (r := r) hM
  have hA9 : PA B (sRing v a r) fb fr fl fu fv := PA_ring hA
  rw [bring_eq]
  refine m_introG (by decide +kernel) (Nat.le_of_ble_eq_true rfl) (fun {D cI cL sa A p l e s m args below meth c ad} X _ => ?_)
  refine m_lp (l1 := [(0, .ref 17), (1, .ref 18), (2, .ref 19), (3, .ref 20), (4, .ref 21), (5, .ref 22), (6, .int (nI L)), (7, .int r)]) [0, 1, 2, 3, 4, 5, 6, 7] rfl ?_
  have G9 : m_Go D cI cL ad ((hW v0 a0 x0 fm fb fr fl fu fv)).length (m_Ml M_L_bring) A p l e (m_rm M_L_bring) s m args below meth c (m_VP D cI cL ad ((hW v0 a0 x0 fm fb fr fl fu fv)).length A (oW v0 a0 x0 none (n + 1) B (sGoV (sCount v r) (sRing v a r)) (sGoA (sCount v r) (sRing v a r))) below args s (m_Mc M_L_bring) (m_Ms M_L_bring)) 36 [(8, .int 0), (0, .ref 17), (1, .ref 18), (2, .ref 19), (3, .ref 20), (4, .ref 21), (5, .ref 22), (6, .int (nI L)), (7, .int r)] [] (hW v0 a0 x0 (upd (upd (upd (upd (upd fm 3 (v 6)) 2 (v 5)) 1 (v 4)) 0 r) 4 (nI (n + 1))) fb fr fl fu fv) 0 0 :=
    g_bring (v := sCount v r) (a := sRing v a r) X hn hj.1 hj.2.1 hj.2.2 h.2.2.2.1 hT hA9
  refine m_iconst (v := 3) X dL_bring_0 (by decide) rfl ?_
  refine m_ist (l1 := [(8, .int 3), (0, .ref 17), (1, .ref 18), (2, .ref 19), (3, .ref 20), (4, .ref 21), (5, .ref 22), (6, .int (nI L)), (7, .int r)]) X dL_bring_1 (Nat.le_of_ble_eq_true rfl) rfl rfl ?_
  refine m_iload X dL_bring_3 rfl rfl ?_
  refine m_if_le (tgt := 24) X dL_bring_5 (by decide) rfl (fun b5 => absurd b5 (by decide)) (fun b5 => ?_)
  refine m_aload_n X dL_bring_8 rfl rfl ?_
  refine m_iload X dL_bring_9 rfl rfl ?_
  refine m_aload_n X dL_bring_11 rfl rfl ?_
  refine m_iload X dL_bring_12 rfl rfl ?_
  refine m_iconst (v := 1) X dL_bring_14 (by decide) rfl ?_
  refine m_isub X dL_bring_15 rfl ?_
  refine m_top (x1 := 2) (by decide) ?_
  refine m_ald (k := 2) (x := v 6) X dL_bring_16 hW_g0 (vp_in_nI (n := 2) (by decide) (by decide)) (rfl) (pm2 hM) rfl ?_
  refine m_ast (k := 3) (h1 := (hW v0 a0 x0 (upd fm 3 (v 6)) fb fr fl fu fv)) X dL_bring_17 hW_g0 (vp_in_nI (n := 3) (by decide) (by decide)) (rfl) rfl rfl ?_
  refine m_inc (x1 := 2) (l1 := [(8, .int 2), (0, .ref 17), (1, .ref 18), (2, .ref 19), (3, .ref 20), (4, .ref 21), (5, .ref 22), (6, .int (nI L)), (7, .int r)]) X dL_bring_18 rfl (Nat.le_of_ble_eq_true rfl) (by decide) rfl rfl ?_
  refine m_goto (tgt := 3) X dL_bring_21 (by decide) rfl ?_
  refine m_iload X dL_bring_3 rfl rfl ?_
  refine m_if_le (tgt := 24) X dL_bring_5 (by decide) rfl (fun b5 => absurd b5 (by decide)) (fun b5 => ?_)
  refine m_aload_n X dL_bring_8 rfl rfl ?_
  refine m_iload X dL_bring_9 rfl rfl ?_
  refine m_aload_n X dL_bring_11 rfl rfl ?_
  refine m_iload X dL_bring_12 rfl rfl ?_
  refine m_iconst (v := 1) X dL_bring_14 (by decide) rfl ?_
  refine m_isub X dL_bring_15 rfl ?_
  refine m_top (x1 := 1) (by decide) ?_
  refine m_ald (k := 1) (x := v 5) X dL_bring_16 hW_g0 (vp_in_nI (n := 1) (by decide) (by decide)) (rfl) (show fm 1 = v 5 from pm1 hM) rfl ?_
  refine m_ast (k := 2) (h1 := (hW v0 a0 x0 (upd (upd fm 3 (v 6)) 2 (v 5)) fb fr fl fu fv)) X dL_bring_17 hW_g0 (vp_in_nI (n := 2) (by decide) (by decide)) (rfl) rfl rfl ?_
  refine m_inc (x1 := 1) (l1 := [(8, .int 1), (0, .ref 17), (1, .ref 18), (2, .ref 19), (3, .ref 20), (4, .ref 21), (5, .ref 22), (6, .int (nI L)), (7, .int r)]) X dL_bring_18 rfl (Nat.le_of_ble_eq_true rfl) (by decide) rfl rfl ?_
  refine m_goto (tgt := 3) X dL_bring_21 (by decide) rfl ?_
  refine m_iload X dL_bring_3 rfl rfl ?_
  refine m_if_le (tgt := 24) X dL_bring_5 (by decide) rfl (fun b5 => absurd b5 (by decide)) (fun b5 => ?_)
  refine m_aload_n X dL_bring_8 rfl rfl ?_
  refine m_iload X dL_bring_9 rfl rfl ?_
  refine m_aload_n X dL_bring_11 rfl rfl ?_
  refine m_iload X dL_bring_12 rfl rfl ?_
  refine m_iconst (v := 1) X dL_bring_14 (by decide) rfl ?_
  refine m_isub X dL_bring_15 rfl ?_
  refine m_top (x1 := 0) (by decide) ?_
  refine m_ald (k := 0) (x := v 4) X dL_bring_16 hW_g0 (vp_in_nI (n := 0) (by decide) (by decide)) (rfl) (show fm 0 = v 4 from pm0 hM) rfl ?_
  refine m_ast (k := 1) (h1 := (hW v0 a0 x0 (upd (upd (upd fm 3 (v 6)) 2 (v 5)) 1 (v 4)) fb fr fl fu fv)) X dL_bring_17 hW_g0 (vp_in_nI (n := 1) (by decide) (by decide)) (rfl) rfl rfl ?_
  refine m_inc (x1 := 0) (l1 := [(8, .int 0), (0, .ref 17), (1, .ref 18), (2, .ref 19), (3, .ref 20), (4, .ref 21), (5, .ref 22), (6, .int (nI L)), (7, .int r)]) X dL_bring_18 rfl (Nat.le_of_ble_eq_true rfl) (by decide) rfl rfl ?_
  refine m_goto (tgt := 3) X dL_bring_21 (by decide) rfl ?_
  refine m_iload X dL_bring_3 rfl rfl ?_
  refine m_if_le (tgt := 24) X dL_bring_5 (by decide) rfl (fun b5 => ?_) (fun b5 => absurd b5 (by decide))
  refine m_aload_n X dL_bring_24 rfl rfl ?_
  refine m_iconst (v := 0) X dL_bring_25 (by decide) rfl ?_
  refine m_iload X dL_bring_26 rfl rfl ?_
  refine m_ast (k := 0) (h1 := (hW v0 a0 x0 (upd (upd (upd (upd fm 3 (v 6)) 2 (v 5)) 1 (v 4)) 0 r) fb fr fl fu fv)) X dL_bring_28 hW_g0 (vp_in_nI (n := 0) (by decide) (by decide)) (rfl) rfl rfl ?_
  refine m_aload_n X dL_bring_29 rfl rfl ?_
  refine m_iconst (v := 4) X dL_bring_30 (by decide) rfl ?_
  refine m_dup2 X dL_bring_31 rfl rfl rfl ?_
  refine m_ald (k := 4) (x := nI n) X dL_bring_32 hW_g0 (vp_in_nI (n := 4) (by decide) (by decide)) (rfl) (show fm 4 = nI n from pm4 hM) rfl ?_
  refine m_iconst (v := 1) X dL_bring_33 (by decide) rfl ?_
  refine m_iadd X dL_bring_34 rfl ?_
  refine m_top (x1 := nI (n + 1)) ((nI_succ n).symm) ?_
  refine m_ast (k := 4) (h1 := (hW v0 a0 x0 (upd (upd (upd (upd (upd fm 3 (v 6)) 2 (v 5)) 1 (v 4)) 0 r) 4 (nI (n + 1))) fb fr fl fu fv)) X dL_bring_35 hW_g0 (vp_in_nI (n := 4) (by decide) (by decide)) (rfl) rfl rfl ?_
  exact G9
end LA4

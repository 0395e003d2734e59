section LA3
theorem err_rg {n L B : Nat} {v : m_V} {a : m_R} (h : Inv0 n L B v a) : -400000 ≤ (sErr v a).toInt ∧ (sErr v a).toInt ≤ 400000 := by
  have hn := net_int h.2.2.1
  obtain ⟨h1, h2, h3, h4⟩ := h.2.2.1
  have h5 := h4 (v 15).toNatClampNeg
  unfold sErr stgt
  rw [Jvm.Kit.i32_sub (by rw [hn]; omega) (by rw [hn]; omega), hn]
  omega
theorem neg_int {t : Int32} (h0 : 0 ≤ t.toInt) : (-t).toInt = -t.toInt := by
  have e : -t = 0 - t := by grind
  have ez : (0 : Int32).toInt = 0 := rfl
  have hl := Int32.toInt_lt t
  rw [e, Jvm.Kit.i32_sub (by rw [ez]; omega) (by rw [ez]; omega), ez]
  omega
theorem tol_1 {e t : Int32} (he : -400000 ≤ e.toInt ∧ e.toInt ≤ 400000) (ht : 0 ≤ t.toInt ∧ t.toInt ≤ 1000) : 0 ≤ e + t ↔ -t ≤ e := by
  have ez : (0 : Int32).toInt = 0 := rfl
  rw [i_le, i_le, Jvm.Kit.i32_add (by omega) (by omega), neg_int ht.1, ez]
  omega
theorem tol_2 {e t : Int32} (he : -400000 ≤ e.toInt ∧ e.toInt ≤ 400000) (ht : 0 ≤ t.toInt ∧ t.toInt ≤ 1000) : e - t ≤ 0 ↔ e ≤ t := by
  have ez : (0 : Int32).toInt = 0 := rfl
  rw [i_le, i_le, Jvm.Kit.i32_sub (by omega) (by omega), ez]
  omega
theorem over_iff {n L B : Nat} {v : m_V} {a : m_R} {x : Int32} (h : Inv0 n L B v a) (hx : 0 ≤ x.toInt ∧ x.toInt ≤ 1000) : net v - stgt v a + x < 0 ↔ net v < stgt v a - x := by
  have he := err_rg h
  have hn := net_int h.2.2.1
  obtain ⟨h1, h2, h3, h4⟩ := h.2.2.1
  have h5 := h4 (v 15).toNatClampNeg
  have h6 : 0 ≤ (stgt v a).toInt ∧ (stgt v a).toInt ≤ 10000 := h5
  have es : (net v - stgt v a).toInt = (net v).toInt - (stgt v a).toInt := Jvm.Kit.i32_sub (by rw [hn]; omega) (by rw [hn]; omega)
  have ez : (0 : Int32).toInt = 0 := rfl
  have et : (stgt v a - x).toInt = (stgt v a).toInt - x.toInt := Jvm.Kit.i32_sub (by omega) (by omega)
  rw [i_lt, i_lt, Jvm.Kit.i32_add (by rw [es]; omega) (by rw [es]; omega), es, et, ez]
  omega
theorem le3 {x : Int32} : x ≤ 3 ↔ x < 4 := by
  have e3 : (3 : Int32).toInt = 3 := rfl
  have e4 : (4 : Int32).toInt = 4 := rfl
  rw [i_le, i_lt, e3, e4]; omega
theorem le1 {x : Int32} : x ≤ 1 ↔ x < 2 := by
  have e3 : (1 : Int32).toInt = 1 := rfl
  have e4 : (2 : Int32).toInt = 2 := rfl
  rw [i_le, i_lt, e3, e4]; omega
theorem jog_lt {v : m_V} (h : iJ v) (hn : ¬ v 16 = 5) : ¬ 5 ≤ v 16 := by
  intro q
  have e5 : (5 : Int32).toInt = 5 := rfl
  rw [i_le, e5] at q
  have h1 := h.1
  exact hn (Int32.toInt_inj.mp (by rw [e5]; omega))
theorem inv_w {n L B : Nat} {v : m_V} {a : m_R} (h : Inv0 n L B v a) : Inv0 n L B (sW1 v) (sW2 v a) := by
  unfold sW1 sW2
  by_cases hw : ¬ v 19 = 0
  · rw [if_pos hw, if_pos hw]; exact h
  · rw [if_neg hw, if_neg hw]; exact h
theorem c_L_weigh {v0 v : m_V} {a0 a : m_R} {x0 : Int64} {fm fb fr fl fu fv : Nat → Int32} {n B L : Nat} (hB1 : 1 ≤ B) (h : Inv0 n L B v a) (hX : iX v a) (hJ : iJ v) (hL8 : L ≤ 8) (hM : PM n v fm) (hA : PA B a fb fr fl fu fv) : m_CtrP M_L_weigh [.ref 17, .ref 18, .ref 19, .ref 20, .ref 21, .ref 22, .int (nI L)] (hW v0 a0 x0 fm fb fr fl fu fv) (oW v0 a0 x0 none n B (sWeighV v a) (sWeighA v a)) := by
  obtain ⟨hPB, hR, hPL, hPU⟩ := hA
  obtain ⟨st, bn, hst, hbn, e15, ebn, es, eg, et, ec, esc⟩ := b_st h
  have hJ1 := iJ_w hJ
  have hc1 := tol_1 (t := stol v a) (err_rg h) (hX.2.2.2 _)
  have hc2 := tol_2 (t := stol v a) (err_rg h) (hX.2.2.2 _)
  refine m_introG (by decide +kernel) (Nat.le_of_ble_eq_true rfl) (fun {D cI cL sa A p l e s m args below meth c ad} X _ => ?_)
  refine m_lp (l1 := [(0, .ref 17), (1, .ref 18), (2, .ref 19), (3, .ref 20), (4, .ref 21), (5, .ref 22), (6, .int (nI L))]) [0, 1, 2, 3, 4, 5, 6] rfl ?_
  have k85 : ∀ gm gb : Nat → Int32, PM n (sW1 v) gm → PA B (sW2 v a) gb fr fl fu fv → m_Go D cI cL ad ((hW v0 a0 x0 fm fb fr fl fu fv)).length (m_Ml M_L_weigh) A p l e (m_rm M_L_weigh) s m args below meth c (m_VP D cI cL ad ((hW v0 a0 x0 fm fb fr fl fu fv)).length A (oW v0 a0 x0 none n B (sWeighV v a) (sWeighA v a)) below args s (m_Mc M_L_weigh) (m_Ms M_L_weigh)) 85 [(8, .int (sErr v a)), (7, .int (nI (3 * st))), (0, .ref 17), (1, .ref 18), (2, .ref 19), (3, .ref 20), (4, .ref 21), (5, .ref 22), (6, .int (nI L))] [] (hW v0 a0 x0 gm gb fr fl fu fv) 0 0 := by
    intro gm gb hM2 hA2
    refine m_iload X dL_weigh_85 rfl rfl ?_
    refine m_aload_n X dL_weigh_87 rfl rfl ?_
    refine m_iload X dL_weigh_88 rfl rfl ?_
    refine m_iconst (v := 2) X dL_weigh_90 (by decide) rfl ?_
    refine m_iadd X dL_weigh_91 rfl ?_
    refine m_top (x1 := nI (3 * st + 2)) (nI_add (3 * st) 2) ?_
    refine m_ald (k := (3 * st + 2)) (x := stol v a) X dL_weigh_92 hW_g2 (vp_in_nI (by omega) (by decide)) (nI_clamp (by omega)) ((hR st hst).2.2.trans et.symm) rfl ?_
    refine m_iadd X dL_weigh_93 rfl ?_
    refine m_if_ge (tgt := 113) X dL_weigh_94 (by decide) rfl (fun b94 => ?_) (fun b94 => ?_)
    · replace b94 := hc1.mp b94
      refine m_iload X dL_weigh_113 rfl rfl ?_
      refine m_aload_n X dL_weigh_115 rfl rfl ?_
      refine m_iload X dL_weigh_116 rfl rfl ?_
      refine m_iconst (v := 2) X dL_weigh_118 (by decide) rfl ?_
      refine m_iadd X dL_weigh_119 rfl ?_
      refine m_top (x1 := nI (3 * st + 2)) (nI_add (3 * st) 2) ?_
      refine m_ald (k := (3 * st + 2)) (x := stol v a) X dL_weigh_120 hW_g2 (vp_in_nI (by omega) (by decide)) (nI_clamp (by omega)) ((hR st hst).2.2.trans et.symm) rfl ?_
      refine m_iadd X dL_weigh_121 rfl ?_
      refine m_if_ge (tgt := 141) X dL_weigh_122 (by decide) rfl (fun b122 => ?_) (fun b122 => absurd b122 (not_not_intro (hc1.mpr b94)))
      refine m_iload X dL_weigh_141 rfl rfl ?_
      refine m_aload_n X dL_weigh_143 rfl rfl ?_
      refine m_iload X dL_weigh_144 rfl rfl ?_
      refine m_iconst (v := 2) X dL_weigh_146 (by decide) rfl ?_
      refine m_iadd X dL_weigh_147 rfl ?_
      refine m_top (x1 := nI (3 * st + 2)) (nI_add (3 * st) 2) ?_
      refine m_ald (k := (3 * st + 2)) (x := stol v a) X dL_weigh_148 hW_g2 (vp_in_nI (by omega) (by decide)) (nI_clamp (by omega)) ((hR st hst).2.2.trans et.symm) rfl ?_
      refine m_isub X dL_weigh_149 rfl ?_
      refine m_if_le (tgt := 161) X dL_weigh_150 (by decide) rfl (fun b150 => ?_) (fun b150 => ?_)
      · replace b150 := hc2.mp b150
        refine m_aload_n X dL_weigh_161 rfl rfl ?_
        refine m_aload_n X dL_weigh_162 rfl rfl ?_
        refine m_aload_n X dL_weigh_163 rfl rfl ?_
        refine m_aload_n X dL_weigh_164 rfl rfl ?_
        refine m_aload X dL_weigh_165 rfl rfl ?_
        refine m_aload X dL_weigh_167 rfl rfl ?_
        refine m_iload X dL_weigh_169 rfl rfl ?_
        refine m_pS7 (M := M_L_end) X dL_weigh_171 ll_L_29 mk_L_end st_L_end (c_L_end hB1 (inv_w h) hL8 hM2 hA2) (oW_len) (Nat.le_of_ble_eq_true rfl) (Nat.le_of_ble_eq_true rfl) (Nat.le_of_ble_eq_true rfl) (Nat.le_of_ble_eq_true rfl) (Nat.le_of_ble_eq_true rfl) rfl ?_
        rintro _ _ ⟨rfl, km, kb, kr, kl, ku, kv, rfl, hM3, hA3⟩
        have eV : sWeighV v a = sFinish (sW1 v) := by unfold sWeighV; rw [if_pos b94, if_pos b150]
        have eA : sWeighA v a = sBook (sW1 v) (sW2 v a) := by unfold sWeighA; rw [if_pos b94, if_pos b150]
        refine m_toP (v := none) (hf := (hW v0 a0 x0 km kb kr kl ku kv)) ⟨rfl, _, kb, kr, kl, ku, kv, rfl, ?_, ?_⟩ (m_vret X dL_weigh_174 rfl rfl (Nat.le_of_ble_eq_true rfl) (Nat.le_of_ble_eq_true rfl) rfl)
        · rw [eV]; exact hM3
        · rw [eA]; exact hA3
      · replace b150 := fun q => b150 (hc2.mpr q)
        refine m_aload_n X dL_weigh_153 rfl rfl ?_
        refine m_iconst (v := 2) X dL_weigh_154 (by decide) rfl ?_
        refine m_cS2 X dL_weigh_155 lk_L_26 mk_L_stop st_L_stop (c_L_stop) rfl (Nat.le_of_ble_eq_true rfl) (Nat.le_of_ble_eq_true rfl) (Nat.le_of_ble_eq_true rfl) (Nat.le_of_ble_eq_true rfl) (Nat.le_of_ble_eq_true rfl) rfl ?_
        refine m_goto (tgt := 174) X dL_weigh_158 (by decide) rfl ?_
        have eV : sWeighV v a = sHalt (sW1 v) 2 := by unfold sWeighV; rw [if_pos b94, if_neg b150]
        have eA : sWeighA v a = sW2 v a := by unfold sWeighA; rw [if_pos b94, if_neg b150]
        refine m_toP (v := none) (hf := (hW v0 a0 x0 (gStop gm 2) gb fr fl fu fv)) ⟨rfl, _, gb, fr, fl, fu, fv, rfl, ?_, ?_⟩ (m_vret X dL_weigh_174 rfl rfl (Nat.le_of_ble_eq_true rfl) (Nat.le_of_ble_eq_true rfl) rfl)
        · rw [eV]; exact PM_stop hM2
        · rw [eA]; exact hA2
    · replace b94 := fun q => b94 (hc1.mpr q)
      refine m_aload_n X dL_weigh_97 rfl rfl ?_
      refine m_bipush (v := 15) X dL_weigh_98 (by decide) rfl ?_
      refine m_ald (k := 15) (x := sW1 v 16) X dL_weigh_100 hW_g0 (vp_in_nI (n := 15) (by decide) (by decide)) (rfl) (pm15 hM2) rfl ?_
      refine m_iconst (v := 5) X dL_weigh_101 (by decide) rfl ?_
      refine m_icmp_ne (tgt := 113) X dL_weigh_102 (by decide) rfl (fun b102 => ?_) (fun b102 => ?_)
      · refine m_iload X dL_weigh_113 rfl rfl ?_
        refine m_aload_n X dL_weigh_115 rfl rfl ?_
        refine m_iload X dL_weigh_116 rfl rfl ?_
        refine m_iconst (v := 2) X dL_weigh_118 (by decide) rfl ?_
        refine m_iadd X dL_weigh_119 rfl ?_
        refine m_top (x1 := nI (3 * st + 2)) (nI_add (3 * st) 2) ?_
        refine m_ald (k := (3 * st + 2)) (x := stol v a) X dL_weigh_120 hW_g2 (vp_in_nI (by omega) (by decide)) (nI_clamp (by omega)) ((hR st hst).2.2.trans et.symm) rfl ?_
        refine m_iadd X dL_weigh_121 rfl ?_
        refine m_if_ge (tgt := 141) X dL_weigh_122 (by decide) rfl (fun b122 => absurd b122 (fun q => b94 (hc1.mp q))) (fun b122 => ?_)
        refine m_aload_n X dL_weigh_125 rfl rfl ?_
        refine m_bipush (v := 15) X dL_weigh_126 (by decide) rfl ?_
        refine m_dup2 X dL_weigh_128 rfl rfl rfl ?_
        refine m_ald (k := 15) (x := sW1 v 16) X dL_weigh_129 hW_g0 (vp_in_nI (n := 15) (by decide) (by decide)) (rfl) (pm15 hM2) rfl ?_
        refine m_iconst (v := 1) X dL_weigh_130 (by decide) rfl ?_
        refine m_iadd X dL_weigh_131 rfl ?_
        refine m_ast (k := 15) (h1 := (hW v0 a0 x0 (upd gm 15 ((sW1 v 16) + 1)) gb fr fl fu fv)) X dL_weigh_132 hW_g0 (vp_in_nI (n := 15) (by decide) (by decide)) (rfl) rfl rfl ?_
        refine m_aload_n X dL_weigh_133 rfl rfl ?_
        refine m_iconst (v := 5) X dL_weigh_134 (by decide) rfl ?_
        refine m_cS2 X dL_weigh_135 lk_L_9 mk_L_turn st_L_turn (c_L_turn) rfl (Nat.le_of_ble_eq_true rfl) (Nat.le_of_ble_eq_true rfl) (Nat.le_of_ble_eq_true rfl) (Nat.le_of_ble_eq_true rfl) (Nat.le_of_ble_eq_true rfl) rfl ?_
        refine m_goto (tgt := 174) X dL_weigh_138 (by decide) rfl ?_
        have eV : sWeighV v a = sEnter (upd (sW1 v) 16 (sW1 v 16 + 1)) 5 := by unfold sWeighV sJog; rw [if_neg b94, if_neg (jog_lt hJ1 b102)]
        have eA : sWeighA v a = sW2 v a := by unfold sWeighA; rw [if_neg b94]
        refine m_toP (v := none) (hf := (hW v0 a0 x0 (gTurn (upd gm 15 ((sW1 v 16) + 1)) 5) gb fr fl fu fv)) ⟨rfl, _, gb, fr, fl, fu, fv, rfl, ?_, ?_⟩ (m_vret X dL_weigh_174 rfl rfl (Nat.le_of_ble_eq_true rfl) (Nat.le_of_ble_eq_true rfl) rfl)
        · rw [eV]; exact PM_turn (by decide) (PM_jog hM2)
        · rw [eA]; exact hA2
      · replace b102 : sW1 v 16 = 5 := b102
        refine m_aload_n X dL_weigh_105 rfl rfl ?_
        refine m_iconst (v := 1) X dL_weigh_106 (by decide) rfl ?_
        refine m_cS2 X dL_weigh_107 lk_L_26 mk_L_stop st_L_stop (c_L_stop) rfl (Nat.le_of_ble_eq_true rfl) (Nat.le_of_ble_eq_true rfl) (Nat.le_of_ble_eq_true rfl) (Nat.le_of_ble_eq_true rfl) (Nat.le_of_ble_eq_true rfl) rfl ?_
        refine m_goto (tgt := 174) X dL_weigh_110 (by decide) rfl ?_
        have eV : sWeighV v a = sHalt (sW1 v) 1 := by unfold sWeighV sJog; rw [if_neg b94, if_pos (by rw [b102]; decide)]
        have eA : sWeighA v a = sW2 v a := by unfold sWeighA; rw [if_neg b94]
        refine m_toP (v := none) (hf := (hW v0 a0 x0 (gStop gm 1) gb fr fl fu fv)) ⟨rfl, _, gb, fr, fl, fu, fv, rfl, ?_, ?_⟩ (m_vret X dL_weigh_174 rfl rfl (Nat.le_of_ble_eq_true rfl) (Nat.le_of_ble_eq_true rfl) rfl)
        · rw [eV]; exact PM_stop hM2
        · rw [eA]; exact hA2
  refine m_iconst (v := 3) X dL_weigh_0 (by decide) rfl ?_
  refine m_aload_n X dL_weigh_1 rfl rfl ?_
  refine m_bipush (v := 11) X dL_weigh_2 (by decide) rfl ?_
  refine m_ald (k := 11) (x := v 15) X dL_weigh_4 hW_g0 (vp_in_nI (n := 11) (by decide) (by decide)) (rfl) (pm11 hM) rfl ?_
  refine m_imul X dL_weigh_5 rfl ?_
  refine m_top (x1 := nI (3 * st)) (by rw [e15]; exact nI_mul 3 st) ?_
  refine m_ist (l1 := [(7, .int (nI (3 * st))), (0, .ref 17), (1, .ref 18), (2, .ref 19), (3, .ref 20), (4, .ref 21), (5, .ref 22), (6, .int (nI L))]) X dL_weigh_6 (Nat.le_of_ble_eq_true rfl) rfl rfl ?_
  refine m_aload_n X dL_weigh_8 rfl rfl ?_
  refine m_cS1 X dL_weigh_9 lk_L_15 mk_L_net st_L_net (c_L_net hM) rfl (Nat.le_of_ble_eq_true rfl) (Nat.le_of_ble_eq_true rfl) (Nat.le_of_ble_eq_true rfl) (Nat.le_of_ble_eq_true rfl) (Nat.le_of_ble_eq_true rfl) rfl ?_
  refine m_aload_n X dL_weigh_12 rfl rfl ?_
  refine m_iload X dL_weigh_13 rfl rfl ?_
  refine m_iconst (v := 1) X dL_weigh_15 (by decide) rfl ?_
  refine m_iadd X dL_weigh_16 rfl ?_
  refine m_top (x1 := nI (3 * st + 1)) (nI_add (3 * st) 1) ?_
  refine m_ald (k := (3 * st + 1)) (x := stgt v a) X dL_weigh_17 hW_g2 (vp_in_nI (by omega) (by decide)) (nI_clamp (by omega)) ((hR st hst).2.1.trans eg.symm) rfl ?_
  refine m_isub X dL_weigh_18 rfl ?_
  refine m_top (x1 := sErr v a) (rfl) ?_
  refine m_ist (l1 := [(8, .int (sErr v a)), (7, .int (nI (3 * st))), (0, .ref 17), (1, .ref 18), (2, .ref 19), (3, .ref 20), (4, .ref 21), (5, .ref 22), (6, .int (nI L))]) X dL_weigh_19 (Nat.le_of_ble_eq_true rfl) rfl rfl ?_
  refine m_aload_n X dL_weigh_21 rfl rfl ?_
  refine m_bipush (v := 17) X dL_weigh_22 (by decide) rfl ?_
  refine m_ald (k := 17) (x := v 19) X dL_weigh_24 hW_g0 (vp_in_nI (n := 17) (by decide) (by decide)) (rfl) (pm17 hM) rfl ?_
  refine m_if_ne (tgt := 85) X dL_weigh_25 (by decide) rfl (fun b25 => ?_) (fun b25 => ?_)
  · replace b25 : ¬ v 19 = 0 := b25
    have e1 : sW1 v = v := if_pos b25
    have e2 : sW2 v a = a := if_pos b25
    exact k85 fm fb (by rw [e1]; exact hM) (by rw [e2]; exact ⟨hPB, hR, hPL, hPU⟩)
  · replace b25 : v 19 = 0 := b25
    have e1 : sW1 v = upd v 19 1 := if_neg (not_not_intro b25)
    have e2 : sW2 v a = sLearn a (sbin v a) (sErr v a) := if_neg (not_not_intro b25)
    have k79 : m_Go D cI cL ad ((hW v0 a0 x0 fm fb fr fl fu fv)).length (m_Ml M_L_weigh) A p l e (m_rm M_L_weigh) s m args below meth c (m_VP D cI cL ad ((hW v0 a0 x0 fm fb fr fl fu fv)).length A (oW v0 a0 x0 none n B (sWeighV v a) (sWeighA v a)) below args s (m_Mc M_L_weigh) (m_Ms M_L_weigh)) 79 [(9, .int (a 1 bn + fl4 (sErr v a))), (8, .int (sErr v a)), (7, .int (nI (3 * st))), (0, .ref 17), (1, .ref 18), (2, .ref 19), (3, .ref 20), (4, .ref 21), (5, .ref 22), (6, .int (nI L))] [.int (clampF (a 1 bn + fl4 (sErr v a))), .int (nI (4 * bn + 1)), .ref 18] (hW v0 a0 x0 fm fb fr fl fu fv) 0 0 := by
        refine m_ast (k := (4 * bn + 1)) (h1 := (hW v0 a0 x0 fm (upd fb (4 * bn + 1) (clampF (a 1 bn + fl4 (sErr v a)))) fr fl fu fv)) X dL_weigh_79 hW_g1 (vp_in_nI (by omega) (by decide)) (nI_clamp (by omega)) rfl rfl ?_
        refine m_aload_n X dL_weigh_80 rfl rfl ?_
        refine m_bipush (v := 17) X dL_weigh_81 (by decide) rfl ?_
        refine m_iconst (v := 1) X dL_weigh_83 (by decide) rfl ?_
        refine m_ast (k := 17) (h1 := (hW v0 a0 x0 (upd fm 17 1) (upd fb (4 * bn + 1) (clampF (a 1 bn + fl4 (sErr v a)))) fr fl fu fv)) X dL_weigh_84 hW_g0 (vp_in_nI (n := 17) (by decide) (by decide)) (rfl) rfl rfl ?_
        refine m_lp (l1 := [(8, .int (sErr v a)), (7, .int (nI (3 * st))), (0, .ref 17), (1, .ref 18), (2, .ref 19), (3, .ref 20), (4, .ref 21), (5, .ref 22), (6, .int (nI L))]) [1, 2, 3, 4, 5, 6, 7, 8, 9] rfl ?_
        exact k85 _ _ (by rw [e1]; exact PM_weighed hM) (by rw [e2]; unfold sLearn; rw [esc]; exact ⟨PB_flight hbn hPB, hR, hPL, hPU⟩)
    refine m_aload_n X dL_weigh_28 rfl rfl ?_
    refine m_iconst (v := 4) X dL_weigh_29 (by decide) rfl ?_
    refine m_aload_n X dL_weigh_30 rfl rfl ?_
    refine m_iload X dL_weigh_31 rfl rfl ?_
    refine m_ald (k := (3 * st)) (x := nI bn) X dL_weigh_33 hW_g2 (vp_in_nI (by omega) (by decide)) (nI_clamp (by omega)) ((hR st hst).1.trans ebn) rfl ?_
    refine m_imul X dL_weigh_34 rfl ?_
    refine m_top (x1 := nI (4 * bn)) (nI_mul 4 bn) ?_
    refine m_iconst (v := 1) X dL_weigh_35 (by decide) rfl ?_
    refine m_iadd X dL_weigh_36 rfl ?_
    refine m_top (x1 := nI (4 * bn + 1)) (nI_add (4 * bn) 1) ?_
    refine m_ald (k := (4 * bn + 1)) (x := a 1 bn) X dL_weigh_37 hW_g1 (vp_in_nI (by omega) (by decide)) (nI_clamp (by omega)) ((hPB bn hbn).2.1) rfl ?_
    refine m_iload X dL_weigh_38 rfl rfl ?_
    refine m_iconst (v := 2) X dL_weigh_40 (by decide) rfl ?_
    refine m_ishr X dL_weigh_41 rfl ?_
    refine m_top (x1 := fl4 (sErr v a)) (fl4_eq _) ?_
    refine m_iadd X dL_weigh_42 rfl ?_
    refine m_ist (l1 := [(9, .int ((a 1 bn) + (fl4 (sErr v a)))), (8, .int (sErr v a)), (7, .int (nI (3 * st))), (0, .ref 17), (1, .ref 18), (2, .ref 19), (3, .ref 20), (4, .ref 21), (5, .ref 22), (6, .int (nI L))]) X dL_weigh_43 (Nat.le_of_ble_eq_true rfl) rfl rfl ?_
    refine m_aload_n X dL_weigh_45 rfl rfl ?_
    refine m_iconst (v := 4) X dL_weigh_46 (by decide) rfl ?_
    refine m_aload_n X dL_weigh_47 rfl rfl ?_
    refine m_iload X dL_weigh_48 rfl rfl ?_
    refine m_ald (k := (3 * st)) (x := nI bn) X dL_weigh_50 hW_g2 (vp_in_nI (by omega) (by decide)) (nI_clamp (by omega)) ((hR st hst).1.trans ebn) rfl ?_
    refine m_imul X dL_weigh_51 rfl ?_
    refine m_top (x1 := nI (4 * bn)) (nI_mul 4 bn) ?_
    refine m_iconst (v := 1) X dL_weigh_52 (by decide) rfl ?_
    refine m_iadd X dL_weigh_53 rfl ?_
    refine m_top (x1 := nI (4 * bn + 1)) (nI_add (4 * bn) 1) ?_
    refine m_iload X dL_weigh_54 rfl rfl ?_
    refine m_sipush (v := 500) X dL_weigh_56 (by decide) rfl ?_
    refine m_icmp_le (tgt := 68) X dL_weigh_59 (by decide) rfl (fun b59 => ?_) (fun b59 => ?_)
    · replace b59 : (a 1 bn + fl4 (sErr v a)) ≤ 500 := b59
      refine m_iload X dL_weigh_68 rfl rfl ?_
      refine m_if_le (tgt := 78) X dL_weigh_70 (by decide) rfl (fun b70 => ?_) (fun b70 => ?_)
      · replace b70 : (a 1 bn + fl4 (sErr v a)) ≤ 0 := b70
        refine m_iconst (v := 0) X dL_weigh_78 (by decide) rfl ?_
        refine m_top (x1 := clampF (a 1 bn + fl4 (sErr v a))) (by rw [← clampF_eq, if_pos b59, if_pos b70]) ?_
        exact k79
      · replace b70 : ¬ (a 1 bn + fl4 (sErr v a)) ≤ 0 := b70
        refine m_iload X dL_weigh_73 rfl rfl ?_
        refine m_goto (tgt := 79) X dL_weigh_75 (by decide) rfl ?_
        refine m_top (x1 := clampF (a 1 bn + fl4 (sErr v a))) (by rw [← clampF_eq, if_pos b59, if_neg b70]) ?_
        exact k79
    · replace b59 : ¬ (a 1 bn + fl4 (sErr v a)) ≤ 500 := b59
      refine m_sipush (v := 500) X dL_weigh_62 (by decide) rfl ?_
      refine m_goto (tgt := 79) X dL_weigh_65 (by decide) rfl ?_
      refine m_top (x1 := clampF (a 1 bn + fl4 (sErr v a))) (by rw [← clampF_eq, if_neg b59]) ?_
      exact k79
end LA3

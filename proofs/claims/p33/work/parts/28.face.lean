section MF
theorem c_X5_needArgument {h : m_H} {z : Int32} (hz : ¬ z = 0) : m_Ctr M_X5_needArgument [.int z] h (.inl (none, h)) := by
  refine m_intro (by decide +kernel) (Nat.le_of_ble_eq_true rfl) (fun X => ?_)
  refine m_iload_n X dX5_needArgument_0 rfl rfl ?_
  refine m_if_ne (tgt := 14) X dX5_needArgument_1 (by decide) rfl (fun b1 => ?_) (fun b1 => absurd b1 (hz))
  exact m_vret X dX5_needArgument_14 rfl (rfl) (Nat.le_of_ble_eq_true rfl) (Nat.le_of_ble_eq_true rfl) rfl
theorem x_X5_needArgument {h : m_H} {z : Int32} (hz : z = 0) : m_Ctr Mx_X5_needArgument [.int z] h (.inr ("java/lang/IllegalArgumentException", h)) := by
  refine m_intro (by decide +kernel) (Nat.le_of_ble_eq_true rfl) (fun X => ?_)
  refine m_iload_n X dX5_needArgument_0 rfl rfl ?_
  refine m_if_ne (tgt := 14) X dX5_needArgument_1 (by decide) rfl (fun b1 => absurd b1 (not_not_intro hz)) (fun b1 => ?_)
  exact m_throw (j := 1) X dX5_needArgument_4 dX5_needArgument_7 dX5_needArgument_8 dX5_needArgument_10 dX5_needArgument_13 (by decide +kernel) (by decide +kernel) xc_X5_195 xi_X5_195 rfl xw_X5_199 rfl (Nat.le_of_ble_eq_true rfl) (Nat.le_of_ble_eq_true rfl) (Nat.le_of_ble_eq_true rfl) (Nat.le_of_ble_eq_true rfl) rfl (Nat.le_of_ble_eq_true rfl) (Nat.le_of_ble_eq_true rfl) rfl
theorem c_X5_needState {h : m_H} {z : Int32} (hz : ¬ z = 0) : m_Ctr M_X5_needState [.int z] h (.inl (none, h)) := by
  refine m_intro (by decide +kernel) (Nat.le_of_ble_eq_true rfl) (fun X => ?_)
  refine m_iload_n X dX5_needState_0 rfl rfl ?_
  refine m_if_ne (tgt := 14) X dX5_needState_1 (by decide) rfl (fun b1 => ?_) (fun b1 => absurd b1 (hz))
  exact m_vret X dX5_needState_14 rfl (rfl) (Nat.le_of_ble_eq_true rfl) (Nat.le_of_ble_eq_true rfl) rfl
theorem x_X5_needState {h : m_H} {z : Int32} (hz : z = 0) : m_Ctr Mx_X5_needState [.int z] h (.inr ("java/lang/IllegalStateException", h)) := by
  refine m_intro (by decide +kernel) (Nat.le_of_ble_eq_true rfl) (fun X => ?_)
  refine m_iload_n X dX5_needState_0 rfl rfl ?_
  refine m_if_ne (tgt := 14) X dX5_needState_1 (by decide) rfl (fun b1 => absurd b1 (not_not_intro hz)) (fun b1 => ?_)
  exact m_throw (j := 2) X dX5_needState_4 dX5_needState_7 dX5_needState_8 dX5_needState_10 dX5_needState_13 (by decide +kernel) (by decide +kernel) xc_X5_200 xi_X5_200 rfl xw_X5_204 rfl (Nat.le_of_ble_eq_true rfl) (Nat.le_of_ble_eq_true rfl) (Nat.le_of_ble_eq_true rfl) (Nat.le_of_ble_eq_true rfl) rfl (Nat.le_of_ble_eq_true rfl) (Nat.le_of_ble_eq_true rfl) rfl
theorem c_X5_needBin {h : m_H} {b : Int32} (hb : 0 ≤ b ∧ b ≤ 3) : m_Ctr M_X5_needBin [.int b] h (.inl (none, h)) := by
  refine m_intro (by decide +kernel) (Nat.le_of_ble_eq_true rfl) (fun X => ?_)
  refine m_iload_n X dX5_needBin_0 rfl rfl ?_
  refine m_iconst (v := 0) X dX5_needBin_1 (by decide) rfl ?_
  refine m_iconst (v := 3) X dX5_needBin_2 (by decide) rfl ?_
  refine m_cS3 X dX5_needBin_3 lk_X5_47 mk_X5_isWithin st_X5_isWithin (c_X5_isWithin) rfl (Nat.le_of_ble_eq_true rfl) (Nat.le_of_ble_eq_true rfl) (Nat.le_of_ble_eq_true rfl) (Nat.le_of_ble_eq_true rfl) (Nat.le_of_ble_eq_true rfl) rfl ?_
  refine m_if_ne (tgt := 19) X dX5_needBin_6 (by decide) rfl (fun b6 => ?_) (fun b6 => absurd b6 (by rw [bi_t hb]; decide))
  exact m_vret X dX5_needBin_19 rfl (rfl) (Nat.le_of_ble_eq_true rfl) (Nat.le_of_ble_eq_true rfl) rfl
theorem x_X5_needBin {h : m_H} {b : Int32} (hb : ¬ (0 ≤ b ∧ b ≤ 3)) : m_Ctr Mx_X5_needBin [.int b] h (.inr ("java/lang/IndexOutOfBoundsException", h)) := by
  refine m_intro (by decide +kernel) (Nat.le_of_ble_eq_true rfl) (fun X => ?_)
  refine m_iload_n X dX5_needBin_0 rfl rfl ?_
  refine m_iconst (v := 0) X dX5_needBin_1 (by decide) rfl ?_
  refine m_iconst (v := 3) X dX5_needBin_2 (by decide) rfl ?_
  refine m_cS3 X dX5_needBin_3 lk_X5_47 mk_X5_isWithin st_X5_isWithin (c_X5_isWithin) rfl (Nat.le_of_ble_eq_true rfl) (Nat.le_of_ble_eq_true rfl) (Nat.le_of_ble_eq_true rfl) (Nat.le_of_ble_eq_true rfl) (Nat.le_of_ble_eq_true rfl) rfl ?_
  refine m_if_ne (tgt := 19) X dX5_needBin_6 (by decide) rfl (fun b6 => absurd b6 (not_not_intro (bi_f hb))) (fun b6 => ?_)
  exact m_throw (j := 0) X dX5_needBin_9 dX5_needBin_12 dX5_needBin_13 dX5_needBin_15 dX5_needBin_18 (by decide +kernel) (by decide +kernel) xc_X5_184 xi_X5_184 rfl xw_X5_188 rfl (Nat.le_of_ble_eq_true rfl) (Nat.le_of_ble_eq_true rfl) (Nat.le_of_ble_eq_true rfl) (Nat.le_of_ble_eq_true rfl) rfl (Nat.le_of_ble_eq_true rfl) (Nat.le_of_ble_eq_true rfl) rfl
theorem c_X5_needReading {h : m_H} {r : Int32} (hr : -1000 ≤ r ∧ r ≤ 100000) : m_Ctr M_X5_needReading [.int r] h (.inl (none, h)) := by
  refine m_intro (by decide +kernel) (Nat.le_of_ble_eq_true rfl) (fun X => ?_)
  refine m_iload_n X dX5_needReading_0 rfl rfl ?_
  refine m_sipush (v := (-1000)) X dX5_needReading_1 (by decide) rfl ?_
  refine m_ldc X dX5_needReading_4 cs_X5_83 rfl ?_
  refine m_cS3 X dX5_needReading_6 lk_X5_47 mk_X5_isWithin st_X5_isWithin (c_X5_isWithin) rfl (Nat.le_of_ble_eq_true rfl) (Nat.le_of_ble_eq_true rfl) (Nat.le_of_ble_eq_true rfl) (Nat.le_of_ble_eq_true rfl) (Nat.le_of_ble_eq_true rfl) rfl ?_
  refine m_cS1 X dX5_needReading_9 lk_X5_51 mk_X5_needArgument st_X5_needArgument (c_X5_needArgument (by rw [bi_t hr]; decide)) rfl (Nat.le_of_ble_eq_true rfl) (Nat.le_of_ble_eq_true rfl) (Nat.le_of_ble_eq_true rfl) (Nat.le_of_ble_eq_true rfl) (Nat.le_of_ble_eq_true rfl) rfl ?_
  exact m_vret X dX5_needReading_12 rfl (rfl) (Nat.le_of_ble_eq_true rfl) (Nat.le_of_ble_eq_true rfl) rfl
theorem x_X5_needReading {h : m_H} {r : Int32} (hr : ¬ (-1000 ≤ r ∧ r ≤ 100000)) : m_Ctr Mx_X5_needReading [.int r] h (.inr ("java/lang/IllegalArgumentException", h)) := by
  refine m_intro (by decide +kernel) (Nat.le_of_ble_eq_true rfl) (fun X => ?_)
  refine m_iload_n X dX5_needReading_0 rfl rfl ?_
  refine m_sipush (v := (-1000)) X dX5_needReading_1 (by decide) rfl ?_
  refine m_ldc X dX5_needReading_4 cs_X5_83 rfl ?_
  refine m_cS3 X dX5_needReading_6 lk_X5_47 mk_X5_isWithin st_X5_isWithin (c_X5_isWithin) rfl (Nat.le_of_ble_eq_true rfl) (Nat.le_of_ble_eq_true rfl) (Nat.le_of_ble_eq_true rfl) (Nat.le_of_ble_eq_true rfl) (Nat.le_of_ble_eq_true rfl) rfl ?_
  exact m_tS1 (M := Mx_X5_needArgument) X dX5_needReading_9 ll_X5_51 mkx_X5_needArgument st_X5_needArgument (x_X5_needArgument (bi_f hr)) rfl (Nat.le_of_ble_eq_true rfl) (Nat.le_of_ble_eq_true rfl) (Nat.le_of_ble_eq_true rfl) (Nat.le_of_ble_eq_true rfl) (Nat.le_of_ble_eq_true rfl) rfl rfl (rfl) (Nat.le_of_ble_eq_true rfl) (Nat.le_of_ble_eq_true rfl)
theorem c_X5_needLot {v : m_V} {a : m_R} {x : Int64} {t : m_H} {i : Int32} (hi : 0 ≤ i ∧ i ≤ v 8 - 1) : m_Ctr M_X5_needLot [.ref 0, .int i] (hC v a x t) (.inl (none, hC v a x t)) := by
  refine m_intro (by decide +kernel) (Nat.le_of_ble_eq_true rfl) (fun X => ?_)
  refine m_iload_n X dX5_needLot_0 rfl rfl ?_
  refine m_iconst (v := 0) X dX5_needLot_1 (by decide) rfl ?_
  refine m_aload_n X dX5_needLot_2 rfl rfl ?_
  refine m_getf X dX5_needLot_3 fl_X5_30 rfl rfl rfl ?_
  refine m_getf (v := .int (v 8)) X dX5_needLot_6 fl_X5_84 rfl rfl rfl ?_
  refine m_iconst (v := 1) X dX5_needLot_9 (by decide) rfl ?_
  refine m_isub X dX5_needLot_10 rfl ?_
  refine m_cS3 X dX5_needLot_11 lk_X5_47 mk_X5_isWithin st_X5_isWithin (c_X5_isWithin) rfl (Nat.le_of_ble_eq_true rfl) (Nat.le_of_ble_eq_true rfl) (Nat.le_of_ble_eq_true rfl) (Nat.le_of_ble_eq_true rfl) (Nat.le_of_ble_eq_true rfl) rfl ?_
  refine m_if_ne (tgt := 27) X dX5_needLot_14 (by decide) rfl (fun b14 => ?_) (fun b14 => absurd b14 (by rw [bi_t hi]; decide))
  exact m_vret X dX5_needLot_27 rfl (rfl) (Nat.le_of_ble_eq_true rfl) (Nat.le_of_ble_eq_true rfl) rfl
theorem c_X5_needBatch {v : m_V} {a : m_R} {x : Int64} {t : m_H} {i : Int32} (hi : 0 ≤ i ∧ i ≤ v 20 - 1) : m_Ctr M_X5_needBatch [.ref 0, .int i] (hC v a x t) (.inl (none, hC v a x t)) := by
  refine m_intro (by decide +kernel) (Nat.le_of_ble_eq_true rfl) (fun X => ?_)
  refine m_iload_n X dX5_needBatch_0 rfl rfl ?_
  refine m_iconst (v := 0) X dX5_needBatch_1 (by decide) rfl ?_
  refine m_aload_n X dX5_needBatch_2 rfl rfl ?_
  refine m_getf X dX5_needBatch_3 fl_X5_10 rfl rfl rfl ?_
  refine m_getf (v := .int (v 20)) X dX5_needBatch_6 fl_X5_132 rfl rfl rfl ?_
  refine m_iconst (v := 1) X dX5_needBatch_9 (by decide) rfl ?_
  refine m_isub X dX5_needBatch_10 rfl ?_
  refine m_cS3 X dX5_needBatch_11 lk_X5_47 mk_X5_isWithin st_X5_isWithin (c_X5_isWithin) rfl (Nat.le_of_ble_eq_true rfl) (Nat.le_of_ble_eq_true rfl) (Nat.le_of_ble_eq_true rfl) (Nat.le_of_ble_eq_true rfl) (Nat.le_of_ble_eq_true rfl) rfl ?_
  refine m_if_ne (tgt := 27) X dX5_needBatch_14 (by decide) rfl (fun b14 => ?_) (fun b14 => absurd b14 (by rw [bi_t hi]; decide))
  exact m_vret X dX5_needBatch_27 rfl (rfl) (Nat.le_of_ble_eq_true rfl) (Nat.le_of_ble_eq_true rfl) rfl
theorem c_X5_tick {v : m_V} {a : m_R} {x : Int64} {t : m_H} {r : Int32} (hr : -1000 ≤ r ∧ r ≤ 100000) (hk : kI v a) : m_Ctr M_X5_tick [.ref 0, .int r] (hC v a x t) (.inl (some (.int (sBringV v a r 10)), hC (sBringV v a r) (sBringA v a r) x t)) := by
  refine m_intro (by decide +kernel) (Nat.le_of_ble_eq_true rfl) (fun X => ?_)
  refine m_iload_n X dX5_tick_0 rfl rfl ?_
  refine m_cS1 X dX5_tick_1 lk_X5_36 mk_X5_needReading st_X5_needReading (c_X5_needReading hr) rfl (Nat.le_of_ble_eq_true rfl) (Nat.le_of_ble_eq_true rfl) (Nat.le_of_ble_eq_true rfl) (Nat.le_of_ble_eq_true rfl) (Nat.le_of_ble_eq_true rfl) rfl ?_
  refine m_aload_n X dX5_tick_4 rfl rfl ?_
  refine m_getf X dX5_tick_5 fl_X5_10 rfl rfl rfl ?_
  refine m_iload_n X dX5_tick_8 rfl rfl ?_
  refine m_cV1 X dX5_tick_9 lk_X5_40 mk_X1_bring in_X1_bring se_X1_bring rfl rfl (c_X1_bring hk.1 hk.2.1 hk.2.2.1 hk.2.2.2.1 hk.2.2.2.2) rfl (Nat.le_of_ble_eq_true rfl) (Nat.le_of_ble_eq_true rfl) (Nat.le_of_ble_eq_true rfl) (Nat.le_of_ble_eq_true rfl) (Nat.le_of_ble_eq_true rfl) rfl ?_
  refine m_aload_n X dX5_tick_12 rfl rfl ?_
  refine m_getf X dX5_tick_13 fl_X5_10 rfl rfl rfl ?_
  refine m_getf (v := .int ((sBringV v a r) 10)) X dX5_tick_16 fl_X5_43 rfl rfl rfl ?_
  exact m_iret X dX5_tick_19 rfl (rfl) (Nat.le_of_ble_eq_true rfl) (Nat.le_of_ble_eq_true rfl) rfl
theorem c_X5_ticks {v : m_V} {a : m_R} {x : Int64} {t : m_H} {r : Int32} {N : Nat} (hr : -1000 ≤ r ∧ r ≤ 100000) (hN1 : 1 ≤ N) (hN : N ≤ 50) (hk : ∀ i, i < N → kI (sTicks r i v a).1 (sTicks r i v a).2) : m_Ctr M_X5_ticks [.ref 0, .int r, .int (nI N)] (hC v a x t) (.inl (some (.int ((sTicks r N v a).1 10)), hC (sTicks r N v a).1 (sTicks r N v a).2 x t)) := by
  refine m_intro (by decide +kernel) (Nat.le_of_ble_eq_true rfl) (fun {D cI cL sa A p l e s m args below meth c ad} X => ?_)
  have hn : 1 ≤ nI N ∧ nI N ≤ 50 := ⟨(nI_leI (a := 1) (by omega) (by omega)).mpr hN1, (nI_leI (b := 50) (by omega) (by omega)).mpr hN⟩
  have loop : ∀ k i, i + k = N → m_Go D cI cL ad ((hC v a x t)).length (m_Ml M_X5_ticks) A p l e (m_rm M_X5_ticks) s m args below meth c (m_VQ D cI cL ad ((hC v a x t)).length A (.inl (some (.int ((sTicks r N v a).1 10)), hC (sTicks r N v a).1 (sTicks r N v a).2 x t)) below args s (m_Mc M_X5_ticks) (m_Ms M_X5_ticks)) 16 [(3, .int (nI i)), (0, .ref 0), (1, .int r), (2, .int (nI N))] [] (hC (sTicks r i v a).1 (sTicks r i v a).2 x t) 0 0 := by
    intro k
    induction k with
    | zero =>
      intro i hi
      have hiL : i = N := by omega
      subst hiL
      refine m_iload_n X dX5_ticks_16 rfl rfl ?_
      refine m_iload_n X dX5_ticks_17 rfl rfl ?_
      refine m_icmp_ge (tgt := 35) X dX5_ticks_18 (by decide) rfl (fun b18 => ?_) (fun b18 => absurd b18 (not_not_intro (Int32.le_refl _)))
      refine m_aload_n X dX5_ticks_35 rfl rfl ?_
      refine m_getf X dX5_ticks_36 fl_X5_10 rfl rfl rfl ?_
      refine m_getf (v := .int ((sTicks r i v a).1 10)) X dX5_ticks_39 fl_X5_43 rfl rfl rfl ?_
      exact m_iret X dX5_ticks_42 rfl (rfl) (Nat.le_of_ble_eq_true rfl) (Nat.le_of_ble_eq_true rfl) rfl
    | succ k ih =>
      intro i hi
      have hlt : i < N := by omega
      obtain ⟨k1, k2, k3, k4, k5⟩ := hk i hlt
      refine m_iload_n X dX5_ticks_16 rfl rfl ?_
      refine m_iload_n X dX5_ticks_17 rfl rfl ?_
      refine m_icmp_ge (tgt := 35) X dX5_ticks_18 (by decide) rfl (fun b18 => absurd b18 (nI_ge hlt (by omega))) (fun b18 => ?_)
      refine m_aload_n X dX5_ticks_21 rfl rfl ?_
      refine m_getf X dX5_ticks_22 fl_X5_10 rfl rfl rfl ?_
      refine m_iload_n X dX5_ticks_25 rfl rfl ?_
      refine m_cV1 X dX5_ticks_26 lk_X5_40 mk_X1_bring in_X1_bring se_X1_bring rfl rfl (c_X1_bring k1 k2 k3 k4 k5) rfl (Nat.le_of_ble_eq_true rfl) (Nat.le_of_ble_eq_true rfl) (Nat.le_of_ble_eq_true rfl) (Nat.le_of_ble_eq_true rfl) (Nat.le_of_ble_eq_true rfl) rfl ?_
      refine m_iinc X dX5_ticks_29 rfl (Nat.le_of_ble_eq_true rfl) rfl ?_
      refine m_goto (tgt := 16) X dX5_ticks_32 (by decide) rfl ?_
      refine m_lp (l1 := [(3, .int (nI (i + 1))), (0, .ref 0), (1, .int r), (2, .int (nI N))]) [0, 1, 2, 3] (by rw [nI_succ]; rfl) ?_
      exact ih (i + 1) (by omega)
  refine m_iload_n X dX5_ticks_0 rfl rfl ?_
  refine m_cS1 X dX5_ticks_1 lk_X5_36 mk_X5_needReading st_X5_needReading (c_X5_needReading hr) rfl (Nat.le_of_ble_eq_true rfl) (Nat.le_of_ble_eq_true rfl) (Nat.le_of_ble_eq_true rfl) (Nat.le_of_ble_eq_true rfl) (Nat.le_of_ble_eq_true rfl) rfl ?_
  refine m_iload_n X dX5_ticks_4 rfl rfl ?_
  refine m_iconst (v := 1) X dX5_ticks_5 (by decide) rfl ?_
  refine m_bipush (v := (50)) X dX5_ticks_6 (by decide) rfl ?_
  refine m_cS3 X dX5_ticks_8 lk_X5_47 mk_X5_isWithin st_X5_isWithin (c_X5_isWithin) rfl (Nat.le_of_ble_eq_true rfl) (Nat.le_of_ble_eq_true rfl) (Nat.le_of_ble_eq_true rfl) (Nat.le_of_ble_eq_true rfl) (Nat.le_of_ble_eq_true rfl) rfl ?_
  refine m_cS1 X dX5_ticks_11 lk_X5_51 mk_X5_needArgument st_X5_needArgument (c_X5_needArgument (by rw [bi_t hn]; decide)) rfl (Nat.le_of_ble_eq_true rfl) (Nat.le_of_ble_eq_true rfl) (Nat.le_of_ble_eq_true rfl) (Nat.le_of_ble_eq_true rfl) (Nat.le_of_ble_eq_true rfl) rfl ?_
  refine m_iconst (v := 0) X dX5_ticks_14 (by decide) rfl ?_
  refine m_istore_n X dX5_ticks_15 (Nat.le_of_ble_eq_true rfl) rfl ?_
  refine m_hp (h1 := (hC (sTicks r 0 v a).1 (sTicks r 0 v a).2 x t)) rfl ?_
  refine m_lp (l1 := [(3, .int (nI 0)), (0, .ref 0), (1, .int r), (2, .int (nI N))]) [0, 1, 2, 3] rfl ?_
  exact loop N 0 (by omega)
theorem c_X5_zero {v : m_V} {a : m_R} {x : Int64} {t : m_H} (h0 : v 10 = 0) (hc : calm v) (h4 : -500 ≤ v 4 ∧ v 4 ≤ 500) : m_Ctr M_X5_zero [.ref 0] (hC v a x t) (.inl (some (.int (v 0)), hC (upd v 0 (v 4)) a x t)) := by
  refine m_intro (by decide +kernel) (Nat.le_of_ble_eq_true rfl) (fun X => ?_)
  refine m_aload_n X dX5_zero_0 rfl rfl ?_
  refine m_getf X dX5_zero_1 fl_X5_10 rfl rfl rfl ?_
  refine m_getf (v := .int (v 10)) X dX5_zero_4 fl_X5_43 rfl rfl rfl ?_
  refine m_if_ne (tgt := 24) X dX5_zero_7 (by decide) rfl (fun b7 => absurd b7 (not_not_intro h0)) (fun b7 => ?_)
  refine m_aload_n X dX5_zero_10 rfl rfl ?_
  refine m_getf X dX5_zero_11 fl_X5_20 rfl rfl rfl ?_
  refine m_cV0 X dX5_zero_14 lk_X5_55 mk_X4_isCalm in_X4_isCalm se_X4_isCalm rfl rfl (c_X4_isCalm) rfl (Nat.le_of_ble_eq_true rfl) (Nat.le_of_ble_eq_true rfl) (Nat.le_of_ble_eq_true rfl) (Nat.le_of_ble_eq_true rfl) (Nat.le_of_ble_eq_true rfl) rfl ?_
  refine m_if_eq (tgt := 24) X dX5_zero_17 (by decide) rfl (fun b17 => absurd b17 ((by rw [bi_t hc]; decide))) (fun b17 => ?_)
  refine m_iconst (v := 1) X dX5_zero_20 (by decide) rfl ?_
  refine m_goto (tgt := 25) X dX5_zero_21 (by decide) rfl ?_
  refine m_cS1 X dX5_zero_25 lk_X5_61 mk_X5_needState st_X5_needState (c_X5_needState (by decide)) rfl (Nat.le_of_ble_eq_true rfl) (Nat.le_of_ble_eq_true rfl) (Nat.le_of_ble_eq_true rfl) (Nat.le_of_ble_eq_true rfl) (Nat.le_of_ble_eq_true rfl) rfl ?_
  refine m_aload_n X dX5_zero_28 rfl rfl ?_
  refine m_getf X dX5_zero_29 fl_X5_20 rfl rfl rfl ?_
  refine m_getf (v := .int (v 4)) X dX5_zero_32 fl_X5_64 rfl rfl rfl ?_
  refine m_sipush (v := (-500)) X dX5_zero_35 (by decide) rfl ?_
  refine m_sipush (v := (500)) X dX5_zero_38 (by decide) rfl ?_
  refine m_cS3 X dX5_zero_41 lk_X5_47 mk_X5_isWithin st_X5_isWithin (c_X5_isWithin) rfl (Nat.le_of_ble_eq_true rfl) (Nat.le_of_ble_eq_true rfl) (Nat.le_of_ble_eq_true rfl) (Nat.le_of_ble_eq_true rfl) (Nat.le_of_ble_eq_true rfl) rfl ?_
  refine m_cS1 X dX5_zero_44 lk_X5_61 mk_X5_needState st_X5_needState (c_X5_needState (by rw [bi_t h4]; decide)) rfl (Nat.le_of_ble_eq_true rfl) (Nat.le_of_ble_eq_true rfl) (Nat.le_of_ble_eq_true rfl) (Nat.le_of_ble_eq_true rfl) (Nat.le_of_ble_eq_true rfl) rfl ?_
  refine m_aload_n X dX5_zero_47 rfl rfl ?_
  refine m_getf X dX5_zero_48 fl_X5_20 rfl rfl rfl ?_
  refine m_getf (v := .int (v 0)) X dX5_zero_51 fl_X5_67 rfl rfl rfl ?_
  refine m_istore_n X dX5_zero_54 (Nat.le_of_ble_eq_true rfl) rfl ?_
  refine m_aload_n X dX5_zero_55 rfl rfl ?_
  refine m_getf X dX5_zero_56 fl_X5_20 rfl rfl rfl ?_
  refine m_aload_n X dX5_zero_59 rfl rfl ?_
  refine m_getf X dX5_zero_60 fl_X5_20 rfl rfl rfl ?_
  refine m_getf (v := .int (v 4)) X dX5_zero_63 fl_X5_64 rfl rfl rfl ?_
  refine m_piC 0 X dX5_zero_66 fl_X5_67 fp_X4_0 rfl rfl rfl rfl ?_
  refine m_iload_n X dX5_zero_69 rfl rfl ?_
  exact m_iret X dX5_zero_70 rfl (rfl) (Nat.le_of_ble_eq_true rfl) (Nat.le_of_ble_eq_true rfl) rfl
theorem x_X5_zero1 {v : m_V} {a : m_R} {x : Int64} {t : m_H} (h0 : ¬ (v 10 = 0 ∧ calm v)) : m_Ctr Mx_X5_zero [.ref 0] (hC v a x t) (.inr ("java/lang/IllegalStateException", hC v a x t)) := by
  refine m_intro (by decide +kernel) (Nat.le_of_ble_eq_true rfl) (fun X => ?_)
  refine m_aload_n X dX5_zero_0 rfl rfl ?_
  refine m_getf X dX5_zero_1 fl_X5_10 rfl rfl rfl ?_
  refine m_getf (v := .int (v 10)) X dX5_zero_4 fl_X5_43 rfl rfl rfl ?_
  refine m_if_ne (tgt := 24) X dX5_zero_7 (by decide) rfl (fun b7 => ?_) (fun b7 => ?_)
  · refine m_iconst (v := 0) X dX5_zero_24 (by decide) rfl ?_
    exact m_tS1 (M := Mx_X5_needState) X dX5_zero_25 ll_X5_61 mkx_X5_needState st_X5_needState (x_X5_needState rfl) rfl (Nat.le_of_ble_eq_true rfl) (Nat.le_of_ble_eq_true rfl) (Nat.le_of_ble_eq_true rfl) (Nat.le_of_ble_eq_true rfl) (Nat.le_of_ble_eq_true rfl) rfl rfl (rfl) (Nat.le_of_ble_eq_true rfl) (Nat.le_of_ble_eq_true rfl)
  · refine m_aload_n X dX5_zero_10 rfl rfl ?_
    refine m_getf X dX5_zero_11 fl_X5_20 rfl rfl rfl ?_
    refine m_cV0 X dX5_zero_14 lk_X5_55 mk_X4_isCalm in_X4_isCalm se_X4_isCalm rfl rfl (c_X4_isCalm) rfl (Nat.le_of_ble_eq_true rfl) (Nat.le_of_ble_eq_true rfl) (Nat.le_of_ble_eq_true rfl) (Nat.le_of_ble_eq_true rfl) (Nat.le_of_ble_eq_true rfl) rfl ?_
    refine m_if_eq (tgt := 24) X dX5_zero_17 (by decide) rfl (fun b17 => ?_) (fun b17 => ?_)
    · refine m_iconst (v := 0) X dX5_zero_24 (by decide) rfl ?_
      exact m_tS1 (M := Mx_X5_needState) X dX5_zero_25 ll_X5_61 mkx_X5_needState st_X5_needState (x_X5_needState rfl) rfl (Nat.le_of_ble_eq_true rfl) (Nat.le_of_ble_eq_true rfl) (Nat.le_of_ble_eq_true rfl) (Nat.le_of_ble_eq_true rfl) (Nat.le_of_ble_eq_true rfl) rfl rfl (rfl) (Nat.le_of_ble_eq_true rfl) (Nat.le_of_ble_eq_true rfl)
    · exact absurd ⟨b7, Classical.not_not.mp (fun q => b17 (bi_f q))⟩ h0
theorem x_X5_zero2 {v : m_V} {a : m_R} {x : Int64} {t : m_H} (h0 : v 10 = 0) (hc : calm v) (h4 : ¬ (-500 ≤ v 4 ∧ v 4 ≤ 500)) : m_Ctr Mx_X5_zero [.ref 0] (hC v a x t) (.inr ("java/lang/IllegalStateException", hC v a x t)) := by
  refine m_intro (by decide +kernel) (Nat.le_of_ble_eq_true rfl) (fun X => ?_)
  refine m_aload_n X dX5_zero_0 rfl rfl ?_
  refine m_getf X dX5_zero_1 fl_X5_10 rfl rfl rfl ?_
  refine m_getf (v := .int (v 10)) X dX5_zero_4 fl_X5_43 rfl rfl rfl ?_
  refine m_if_ne (tgt := 24) X dX5_zero_7 (by decide) rfl (fun b7 => absurd b7 (not_not_intro h0)) (fun b7 => ?_)
  refine m_aload_n X dX5_zero_10 rfl rfl ?_
  refine m_getf X dX5_zero_11 fl_X5_20 rfl rfl rfl ?_
  refine m_cV0 X dX5_zero_14 lk_X5_55 mk_X4_isCalm in_X4_isCalm se_X4_isCalm rfl rfl (c_X4_isCalm) rfl (Nat.le_of_ble_eq_true rfl) (Nat.le_of_ble_eq_true rfl) (Nat.le_of_ble_eq_true rfl) (Nat.le_of_ble_eq_true rfl) (Nat.le_of_ble_eq_true rfl) rfl ?_
  refine m_if_eq (tgt := 24) X dX5_zero_17 (by decide) rfl (fun b17 => absurd b17 ((by rw [bi_t hc]; decide))) (fun b17 => ?_)
  refine m_iconst (v := 1) X dX5_zero_20 (by decide) rfl ?_
  refine m_goto (tgt := 25) X dX5_zero_21 (by decide) rfl ?_
  refine m_cS1 X dX5_zero_25 lk_X5_61 mk_X5_needState st_X5_needState (c_X5_needState (by decide)) rfl (Nat.le_of_ble_eq_true rfl) (Nat.le_of_ble_eq_true rfl) (Nat.le_of_ble_eq_true rfl) (Nat.le_of_ble_eq_true rfl) (Nat.le_of_ble_eq_true rfl) rfl ?_
  refine m_aload_n X dX5_zero_28 rfl rfl ?_
  refine m_getf X dX5_zero_29 fl_X5_20 rfl rfl rfl ?_
  refine m_getf (v := .int (v 4)) X dX5_zero_32 fl_X5_64 rfl rfl rfl ?_
  refine m_sipush (v := (-500)) X dX5_zero_35 (by decide) rfl ?_
  refine m_sipush (v := (500)) X dX5_zero_38 (by decide) rfl ?_
  refine m_cS3 X dX5_zero_41 lk_X5_47 mk_X5_isWithin st_X5_isWithin (c_X5_isWithin) rfl (Nat.le_of_ble_eq_true rfl) (Nat.le_of_ble_eq_true rfl) (Nat.le_of_ble_eq_true rfl) (Nat.le_of_ble_eq_true rfl) (Nat.le_of_ble_eq_true rfl) rfl ?_
  exact m_tS1 (M := Mx_X5_needState) X dX5_zero_44 ll_X5_61 mkx_X5_needState st_X5_needState (x_X5_needState (bi_f h4)) rfl (Nat.le_of_ble_eq_true rfl) (Nat.le_of_ble_eq_true rfl) (Nat.le_of_ble_eq_true rfl) (Nat.le_of_ble_eq_true rfl) (Nat.le_of_ble_eq_true rfl) rfl rfl (rfl) (Nat.le_of_ble_eq_true rfl) (Nat.le_of_ble_eq_true rfl)
theorem c_X5_setBand {v : m_V} {a : m_R} {x : Int64} {t : m_H} {b : Int32} (hb : 0 ≤ b ∧ b ≤ 50) : m_Ctr M_X5_setBand [.ref 0, .int b] (hC v a x t) (.inl (some (.int (v 2)), hC (upd v 2 b) a x t)) := by
  refine m_intro (by decide +kernel) (Nat.le_of_ble_eq_true rfl) (fun X => ?_)
  refine m_iload_n X dX5_setBand_0 rfl rfl ?_
  refine m_iconst (v := 0) X dX5_setBand_1 (by decide) rfl ?_
  refine m_bipush (v := (50)) X dX5_setBand_2 (by decide) rfl ?_
  refine m_cS3 X dX5_setBand_4 lk_X5_47 mk_X5_isWithin st_X5_isWithin (c_X5_isWithin) rfl (Nat.le_of_ble_eq_true rfl) (Nat.le_of_ble_eq_true rfl) (Nat.le_of_ble_eq_true rfl) (Nat.le_of_ble_eq_true rfl) (Nat.le_of_ble_eq_true rfl) rfl ?_
  refine m_cS1 X dX5_setBand_7 lk_X5_51 mk_X5_needArgument st_X5_needArgument (c_X5_needArgument (by rw [bi_t hb]; decide)) rfl (Nat.le_of_ble_eq_true rfl) (Nat.le_of_ble_eq_true rfl) (Nat.le_of_ble_eq_true rfl) (Nat.le_of_ble_eq_true rfl) (Nat.le_of_ble_eq_true rfl) rfl ?_
  refine m_aload_n X dX5_setBand_10 rfl rfl ?_
  refine m_getf X dX5_setBand_11 fl_X5_20 rfl rfl rfl ?_
  refine m_getf (v := .int (v 2)) X dX5_setBand_14 fl_X5_70 rfl rfl rfl ?_
  refine m_istore_n X dX5_setBand_17 (Nat.le_of_ble_eq_true rfl) rfl ?_
  refine m_aload_n X dX5_setBand_18 rfl rfl ?_
  refine m_getf X dX5_setBand_19 fl_X5_20 rfl rfl rfl ?_
  refine m_iload_n X dX5_setBand_22 rfl rfl ?_
  refine m_piC 2 X dX5_setBand_23 fl_X5_70 fp_X4_2 rfl rfl rfl rfl ?_
  refine m_iload_n X dX5_setBand_26 rfl rfl ?_
  exact m_iret X dX5_setBand_27 rfl (rfl) (Nat.le_of_ble_eq_true rfl) (Nat.le_of_ble_eq_true rfl) rfl
theorem c_X5_gross {v : m_V} {a : m_R} {x : Int64} {t : m_H}  : m_Ctr M_X5_gross [.ref 0] (hC v a x t) (.inl (some (.int (gross v)), hC v a x t)) := by
  refine m_intro (by decide +kernel) (Nat.le_of_ble_eq_true rfl) (fun X => ?_)
  refine m_aload_n X dX5_gross_0 rfl rfl ?_
  refine m_getf X dX5_gross_1 fl_X5_20 rfl rfl rfl ?_
  refine m_cV0 X dX5_gross_4 lk_X5_73 mk_X4_grossNow in_X4_grossNow se_X4_grossNow rfl rfl (c_X4_grossNow) rfl (Nat.le_of_ble_eq_true rfl) (Nat.le_of_ble_eq_true rfl) (Nat.le_of_ble_eq_true rfl) (Nat.le_of_ble_eq_true rfl) (Nat.le_of_ble_eq_true rfl) rfl ?_
  exact m_iret X dX5_gross_7 rfl (rfl) (Nat.le_of_ble_eq_true rfl) (Nat.le_of_ble_eq_true rfl) rfl
theorem c_X5_net {v : m_V} {a : m_R} {x : Int64} {t : m_H}  : m_Ctr M_X5_net [.ref 0] (hC v a x t) (.inl (some (.int (net v)), hC v a x t)) := by
  refine m_intro (by decide +kernel) (Nat.le_of_ble_eq_true rfl) (fun X => ?_)
  refine m_aload_n X dX5_net_0 rfl rfl ?_
  refine m_getf X dX5_net_1 fl_X5_20 rfl rfl rfl ?_
  refine m_cV0 X dX5_net_4 lk_X5_77 mk_X4_netNow in_X4_netNow se_X4_netNow rfl rfl (c_X4_netNow) rfl (Nat.le_of_ble_eq_true rfl) (Nat.le_of_ble_eq_true rfl) (Nat.le_of_ble_eq_true rfl) (Nat.le_of_ble_eq_true rfl) (Nat.le_of_ble_eq_true rfl) rfl ?_
  exact m_iret X dX5_net_7 rfl (rfl) (Nat.le_of_ble_eq_true rfl) (Nat.le_of_ble_eq_true rfl) rfl
theorem c_X5_isSettled {v : m_V} {a : m_R} {x : Int64} {t : m_H}  : m_Ctr M_X5_isSettled [.ref 0] (hC v a x t) (.inl (some (.int (bi (calm v))), hC v a x t)) := by
  refine m_intro (by decide +kernel) (Nat.le_of_ble_eq_true rfl) (fun X => ?_)
  refine m_aload_n X dX5_isSettled_0 rfl rfl ?_
  refine m_getf X dX5_isSettled_1 fl_X5_20 rfl rfl rfl ?_
  refine m_cV0 X dX5_isSettled_4 lk_X5_55 mk_X4_isCalm in_X4_isCalm se_X4_isCalm rfl rfl (c_X4_isCalm) rfl (Nat.le_of_ble_eq_true rfl) (Nat.le_of_ble_eq_true rfl) (Nat.le_of_ble_eq_true rfl) (Nat.le_of_ble_eq_true rfl) (Nat.le_of_ble_eq_true rfl) rfl ?_
  exact m_zret X dX5_isSettled_7 rfl (bi_nar) (rfl) (Nat.le_of_ble_eq_true rfl) (Nat.le_of_ble_eq_true rfl) rfl
theorem bin_in {b : Int32} (hb : 0 ≤ b ∧ b ≤ 3) : vp_in b 4 := by
  rw [vi_iff (by decide)]
  exact ⟨i_nlt.mpr hb.1, by rw [i_nle, i_lt]; have := i_le.mp hb.2; have e : (3 : Int32).toInt = 3 := rfl; have e2 : (Int32.ofNat 4).toInt = 4 := rfl; omega⟩
theorem c_X5_fill {v : m_V} {a : m_R} {x : Int64} {t : m_H} {b n : Int32} (hb : 0 ≤ b ∧ b ≤ 3) (hn : 1 ≤ n ∧ n ≤ 100000) (h8 : vp_in (v 8) 30) : m_Ctr M_X5_fill [.ref 0, .int b, .int n] (hC v a x t) (.inl (some (.int (v 8)), hC (upd v 8 (v 8 + 1)) (sFillA b n v a) x t)) := by
  refine m_intro (by decide +kernel) (Nat.le_of_ble_eq_true rfl) (fun X => ?_)
  refine m_iload_n X dX5_fill_0 rfl rfl ?_
  refine m_cS1 X dX5_fill_1 lk_X5_80 mk_X5_needBin st_X5_needBin (c_X5_needBin hb) rfl (Nat.le_of_ble_eq_true rfl) (Nat.le_of_ble_eq_true rfl) (Nat.le_of_ble_eq_true rfl) (Nat.le_of_ble_eq_true rfl) (Nat.le_of_ble_eq_true rfl) rfl ?_
  refine m_iload_n X dX5_fill_4 rfl rfl ?_
  refine m_iconst (v := 1) X dX5_fill_5 (by decide) rfl ?_
  refine m_ldc X dX5_fill_6 cs_X5_83 rfl ?_
  refine m_cS3 X dX5_fill_8 lk_X5_47 mk_X5_isWithin st_X5_isWithin (c_X5_isWithin) rfl (Nat.le_of_ble_eq_true rfl) (Nat.le_of_ble_eq_true rfl) (Nat.le_of_ble_eq_true rfl) (Nat.le_of_ble_eq_true rfl) (Nat.le_of_ble_eq_true rfl) rfl ?_
  refine m_cS1 X dX5_fill_11 lk_X5_51 mk_X5_needArgument st_X5_needArgument (c_X5_needArgument (by rw [bi_t hn]; decide)) rfl (Nat.le_of_ble_eq_true rfl) (Nat.le_of_ble_eq_true rfl) (Nat.le_of_ble_eq_true rfl) (Nat.le_of_ble_eq_true rfl) (Nat.le_of_ble_eq_true rfl) rfl ?_
  refine m_aload_n X dX5_fill_14 rfl rfl ?_
  refine m_getf X dX5_fill_15 fl_X5_30 rfl rfl rfl ?_
  refine m_getf (v := .int (v 8)) X dX5_fill_18 fl_X5_84 rfl rfl rfl ?_
  refine m_bipush (v := (30)) X dX5_fill_21 (by decide) rfl ?_
  refine m_icmp_ge (tgt := 30) X dX5_fill_23 (by decide) rfl (fun b23 => absurd b23 (vi_1 (by decide) h8)) (fun b23 => ?_)
  refine m_iconst (v := 1) X dX5_fill_26 (by decide) rfl ?_
  refine m_goto (tgt := 31) X dX5_fill_27 (by decide) rfl ?_
  refine m_cS1 X dX5_fill_31 lk_X5_61 mk_X5_needState st_X5_needState (c_X5_needState (by decide)) rfl (Nat.le_of_ble_eq_true rfl) (Nat.le_of_ble_eq_true rfl) (Nat.le_of_ble_eq_true rfl) (Nat.le_of_ble_eq_true rfl) (Nat.le_of_ble_eq_true rfl) rfl ?_
  refine m_aload_n X dX5_fill_34 rfl rfl ?_
  refine m_getf X dX5_fill_35 fl_X5_30 rfl rfl rfl ?_
  refine m_iload_n X dX5_fill_38 rfl rfl ?_
  refine m_iload_n X dX5_fill_39 rfl rfl ?_
  refine m_cV2 X dX5_fill_40 lk_X5_89 mk_X2_store in_X2_store se_X2_store rfl rfl (c_X2_store h8) rfl (Nat.le_of_ble_eq_true rfl) (Nat.le_of_ble_eq_true rfl) (Nat.le_of_ble_eq_true rfl) (Nat.le_of_ble_eq_true rfl) (Nat.le_of_ble_eq_true rfl) rfl ?_
  exact m_iret X dX5_fill_43 rfl (rfl) (Nat.le_of_ble_eq_true rfl) (Nat.le_of_ble_eq_true rfl) rfl
theorem c_X5_setMargin {v : m_V} {a : m_R} {x : Int64} {t : m_H} {b n : Int32} (hb : 0 ≤ b ∧ b ≤ 3) (hn : 0 ≤ n ∧ n ≤ 1000) : m_Ctr M_X5_setMargin [.ref 0, .int b, .int n] (hC v a x t) (.inl (some (.int (a 0 b.toNatClampNeg)), hC v (va_up a 0 (upd (a 0) b.toNatClampNeg n)) x t)) := by
  refine m_intro (by decide +kernel) (Nat.le_of_ble_eq_true rfl) (fun X => ?_)
  refine m_iload_n X dX5_setMargin_0 rfl rfl ?_
  refine m_cS1 X dX5_setMargin_1 lk_X5_80 mk_X5_needBin st_X5_needBin (c_X5_needBin hb) rfl (Nat.le_of_ble_eq_true rfl) (Nat.le_of_ble_eq_true rfl) (Nat.le_of_ble_eq_true rfl) (Nat.le_of_ble_eq_true rfl) (Nat.le_of_ble_eq_true rfl) rfl ?_
  refine m_iload_n X dX5_setMargin_4 rfl rfl ?_
  refine m_iconst (v := 0) X dX5_setMargin_5 (by decide) rfl ?_
  refine m_sipush (v := (1000)) X dX5_setMargin_6 (by decide) rfl ?_
  refine m_cS3 X dX5_setMargin_9 lk_X5_47 mk_X5_isWithin st_X5_isWithin (c_X5_isWithin) rfl (Nat.le_of_ble_eq_true rfl) (Nat.le_of_ble_eq_true rfl) (Nat.le_of_ble_eq_true rfl) (Nat.le_of_ble_eq_true rfl) (Nat.le_of_ble_eq_true rfl) rfl ?_
  refine m_cS1 X dX5_setMargin_12 lk_X5_51 mk_X5_needArgument st_X5_needArgument (c_X5_needArgument (by rw [bi_t hn]; decide)) rfl (Nat.le_of_ble_eq_true rfl) (Nat.le_of_ble_eq_true rfl) (Nat.le_of_ble_eq_true rfl) (Nat.le_of_ble_eq_true rfl) (Nat.le_of_ble_eq_true rfl) rfl ?_
  refine m_aload_n X dX5_setMargin_15 rfl rfl ?_
  refine m_getf X dX5_setMargin_16 fl_X5_25 rfl rfl rfl ?_
  refine m_getf X dX5_setMargin_19 fl_X5_93 rfl rfl rfl ?_
  refine m_iload_n X dX5_setMargin_22 rfl rfl ?_
  refine m_cS2 X dX5_setMargin_23 lk_X5_99 mk_X5_at st_X5_at (c_X5_at rfl (by decide) (bin_in hb)) rfl (Nat.le_of_ble_eq_true rfl) (Nat.le_of_ble_eq_true rfl) (Nat.le_of_ble_eq_true rfl) (Nat.le_of_ble_eq_true rfl) (Nat.le_of_ble_eq_true rfl) rfl ?_
  refine m_istore_n X dX5_setMargin_26 (Nat.le_of_ble_eq_true rfl) rfl ?_
  refine m_aload_n X dX5_setMargin_27 rfl rfl ?_
  refine m_getf X dX5_setMargin_28 fl_X5_25 rfl rfl rfl ?_
  refine m_getf X dX5_setMargin_31 fl_X5_93 rfl rfl rfl ?_
  refine m_iload_n X dX5_setMargin_34 rfl rfl ?_
  refine m_iload_n X dX5_setMargin_35 rfl rfl ?_
  refine m_cS3 X dX5_setMargin_36 lk_X5_103 mk_X5_put st_X5_put (c_X5_put rfl (by decide) (bin_in hb)) rfl (Nat.le_of_ble_eq_true rfl) (Nat.le_of_ble_eq_true rfl) (Nat.le_of_ble_eq_true rfl) (Nat.le_of_ble_eq_true rfl) (Nat.le_of_ble_eq_true rfl) rfl ?_
  refine m_hp hC_a0 ?_
  refine m_iload_n X dX5_setMargin_39 rfl rfl ?_
  exact m_iret X dX5_setMargin_40 rfl (rfl) (Nat.le_of_ble_eq_true rfl) (Nat.le_of_ble_eq_true rfl) rfl
theorem c_X5_flight {v : m_V} {a : m_R} {x : Int64} {t : m_H} {b : Int32} (hb : 0 ≤ b ∧ b ≤ 3) : m_Ctr M_X5_flight [.ref 0, .int b] (hC v a x t) (.inl (some (.int (a 1 b.toNatClampNeg)), hC v a x t)) := by
  refine m_intro (by decide +kernel) (Nat.le_of_ble_eq_true rfl) (fun X => ?_)
  refine m_iload_n X dX5_flight_0 rfl rfl ?_
  refine m_cS1 X dX5_flight_1 lk_X5_80 mk_X5_needBin st_X5_needBin (c_X5_needBin hb) rfl (Nat.le_of_ble_eq_true rfl) (Nat.le_of_ble_eq_true rfl) (Nat.le_of_ble_eq_true rfl) (Nat.le_of_ble_eq_true rfl) (Nat.le_of_ble_eq_true rfl) rfl ?_
  refine m_aload_n X dX5_flight_4 rfl rfl ?_
  refine m_getf X dX5_flight_5 fl_X5_25 rfl rfl rfl ?_
  refine m_getf X dX5_flight_8 fl_X5_107 rfl rfl rfl ?_
  refine m_iload_n X dX5_flight_11 rfl rfl ?_
  refine m_cS2 X dX5_flight_12 lk_X5_99 mk_X5_at st_X5_at (c_X5_at rfl (by decide) (bin_in hb)) rfl (Nat.le_of_ble_eq_true rfl) (Nat.le_of_ble_eq_true rfl) (Nat.le_of_ble_eq_true rfl) (Nat.le_of_ble_eq_true rfl) (Nat.le_of_ble_eq_true rfl) rfl ?_
  exact m_iret X dX5_flight_15 rfl (rfl) (Nat.le_of_ble_eq_true rfl) (Nat.le_of_ble_eq_true rfl) rfl
theorem c_X5_gate {v : m_V} {a : m_R} {x : Int64} {t : m_H} {b : Int32} (hb : 0 ≤ b ∧ b ≤ 3) (h1 : vp_in (v 15) 6) : m_Ctr M_X5_gate [.ref 0, .int b] (hC v a x t) (.inl (some (.int (sGate v a b)), hC v a x t)) := by
  refine m_intro (by decide +kernel) (Nat.le_of_ble_eq_true rfl) (fun X => ?_)
  refine m_iload_n X dX5_gate_0 rfl rfl ?_
  refine m_cS1 X dX5_gate_1 lk_X5_80 mk_X5_needBin st_X5_needBin (c_X5_needBin hb) rfl (Nat.le_of_ble_eq_true rfl) (Nat.le_of_ble_eq_true rfl) (Nat.le_of_ble_eq_true rfl) (Nat.le_of_ble_eq_true rfl) (Nat.le_of_ble_eq_true rfl) rfl ?_
  refine m_aload_n X dX5_gate_4 rfl rfl ?_
  refine m_getf X dX5_gate_5 fl_X5_10 rfl rfl rfl ?_
  refine m_iload_n X dX5_gate_8 rfl rfl ?_
  refine m_cV1 X dX5_gate_9 lk_X5_110 mk_X1_gateOf in_X1_gateOf se_X1_gateOf rfl rfl (c_X1_gateOf h1) rfl (Nat.le_of_ble_eq_true rfl) (Nat.le_of_ble_eq_true rfl) (Nat.le_of_ble_eq_true rfl) (Nat.le_of_ble_eq_true rfl) (Nat.le_of_ble_eq_true rfl) rfl ?_
  exact m_iret X dX5_gate_12 rfl (rfl) (Nat.le_of_ble_eq_true rfl) (Nat.le_of_ble_eq_true rfl) rfl
theorem c_X5_stock {v : m_V} {a : m_R} {x : Int64} {t : m_H} {b : Int32} (hb : 0 ≤ b ∧ b ≤ 3) (hL : ∃ L, L ≤ 30 ∧ v 8 = nI L) : m_Ctr M_X5_stock [.ref 0, .int b] (hC v a x t) (.inl (some (.int (sStock b a (v 8).toNatClampNeg)), hC v a x t)) := by
  refine m_intro (by decide +kernel) (Nat.le_of_ble_eq_true rfl) (fun X => ?_)
  refine m_iload_n X dX5_stock_0 rfl rfl ?_
  refine m_cS1 X dX5_stock_1 lk_X5_80 mk_X5_needBin st_X5_needBin (c_X5_needBin hb) rfl (Nat.le_of_ble_eq_true rfl) (Nat.le_of_ble_eq_true rfl) (Nat.le_of_ble_eq_true rfl) (Nat.le_of_ble_eq_true rfl) (Nat.le_of_ble_eq_true rfl) rfl ?_
  refine m_aload_n X dX5_stock_4 rfl rfl ?_
  refine m_getf X dX5_stock_5 fl_X5_30 rfl rfl rfl ?_
  refine m_iload_n X dX5_stock_8 rfl rfl ?_
  refine m_cV1 X dX5_stock_9 lk_X5_114 mk_X2_leftIn in_X2_leftIn se_X2_leftIn rfl rfl (c_X2_leftIn hL) rfl (Nat.le_of_ble_eq_true rfl) (Nat.le_of_ble_eq_true rfl) (Nat.le_of_ble_eq_true rfl) (Nat.le_of_ble_eq_true rfl) (Nat.le_of_ble_eq_true rfl) rfl ?_
  exact m_iret X dX5_stock_12 rfl (rfl) (Nat.le_of_ble_eq_true rfl) (Nat.le_of_ble_eq_true rfl) rfl
theorem c_X5_register {v : m_V} {a : m_R} {x : Int64} {t : m_H} {b : Int32} (hb : 0 ≤ b ∧ b ≤ 3) : m_Ctr M_X5_register [.ref 0, .int b] (hC v a x t) (.inl (some (.int (a 2 b.toNatClampNeg)), hC v a x t)) := by
  refine m_intro (by decide +kernel) (Nat.le_of_ble_eq_true rfl) (fun X => ?_)
  refine m_iload_n X dX5_register_0 rfl rfl ?_
  refine m_cS1 X dX5_register_1 lk_X5_80 mk_X5_needBin st_X5_needBin (c_X5_needBin hb) rfl (Nat.le_of_ble_eq_true rfl) (Nat.le_of_ble_eq_true rfl) (Nat.le_of_ble_eq_true rfl) (Nat.le_of_ble_eq_true rfl) (Nat.le_of_ble_eq_true rfl) rfl ?_
  refine m_aload_n X dX5_register_4 rfl rfl ?_
  refine m_getf X dX5_register_5 fl_X5_25 rfl rfl rfl ?_
  refine m_getf X dX5_register_8 fl_X5_117 rfl rfl rfl ?_
  refine m_iload_n X dX5_register_11 rfl rfl ?_
  refine m_cS2 X dX5_register_12 lk_X5_99 mk_X5_at st_X5_at (c_X5_at rfl (by decide) (bin_in hb)) rfl (Nat.le_of_ble_eq_true rfl) (Nat.le_of_ble_eq_true rfl) (Nat.le_of_ble_eq_true rfl) (Nat.le_of_ble_eq_true rfl) (Nat.le_of_ble_eq_true rfl) rfl ?_
  exact m_iret X dX5_register_15 rfl (rfl) (Nat.le_of_ble_eq_true rfl) (Nat.le_of_ble_eq_true rfl) rfl
theorem c_X5_registerByLots {v : m_V} {a : m_R} {x : Int64} {t : m_H} {b : Int32} (hb : 0 ≤ b ∧ b ≤ 3) (hL : ∃ L, L ≤ 30 ∧ v 8 = nI L) : m_Ctr M_X5_registerByLots [.ref 0, .int b] (hC v a x t) (.inl (some (.int (sGone b a (v 8).toNatClampNeg + a 3 b.toNatClampNeg)), hC v a x t)) := by
  refine m_intro (by decide +kernel) (Nat.le_of_ble_eq_true rfl) (fun X => ?_)
  refine m_iload_n X dX5_registerByLots_0 rfl rfl ?_
  refine m_cS1 X dX5_registerByLots_1 lk_X5_80 mk_X5_needBin st_X5_needBin (c_X5_needBin hb) rfl (Nat.le_of_ble_eq_true rfl) (Nat.le_of_ble_eq_true rfl) (Nat.le_of_ble_eq_true rfl) (Nat.le_of_ble_eq_true rfl) (Nat.le_of_ble_eq_true rfl) rfl ?_
  refine m_aload_n X dX5_registerByLots_4 rfl rfl ?_
  refine m_getf X dX5_registerByLots_5 fl_X5_30 rfl rfl rfl ?_
  refine m_iload_n X dX5_registerByLots_8 rfl rfl ?_
  refine m_cV1 X dX5_registerByLots_9 lk_X5_120 mk_X2_goneFrom in_X2_goneFrom se_X2_goneFrom rfl rfl (c_X2_goneFrom hL) rfl (Nat.le_of_ble_eq_true rfl) (Nat.le_of_ble_eq_true rfl) (Nat.le_of_ble_eq_true rfl) (Nat.le_of_ble_eq_true rfl) (Nat.le_of_ble_eq_true rfl) rfl ?_
  refine m_aload_n X dX5_registerByLots_12 rfl rfl ?_
  refine m_getf X dX5_registerByLots_13 fl_X5_25 rfl rfl rfl ?_
  refine m_getf X dX5_registerByLots_16 fl_X5_123 rfl rfl rfl ?_
  refine m_iload_n X dX5_registerByLots_19 rfl rfl ?_
  refine m_cS2 X dX5_registerByLots_20 lk_X5_99 mk_X5_at st_X5_at (c_X5_at rfl (by decide) (bin_in hb)) rfl (Nat.le_of_ble_eq_true rfl) (Nat.le_of_ble_eq_true rfl) (Nat.le_of_ble_eq_true rfl) (Nat.le_of_ble_eq_true rfl) (Nat.le_of_ble_eq_true rfl) rfl ?_
  refine m_iadd X dX5_registerByLots_23 rfl ?_
  exact m_iret X dX5_registerByLots_24 rfl (rfl) (Nat.le_of_ble_eq_true rfl) (Nat.le_of_ble_eq_true rfl) rfl
theorem c_X5_leftOf {v : m_V} {a : m_R} {x : Int64} {t : m_H} {i : Int32} (hi : 0 ≤ i ∧ i ≤ v 8 - 1) (h30 : vp_in i 30) : m_Ctr M_X5_leftOf [.ref 0, .int i] (hC v a x t) (.inl (some (.int (a 6 i.toNatClampNeg)), hC v a x t)) := by
  refine m_intro (by decide +kernel) (Nat.le_of_ble_eq_true rfl) (fun X => ?_)
  refine m_aload_n X dX5_leftOf_0 rfl rfl ?_
  refine m_iload_n X dX5_leftOf_1 rfl rfl ?_
  refine m_cV1 X dX5_leftOf_2 lk_X5_126 mk_X5_needLot in_X5_needLot se_X5_needLot rfl rfl (c_X5_needLot hi) rfl (Nat.le_of_ble_eq_true rfl) (Nat.le_of_ble_eq_true rfl) (Nat.le_of_ble_eq_true rfl) (Nat.le_of_ble_eq_true rfl) (Nat.le_of_ble_eq_true rfl) rfl ?_
  refine m_aload_n X dX5_leftOf_5 rfl rfl ?_
  refine m_getf X dX5_leftOf_6 fl_X5_30 rfl rfl rfl ?_
  refine m_getf X dX5_leftOf_9 fl_X5_129 rfl rfl rfl ?_
  refine m_iload_n X dX5_leftOf_12 rfl rfl ?_
  refine m_cS2 X dX5_leftOf_13 lk_X5_99 mk_X5_at st_X5_at (c_X5_at rfl (by decide) h30) rfl (Nat.le_of_ble_eq_true rfl) (Nat.le_of_ble_eq_true rfl) (Nat.le_of_ble_eq_true rfl) (Nat.le_of_ble_eq_true rfl) (Nat.le_of_ble_eq_true rfl) rfl ?_
  exact m_iret X dX5_leftOf_16 rfl (rfl) (Nat.le_of_ble_eq_true rfl) (Nat.le_of_ble_eq_true rfl) rfl
theorem c_X5_firstBatch {v : m_V} {a : m_R} {x : Int64} {t : m_H} {i B : Nat} (hi : 0 ≤ nI i ∧ nI i ≤ v 8 - 1) (h30 : i < 30) (hB : B ≤ 20) (hB2 : v 20 = nI B) (hF : sFst a i B) : m_Ctr M_X5_firstBatch [.ref 0, .int (nI i)] (hC v a x t) (.inl (some (.int (a 12 i)), hC v a x t)) := by
  refine m_intro (by decide +kernel) (Nat.le_of_ble_eq_true rfl) (fun X => ?_)
  refine m_aload_n X dX5_firstBatch_0 rfl rfl ?_
  refine m_iload_n X dX5_firstBatch_1 rfl rfl ?_
  refine m_cV1 X dX5_firstBatch_2 lk_X5_126 mk_X5_needLot in_X5_needLot se_X5_needLot rfl rfl (c_X5_needLot hi) rfl (Nat.le_of_ble_eq_true rfl) (Nat.le_of_ble_eq_true rfl) (Nat.le_of_ble_eq_true rfl) (Nat.le_of_ble_eq_true rfl) (Nat.le_of_ble_eq_true rfl) rfl ?_
  refine m_aload_n X dX5_firstBatch_5 rfl rfl ?_
  refine m_getf X dX5_firstBatch_6 fl_X5_30 rfl rfl rfl ?_
  refine m_iload_n X dX5_firstBatch_9 rfl rfl ?_
  refine m_aload_n X dX5_firstBatch_10 rfl rfl ?_
  refine m_getf X dX5_firstBatch_11 fl_X5_10 rfl rfl rfl ?_
  refine m_getf (v := .int (v 20)) X dX5_firstBatch_14 fl_X5_132 rfl rfl rfl ?_
  refine m_sp (st1 := [.int (nI B), .int (nI i), .ref 8]) (by rw [hB2]; rfl) ?_
  refine m_cV2 X dX5_firstBatch_17 lk_X5_135 mk_X2_firstBatchOf in_X2_firstBatchOf se_X2_firstBatchOf rfl rfl (c_X2_firstBatchOf h30 hB hF) rfl (Nat.le_of_ble_eq_true rfl) (Nat.le_of_ble_eq_true rfl) (Nat.le_of_ble_eq_true rfl) (Nat.le_of_ble_eq_true rfl) (Nat.le_of_ble_eq_true rfl) rfl ?_
  exact m_iret X dX5_firstBatch_20 rfl (rfl) (Nat.le_of_ble_eq_true rfl) (Nat.le_of_ble_eq_true rfl) rfl
theorem c_X5_used {v : m_V} {a : m_R} {x : Int64} {t : m_H} {i B : Nat} (hi : 0 ≤ nI i ∧ nI i ≤ v 8 - 1) (hj : 0 ≤ nI B ∧ nI B ≤ v 20 - 1) (h30 : i < 30) (hB : B < 20) : m_Ctr M_X5_used [.ref 0, .int (nI i), .int (nI B)] (hC v a x t) (.inl (some (.int (a 7 (i * 20 + B))), hC v a x t)) := by
  refine m_intro (by decide +kernel) (Nat.le_of_ble_eq_true rfl) (fun X => ?_)
  refine m_aload_n X dX5_used_0 rfl rfl ?_
  refine m_iload_n X dX5_used_1 rfl rfl ?_
  refine m_cV1 X dX5_used_2 lk_X5_126 mk_X5_needLot in_X5_needLot se_X5_needLot rfl rfl (c_X5_needLot hi) rfl (Nat.le_of_ble_eq_true rfl) (Nat.le_of_ble_eq_true rfl) (Nat.le_of_ble_eq_true rfl) (Nat.le_of_ble_eq_true rfl) (Nat.le_of_ble_eq_true rfl) rfl ?_
  refine m_aload_n X dX5_used_5 rfl rfl ?_
  refine m_iload_n X dX5_used_6 rfl rfl ?_
  refine m_cV1 X dX5_used_7 lk_X5_138 mk_X5_needBatch in_X5_needBatch se_X5_needBatch rfl rfl (c_X5_needBatch hj) rfl (Nat.le_of_ble_eq_true rfl) (Nat.le_of_ble_eq_true rfl) (Nat.le_of_ble_eq_true rfl) (Nat.le_of_ble_eq_true rfl) (Nat.le_of_ble_eq_true rfl) rfl ?_
  refine m_aload_n X dX5_used_10 rfl rfl ?_
  refine m_getf X dX5_used_11 fl_X5_30 rfl rfl rfl ?_
  refine m_iload_n X dX5_used_14 rfl rfl ?_
  refine m_iload_n X dX5_used_15 rfl rfl ?_
  refine m_cV2 X dX5_used_16 lk_X5_141 mk_X2_usedFor in_X2_usedFor se_X2_usedFor rfl rfl (c_X2_usedFor h30 hB) rfl (Nat.le_of_ble_eq_true rfl) (Nat.le_of_ble_eq_true rfl) (Nat.le_of_ble_eq_true rfl) (Nat.le_of_ble_eq_true rfl) (Nat.le_of_ble_eq_true rfl) rfl ?_
  exact m_iret X dX5_used_19 rfl (rfl) (Nat.le_of_ble_eq_true rfl) (Nat.le_of_ble_eq_true rfl) rfl
theorem c_X5_addStep {v : m_V} {a : m_R} {x : Int64} {t : m_H} {b g l9 : Int32} (hb : 0 ≤ b ∧ b ≤ 3) (ht : 1 ≤ g ∧ g ≤ 10000) (hl : 0 ≤ l9 ∧ l9 ≤ 1000) (h0 : v 10 = 0) (h9 : vp_in (v 9) 6) : m_Ctr M_X5_addStep [.ref 0, .int b, .int g, .int l9] (hC v a x t) (.inl (some (.int (v 9 + 1)), hC (upd v 9 (v 9 + 1)) (sAppA b g l9 v a) x t)) := by
  refine m_intro (by decide +kernel) (Nat.le_of_ble_eq_true rfl) (fun X => ?_)
  refine m_iload_n X dX5_addStep_0 rfl rfl ?_
  refine m_cS1 X dX5_addStep_1 lk_X5_80 mk_X5_needBin st_X5_needBin (c_X5_needBin hb) rfl (Nat.le_of_ble_eq_true rfl) (Nat.le_of_ble_eq_true rfl) (Nat.le_of_ble_eq_true rfl) (Nat.le_of_ble_eq_true rfl) (Nat.le_of_ble_eq_true rfl) rfl ?_
  refine m_iload_n X dX5_addStep_4 rfl rfl ?_
  refine m_iconst (v := 1) X dX5_addStep_5 (by decide) rfl ?_
  refine m_sipush (v := (10000)) X dX5_addStep_6 (by decide) rfl ?_
  refine m_cS3 X dX5_addStep_9 lk_X5_47 mk_X5_isWithin st_X5_isWithin (c_X5_isWithin) rfl (Nat.le_of_ble_eq_true rfl) (Nat.le_of_ble_eq_true rfl) (Nat.le_of_ble_eq_true rfl) (Nat.le_of_ble_eq_true rfl) (Nat.le_of_ble_eq_true rfl) rfl ?_
  refine m_if_eq (tgt := 30) X dX5_addStep_12 (by decide) rfl (fun b12 => absurd b12 ((by rw [bi_t ht]; decide))) (fun b12 => ?_)
  refine m_iload_n X dX5_addStep_15 rfl rfl ?_
  refine m_iconst (v := 0) X dX5_addStep_16 (by decide) rfl ?_
  refine m_sipush (v := (1000)) X dX5_addStep_17 (by decide) rfl ?_
  refine m_cS3 X dX5_addStep_20 lk_X5_47 mk_X5_isWithin st_X5_isWithin (c_X5_isWithin) rfl (Nat.le_of_ble_eq_true rfl) (Nat.le_of_ble_eq_true rfl) (Nat.le_of_ble_eq_true rfl) (Nat.le_of_ble_eq_true rfl) (Nat.le_of_ble_eq_true rfl) rfl ?_
  refine m_if_eq (tgt := 30) X dX5_addStep_23 (by decide) rfl (fun b23 => absurd b23 ((by rw [bi_t hl]; decide))) (fun b23 => ?_)
  refine m_iconst (v := 1) X dX5_addStep_26 (by decide) rfl ?_
  refine m_goto (tgt := 31) X dX5_addStep_27 (by decide) rfl ?_
  refine m_cS1 X dX5_addStep_31 lk_X5_51 mk_X5_needArgument st_X5_needArgument (c_X5_needArgument (by decide)) rfl (Nat.le_of_ble_eq_true rfl) (Nat.le_of_ble_eq_true rfl) (Nat.le_of_ble_eq_true rfl) (Nat.le_of_ble_eq_true rfl) (Nat.le_of_ble_eq_true rfl) rfl ?_
  refine m_aload_n X dX5_addStep_34 rfl rfl ?_
  refine m_getf X dX5_addStep_35 fl_X5_10 rfl rfl rfl ?_
  refine m_getf (v := .int (v 10)) X dX5_addStep_38 fl_X5_43 rfl rfl rfl ?_
  refine m_if_ne (tgt := 60) X dX5_addStep_41 (by decide) rfl (fun b41 => absurd b41 (not_not_intro h0)) (fun b41 => ?_)
  refine m_aload_n X dX5_addStep_44 rfl rfl ?_
  refine m_getf X dX5_addStep_45 fl_X5_35 rfl rfl rfl ?_
  refine m_getf (v := .int (v 9)) X dX5_addStep_48 fl_X5_144 rfl rfl rfl ?_
  refine m_bipush (v := (6)) X dX5_addStep_51 (by decide) rfl ?_
  refine m_icmp_ge (tgt := 60) X dX5_addStep_53 (by decide) rfl (fun b53 => absurd b53 (vi_1 (by decide) h9)) (fun b53 => ?_)
  refine m_iconst (v := 1) X dX5_addStep_56 (by decide) rfl ?_
  refine m_goto (tgt := 61) X dX5_addStep_57 (by decide) rfl ?_
  refine m_cS1 X dX5_addStep_61 lk_X5_61 mk_X5_needState st_X5_needState (c_X5_needState (by decide)) rfl (Nat.le_of_ble_eq_true rfl) (Nat.le_of_ble_eq_true rfl) (Nat.le_of_ble_eq_true rfl) (Nat.le_of_ble_eq_true rfl) (Nat.le_of_ble_eq_true rfl) rfl ?_
  refine m_aload_n X dX5_addStep_64 rfl rfl ?_
  refine m_getf X dX5_addStep_65 fl_X5_35 rfl rfl rfl ?_
  refine m_iload_n X dX5_addStep_68 rfl rfl ?_
  refine m_iload_n X dX5_addStep_69 rfl rfl ?_
  refine m_iload_n X dX5_addStep_70 rfl rfl ?_
  refine m_cV3 X dX5_addStep_71 lk_X5_147 mk_X3_append in_X3_append se_X3_append rfl rfl (c_X3_append h9) rfl (Nat.le_of_ble_eq_true rfl) (Nat.le_of_ble_eq_true rfl) (Nat.le_of_ble_eq_true rfl) (Nat.le_of_ble_eq_true rfl) (Nat.le_of_ble_eq_true rfl) rfl ?_
  refine m_aload_n X dX5_addStep_74 rfl rfl ?_
  refine m_getf X dX5_addStep_75 fl_X5_35 rfl rfl rfl ?_
  refine m_getf (v := .int ((upd v 9 (v 9 + 1)) 9)) X dX5_addStep_78 fl_X5_144 rfl rfl rfl ?_
  exact m_iret X dX5_addStep_81 rfl (rfl) (Nat.le_of_ble_eq_true rfl) (Nat.le_of_ble_eq_true rfl) rfl
theorem c_X5_start {v : m_V} {a : m_R} {x : Int64} {t : m_H} (h0 : v 10 = 0) (h9 : ¬ v 9 ≤ 0) (h20 : ¬ 20 ≤ v 20) : m_Ctr M_X5_start [.ref 0] (hC v a x t) (.inl (some (.int (v 20)), hC (sBegin (upd v 20 (v 20 + 1)) 0) a x t)) := by
  refine m_intro (by decide +kernel) (Nat.le_of_ble_eq_true rfl) (fun X => ?_)
  refine m_aload_n X dX5_start_0 rfl rfl ?_
  refine m_getf X dX5_start_1 fl_X5_10 rfl rfl rfl ?_
  refine m_getf (v := .int (v 10)) X dX5_start_4 fl_X5_43 rfl rfl rfl ?_
  refine m_if_ne (tgt := 36) X dX5_start_7 (by decide) rfl (fun b7 => absurd b7 (not_not_intro h0)) (fun b7 => ?_)
  refine m_aload_n X dX5_start_10 rfl rfl ?_
  refine m_getf X dX5_start_11 fl_X5_35 rfl rfl rfl ?_
  refine m_getf (v := .int (v 9)) X dX5_start_14 fl_X5_144 rfl rfl rfl ?_
  refine m_if_le (tgt := 36) X dX5_start_17 (by decide) rfl (fun b17 => absurd b17 (h9)) (fun b17 => ?_)
  refine m_aload_n X dX5_start_20 rfl rfl ?_
  refine m_getf X dX5_start_21 fl_X5_10 rfl rfl rfl ?_
  refine m_getf (v := .int (v 20)) X dX5_start_24 fl_X5_132 rfl rfl rfl ?_
  refine m_bipush (v := (20)) X dX5_start_27 (by decide) rfl ?_
  refine m_icmp_ge (tgt := 36) X dX5_start_29 (by decide) rfl (fun b29 => absurd b29 (h20)) (fun b29 => ?_)
  refine m_iconst (v := 1) X dX5_start_32 (by decide) rfl ?_
  refine m_goto (tgt := 37) X dX5_start_33 (by decide) rfl ?_
  refine m_cS1 X dX5_start_37 lk_X5_61 mk_X5_needState st_X5_needState (c_X5_needState (by decide)) rfl (Nat.le_of_ble_eq_true rfl) (Nat.le_of_ble_eq_true rfl) (Nat.le_of_ble_eq_true rfl) (Nat.le_of_ble_eq_true rfl) (Nat.le_of_ble_eq_true rfl) rfl ?_
  refine m_aload_n X dX5_start_40 rfl rfl ?_
  refine m_getf X dX5_start_41 fl_X5_10 rfl rfl rfl ?_
  refine m_cV0 X dX5_start_44 lk_X5_151 mk_X1_startBatch in_X1_startBatch se_X1_startBatch rfl rfl (c_X1_startBatch) rfl (Nat.le_of_ble_eq_true rfl) (Nat.le_of_ble_eq_true rfl) (Nat.le_of_ble_eq_true rfl) (Nat.le_of_ble_eq_true rfl) (Nat.le_of_ble_eq_true rfl) rfl ?_
  exact m_iret X dX5_start_47 rfl (rfl) (Nat.le_of_ble_eq_true rfl) (Nat.le_of_ble_eq_true rfl) rfl
theorem x_X5_start {v : m_V} {a : m_R} {x : Int64} {t : m_H} (h0 : ¬ (v 10 = 0 ∧ ¬ v 9 ≤ 0 ∧ ¬ 20 ≤ v 20)) : m_Ctr Mx_X5_start [.ref 0] (hC v a x t) (.inr ("java/lang/IllegalStateException", hC v a x t)) := by
  refine m_intro (by decide +kernel) (Nat.le_of_ble_eq_true rfl) (fun X => ?_)
  refine m_aload_n X dX5_start_0 rfl rfl ?_
  refine m_getf X dX5_start_1 fl_X5_10 rfl rfl rfl ?_
  refine m_getf (v := .int (v 10)) X dX5_start_4 fl_X5_43 rfl rfl rfl ?_
  refine m_if_ne (tgt := 36) X dX5_start_7 (by decide) rfl (fun b7 => ?_) (fun b7 => ?_)
  · refine m_iconst (v := 0) X dX5_start_36 (by decide) rfl ?_
    exact m_tS1 (M := Mx_X5_needState) X dX5_start_37 ll_X5_61 mkx_X5_needState st_X5_needState (x_X5_needState rfl) rfl (Nat.le_of_ble_eq_true rfl) (Nat.le_of_ble_eq_true rfl) (Nat.le_of_ble_eq_true rfl) (Nat.le_of_ble_eq_true rfl) (Nat.le_of_ble_eq_true rfl) rfl rfl (rfl) (Nat.le_of_ble_eq_true rfl) (Nat.le_of_ble_eq_true rfl)
  · refine m_aload_n X dX5_start_10 rfl rfl ?_
    refine m_getf X dX5_start_11 fl_X5_35 rfl rfl rfl ?_
    refine m_getf (v := .int (v 9)) X dX5_start_14 fl_X5_144 rfl rfl rfl ?_
    refine m_if_le (tgt := 36) X dX5_start_17 (by decide) rfl (fun b17 => ?_) (fun b17 => ?_)
    · refine m_iconst (v := 0) X dX5_start_36 (by decide) rfl ?_
      exact m_tS1 (M := Mx_X5_needState) X dX5_start_37 ll_X5_61 mkx_X5_needState st_X5_needState (x_X5_needState rfl) rfl (Nat.le_of_ble_eq_true rfl) (Nat.le_of_ble_eq_true rfl) (Nat.le_of_ble_eq_true rfl) (Nat.le_of_ble_eq_true rfl) (Nat.le_of_ble_eq_true rfl) rfl rfl (rfl) (Nat.le_of_ble_eq_true rfl) (Nat.le_of_ble_eq_true rfl)
    · refine m_aload_n X dX5_start_20 rfl rfl ?_
      refine m_getf X dX5_start_21 fl_X5_10 rfl rfl rfl ?_
      refine m_getf (v := .int (v 20)) X dX5_start_24 fl_X5_132 rfl rfl rfl ?_
      refine m_bipush (v := (20)) X dX5_start_27 (by decide) rfl ?_
      refine m_icmp_ge (tgt := 36) X dX5_start_29 (by decide) rfl (fun b29 => ?_) (fun b29 => ?_)
      · refine m_iconst (v := 0) X dX5_start_36 (by decide) rfl ?_
        exact m_tS1 (M := Mx_X5_needState) X dX5_start_37 ll_X5_61 mkx_X5_needState st_X5_needState (x_X5_needState rfl) rfl (Nat.le_of_ble_eq_true rfl) (Nat.le_of_ble_eq_true rfl) (Nat.le_of_ble_eq_true rfl) (Nat.le_of_ble_eq_true rfl) (Nat.le_of_ble_eq_true rfl) rfl rfl (rfl) (Nat.le_of_ble_eq_true rfl) (Nat.le_of_ble_eq_true rfl)
      · exact absurd ⟨b7, b17, b29⟩ h0
theorem c_X5_hold {v : m_V} {a : m_R} {x : Int64} {t : m_H} (h0 : ¬ v 10 = 0) (h6 : ¬ v 10 = 6) : m_Ctr M_X5_hold [.ref 0] (hC v a x t) (.inl (some (.int (v 10)), hC (sHalt v 0) a x t)) := by
  refine m_intro (by decide +kernel) (Nat.le_of_ble_eq_true rfl) (fun X => ?_)
  refine m_aload_n X dX5_hold_0 rfl rfl ?_
  refine m_getf X dX5_hold_1 fl_X5_10 rfl rfl rfl ?_
  refine m_getf (v := .int (v 10)) X dX5_hold_4 fl_X5_43 rfl rfl rfl ?_
  refine m_if_eq (tgt := 26) X dX5_hold_7 (by decide) rfl (fun b7 => absurd b7 (h0)) (fun b7 => ?_)
  refine m_aload_n X dX5_hold_10 rfl rfl ?_
  refine m_getf X dX5_hold_11 fl_X5_10 rfl rfl rfl ?_
  refine m_getf (v := .int (v 10)) X dX5_hold_14 fl_X5_43 rfl rfl rfl ?_
  refine m_bipush (v := (6)) X dX5_hold_17 (by decide) rfl ?_
  refine m_icmp_eq (tgt := 26) X dX5_hold_19 (by decide) rfl (fun b19 => absurd b19 (h6)) (fun b19 => ?_)
  refine m_iconst (v := 1) X dX5_hold_22 (by decide) rfl ?_
  refine m_goto (tgt := 27) X dX5_hold_23 (by decide) rfl ?_
  refine m_cS1 X dX5_hold_27 lk_X5_61 mk_X5_needState st_X5_needState (c_X5_needState (by decide)) rfl (Nat.le_of_ble_eq_true rfl) (Nat.le_of_ble_eq_true rfl) (Nat.le_of_ble_eq_true rfl) (Nat.le_of_ble_eq_true rfl) (Nat.le_of_ble_eq_true rfl) rfl ?_
  refine m_aload_n X dX5_hold_30 rfl rfl ?_
  refine m_getf X dX5_hold_31 fl_X5_10 rfl rfl rfl ?_
  refine m_iconst (v := 0) X dX5_hold_34 (by decide) rfl ?_
  refine m_cV1 X dX5_hold_35 lk_X5_154 mk_X1_halt in_X1_halt se_X1_halt rfl rfl (c_X1_halt) rfl (Nat.le_of_ble_eq_true rfl) (Nat.le_of_ble_eq_true rfl) (Nat.le_of_ble_eq_true rfl) (Nat.le_of_ble_eq_true rfl) (Nat.le_of_ble_eq_true rfl) rfl ?_
  refine m_aload_n X dX5_hold_38 rfl rfl ?_
  refine m_getf X dX5_hold_39 fl_X5_10 rfl rfl rfl ?_
  refine m_getf (v := .int ((sHalt v 0) 12)) X dX5_hold_42 fl_X5_157 rfl rfl rfl ?_
  exact m_iret X dX5_hold_45 rfl (rfl) (Nat.le_of_ble_eq_true rfl) (Nat.le_of_ble_eq_true rfl) rfl
theorem x_X5_hold {v : m_V} {a : m_R} {x : Int64} {t : m_H} (h0 : ¬ (¬ v 10 = 0 ∧ ¬ v 10 = 6)) : m_Ctr Mx_X5_hold [.ref 0] (hC v a x t) (.inr ("java/lang/IllegalStateException", hC v a x t)) := by
  refine m_intro (by decide +kernel) (Nat.le_of_ble_eq_true rfl) (fun X => ?_)
  refine m_aload_n X dX5_hold_0 rfl rfl ?_
  refine m_getf X dX5_hold_1 fl_X5_10 rfl rfl rfl ?_
  refine m_getf (v := .int (v 10)) X dX5_hold_4 fl_X5_43 rfl rfl rfl ?_
  refine m_if_eq (tgt := 26) X dX5_hold_7 (by decide) rfl (fun b7 => ?_) (fun b7 => ?_)
  · refine m_iconst (v := 0) X dX5_hold_26 (by decide) rfl ?_
    exact m_tS1 (M := Mx_X5_needState) X dX5_hold_27 ll_X5_61 mkx_X5_needState st_X5_needState (x_X5_needState rfl) rfl (Nat.le_of_ble_eq_true rfl) (Nat.le_of_ble_eq_true rfl) (Nat.le_of_ble_eq_true rfl) (Nat.le_of_ble_eq_true rfl) (Nat.le_of_ble_eq_true rfl) rfl rfl (rfl) (Nat.le_of_ble_eq_true rfl) (Nat.le_of_ble_eq_true rfl)
  · refine m_aload_n X dX5_hold_10 rfl rfl ?_
    refine m_getf X dX5_hold_11 fl_X5_10 rfl rfl rfl ?_
    refine m_getf (v := .int (v 10)) X dX5_hold_14 fl_X5_43 rfl rfl rfl ?_
    refine m_bipush (v := (6)) X dX5_hold_17 (by decide) rfl ?_
    refine m_icmp_eq (tgt := 26) X dX5_hold_19 (by decide) rfl (fun b19 => ?_) (fun b19 => ?_)
    · refine m_iconst (v := 0) X dX5_hold_26 (by decide) rfl ?_
      exact m_tS1 (M := Mx_X5_needState) X dX5_hold_27 ll_X5_61 mkx_X5_needState st_X5_needState (x_X5_needState rfl) rfl (Nat.le_of_ble_eq_true rfl) (Nat.le_of_ble_eq_true rfl) (Nat.le_of_ble_eq_true rfl) (Nat.le_of_ble_eq_true rfl) (Nat.le_of_ble_eq_true rfl) rfl rfl (rfl) (Nat.le_of_ble_eq_true rfl) (Nat.le_of_ble_eq_true rfl)
    · exact absurd ⟨b7, b19⟩ h0
theorem c_X5_resume {v : m_V} {a : m_R} {x : Int64} {t : m_H} (h0 : v 10 = 6) (hk : kI v a) : m_Ctr M_X5_resume [.ref 0] (hC v a x t) (.inl (some (.int (sGoOnV v 10)), hC (sGoOnV v) (sGoOnA v a) x t)) := by
  refine m_intro (by decide +kernel) (Nat.le_of_ble_eq_true rfl) (fun X => ?_)
  refine m_aload_n X dX5_resume_0 rfl rfl ?_
  refine m_getf X dX5_resume_1 fl_X5_10 rfl rfl rfl ?_
  refine m_getf (v := .int (v 10)) X dX5_resume_4 fl_X5_43 rfl rfl rfl ?_
  refine m_bipush (v := (6)) X dX5_resume_7 (by decide) rfl ?_
  refine m_icmp_ne (tgt := 16) X dX5_resume_9 (by decide) rfl (fun b9 => absurd b9 (not_not_intro h0)) (fun b9 => ?_)
  refine m_iconst (v := 1) X dX5_resume_12 (by decide) rfl ?_
  refine m_goto (tgt := 17) X dX5_resume_13 (by decide) rfl ?_
  refine m_cS1 X dX5_resume_17 lk_X5_61 mk_X5_needState st_X5_needState (c_X5_needState (by decide)) rfl (Nat.le_of_ble_eq_true rfl) (Nat.le_of_ble_eq_true rfl) (Nat.le_of_ble_eq_true rfl) (Nat.le_of_ble_eq_true rfl) (Nat.le_of_ble_eq_true rfl) rfl ?_
  refine m_aload_n X dX5_resume_20 rfl rfl ?_
  refine m_getf X dX5_resume_21 fl_X5_10 rfl rfl rfl ?_
  refine m_cV0 X dX5_resume_24 lk_X5_160 mk_X1_goOn in_X1_goOn se_X1_goOn rfl rfl (c_X1_goOn hk.1 hk.2.1 hk.2.2.1 (hk.2.2.2.1 (by rw [h0]; decide))) rfl (Nat.le_of_ble_eq_true rfl) (Nat.le_of_ble_eq_true rfl) (Nat.le_of_ble_eq_true rfl) (Nat.le_of_ble_eq_true rfl) (Nat.le_of_ble_eq_true rfl) rfl ?_
  refine m_aload_n X dX5_resume_27 rfl rfl ?_
  refine m_getf X dX5_resume_28 fl_X5_10 rfl rfl rfl ?_
  refine m_getf (v := .int ((sGoOnV v) 10)) X dX5_resume_31 fl_X5_43 rfl rfl rfl ?_
  exact m_iret X dX5_resume_34 rfl (rfl) (Nat.le_of_ble_eq_true rfl) (Nat.le_of_ble_eq_true rfl) rfl
theorem x_X5_resume {v : m_V} {a : m_R} {x : Int64} {t : m_H} (h0 : ¬ v 10 = 6) : m_Ctr Mx_X5_resume [.ref 0] (hC v a x t) (.inr ("java/lang/IllegalStateException", hC v a x t)) := by
  refine m_intro (by decide +kernel) (Nat.le_of_ble_eq_true rfl) (fun X => ?_)
  refine m_aload_n X dX5_resume_0 rfl rfl ?_
  refine m_getf X dX5_resume_1 fl_X5_10 rfl rfl rfl ?_
  refine m_getf (v := .int (v 10)) X dX5_resume_4 fl_X5_43 rfl rfl rfl ?_
  refine m_bipush (v := (6)) X dX5_resume_7 (by decide) rfl ?_
  refine m_icmp_ne (tgt := 16) X dX5_resume_9 (by decide) rfl (fun b9 => ?_) (fun b9 => absurd b9 (h0))
  refine m_iconst (v := 0) X dX5_resume_16 (by decide) rfl ?_
  exact m_tS1 (M := Mx_X5_needState) X dX5_resume_17 ll_X5_61 mkx_X5_needState st_X5_needState (x_X5_needState rfl) rfl (Nat.le_of_ble_eq_true rfl) (Nat.le_of_ble_eq_true rfl) (Nat.le_of_ble_eq_true rfl) (Nat.le_of_ble_eq_true rfl) (Nat.le_of_ble_eq_true rfl) rfl rfl (rfl) (Nat.le_of_ble_eq_true rfl) (Nat.le_of_ble_eq_true rfl)
theorem c_X5_abort {v : m_V} {a : m_R} {x : Int64} {t : m_H} (h0 : ¬ v 10 = 0) (hk : kI v a) : m_Ctr M_X5_abort [.ref 0] (hC v a x t) (.inl (some (.int (if v 18 = 0 then 0 else sAmt v)), hC (sEnter v 0) (if v 18 = 0 then a else sBook v a) x t)) := by
  refine m_intro (by decide +kernel) (Nat.le_of_ble_eq_true rfl) (fun X => ?_)
  refine m_aload_n X dX5_abort_0 rfl rfl ?_
  refine m_getf X dX5_abort_1 fl_X5_10 rfl rfl rfl ?_
  refine m_getf (v := .int (v 10)) X dX5_abort_4 fl_X5_43 rfl rfl rfl ?_
  refine m_if_eq (tgt := 14) X dX5_abort_7 (by decide) rfl (fun b7 => absurd b7 (h0)) (fun b7 => ?_)
  refine m_iconst (v := 1) X dX5_abort_10 (by decide) rfl ?_
  refine m_goto (tgt := 15) X dX5_abort_11 (by decide) rfl ?_
  refine m_cS1 X dX5_abort_15 lk_X5_61 mk_X5_needState st_X5_needState (c_X5_needState (by decide)) rfl (Nat.le_of_ble_eq_true rfl) (Nat.le_of_ble_eq_true rfl) (Nat.le_of_ble_eq_true rfl) (Nat.le_of_ble_eq_true rfl) (Nat.le_of_ble_eq_true rfl) rfl ?_
  refine m_aload_n X dX5_abort_18 rfl rfl ?_
  refine m_getf X dX5_abort_19 fl_X5_10 rfl rfl rfl ?_
  refine m_cV0 X dX5_abort_22 lk_X5_163 mk_X1_breakOff in_X1_breakOff se_X1_breakOff rfl rfl (c_X1_breakOff hk.1 hk.2.1 hk.2.2.1 (hk.2.2.2.1 h0)) rfl (Nat.le_of_ble_eq_true rfl) (Nat.le_of_ble_eq_true rfl) (Nat.le_of_ble_eq_true rfl) (Nat.le_of_ble_eq_true rfl) (Nat.le_of_ble_eq_true rfl) rfl ?_
  exact m_iret X dX5_abort_25 rfl (rfl) (Nat.le_of_ble_eq_true rfl) (Nat.le_of_ble_eq_true rfl) rfl
theorem x_X5_abort {v : m_V} {a : m_R} {x : Int64} {t : m_H} (h0 : v 10 = 0) : m_Ctr Mx_X5_abort [.ref 0] (hC v a x t) (.inr ("java/lang/IllegalStateException", hC v a x t)) := by
  refine m_intro (by decide +kernel) (Nat.le_of_ble_eq_true rfl) (fun X => ?_)
  refine m_aload_n X dX5_abort_0 rfl rfl ?_
  refine m_getf X dX5_abort_1 fl_X5_10 rfl rfl rfl ?_
  refine m_getf (v := .int (v 10)) X dX5_abort_4 fl_X5_43 rfl rfl rfl ?_
  refine m_if_eq (tgt := 14) X dX5_abort_7 (by decide) rfl (fun b7 => ?_) (fun b7 => absurd b7 (not_not_intro h0))
  refine m_iconst (v := 0) X dX5_abort_14 (by decide) rfl ?_
  exact m_tS1 (M := Mx_X5_needState) X dX5_abort_15 ll_X5_61 mkx_X5_needState st_X5_needState (x_X5_needState rfl) rfl (Nat.le_of_ble_eq_true rfl) (Nat.le_of_ble_eq_true rfl) (Nat.le_of_ble_eq_true rfl) (Nat.le_of_ble_eq_true rfl) (Nat.le_of_ble_eq_true rfl) rfl rfl (rfl) (Nat.le_of_ble_eq_true rfl) (Nat.le_of_ble_eq_true rfl)
theorem c_X5_state {v : m_V} {a : m_R} {x : Int64} {t : m_H}  : m_Ctr M_X5_state [.ref 0] (hC v a x t) (.inl (some (.int (v 10)), hC v a x t)) := by
  refine m_intro (by decide +kernel) (Nat.le_of_ble_eq_true rfl) (fun X => ?_)
  refine m_aload_n X dX5_state_0 rfl rfl ?_
  refine m_getf X dX5_state_1 fl_X5_10 rfl rfl rfl ?_
  refine m_getf (v := .int (v 10)) X dX5_state_4 fl_X5_43 rfl rfl rfl ?_
  exact m_iret X dX5_state_7 rfl (rfl) (Nat.le_of_ble_eq_true rfl) (Nat.le_of_ble_eq_true rfl) rfl
theorem c_X5_alarm {v : m_V} {a : m_R} {x : Int64} {t : m_H}  : m_Ctr M_X5_alarm [.ref 0] (hC v a x t) (.inl (some (.int (v 11)), hC v a x t)) := by
  refine m_intro (by decide +kernel) (Nat.le_of_ble_eq_true rfl) (fun X => ?_)
  refine m_aload_n X dX5_alarm_0 rfl rfl ?_
  refine m_getf X dX5_alarm_1 fl_X5_10 rfl rfl rfl ?_
  refine m_getf (v := .int (v 11)) X dX5_alarm_4 fl_X5_166 rfl rfl rfl ?_
  exact m_iret X dX5_alarm_7 rfl (rfl) (Nat.le_of_ble_eq_true rfl) (Nat.le_of_ble_eq_true rfl) rfl
theorem c_X5_step {v : m_V} {a : m_R} {x : Int64} {t : m_H}  : m_Ctr M_X5_step [.ref 0] (hC v a x t) (.inl (some (.int (if v 10 = 0 then -1 else v 15)), hC v a x t)) := by
  refine m_intro (by decide +kernel) (Nat.le_of_ble_eq_true rfl) (fun X => ?_)
  refine m_aload_n X dX5_step_0 rfl rfl ?_
  refine m_getf X dX5_step_1 fl_X5_10 rfl rfl rfl ?_
  refine m_getf (v := .int (v 10)) X dX5_step_4 fl_X5_43 rfl rfl rfl ?_
  refine m_if_ne (tgt := 14) X dX5_step_7 (by decide) rfl (fun b7 => ?_) (fun b7 => ?_)
  · refine m_aload_n X dX5_step_14 rfl rfl ?_
    refine m_getf X dX5_step_15 fl_X5_10 rfl rfl rfl ?_
    refine m_getf (v := .int (v 15)) X dX5_step_18 fl_X5_169 rfl rfl rfl ?_
    exact m_iret X dX5_step_21 rfl (by rw [if_neg b7]) (Nat.le_of_ble_eq_true rfl) (Nat.le_of_ble_eq_true rfl) rfl
  · refine m_iconst (v := (-1)) X dX5_step_10 (by decide) rfl ?_
    refine m_goto (tgt := 21) X dX5_step_11 (by decide) rfl ?_
    exact m_iret X dX5_step_21 rfl (by rw [if_pos b7]) (Nat.le_of_ble_eq_true rfl) (Nat.le_of_ble_eq_true rfl) rfl
theorem c_X5_jogs {v : m_V} {a : m_R} {x : Int64} {t : m_H}  : m_Ctr M_X5_jogs [.ref 0] (hC v a x t) (.inl (some (.int (if v 10 = 0 then 0 else v 16)), hC v a x t)) := by
  refine m_intro (by decide +kernel) (Nat.le_of_ble_eq_true rfl) (fun X => ?_)
  refine m_aload_n X dX5_jogs_0 rfl rfl ?_
  refine m_getf X dX5_jogs_1 fl_X5_10 rfl rfl rfl ?_
  refine m_getf (v := .int (v 10)) X dX5_jogs_4 fl_X5_43 rfl rfl rfl ?_
  refine m_if_ne (tgt := 14) X dX5_jogs_7 (by decide) rfl (fun b7 => ?_) (fun b7 => ?_)
  · refine m_aload_n X dX5_jogs_14 rfl rfl ?_
    refine m_getf X dX5_jogs_15 fl_X5_10 rfl rfl rfl ?_
    refine m_getf (v := .int (v 16)) X dX5_jogs_18 fl_X5_172 rfl rfl rfl ?_
    exact m_iret X dX5_jogs_21 rfl (by rw [if_neg b7]) (Nat.le_of_ble_eq_true rfl) (Nat.le_of_ble_eq_true rfl) rfl
  · refine m_iconst (v := 0) X dX5_jogs_10 (by decide) rfl ?_
    refine m_goto (tgt := 21) X dX5_jogs_11 (by decide) rfl ?_
    exact m_iret X dX5_jogs_21 rfl (by rw [if_pos b7]) (Nat.le_of_ble_eq_true rfl) (Nat.le_of_ble_eq_true rfl) rfl
theorem c_X5_batches {v : m_V} {a : m_R} {x : Int64} {t : m_H}  : m_Ctr M_X5_batches [.ref 0] (hC v a x t) (.inl (some (.int (v 20)), hC v a x t)) := by
  refine m_intro (by decide +kernel) (Nat.le_of_ble_eq_true rfl) (fun X => ?_)
  refine m_aload_n X dX5_batches_0 rfl rfl ?_
  refine m_getf X dX5_batches_1 fl_X5_10 rfl rfl rfl ?_
  refine m_getf (v := .int (v 20)) X dX5_batches_4 fl_X5_132 rfl rfl rfl ?_
  exact m_iret X dX5_batches_7 rfl (rfl) (Nat.le_of_ble_eq_true rfl) (Nat.le_of_ble_eq_true rfl) rfl
theorem c_X5_done {v : m_V} {a : m_R} {x : Int64} {t : m_H}  : m_Ctr M_X5_done [.ref 0] (hC v a x t) (.inl (some (.int (v 21)), hC v a x t)) := by
  refine m_intro (by decide +kernel) (Nat.le_of_ble_eq_true rfl) (fun X => ?_)
  refine m_aload_n X dX5_done_0 rfl rfl ?_
  refine m_getf X dX5_done_1 fl_X5_10 rfl rfl rfl ?_
  refine m_getf (v := .int (v 21)) X dX5_done_4 fl_X5_175 rfl rfl rfl ?_
  exact m_iret X dX5_done_7 rfl (rfl) (Nat.le_of_ble_eq_true rfl) (Nat.le_of_ble_eq_true rfl) rfl
theorem c_X5_belt {v : m_V} {a : m_R} {x : Int64} {t : m_H} {d g n : Int32} (hl : 0 ≤ d ∧ d ≤ 10000) (hs : 0 ≤ g ∧ g ≤ 1000) (hn : 1 ≤ n ∧ n ≤ 100) : m_Ctr M_X5_belt [.ref 0, .int d, .int g, .int n] (hC v a x t) (.inl (some (.long ((x + d.toInt64 * g.toInt64 * n.toInt64) / 1000)), hC v a (x + d.toInt64 * g.toInt64 * n.toInt64) t)) := by
  refine m_intro (by decide +kernel) (Nat.le_of_ble_eq_true rfl) (fun X => ?_)
  refine m_iload_n X dX5_belt_0 rfl rfl ?_
  refine m_iconst (v := 0) X dX5_belt_1 (by decide) rfl ?_
  refine m_sipush (v := (10000)) X dX5_belt_2 (by decide) rfl ?_
  refine m_cS3 X dX5_belt_5 lk_X5_47 mk_X5_isWithin st_X5_isWithin (c_X5_isWithin) rfl (Nat.le_of_ble_eq_true rfl) (Nat.le_of_ble_eq_true rfl) (Nat.le_of_ble_eq_true rfl) (Nat.le_of_ble_eq_true rfl) (Nat.le_of_ble_eq_true rfl) rfl ?_
  refine m_if_eq (tgt := 26) X dX5_belt_8 (by decide) rfl (fun b8 => absurd b8 ((by rw [bi_t hl]; decide))) (fun b8 => ?_)
  refine m_iload_n X dX5_belt_11 rfl rfl ?_
  refine m_iconst (v := 0) X dX5_belt_12 (by decide) rfl ?_
  refine m_sipush (v := (1000)) X dX5_belt_13 (by decide) rfl ?_
  refine m_cS3 X dX5_belt_16 lk_X5_47 mk_X5_isWithin st_X5_isWithin (c_X5_isWithin) rfl (Nat.le_of_ble_eq_true rfl) (Nat.le_of_ble_eq_true rfl) (Nat.le_of_ble_eq_true rfl) (Nat.le_of_ble_eq_true rfl) (Nat.le_of_ble_eq_true rfl) rfl ?_
  refine m_if_eq (tgt := 26) X dX5_belt_19 (by decide) rfl (fun b19 => absurd b19 ((by rw [bi_t hs]; decide))) (fun b19 => ?_)
  refine m_iconst (v := 1) X dX5_belt_22 (by decide) rfl ?_
  refine m_goto (tgt := 27) X dX5_belt_23 (by decide) rfl ?_
  refine m_cS1 X dX5_belt_27 lk_X5_51 mk_X5_needArgument st_X5_needArgument (c_X5_needArgument (by decide)) rfl (Nat.le_of_ble_eq_true rfl) (Nat.le_of_ble_eq_true rfl) (Nat.le_of_ble_eq_true rfl) (Nat.le_of_ble_eq_true rfl) (Nat.le_of_ble_eq_true rfl) rfl ?_
  refine m_iload_n X dX5_belt_30 rfl rfl ?_
  refine m_iconst (v := 1) X dX5_belt_31 (by decide) rfl ?_
  refine m_bipush (v := (100)) X dX5_belt_32 (by decide) rfl ?_
  refine m_cS3 X dX5_belt_34 lk_X5_47 mk_X5_isWithin st_X5_isWithin (c_X5_isWithin) rfl (Nat.le_of_ble_eq_true rfl) (Nat.le_of_ble_eq_true rfl) (Nat.le_of_ble_eq_true rfl) (Nat.le_of_ble_eq_true rfl) (Nat.le_of_ble_eq_true rfl) rfl ?_
  refine m_cS1 X dX5_belt_37 lk_X5_51 mk_X5_needArgument st_X5_needArgument (c_X5_needArgument (by rw [bi_t hn]; decide)) rfl (Nat.le_of_ble_eq_true rfl) (Nat.le_of_ble_eq_true rfl) (Nat.le_of_ble_eq_true rfl) (Nat.le_of_ble_eq_true rfl) (Nat.le_of_ble_eq_true rfl) rfl ?_
  refine m_aload_n X dX5_belt_40 rfl rfl ?_
  refine m_dup X dX5_belt_41 rfl rfl ?_
  refine m_getf X dX5_belt_42 fl_X5_178 rfl rfl rfl ?_
  refine m_iload_n X dX5_belt_45 rfl rfl ?_
  refine m_i2l X dX5_belt_46 rfl ?_
  refine m_iload_n X dX5_belt_47 rfl rfl ?_
  refine m_i2l X dX5_belt_48 rfl ?_
  refine m_lmul X dX5_belt_49 rfl ?_
  refine m_iload_n X dX5_belt_50 rfl rfl ?_
  refine m_i2l X dX5_belt_51 rfl ?_
  refine m_lmul X dX5_belt_52 rfl ?_
  refine m_ladd X dX5_belt_53 rfl ?_
  refine m_plC X dX5_belt_54 fl_X5_178 fp_X5_5 rfl rfl rfl rfl ?_
  refine m_aload_n X dX5_belt_57 rfl rfl ?_
  refine m_getf X dX5_belt_58 fl_X5_178 rfl rfl rfl ?_
  refine m_ldc2 X dX5_belt_61 cs_X5_182 rfl ?_
  refine m_ldiv X dX5_belt_64 (by decide) rfl ?_
  exact m_lret X dX5_belt_65 rfl (rfl) (Nat.le_of_ble_eq_true rfl) (Nat.le_of_ble_eq_true rfl) rfl
end MF

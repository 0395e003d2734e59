section MK3
theorem nI_0i : (0 : Int32) = nI 0 := rfl
theorem c_X2_leftIn {v : m_V} {a : m_R} {x : Int64} {t : m_H} {b : Int32} (hL : ∃ L, L ≤ 30 ∧ v 8 = nI L) : m_Ctr M_X2_leftIn [.ref 8, .int b] (hC v a x t) (.inl (some (.int (sStock b a (v 8).toNatClampNeg)), hC v a x t)) := by
  refine m_intro (by decide +kernel) (Nat.le_of_ble_eq_true rfl) (fun {D cI cL sa A p l e s m args below meth c ad} X => ?_)
  obtain ⟨L, hL30, hL8⟩ := hL
  have eL : (v 8).toNatClampNeg = L := by rw [hL8]; exact nI_clamp (by omega)
  have loop : ∀ k i, i + k = L → m_Go D cI cL ad ((hC v a x t)).length (m_Ml M_X2_leftIn) A p l e (m_rm M_X2_leftIn) s m args below meth c (m_VQ D cI cL ad ((hC v a x t)).length A (.inl (some (.int (sStock b a (v 8).toNatClampNeg)), hC v a x t)) below args s (m_Mc M_X2_leftIn) (m_Ms M_X2_leftIn)) 4 [(3, .int (nI i)), (2, .int (sStock b a i)), (0, .ref 8), (1, .int b)] [] (hC v a x t) 0 0 := by
    intro k
    induction k with
    | zero =>
      intro i hi
      have hiL : i = L := by omega
      subst hiL
      refine m_iload_n X dX2_leftIn_4 rfl rfl ?_
      refine m_aload_n X dX2_leftIn_5 rfl rfl ?_
      refine m_getf (v := .int (v 8)) X dX2_leftIn_6 fl_X2_24 rfl rfl rfl ?_
      refine m_icmp_ge (tgt := 45) X dX2_leftIn_9 (by decide) rfl (fun b9 => ?_) (fun b9 => absurd b9 (not_not_intro (by rw [hL8]; exact Int32.le_refl _)))
      refine m_iload_n X dX2_leftIn_45 rfl rfl ?_
      exact m_iret X dX2_leftIn_46 rfl (by rw [eL]) (Nat.le_of_ble_eq_true rfl) (Nat.le_of_ble_eq_true rfl) rfl
    | succ k ih =>
      intro i hi
      have hlt : i < L := by omega
      have hin : vp_in (nI i) 30 := vp_in_nI (by omega) (by omega)
      have ein : (nI i).toNatClampNeg = i := nI_clamp (by omega)
      refine m_iload_n X dX2_leftIn_4 rfl rfl ?_
      refine m_aload_n X dX2_leftIn_5 rfl rfl ?_
      refine m_getf (v := .int (v 8)) X dX2_leftIn_6 fl_X2_24 rfl rfl rfl ?_
      refine m_icmp_ge (tgt := 45) X dX2_leftIn_9 (by decide) rfl (fun b9 => absurd b9 (by rw [hL8]; exact nI_ge hlt (by omega))) (fun b9 => ?_)
      refine m_iload_n X dX2_leftIn_12 rfl rfl ?_
      refine m_aload_n X dX2_leftIn_13 rfl rfl ?_
      refine m_getf X dX2_leftIn_14 fl_X2_9 rfl rfl rfl ?_
      refine m_iload_n X dX2_leftIn_17 rfl rfl ?_
      refine m_cS2 X dX2_leftIn_18 lk_X2_32 mk_X5_at st_X5_at (c_X5_at rfl (by decide) hin) rfl (Nat.le_of_ble_eq_true rfl) (Nat.le_of_ble_eq_true rfl) (Nat.le_of_ble_eq_true rfl) (Nat.le_of_ble_eq_true rfl) (Nat.le_of_ble_eq_true rfl) rfl ?_
      refine m_iload_n X dX2_leftIn_21 rfl rfl ?_
      refine m_icmp_ne (tgt := 36) X dX2_leftIn_22 (by decide) rfl (fun b22 => ?_) (fun b22 => ?_)
      · have e22 : sStock b a (i + 1) = sStock b a i + 0 := by show sStock b a i + _ = _; rw [if_pos (show ¬ a 4 i = b by rw [← ein]; exact b22)]
        refine m_iconst (v := 0) X dX2_leftIn_36 (by decide) rfl ?_
        refine m_iadd X dX2_leftIn_37 rfl ?_
        refine m_istore_n X dX2_leftIn_38 (Nat.le_of_ble_eq_true rfl) rfl ?_
        refine m_iinc X dX2_leftIn_39 rfl (Nat.le_of_ble_eq_true rfl) rfl ?_
        refine m_goto (tgt := 4) X dX2_leftIn_42 (by decide) rfl ?_
        refine m_lp (l1 := [(3, .int (nI (i + 1))), (2, .int (sStock b a (i + 1))), (0, .ref 8), (1, .int b)]) [0, 1, 2, 3] (by rw [e22, nI_succ]; first | rfl | (rw [ein]; rfl)) ?_
        exact ih (i + 1) (by omega)
      · have e22 : sStock b a (i + 1) = sStock b a i + (a 6 i) := by show sStock b a i + _ = _; rw [if_neg (not_not_intro (show a 4 i = b by rw [← ein]; exact b22))]
        refine m_aload_n X dX2_leftIn_25 rfl rfl ?_
        refine m_getf X dX2_leftIn_26 fl_X2_18 rfl rfl rfl ?_
        refine m_iload_n X dX2_leftIn_29 rfl rfl ?_
        refine m_cS2 X dX2_leftIn_30 lk_X2_32 mk_X5_at st_X5_at (c_X5_at rfl (by decide) hin) rfl (Nat.le_of_ble_eq_true rfl) (Nat.le_of_ble_eq_true rfl) (Nat.le_of_ble_eq_true rfl) (Nat.le_of_ble_eq_true rfl) (Nat.le_of_ble_eq_true rfl) rfl ?_
        refine m_goto (tgt := 37) X dX2_leftIn_33 (by decide) rfl ?_
        refine m_iadd X dX2_leftIn_37 rfl ?_
        refine m_istore_n X dX2_leftIn_38 (Nat.le_of_ble_eq_true rfl) rfl ?_
        refine m_iinc X dX2_leftIn_39 rfl (Nat.le_of_ble_eq_true rfl) rfl ?_
        refine m_goto (tgt := 4) X dX2_leftIn_42 (by decide) rfl ?_
        refine m_lp (l1 := [(3, .int (nI (i + 1))), (2, .int (sStock b a (i + 1))), (0, .ref 8), (1, .int b)]) [0, 1, 2, 3] (by rw [e22, nI_succ]; first | rfl | (rw [ein]; rfl)) ?_
        exact ih (i + 1) (by omega)
  refine m_iconst (v := 0) X dX2_leftIn_0 (by decide) rfl ?_
  refine m_istore_n X dX2_leftIn_1 (Nat.le_of_ble_eq_true rfl) rfl ?_
  refine m_iconst (v := 0) X dX2_leftIn_2 (by decide) rfl ?_
  refine m_istore_n X dX2_leftIn_3 (Nat.le_of_ble_eq_true rfl) rfl ?_
  refine m_lp (l1 := [(3, .int (nI 0)), (2, .int (sStock b a 0)), (0, .ref 8), (1, .int b)]) [0, 1, 2, 3] rfl ?_
  exact loop L 0 (by omega)
theorem c_X2_goneFrom {v : m_V} {a : m_R} {x : Int64} {t : m_H} {b : Int32} (hL : ∃ L, L ≤ 30 ∧ v 8 = nI L) : m_Ctr M_X2_goneFrom [.ref 8, .int b] (hC v a x t) (.inl (some (.int (sGone b a (v 8).toNatClampNeg)), hC v a x t)) := by
  refine m_intro (by decide +kernel) (Nat.le_of_ble_eq_true rfl) (fun {D cI cL sa A p l e s m args below meth c ad} X => ?_)
  obtain ⟨L, hL30, hL8⟩ := hL
  have eL : (v 8).toNatClampNeg = L := by rw [hL8]; exact nI_clamp (by omega)
  have loop : ∀ k i, i + k = L → m_Go D cI cL ad ((hC v a x t)).length (m_Ml M_X2_goneFrom) A p l e (m_rm M_X2_goneFrom) s m args below meth c (m_VQ D cI cL ad ((hC v a x t)).length A (.inl (some (.int (sGone b a (v 8).toNatClampNeg)), hC v a x t)) below args s (m_Mc M_X2_goneFrom) (m_Ms M_X2_goneFrom)) 4 [(3, .int (nI i)), (2, .int (sGone b a i)), (0, .ref 8), (1, .int b)] [] (hC v a x t) 0 0 := by
    intro k
    induction k with
    | zero =>
      intro i hi
      have hiL : i = L := by omega
      subst hiL
      refine m_iload_n X dX2_goneFrom_4 rfl rfl ?_
      refine m_aload_n X dX2_goneFrom_5 rfl rfl ?_
      refine m_getf (v := .int (v 8)) X dX2_goneFrom_6 fl_X2_24 rfl rfl rfl ?_
      refine m_icmp_ge (tgt := 54) X dX2_goneFrom_9 (by decide) rfl (fun b9 => ?_) (fun b9 => absurd b9 (not_not_intro (by rw [hL8]; exact Int32.le_refl _)))
      refine m_iload_n X dX2_goneFrom_54 rfl rfl ?_
      exact m_iret X dX2_goneFrom_55 rfl (by rw [eL]) (Nat.le_of_ble_eq_true rfl) (Nat.le_of_ble_eq_true rfl) rfl
    | succ k ih =>
      intro i hi
      have hlt : i < L := by omega
      have hin : vp_in (nI i) 30 := vp_in_nI (by omega) (by omega)
      have ein : (nI i).toNatClampNeg = i := nI_clamp (by omega)
      refine m_iload_n X dX2_goneFrom_4 rfl rfl ?_
      refine m_aload_n X dX2_goneFrom_5 rfl rfl ?_
      refine m_getf (v := .int (v 8)) X dX2_goneFrom_6 fl_X2_24 rfl rfl rfl ?_
      refine m_icmp_ge (tgt := 54) X dX2_goneFrom_9 (by decide) rfl (fun b9 => absurd b9 (by rw [hL8]; exact nI_ge hlt (by omega))) (fun b9 => ?_)
      refine m_iload_n X dX2_goneFrom_12 rfl rfl ?_
      refine m_aload_n X dX2_goneFrom_13 rfl rfl ?_
      refine m_getf X dX2_goneFrom_14 fl_X2_9 rfl rfl rfl ?_
      refine m_iload_n X dX2_goneFrom_17 rfl rfl ?_
      refine m_cS2 X dX2_goneFrom_18 lk_X2_32 mk_X5_at st_X5_at (c_X5_at rfl (by decide) hin) rfl (Nat.le_of_ble_eq_true rfl) (Nat.le_of_ble_eq_true rfl) (Nat.le_of_ble_eq_true rfl) (Nat.le_of_ble_eq_true rfl) (Nat.le_of_ble_eq_true rfl) rfl ?_
      refine m_iload_n X dX2_goneFrom_21 rfl rfl ?_
      refine m_icmp_ne (tgt := 45) X dX2_goneFrom_22 (by decide) rfl (fun b22 => ?_) (fun b22 => ?_)
      · have e22 : sGone b a (i + 1) = sGone b a i + 0 := by show sGone b a i + _ = _; rw [if_pos (show ¬ a 4 i = b by rw [← ein]; exact b22)]
        refine m_iconst (v := 0) X dX2_goneFrom_45 (by decide) rfl ?_
        refine m_iadd X dX2_goneFrom_46 rfl ?_
        refine m_istore_n X dX2_goneFrom_47 (Nat.le_of_ble_eq_true rfl) rfl ?_
        refine m_iinc X dX2_goneFrom_48 rfl (Nat.le_of_ble_eq_true rfl) rfl ?_
        refine m_goto (tgt := 4) X dX2_goneFrom_51 (by decide) rfl ?_
        refine m_lp (l1 := [(3, .int (nI (i + 1))), (2, .int (sGone b a (i + 1))), (0, .ref 8), (1, .int b)]) [0, 1, 2, 3] (by rw [e22, nI_succ]; first | rfl | (rw [ein]; rfl)) ?_
        exact ih (i + 1) (by omega)
      · have e22 : sGone b a (i + 1) = sGone b a i + (a 5 i - a 6 i) := by show sGone b a i + _ = _; rw [if_neg (not_not_intro (show a 4 i = b by rw [← ein]; exact b22))]
        refine m_aload_n X dX2_goneFrom_25 rfl rfl ?_
        refine m_getf X dX2_goneFrom_26 fl_X2_15 rfl rfl rfl ?_
        refine m_iload_n X dX2_goneFrom_29 rfl rfl ?_
        refine m_cS2 X dX2_goneFrom_30 lk_X2_32 mk_X5_at st_X5_at (c_X5_at rfl (by decide) hin) rfl (Nat.le_of_ble_eq_true rfl) (Nat.le_of_ble_eq_true rfl) (Nat.le_of_ble_eq_true rfl) (Nat.le_of_ble_eq_true rfl) (Nat.le_of_ble_eq_true rfl) rfl ?_
        refine m_aload_n X dX2_goneFrom_33 rfl rfl ?_
        refine m_getf X dX2_goneFrom_34 fl_X2_18 rfl rfl rfl ?_
        refine m_iload_n X dX2_goneFrom_37 rfl rfl ?_
        refine m_cS2 X dX2_goneFrom_38 lk_X2_32 mk_X5_at st_X5_at (c_X5_at rfl (by decide) hin) rfl (Nat.le_of_ble_eq_true rfl) (Nat.le_of_ble_eq_true rfl) (Nat.le_of_ble_eq_true rfl) (Nat.le_of_ble_eq_true rfl) (Nat.le_of_ble_eq_true rfl) rfl ?_
        refine m_isub X dX2_goneFrom_41 rfl ?_
        refine m_goto (tgt := 46) X dX2_goneFrom_42 (by decide) rfl ?_
        refine m_iadd X dX2_goneFrom_46 rfl ?_
        refine m_istore_n X dX2_goneFrom_47 (Nat.le_of_ble_eq_true rfl) rfl ?_
        refine m_iinc X dX2_goneFrom_48 rfl (Nat.le_of_ble_eq_true rfl) rfl ?_
        refine m_goto (tgt := 4) X dX2_goneFrom_51 (by decide) rfl ?_
        refine m_lp (l1 := [(3, .int (nI (i + 1))), (2, .int (sGone b a (i + 1))), (0, .ref 8), (1, .int b)]) [0, 1, 2, 3] (by rw [e22, nI_succ]; first | rfl | (rw [ein]; rfl)) ?_
        exact ih (i + 1) (by omega)
  refine m_iconst (v := 0) X dX2_goneFrom_0 (by decide) rfl ?_
  refine m_istore_n X dX2_goneFrom_1 (Nat.le_of_ble_eq_true rfl) rfl ?_
  refine m_iconst (v := 0) X dX2_goneFrom_2 (by decide) rfl ?_
  refine m_istore_n X dX2_goneFrom_3 (Nat.le_of_ble_eq_true rfl) rfl ?_
  refine m_lp (l1 := [(3, .int (nI 0)), (2, .int (sGone b a 0)), (0, .ref 8), (1, .int b)]) [0, 1, 2, 3] rfl ?_
  exact loop L 0 (by omega)
theorem c_X2_usedFor {v : m_V} {a : m_R} {x : Int64} {t : m_H} {i B : Nat} (hi : i < 30) (hB : B < 20) : m_Ctr M_X2_usedFor [.ref 8, .int (nI i), .int (nI B)] (hC v a x t) (.inl (some (.int (a 7 (i * 20 + B))), hC v a x t)) := by
  refine m_intro (by decide +kernel) (Nat.le_of_ble_eq_true rfl) (fun X => ?_)
  refine m_aload_n X dX2_usedFor_0 rfl rfl ?_
  refine m_getf X dX2_usedFor_1 fl_X2_21 rfl rfl rfl ?_
  refine m_iload_n X dX2_usedFor_4 rfl rfl ?_
  refine m_iload_n X dX2_usedFor_5 rfl rfl ?_
  refine m_cS2 X dX2_usedFor_6 lk_X2_45 mk_X2_place st_X2_place (c_X2_place) rfl (Nat.le_of_ble_eq_true rfl) (Nat.le_of_ble_eq_true rfl) (Nat.le_of_ble_eq_true rfl) (Nat.le_of_ble_eq_true rfl) (Nat.le_of_ble_eq_true rfl) rfl ?_
  refine m_cS2 X dX2_usedFor_9 lk_X2_32 mk_X5_at st_X5_at (c_X5_at rfl (by decide) (plc_in hi hB rfl)) rfl (Nat.le_of_ble_eq_true rfl) (Nat.le_of_ble_eq_true rfl) (Nat.le_of_ble_eq_true rfl) (Nat.le_of_ble_eq_true rfl) (Nat.le_of_ble_eq_true rfl) rfl ?_
  exact m_iret X dX2_usedFor_12 rfl (by rw [plc_nI, nI_clamp (by omega)]) (Nat.le_of_ble_eq_true rfl) (Nat.le_of_ble_eq_true rfl) rfl
theorem c_X2_firstBatchOf {v : m_V} {a : m_R} {x : Int64} {t : m_H} {i B : Nat} (hi : i < 30) (hB : B ≤ 20) (hF : sFst a i B) : m_Ctr M_X2_firstBatchOf [.ref 8, .int (nI i), .int (nI B)] (hC v a x t) (.inl (some (.int (a 12 i)), hC v a x t)) := by
  refine m_intro (by decide +kernel) (Nat.le_of_ble_eq_true rfl) (fun {D cI cL sa A p l e s m args below meth c ad} X => ?_)
  have loop : ∀ k j, j + k = B → (∀ b', b' < j → ¬ 0 < a 7 (i * 20 + b')) → m_Go D cI cL ad ((hC v a x t)).length (m_Ml M_X2_firstBatchOf) A p l e (m_rm M_X2_firstBatchOf) s m args below meth c (m_VQ D cI cL ad ((hC v a x t)).length A (.inl (some (.int (a 12 i)), hC v a x t)) below args s (m_Mc M_X2_firstBatchOf) (m_Ms M_X2_firstBatchOf)) 2 [(3, .int (nI j)), (0, .ref 8), (1, .int (nI i)), (2, .int (nI B))] [] (hC v a x t) 0 0 := by
    intro k
    induction k with
    | zero =>
      intro j hj hno
      have hjB : j = B := by omega
      subst hjB
      refine m_iload_n X dX2_firstBatchOf_2 rfl rfl ?_
      refine m_iload_n X dX2_firstBatchOf_3 rfl rfl ?_
      refine m_icmp_ge (tgt := 24) X dX2_firstBatchOf_4 (by decide) rfl (fun b4 => ?_) (fun b4 => absurd b4 (not_not_intro (Int32.le_refl _)))
      refine m_iconst (v := (-1)) X dX2_firstBatchOf_24 (by decide) rfl ?_
      exact m_iret X dX2_firstBatchOf_25 rfl (by
        rcases hF with ⟨h1, -⟩ | ⟨b, hb, -, h2, -⟩
        · rw [h1]
        · exact absurd h2 (hno b hb)) (Nat.le_of_ble_eq_true rfl) (Nat.le_of_ble_eq_true rfl) rfl
    | succ k ih =>
      intro j hj hno
      have hlt : j < B := by omega
      refine m_iload_n X dX2_firstBatchOf_2 rfl rfl ?_
      refine m_iload_n X dX2_firstBatchOf_3 rfl rfl ?_
      refine m_icmp_ge (tgt := 24) X dX2_firstBatchOf_4 (by decide) rfl (fun b4 => absurd b4 (nI_ge hlt (by omega))) (fun b4 => ?_)
      refine m_aload_n X dX2_firstBatchOf_7 rfl rfl ?_
      refine m_iload_n X dX2_firstBatchOf_8 rfl rfl ?_
      refine m_iload_n X dX2_firstBatchOf_9 rfl rfl ?_
      refine m_cV2 X dX2_firstBatchOf_10 lk_X2_48 mk_X2_usedFor in_X2_usedFor se_X2_usedFor rfl rfl (c_X2_usedFor hi (by omega)) rfl (Nat.le_of_ble_eq_true rfl) (Nat.le_of_ble_eq_true rfl) (Nat.le_of_ble_eq_true rfl) (Nat.le_of_ble_eq_true rfl) (Nat.le_of_ble_eq_true rfl) rfl ?_
      refine m_if_le (tgt := 18) X dX2_firstBatchOf_13 (by decide) rfl (fun b13 => ?_) (fun b13 => ?_)
      · refine m_iinc X dX2_firstBatchOf_18 rfl (Nat.le_of_ble_eq_true rfl) rfl ?_
        refine m_goto (tgt := 2) X dX2_firstBatchOf_21 (by decide) rfl ?_
        refine m_lp (l1 := [(3, .int (nI (j + 1))), (0, .ref 8), (1, .int (nI i)), (2, .int (nI B))]) [0, 1, 2, 3] (by rw [nI_succ]; rfl) ?_
        exact ih (j + 1) (by omega) (fun b' hb' => by
          rcases Nat.lt_succ_iff_lt_or_eq.mp hb' with q | q
          · exact hno b' q
          · rw [q]; exact fun h0 => absurd b13 (i_nle.mpr h0))
      · refine m_iload_n X dX2_firstBatchOf_16 rfl rfl ?_
        exact m_iret X dX2_firstBatchOf_17 rfl (by
          have h0 : 0 < a 7 (i * 20 + j) := i_nle.mp b13
          rcases hF with ⟨-, h1⟩ | ⟨b, hb, h1, h2, h3⟩
          · exact absurd h0 (h1 j hlt)
          · have : b = j := by
              rcases Nat.lt_trichotomy b j with q | q | q
              · exact absurd h2 (hno b q)
              · exact q
              · exact absurd h0 (h3 j q)
            rw [h1, this]) (Nat.le_of_ble_eq_true rfl) (Nat.le_of_ble_eq_true rfl) rfl
  refine m_iconst (v := 0) X dX2_firstBatchOf_0 (by decide) rfl ?_
  refine m_istore_n X dX2_firstBatchOf_1 (Nat.le_of_ble_eq_true rfl) rfl ?_
  refine m_lp (l1 := [(3, .int (nI 0)), (0, .ref 8), (1, .int (nI i)), (2, .int (nI B))]) [0, 1, 2, 3] rfl ?_
  exact loop B 0 (by omega) (fun b' h => absurd h (Nat.not_lt_zero _))
theorem c_X2_store {v : m_V} {a : m_R} {x : Int64} {t : m_H} {b am : Int32} (h8 : vp_in (v 8) 30) : m_Ctr M_X2_store [.ref 8, .int b, .int am] (hC v a x t) (.inl (some (.int (v 8)), hC (upd v 8 (v 8 + 1)) (sFillA b am v a) x t)) := by
  refine m_intro (by decide +kernel) (Nat.le_of_ble_eq_true rfl) (fun X => ?_)
  refine m_aload_n X dX2_store_0 rfl rfl ?_
  refine m_getf (v := .int (v 8)) X dX2_store_1 fl_X2_24 rfl rfl rfl ?_
  refine m_istore_n X dX2_store_4 (Nat.le_of_ble_eq_true rfl) rfl ?_
  refine m_aload_n X dX2_store_5 rfl rfl ?_
  refine m_getf X dX2_store_6 fl_X2_9 rfl rfl rfl ?_
  refine m_iload_n X dX2_store_9 rfl rfl ?_
  refine m_iload_n X dX2_store_10 rfl rfl ?_
  refine m_cS3 X dX2_store_11 lk_X2_28 mk_X5_put st_X5_put (c_X5_put rfl (by decide) h8) rfl (Nat.le_of_ble_eq_true rfl) (Nat.le_of_ble_eq_true rfl) (Nat.le_of_ble_eq_true rfl) (Nat.le_of_ble_eq_true rfl) (Nat.le_of_ble_eq_true rfl) rfl ?_
  refine m_hp hC_a4 ?_
  refine m_aload_n X dX2_store_14 rfl rfl ?_
  refine m_getf X dX2_store_15 fl_X2_15 rfl rfl rfl ?_
  refine m_iload_n X dX2_store_18 rfl rfl ?_
  refine m_iload_n X dX2_store_19 rfl rfl ?_
  refine m_cS3 X dX2_store_20 lk_X2_28 mk_X5_put st_X5_put (c_X5_put rfl (by decide) h8) rfl (Nat.le_of_ble_eq_true rfl) (Nat.le_of_ble_eq_true rfl) (Nat.le_of_ble_eq_true rfl) (Nat.le_of_ble_eq_true rfl) (Nat.le_of_ble_eq_true rfl) rfl ?_
  refine m_hp hC_a5 ?_
  refine m_aload_n X dX2_store_23 rfl rfl ?_
  refine m_getf X dX2_store_24 fl_X2_18 rfl rfl rfl ?_
  refine m_iload_n X dX2_store_27 rfl rfl ?_
  refine m_iload_n X dX2_store_28 rfl rfl ?_
  refine m_cS3 X dX2_store_29 lk_X2_28 mk_X5_put st_X5_put (c_X5_put rfl (by decide) h8) rfl (Nat.le_of_ble_eq_true rfl) (Nat.le_of_ble_eq_true rfl) (Nat.le_of_ble_eq_true rfl) (Nat.le_of_ble_eq_true rfl) (Nat.le_of_ble_eq_true rfl) rfl ?_
  refine m_hp hC_a6 ?_
  refine m_aload_n X dX2_store_32 rfl rfl ?_
  refine m_dup X dX2_store_33 rfl rfl ?_
  refine m_getf (v := .int (v 8)) X dX2_store_34 fl_X2_24 rfl rfl rfl ?_
  refine m_iconst (v := 1) X dX2_store_37 (by decide) rfl ?_
  refine m_iadd X dX2_store_38 rfl ?_
  refine m_piC 8 X dX2_store_39 fl_X2_24 fp_X2_4 rfl rfl rfl rfl ?_
  refine m_iload_n X dX2_store_42 rfl rfl ?_
  exact m_iret X dX2_store_43 rfl (rfl) (Nat.le_of_ble_eq_true rfl) (Nat.le_of_ble_eq_true rfl) rfl
theorem c_X3_append {v : m_V} {a : m_R} {x : Int64} {t : m_H} {b tg tl : Int32} (h9 : vp_in (v 9) 6) : m_Ctr M_X3_append [.ref 13, .int b, .int tg, .int tl] (hC v a x t) (.inl (none, hC (upd v 9 (v 9 + 1)) (sAppA b tg tl v a) x t)) := by
  refine m_intro (by decide +kernel) (Nat.le_of_ble_eq_true rfl) (fun X => ?_)
  refine m_aload_n X dX3_append_0 rfl rfl ?_
  refine m_getf X dX3_append_1 fl_X3_9 rfl rfl rfl ?_
  refine m_aload_n X dX3_append_4 rfl rfl ?_
  refine m_getf (v := .int (v 9)) X dX3_append_5 fl_X3_21 rfl rfl rfl ?_
  refine m_iload_n X dX3_append_8 rfl rfl ?_
  refine m_cS3 X dX3_append_9 lk_X3_25 mk_X5_put st_X5_put (c_X5_put rfl (by decide) h9) rfl (Nat.le_of_ble_eq_true rfl) (Nat.le_of_ble_eq_true rfl) (Nat.le_of_ble_eq_true rfl) (Nat.le_of_ble_eq_true rfl) (Nat.le_of_ble_eq_true rfl) rfl ?_
  refine m_hp hC_a8 ?_
  refine m_aload_n X dX3_append_12 rfl rfl ?_
  refine m_getf X dX3_append_13 fl_X3_15 rfl rfl rfl ?_
  refine m_aload_n X dX3_append_16 rfl rfl ?_
  refine m_getf (v := .int (v 9)) X dX3_append_17 fl_X3_21 rfl rfl rfl ?_
  refine m_iload_n X dX3_append_20 rfl rfl ?_
  refine m_cS3 X dX3_append_21 lk_X3_25 mk_X5_put st_X5_put (c_X5_put rfl (by decide) h9) rfl (Nat.le_of_ble_eq_true rfl) (Nat.le_of_ble_eq_true rfl) (Nat.le_of_ble_eq_true rfl) (Nat.le_of_ble_eq_true rfl) (Nat.le_of_ble_eq_true rfl) rfl ?_
  refine m_hp hC_a9 ?_
  refine m_aload_n X dX3_append_24 rfl rfl ?_
  refine m_getf X dX3_append_25 fl_X3_18 rfl rfl rfl ?_
  refine m_aload_n X dX3_append_28 rfl rfl ?_
  refine m_getf (v := .int (v 9)) X dX3_append_29 fl_X3_21 rfl rfl rfl ?_
  refine m_iload_n X dX3_append_32 rfl rfl ?_
  refine m_cS3 X dX3_append_33 lk_X3_25 mk_X5_put st_X5_put (c_X5_put rfl (by decide) h9) rfl (Nat.le_of_ble_eq_true rfl) (Nat.le_of_ble_eq_true rfl) (Nat.le_of_ble_eq_true rfl) (Nat.le_of_ble_eq_true rfl) (Nat.le_of_ble_eq_true rfl) rfl ?_
  refine m_hp hC_a10 ?_
  refine m_aload_n X dX3_append_36 rfl rfl ?_
  refine m_dup X dX3_append_37 rfl rfl ?_
  refine m_getf (v := .int (v 9)) X dX3_append_38 fl_X3_21 rfl rfl rfl ?_
  refine m_iconst (v := 1) X dX3_append_41 (by decide) rfl ?_
  refine m_iadd X dX3_append_42 rfl ?_
  refine m_piC 9 X dX3_append_43 fl_X3_21 fp_X3_3 rfl rfl rfl rfl ?_
  exact m_vret X dX3_append_46 rfl (rfl) (Nat.le_of_ble_eq_true rfl) (Nat.le_of_ble_eq_true rfl) rfl
theorem c_X1_bookNet {v : m_V} {a : m_R} {x : Int64} {t : m_H} (h1 : vp_in (v 15) 6) (h2 : vp_in (sbin v a) 4) (hL : ∃ L, L ≤ 30 ∧ v 8 = nI L) (hB : ∃ B, B < 20 ∧ v 20 = nI (B + 1)) : m_Ctr M_X1_bookNet [.ref 1] (hC v a x t) (.inl (some (.int (sAmt v)), hC v (sBook v a) x t)) := by
  refine m_intro (by decide +kernel) (Nat.le_of_ble_eq_true rfl) (fun X => ?_)
  refine m_iconst (v := 0) X dX1_bookNet_0 (by decide) rfl ?_
  refine m_aload_n X dX1_bookNet_1 rfl rfl ?_
  refine m_getf X dX1_bookNet_2 fl_X1_12 rfl rfl rfl ?_
  refine m_cV0 X dX1_bookNet_5 lk_X1_115 mk_X4_netNow in_X4_netNow se_X4_netNow rfl rfl (c_X4_netNow) rfl (Nat.le_of_ble_eq_true rfl) (Nat.le_of_ble_eq_true rfl) (Nat.le_of_ble_eq_true rfl) (Nat.le_of_ble_eq_true rfl) (Nat.le_of_ble_eq_true rfl) rfl ?_
  refine m_mmax X dX1_bookNet_8 lm_X1_152 (Nat.le_of_ble_eq_true rfl) (Nat.le_of_ble_eq_true rfl) (Nat.le_of_ble_eq_true rfl) (Nat.le_of_ble_eq_true rfl) rfl ?_
  refine m_istore_n X dX1_bookNet_11 (Nat.le_of_ble_eq_true rfl) rfl ?_
  refine m_aload_n X dX1_bookNet_12 rfl rfl ?_
  refine m_cV0 X dX1_bookNet_13 lk_X1_75 mk_X1_stepBin in_X1_stepBin se_X1_stepBin rfl rfl (c_X1_stepBin h1) rfl (Nat.le_of_ble_eq_true rfl) (Nat.le_of_ble_eq_true rfl) (Nat.le_of_ble_eq_true rfl) (Nat.le_of_ble_eq_true rfl) (Nat.le_of_ble_eq_true rfl) rfl ?_
  refine m_istore_n X dX1_bookNet_16 (Nat.le_of_ble_eq_true rfl) rfl ?_
  refine m_aload_n X dX1_bookNet_17 rfl rfl ?_
  refine m_getf X dX1_bookNet_18 fl_X1_28 rfl rfl rfl ?_
  refine m_iload_n X dX1_bookNet_21 rfl rfl ?_
  refine m_iload_n X dX1_bookNet_22 rfl rfl ?_
  refine m_aload_n X dX1_bookNet_23 rfl rfl ?_
  refine m_getf (v := .int (v 20)) X dX1_bookNet_24 fl_X1_79 rfl rfl rfl ?_
  refine m_iconst (v := 1) X dX1_bookNet_27 (by decide) rfl ?_
  refine m_isub X dX1_bookNet_28 rfl ?_
  refine m_cV3 X dX1_bookNet_29 lk_X1_158 mk_X2_takeOut in_X2_takeOut se_X2_takeOut rfl rfl (c_X2_takeOut hL (by obtain ⟨B, h20, hb⟩ := hB; exact ⟨B, h20, by rw [hb]; exact nI_pred B⟩)) rfl (Nat.le_of_ble_eq_true rfl) (Nat.le_of_ble_eq_true rfl) (Nat.le_of_ble_eq_true rfl) (Nat.le_of_ble_eq_true rfl) (Nat.le_of_ble_eq_true rfl) rfl ?_
  refine m_istore_n X dX1_bookNet_32 (Nat.le_of_ble_eq_true rfl) rfl ?_
  refine m_aload_n X dX1_bookNet_33 rfl rfl ?_
  refine m_getf X dX1_bookNet_34 fl_X1_21 rfl rfl rfl ?_
  refine m_getf X dX1_bookNet_37 fl_X1_162 rfl rfl rfl ?_
  refine m_iload_n X dX1_bookNet_40 rfl rfl ?_
  refine m_iload_n X dX1_bookNet_41 rfl rfl ?_
  refine m_cS3 X dX1_bookNet_42 lk_X1_165 mk_X5_increase st_X5_increase (c_X5_increase rfl (by decide) h2) rfl (Nat.le_of_ble_eq_true rfl) (Nat.le_of_ble_eq_true rfl) (Nat.le_of_ble_eq_true rfl) (Nat.le_of_ble_eq_true rfl) (Nat.le_of_ble_eq_true rfl) rfl ?_
  refine m_hp hC_a2 ?_
  refine m_aload_n X dX1_bookNet_45 rfl rfl ?_
  refine m_getf X dX1_bookNet_46 fl_X1_21 rfl rfl rfl ?_
  refine m_getf X dX1_bookNet_49 fl_X1_169 rfl rfl rfl ?_
  refine m_iload_n X dX1_bookNet_52 rfl rfl ?_
  refine m_iload_n X dX1_bookNet_53 rfl rfl ?_
  refine m_iload_n X dX1_bookNet_54 rfl rfl ?_
  refine m_isub X dX1_bookNet_55 rfl ?_
  refine m_cS3 X dX1_bookNet_56 lk_X1_165 mk_X5_increase st_X5_increase (c_X5_increase rfl (by decide) h2) rfl (Nat.le_of_ble_eq_true rfl) (Nat.le_of_ble_eq_true rfl) (Nat.le_of_ble_eq_true rfl) (Nat.le_of_ble_eq_true rfl) (Nat.le_of_ble_eq_true rfl) rfl ?_
  refine m_hp hC_a3 ?_
  refine m_iload_n X dX1_bookNet_59 rfl rfl ?_
  exact m_iret X dX1_bookNet_60 rfl (rfl) (Nat.le_of_ble_eq_true rfl) (Nat.le_of_ble_eq_true rfl) rfl
theorem c_X1_finishStep {v : m_V} {a : m_R} {x : Int64} {t : m_H} (h1 : vp_in (v 15) 6) (h2 : vp_in (sbin v a) 4) (hL : ∃ L, L ≤ 30 ∧ v 8 = nI L) (hB : ∃ B, B < 20 ∧ v 20 = nI (B + 1)) : m_Ctr M_X1_finishStep [.ref 1] (hC v a x t) (.inl (none, hC (sFinish v) (sBook v a) x t)) := by
  refine m_intro (by decide +kernel) (Nat.le_of_ble_eq_true rfl) (fun X => ?_)
  refine m_aload_n X dX1_finishStep_0 rfl rfl ?_
  refine m_cV0 X dX1_finishStep_1 lk_X1_95 mk_X1_bookNet in_X1_bookNet se_X1_bookNet rfl rfl (c_X1_bookNet h1 h2 hL hB) rfl (Nat.le_of_ble_eq_true rfl) (Nat.le_of_ble_eq_true rfl) (Nat.le_of_ble_eq_true rfl) (Nat.le_of_ble_eq_true rfl) (Nat.le_of_ble_eq_true rfl) rfl ?_
  refine m_pop X dX1_finishStep_4 rfl rfl ?_
  refine m_aload_n X dX1_finishStep_5 rfl rfl ?_
  refine m_getf (v := .int (v 15)) X dX1_finishStep_6 fl_X1_130 rfl rfl rfl ?_
  refine m_iconst (v := 1) X dX1_finishStep_9 (by decide) rfl ?_
  refine m_iadd X dX1_finishStep_10 rfl ?_
  refine m_aload_n X dX1_finishStep_11 rfl rfl ?_
  refine m_getf X dX1_finishStep_12 fl_X1_35 rfl rfl rfl ?_
  refine m_getf (v := .int (v 9)) X dX1_finishStep_15 fl_X1_146 rfl rfl rfl ?_
  refine m_icmp_ge (tgt := 34) X dX1_finishStep_18 (by decide) rfl (fun b18 => ?_) (fun b18 => ?_)
  · refine m_aload_n X dX1_finishStep_34 rfl rfl ?_
    refine m_dup X dX1_finishStep_35 rfl rfl ?_
    refine m_getf (v := .int (v 21)) X dX1_finishStep_36 fl_X1_149 rfl rfl rfl ?_
    refine m_iconst (v := 1) X dX1_finishStep_39 (by decide) rfl ?_
    refine m_iadd X dX1_finishStep_40 rfl ?_
    refine m_piC 21 X dX1_finishStep_41 fl_X1_149 fp_X1_15 rfl rfl rfl rfl ?_
    refine m_aload_n X dX1_finishStep_44 rfl rfl ?_
    refine m_iconst (v := 0) X dX1_finishStep_45 (by decide) rfl ?_
    refine m_cV1 X dX1_finishStep_46 lk_X1_72 mk_X1_enter in_X1_enter se_X1_enter rfl rfl (c_X1_enter) rfl (Nat.le_of_ble_eq_true rfl) (Nat.le_of_ble_eq_true rfl) (Nat.le_of_ble_eq_true rfl) (Nat.le_of_ble_eq_true rfl) (Nat.le_of_ble_eq_true rfl) rfl ?_
    exact m_vret X dX1_finishStep_49 rfl (by unfold sFinish; rw [if_pos b18]; try rfl) (Nat.le_of_ble_eq_true rfl) (Nat.le_of_ble_eq_true rfl) rfl
  · refine m_aload_n X dX1_finishStep_21 rfl rfl ?_
    refine m_aload_n X dX1_finishStep_22 rfl rfl ?_
    refine m_getf (v := .int (v 15)) X dX1_finishStep_23 fl_X1_130 rfl rfl rfl ?_
    refine m_iconst (v := 1) X dX1_finishStep_26 (by decide) rfl ?_
    refine m_iadd X dX1_finishStep_27 rfl ?_
    refine m_cV1 X dX1_finishStep_28 lk_X1_82 mk_X1_beginStep in_X1_beginStep se_X1_beginStep rfl rfl (c_X1_beginStep) rfl (Nat.le_of_ble_eq_true rfl) (Nat.le_of_ble_eq_true rfl) (Nat.le_of_ble_eq_true rfl) (Nat.le_of_ble_eq_true rfl) (Nat.le_of_ble_eq_true rfl) rfl ?_
    refine m_goto (tgt := 49) X dX1_finishStep_31 (by decide) rfl ?_
    exact m_vret X dX1_finishStep_49 rfl (by unfold sFinish; rw [if_neg b18]; try rfl) (Nat.le_of_ble_eq_true rfl) (Nat.le_of_ble_eq_true rfl) rfl
theorem c_X1_weigh {v : m_V} {a : m_R} {x : Int64} {t : m_H} (h1 : vp_in (v 15) 6) (h2 : vp_in (sbin v a) 4) (hL : ∃ L, L ≤ 30 ∧ v 8 = nI L) (hB : ∃ B, B < 20 ∧ v 20 = nI (B + 1)) : m_Ctr M_X1_weigh [.ref 1] (hC v a x t) (.inl (none, hC (sWeighV v a) (sWeighA v a) x t)) := by
  refine m_intro (by decide +kernel) (Nat.le_of_ble_eq_true rfl) (fun X => ?_)
  refine m_aload_n X dX1_weigh_0 rfl rfl ?_
  refine m_getf X dX1_weigh_1 fl_X1_12 rfl rfl rfl ?_
  refine m_cV0 X dX1_weigh_4 lk_X1_115 mk_X4_netNow in_X4_netNow se_X4_netNow rfl rfl (c_X4_netNow) rfl (Nat.le_of_ble_eq_true rfl) (Nat.le_of_ble_eq_true rfl) (Nat.le_of_ble_eq_true rfl) (Nat.le_of_ble_eq_true rfl) (Nat.le_of_ble_eq_true rfl) rfl ?_
  refine m_aload_n X dX1_weigh_7 rfl rfl ?_
  refine m_cV0 X dX1_weigh_8 lk_X1_104 mk_X1_target in_X1_target se_X1_target rfl rfl (c_X1_target h1) rfl (Nat.le_of_ble_eq_true rfl) (Nat.le_of_ble_eq_true rfl) (Nat.le_of_ble_eq_true rfl) (Nat.le_of_ble_eq_true rfl) (Nat.le_of_ble_eq_true rfl) rfl ?_
  refine m_isub X dX1_weigh_11 rfl ?_
  refine m_istore_n X dX1_weigh_12 (Nat.le_of_ble_eq_true rfl) rfl ?_
  refine m_aload_n X dX1_weigh_13 rfl rfl ?_
  refine m_getf X dX1_weigh_14 fl_X1_35 rfl rfl rfl ?_
  refine m_getf X dX1_weigh_17 fl_X1_127 rfl rfl rfl ?_
  refine m_aload_n X dX1_weigh_20 rfl rfl ?_
  refine m_getf (v := .int (v 15)) X dX1_weigh_21 fl_X1_130 rfl rfl rfl ?_
  refine m_cS2 X dX1_weigh_24 lk_X1_111 mk_X5_at st_X5_at (c_X5_at rfl (by decide) h1) rfl (Nat.le_of_ble_eq_true rfl) (Nat.le_of_ble_eq_true rfl) (Nat.le_of_ble_eq_true rfl) (Nat.le_of_ble_eq_true rfl) (Nat.le_of_ble_eq_true rfl) rfl ?_
  refine m_istore_n X dX1_weigh_27 (Nat.le_of_ble_eq_true rfl) rfl ?_
  refine m_aload_n X dX1_weigh_28 rfl rfl ?_
  refine m_getf (v := .int (v 19)) X dX1_weigh_29 fl_X1_133 rfl rfl rfl ?_
  refine m_if_ne (tgt := 52) X dX1_weigh_32 (by decide) rfl (fun b32 => ?_) (fun b32 => ?_)
  · have e1 : sW1 v = v := if_pos b32
    have e2 : sW2 v a = a := if_pos b32
    refine m_iload_n X dX1_weigh_52 rfl rfl ?_
    refine m_iload_n X dX1_weigh_53 rfl rfl ?_
    refine m_ineg X dX1_weigh_54 rfl ?_
    refine m_icmp_ge (tgt := 65) X dX1_weigh_55 (by decide) rfl (fun b55 => ?_) (fun b55 => ?_)
    · replace b55 : -(stol v a) ≤ sErr v a := b55
      refine m_iload_n X dX1_weigh_65 rfl rfl ?_
      refine m_iload_n X dX1_weigh_66 rfl rfl ?_
      refine m_icmp_le (tgt := 78) X dX1_weigh_67 (by decide) rfl (fun b67 => ?_) (fun b67 => ?_)
      · replace b67 : sErr v a ≤ stol v a := b67
        refine m_aload_n X dX1_weigh_78 rfl rfl ?_
        refine m_cV0 X dX1_weigh_79 lk_X1_85 mk_X1_finishStep in_X1_finishStep se_X1_finishStep rfl rfl (c_X1_finishStep h1 h2 hL hB) rfl (Nat.le_of_ble_eq_true rfl) (Nat.le_of_ble_eq_true rfl) (Nat.le_of_ble_eq_true rfl) (Nat.le_of_ble_eq_true rfl) (Nat.le_of_ble_eq_true rfl) rfl ?_
        exact m_vret X dX1_weigh_82 rfl (by unfold sWeighV sWeighA; rw [e1, e2, if_pos b55, if_pos b55, if_pos b67, if_pos b67]; try rfl) (Nat.le_of_ble_eq_true rfl) (Nat.le_of_ble_eq_true rfl) rfl
      · replace b67 : ¬ sErr v a ≤ stol v a := b67
        refine m_aload_n X dX1_weigh_70 rfl rfl ?_
        refine m_iconst (v := 2) X dX1_weigh_71 (by decide) rfl ?_
        refine m_cV1 X dX1_weigh_72 lk_X1_124 mk_X1_halt in_X1_halt se_X1_halt rfl rfl (c_X1_halt) rfl (Nat.le_of_ble_eq_true rfl) (Nat.le_of_ble_eq_true rfl) (Nat.le_of_ble_eq_true rfl) (Nat.le_of_ble_eq_true rfl) (Nat.le_of_ble_eq_true rfl) rfl ?_
        refine m_goto (tgt := 82) X dX1_weigh_75 (by decide) rfl ?_
        exact m_vret X dX1_weigh_82 rfl (by unfold sWeighV sWeighA; rw [e1, e2, if_pos b55, if_pos b55, if_neg b67, if_neg b67]; try rfl) (Nat.le_of_ble_eq_true rfl) (Nat.le_of_ble_eq_true rfl) rfl
    · replace b55 : ¬ -(stol v a) ≤ sErr v a := b55
      refine m_aload_n X dX1_weigh_58 rfl rfl ?_
      refine m_cV0 X dX1_weigh_59 lk_X1_140 mk_X1_jog in_X1_jog se_X1_jog rfl rfl (c_X1_jog) rfl (Nat.le_of_ble_eq_true rfl) (Nat.le_of_ble_eq_true rfl) (Nat.le_of_ble_eq_true rfl) (Nat.le_of_ble_eq_true rfl) (Nat.le_of_ble_eq_true rfl) rfl ?_
      refine m_goto (tgt := 82) X dX1_weigh_62 (by decide) rfl ?_
      exact m_vret X dX1_weigh_82 rfl (by unfold sWeighV sWeighA; rw [e1, e2, if_neg b55, if_neg b55]; try rfl) (Nat.le_of_ble_eq_true rfl) (Nat.le_of_ble_eq_true rfl) rfl
  · have e1 : sW1 v = upd v 19 1 := if_neg (not_not_intro b32)
    have e2 : sW2 v a = sLearn a (sbin v a) (sErr v a) := if_neg (not_not_intro b32)
    refine m_aload_n X dX1_weigh_35 rfl rfl ?_
    refine m_iconst (v := 1) X dX1_weigh_36 (by decide) rfl ?_
    refine m_pzC 19 X dX1_weigh_37 fl_X1_133 fp_X1_13 (by decide) rfl rfl rfl rfl ?_
    refine m_aload_n X dX1_weigh_40 rfl rfl ?_
    refine m_getf X dX1_weigh_41 fl_X1_21 rfl rfl rfl ?_
    refine m_aload_n X dX1_weigh_44 rfl rfl ?_
    refine m_cV0 X dX1_weigh_45 lk_X1_75 mk_X1_stepBin in_X1_stepBin se_X1_stepBin rfl rfl (c_X1_stepBin h1) rfl (Nat.le_of_ble_eq_true rfl) (Nat.le_of_ble_eq_true rfl) (Nat.le_of_ble_eq_true rfl) (Nat.le_of_ble_eq_true rfl) (Nat.le_of_ble_eq_true rfl) rfl ?_
    refine m_iload_n X dX1_weigh_48 rfl rfl ?_
    refine m_cV2 X dX1_weigh_49 lk_X1_136 mk_X0_learn in_X0_learn se_X0_learn rfl rfl (c_X0_learn h2) rfl (Nat.le_of_ble_eq_true rfl) (Nat.le_of_ble_eq_true rfl) (Nat.le_of_ble_eq_true rfl) (Nat.le_of_ble_eq_true rfl) (Nat.le_of_ble_eq_true rfl) rfl ?_
    refine m_iload_n X dX1_weigh_52 rfl rfl ?_
    refine m_iload_n X dX1_weigh_53 rfl rfl ?_
    refine m_ineg X dX1_weigh_54 rfl ?_
    refine m_icmp_ge (tgt := 65) X dX1_weigh_55 (by decide) rfl (fun b55 => ?_) (fun b55 => ?_)
    · replace b55 : -(stol v a) ≤ sErr v a := b55
      refine m_iload_n X dX1_weigh_65 rfl rfl ?_
      refine m_iload_n X dX1_weigh_66 rfl rfl ?_
      refine m_icmp_le (tgt := 78) X dX1_weigh_67 (by decide) rfl (fun b67 => ?_) (fun b67 => ?_)
      · replace b67 : sErr v a ≤ stol v a := b67
        refine m_aload_n X dX1_weigh_78 rfl rfl ?_
        refine m_cV0 X dX1_weigh_79 lk_X1_85 mk_X1_finishStep in_X1_finishStep se_X1_finishStep rfl rfl (c_X1_finishStep h1 h2 hL hB) rfl (Nat.le_of_ble_eq_true rfl) (Nat.le_of_ble_eq_true rfl) (Nat.le_of_ble_eq_true rfl) (Nat.le_of_ble_eq_true rfl) (Nat.le_of_ble_eq_true rfl) rfl ?_
        exact m_vret X dX1_weigh_82 rfl (by unfold sWeighV sWeighA; rw [e1, e2, if_pos b55, if_pos b55, if_pos b67, if_pos b67]; try rfl) (Nat.le_of_ble_eq_true rfl) (Nat.le_of_ble_eq_true rfl) rfl
      · replace b67 : ¬ sErr v a ≤ stol v a := b67
        refine m_aload_n X dX1_weigh_70 rfl rfl ?_
        refine m_iconst (v := 2) X dX1_weigh_71 (by decide) rfl ?_
        refine m_cV1 X dX1_weigh_72 lk_X1_124 mk_X1_halt in_X1_halt se_X1_halt rfl rfl (c_X1_halt) rfl (Nat.le_of_ble_eq_true rfl) (Nat.le_of_ble_eq_true rfl) (Nat.le_of_ble_eq_true rfl) (Nat.le_of_ble_eq_true rfl) (Nat.le_of_ble_eq_true rfl) rfl ?_
        refine m_goto (tgt := 82) X dX1_weigh_75 (by decide) rfl ?_
        exact m_vret X dX1_weigh_82 rfl (by unfold sWeighV sWeighA; rw [e1, e2, if_pos b55, if_pos b55, if_neg b67, if_neg b67]; try rfl) (Nat.le_of_ble_eq_true rfl) (Nat.le_of_ble_eq_true rfl) rfl
    · replace b55 : ¬ -(stol v a) ≤ sErr v a := b55
      refine m_aload_n X dX1_weigh_58 rfl rfl ?_
      refine m_cV0 X dX1_weigh_59 lk_X1_140 mk_X1_jog in_X1_jog se_X1_jog rfl rfl (c_X1_jog) rfl (Nat.le_of_ble_eq_true rfl) (Nat.le_of_ble_eq_true rfl) (Nat.le_of_ble_eq_true rfl) (Nat.le_of_ble_eq_true rfl) (Nat.le_of_ble_eq_true rfl) rfl ?_
      refine m_goto (tgt := 82) X dX1_weigh_62 (by decide) rfl ?_
      exact m_vret X dX1_weigh_82 rfl (by unfold sWeighV sWeighA; rw [e1, e2, if_neg b55, if_neg b55]; try rfl) (Nat.le_of_ble_eq_true rfl) (Nat.le_of_ble_eq_true rfl) rfl
end MK3

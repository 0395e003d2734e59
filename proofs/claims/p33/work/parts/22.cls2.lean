section MK2
theorem nI_mul (a b : Nat) : nI a * nI b = nI (a * b) := (Int32.ofNat_mul a b).symm
theorem plc_nI {i B : Nat} : nI i * 20 + nI B = nI (i * 20 + B) := by
  rw [show (20 : Int32) = nI 20 from rfl, nI_mul, nI_add]
theorem plc_in {i B : Nat} {cur : Int32} (hi : i < 30) (hB : B < 20) (hc : cur = nI B) : vp_in (nI i * 20 + cur) 600 := by
  rw [hc, plc_nI]; exact vp_in_nI (by omega) (by omega)
theorem sLots_no {b cur : Int32} {lb : Nat → Int32} {i : Nat} {s : m_L} (h : ¬ lb i = b) : sLots b cur lb (i + 1) s = sLots b cur lb i s := by
  show sLot1 _ _ _ _ _ = _
  unfold sLot1
  rw [if_pos h]
theorem sLots_yes {b cur : Int32} {lb : Nat → Int32} {i : Nat} {s : m_L} (h : lb i = b) : sLots b cur lb (i + 1) s =
    ((sLots b cur lb i s).1 - mn2 (sLots b cur lb i s).1 ((sLots b cur lb i s).2.1 i), upd (sLots b cur lb i s).2.1 i ((sLots b cur lb i s).2.1 i + -(mn2 (sLots b cur lb i s).1 ((sLots b cur lb i s).2.1 i))), upd (sLots b cur lb i s).2.2.1 (plc i cur) ((sLots b cur lb i s).2.2.1 (plc i cur) + mn2 (sLots b cur lb i s).1 ((sLots b cur lb i s).2.1 i)), upd (sLots b cur lb i s).2.2.2 i (if 0 < mn2 (sLots b cur lb i s).1 ((sLots b cur lb i s).2.1 i) ∧ (sLots b cur lb i s).2.2.2 i = -1 then cur else (sLots b cur lb i s).2.2.2 i)) := by
  show sLot1 _ _ _ _ _ = _
  unfold sLot1
  rw [if_neg (not_not_intro h)]
theorem c_X2_takeOut {v : m_V} {a : m_R} {x : Int64} {t : m_H} {b am cur : Int32} (hL : ∃ L, L ≤ 30 ∧ v 8 = nI L) (hB : ∃ B, B < 20 ∧ cur = nI B) : m_Ctr M_X2_takeOut [.ref 8, .int b, .int am, .int cur] (hC v a x t) (.inl (some (.int (am - (sTook b am cur v a).1)), hC v (sOut b am cur v a) x t)) := by
  refine m_intro (by decide +kernel) (Nat.le_of_ble_eq_true rfl) (fun {D cI cL sa A p l e s m args below meth c ad} X => ?_)
  obtain ⟨L, hL30, hL8⟩ := hL
  obtain ⟨B, hB20, hcur⟩ := hB
  have eL : (v 8).toNatClampNeg = L := by rw [hL8]; exact nI_clamp (by omega)
  have loop : ∀ k i, i + k = L → m_Go D cI cL ad ((hC v a x t)).length (m_Ml M_X2_takeOut) A p l e (m_rm M_X2_takeOut) s m args below meth c (m_VQ D cI cL ad ((hC v a x t)).length A (.inl (some (.int (am - (sTook b am cur v a).1)), hC v (sOut b am cur v a) x t)) below args s (m_Mc M_X2_takeOut) (m_Ms M_X2_takeOut)) 6 [(5, .int (nI i)), (4, .int (sLots b cur (a 4) i (am, a 6, a 7, a 12)).1), (0, .ref 8), (1, .int b), (2, .int am), (3, .int cur)] [] (hC v (va_up (va_up (va_up a 6 (sLots b cur (a 4) i (am, a 6, a 7, a 12)).2.1) 7 (sLots b cur (a 4) i (am, a 6, a 7, a 12)).2.2.1) 12 (sLots b cur (a 4) i (am, a 6, a 7, a 12)).2.2.2) x t) 0 0 := by
    intro k
    induction k with
    | zero =>
      intro i hi
      have hiL : i = L := by omega
      subst hiL
      refine m_iload X dX2_takeOut_6 rfl rfl ?_
      refine m_aload_n X dX2_takeOut_8 rfl rfl ?_
      refine m_getf (v := .int (v 8)) X dX2_takeOut_9 fl_X2_24 rfl rfl rfl ?_
      refine m_icmp_ge (tgt := 84) X dX2_takeOut_12 (by decide) rfl (fun b12 => ?_) (fun b12 => absurd b12 (not_not_intro (by rw [hL8]; exact Int32.le_refl _)))
      refine m_iload_n X dX2_takeOut_84 rfl rfl ?_
      refine m_iload X dX2_takeOut_85 rfl rfl ?_
      refine m_isub X dX2_takeOut_87 rfl ?_
      exact m_iret X dX2_takeOut_88 rfl (by unfold sOut sTook; rw [eL]) (Nat.le_of_ble_eq_true rfl) (Nat.le_of_ble_eq_true rfl) rfl
    | succ k ih =>
      intro i hi
      have hlt : i < L := by omega
      have hin : vp_in (nI i) 30 := vp_in_nI (by omega) (by omega)
      have ein : (nI i).toNatClampNeg = i := nI_clamp (by omega)
      have hpl : vp_in (nI i * 20 + cur) 600 := plc_in (by omega) hB20 hcur
      refine m_iload X dX2_takeOut_6 rfl rfl ?_
      refine m_aload_n X dX2_takeOut_8 rfl rfl ?_
      refine m_getf (v := .int (v 8)) X dX2_takeOut_9 fl_X2_24 rfl rfl rfl ?_
      refine m_icmp_ge (tgt := 84) X dX2_takeOut_12 (by decide) rfl (fun b12 => absurd b12 (by rw [hL8]; exact nI_ge hlt (by omega))) (fun b12 => ?_)
      refine m_aload_n X dX2_takeOut_15 rfl rfl ?_
      refine m_getf X dX2_takeOut_16 fl_X2_9 rfl rfl rfl ?_
      refine m_iload X dX2_takeOut_19 rfl rfl ?_
      refine m_cS2 X dX2_takeOut_21 lk_X2_32 mk_X5_at st_X5_at (c_X5_at rfl (by decide) hin) rfl (Nat.le_of_ble_eq_true rfl) (Nat.le_of_ble_eq_true rfl) (Nat.le_of_ble_eq_true rfl) (Nat.le_of_ble_eq_true rfl) (Nat.le_of_ble_eq_true rfl) rfl ?_
      refine m_iload_n X dX2_takeOut_24 rfl rfl ?_
      refine m_icmp_ne (tgt := 78) X dX2_takeOut_25 (by decide) rfl (fun b25 => ?_) (fun b25 => ?_)
      · have e25 := sLots_no (cur := cur) (s := (am, a 6, a 7, a 12)) (show ¬ a 4 i = b by rw [← ein]; exact b25)
        refine m_iinc X dX2_takeOut_78 rfl (Nat.le_of_ble_eq_true rfl) rfl ?_
        refine m_goto (tgt := 6) X dX2_takeOut_81 (by decide) rfl ?_
        refine m_hp (h1 := hC v (va_up (va_up (va_up a 6 (sLots b cur (a 4) (i + 1) (am, a 6, a 7, a 12)).2.1) 7 (sLots b cur (a 4) (i + 1) (am, a 6, a 7, a 12)).2.2.1) 12 (sLots b cur (a 4) (i + 1) (am, a 6, a 7, a 12)).2.2.2) x t) (by rw [e25]) ?_
        refine m_lp (l1 := [(5, .int (nI (i + 1))), (4, .int (sLots b cur (a 4) (i + 1) (am, a 6, a 7, a 12)).1), (0, .ref 8), (1, .int b), (2, .int am), (3, .int cur)]) [0, 1, 2, 3, 4, 5] (by rw [e25, nI_succ]; rfl) ?_
        exact ih (i + 1) (by omega)
      · have e25 := sLots_yes (cur := cur) (s := (am, a 6, a 7, a 12)) (show a 4 i = b by rw [← ein]; exact b25)
        refine m_iload X dX2_takeOut_28 rfl rfl ?_
        refine m_aload_n X dX2_takeOut_30 rfl rfl ?_
        refine m_getf X dX2_takeOut_31 fl_X2_18 rfl rfl rfl ?_
        refine m_iload X dX2_takeOut_34 rfl rfl ?_
        refine m_cS2 X dX2_takeOut_36 lk_X2_32 mk_X5_at st_X5_at (c_X5_at rfl (by decide) hin) rfl (Nat.le_of_ble_eq_true rfl) (Nat.le_of_ble_eq_true rfl) (Nat.le_of_ble_eq_true rfl) (Nat.le_of_ble_eq_true rfl) (Nat.le_of_ble_eq_true rfl) rfl ?_
        refine m_mmin X dX2_takeOut_39 lm_X2_36 (Nat.le_of_ble_eq_true rfl) (Nat.le_of_ble_eq_true rfl) (Nat.le_of_ble_eq_true rfl) (Nat.le_of_ble_eq_true rfl) rfl ?_
        refine m_istore X dX2_takeOut_42 (Nat.le_of_ble_eq_true rfl) rfl ?_
        refine m_aload_n X dX2_takeOut_44 rfl rfl ?_
        refine m_getf X dX2_takeOut_45 fl_X2_18 rfl rfl rfl ?_
        refine m_iload X dX2_takeOut_48 rfl rfl ?_
        refine m_iload X dX2_takeOut_50 rfl rfl ?_
        refine m_ineg X dX2_takeOut_52 rfl ?_
        refine m_cS3 X dX2_takeOut_53 lk_X2_42 mk_X5_increase st_X5_increase (c_X5_increase rfl (by decide) hin) rfl (Nat.le_of_ble_eq_true rfl) (Nat.le_of_ble_eq_true rfl) (Nat.le_of_ble_eq_true rfl) (Nat.le_of_ble_eq_true rfl) (Nat.le_of_ble_eq_true rfl) rfl ?_
        refine m_hp hC_a6 ?_
        refine m_aload_n X dX2_takeOut_56 rfl rfl ?_
        refine m_getf X dX2_takeOut_57 fl_X2_21 rfl rfl rfl ?_
        refine m_iload X dX2_takeOut_60 rfl rfl ?_
        refine m_iload_n X dX2_takeOut_62 rfl rfl ?_
        refine m_cS2 X dX2_takeOut_63 lk_X2_45 mk_X2_place st_X2_place (c_X2_place) rfl (Nat.le_of_ble_eq_true rfl) (Nat.le_of_ble_eq_true rfl) (Nat.le_of_ble_eq_true rfl) (Nat.le_of_ble_eq_true rfl) (Nat.le_of_ble_eq_true rfl) rfl ?_
        refine m_iload X dX2_takeOut_66 rfl rfl ?_
        refine m_cS3 X dX2_takeOut_68 lk_X2_42 mk_X5_increase st_X5_increase (c_X5_increase rfl (by decide) hpl) rfl (Nat.le_of_ble_eq_true rfl) (Nat.le_of_ble_eq_true rfl) (Nat.le_of_ble_eq_true rfl) (Nat.le_of_ble_eq_true rfl) (Nat.le_of_ble_eq_true rfl) rfl ?_
        refine m_hp hC_a7 ?_
        refine m_iload X dX2_takeOut_71 rfl rfl ?_
        refine m_iload X dX2_takeOut_73 rfl rfl ?_
        refine m_isub X dX2_takeOut_75 rfl ?_
        refine m_istore X dX2_takeOut_76 (Nat.le_of_ble_eq_true rfl) rfl ?_
        refine m_iinc X dX2_takeOut_78 rfl (Nat.le_of_ble_eq_true rfl) rfl ?_
        refine m_goto (tgt := 6) X dX2_takeOut_81 (by decide) rfl ?_
        refine m_hp (h1 := hC v (va_up (va_up (va_up a 6 (sLots b cur (a 4) (i + 1) (am, a 6, a 7, a 12)).2.1) 7 (sLots b cur (a 4) (i + 1) (am, a 6, a 7, a 12)).2.2.1) 12 (sLots b cur (a 4) (i + 1) (am, a 6, a 7, a 12)).2.2.2) x t) (by rw [e25, ein]; rfl) ?_
        refine m_lp (l1 := [(5, .int (nI (i + 1))), (4, .int (sLots b cur (a 4) (i + 1) (am, a 6, a 7, a 12)).1), (0, .ref 8), (1, .int b), (2, .int am), (3, .int cur)]) [0, 1, 3, 4, 5, 6] (by rw [e25, ein, nI_succ]; rfl) ?_
        exact ih (i + 1) (by omega)
  refine m_iload_n X dX2_takeOut_0 rfl rfl ?_
  refine m_istore X dX2_takeOut_1 (Nat.le_of_ble_eq_true rfl) rfl ?_
  refine m_iconst (v := 0) X dX2_takeOut_3 (by decide) rfl ?_
  refine m_istore X dX2_takeOut_4 (Nat.le_of_ble_eq_true rfl) rfl ?_
  refine m_hp (h1 := hC v (va_up (va_up (va_up a 6 (sLots b cur (a 4) 0 (am, a 6, a 7, a 12)).2.1) 7 (sLots b cur (a 4) 0 (am, a 6, a 7, a 12)).2.2.1) 12 (sLots b cur (a 4) 0 (am, a 6, a 7, a 12)).2.2.2) x t) rfl ?_
  refine m_lp (l1 := [(5, .int (nI 0)), (4, .int (sLots b cur (a 4) 0 (am, a 6, a 7, a 12)).1), (0, .ref 8), (1, .int b), (2, .int am), (3, .int cur)]) [0, 1, 2, 3, 4, 5] rfl ?_
  exact loop L 0 (by omega)
end MK2

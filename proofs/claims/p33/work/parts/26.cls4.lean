section MK4
theorem c_X1_bring0 {v : m_V} {a : m_R} {x : Int64} {t : m_H} {r : Int32} (h1 : vp_in (v 15) 6) (h2 : vp_in (sbin v a) 4) (hL : ∃ L, L ≤ 30 ∧ v 8 = nI L) (hs : v 10 = 0) : m_Ctr M_X1_bring [.ref 1, .int r] (hC v a x t) (.inl (none, hC (sBringV v a r) (sBringA v a r) x t)) := by
  refine m_intro (by decide +kernel) (Nat.le_of_ble_eq_true rfl) (fun X => ?_)
  refine m_aload_n X dX1_bring_0 rfl rfl ?_
  refine m_getf X dX1_bring_1 fl_X1_12 rfl rfl rfl ?_
  refine m_iload_n X dX1_bring_4 rfl rfl ?_
  refine m_cV1 X dX1_bring_5 lk_X1_49 mk_X4_take in_X4_take se_X4_take rfl rfl (c_X4_take) rfl (Nat.le_of_ble_eq_true rfl) (Nat.le_of_ble_eq_true rfl) (Nat.le_of_ble_eq_true rfl) (Nat.le_of_ble_eq_true rfl) (Nat.le_of_ble_eq_true rfl) rfl ?_
  refine m_aload_n X dX1_bring_8 rfl rfl ?_
  refine m_dup X dX1_bring_9 rfl rfl ?_
  refine m_getf (v := .int ((sTake v r) 13)) X dX1_bring_10 fl_X1_53 rfl rfl rfl ?_
  refine m_iconst (v := 1) X dX1_bring_13 (by decide) rfl ?_
  refine m_iadd X dX1_bring_14 rfl ?_
  refine m_piC 13 X dX1_bring_15 fl_X1_53 fp_X1_7 rfl rfl rfl rfl ?_
  refine m_hp (h1 := hC (sCount v r) (sRing v a r) x t) rfl ?_
  have e10 : sCount v r 10 = 0 := hs
  refine m_aload_n X dX1_bring_18 rfl rfl ?_
  refine m_getf (v := .int ((sCount v r) 10)) X dX1_bring_19 fl_X1_39 rfl rfl rfl ?_
  refine m_sp (st1 := [.int 0]) (by rw [e10]; rfl) ?_
  refine m_tabIn (tgt := 60) (off := 38) X dX1_bring_22 (by decide) (by decide) (by rfl) (by decide) rfl ?_
  refine m_aload_n X dX1_bring_60 rfl rfl ?_
  refine m_getf X dX1_bring_61 fl_X1_12 rfl rfl rfl ?_
  refine m_cV0 X dX1_bring_64 lk_X1_56 mk_X4_trackZero in_X4_trackZero se_X4_trackZero rfl rfl (c_X4_trackZero) rfl (Nat.le_of_ble_eq_true rfl) (Nat.le_of_ble_eq_true rfl) (Nat.le_of_ble_eq_true rfl) (Nat.le_of_ble_eq_true rfl) (Nat.le_of_ble_eq_true rfl) rfl ?_
  refine m_goto (tgt := 125) X dX1_bring_67 (by decide) rfl ?_
  exact m_vret X dX1_bring_125 rfl (by unfold sBringV sBringA sGoV sGoA; rw [if_pos e10, if_neg (show ¬ sCount v r 10 = 4 by rw [e10]; decide)]) (Nat.le_of_ble_eq_true rfl) (Nat.le_of_ble_eq_true rfl) rfl
theorem c_X1_bring1 {v : m_V} {a : m_R} {x : Int64} {t : m_H} {r : Int32} (h1 : vp_in (v 15) 6) (h2 : vp_in (sbin v a) 4) (hL : ∃ L, L ≤ 30 ∧ v 8 = nI L) (hs : v 10 = 1) : m_Ctr M_X1_bring [.ref 1, .int r] (hC v a x t) (.inl (none, hC (sBringV v a r) (sBringA v a r) x t)) := by
  refine m_intro (by decide +kernel) (Nat.le_of_ble_eq_true rfl) (fun X => ?_)
  refine m_aload_n X dX1_bring_0 rfl rfl ?_
  refine m_getf X dX1_bring_1 fl_X1_12 rfl rfl rfl ?_
  refine m_iload_n X dX1_bring_4 rfl rfl ?_
  refine m_cV1 X dX1_bring_5 lk_X1_49 mk_X4_take in_X4_take se_X4_take rfl rfl (c_X4_take) rfl (Nat.le_of_ble_eq_true rfl) (Nat.le_of_ble_eq_true rfl) (Nat.le_of_ble_eq_true rfl) (Nat.le_of_ble_eq_true rfl) (Nat.le_of_ble_eq_true rfl) rfl ?_
  refine m_aload_n X dX1_bring_8 rfl rfl ?_
  refine m_dup X dX1_bring_9 rfl rfl ?_
  refine m_getf (v := .int ((sTake v r) 13)) X dX1_bring_10 fl_X1_53 rfl rfl rfl ?_
  refine m_iconst (v := 1) X dX1_bring_13 (by decide) rfl ?_
  refine m_iadd X dX1_bring_14 rfl ?_
  refine m_piC 13 X dX1_bring_15 fl_X1_53 fp_X1_7 rfl rfl rfl rfl ?_
  refine m_hp (h1 := hC (sCount v r) (sRing v a r) x t) rfl ?_
  have e10 : sCount v r 10 = 1 := hs
  refine m_aload_n X dX1_bring_18 rfl rfl ?_
  refine m_getf (v := .int ((sCount v r) 10)) X dX1_bring_19 fl_X1_39 rfl rfl rfl ?_
  refine m_sp (st1 := [.int 1]) (by rw [e10]; rfl) ?_
  refine m_tabIn (tgt := 70) (off := 48) X dX1_bring_22 (by decide) (by decide) (by rfl) (by decide) rfl ?_
  refine m_aload_n X dX1_bring_70 rfl rfl ?_
  refine m_cV0 X dX1_bring_71 lk_X1_59 mk_X1_tareStep in_X1_tareStep se_X1_tareStep rfl rfl (c_X1_tareStep h1 h2) rfl (Nat.le_of_ble_eq_true rfl) (Nat.le_of_ble_eq_true rfl) (Nat.le_of_ble_eq_true rfl) (Nat.le_of_ble_eq_true rfl) (Nat.le_of_ble_eq_true rfl) rfl ?_
  refine m_goto (tgt := 125) X dX1_bring_74 (by decide) rfl ?_
  exact m_vret X dX1_bring_125 rfl (by unfold sBringV sBringA sGoV sGoA; rw [if_neg (show ¬ sCount v r 10 = 0 by rw [e10]; decide), if_pos e10, if_neg (show ¬ sCount v r 10 = 4 by rw [e10]; decide)]) (Nat.le_of_ble_eq_true rfl) (Nat.le_of_ble_eq_true rfl) rfl
theorem c_X1_bring2 {v : m_V} {a : m_R} {x : Int64} {t : m_H} {r : Int32} (h1 : vp_in (v 15) 6) (h2 : vp_in (sbin v a) 4) (hL : ∃ L, L ≤ 30 ∧ v 8 = nI L) (hs : v 10 = 2) : m_Ctr M_X1_bring [.ref 1, .int r] (hC v a x t) (.inl (none, hC (sBringV v a r) (sBringA v a r) x t)) := by
  refine m_intro (by decide +kernel) (Nat.le_of_ble_eq_true rfl) (fun X => ?_)
  refine m_aload_n X dX1_bring_0 rfl rfl ?_
  refine m_getf X dX1_bring_1 fl_X1_12 rfl rfl rfl ?_
  refine m_iload_n X dX1_bring_4 rfl rfl ?_
  refine m_cV1 X dX1_bring_5 lk_X1_49 mk_X4_take in_X4_take se_X4_take rfl rfl (c_X4_take) rfl (Nat.le_of_ble_eq_true rfl) (Nat.le_of_ble_eq_true rfl) (Nat.le_of_ble_eq_true rfl) (Nat.le_of_ble_eq_true rfl) (Nat.le_of_ble_eq_true rfl) rfl ?_
  refine m_aload_n X dX1_bring_8 rfl rfl ?_
  refine m_dup X dX1_bring_9 rfl rfl ?_
  refine m_getf (v := .int ((sTake v r) 13)) X dX1_bring_10 fl_X1_53 rfl rfl rfl ?_
  refine m_iconst (v := 1) X dX1_bring_13 (by decide) rfl ?_
  refine m_iadd X dX1_bring_14 rfl ?_
  refine m_piC 13 X dX1_bring_15 fl_X1_53 fp_X1_7 rfl rfl rfl rfl ?_
  refine m_hp (h1 := hC (sCount v r) (sRing v a r) x t) rfl ?_
  have e10 : sCount v r 10 = 2 := hs
  refine m_aload_n X dX1_bring_18 rfl rfl ?_
  refine m_getf (v := .int ((sCount v r) 10)) X dX1_bring_19 fl_X1_39 rfl rfl rfl ?_
  refine m_sp (st1 := [.int 2]) (by rw [e10]; rfl) ?_
  refine m_tabIn (tgt := 77) (off := 55) X dX1_bring_22 (by decide) (by decide) (by rfl) (by decide) rfl ?_
  refine m_aload_n X dX1_bring_77 rfl rfl ?_
  refine m_cV0 X dX1_bring_78 lk_X1_62 mk_X1_feed in_X1_feed se_X1_feed rfl rfl (c_X1_feed h1 h2) rfl (Nat.le_of_ble_eq_true rfl) (Nat.le_of_ble_eq_true rfl) (Nat.le_of_ble_eq_true rfl) (Nat.le_of_ble_eq_true rfl) (Nat.le_of_ble_eq_true rfl) rfl ?_
  refine m_goto (tgt := 125) X dX1_bring_81 (by decide) rfl ?_
  exact m_vret X dX1_bring_125 rfl (by unfold sBringV sBringA sGoV sGoA; rw [if_neg (show ¬ sCount v r 10 = 0 by rw [e10]; decide), if_neg (show ¬ sCount v r 10 = 1 by rw [e10]; decide), if_pos (Or.inl e10), if_neg (show ¬ sCount v r 10 = 4 by rw [e10]; decide)]) (Nat.le_of_ble_eq_true rfl) (Nat.le_of_ble_eq_true rfl) rfl
theorem c_X1_bring3 {v : m_V} {a : m_R} {x : Int64} {t : m_H} {r : Int32} (h1 : vp_in (v 15) 6) (h2 : vp_in (sbin v a) 4) (hL : ∃ L, L ≤ 30 ∧ v 8 = nI L) (hs : v 10 = 3) : m_Ctr M_X1_bring [.ref 1, .int r] (hC v a x t) (.inl (none, hC (sBringV v a r) (sBringA v a r) x t)) := by
  refine m_intro (by decide +kernel) (Nat.le_of_ble_eq_true rfl) (fun X => ?_)
  refine m_aload_n X dX1_bring_0 rfl rfl ?_
  refine m_getf X dX1_bring_1 fl_X1_12 rfl rfl rfl ?_
  refine m_iload_n X dX1_bring_4 rfl rfl ?_
  refine m_cV1 X dX1_bring_5 lk_X1_49 mk_X4_take in_X4_take se_X4_take rfl rfl (c_X4_take) rfl (Nat.le_of_ble_eq_true rfl) (Nat.le_of_ble_eq_true rfl) (Nat.le_of_ble_eq_true rfl) (Nat.le_of_ble_eq_true rfl) (Nat.le_of_ble_eq_true rfl) rfl ?_
  refine m_aload_n X dX1_bring_8 rfl rfl ?_
  refine m_dup X dX1_bring_9 rfl rfl ?_
  refine m_getf (v := .int ((sTake v r) 13)) X dX1_bring_10 fl_X1_53 rfl rfl rfl ?_
  refine m_iconst (v := 1) X dX1_bring_13 (by decide) rfl ?_
  refine m_iadd X dX1_bring_14 rfl ?_
  refine m_piC 13 X dX1_bring_15 fl_X1_53 fp_X1_7 rfl rfl rfl rfl ?_
  refine m_hp (h1 := hC (sCount v r) (sRing v a r) x t) rfl ?_
  have e10 : sCount v r 10 = 3 := hs
  refine m_aload_n X dX1_bring_18 rfl rfl ?_
  refine m_getf (v := .int ((sCount v r) 10)) X dX1_bring_19 fl_X1_39 rfl rfl rfl ?_
  refine m_sp (st1 := [.int 3]) (by rw [e10]; rfl) ?_
  refine m_tabIn (tgt := 77) (off := 55) X dX1_bring_22 (by decide) (by decide) (by rfl) (by decide) rfl ?_
  refine m_aload_n X dX1_bring_77 rfl rfl ?_
  refine m_cV0 X dX1_bring_78 lk_X1_62 mk_X1_feed in_X1_feed se_X1_feed rfl rfl (c_X1_feed h1 h2) rfl (Nat.le_of_ble_eq_true rfl) (Nat.le_of_ble_eq_true rfl) (Nat.le_of_ble_eq_true rfl) (Nat.le_of_ble_eq_true rfl) (Nat.le_of_ble_eq_true rfl) rfl ?_
  refine m_goto (tgt := 125) X dX1_bring_81 (by decide) rfl ?_
  exact m_vret X dX1_bring_125 rfl (by unfold sBringV sBringA sGoV sGoA; rw [if_neg (show ¬ sCount v r 10 = 0 by rw [e10]; decide), if_neg (show ¬ sCount v r 10 = 1 by rw [e10]; decide), if_pos (Or.inr e10), if_neg (show ¬ sCount v r 10 = 4 by rw [e10]; decide)]) (Nat.le_of_ble_eq_true rfl) (Nat.le_of_ble_eq_true rfl) rfl
theorem c_X1_bring4 {v : m_V} {a : m_R} {x : Int64} {t : m_H} {r : Int32} (h1 : vp_in (v 15) 6) (h2 : vp_in (sbin v a) 4) (hL : ∃ L, L ≤ 30 ∧ v 8 = nI L) (hB : ∃ B, B < 20 ∧ v 20 = nI (B + 1)) (hs : v 10 = 4) : m_Ctr M_X1_bring [.ref 1, .int r] (hC v a x t) (.inl (none, hC (sBringV v a r) (sBringA v a r) x t)) := by
  refine m_intro (by decide +kernel) (Nat.le_of_ble_eq_true rfl) (fun X => ?_)
  refine m_aload_n X dX1_bring_0 rfl rfl ?_
  refine m_getf X dX1_bring_1 fl_X1_12 rfl rfl rfl ?_
  refine m_iload_n X dX1_bring_4 rfl rfl ?_
  refine m_cV1 X dX1_bring_5 lk_X1_49 mk_X4_take in_X4_take se_X4_take rfl rfl (c_X4_take) rfl (Nat.le_of_ble_eq_true rfl) (Nat.le_of_ble_eq_true rfl) (Nat.le_of_ble_eq_true rfl) (Nat.le_of_ble_eq_true rfl) (Nat.le_of_ble_eq_true rfl) rfl ?_
  refine m_aload_n X dX1_bring_8 rfl rfl ?_
  refine m_dup X dX1_bring_9 rfl rfl ?_
  refine m_getf (v := .int ((sTake v r) 13)) X dX1_bring_10 fl_X1_53 rfl rfl rfl ?_
  refine m_iconst (v := 1) X dX1_bring_13 (by decide) rfl ?_
  refine m_iadd X dX1_bring_14 rfl ?_
  refine m_piC 13 X dX1_bring_15 fl_X1_53 fp_X1_7 rfl rfl rfl rfl ?_
  refine m_hp (h1 := hC (sCount v r) (sRing v a r) x t) rfl ?_
  have e10 : sCount v r 10 = 4 := hs
  refine m_aload_n X dX1_bring_18 rfl rfl ?_
  refine m_getf (v := .int ((sCount v r) 10)) X dX1_bring_19 fl_X1_39 rfl rfl rfl ?_
  refine m_sp (st1 := [.int 4]) (by rw [e10]; rfl) ?_
  refine m_tabIn (tgt := 84) (off := 62) X dX1_bring_22 (by decide) (by decide) (by rfl) (by decide) rfl ?_
  refine m_aload_n X dX1_bring_84 rfl rfl ?_
  refine m_getf (v := .int ((sCount v r) 13)) X dX1_bring_85 fl_X1_53 rfl rfl rfl ?_
  refine m_iconst (v := 4) X dX1_bring_88 (by decide) rfl ?_
  refine m_icmp_lt (tgt := 125) X dX1_bring_89 (by decide) rfl (fun b89 => ?_) (fun b89 => ?_)
  · exact m_vret X dX1_bring_125 rfl (by unfold sBringV sBringA sGoV sGoA; rw [if_neg (show ¬ sCount v r 10 = 0 by rw [e10]; decide), if_neg (show ¬ sCount v r 10 = 1 by rw [e10]; decide), if_neg (show ¬ (sCount v r 10 = 2 ∨ sCount v r 10 = 3) by rw [e10]; decide), if_pos e10, if_pos b89, if_pos e10, if_pos b89]) (Nat.le_of_ble_eq_true rfl) (Nat.le_of_ble_eq_true rfl) rfl
  · refine m_aload_n X dX1_bring_92 rfl rfl ?_
    refine m_getf X dX1_bring_93 fl_X1_12 rfl rfl rfl ?_
    refine m_cV0 X dX1_bring_96 lk_X1_65 mk_X4_isCalm in_X4_isCalm se_X4_isCalm rfl rfl (c_X4_isCalm) rfl (Nat.le_of_ble_eq_true rfl) (Nat.le_of_ble_eq_true rfl) (Nat.le_of_ble_eq_true rfl) (Nat.le_of_ble_eq_true rfl) (Nat.le_of_ble_eq_true rfl) rfl ?_
    refine m_if_eq (tgt := 125) X dX1_bring_99 (by decide) rfl (fun b99 => ?_) (fun b99 => ?_)
    · exact m_vret X dX1_bring_125 rfl (by unfold sBringV sBringA sGoV sGoA; rw [if_neg (show ¬ sCount v r 10 = 0 by rw [e10]; decide), if_neg (show ¬ sCount v r 10 = 1 by rw [e10]; decide), if_neg (show ¬ (sCount v r 10 = 2 ∨ sCount v r 10 = 3) by rw [e10]; decide), if_pos e10, if_neg b89, if_pos b99, if_pos e10, if_neg b89, if_pos b99]) (Nat.le_of_ble_eq_true rfl) (Nat.le_of_ble_eq_true rfl) rfl
    · refine m_aload_n X dX1_bring_102 rfl rfl ?_
      refine m_cV0 X dX1_bring_103 lk_X1_69 mk_X1_weigh in_X1_weigh se_X1_weigh rfl rfl (c_X1_weigh h1 h2 hL hB) rfl (Nat.le_of_ble_eq_true rfl) (Nat.le_of_ble_eq_true rfl) (Nat.le_of_ble_eq_true rfl) (Nat.le_of_ble_eq_true rfl) (Nat.le_of_ble_eq_true rfl) rfl ?_
      refine m_goto (tgt := 125) X dX1_bring_106 (by decide) rfl ?_
      exact m_vret X dX1_bring_125 rfl (by unfold sBringV sBringA sGoV sGoA; rw [if_neg (show ¬ sCount v r 10 = 0 by rw [e10]; decide), if_neg (show ¬ sCount v r 10 = 1 by rw [e10]; decide), if_neg (show ¬ (sCount v r 10 = 2 ∨ sCount v r 10 = 3) by rw [e10]; decide), if_pos e10, if_neg b89, if_neg b99, if_pos e10, if_neg b89, if_neg b99]) (Nat.le_of_ble_eq_true rfl) (Nat.le_of_ble_eq_true rfl) rfl
theorem c_X1_bring5 {v : m_V} {a : m_R} {x : Int64} {t : m_H} {r : Int32} (h1 : vp_in (v 15) 6) (h2 : vp_in (sbin v a) 4) (hL : ∃ L, L ≤ 30 ∧ v 8 = nI L) (hs : v 10 = 5) : m_Ctr M_X1_bring [.ref 1, .int r] (hC v a x t) (.inl (none, hC (sBringV v a r) (sBringA v a r) x t)) := by
  refine m_intro (by decide +kernel) (Nat.le_of_ble_eq_true rfl) (fun X => ?_)
  refine m_aload_n X dX1_bring_0 rfl rfl ?_
  refine m_getf X dX1_bring_1 fl_X1_12 rfl rfl rfl ?_
  refine m_iload_n X dX1_bring_4 rfl rfl ?_
  refine m_cV1 X dX1_bring_5 lk_X1_49 mk_X4_take in_X4_take se_X4_take rfl rfl (c_X4_take) rfl (Nat.le_of_ble_eq_true rfl) (Nat.le_of_ble_eq_true rfl) (Nat.le_of_ble_eq_true rfl) (Nat.le_of_ble_eq_true rfl) (Nat.le_of_ble_eq_true rfl) rfl ?_
  refine m_aload_n X dX1_bring_8 rfl rfl ?_
  refine m_dup X dX1_bring_9 rfl rfl ?_
  refine m_getf (v := .int ((sTake v r) 13)) X dX1_bring_10 fl_X1_53 rfl rfl rfl ?_
  refine m_iconst (v := 1) X dX1_bring_13 (by decide) rfl ?_
  refine m_iadd X dX1_bring_14 rfl ?_
  refine m_piC 13 X dX1_bring_15 fl_X1_53 fp_X1_7 rfl rfl rfl rfl ?_
  refine m_hp (h1 := hC (sCount v r) (sRing v a r) x t) rfl ?_
  have e10 : sCount v r 10 = 5 := hs
  refine m_aload_n X dX1_bring_18 rfl rfl ?_
  refine m_getf (v := .int ((sCount v r) 10)) X dX1_bring_19 fl_X1_39 rfl rfl rfl ?_
  refine m_sp (st1 := [.int 5]) (by rw [e10]; rfl) ?_
  refine m_tabIn (tgt := 109) (off := 87) X dX1_bring_22 (by decide) (by decide) (by rfl) (by decide) rfl ?_
  refine m_aload_n X dX1_bring_109 rfl rfl ?_
  refine m_getf (v := .int ((sCount v r) 13)) X dX1_bring_110 fl_X1_53 rfl rfl rfl ?_
  refine m_iconst (v := 2) X dX1_bring_113 (by decide) rfl ?_
  refine m_icmp_lt (tgt := 125) X dX1_bring_114 (by decide) rfl (fun b114 => ?_) (fun b114 => ?_)
  · exact m_vret X dX1_bring_125 rfl (by unfold sBringV sBringA sGoV sGoA; rw [if_neg (show ¬ sCount v r 10 = 0 by rw [e10]; decide), if_neg (show ¬ sCount v r 10 = 1 by rw [e10]; decide), if_neg (show ¬ (sCount v r 10 = 2 ∨ sCount v r 10 = 3) by rw [e10]; decide), if_neg (show ¬ sCount v r 10 = 4 by rw [e10]; decide), if_pos e10, if_pos b114, if_neg (show ¬ sCount v r 10 = 4 by rw [e10]; decide)]) (Nat.le_of_ble_eq_true rfl) (Nat.le_of_ble_eq_true rfl) rfl
  · refine m_aload_n X dX1_bring_117 rfl rfl ?_
    refine m_iconst (v := 4) X dX1_bring_118 (by decide) rfl ?_
    refine m_cV1 X dX1_bring_119 lk_X1_72 mk_X1_enter in_X1_enter se_X1_enter rfl rfl (c_X1_enter) rfl (Nat.le_of_ble_eq_true rfl) (Nat.le_of_ble_eq_true rfl) (Nat.le_of_ble_eq_true rfl) (Nat.le_of_ble_eq_true rfl) (Nat.le_of_ble_eq_true rfl) rfl ?_
    refine m_goto (tgt := 125) X dX1_bring_122 (by decide) rfl ?_
    exact m_vret X dX1_bring_125 rfl (by unfold sBringV sBringA sGoV sGoA; rw [if_neg (show ¬ sCount v r 10 = 0 by rw [e10]; decide), if_neg (show ¬ sCount v r 10 = 1 by rw [e10]; decide), if_neg (show ¬ (sCount v r 10 = 2 ∨ sCount v r 10 = 3) by rw [e10]; decide), if_neg (show ¬ sCount v r 10 = 4 by rw [e10]; decide), if_pos e10, if_neg b114, if_neg (show ¬ sCount v r 10 = 4 by rw [e10]; decide)]) (Nat.le_of_ble_eq_true rfl) (Nat.le_of_ble_eq_true rfl) rfl
theorem c_X1_bring6 {v : m_V} {a : m_R} {x : Int64} {t : m_H} {r : Int32} (h1 : vp_in (v 15) 6) (h2 : vp_in (sbin v a) 4) (hL : ∃ L, L ≤ 30 ∧ v 8 = nI L) (hs : v 10 = 6) : m_Ctr M_X1_bring [.ref 1, .int r] (hC v a x t) (.inl (none, hC (sBringV v a r) (sBringA v a r) x t)) := by
  refine m_intro (by decide +kernel) (Nat.le_of_ble_eq_true rfl) (fun X => ?_)
  refine m_aload_n X dX1_bring_0 rfl rfl ?_
  refine m_getf X dX1_bring_1 fl_X1_12 rfl rfl rfl ?_
  refine m_iload_n X dX1_bring_4 rfl rfl ?_
  refine m_cV1 X dX1_bring_5 lk_X1_49 mk_X4_take in_X4_take se_X4_take rfl rfl (c_X4_take) rfl (Nat.le_of_ble_eq_true rfl) (Nat.le_of_ble_eq_true rfl) (Nat.le_of_ble_eq_true rfl) (Nat.le_of_ble_eq_true rfl) (Nat.le_of_ble_eq_true rfl) rfl ?_
  refine m_aload_n X dX1_bring_8 rfl rfl ?_
  refine m_dup X dX1_bring_9 rfl rfl ?_
  refine m_getf (v := .int ((sTake v r) 13)) X dX1_bring_10 fl_X1_53 rfl rfl rfl ?_
  refine m_iconst (v := 1) X dX1_bring_13 (by decide) rfl ?_
  refine m_iadd X dX1_bring_14 rfl ?_
  refine m_piC 13 X dX1_bring_15 fl_X1_53 fp_X1_7 rfl rfl rfl rfl ?_
  refine m_hp (h1 := hC (sCount v r) (sRing v a r) x t) rfl ?_
  have e10 : sCount v r 10 = 6 := hs
  refine m_aload_n X dX1_bring_18 rfl rfl ?_
  refine m_getf (v := .int ((sCount v r) 10)) X dX1_bring_19 fl_X1_39 rfl rfl rfl ?_
  refine m_sp (st1 := [.int 6]) (by rw [e10]; rfl) ?_
  refine m_tabOut (tgt := 125) X dX1_bring_22 (by decide) (by decide) rfl ?_
  exact m_vret X dX1_bring_125 rfl (by unfold sBringV sBringA sGoV sGoA; rw [if_neg (show ¬ sCount v r 10 = 0 by rw [e10]; decide), if_neg (show ¬ sCount v r 10 = 1 by rw [e10]; decide), if_neg (show ¬ (sCount v r 10 = 2 ∨ sCount v r 10 = 3) by rw [e10]; decide), if_neg (show ¬ sCount v r 10 = 4 by rw [e10]; decide), if_neg (show ¬ sCount v r 10 = 5 by rw [e10]; decide), if_neg (show ¬ sCount v r 10 = 4 by rw [e10]; decide)]) (Nat.le_of_ble_eq_true rfl) (Nat.le_of_ble_eq_true rfl) rfl
theorem c_X1_bring {v : m_V} {a : m_R} {x : Int64} {t : m_H} {r : Int32} (h1 : vp_in (v 15) 6) (h2 : vp_in (sbin v a) 4) (hL : ∃ L, L ≤ 30 ∧ v 8 = nI L) (hB : ¬ v 10 = 0 → ∃ B, B < 20 ∧ v 20 = nI (B + 1)) (hs : v 10 = 0 ∨ v 10 = 1 ∨ v 10 = 2 ∨ v 10 = 3 ∨ v 10 = 4 ∨ v 10 = 5 ∨ v 10 = 6) : m_Ctr M_X1_bring [.ref 1, .int r] (hC v a x t) (.inl (none, hC (sBringV v a r) (sBringA v a r) x t)) := by
  rcases hs with hs | hs | hs | hs | hs | hs | hs
  · exact c_X1_bring0 h1 h2 hL hs
  · exact c_X1_bring1 h1 h2 hL hs
  · exact c_X1_bring2 h1 h2 hL hs
  · exact c_X1_bring3 h1 h2 hL hs
  · exact c_X1_bring4 h1 h2 hL (hB (by rw [hs]; decide)) hs
  · exact c_X1_bring5 h1 h2 hL hs
  · exact c_X1_bring6 h1 h2 hL hs
theorem c_X1_startBatch {v : m_V} {a : m_R} {x : Int64} {t : m_H}  : m_Ctr M_X1_startBatch [.ref 1] (hC v a x t) (.inl (some (.int (v 20)), hC (sBegin (upd v 20 (v 20 + 1)) 0) a x t)) := by
  refine m_intro (by decide +kernel) (Nat.le_of_ble_eq_true rfl) (fun X => ?_)
  refine m_aload_n X dX1_startBatch_0 rfl rfl ?_
  refine m_getf (v := .int (v 20)) X dX1_startBatch_1 fl_X1_79 rfl rfl rfl ?_
  refine m_istore_n X dX1_startBatch_4 (Nat.le_of_ble_eq_true rfl) rfl ?_
  refine m_aload_n X dX1_startBatch_5 rfl rfl ?_
  refine m_dup X dX1_startBatch_6 rfl rfl ?_
  refine m_getf (v := .int (v 20)) X dX1_startBatch_7 fl_X1_79 rfl rfl rfl ?_
  refine m_iconst (v := 1) X dX1_startBatch_10 (by decide) rfl ?_
  refine m_iadd X dX1_startBatch_11 rfl ?_
  refine m_piC 20 X dX1_startBatch_12 fl_X1_79 fp_X1_14 rfl rfl rfl rfl ?_
  refine m_aload_n X dX1_startBatch_15 rfl rfl ?_
  refine m_iconst (v := 0) X dX1_startBatch_16 (by decide) rfl ?_
  refine m_cV1 X dX1_startBatch_17 lk_X1_82 mk_X1_beginStep in_X1_beginStep se_X1_beginStep rfl rfl (c_X1_beginStep) rfl (Nat.le_of_ble_eq_true rfl) (Nat.le_of_ble_eq_true rfl) (Nat.le_of_ble_eq_true rfl) (Nat.le_of_ble_eq_true rfl) (Nat.le_of_ble_eq_true rfl) rfl ?_
  refine m_iload_n X dX1_startBatch_20 rfl rfl ?_
  exact m_iret X dX1_startBatch_21 rfl (rfl) (Nat.le_of_ble_eq_true rfl) (Nat.le_of_ble_eq_true rfl) rfl
theorem c_X1_goOn {v : m_V} {a : m_R} {x : Int64} {t : m_H} (h1 : vp_in (v 15) 6) (h2 : vp_in (sbin v a) 4) (hL : ∃ L, L ≤ 30 ∧ v 8 = nI L) (hB : ∃ B, B < 20 ∧ v 20 = nI (B + 1)) : m_Ctr M_X1_goOn [.ref 1] (hC v a x t) (.inl (none, hC (sGoOnV v) (sGoOnA v a) x t)) := by
  refine m_intro (by decide +kernel) (Nat.le_of_ble_eq_true rfl) (fun X => ?_)
  refine m_aload_n X dX1_goOn_0 rfl rfl ?_
  refine m_getf (v := .int (v 11)) X dX1_goOn_1 fl_X1_43 rfl rfl rfl ?_
  refine m_iconst (v := 1) X dX1_goOn_4 (by decide) rfl ?_
  refine m_icmp_eq (tgt := 16) X dX1_goOn_5 (by decide) rfl (fun b5 => ?_) (fun b5 => ?_)
  · refine m_aload_n X dX1_goOn_16 rfl rfl ?_
    refine m_cV0 X dX1_goOn_17 lk_X1_85 mk_X1_finishStep in_X1_finishStep se_X1_finishStep rfl rfl (c_X1_finishStep h1 h2 hL hB) rfl (Nat.le_of_ble_eq_true rfl) (Nat.le_of_ble_eq_true rfl) (Nat.le_of_ble_eq_true rfl) (Nat.le_of_ble_eq_true rfl) (Nat.le_of_ble_eq_true rfl) rfl ?_
    refine m_goto (tgt := 36) X dX1_goOn_20 (by decide) rfl ?_
    exact m_vret X dX1_goOn_36 rfl (by unfold sGoOnV sGoOnA; rw [if_pos b5, if_pos b5]) (Nat.le_of_ble_eq_true rfl) (Nat.le_of_ble_eq_true rfl) rfl
  · refine m_aload_n X dX1_goOn_8 rfl rfl ?_
    refine m_getf (v := .int (v 11)) X dX1_goOn_9 fl_X1_43 rfl rfl rfl ?_
    refine m_iconst (v := 2) X dX1_goOn_12 (by decide) rfl ?_
    refine m_icmp_ne (tgt := 23) X dX1_goOn_13 (by decide) rfl (fun b13 => ?_) (fun b13 => ?_)
    · refine m_aload_n X dX1_goOn_23 rfl rfl ?_
      refine m_iconst (v := 0) X dX1_goOn_24 (by decide) rfl ?_
      refine m_piC 14 X dX1_goOn_25 fl_X1_88 fp_X1_8 rfl rfl rfl rfl ?_
      refine m_aload_n X dX1_goOn_28 rfl rfl ?_
      refine m_aload_n X dX1_goOn_29 rfl rfl ?_
      refine m_getf (v := .int (v 12)) X dX1_goOn_30 fl_X1_46 rfl rfl rfl ?_
      refine m_cV1 X dX1_goOn_33 lk_X1_72 mk_X1_enter in_X1_enter se_X1_enter rfl rfl (c_X1_enter) rfl (Nat.le_of_ble_eq_true rfl) (Nat.le_of_ble_eq_true rfl) (Nat.le_of_ble_eq_true rfl) (Nat.le_of_ble_eq_true rfl) (Nat.le_of_ble_eq_true rfl) rfl ?_
      exact m_vret X dX1_goOn_36 rfl (by unfold sGoOnV sGoOnA; rw [if_neg b5, if_neg b5, if_pos b13, if_pos b13]) (Nat.le_of_ble_eq_true rfl) (Nat.le_of_ble_eq_true rfl) rfl
    · refine m_aload_n X dX1_goOn_16 rfl rfl ?_
      refine m_cV0 X dX1_goOn_17 lk_X1_85 mk_X1_finishStep in_X1_finishStep se_X1_finishStep rfl rfl (c_X1_finishStep h1 h2 hL hB) rfl (Nat.le_of_ble_eq_true rfl) (Nat.le_of_ble_eq_true rfl) (Nat.le_of_ble_eq_true rfl) (Nat.le_of_ble_eq_true rfl) (Nat.le_of_ble_eq_true rfl) rfl ?_
      refine m_goto (tgt := 36) X dX1_goOn_20 (by decide) rfl ?_
      exact m_vret X dX1_goOn_36 rfl (by unfold sGoOnV sGoOnA; rw [if_neg b5, if_neg b5, if_neg (not_not_intro b13), if_neg (not_not_intro b13)]) (Nat.le_of_ble_eq_true rfl) (Nat.le_of_ble_eq_true rfl) rfl
theorem c_X1_breakOff {v : m_V} {a : m_R} {x : Int64} {t : m_H} (h1 : vp_in (v 15) 6) (h2 : vp_in (sbin v a) 4) (hL : ∃ L, L ≤ 30 ∧ v 8 = nI L) (hB : ∃ B, B < 20 ∧ v 20 = nI (B + 1)) : m_Ctr M_X1_breakOff [.ref 1] (hC v a x t) (.inl (some (.int (if v 18 = 0 then 0 else sAmt v)), hC (sEnter v 0) (if v 18 = 0 then a else sBook v a) x t)) := by
  refine m_intro (by decide +kernel) (Nat.le_of_ble_eq_true rfl) (fun X => ?_)
  refine m_aload_n X dX1_breakOff_0 rfl rfl ?_
  refine m_getf (v := .int (v 18)) X dX1_breakOff_1 fl_X1_91 rfl rfl rfl ?_
  refine m_if_eq (tgt := 14) X dX1_breakOff_4 (by decide) rfl (fun b4 => ?_) (fun b4 => ?_)
  · refine m_iconst (v := 0) X dX1_breakOff_14 (by decide) rfl ?_
    refine m_istore_n X dX1_breakOff_15 (Nat.le_of_ble_eq_true rfl) rfl ?_
    refine m_aload_n X dX1_breakOff_16 rfl rfl ?_
    refine m_iconst (v := 0) X dX1_breakOff_17 (by decide) rfl ?_
    refine m_cV1 X dX1_breakOff_18 lk_X1_72 mk_X1_enter in_X1_enter se_X1_enter rfl rfl (c_X1_enter) rfl (Nat.le_of_ble_eq_true rfl) (Nat.le_of_ble_eq_true rfl) (Nat.le_of_ble_eq_true rfl) (Nat.le_of_ble_eq_true rfl) (Nat.le_of_ble_eq_true rfl) rfl ?_
    refine m_iload_n X dX1_breakOff_21 rfl rfl ?_
    exact m_iret X dX1_breakOff_22 rfl (by rw [if_pos b4, if_pos b4]) (Nat.le_of_ble_eq_true rfl) (Nat.le_of_ble_eq_true rfl) rfl
  · refine m_aload_n X dX1_breakOff_7 rfl rfl ?_
    refine m_cV0 X dX1_breakOff_8 lk_X1_95 mk_X1_bookNet in_X1_bookNet se_X1_bookNet rfl rfl (c_X1_bookNet h1 h2 hL hB) rfl (Nat.le_of_ble_eq_true rfl) (Nat.le_of_ble_eq_true rfl) (Nat.le_of_ble_eq_true rfl) (Nat.le_of_ble_eq_true rfl) (Nat.le_of_ble_eq_true rfl) rfl ?_
    refine m_goto (tgt := 15) X dX1_breakOff_11 (by decide) rfl ?_
    refine m_istore_n X dX1_breakOff_15 (Nat.le_of_ble_eq_true rfl) rfl ?_
    refine m_aload_n X dX1_breakOff_16 rfl rfl ?_
    refine m_iconst (v := 0) X dX1_breakOff_17 (by decide) rfl ?_
    refine m_cV1 X dX1_breakOff_18 lk_X1_72 mk_X1_enter in_X1_enter se_X1_enter rfl rfl (c_X1_enter) rfl (Nat.le_of_ble_eq_true rfl) (Nat.le_of_ble_eq_true rfl) (Nat.le_of_ble_eq_true rfl) (Nat.le_of_ble_eq_true rfl) (Nat.le_of_ble_eq_true rfl) rfl ?_
    refine m_iload_n X dX1_breakOff_21 rfl rfl ?_
    exact m_iret X dX1_breakOff_22 rfl (by rw [if_neg b4, if_neg b4]) (Nat.le_of_ble_eq_true rfl) (Nat.le_of_ble_eq_true rfl) rfl
end MK4

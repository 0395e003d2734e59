section MK
theorem c_X4_take {v : m_V} {a : m_R} {x : Int64} {t : m_H} {r : Int32} : m_Ctr M_X4_take [.ref 2, .int r] (hC v a x t) (.inl (none, hC (sTake v r) a x t)) := by
  refine m_intro (by decide +kernel) (Nat.le_of_ble_eq_true rfl) (fun X => ?_)
  refine m_aload_n X dX4_take_0 rfl rfl ?_
  refine m_aload_n X dX4_take_1 rfl rfl ?_
  refine m_getf (v := .int (v 6)) X dX4_take_2 fl_X4_15 rfl rfl rfl ?_
  refine m_piC 7 X dX4_take_5 fl_X4_18 fp_X4_7 rfl rfl rfl rfl ?_
  refine m_aload_n X dX4_take_8 rfl rfl ?_
  refine m_aload_n X dX4_take_9 rfl rfl ?_
  refine m_getf (v := .int (v 5)) X dX4_take_10 fl_X4_21 rfl rfl rfl ?_
  refine m_piC 6 X dX4_take_13 fl_X4_15 fp_X4_6 rfl rfl rfl rfl ?_
  refine m_aload_n X dX4_take_16 rfl rfl ?_
  refine m_aload_n X dX4_take_17 rfl rfl ?_
  refine m_getf (v := .int (v 4)) X dX4_take_18 fl_X4_24 rfl rfl rfl ?_
  refine m_piC 5 X dX4_take_21 fl_X4_21 fp_X4_5 rfl rfl rfl rfl ?_
  refine m_aload_n X dX4_take_24 rfl rfl ?_
  refine m_iload_n X dX4_take_25 rfl rfl ?_
  refine m_piC 4 X dX4_take_26 fl_X4_24 fp_X4_4 rfl rfl rfl rfl ?_
  refine m_aload_n X dX4_take_29 rfl rfl ?_
  refine m_getf (v := .int (v 3)) X dX4_take_30 fl_X4_27 rfl rfl rfl ?_
  refine m_iconst (v := 4) X dX4_take_33 (by decide) rfl ?_
  refine m_icmp_ge (tgt := 47) X dX4_take_34 (by decide) rfl (fun b34 => ?_) (fun b34 => ?_)
  · exact m_vret X dX4_take_47 rfl (by unfold sTake; try (first | rw [if_pos b34] | rw [if_neg b34] | rw [if_neg (not_not_intro b34)]); try rfl) (Nat.le_of_ble_eq_true rfl) (Nat.le_of_ble_eq_true rfl) rfl
  · refine m_aload_n X dX4_take_37 rfl rfl ?_
    refine m_dup X dX4_take_38 rfl rfl ?_
    refine m_getf (v := .int (v 3)) X dX4_take_39 fl_X4_27 rfl rfl rfl ?_
    refine m_iconst (v := 1) X dX4_take_42 (by decide) rfl ?_
    refine m_iadd X dX4_take_43 rfl ?_
    refine m_piC 3 X dX4_take_44 fl_X4_27 fp_X4_3 rfl rfl rfl rfl ?_
    exact m_vret X dX4_take_47 rfl (by unfold sTake; try (first | rw [if_pos b34] | rw [if_neg b34] | rw [if_neg (not_not_intro b34)]); try rfl) (Nat.le_of_ble_eq_true rfl) (Nat.le_of_ble_eq_true rfl) rfl
theorem c_X4_isCalm {v : m_V} {a : m_R} {x : Int64} {t : m_H}  : m_Ctr M_X4_isCalm [.ref 2] (hC v a x t) (.inl (some (.int (bi (calm v))), hC v a x t)) := by
  refine m_intro (by decide +kernel) (Nat.le_of_ble_eq_true rfl) (fun X => ?_)
  refine m_aload_n X dX4_isCalm_0 rfl rfl ?_
  refine m_getf (v := .int (v 4)) X dX4_isCalm_1 fl_X4_24 rfl rfl rfl ?_
  refine m_aload_n X dX4_isCalm_4 rfl rfl ?_
  refine m_getf (v := .int (v 5)) X dX4_isCalm_5 fl_X4_21 rfl rfl rfl ?_
  refine m_mmax X dX4_isCalm_8 lm_X4_30 (Nat.le_of_ble_eq_true rfl) (Nat.le_of_ble_eq_true rfl) (Nat.le_of_ble_eq_true rfl) (Nat.le_of_ble_eq_true rfl) rfl ?_
  refine m_aload_n X dX4_isCalm_11 rfl rfl ?_
  refine m_getf (v := .int (v 6)) X dX4_isCalm_12 fl_X4_15 rfl rfl rfl ?_
  refine m_aload_n X dX4_isCalm_15 rfl rfl ?_
  refine m_getf (v := .int (v 7)) X dX4_isCalm_16 fl_X4_18 rfl rfl rfl ?_
  refine m_mmax X dX4_isCalm_19 lm_X4_30 (Nat.le_of_ble_eq_true rfl) (Nat.le_of_ble_eq_true rfl) (Nat.le_of_ble_eq_true rfl) (Nat.le_of_ble_eq_true rfl) rfl ?_
  refine m_mmax X dX4_isCalm_22 lm_X4_30 (Nat.le_of_ble_eq_true rfl) (Nat.le_of_ble_eq_true rfl) (Nat.le_of_ble_eq_true rfl) (Nat.le_of_ble_eq_true rfl) rfl ?_
  refine m_istore_n X dX4_isCalm_25 (Nat.le_of_ble_eq_true rfl) rfl ?_
  refine m_aload_n X dX4_isCalm_26 rfl rfl ?_
  refine m_getf (v := .int (v 4)) X dX4_isCalm_27 fl_X4_24 rfl rfl rfl ?_
  refine m_aload_n X dX4_isCalm_30 rfl rfl ?_
  refine m_getf (v := .int (v 5)) X dX4_isCalm_31 fl_X4_21 rfl rfl rfl ?_
  refine m_mmin X dX4_isCalm_34 lm_X4_36 (Nat.le_of_ble_eq_true rfl) (Nat.le_of_ble_eq_true rfl) (Nat.le_of_ble_eq_true rfl) (Nat.le_of_ble_eq_true rfl) rfl ?_
  refine m_aload_n X dX4_isCalm_37 rfl rfl ?_
  refine m_getf (v := .int (v 6)) X dX4_isCalm_38 fl_X4_15 rfl rfl rfl ?_
  refine m_aload_n X dX4_isCalm_41 rfl rfl ?_
  refine m_getf (v := .int (v 7)) X dX4_isCalm_42 fl_X4_18 rfl rfl rfl ?_
  refine m_mmin X dX4_isCalm_45 lm_X4_36 (Nat.le_of_ble_eq_true rfl) (Nat.le_of_ble_eq_true rfl) (Nat.le_of_ble_eq_true rfl) (Nat.le_of_ble_eq_true rfl) rfl ?_
  refine m_mmin X dX4_isCalm_48 lm_X4_36 (Nat.le_of_ble_eq_true rfl) (Nat.le_of_ble_eq_true rfl) (Nat.le_of_ble_eq_true rfl) (Nat.le_of_ble_eq_true rfl) rfl ?_
  refine m_istore_n X dX4_isCalm_51 (Nat.le_of_ble_eq_true rfl) rfl ?_
  refine m_aload_n X dX4_isCalm_52 rfl rfl ?_
  refine m_getf (v := .int (v 3)) X dX4_isCalm_53 fl_X4_27 rfl rfl rfl ?_
  refine m_iconst (v := 4) X dX4_isCalm_56 (by decide) rfl ?_
  refine m_icmp_lt (tgt := 74) X dX4_isCalm_57 (by decide) rfl (fun b57 => ?_) (fun b57 => ?_)
  · refine m_iconst (v := 0) X dX4_isCalm_74 (by decide) rfl ?_
    exact m_zret X dX4_isCalm_75 rfl (by decide) (by rw [bi_f (fun q => q.1 b57)]) (Nat.le_of_ble_eq_true rfl) (Nat.le_of_ble_eq_true rfl) rfl
  · refine m_iload_n X dX4_isCalm_60 rfl rfl ?_
    refine m_iload_n X dX4_isCalm_61 rfl rfl ?_
    refine m_isub X dX4_isCalm_62 rfl ?_
    refine m_aload_n X dX4_isCalm_63 rfl rfl ?_
    refine m_getf (v := .int (v 2)) X dX4_isCalm_64 fl_X4_9 rfl rfl rfl ?_
    refine m_icmp_gt (tgt := 74) X dX4_isCalm_67 (by decide) rfl (fun b67 => ?_) (fun b67 => ?_)
    · refine m_iconst (v := 0) X dX4_isCalm_74 (by decide) rfl ?_
      exact m_zret X dX4_isCalm_75 rfl (by decide) (by rw [bi_f (fun q => q.2 b67)]) (Nat.le_of_ble_eq_true rfl) (Nat.le_of_ble_eq_true rfl) rfl
    · refine m_iconst (v := 1) X dX4_isCalm_70 (by decide) rfl ?_
      refine m_goto (tgt := 75) X dX4_isCalm_71 (by decide) rfl ?_
      exact m_zret X dX4_isCalm_75 rfl (by decide) (by rw [bi_t ⟨b57, b67⟩]) (Nat.le_of_ble_eq_true rfl) (Nat.le_of_ble_eq_true rfl) rfl
theorem c_X4_grossNow {v : m_V} {a : m_R} {x : Int64} {t : m_H}  : m_Ctr M_X4_grossNow [.ref 2] (hC v a x t) (.inl (some (.int (gross v)), hC v a x t)) := by
  refine m_intro (by decide +kernel) (Nat.le_of_ble_eq_true rfl) (fun X => ?_)
  refine m_aload_n X dX4_grossNow_0 rfl rfl ?_
  refine m_getf (v := .int (v 4)) X dX4_grossNow_1 fl_X4_24 rfl rfl rfl ?_
  refine m_aload_n X dX4_grossNow_4 rfl rfl ?_
  refine m_getf (v := .int (v 0)) X dX4_grossNow_5 fl_X4_39 rfl rfl rfl ?_
  refine m_isub X dX4_grossNow_8 rfl ?_
  exact m_iret X dX4_grossNow_9 rfl (rfl) (Nat.le_of_ble_eq_true rfl) (Nat.le_of_ble_eq_true rfl) rfl
theorem c_X4_netNow {v : m_V} {a : m_R} {x : Int64} {t : m_H}  : m_Ctr M_X4_netNow [.ref 2] (hC v a x t) (.inl (some (.int (net v)), hC v a x t)) := by
  refine m_intro (by decide +kernel) (Nat.le_of_ble_eq_true rfl) (fun X => ?_)
  refine m_aload_n X dX4_netNow_0 rfl rfl ?_
  refine m_cV0 X dX4_netNow_1 lk_X4_42 mk_X4_grossNow in_X4_grossNow se_X4_grossNow rfl rfl (c_X4_grossNow) rfl (Nat.le_of_ble_eq_true rfl) (Nat.le_of_ble_eq_true rfl) (Nat.le_of_ble_eq_true rfl) (Nat.le_of_ble_eq_true rfl) (Nat.le_of_ble_eq_true rfl) rfl ?_
  refine m_aload_n X dX4_netNow_4 rfl rfl ?_
  refine m_getf (v := .int (v 1)) X dX4_netNow_5 fl_X4_46 rfl rfl rfl ?_
  refine m_isub X dX4_netNow_8 rfl ?_
  exact m_iret X dX4_netNow_9 rfl (rfl) (Nat.le_of_ble_eq_true rfl) (Nat.le_of_ble_eq_true rfl) rfl
theorem c_X4_trackZero {v : m_V} {a : m_R} {x : Int64} {t : m_H}  : m_Ctr M_X4_trackZero [.ref 2] (hC v a x t) (.inl (none, hC (sTrack v) a x t)) := by
  refine m_intro (by decide +kernel) (Nat.le_of_ble_eq_true rfl) (fun X => ?_)
  refine m_aload_n X dX4_trackZero_0 rfl rfl ?_
  refine m_cV0 X dX4_trackZero_1 lk_X4_42 mk_X4_grossNow in_X4_grossNow se_X4_grossNow rfl rfl (c_X4_grossNow) rfl (Nat.le_of_ble_eq_true rfl) (Nat.le_of_ble_eq_true rfl) (Nat.le_of_ble_eq_true rfl) (Nat.le_of_ble_eq_true rfl) (Nat.le_of_ble_eq_true rfl) rfl ?_
  refine m_istore_n X dX4_trackZero_4 (Nat.le_of_ble_eq_true rfl) rfl ?_
  refine m_iload_n X dX4_trackZero_5 rfl rfl ?_
  refine m_if_eq (tgt := 27) X dX4_trackZero_6 (by decide) rfl (fun b6 => ?_) (fun b6 => ?_)
  · exact m_vret X dX4_trackZero_27 rfl (by unfold sTrack sMoved; try (first | rw [if_pos b6] | rw [if_neg b6] | rw [if_neg (not_not_intro b6)]); try rfl) (Nat.le_of_ble_eq_true rfl) (Nat.le_of_ble_eq_true rfl) rfl
  · refine m_iload_n X dX4_trackZero_9 rfl rfl ?_
    refine m_bipush (v := (-10)) X dX4_trackZero_10 (by decide) rfl ?_
    refine m_bipush (v := (10)) X dX4_trackZero_12 (by decide) rfl ?_
    refine m_cS3 X dX4_trackZero_14 lk_X4_49 mk_X5_isWithin st_X5_isWithin (c_X5_isWithin) rfl (Nat.le_of_ble_eq_true rfl) (Nat.le_of_ble_eq_true rfl) (Nat.le_of_ble_eq_true rfl) (Nat.le_of_ble_eq_true rfl) (Nat.le_of_ble_eq_true rfl) rfl ?_
    refine m_if_eq (tgt := 27) X dX4_trackZero_17 (by decide) rfl (fun b17 => ?_) (fun b17 => ?_)
    · exact m_vret X dX4_trackZero_27 rfl (by unfold sTrack sMoved; try (first | rw [if_pos b6] | rw [if_neg b6] | rw [if_neg (not_not_intro b6)]); try (first | rw [if_pos b17] | rw [if_neg b17] | rw [if_neg (not_not_intro b17)]); try rfl) (Nat.le_of_ble_eq_true rfl) (Nat.le_of_ble_eq_true rfl) rfl
    · refine m_aload_n X dX4_trackZero_20 rfl rfl ?_
      refine m_cV0 X dX4_trackZero_21 lk_X4_53 mk_X4_isCalm in_X4_isCalm se_X4_isCalm rfl rfl (c_X4_isCalm) rfl (Nat.le_of_ble_eq_true rfl) (Nat.le_of_ble_eq_true rfl) (Nat.le_of_ble_eq_true rfl) (Nat.le_of_ble_eq_true rfl) (Nat.le_of_ble_eq_true rfl) rfl ?_
      refine m_if_ne (tgt := 28) X dX4_trackZero_24 (by decide) rfl (fun b24 => ?_) (fun b24 => ?_)
      · refine m_aload_n X dX4_trackZero_28 rfl rfl ?_
        refine m_getf (v := .int (v 0)) X dX4_trackZero_29 fl_X4_39 rfl rfl rfl ?_
        refine m_iload_n X dX4_trackZero_32 rfl rfl ?_
        refine m_if_le (tgt := 40) X dX4_trackZero_33 (by decide) rfl (fun b33 => ?_) (fun b33 => ?_)
        · refine m_iconst (v := (-1)) X dX4_trackZero_40 (by decide) rfl ?_
          refine m_iadd X dX4_trackZero_41 rfl ?_
          refine m_istore_n X dX4_trackZero_42 (Nat.le_of_ble_eq_true rfl) rfl ?_
          refine m_iload_n X dX4_trackZero_43 rfl rfl ?_
          refine m_sipush (v := (-500)) X dX4_trackZero_44 (by decide) rfl ?_
          refine m_sipush (v := (500)) X dX4_trackZero_47 (by decide) rfl ?_
          refine m_cS3 X dX4_trackZero_50 lk_X4_49 mk_X5_isWithin st_X5_isWithin (c_X5_isWithin) rfl (Nat.le_of_ble_eq_true rfl) (Nat.le_of_ble_eq_true rfl) (Nat.le_of_ble_eq_true rfl) (Nat.le_of_ble_eq_true rfl) (Nat.le_of_ble_eq_true rfl) rfl ?_
          refine m_if_eq (tgt := 61) X dX4_trackZero_53 (by decide) rfl (fun b53 => ?_) (fun b53 => ?_)
          · exact m_vret X dX4_trackZero_61 rfl (by unfold sTrack sMoved; try (first | rw [if_pos b6] | rw [if_neg b6] | rw [if_neg (not_not_intro b6)]); try (first | rw [if_pos b17] | rw [if_neg b17] | rw [if_neg (not_not_intro b17)]); try (first | rw [if_pos b24] | rw [if_neg b24] | rw [if_neg (not_not_intro b24)]); try (first | rw [if_pos b33] | rw [if_neg b33] | rw [if_neg (not_not_intro b33)]); try (first | rw [if_pos b53] | rw [if_neg b53] | rw [if_neg (not_not_intro b53)]); try rfl) (Nat.le_of_ble_eq_true rfl) (Nat.le_of_ble_eq_true rfl) rfl
          · refine m_aload_n X dX4_trackZero_56 rfl rfl ?_
            refine m_iload_n X dX4_trackZero_57 rfl rfl ?_
            refine m_piC 0 X dX4_trackZero_58 fl_X4_39 fp_X4_0 rfl rfl rfl rfl ?_
            exact m_vret X dX4_trackZero_61 rfl (by unfold sTrack sMoved; try (first | rw [if_pos b6] | rw [if_neg b6] | rw [if_neg (not_not_intro b6)]); try (first | rw [if_pos b17] | rw [if_neg b17] | rw [if_neg (not_not_intro b17)]); try (first | rw [if_pos b24] | rw [if_neg b24] | rw [if_neg (not_not_intro b24)]); try (first | rw [if_pos b33] | rw [if_neg b33] | rw [if_neg (not_not_intro b33)]); try (first | rw [if_pos b53] | rw [if_neg b53] | rw [if_neg (not_not_intro b53)]); try rfl) (Nat.le_of_ble_eq_true rfl) (Nat.le_of_ble_eq_true rfl) rfl
        · refine m_iconst (v := 1) X dX4_trackZero_36 (by decide) rfl ?_
          refine m_goto (tgt := 41) X dX4_trackZero_37 (by decide) rfl ?_
          refine m_iadd X dX4_trackZero_41 rfl ?_
          refine m_istore_n X dX4_trackZero_42 (Nat.le_of_ble_eq_true rfl) rfl ?_
          refine m_iload_n X dX4_trackZero_43 rfl rfl ?_
          refine m_sipush (v := (-500)) X dX4_trackZero_44 (by decide) rfl ?_
          refine m_sipush (v := (500)) X dX4_trackZero_47 (by decide) rfl ?_
          refine m_cS3 X dX4_trackZero_50 lk_X4_49 mk_X5_isWithin st_X5_isWithin (c_X5_isWithin) rfl (Nat.le_of_ble_eq_true rfl) (Nat.le_of_ble_eq_true rfl) (Nat.le_of_ble_eq_true rfl) (Nat.le_of_ble_eq_true rfl) (Nat.le_of_ble_eq_true rfl) rfl ?_
          refine m_if_eq (tgt := 61) X dX4_trackZero_53 (by decide) rfl (fun b53 => ?_) (fun b53 => ?_)
          · exact m_vret X dX4_trackZero_61 rfl (by unfold sTrack sMoved; try (first | rw [if_pos b6] | rw [if_neg b6] | rw [if_neg (not_not_intro b6)]); try (first | rw [if_pos b17] | rw [if_neg b17] | rw [if_neg (not_not_intro b17)]); try (first | rw [if_pos b24] | rw [if_neg b24] | rw [if_neg (not_not_intro b24)]); try (first | rw [if_pos b33] | rw [if_neg b33] | rw [if_neg (not_not_intro b33)]); try (first | rw [if_pos b53] | rw [if_neg b53] | rw [if_neg (not_not_intro b53)]); try rfl) (Nat.le_of_ble_eq_true rfl) (Nat.le_of_ble_eq_true rfl) rfl
          · refine m_aload_n X dX4_trackZero_56 rfl rfl ?_
            refine m_iload_n X dX4_trackZero_57 rfl rfl ?_
            refine m_piC 0 X dX4_trackZero_58 fl_X4_39 fp_X4_0 rfl rfl rfl rfl ?_
            exact m_vret X dX4_trackZero_61 rfl (by unfold sTrack sMoved; try (first | rw [if_pos b6] | rw [if_neg b6] | rw [if_neg (not_not_intro b6)]); try (first | rw [if_pos b17] | rw [if_neg b17] | rw [if_neg (not_not_intro b17)]); try (first | rw [if_pos b24] | rw [if_neg b24] | rw [if_neg (not_not_intro b24)]); try (first | rw [if_pos b33] | rw [if_neg b33] | rw [if_neg (not_not_intro b33)]); try (first | rw [if_pos b53] | rw [if_neg b53] | rw [if_neg (not_not_intro b53)]); try rfl) (Nat.le_of_ble_eq_true rfl) (Nat.le_of_ble_eq_true rfl) rfl
      · exact m_vret X dX4_trackZero_27 rfl (by unfold sTrack sMoved; try (first | rw [if_pos b6] | rw [if_neg b6] | rw [if_neg (not_not_intro b6)]); try (first | rw [if_pos b17] | rw [if_neg b17] | rw [if_neg (not_not_intro b17)]); try (first | rw [if_pos b24] | rw [if_neg b24] | rw [if_neg (not_not_intro b24)]); try rfl) (Nat.le_of_ble_eq_true rfl) (Nat.le_of_ble_eq_true rfl) rfl
theorem c_X0_learn {v : m_V} {a : m_R} {x : Int64} {t : m_H} {b e : Int32} (hb : vp_in b 4) : m_Ctr M_X0_learn [.ref 3, .int b, .int e] (hC v a x t) (.inl (none, hC v (sLearn a b e) x t)) := by
  refine m_intro (by decide +kernel) (Nat.le_of_ble_eq_true rfl) (fun X => ?_)
  refine m_aload_n X dX0_learn_0 rfl rfl ?_
  refine m_getf X dX0_learn_1 fl_X0_15 rfl rfl rfl ?_
  refine m_iload_n X dX0_learn_4 rfl rfl ?_
  refine m_cS2 X dX0_learn_5 lk_X0_24 mk_X5_at st_X5_at (c_X5_at rfl (by decide) hb) rfl (Nat.le_of_ble_eq_true rfl) (Nat.le_of_ble_eq_true rfl) (Nat.le_of_ble_eq_true rfl) (Nat.le_of_ble_eq_true rfl) (Nat.le_of_ble_eq_true rfl) rfl ?_
  refine m_iload_n X dX0_learn_8 rfl rfl ?_
  refine m_iconst (v := 4) X dX0_learn_9 (by decide) rfl ?_
  refine m_cS2 X dX0_learn_10 lk_X0_28 mk_J9_floorDiv_7cf53 st_J9_floorDiv_7cf53 (c_J9_floorDiv_7cf53) rfl (Nat.le_of_ble_eq_true rfl) (Nat.le_of_ble_eq_true rfl) (Nat.le_of_ble_eq_true rfl) (Nat.le_of_ble_eq_true rfl) (Nat.le_of_ble_eq_true rfl) rfl ?_
  refine m_iadd X dX0_learn_13 rfl ?_
  refine m_istore_n X dX0_learn_14 (Nat.le_of_ble_eq_true rfl) rfl ?_
  refine m_aload_n X dX0_learn_15 rfl rfl ?_
  refine m_getf X dX0_learn_16 fl_X0_15 rfl rfl rfl ?_
  refine m_iload_n X dX0_learn_19 rfl rfl ?_
  refine m_iconst (v := 0) X dX0_learn_20 (by decide) rfl ?_
  refine m_sipush (v := (500)) X dX0_learn_21 (by decide) rfl ?_
  refine m_iload_n X dX0_learn_24 rfl rfl ?_
  refine m_mmin X dX0_learn_25 lm_X0_34 (Nat.le_of_ble_eq_true rfl) (Nat.le_of_ble_eq_true rfl) (Nat.le_of_ble_eq_true rfl) (Nat.le_of_ble_eq_true rfl) rfl ?_
  refine m_mmax X dX0_learn_28 lm_X0_37 (Nat.le_of_ble_eq_true rfl) (Nat.le_of_ble_eq_true rfl) (Nat.le_of_ble_eq_true rfl) (Nat.le_of_ble_eq_true rfl) rfl ?_
  refine m_cS3 X dX0_learn_31 lk_X0_40 mk_X5_put st_X5_put (c_X5_put rfl (by decide) hb) rfl (Nat.le_of_ble_eq_true rfl) (Nat.le_of_ble_eq_true rfl) (Nat.le_of_ble_eq_true rfl) (Nat.le_of_ble_eq_true rfl) (Nat.le_of_ble_eq_true rfl) rfl ?_
  exact m_vret X dX0_learn_34 rfl (rfl) (Nat.le_of_ble_eq_true rfl) (Nat.le_of_ble_eq_true rfl) rfl
theorem c_X1_stepBin {v : m_V} {a : m_R} {x : Int64} {t : m_H} (h1 : vp_in (v 15) 6) : m_Ctr M_X1_stepBin [.ref 1] (hC v a x t) (.inl (some (.int (sbin v a)), hC v a x t)) := by
  refine m_intro (by decide +kernel) (Nat.le_of_ble_eq_true rfl) (fun X => ?_)
  refine m_aload_n X dX1_stepBin_0 rfl rfl ?_
  refine m_getf X dX1_stepBin_1 fl_X1_35 rfl rfl rfl ?_
  refine m_getf X dX1_stepBin_4 fl_X1_172 rfl rfl rfl ?_
  refine m_aload_n X dX1_stepBin_7 rfl rfl ?_
  refine m_getf (v := .int (v 15)) X dX1_stepBin_8 fl_X1_130 rfl rfl rfl ?_
  refine m_cS2 X dX1_stepBin_11 lk_X1_111 mk_X5_at st_X5_at (c_X5_at rfl (by decide) h1) rfl (Nat.le_of_ble_eq_true rfl) (Nat.le_of_ble_eq_true rfl) (Nat.le_of_ble_eq_true rfl) (Nat.le_of_ble_eq_true rfl) (Nat.le_of_ble_eq_true rfl) rfl ?_
  exact m_iret X dX1_stepBin_14 rfl (rfl) (Nat.le_of_ble_eq_true rfl) (Nat.le_of_ble_eq_true rfl) rfl
theorem c_X1_target {v : m_V} {a : m_R} {x : Int64} {t : m_H} (h1 : vp_in (v 15) 6) : m_Ctr M_X1_target [.ref 1] (hC v a x t) (.inl (some (.int (stgt v a)), hC v a x t)) := by
  refine m_intro (by decide +kernel) (Nat.le_of_ble_eq_true rfl) (fun X => ?_)
  refine m_aload_n X dX1_target_0 rfl rfl ?_
  refine m_getf X dX1_target_1 fl_X1_35 rfl rfl rfl ?_
  refine m_getf X dX1_target_4 fl_X1_175 rfl rfl rfl ?_
  refine m_aload_n X dX1_target_7 rfl rfl ?_
  refine m_getf (v := .int (v 15)) X dX1_target_8 fl_X1_130 rfl rfl rfl ?_
  refine m_cS2 X dX1_target_11 lk_X1_111 mk_X5_at st_X5_at (c_X5_at rfl (by decide) h1) rfl (Nat.le_of_ble_eq_true rfl) (Nat.le_of_ble_eq_true rfl) (Nat.le_of_ble_eq_true rfl) (Nat.le_of_ble_eq_true rfl) (Nat.le_of_ble_eq_true rfl) rfl ?_
  exact m_iret X dX1_target_14 rfl (rfl) (Nat.le_of_ble_eq_true rfl) (Nat.le_of_ble_eq_true rfl) rfl
theorem c_X1_enter {v : m_V} {a : m_R} {x : Int64} {t : m_H} {n : Int32} : m_Ctr M_X1_enter [.ref 1, .int n] (hC v a x t) (.inl (none, hC (sEnter v n) a x t)) := by
  refine m_intro (by decide +kernel) (Nat.le_of_ble_eq_true rfl) (fun X => ?_)
  refine m_aload_n X dX1_enter_0 rfl rfl ?_
  refine m_iload_n X dX1_enter_1 rfl rfl ?_
  refine m_piC 10 X dX1_enter_2 fl_X1_39 fp_X1_4 rfl rfl rfl rfl ?_
  refine m_aload_n X dX1_enter_5 rfl rfl ?_
  refine m_iconst (v := 0) X dX1_enter_6 (by decide) rfl ?_
  refine m_piC 13 X dX1_enter_7 fl_X1_53 fp_X1_7 rfl rfl rfl rfl ?_
  refine m_aload_n X dX1_enter_10 rfl rfl ?_
  refine m_iconst (v := 0) X dX1_enter_11 (by decide) rfl ?_
  refine m_piC 11 X dX1_enter_12 fl_X1_43 fp_X1_5 rfl rfl rfl rfl ?_
  exact m_vret X dX1_enter_15 rfl (rfl) (Nat.le_of_ble_eq_true rfl) (Nat.le_of_ble_eq_true rfl) rfl
theorem c_X1_halt {v : m_V} {a : m_R} {x : Int64} {t : m_H} {n : Int32} : m_Ctr M_X1_halt [.ref 1, .int n] (hC v a x t) (.inl (none, hC (sHalt v n) a x t)) := by
  refine m_intro (by decide +kernel) (Nat.le_of_ble_eq_true rfl) (fun X => ?_)
  refine m_aload_n X dX1_halt_0 rfl rfl ?_
  refine m_aload_n X dX1_halt_1 rfl rfl ?_
  refine m_getf (v := .int (v 10)) X dX1_halt_2 fl_X1_39 rfl rfl rfl ?_
  refine m_piC 12 X dX1_halt_5 fl_X1_46 fp_X1_6 rfl rfl rfl rfl ?_
  refine m_aload_n X dX1_halt_8 rfl rfl ?_
  refine m_bipush (v := (6)) X dX1_halt_9 (by decide) rfl ?_
  refine m_cV1 X dX1_halt_11 lk_X1_72 mk_X1_enter in_X1_enter se_X1_enter rfl rfl (c_X1_enter) rfl (Nat.le_of_ble_eq_true rfl) (Nat.le_of_ble_eq_true rfl) (Nat.le_of_ble_eq_true rfl) (Nat.le_of_ble_eq_true rfl) (Nat.le_of_ble_eq_true rfl) rfl ?_
  refine m_aload_n X dX1_halt_14 rfl rfl ?_
  refine m_iload_n X dX1_halt_15 rfl rfl ?_
  refine m_piC 11 X dX1_halt_16 fl_X1_43 fp_X1_5 rfl rfl rfl rfl ?_
  exact m_vret X dX1_halt_19 rfl (rfl) (Nat.le_of_ble_eq_true rfl) (Nat.le_of_ble_eq_true rfl) rfl
theorem c_X1_beginStep {v : m_V} {a : m_R} {x : Int64} {t : m_H} {n : Int32} : m_Ctr M_X1_beginStep [.ref 1, .int n] (hC v a x t) (.inl (none, hC (sBegin v n) a x t)) := by
  refine m_intro (by decide +kernel) (Nat.le_of_ble_eq_true rfl) (fun X => ?_)
  refine m_aload_n X dX1_beginStep_0 rfl rfl ?_
  refine m_iload_n X dX1_beginStep_1 rfl rfl ?_
  refine m_piC 15 X dX1_beginStep_2 fl_X1_130 fp_X1_9 rfl rfl rfl rfl ?_
  refine m_aload_n X dX1_beginStep_5 rfl rfl ?_
  refine m_iconst (v := 0) X dX1_beginStep_6 (by decide) rfl ?_
  refine m_piC 16 X dX1_beginStep_7 fl_X1_143 fp_X1_10 rfl rfl rfl rfl ?_
  refine m_aload_n X dX1_beginStep_10 rfl rfl ?_
  refine m_iconst (v := 0) X dX1_beginStep_11 (by decide) rfl ?_
  refine m_piC 14 X dX1_beginStep_12 fl_X1_88 fp_X1_8 rfl rfl rfl rfl ?_
  refine m_aload_n X dX1_beginStep_15 rfl rfl ?_
  refine m_iconst (v := 0) X dX1_beginStep_16 (by decide) rfl ?_
  refine m_piC 17 X dX1_beginStep_17 fl_X1_118 fp_X1_11 rfl rfl rfl rfl ?_
  refine m_aload_n X dX1_beginStep_20 rfl rfl ?_
  refine m_iconst (v := 0) X dX1_beginStep_21 (by decide) rfl ?_
  refine m_pzC 18 X dX1_beginStep_22 fl_X1_91 fp_X1_12 (by decide) rfl rfl rfl rfl ?_
  refine m_aload_n X dX1_beginStep_25 rfl rfl ?_
  refine m_iconst (v := 0) X dX1_beginStep_26 (by decide) rfl ?_
  refine m_pzC 19 X dX1_beginStep_27 fl_X1_133 fp_X1_13 (by decide) rfl rfl rfl rfl ?_
  refine m_aload_n X dX1_beginStep_30 rfl rfl ?_
  refine m_iconst (v := 1) X dX1_beginStep_31 (by decide) rfl ?_
  refine m_cV1 X dX1_beginStep_32 lk_X1_72 mk_X1_enter in_X1_enter se_X1_enter rfl rfl (c_X1_enter) rfl (Nat.le_of_ble_eq_true rfl) (Nat.le_of_ble_eq_true rfl) (Nat.le_of_ble_eq_true rfl) (Nat.le_of_ble_eq_true rfl) (Nat.le_of_ble_eq_true rfl) rfl ?_
  exact m_vret X dX1_beginStep_35 rfl (rfl) (Nat.le_of_ble_eq_true rfl) (Nat.le_of_ble_eq_true rfl) rfl
theorem c_X1_jog {v : m_V} {a : m_R} {x : Int64} {t : m_H}  : m_Ctr M_X1_jog [.ref 1] (hC v a x t) (.inl (none, hC (sJog v) a x t)) := by
  refine m_intro (by decide +kernel) (Nat.le_of_ble_eq_true rfl) (fun X => ?_)
  refine m_aload_n X dX1_jog_0 rfl rfl ?_
  refine m_getf (v := .int (v 16)) X dX1_jog_1 fl_X1_143 rfl rfl rfl ?_
  refine m_iconst (v := 5) X dX1_jog_4 (by decide) rfl ?_
  refine m_icmp_ge (tgt := 26) X dX1_jog_5 (by decide) rfl (fun b5 => ?_) (fun b5 => ?_)
  · refine m_aload_n X dX1_jog_26 rfl rfl ?_
    refine m_iconst (v := 1) X dX1_jog_27 (by decide) rfl ?_
    refine m_cV1 X dX1_jog_28 lk_X1_124 mk_X1_halt in_X1_halt se_X1_halt rfl rfl (c_X1_halt) rfl (Nat.le_of_ble_eq_true rfl) (Nat.le_of_ble_eq_true rfl) (Nat.le_of_ble_eq_true rfl) (Nat.le_of_ble_eq_true rfl) (Nat.le_of_ble_eq_true rfl) rfl ?_
    exact m_vret X dX1_jog_31 rfl (by unfold sJog; try (first | rw [if_pos b5] | rw [if_neg b5] | rw [if_neg (not_not_intro b5)]); try rfl) (Nat.le_of_ble_eq_true rfl) (Nat.le_of_ble_eq_true rfl) rfl
  · refine m_aload_n X dX1_jog_8 rfl rfl ?_
    refine m_dup X dX1_jog_9 rfl rfl ?_
    refine m_getf (v := .int (v 16)) X dX1_jog_10 fl_X1_143 rfl rfl rfl ?_
    refine m_iconst (v := 1) X dX1_jog_13 (by decide) rfl ?_
    refine m_iadd X dX1_jog_14 rfl ?_
    refine m_piC 16 X dX1_jog_15 fl_X1_143 fp_X1_10 rfl rfl rfl rfl ?_
    refine m_aload_n X dX1_jog_18 rfl rfl ?_
    refine m_iconst (v := 5) X dX1_jog_19 (by decide) rfl ?_
    refine m_cV1 X dX1_jog_20 lk_X1_72 mk_X1_enter in_X1_enter se_X1_enter rfl rfl (c_X1_enter) rfl (Nat.le_of_ble_eq_true rfl) (Nat.le_of_ble_eq_true rfl) (Nat.le_of_ble_eq_true rfl) (Nat.le_of_ble_eq_true rfl) (Nat.le_of_ble_eq_true rfl) rfl ?_
    refine m_goto (tgt := 31) X dX1_jog_23 (by decide) rfl ?_
    exact m_vret X dX1_jog_31 rfl (by unfold sJog; try (first | rw [if_pos b5] | rw [if_neg b5] | rw [if_neg (not_not_intro b5)]); try rfl) (Nat.le_of_ble_eq_true rfl) (Nat.le_of_ble_eq_true rfl) rfl
theorem c_X1_tareStep {v : m_V} {a : m_R} {x : Int64} {t : m_H} (h1 : vp_in (v 15) 6) (h2 : vp_in (sbin v a) 4) : m_Ctr M_X1_tareStep [.ref 1] (hC v a x t) (.inl (none, hC (sTare v a) a x t)) := by
  refine m_intro (by decide +kernel) (Nat.le_of_ble_eq_true rfl) (fun X => ?_)
  refine m_aload_n X dX1_tareStep_0 rfl rfl ?_
  refine m_getf X dX1_tareStep_1 fl_X1_12 rfl rfl rfl ?_
  refine m_cV0 X dX1_tareStep_4 lk_X1_65 mk_X4_isCalm in_X4_isCalm se_X4_isCalm rfl rfl (c_X4_isCalm) rfl (Nat.le_of_ble_eq_true rfl) (Nat.le_of_ble_eq_true rfl) (Nat.le_of_ble_eq_true rfl) (Nat.le_of_ble_eq_true rfl) (Nat.le_of_ble_eq_true rfl) rfl ?_
  refine m_if_eq (tgt := 59) X dX1_tareStep_7 (by decide) rfl (fun b7 => ?_) (fun b7 => ?_)
  · exact m_vret X dX1_tareStep_59 rfl (by unfold sTare; try (first | rw [if_pos b7] | rw [if_neg b7] | rw [if_neg (not_not_intro b7)]); try rfl) (Nat.le_of_ble_eq_true rfl) (Nat.le_of_ble_eq_true rfl) rfl
  · refine m_aload_n X dX1_tareStep_10 rfl rfl ?_
    refine m_getf X dX1_tareStep_11 fl_X1_12 rfl rfl rfl ?_
    refine m_aload_n X dX1_tareStep_14 rfl rfl ?_
    refine m_getf X dX1_tareStep_15 fl_X1_12 rfl rfl rfl ?_
    refine m_cV0 X dX1_tareStep_18 lk_X1_98 mk_X4_grossNow in_X4_grossNow se_X4_grossNow rfl rfl (c_X4_grossNow) rfl (Nat.le_of_ble_eq_true rfl) (Nat.le_of_ble_eq_true rfl) (Nat.le_of_ble_eq_true rfl) (Nat.le_of_ble_eq_true rfl) (Nat.le_of_ble_eq_true rfl) rfl ?_
    refine m_piC 1 X dX1_tareStep_21 fl_X1_101 fp_X4_1 rfl rfl rfl rfl ?_
    refine m_aload_n X dX1_tareStep_24 rfl rfl ?_
    refine m_iconst (v := 1) X dX1_tareStep_25 (by decide) rfl ?_
    refine m_pzC 18 X dX1_tareStep_26 fl_X1_91 fp_X1_12 (by decide) rfl rfl rfl rfl ?_
    refine m_aload_n X dX1_tareStep_29 rfl rfl ?_
    refine m_aload_n X dX1_tareStep_30 rfl rfl ?_
    refine m_cV0 X dX1_tareStep_31 lk_X1_104 mk_X1_target in_X1_target se_X1_target rfl rfl (c_X1_target h1) rfl (Nat.le_of_ble_eq_true rfl) (Nat.le_of_ble_eq_true rfl) (Nat.le_of_ble_eq_true rfl) (Nat.le_of_ble_eq_true rfl) (Nat.le_of_ble_eq_true rfl) rfl ?_
    refine m_aload_n X dX1_tareStep_34 rfl rfl ?_
    refine m_getf X dX1_tareStep_35 fl_X1_21 rfl rfl rfl ?_
    refine m_getf X dX1_tareStep_38 fl_X1_107 rfl rfl rfl ?_
    refine m_aload_n X dX1_tareStep_41 rfl rfl ?_
    refine m_cV0 X dX1_tareStep_42 lk_X1_75 mk_X1_stepBin in_X1_stepBin se_X1_stepBin rfl rfl (c_X1_stepBin h1) rfl (Nat.le_of_ble_eq_true rfl) (Nat.le_of_ble_eq_true rfl) (Nat.le_of_ble_eq_true rfl) (Nat.le_of_ble_eq_true rfl) (Nat.le_of_ble_eq_true rfl) rfl ?_
    refine m_cS2 X dX1_tareStep_45 lk_X1_111 mk_X5_at st_X5_at (c_X5_at rfl (by decide) h2) rfl (Nat.le_of_ble_eq_true rfl) (Nat.le_of_ble_eq_true rfl) (Nat.le_of_ble_eq_true rfl) (Nat.le_of_ble_eq_true rfl) (Nat.le_of_ble_eq_true rfl) rfl ?_
    refine m_icmp_le (tgt := 55) X dX1_tareStep_48 (by decide) rfl (fun b48 => ?_) (fun b48 => ?_)
    · replace b48 : stgt v a ≤ a 0 (sbin v a).toNatClampNeg := b48
      refine m_iconst (v := 3) X dX1_tareStep_55 (by decide) rfl ?_
      refine m_cV1 X dX1_tareStep_56 lk_X1_72 mk_X1_enter in_X1_enter se_X1_enter rfl rfl (c_X1_enter) rfl (Nat.le_of_ble_eq_true rfl) (Nat.le_of_ble_eq_true rfl) (Nat.le_of_ble_eq_true rfl) (Nat.le_of_ble_eq_true rfl) (Nat.le_of_ble_eq_true rfl) rfl ?_
      exact m_vret X dX1_tareStep_59 rfl (by unfold sTare; try (first | rw [if_pos b7] | rw [if_neg b7] | rw [if_neg (not_not_intro b7)]); try (first | rw [if_pos b48] | rw [if_neg b48] | rw [if_neg (not_not_intro b48)]); try rfl) (Nat.le_of_ble_eq_true rfl) (Nat.le_of_ble_eq_true rfl) rfl
    · replace b48 : ¬(stgt v a ≤ a 0 (sbin v a).toNatClampNeg) := b48
      refine m_iconst (v := 2) X dX1_tareStep_51 (by decide) rfl ?_
      refine m_goto (tgt := 56) X dX1_tareStep_52 (by decide) rfl ?_
      refine m_cV1 X dX1_tareStep_56 lk_X1_72 mk_X1_enter in_X1_enter se_X1_enter rfl rfl (c_X1_enter) rfl (Nat.le_of_ble_eq_true rfl) (Nat.le_of_ble_eq_true rfl) (Nat.le_of_ble_eq_true rfl) (Nat.le_of_ble_eq_true rfl) (Nat.le_of_ble_eq_true rfl) rfl ?_
      exact m_vret X dX1_tareStep_59 rfl (by unfold sTare; try (first | rw [if_pos b7] | rw [if_neg b7] | rw [if_neg (not_not_intro b7)]); try (first | rw [if_pos b48] | rw [if_neg b48] | rw [if_neg (not_not_intro b48)]); try rfl) (Nat.le_of_ble_eq_true rfl) (Nat.le_of_ble_eq_true rfl) rfl
theorem c_X1_feed {v : m_V} {a : m_R} {x : Int64} {t : m_H} (h1 : vp_in (v 15) 6) (h2 : vp_in (sbin v a) 4) : m_Ctr M_X1_feed [.ref 1] (hC v a x t) (.inl (none, hC (sFeed v a) a x t)) := by
  refine m_intro (by decide +kernel) (Nat.le_of_ble_eq_true rfl) (fun X => ?_)
  refine m_aload_n X dX1_feed_0 rfl rfl ?_
  refine m_getf X dX1_feed_1 fl_X1_12 rfl rfl rfl ?_
  refine m_cV0 X dX1_feed_4 lk_X1_115 mk_X4_netNow in_X4_netNow se_X4_netNow rfl rfl (c_X4_netNow) rfl (Nat.le_of_ble_eq_true rfl) (Nat.le_of_ble_eq_true rfl) (Nat.le_of_ble_eq_true rfl) (Nat.le_of_ble_eq_true rfl) (Nat.le_of_ble_eq_true rfl) rfl ?_
  refine m_istore_n X dX1_feed_7 (Nat.le_of_ble_eq_true rfl) rfl ?_
  refine m_iload_n X dX1_feed_8 rfl rfl ?_
  refine m_aload_n X dX1_feed_9 rfl rfl ?_
  refine m_getf (v := .int (v 17)) X dX1_feed_10 fl_X1_118 rfl rfl rfl ?_
  refine m_icmp_le (tgt := 29) X dX1_feed_13 (by decide) rfl (fun b13 => ?_) (fun b13 => ?_)
  · have e13 : sIdle v = upd v 14 (v 14 + 1) := by unfold sIdle; rw [if_pos b13]
    refine m_aload_n X dX1_feed_29 rfl rfl ?_
    refine m_dup X dX1_feed_30 rfl rfl ?_
    refine m_getf (v := .int (v 14)) X dX1_feed_31 fl_X1_88 rfl rfl rfl ?_
    refine m_iconst (v := 1) X dX1_feed_34 (by decide) rfl ?_
    refine m_iadd X dX1_feed_35 rfl ?_
    refine m_piC 14 X dX1_feed_36 fl_X1_88 fp_X1_8 rfl rfl rfl rfl ?_
    refine m_aload_n X dX1_feed_39 rfl rfl ?_
    refine m_getf (v := .int (v 10)) X dX1_feed_40 fl_X1_39 rfl rfl rfl ?_
    refine m_iconst (v := 2) X dX1_feed_43 (by decide) rfl ?_
    refine m_icmp_ne (tgt := 57) X dX1_feed_44 (by decide) rfl (fun b44 => ?_) (fun b44 => ?_)
    · replace b44 : ¬ v 10 = 2 := b44
      have e44 : sAhead v a = a 1 (sbin v a).toNatClampNeg := by unfold sAhead; rw [if_pos b44]
      refine m_aload_n X dX1_feed_57 rfl rfl ?_
      refine m_getf X dX1_feed_58 fl_X1_21 rfl rfl rfl ?_
      refine m_getf X dX1_feed_61 fl_X1_121 rfl rfl rfl ?_
      refine m_astore_n X dX1_feed_64 (Nat.le_of_ble_eq_true rfl) rfl ?_
      refine m_iload_n X dX1_feed_65 rfl rfl ?_
      refine m_aload_n X dX1_feed_66 rfl rfl ?_
      refine m_cV0 X dX1_feed_67 lk_X1_104 mk_X1_target in_X1_target se_X1_target rfl rfl (c_X1_target h1) rfl (Nat.le_of_ble_eq_true rfl) (Nat.le_of_ble_eq_true rfl) (Nat.le_of_ble_eq_true rfl) (Nat.le_of_ble_eq_true rfl) (Nat.le_of_ble_eq_true rfl) rfl ?_
      refine m_aload_n X dX1_feed_70 rfl rfl ?_
      refine m_aload_n X dX1_feed_71 rfl rfl ?_
      refine m_cV0 X dX1_feed_72 lk_X1_75 mk_X1_stepBin in_X1_stepBin se_X1_stepBin rfl rfl (c_X1_stepBin h1) rfl (Nat.le_of_ble_eq_true rfl) (Nat.le_of_ble_eq_true rfl) (Nat.le_of_ble_eq_true rfl) (Nat.le_of_ble_eq_true rfl) (Nat.le_of_ble_eq_true rfl) rfl ?_
      refine m_cS2 X dX1_feed_75 lk_X1_111 mk_X5_at st_X5_at (c_X5_at rfl (by decide) h2) rfl (Nat.le_of_ble_eq_true rfl) (Nat.le_of_ble_eq_true rfl) (Nat.le_of_ble_eq_true rfl) (Nat.le_of_ble_eq_true rfl) (Nat.le_of_ble_eq_true rfl) rfl ?_
      refine m_isub X dX1_feed_78 rfl ?_
      refine m_icmp_lt (tgt := 102) X dX1_feed_79 (by decide) rfl (fun b79 => ?_) (fun b79 => ?_)
      · replace b79 : net v < stgt v a - sAhead v a := by rw [e44]; exact b79
        refine m_aload_n X dX1_feed_102 rfl rfl ?_
        refine m_getf X dX1_feed_103 fl_X1_88 rfl rfl rfl ?_
        refine m_bipush (v := (20)) X dX1_feed_106 (by decide) rfl ?_
        refine m_icmp_lt (tgt := 116) X dX1_feed_108 (by decide) rfl (fun b108 => ?_) (fun b108 => ?_)
        · exact m_vret X dX1_feed_116 rfl (by unfold sFeed; rw [e13, if_pos b79, if_pos b108]) (Nat.le_of_ble_eq_true rfl) (Nat.le_of_ble_eq_true rfl) rfl
        · refine m_aload_n X dX1_feed_111 rfl rfl ?_
          refine m_iconst (v := 3) X dX1_feed_112 (by decide) rfl ?_
          refine m_cV1 X dX1_feed_113 lk_X1_124 mk_X1_halt in_X1_halt se_X1_halt rfl rfl (c_X1_halt) rfl (Nat.le_of_ble_eq_true rfl) (Nat.le_of_ble_eq_true rfl) (Nat.le_of_ble_eq_true rfl) (Nat.le_of_ble_eq_true rfl) (Nat.le_of_ble_eq_true rfl) rfl ?_
          exact m_vret X dX1_feed_116 rfl (by unfold sFeed; rw [e13, if_pos b79, if_neg b108]) (Nat.le_of_ble_eq_true rfl) (Nat.le_of_ble_eq_true rfl) rfl
      · replace b79 : ¬ net v < stgt v a - sAhead v a := by rw [e44]; exact b79
        refine m_aload_n X dX1_feed_82 rfl rfl ?_
        refine m_aload_n X dX1_feed_83 rfl rfl ?_
        refine m_getf (v := .int (v 10)) X dX1_feed_84 fl_X1_39 rfl rfl rfl ?_
        refine m_iconst (v := 2) X dX1_feed_87 (by decide) rfl ?_
        refine m_icmp_ne (tgt := 95) X dX1_feed_88 (by decide) rfl (fun b88 => ?_) (fun b88 => ?_)
        · replace b88 : ¬ v 10 = 2 := b88
          refine m_iconst (v := 4) X dX1_feed_95 (by decide) rfl ?_
          refine m_cV1 X dX1_feed_96 lk_X1_72 mk_X1_enter in_X1_enter se_X1_enter rfl rfl (c_X1_enter) rfl (Nat.le_of_ble_eq_true rfl) (Nat.le_of_ble_eq_true rfl) (Nat.le_of_ble_eq_true rfl) (Nat.le_of_ble_eq_true rfl) (Nat.le_of_ble_eq_true rfl) rfl ?_
          refine m_goto (tgt := 116) X dX1_feed_99 (by decide) rfl ?_
          exact m_vret X dX1_feed_116 rfl (by unfold sFeed; rw [e13, if_neg b79, if_pos b88]) (Nat.le_of_ble_eq_true rfl) (Nat.le_of_ble_eq_true rfl) rfl
        · replace b88 : v 10 = 2 := b88
          refine m_iconst (v := 3) X dX1_feed_91 (by decide) rfl ?_
          refine m_goto (tgt := 96) X dX1_feed_92 (by decide) rfl ?_
          refine m_cV1 X dX1_feed_96 lk_X1_72 mk_X1_enter in_X1_enter se_X1_enter rfl rfl (c_X1_enter) rfl (Nat.le_of_ble_eq_true rfl) (Nat.le_of_ble_eq_true rfl) (Nat.le_of_ble_eq_true rfl) (Nat.le_of_ble_eq_true rfl) (Nat.le_of_ble_eq_true rfl) rfl ?_
          refine m_goto (tgt := 116) X dX1_feed_99 (by decide) rfl ?_
          exact m_vret X dX1_feed_116 rfl (by unfold sFeed; rw [e13, if_neg b79, if_neg (not_not_intro b88)]) (Nat.le_of_ble_eq_true rfl) (Nat.le_of_ble_eq_true rfl) rfl
    · replace b44 : v 10 = 2 := b44
      have e44 : sAhead v a = a 0 (sbin v a).toNatClampNeg := by unfold sAhead; rw [if_neg (not_not_intro b44)]
      refine m_aload_n X dX1_feed_47 rfl rfl ?_
      refine m_getf X dX1_feed_48 fl_X1_21 rfl rfl rfl ?_
      refine m_getf X dX1_feed_51 fl_X1_107 rfl rfl rfl ?_
      refine m_goto (tgt := 64) X dX1_feed_54 (by decide) rfl ?_
      refine m_astore_n X dX1_feed_64 (Nat.le_of_ble_eq_true rfl) rfl ?_
      refine m_iload_n X dX1_feed_65 rfl rfl ?_
      refine m_aload_n X dX1_feed_66 rfl rfl ?_
      refine m_cV0 X dX1_feed_67 lk_X1_104 mk_X1_target in_X1_target se_X1_target rfl rfl (c_X1_target h1) rfl (Nat.le_of_ble_eq_true rfl) (Nat.le_of_ble_eq_true rfl) (Nat.le_of_ble_eq_true rfl) (Nat.le_of_ble_eq_true rfl) (Nat.le_of_ble_eq_true rfl) rfl ?_
      refine m_aload_n X dX1_feed_70 rfl rfl ?_
      refine m_aload_n X dX1_feed_71 rfl rfl ?_
      refine m_cV0 X dX1_feed_72 lk_X1_75 mk_X1_stepBin in_X1_stepBin se_X1_stepBin rfl rfl (c_X1_stepBin h1) rfl (Nat.le_of_ble_eq_true rfl) (Nat.le_of_ble_eq_true rfl) (Nat.le_of_ble_eq_true rfl) (Nat.le_of_ble_eq_true rfl) (Nat.le_of_ble_eq_true rfl) rfl ?_
      refine m_cS2 X dX1_feed_75 lk_X1_111 mk_X5_at st_X5_at (c_X5_at rfl (by decide) h2) rfl (Nat.le_of_ble_eq_true rfl) (Nat.le_of_ble_eq_true rfl) (Nat.le_of_ble_eq_true rfl) (Nat.le_of_ble_eq_true rfl) (Nat.le_of_ble_eq_true rfl) rfl ?_
      refine m_isub X dX1_feed_78 rfl ?_
      refine m_icmp_lt (tgt := 102) X dX1_feed_79 (by decide) rfl (fun b79 => ?_) (fun b79 => ?_)
      · replace b79 : net v < stgt v a - sAhead v a := by rw [e44]; exact b79
        refine m_aload_n X dX1_feed_102 rfl rfl ?_
        refine m_getf X dX1_feed_103 fl_X1_88 rfl rfl rfl ?_
        refine m_bipush (v := (20)) X dX1_feed_106 (by decide) rfl ?_
        refine m_icmp_lt (tgt := 116) X dX1_feed_108 (by decide) rfl (fun b108 => ?_) (fun b108 => ?_)
        · exact m_vret X dX1_feed_116 rfl (by unfold sFeed; rw [e13, if_pos b79, if_pos b108]) (Nat.le_of_ble_eq_true rfl) (Nat.le_of_ble_eq_true rfl) rfl
        · refine m_aload_n X dX1_feed_111 rfl rfl ?_
          refine m_iconst (v := 3) X dX1_feed_112 (by decide) rfl ?_
          refine m_cV1 X dX1_feed_113 lk_X1_124 mk_X1_halt in_X1_halt se_X1_halt rfl rfl (c_X1_halt) rfl (Nat.le_of_ble_eq_true rfl) (Nat.le_of_ble_eq_true rfl) (Nat.le_of_ble_eq_true rfl) (Nat.le_of_ble_eq_true rfl) (Nat.le_of_ble_eq_true rfl) rfl ?_
          exact m_vret X dX1_feed_116 rfl (by unfold sFeed; rw [e13, if_pos b79, if_neg b108]) (Nat.le_of_ble_eq_true rfl) (Nat.le_of_ble_eq_true rfl) rfl
      · replace b79 : ¬ net v < stgt v a - sAhead v a := by rw [e44]; exact b79
        refine m_aload_n X dX1_feed_82 rfl rfl ?_
        refine m_aload_n X dX1_feed_83 rfl rfl ?_
        refine m_getf (v := .int (v 10)) X dX1_feed_84 fl_X1_39 rfl rfl rfl ?_
        refine m_iconst (v := 2) X dX1_feed_87 (by decide) rfl ?_
        refine m_icmp_ne (tgt := 95) X dX1_feed_88 (by decide) rfl (fun b88 => ?_) (fun b88 => ?_)
        · replace b88 : ¬ v 10 = 2 := b88
          refine m_iconst (v := 4) X dX1_feed_95 (by decide) rfl ?_
          refine m_cV1 X dX1_feed_96 lk_X1_72 mk_X1_enter in_X1_enter se_X1_enter rfl rfl (c_X1_enter) rfl (Nat.le_of_ble_eq_true rfl) (Nat.le_of_ble_eq_true rfl) (Nat.le_of_ble_eq_true rfl) (Nat.le_of_ble_eq_true rfl) (Nat.le_of_ble_eq_true rfl) rfl ?_
          refine m_goto (tgt := 116) X dX1_feed_99 (by decide) rfl ?_
          exact m_vret X dX1_feed_116 rfl (by unfold sFeed; rw [e13, if_neg b79, if_pos b88]) (Nat.le_of_ble_eq_true rfl) (Nat.le_of_ble_eq_true rfl) rfl
        · replace b88 : v 10 = 2 := b88
          refine m_iconst (v := 3) X dX1_feed_91 (by decide) rfl ?_
          refine m_goto (tgt := 96) X dX1_feed_92 (by decide) rfl ?_
          refine m_cV1 X dX1_feed_96 lk_X1_72 mk_X1_enter in_X1_enter se_X1_enter rfl rfl (c_X1_enter) rfl (Nat.le_of_ble_eq_true rfl) (Nat.le_of_ble_eq_true rfl) (Nat.le_of_ble_eq_true rfl) (Nat.le_of_ble_eq_true rfl) (Nat.le_of_ble_eq_true rfl) rfl ?_
          refine m_goto (tgt := 116) X dX1_feed_99 (by decide) rfl ?_
          exact m_vret X dX1_feed_116 rfl (by unfold sFeed; rw [e13, if_neg b79, if_neg (not_not_intro b88)]) (Nat.le_of_ble_eq_true rfl) (Nat.le_of_ble_eq_true rfl) rfl
  · have e13 : sIdle v = upd (upd v 17 (net v)) 14 0 := by unfold sIdle; rw [if_neg b13]
    refine m_aload_n X dX1_feed_16 rfl rfl ?_
    refine m_iload_n X dX1_feed_17 rfl rfl ?_
    refine m_piC 17 X dX1_feed_18 fl_X1_118 fp_X1_11 rfl rfl rfl rfl ?_
    refine m_aload_n X dX1_feed_21 rfl rfl ?_
    refine m_iconst (v := 0) X dX1_feed_22 (by decide) rfl ?_
    refine m_piC 14 X dX1_feed_23 fl_X1_88 fp_X1_8 rfl rfl rfl rfl ?_
    refine m_goto (tgt := 39) X dX1_feed_26 (by decide) rfl ?_
    refine m_aload_n X dX1_feed_39 rfl rfl ?_
    refine m_getf (v := .int (v 10)) X dX1_feed_40 fl_X1_39 rfl rfl rfl ?_
    refine m_iconst (v := 2) X dX1_feed_43 (by decide) rfl ?_
    refine m_icmp_ne (tgt := 57) X dX1_feed_44 (by decide) rfl (fun b44 => ?_) (fun b44 => ?_)
    · replace b44 : ¬ v 10 = 2 := b44
      have e44 : sAhead v a = a 1 (sbin v a).toNatClampNeg := by unfold sAhead; rw [if_pos b44]
      refine m_aload_n X dX1_feed_57 rfl rfl ?_
      refine m_getf X dX1_feed_58 fl_X1_21 rfl rfl rfl ?_
      refine m_getf X dX1_feed_61 fl_X1_121 rfl rfl rfl ?_
      refine m_astore_n X dX1_feed_64 (Nat.le_of_ble_eq_true rfl) rfl ?_
      refine m_iload_n X dX1_feed_65 rfl rfl ?_
      refine m_aload_n X dX1_feed_66 rfl rfl ?_
      refine m_cV0 X dX1_feed_67 lk_X1_104 mk_X1_target in_X1_target se_X1_target rfl rfl (c_X1_target h1) rfl (Nat.le_of_ble_eq_true rfl) (Nat.le_of_ble_eq_true rfl) (Nat.le_of_ble_eq_true rfl) (Nat.le_of_ble_eq_true rfl) (Nat.le_of_ble_eq_true rfl) rfl ?_
      refine m_aload_n X dX1_feed_70 rfl rfl ?_
      refine m_aload_n X dX1_feed_71 rfl rfl ?_
      refine m_cV0 X dX1_feed_72 lk_X1_75 mk_X1_stepBin in_X1_stepBin se_X1_stepBin rfl rfl (c_X1_stepBin h1) rfl (Nat.le_of_ble_eq_true rfl) (Nat.le_of_ble_eq_true rfl) (Nat.le_of_ble_eq_true rfl) (Nat.le_of_ble_eq_true rfl) (Nat.le_of_ble_eq_true rfl) rfl ?_
      refine m_cS2 X dX1_feed_75 lk_X1_111 mk_X5_at st_X5_at (c_X5_at rfl (by decide) h2) rfl (Nat.le_of_ble_eq_true rfl) (Nat.le_of_ble_eq_true rfl) (Nat.le_of_ble_eq_true rfl) (Nat.le_of_ble_eq_true rfl) (Nat.le_of_ble_eq_true rfl) rfl ?_
      refine m_isub X dX1_feed_78 rfl ?_
      refine m_icmp_lt (tgt := 102) X dX1_feed_79 (by decide) rfl (fun b79 => ?_) (fun b79 => ?_)
      · replace b79 : net v < stgt v a - sAhead v a := by rw [e44]; exact b79
        refine m_aload_n X dX1_feed_102 rfl rfl ?_
        refine m_getf X dX1_feed_103 fl_X1_88 rfl rfl rfl ?_
        refine m_bipush (v := (20)) X dX1_feed_106 (by decide) rfl ?_
        refine m_icmp_lt (tgt := 116) X dX1_feed_108 (by decide) rfl (fun b108 => ?_) (fun b108 => ?_)
        · exact m_vret X dX1_feed_116 rfl (by unfold sFeed; rw [e13, if_pos b79, if_pos b108]) (Nat.le_of_ble_eq_true rfl) (Nat.le_of_ble_eq_true rfl) rfl
        · refine m_aload_n X dX1_feed_111 rfl rfl ?_
          refine m_iconst (v := 3) X dX1_feed_112 (by decide) rfl ?_
          refine m_cV1 X dX1_feed_113 lk_X1_124 mk_X1_halt in_X1_halt se_X1_halt rfl rfl (c_X1_halt) rfl (Nat.le_of_ble_eq_true rfl) (Nat.le_of_ble_eq_true rfl) (Nat.le_of_ble_eq_true rfl) (Nat.le_of_ble_eq_true rfl) (Nat.le_of_ble_eq_true rfl) rfl ?_
          exact m_vret X dX1_feed_116 rfl (by unfold sFeed; rw [e13, if_pos b79, if_neg b108]) (Nat.le_of_ble_eq_true rfl) (Nat.le_of_ble_eq_true rfl) rfl
      · replace b79 : ¬ net v < stgt v a - sAhead v a := by rw [e44]; exact b79
        refine m_aload_n X dX1_feed_82 rfl rfl ?_
        refine m_aload_n X dX1_feed_83 rfl rfl ?_
        refine m_getf (v := .int (v 10)) X dX1_feed_84 fl_X1_39 rfl rfl rfl ?_
        refine m_iconst (v := 2) X dX1_feed_87 (by decide) rfl ?_
        refine m_icmp_ne (tgt := 95) X dX1_feed_88 (by decide) rfl (fun b88 => ?_) (fun b88 => ?_)
        · replace b88 : ¬ v 10 = 2 := b88
          refine m_iconst (v := 4) X dX1_feed_95 (by decide) rfl ?_
          refine m_cV1 X dX1_feed_96 lk_X1_72 mk_X1_enter in_X1_enter se_X1_enter rfl rfl (c_X1_enter) rfl (Nat.le_of_ble_eq_true rfl) (Nat.le_of_ble_eq_true rfl) (Nat.le_of_ble_eq_true rfl) (Nat.le_of_ble_eq_true rfl) (Nat.le_of_ble_eq_true rfl) rfl ?_
          refine m_goto (tgt := 116) X dX1_feed_99 (by decide) rfl ?_
          exact m_vret X dX1_feed_116 rfl (by unfold sFeed; rw [e13, if_neg b79, if_pos b88]) (Nat.le_of_ble_eq_true rfl) (Nat.le_of_ble_eq_true rfl) rfl
        · replace b88 : v 10 = 2 := b88
          refine m_iconst (v := 3) X dX1_feed_91 (by decide) rfl ?_
          refine m_goto (tgt := 96) X dX1_feed_92 (by decide) rfl ?_
          refine m_cV1 X dX1_feed_96 lk_X1_72 mk_X1_enter in_X1_enter se_X1_enter rfl rfl (c_X1_enter) rfl (Nat.le_of_ble_eq_true rfl) (Nat.le_of_ble_eq_true rfl) (Nat.le_of_ble_eq_true rfl) (Nat.le_of_ble_eq_true rfl) (Nat.le_of_ble_eq_true rfl) rfl ?_
          refine m_goto (tgt := 116) X dX1_feed_99 (by decide) rfl ?_
          exact m_vret X dX1_feed_116 rfl (by unfold sFeed; rw [e13, if_neg b79, if_neg (not_not_intro b88)]) (Nat.le_of_ble_eq_true rfl) (Nat.le_of_ble_eq_true rfl) rfl
    · replace b44 : v 10 = 2 := b44
      have e44 : sAhead v a = a 0 (sbin v a).toNatClampNeg := by unfold sAhead; rw [if_neg (not_not_intro b44)]
      refine m_aload_n X dX1_feed_47 rfl rfl ?_
      refine m_getf X dX1_feed_48 fl_X1_21 rfl rfl rfl ?_
      refine m_getf X dX1_feed_51 fl_X1_107 rfl rfl rfl ?_
      refine m_goto (tgt := 64) X dX1_feed_54 (by decide) rfl ?_
      refine m_astore_n X dX1_feed_64 (Nat.le_of_ble_eq_true rfl) rfl ?_
      refine m_iload_n X dX1_feed_65 rfl rfl ?_
      refine m_aload_n X dX1_feed_66 rfl rfl ?_
      refine m_cV0 X dX1_feed_67 lk_X1_104 mk_X1_target in_X1_target se_X1_target rfl rfl (c_X1_target h1) rfl (Nat.le_of_ble_eq_true rfl) (Nat.le_of_ble_eq_true rfl) (Nat.le_of_ble_eq_true rfl) (Nat.le_of_ble_eq_true rfl) (Nat.le_of_ble_eq_true rfl) rfl ?_
      refine m_aload_n X dX1_feed_70 rfl rfl ?_
      refine m_aload_n X dX1_feed_71 rfl rfl ?_
      refine m_cV0 X dX1_feed_72 lk_X1_75 mk_X1_stepBin in_X1_stepBin se_X1_stepBin rfl rfl (c_X1_stepBin h1) rfl (Nat.le_of_ble_eq_true rfl) (Nat.le_of_ble_eq_true rfl) (Nat.le_of_ble_eq_true rfl) (Nat.le_of_ble_eq_true rfl) (Nat.le_of_ble_eq_true rfl) rfl ?_
      refine m_cS2 X dX1_feed_75 lk_X1_111 mk_X5_at st_X5_at (c_X5_at rfl (by decide) h2) rfl (Nat.le_of_ble_eq_true rfl) (Nat.le_of_ble_eq_true rfl) (Nat.le_of_ble_eq_true rfl) (Nat.le_of_ble_eq_true rfl) (Nat.le_of_ble_eq_true rfl) rfl ?_
      refine m_isub X dX1_feed_78 rfl ?_
      refine m_icmp_lt (tgt := 102) X dX1_feed_79 (by decide) rfl (fun b79 => ?_) (fun b79 => ?_)
      · replace b79 : net v < stgt v a - sAhead v a := by rw [e44]; exact b79
        refine m_aload_n X dX1_feed_102 rfl rfl ?_
        refine m_getf X dX1_feed_103 fl_X1_88 rfl rfl rfl ?_
        refine m_bipush (v := (20)) X dX1_feed_106 (by decide) rfl ?_
        refine m_icmp_lt (tgt := 116) X dX1_feed_108 (by decide) rfl (fun b108 => ?_) (fun b108 => ?_)
        · exact m_vret X dX1_feed_116 rfl (by unfold sFeed; rw [e13, if_pos b79, if_pos b108]) (Nat.le_of_ble_eq_true rfl) (Nat.le_of_ble_eq_true rfl) rfl
        · refine m_aload_n X dX1_feed_111 rfl rfl ?_
          refine m_iconst (v := 3) X dX1_feed_112 (by decide) rfl ?_
          refine m_cV1 X dX1_feed_113 lk_X1_124 mk_X1_halt in_X1_halt se_X1_halt rfl rfl (c_X1_halt) rfl (Nat.le_of_ble_eq_true rfl) (Nat.le_of_ble_eq_true rfl) (Nat.le_of_ble_eq_true rfl) (Nat.le_of_ble_eq_true rfl) (Nat.le_of_ble_eq_true rfl) rfl ?_
          exact m_vret X dX1_feed_116 rfl (by unfold sFeed; rw [e13, if_pos b79, if_neg b108]) (Nat.le_of_ble_eq_true rfl) (Nat.le_of_ble_eq_true rfl) rfl
      · replace b79 : ¬ net v < stgt v a - sAhead v a := by rw [e44]; exact b79
        refine m_aload_n X dX1_feed_82 rfl rfl ?_
        refine m_aload_n X dX1_feed_83 rfl rfl ?_
        refine m_getf (v := .int (v 10)) X dX1_feed_84 fl_X1_39 rfl rfl rfl ?_
        refine m_iconst (v := 2) X dX1_feed_87 (by decide) rfl ?_
        refine m_icmp_ne (tgt := 95) X dX1_feed_88 (by decide) rfl (fun b88 => ?_) (fun b88 => ?_)
        · replace b88 : ¬ v 10 = 2 := b88
          refine m_iconst (v := 4) X dX1_feed_95 (by decide) rfl ?_
          refine m_cV1 X dX1_feed_96 lk_X1_72 mk_X1_enter in_X1_enter se_X1_enter rfl rfl (c_X1_enter) rfl (Nat.le_of_ble_eq_true rfl) (Nat.le_of_ble_eq_true rfl) (Nat.le_of_ble_eq_true rfl) (Nat.le_of_ble_eq_true rfl) (Nat.le_of_ble_eq_true rfl) rfl ?_
          refine m_goto (tgt := 116) X dX1_feed_99 (by decide) rfl ?_
          exact m_vret X dX1_feed_116 rfl (by unfold sFeed; rw [e13, if_neg b79, if_pos b88]) (Nat.le_of_ble_eq_true rfl) (Nat.le_of_ble_eq_true rfl) rfl
        · replace b88 : v 10 = 2 := b88
          refine m_iconst (v := 3) X dX1_feed_91 (by decide) rfl ?_
          refine m_goto (tgt := 96) X dX1_feed_92 (by decide) rfl ?_
          refine m_cV1 X dX1_feed_96 lk_X1_72 mk_X1_enter in_X1_enter se_X1_enter rfl rfl (c_X1_enter) rfl (Nat.le_of_ble_eq_true rfl) (Nat.le_of_ble_eq_true rfl) (Nat.le_of_ble_eq_true rfl) (Nat.le_of_ble_eq_true rfl) (Nat.le_of_ble_eq_true rfl) rfl ?_
          refine m_goto (tgt := 116) X dX1_feed_99 (by decide) rfl ?_
          exact m_vret X dX1_feed_116 rfl (by unfold sFeed; rw [e13, if_neg b79, if_neg (not_not_intro b88)]) (Nat.le_of_ble_eq_true rfl) (Nat.le_of_ble_eq_true rfl) rfl
theorem c_X1_gateOf {v : m_V} {a : m_R} {x : Int64} {t : m_H} {b : Int32} (h1 : vp_in (v 15) 6) : m_Ctr M_X1_gateOf [.ref 1, .int b] (hC v a x t) (.inl (some (.int (sGate v a b)), hC v a x t)) := by
  refine m_intro (by decide +kernel) (Nat.le_of_ble_eq_true rfl) (fun X => ?_)
  refine m_aload_n X dX1_gateOf_0 rfl rfl ?_
  refine m_cV0 X dX1_gateOf_1 lk_X1_75 mk_X1_stepBin in_X1_stepBin se_X1_stepBin rfl rfl (c_X1_stepBin h1) rfl (Nat.le_of_ble_eq_true rfl) (Nat.le_of_ble_eq_true rfl) (Nat.le_of_ble_eq_true rfl) (Nat.le_of_ble_eq_true rfl) (Nat.le_of_ble_eq_true rfl) rfl ?_
  refine m_iload_n X dX1_gateOf_4 rfl rfl ?_
  refine m_icmp_eq (tgt := 10) X dX1_gateOf_5 (by decide) rfl (fun b5 => ?_) (fun b5 => ?_)
  · refine m_aload_n X dX1_gateOf_10 rfl rfl ?_
    refine m_getf (v := .int (v 10)) X dX1_gateOf_11 fl_X1_39 rfl rfl rfl ?_
    refine m_iconst (v := 2) X dX1_gateOf_14 (by decide) rfl ?_
    refine m_icmp_ne (tgt := 20) X dX1_gateOf_15 (by decide) rfl (fun b15 => ?_) (fun b15 => ?_)
    · refine m_aload_n X dX1_gateOf_20 rfl rfl ?_
      refine m_getf (v := .int (v 10)) X dX1_gateOf_21 fl_X1_39 rfl rfl rfl ?_
      refine m_iconst (v := 3) X dX1_gateOf_24 (by decide) rfl ?_
      refine m_icmp_eq (tgt := 36) X dX1_gateOf_25 (by decide) rfl (fun b25 => ?_) (fun b25 => ?_)
      · refine m_iconst (v := 1) X dX1_gateOf_36 (by decide) rfl ?_
        refine m_goto (tgt := 41) X dX1_gateOf_37 (by decide) rfl ?_
        exact m_iret X dX1_gateOf_41 rfl (by unfold sGate; try (first | rw [if_pos b5] | rw [if_neg b5] | rw [if_neg (not_not_intro b5)]); try (first | rw [if_pos b15] | rw [if_neg b15] | rw [if_neg (not_not_intro b15)]); try (first | rw [if_pos b25] | rw [if_neg b25] | rw [if_neg (not_not_intro b25)]); try rfl) (Nat.le_of_ble_eq_true rfl) (Nat.le_of_ble_eq_true rfl) rfl
      · refine m_aload_n X dX1_gateOf_28 rfl rfl ?_
        refine m_getf (v := .int (v 10)) X dX1_gateOf_29 fl_X1_39 rfl rfl rfl ?_
        refine m_iconst (v := 5) X dX1_gateOf_32 (by decide) rfl ?_
        refine m_icmp_ne (tgt := 40) X dX1_gateOf_33 (by decide) rfl (fun b33 => ?_) (fun b33 => ?_)
        · refine m_iconst (v := 0) X dX1_gateOf_40 (by decide) rfl ?_
          exact m_iret X dX1_gateOf_41 rfl (by unfold sGate; try (first | rw [if_pos b5] | rw [if_neg b5] | rw [if_neg (not_not_intro b5)]); try (first | rw [if_pos b15] | rw [if_neg b15] | rw [if_neg (not_not_intro b15)]); try (first | rw [if_pos b25] | rw [if_neg b25] | rw [if_neg (not_not_intro b25)]); try (first | rw [if_pos b33] | rw [if_neg b33] | rw [if_neg (not_not_intro b33)]); try rfl) (Nat.le_of_ble_eq_true rfl) (Nat.le_of_ble_eq_true rfl) rfl
        · refine m_iconst (v := 1) X dX1_gateOf_36 (by decide) rfl ?_
          refine m_goto (tgt := 41) X dX1_gateOf_37 (by decide) rfl ?_
          exact m_iret X dX1_gateOf_41 rfl (by unfold sGate; try (first | rw [if_pos b5] | rw [if_neg b5] | rw [if_neg (not_not_intro b5)]); try (first | rw [if_pos b15] | rw [if_neg b15] | rw [if_neg (not_not_intro b15)]); try (first | rw [if_pos b25] | rw [if_neg b25] | rw [if_neg (not_not_intro b25)]); try (first | rw [if_pos b33] | rw [if_neg b33] | rw [if_neg (not_not_intro b33)]); try rfl) (Nat.le_of_ble_eq_true rfl) (Nat.le_of_ble_eq_true rfl) rfl
    · refine m_iconst (v := 2) X dX1_gateOf_18 (by decide) rfl ?_
      exact m_iret X dX1_gateOf_19 rfl (by unfold sGate; try (first | rw [if_pos b5] | rw [if_neg b5] | rw [if_neg (not_not_intro b5)]); try (first | rw [if_pos b15] | rw [if_neg b15] | rw [if_neg (not_not_intro b15)]); try rfl) (Nat.le_of_ble_eq_true rfl) (Nat.le_of_ble_eq_true rfl) rfl
  · refine m_iconst (v := 0) X dX1_gateOf_8 (by decide) rfl ?_
    exact m_iret X dX1_gateOf_9 rfl (by unfold sGate; try (first | rw [if_pos b5] | rw [if_neg b5] | rw [if_neg (not_not_intro b5)]); try rfl) (Nat.le_of_ble_eq_true rfl) (Nat.le_of_ble_eq_true rfl) rfl
end MK

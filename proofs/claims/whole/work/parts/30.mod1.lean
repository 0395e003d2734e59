section MN
theorem i_rsub (x y : Int32) : x - (x - y) = y := by grind
theorem i_subneg (x y : Int32) : x - y = x + -y := by grind
theorem i_place (i c : Int32) : 20 * i + c - 1 = i * 20 + (c - 1) := by grind
theorem m_upd0 {f : Nat → Int32} {k : Nat} : upd f k (f k - 0) = f := funext fun j => by unfold upd; by_cases h : j = k <;> simp [h]
theorem m_upd1 {f : Nat → Int32} {k : Nat} : upd f k (f k + 0) = f := funext fun j => by unfold upd; by_cases h : j = k <;> simp [h]
theorem m_upd2 {f : Nat → Int32} {k : Nat} : upd f k (f k) = f := funext fun j => by unfold upd; by_cases h : j = k <;> simp [h]
theorem clampF_eq (x : Int32) : clampF x = if 0 ≤ x then (if x ≤ 500 then x else 500) else 0 := by
  have e5 : (500 : Int32).toInt = 500 := by decide
  have e0 : (0 : Int32).toInt = 0 := by decide
  unfold clampF mx2 mn2
  by_cases h1 : x < 500
  · rw [if_pos h1]
    by_cases h2 : 0 < x
    · rw [if_pos h2, if_pos (i_nlt.mp (fun q => by rw [i_lt] at q h2; omega)), if_pos (i_nlt.mp (fun q => by rw [i_lt] at q h1; omega))]
    · rw [if_neg h2]
      by_cases h3 : 0 ≤ x
      · have : x = 0 := Int32.toInt_inj.mp (by rw [i_lt] at h2; rw [i_le] at h3; omega)
        rw [if_pos h3, this]; decide
      · rw [if_neg h3]
  · rw [if_neg h1, if_pos (by decide)]
    rw [if_pos (by rw [i_le]; rw [i_lt] at h1; omega)]
    by_cases h4 : x ≤ 500
    · rw [if_pos h4]; exact (Int32.toInt_inj.mp (by rw [i_le] at h4; rw [i_lt] at h1; omega)).symm
    · rw [if_neg h4]
theorem amt_eq (n : Int32) : mx2 0 n = if 0 ≤ n then n else 0 := by
  unfold mx2
  by_cases h : 0 < n
  · rw [if_pos h, if_pos (by rw [i_le]; rw [i_lt] at h; omega)]
  · rw [if_neg h]
    by_cases h2 : 0 ≤ n
    · rw [if_pos h2]; exact Int32.toInt_inj.mp (by rw [i_le] at h2; rw [i_lt] at h; omega)
    · rw [if_neg h2]
theorem amt_pos (n : Int32) : 0 ≤ mx2 0 n := by
  rw [amt_eq]; by_cases h : 0 ≤ n
  · rw [if_pos h]; exact h
  · rw [if_neg h]; decide
theorem c_X6_thrown {v w : m_V} {a b : m_R} {x z : Int64} {lq : Int32} {t : m_H}  : m_Ctr M_X6_thrown [.ref 17] (hL v a x w b z lq t) (.inl (some (.int lq), hL v a x w b z lq t)) := by
  refine m_intro (by decide +kernel) (Nat.le_of_ble_eq_true rfl) (fun X => ?_)
  refine m_aload_n X dX6_thrown_0 rfl rfl ?_
  refine m_getf X dX6_thrown_1 fl_X6_53 rfl rfl rfl ?_
  exact m_iret X dX6_thrown_4 rfl (rfl) (Nat.le_of_ble_eq_true rfl) (Nat.le_of_ble_eq_true rfl) rfl
theorem c_X6_goes0 {v w : m_V} {a b : m_R} {x z : Int64} {lq : Int32} {t : m_H} {f9 s9 t9 : Int32} (hf : ¬ f9 = 0) (hs : ¬ s9 = 0) (ht : ¬ t9 = 0) : m_Ctr M_X6_goes [.ref 17, .int f9, .int s9, .int t9] (hL v a x w b z lq t) (.inl (some (.int 1), hL v a x w b z 0 t)) := by
  refine m_intro (by decide +kernel) (Nat.le_of_ble_eq_true rfl) (fun X => ?_)
  refine m_aload_n X dX6_goes_0 rfl rfl ?_
  refine m_iload_n X dX6_goes_1 rfl rfl ?_
  refine m_if_ne (tgt := 9) X dX6_goes_2 (by decide) rfl (fun b2 => ?_) (fun b2 => absurd b2 (hf))
  refine m_iload_n X dX6_goes_9 rfl rfl ?_
  refine m_if_ne (tgt := 17) X dX6_goes_10 (by decide) rfl (fun b10 => ?_) (fun b10 => absurd b10 (hs))
  refine m_iload_n X dX6_goes_17 rfl rfl ?_
  refine m_if_eq (tgt := 25) X dX6_goes_18 (by decide) rfl (fun b18 => absurd b18 (ht)) (fun b18 => ?_)
  refine m_iconst (v := 0) X dX6_goes_21 (by decide) rfl ?_
  refine m_goto (tgt := 26) X dX6_goes_22 (by decide) rfl ?_
  refine m_pqM X dX6_goes_26 fl_X6_53 fp_X6_33 rfl rfl rfl rfl ?_
  refine m_aload_n X dX6_goes_29 rfl rfl ?_
  refine m_getf X dX6_goes_30 fl_X6_53 rfl rfl rfl ?_
  refine m_if_ne (tgt := 40) X dX6_goes_33 (by decide) rfl (fun b33 => absurd b33 (not_not_intro rfl)) (fun b33 => ?_)
  refine m_iconst (v := 1) X dX6_goes_36 (by decide) rfl ?_
  refine m_goto (tgt := 41) X dX6_goes_37 (by decide) rfl ?_
  exact m_zret X dX6_goes_41 rfl (by decide) (rfl) (Nat.le_of_ble_eq_true rfl) (Nat.le_of_ble_eq_true rfl) rfl
theorem c_X6_goes1 {v w : m_V} {a b : m_R} {x z : Int64} {lq : Int32} {t : m_H} {f9 s9 t9 : Int32} (hf : f9 = 0) : m_Ctr M_X6_goes [.ref 17, .int f9, .int s9, .int t9] (hL v a x w b z lq t) (.inl (some (.int 0), hL v a x w b z 1 t)) := by
  refine m_intro (by decide +kernel) (Nat.le_of_ble_eq_true rfl) (fun X => ?_)
  refine m_aload_n X dX6_goes_0 rfl rfl ?_
  refine m_iload_n X dX6_goes_1 rfl rfl ?_
  refine m_if_ne (tgt := 9) X dX6_goes_2 (by decide) rfl (fun b2 => absurd b2 (not_not_intro hf)) (fun b2 => ?_)
  refine m_iconst (v := 1) X dX6_goes_5 (by decide) rfl ?_
  refine m_goto (tgt := 26) X dX6_goes_6 (by decide) rfl ?_
  refine m_pqM X dX6_goes_26 fl_X6_53 fp_X6_33 rfl rfl rfl rfl ?_
  refine m_aload_n X dX6_goes_29 rfl rfl ?_
  refine m_getf X dX6_goes_30 fl_X6_53 rfl rfl rfl ?_
  refine m_if_ne (tgt := 40) X dX6_goes_33 (by decide) rfl (fun b33 => ?_) (fun b33 => absurd b33 (by decide))
  refine m_iconst (v := 0) X dX6_goes_40 (by decide) rfl ?_
  exact m_zret X dX6_goes_41 rfl (by decide) (rfl) (Nat.le_of_ble_eq_true rfl) (Nat.le_of_ble_eq_true rfl) rfl
theorem c_X6_goes2 {v w : m_V} {a b : m_R} {x z : Int64} {lq : Int32} {t : m_H} {f9 s9 t9 : Int32} (hf : ¬ f9 = 0) (hs : s9 = 0) : m_Ctr M_X6_goes [.ref 17, .int f9, .int s9, .int t9] (hL v a x w b z lq t) (.inl (some (.int 0), hL v a x w b z 2 t)) := by
  refine m_intro (by decide +kernel) (Nat.le_of_ble_eq_true rfl) (fun X => ?_)
  refine m_aload_n X dX6_goes_0 rfl rfl ?_
  refine m_iload_n X dX6_goes_1 rfl rfl ?_
  refine m_if_ne (tgt := 9) X dX6_goes_2 (by decide) rfl (fun b2 => ?_) (fun b2 => absurd b2 (hf))
  refine m_iload_n X dX6_goes_9 rfl rfl ?_
  refine m_if_ne (tgt := 17) X dX6_goes_10 (by decide) rfl (fun b10 => absurd b10 (not_not_intro hs)) (fun b10 => ?_)
  refine m_iconst (v := 2) X dX6_goes_13 (by decide) rfl ?_
  refine m_goto (tgt := 26) X dX6_goes_14 (by decide) rfl ?_
  refine m_pqM X dX6_goes_26 fl_X6_53 fp_X6_33 rfl rfl rfl rfl ?_
  refine m_aload_n X dX6_goes_29 rfl rfl ?_
  refine m_getf X dX6_goes_30 fl_X6_53 rfl rfl rfl ?_
  refine m_if_ne (tgt := 40) X dX6_goes_33 (by decide) rfl (fun b33 => ?_) (fun b33 => absurd b33 (by decide))
  refine m_iconst (v := 0) X dX6_goes_40 (by decide) rfl ?_
  exact m_zret X dX6_goes_41 rfl (by decide) (rfl) (Nat.le_of_ble_eq_true rfl) (Nat.le_of_ble_eq_true rfl) rfl
theorem c_X6_goes3 {v w : m_V} {a b : m_R} {x z : Int64} {lq : Int32} {t : m_H} {f9 s9 t9 : Int32} (hf : ¬ f9 = 0) (hs : ¬ s9 = 0) (ht : t9 = 0) : m_Ctr M_X6_goes [.ref 17, .int f9, .int s9, .int t9] (hL v a x w b z lq t) (.inl (some (.int 0), hL v a x w b z 3 t)) := by
  refine m_intro (by decide +kernel) (Nat.le_of_ble_eq_true rfl) (fun X => ?_)
  refine m_aload_n X dX6_goes_0 rfl rfl ?_
  refine m_iload_n X dX6_goes_1 rfl rfl ?_
  refine m_if_ne (tgt := 9) X dX6_goes_2 (by decide) rfl (fun b2 => ?_) (fun b2 => absurd b2 (hf))
  refine m_iload_n X dX6_goes_9 rfl rfl ?_
  refine m_if_ne (tgt := 17) X dX6_goes_10 (by decide) rfl (fun b10 => ?_) (fun b10 => absurd b10 (hs))
  refine m_iload_n X dX6_goes_17 rfl rfl ?_
  refine m_if_eq (tgt := 25) X dX6_goes_18 (by decide) rfl (fun b18 => ?_) (fun b18 => absurd b18 (not_not_intro ht))
  refine m_iconst (v := 3) X dX6_goes_25 (by decide) rfl ?_
  refine m_pqM X dX6_goes_26 fl_X6_53 fp_X6_33 rfl rfl rfl rfl ?_
  refine m_aload_n X dX6_goes_29 rfl rfl ?_
  refine m_getf X dX6_goes_30 fl_X6_53 rfl rfl rfl ?_
  refine m_if_ne (tgt := 40) X dX6_goes_33 (by decide) rfl (fun b33 => ?_) (fun b33 => absurd b33 (by decide))
  refine m_iconst (v := 0) X dX6_goes_40 (by decide) rfl ?_
  exact m_zret X dX6_goes_41 rfl (by decide) (rfl) (Nat.le_of_ble_eq_true rfl) (Nat.le_of_ble_eq_true rfl) rfl
theorem c_X6_isBin {h : m_H} {b : Int32} : m_Ctr M_X6_isBin [.int b] h (.inl (some (.int (bi (0 ≤ b ∧ b ≤ 3))), h)) := by
  refine m_intro (by decide +kernel) (Nat.le_of_ble_eq_true rfl) (fun X => ?_)
  refine m_iload_n X dX6_isBin_0 rfl rfl ?_
  refine m_iconst (v := 0) X dX6_isBin_1 (by decide) rfl ?_
  refine m_iconst (v := 3) X dX6_isBin_2 (by decide) rfl ?_
  refine m_cS3 X dX6_isBin_3 lk_X6_56 mk_X6_in st_X6_in (c_X6_in) rfl (Nat.le_of_ble_eq_true rfl) (Nat.le_of_ble_eq_true rfl) (Nat.le_of_ble_eq_true rfl) (Nat.le_of_ble_eq_true rfl) (Nat.le_of_ble_eq_true rfl) rfl ?_
  exact m_zret X dX6_isBin_6 rfl (bi_nar) (rfl) (Nat.le_of_ble_eq_true rfl) (Nat.le_of_ble_eq_true rfl) rfl
theorem c_X6_isLot {v w : m_V} {a b : m_R} {x z : Int64} {lq : Int32} {t : m_H} {i : Int32} : m_Ctr M_X6_isLot [.ref 17, .int i] (hL v a x w b z lq t) (.inl (some (.int (bi (0 ≤ i ∧ i ≤ w 8 - 1))), hL v a x w b z lq t)) := by
  refine m_intro (by decide +kernel) (Nat.le_of_ble_eq_true rfl) (fun X => ?_)
  refine m_iload_n X dX6_isLot_0 rfl rfl ?_
  refine m_iconst (v := 0) X dX6_isLot_1 (by decide) rfl ?_
  refine m_aload_n X dX6_isLot_2 rfl rfl ?_
  refine m_getf (v := .int (w 8)) X dX6_isLot_3 fl_X6_60 rfl rfl rfl ?_
  refine m_iconst (v := 1) X dX6_isLot_6 (by decide) rfl ?_
  refine m_isub X dX6_isLot_7 rfl ?_
  refine m_cS3 X dX6_isLot_8 lk_X6_56 mk_X6_in st_X6_in (c_X6_in) rfl (Nat.le_of_ble_eq_true rfl) (Nat.le_of_ble_eq_true rfl) (Nat.le_of_ble_eq_true rfl) (Nat.le_of_ble_eq_true rfl) (Nat.le_of_ble_eq_true rfl) rfl ?_
  exact m_zret X dX6_isLot_11 rfl (bi_nar) (rfl) (Nat.le_of_ble_eq_true rfl) (Nat.le_of_ble_eq_true rfl) rfl
theorem c_X6_grossNow {v w : m_V} {a b : m_R} {x z : Int64} {lq : Int32} {t : m_H}  : m_Ctr M_X6_grossNow [.ref 17] (hL v a x w b z lq t) (.inl (some (.int (gross w)), hL v a x w b z lq t)) := by
  refine m_intro (by decide +kernel) (Nat.le_of_ble_eq_true rfl) (fun X => ?_)
  refine m_aload_n X dX6_grossNow_0 rfl rfl ?_
  refine m_getf (v := .int (w 4)) X dX6_grossNow_1 fl_X6_66 rfl rfl rfl ?_
  refine m_aload_n X dX6_grossNow_4 rfl rfl ?_
  refine m_getf (v := .int (w 0)) X dX6_grossNow_5 fl_X6_69 rfl rfl rfl ?_
  refine m_isub X dX6_grossNow_8 rfl ?_
  exact m_iret X dX6_grossNow_9 rfl (rfl) (Nat.le_of_ble_eq_true rfl) (Nat.le_of_ble_eq_true rfl) rfl
theorem c_X6_netNow {v w : m_V} {a b : m_R} {x z : Int64} {lq : Int32} {t : m_H}  : m_Ctr M_X6_netNow [.ref 17] (hL v a x w b z lq t) (.inl (some (.int (net w)), hL v a x w b z lq t)) := by
  refine m_intro (by decide +kernel) (Nat.le_of_ble_eq_true rfl) (fun X => ?_)
  refine m_aload_n X dX6_netNow_0 rfl rfl ?_
  refine m_cV0 X dX6_netNow_1 lk_X6_72 mk_X6_grossNow in_X6_grossNow se_X6_grossNow rfl rfl (c_X6_grossNow) rfl (Nat.le_of_ble_eq_true rfl) (Nat.le_of_ble_eq_true rfl) (Nat.le_of_ble_eq_true rfl) (Nat.le_of_ble_eq_true rfl) (Nat.le_of_ble_eq_true rfl) rfl ?_
  refine m_aload_n X dX6_netNow_4 rfl rfl ?_
  refine m_getf (v := .int (w 1)) X dX6_netNow_5 fl_X6_76 rfl rfl rfl ?_
  refine m_isub X dX6_netNow_8 rfl ?_
  exact m_iret X dX6_netNow_9 rfl (rfl) (Nat.le_of_ble_eq_true rfl) (Nat.le_of_ble_eq_true rfl) rfl
theorem c_X6_becomes {v w : m_V} {a b : m_R} {x z : Int64} {lq : Int32} {t : m_H} {n : Int32} : m_Ctr M_X6_becomes [.ref 17, .int n] (hL v a x w b z lq t) (.inl (none, hL v a x (upd (upd w 10 n) 22 0) b z lq t)) := by
  refine m_intro (by decide +kernel) (Nat.le_of_ble_eq_true rfl) (fun X => ?_)
  refine m_aload_n X dX6_becomes_0 rfl rfl ?_
  refine m_iload_n X dX6_becomes_1 rfl rfl ?_
  refine m_piM 10 X dX6_becomes_2 fl_X6_79 fp_X6_20 rfl rfl rfl rfl ?_
  refine m_aload_n X dX6_becomes_5 rfl rfl ?_
  refine m_iconst (v := 0) X dX6_becomes_6 (by decide) rfl ?_
  refine m_piM 22 X dX6_becomes_7 fl_X6_82 fp_X6_24 rfl rfl rfl rfl ?_
  exact m_vret X dX6_becomes_10 rfl (rfl) (Nat.le_of_ble_eq_true rfl) (Nat.le_of_ble_eq_true rfl) rfl
/-- without an alarm, the model's change of state is the whole one -/
theorem hL_al {v w : m_V} {a b : m_R} {x z : Int64} {lq : Int32} {t : m_H} (h : w 11 = 0) {n : Int32} : hL v a x (upd (upd w 10 n) 22 0) b z lq t = hL v a x (sEnter w n) b z lq t := by
  have e : hL v a x (upd (upd (upd w 11 (w 11)) 10 n) 22 0) b z lq t = hL v a x (upd (upd w 10 n) 22 0) b z lq t := rfl
  rw [← e, h]
  rfl
theorem c_X6_becomesE {v w : m_V} {a b : m_R} {x z : Int64} {lq : Int32} {t : m_H} {n : Int32} (h11 : w 11 = 0) : m_Ctr M_X6_becomes [.ref 17, .int n] (hL v a x w b z lq t) (.inl (none, hL v a x (sEnter w n) b z lq t)) := by
  rw [← hL_al h11]
  exact c_X6_becomes
theorem c_X6_holds {v w : m_V} {a b : m_R} {x z : Int64} {lq : Int32} {t : m_H} {n : Int32} : m_Ctr M_X6_holds [.ref 17, .int n] (hL v a x w b z lq t) (.inl (none, hL v a x (sHalt w n) b z lq t)) := by
  refine m_intro (by decide +kernel) (Nat.le_of_ble_eq_true rfl) (fun X => ?_)
  refine m_aload_n X dX6_holds_0 rfl rfl ?_
  refine m_aload_n X dX6_holds_1 rfl rfl ?_
  refine m_getf (v := .int (w 10)) X dX6_holds_2 fl_X6_79 rfl rfl rfl ?_
  refine m_piM 12 X dX6_holds_5 fl_X6_85 fp_X6_22 rfl rfl rfl rfl ?_
  refine m_aload_n X dX6_holds_8 rfl rfl ?_
  refine m_iload_n X dX6_holds_9 rfl rfl ?_
  refine m_piM 11 X dX6_holds_10 fl_X6_88 fp_X6_21 rfl rfl rfl rfl ?_
  refine m_aload_n X dX6_holds_13 rfl rfl ?_
  refine m_bipush (v := (6)) X dX6_holds_14 (by decide) rfl ?_
  refine m_cV1 X dX6_holds_16 lk_X6_91 mk_X6_becomes in_X6_becomes se_X6_becomes rfl rfl (c_X6_becomes) rfl (Nat.le_of_ble_eq_true rfl) (Nat.le_of_ble_eq_true rfl) (Nat.le_of_ble_eq_true rfl) (Nat.le_of_ble_eq_true rfl) (Nat.le_of_ble_eq_true rfl) rfl ?_
  exact m_vret X dX6_holds_19 rfl (rfl) (Nat.le_of_ble_eq_true rfl) (Nat.le_of_ble_eq_true rfl) rfl
theorem c_X6_begins {v w : m_V} {a b : m_R} {x z : Int64} {lq : Int32} {t : m_H} {n : Int32} : m_Ctr M_X6_begins [.ref 17, .int n] (hL v a x w b z lq t) (.inl (none, hL v a x (sBegin w n) b z lq t)) := by
  refine m_intro (by decide +kernel) (Nat.le_of_ble_eq_true rfl) (fun X => ?_)
  refine m_aload_n X dX6_begins_0 rfl rfl ?_
  refine m_iload_n X dX6_begins_1 rfl rfl ?_
  refine m_piM 15 X dX6_begins_2 fl_X6_99 fp_X6_23 rfl rfl rfl rfl ?_
  refine m_aload_n X dX6_begins_5 rfl rfl ?_
  refine m_iconst (v := 0) X dX6_begins_6 (by decide) rfl ?_
  refine m_piM 16 X dX6_begins_7 fl_X6_113 fp_X6_26 rfl rfl rfl rfl ?_
  refine m_aload_n X dX6_begins_10 rfl rfl ?_
  refine m_iconst (v := 0) X dX6_begins_11 (by decide) rfl ?_
  refine m_piM 14 X dX6_begins_12 fl_X6_131 fp_X6_25 rfl rfl rfl rfl ?_
  refine m_aload_n X dX6_begins_15 rfl rfl ?_
  refine m_iconst (v := 0) X dX6_begins_16 (by decide) rfl ?_
  refine m_piM 17 X dX6_begins_17 fl_X6_128 fp_X6_27 rfl rfl rfl rfl ?_
  refine m_aload_n X dX6_begins_20 rfl rfl ?_
  refine m_iconst (v := 0) X dX6_begins_21 (by decide) rfl ?_
  refine m_pzM 19 X dX6_begins_22 fl_X6_105 fp_X6_28 (by decide) rfl rfl rfl rfl ?_
  refine m_aload_n X dX6_begins_25 rfl rfl ?_
  refine m_iconst (v := 0) X dX6_begins_26 (by decide) rfl ?_
  refine m_pzM 18 X dX6_begins_27 fl_X6_122 fp_X6_29 (by decide) rfl rfl rfl rfl ?_
  refine m_aload_n X dX6_begins_30 rfl rfl ?_
  refine m_iconst (v := 0) X dX6_begins_31 (by decide) rfl ?_
  refine m_piM 11 X dX6_begins_32 fl_X6_88 fp_X6_21 rfl rfl rfl rfl ?_
  refine m_aload_n X dX6_begins_35 rfl rfl ?_
  refine m_iconst (v := 1) X dX6_begins_36 (by decide) rfl ?_
  refine m_cV1 X dX6_begins_37 lk_X6_91 mk_X6_becomes in_X6_becomes se_X6_becomes rfl rfl (c_X6_becomes) rfl (Nat.le_of_ble_eq_true rfl) (Nat.le_of_ble_eq_true rfl) (Nat.le_of_ble_eq_true rfl) (Nat.le_of_ble_eq_true rfl) (Nat.le_of_ble_eq_true rfl) rfl ?_
  exact m_vret X dX6_begins_40 rfl (rfl) (Nat.le_of_ble_eq_true rfl) (Nat.le_of_ble_eq_true rfl) rfl
def dn4 (x : Int32) : Int32 := if x < 0 then -((4 - 1 - x) / 4) else x / 4
theorem c_X6_down {h : m_H} {x : Int32} : m_Ctr M_X6_down [.int x, .int 4] h (.inl (some (.int (dn4 x)), h)) := by
  refine m_intro (by decide +kernel) (Nat.le_of_ble_eq_true rfl) (fun X => ?_)
  refine m_iload_n X dX6_down_0 rfl rfl ?_
  refine m_if_lt (tgt := 10) X dX6_down_1 (by decide) rfl (fun b1 => ?_) (fun b1 => ?_)
  · refine m_iload_n X dX6_down_10 rfl rfl ?_
    refine m_iconst (v := 1) X dX6_down_11 (by decide) rfl ?_
    refine m_isub X dX6_down_12 rfl ?_
    refine m_iload_n X dX6_down_13 rfl rfl ?_
    refine m_isub X dX6_down_14 rfl ?_
    refine m_iload_n X dX6_down_15 rfl rfl ?_
    refine m_idiv X dX6_down_16 (by decide) rfl ?_
    refine m_ineg X dX6_down_17 rfl ?_
    exact m_iret X dX6_down_18 rfl (by unfold dn4; try (first | rw [if_pos b1] | rw [if_neg b1] | rw [if_neg (not_not_intro b1)]); try rfl) (Nat.le_of_ble_eq_true rfl) (Nat.le_of_ble_eq_true rfl) rfl
  · refine m_iload_n X dX6_down_4 rfl rfl ?_
    refine m_iload_n X dX6_down_5 rfl rfl ?_
    refine m_idiv X dX6_down_6 (by decide) rfl ?_
    refine m_goto (tgt := 18) X dX6_down_7 (by decide) rfl ?_
    exact m_iret X dX6_down_18 rfl (by unfold dn4; try (first | rw [if_pos b1] | rw [if_neg b1] | rw [if_neg (not_not_intro b1)]); try rfl) (Nat.le_of_ble_eq_true rfl) (Nat.le_of_ble_eq_true rfl) rfl
def lsM (f : Nat → Int32) : Nat → Int32
  | 0 => f 0
  | n + 1 => if lsM f n ≤ f (n + 1) then lsM f n else f (n + 1)
def msM (f : Nat → Int32) : Nat → Int32
  | 0 => f 0
  | n + 1 => if f (n + 1) ≤ msM f n then msM f n else f (n + 1)
/-- the model's four readings tell what the class's do -/
def rS (w : m_V) (b : m_R) : Prop := (w 23 < 4 ↔ w 3 < 4) ∧ msM (b 11) 3 = mx2 (mx2 (w 4) (w 5)) (mx2 (w 6) (w 7)) ∧ lsM (b 11) 3 = mn2 (mn2 (w 4) (w 5)) (mn2 (w 6) (w 7))
theorem c_X6_settles {v w : m_V} {a b : m_R} {x z : Int64} {lq : Int32} {t : m_H} (hr : rS w b) : m_Ctr M_X6_settles [.ref 17] (hL v a x w b z lq t) (.inl (some (.int (bi (calm w))), hL v a x w b z lq t)) := by
  refine m_intro (by decide +kernel) (Nat.le_of_ble_eq_true rfl) (fun {D cI cL sa A p l e s m args below meth c ad} X => ?_)
  obtain ⟨r1, r2, r3⟩ := hr
  have loop : ∀ k i, i + k = 3 → m_Go D cI cL ad ((hL v a x w b z lq t)).length (m_Ml M_X6_settles) A p l e (m_rm M_X6_settles) s m args below meth c (m_VQ D cI cL ad ((hL v a x w b z lq t)).length A (.inl (some (.int (bi (calm w))), hL v a x w b z lq t)) below args s (m_Mc M_X6_settles) (m_Ms M_X6_settles)) 16 [(3, .int (nI (i + 1))), (1, .int (lsM (b 11) i)), (2, .int (msM (b 11) i)), (0, .ref 17)] [] (hL v a x w b z lq t) 0 0 := by
    intro k
    induction k with
    | zero =>
      intro i hi
      have hi3 : i = 3 := by omega
      subst hi3
      refine m_iload_n X dX6_settles_16 rfl rfl ?_
      refine m_iconst (v := 4) X dX6_settles_17 (by decide) rfl ?_
      refine m_icmp_ge (tgt := 69) X dX6_settles_18 (by decide) rfl (fun b18 => ?_) (fun b18 => absurd b18 (not_not_intro (by decide)))
      refine m_aload_n X dX6_settles_69 rfl rfl ?_
      refine m_getf (v := .int (w 23)) X dX6_settles_70 fl_X6_63 rfl rfl rfl ?_
      refine m_iconst (v := 4) X dX6_settles_73 (by decide) rfl ?_
      refine m_icmp_lt (tgt := 91) X dX6_settles_74 (by decide) rfl (fun b74 => ?_) (fun b74 => ?_)
      · refine m_iconst (v := 0) X dX6_settles_91 (by decide) rfl ?_
        exact m_zret X dX6_settles_92 rfl (by decide) (by rw [bi_f (fun q => q.1 (r1.mp b74))]) (Nat.le_of_ble_eq_true rfl) (Nat.le_of_ble_eq_true rfl) rfl
      · refine m_iload_n X dX6_settles_77 rfl rfl ?_
        refine m_iload_n X dX6_settles_78 rfl rfl ?_
        refine m_isub X dX6_settles_79 rfl ?_
        refine m_aload_n X dX6_settles_80 rfl rfl ?_
        refine m_getf (v := .int (w 2)) X dX6_settles_81 fl_X6_13 rfl rfl rfl ?_
        refine m_icmp_gt (tgt := 91) X dX6_settles_84 (by decide) rfl (fun b84 => ?_) (fun b84 => ?_)
        · refine m_iconst (v := 0) X dX6_settles_91 (by decide) rfl ?_
          exact m_zret X dX6_settles_92 rfl (by decide) (by rw [bi_f (fun q => q.2 (by rw [← r2, ← r3]; exact b84))]) (Nat.le_of_ble_eq_true rfl) (Nat.le_of_ble_eq_true rfl) rfl
        · refine m_iconst (v := 1) X dX6_settles_87 (by decide) rfl ?_
          refine m_goto (tgt := 92) X dX6_settles_88 (by decide) rfl ?_
          exact m_zret X dX6_settles_92 rfl (by decide) (by rw [bi_t ⟨fun q => b74 (r1.mpr q), by rw [← r2, ← r3]; exact b84⟩]) (Nat.le_of_ble_eq_true rfl) (Nat.le_of_ble_eq_true rfl) rfl
    | succ k ih =>
      intro i hi
      have hlt : i < 3 := by omega
      have hin : vp_in (nI (i + 1)) 4 := vp_in_nI (by omega) (by omega)
      have ein : (nI (i + 1)).toNatClampNeg = i + 1 := nI_clamp (by omega)
      refine m_iload_n X dX6_settles_16 rfl rfl ?_
      refine m_iconst (v := 4) X dX6_settles_17 (by decide) rfl ?_
      refine m_icmp_ge (tgt := 69) X dX6_settles_18 (by decide) rfl (fun b18 => absurd b18 (nI_ge (b := 4) (by omega) (by omega))) (fun b18 => ?_)
      refine m_aload_n X dX6_settles_21 rfl rfl ?_
      refine m_getf X dX6_settles_22 fl_X6_7 rfl rfl rfl ?_
      refine m_iload_n X dX6_settles_25 rfl rfl ?_
      refine m_iald X dX6_settles_26 rfl (hin) rfl ?_
      refine m_iload_n X dX6_settles_27 rfl rfl ?_
      refine m_icmp_ge (tgt := 40) X dX6_settles_28 (by decide) rfl (fun b28 => ?_) (fun b28 => ?_)
      · have c28 : lsM (b 11) i ≤ b 11 (i + 1) := by rw [← ein]; exact b28
        refine m_iload_n X dX6_settles_40 rfl rfl ?_
        refine m_istore_n X dX6_settles_41 (Nat.le_of_ble_eq_true rfl) rfl ?_
        refine m_aload_n X dX6_settles_42 rfl rfl ?_
        refine m_getf X dX6_settles_43 fl_X6_7 rfl rfl rfl ?_
        refine m_iload_n X dX6_settles_46 rfl rfl ?_
        refine m_iald X dX6_settles_47 rfl (hin) rfl ?_
        refine m_iload_n X dX6_settles_48 rfl rfl ?_
        refine m_icmp_le (tgt := 61) X dX6_settles_49 (by decide) rfl (fun b49 => ?_) (fun b49 => ?_)
        · have c49 : b 11 (i + 1) ≤ msM (b 11) i := by rw [← ein]; exact b49
          refine m_iload_n X dX6_settles_61 rfl rfl ?_
          refine m_istore_n X dX6_settles_62 (Nat.le_of_ble_eq_true rfl) rfl ?_
          refine m_iinc X dX6_settles_63 rfl (Nat.le_of_ble_eq_true rfl) rfl ?_
          refine m_goto (tgt := 16) X dX6_settles_66 (by decide) rfl ?_
          refine m_lp (l1 := [(3, .int (nI ((i + 1) + 1))), (1, .int (lsM (b 11) (i + 1))), (2, .int (msM (b 11) (i + 1))), (0, .ref 17)]) [0, 2, 1, 3] (by show _ = [(3, Value.int (nI (i + 1 + 1))), (1, Value.int (if lsM (b 11) i ≤ b 11 (i + 1) then lsM (b 11) i else b 11 (i + 1))), (2, Value.int (if b 11 (i + 1) ≤ msM (b 11) i then msM (b 11) i else b 11 (i + 1))), (0, .ref 17)]; rw [if_pos c28, if_pos c49, nI_succ (i + 1)]; first | rfl | (rw [ein]; rfl)) ?_
          exact ih (i + 1) (by omega)
        · have c49 : ¬ b 11 (i + 1) ≤ msM (b 11) i := by rw [← ein]; exact b49
          refine m_aload_n X dX6_settles_52 rfl rfl ?_
          refine m_getf X dX6_settles_53 fl_X6_7 rfl rfl rfl ?_
          refine m_iload_n X dX6_settles_56 rfl rfl ?_
          refine m_iald X dX6_settles_57 rfl (hin) rfl ?_
          refine m_goto (tgt := 62) X dX6_settles_58 (by decide) rfl ?_
          refine m_istore_n X dX6_settles_62 (Nat.le_of_ble_eq_true rfl) rfl ?_
          refine m_iinc X dX6_settles_63 rfl (Nat.le_of_ble_eq_true rfl) rfl ?_
          refine m_goto (tgt := 16) X dX6_settles_66 (by decide) rfl ?_
          refine m_lp (l1 := [(3, .int (nI ((i + 1) + 1))), (1, .int (lsM (b 11) (i + 1))), (2, .int (msM (b 11) (i + 1))), (0, .ref 17)]) [0, 2, 1, 3] (by show _ = [(3, Value.int (nI (i + 1 + 1))), (1, Value.int (if lsM (b 11) i ≤ b 11 (i + 1) then lsM (b 11) i else b 11 (i + 1))), (2, Value.int (if b 11 (i + 1) ≤ msM (b 11) i then msM (b 11) i else b 11 (i + 1))), (0, .ref 17)]; rw [if_pos c28, if_neg c49, nI_succ (i + 1)]; first | rfl | (rw [ein]; rfl)) ?_
          exact ih (i + 1) (by omega)
      · have c28 : ¬ lsM (b 11) i ≤ b 11 (i + 1) := by rw [← ein]; exact b28
        refine m_aload_n X dX6_settles_31 rfl rfl ?_
        refine m_getf X dX6_settles_32 fl_X6_7 rfl rfl rfl ?_
        refine m_iload_n X dX6_settles_35 rfl rfl ?_
        refine m_iald X dX6_settles_36 rfl (hin) rfl ?_
        refine m_goto (tgt := 41) X dX6_settles_37 (by decide) rfl ?_
        refine m_istore_n X dX6_settles_41 (Nat.le_of_ble_eq_true rfl) rfl ?_
        refine m_aload_n X dX6_settles_42 rfl rfl ?_
        refine m_getf X dX6_settles_43 fl_X6_7 rfl rfl rfl ?_
        refine m_iload_n X dX6_settles_46 rfl rfl ?_
        refine m_iald X dX6_settles_47 rfl (hin) rfl ?_
        refine m_iload_n X dX6_settles_48 rfl rfl ?_
        refine m_icmp_le (tgt := 61) X dX6_settles_49 (by decide) rfl (fun b49 => ?_) (fun b49 => ?_)
        · have c49 : b 11 (i + 1) ≤ msM (b 11) i := by rw [← ein]; exact b49
          refine m_iload_n X dX6_settles_61 rfl rfl ?_
          refine m_istore_n X dX6_settles_62 (Nat.le_of_ble_eq_true rfl) rfl ?_
          refine m_iinc X dX6_settles_63 rfl (Nat.le_of_ble_eq_true rfl) rfl ?_
          refine m_goto (tgt := 16) X dX6_settles_66 (by decide) rfl ?_
          refine m_lp (l1 := [(3, .int (nI ((i + 1) + 1))), (1, .int (lsM (b 11) (i + 1))), (2, .int (msM (b 11) (i + 1))), (0, .ref 17)]) [0, 2, 1, 3] (by show _ = [(3, Value.int (nI (i + 1 + 1))), (1, Value.int (if lsM (b 11) i ≤ b 11 (i + 1) then lsM (b 11) i else b 11 (i + 1))), (2, Value.int (if b 11 (i + 1) ≤ msM (b 11) i then msM (b 11) i else b 11 (i + 1))), (0, .ref 17)]; rw [if_neg c28, if_pos c49, nI_succ (i + 1)]; first | rfl | (rw [ein]; rfl)) ?_
          exact ih (i + 1) (by omega)
        · have c49 : ¬ b 11 (i + 1) ≤ msM (b 11) i := by rw [← ein]; exact b49
          refine m_aload_n X dX6_settles_52 rfl rfl ?_
          refine m_getf X dX6_settles_53 fl_X6_7 rfl rfl rfl ?_
          refine m_iload_n X dX6_settles_56 rfl rfl ?_
          refine m_iald X dX6_settles_57 rfl (hin) rfl ?_
          refine m_goto (tgt := 62) X dX6_settles_58 (by decide) rfl ?_
          refine m_istore_n X dX6_settles_62 (Nat.le_of_ble_eq_true rfl) rfl ?_
          refine m_iinc X dX6_settles_63 rfl (Nat.le_of_ble_eq_true rfl) rfl ?_
          refine m_goto (tgt := 16) X dX6_settles_66 (by decide) rfl ?_
          refine m_lp (l1 := [(3, .int (nI ((i + 1) + 1))), (1, .int (lsM (b 11) (i + 1))), (2, .int (msM (b 11) (i + 1))), (0, .ref 17)]) [0, 2, 1, 3] (by show _ = [(3, Value.int (nI (i + 1 + 1))), (1, Value.int (if lsM (b 11) i ≤ b 11 (i + 1) then lsM (b 11) i else b 11 (i + 1))), (2, Value.int (if b 11 (i + 1) ≤ msM (b 11) i then msM (b 11) i else b 11 (i + 1))), (0, .ref 17)]; rw [if_neg c28, if_neg c49, nI_succ (i + 1)]; first | rfl | (rw [ein]; rfl)) ?_
          exact ih (i + 1) (by omega)
  refine m_aload_n X dX6_settles_0 rfl rfl ?_
  refine m_getf X dX6_settles_1 fl_X6_7 rfl rfl rfl ?_
  refine m_iconst (v := 0) X dX6_settles_4 (by decide) rfl ?_
  refine m_iald X dX6_settles_5 rfl (vp_in_nI (n := 0) (by omega) (by omega)) rfl ?_
  refine m_istore_n X dX6_settles_6 (Nat.le_of_ble_eq_true rfl) rfl ?_
  refine m_aload_n X dX6_settles_7 rfl rfl ?_
  refine m_getf X dX6_settles_8 fl_X6_7 rfl rfl rfl ?_
  refine m_iconst (v := 0) X dX6_settles_11 (by decide) rfl ?_
  refine m_iald X dX6_settles_12 rfl (vp_in_nI (n := 0) (by omega) (by omega)) rfl ?_
  refine m_istore_n X dX6_settles_13 (Nat.le_of_ble_eq_true rfl) rfl ?_
  refine m_iconst (v := 1) X dX6_settles_14 (by decide) rfl ?_
  refine m_istore_n X dX6_settles_15 (Nat.le_of_ble_eq_true rfl) rfl ?_
  refine m_lp (l1 := [(3, .int (nI (0 + 1))), (1, .int (lsM (b 11) 0)), (2, .int (msM (b 11) 0)), (0, .ref 17)]) [0, 2, 1, 3] rfl ?_
  exact loop 3 0 (by omega)
theorem tr_1 {w : m_V} (h : bi (calm w) = 0) : sTrack w = w := by
  unfold sTrack
  by_cases g0 : gross w = 0
  · rw [if_pos g0]
  · rw [if_neg g0]
    by_cases g1 : bi (-10 ≤ gross w ∧ gross w ≤ 10) = 0
    · rw [if_pos g1]
    · rw [if_neg g1, if_neg (not_not_intro h)]
theorem tr_2 {w : m_V} (h : bi (-10 ≤ gross w ∧ gross w ≤ 10) = 0) : sTrack w = w := by
  unfold sTrack
  by_cases g0 : gross w = 0
  · rw [if_pos g0]
  · rw [if_neg g0, if_pos h]
theorem tr_3 {w : m_V} (h : gross w = 0) : sTrack w = w := if_pos h
theorem tr_4 {w : m_V} (h0 : ¬ gross w = 0) (h1 : ¬ bi (-10 ≤ gross w ∧ gross w ≤ 10) = 0) (h2 : ¬ bi (calm w) = 0) : sTrack w = if bi (-500 ≤ sMoved w ∧ sMoved w ≤ 500) = 0 then w else upd w 0 (sMoved w) := by
  unfold sTrack
  rw [if_neg h0, if_neg h1, if_pos h2]
theorem c_X6_tracks {v w : m_V} {a b : m_R} {x z : Int64} {lq : Int32} {t : m_H} (hr : rS w b) : m_Ctr M_X6_tracks [.ref 17] (hL v a x w b z lq t) (.inl (none, hL v a x (sTrack w) b z lq t)) := by
  refine m_intro (by decide +kernel) (Nat.le_of_ble_eq_true rfl) (fun X => ?_)
  refine m_aload_n X dX6_tracks_0 rfl rfl ?_
  refine m_cV0 X dX6_tracks_1 lk_X6_72 mk_X6_grossNow in_X6_grossNow se_X6_grossNow rfl rfl (c_X6_grossNow) rfl (Nat.le_of_ble_eq_true rfl) (Nat.le_of_ble_eq_true rfl) (Nat.le_of_ble_eq_true rfl) (Nat.le_of_ble_eq_true rfl) (Nat.le_of_ble_eq_true rfl) rfl ?_
  refine m_istore_n X dX6_tracks_4 (Nat.le_of_ble_eq_true rfl) rfl ?_
  refine m_iload_n X dX6_tracks_5 rfl rfl ?_
  refine m_if_le (tgt := 18) X dX6_tracks_6 (by decide) rfl (fun b6 => ?_) (fun b6 => ?_)
  · have e6 : sMoved w = w 0 - 1 := by unfold sMoved; rw [if_pos b6]; exact (i_subneg _ _).symm
    refine m_aload_n X dX6_tracks_18 rfl rfl ?_
    refine m_getf (v := .int (w 0)) X dX6_tracks_19 fl_X6_69 rfl rfl rfl ?_
    refine m_iconst (v := 1) X dX6_tracks_22 (by decide) rfl ?_
    refine m_isub X dX6_tracks_23 rfl ?_
    refine m_istore_n X dX6_tracks_24 (Nat.le_of_ble_eq_true rfl) rfl ?_
    refine m_aload_n X dX6_tracks_25 rfl rfl ?_
    refine m_cV0 X dX6_tracks_26 lk_X6_95 mk_X6_settles in_X6_settles se_X6_settles rfl rfl (c_X6_settles hr) rfl (Nat.le_of_ble_eq_true rfl) (Nat.le_of_ble_eq_true rfl) (Nat.le_of_ble_eq_true rfl) (Nat.le_of_ble_eq_true rfl) (Nat.le_of_ble_eq_true rfl) rfl ?_
    refine m_if_eq (tgt := 65) X dX6_tracks_29 (by decide) rfl (fun b29 => ?_) (fun b29 => ?_)
    · exact m_vret X dX6_tracks_65 rfl (by rw [tr_1 b29]) (Nat.le_of_ble_eq_true rfl) (Nat.le_of_ble_eq_true rfl) rfl
    · refine m_iload_n X dX6_tracks_32 rfl rfl ?_
      refine m_bipush (v := (-10)) X dX6_tracks_33 (by decide) rfl ?_
      refine m_bipush (v := (10)) X dX6_tracks_35 (by decide) rfl ?_
      refine m_cS3 X dX6_tracks_37 lk_X6_56 mk_X6_in st_X6_in (c_X6_in) rfl (Nat.le_of_ble_eq_true rfl) (Nat.le_of_ble_eq_true rfl) (Nat.le_of_ble_eq_true rfl) (Nat.le_of_ble_eq_true rfl) (Nat.le_of_ble_eq_true rfl) rfl ?_
      refine m_if_eq (tgt := 65) X dX6_tracks_40 (by decide) rfl (fun b40 => ?_) (fun b40 => ?_)
      · exact m_vret X dX6_tracks_65 rfl (by rw [tr_2 b40]) (Nat.le_of_ble_eq_true rfl) (Nat.le_of_ble_eq_true rfl) rfl
      · refine m_iload_n X dX6_tracks_43 rfl rfl ?_
        refine m_if_eq (tgt := 65) X dX6_tracks_44 (by decide) rfl (fun b44 => ?_) (fun b44 => ?_)
        · exact m_vret X dX6_tracks_65 rfl (by rw [tr_3 b44]) (Nat.le_of_ble_eq_true rfl) (Nat.le_of_ble_eq_true rfl) rfl
        · refine m_iload_n X dX6_tracks_47 rfl rfl ?_
          refine m_sipush (v := (-500)) X dX6_tracks_48 (by decide) rfl ?_
          refine m_sipush (v := (500)) X dX6_tracks_51 (by decide) rfl ?_
          refine m_cS3 X dX6_tracks_54 lk_X6_56 mk_X6_in st_X6_in (c_X6_in) rfl (Nat.le_of_ble_eq_true rfl) (Nat.le_of_ble_eq_true rfl) (Nat.le_of_ble_eq_true rfl) (Nat.le_of_ble_eq_true rfl) (Nat.le_of_ble_eq_true rfl) rfl ?_
          refine m_if_eq (tgt := 65) X dX6_tracks_57 (by decide) rfl (fun b57 => ?_) (fun b57 => ?_)
          · exact m_vret X dX6_tracks_65 rfl (by rw [tr_4 b44 b40 b29, e6, if_pos b57]) (Nat.le_of_ble_eq_true rfl) (Nat.le_of_ble_eq_true rfl) rfl
          · refine m_aload_n X dX6_tracks_60 rfl rfl ?_
            refine m_iload_n X dX6_tracks_61 rfl rfl ?_
            refine m_piM 0 X dX6_tracks_62 fl_X6_69 fp_X6_3 rfl rfl rfl rfl ?_
            exact m_vret X dX6_tracks_65 rfl (by rw [tr_4 b44 b40 b29, e6, if_neg b57]) (Nat.le_of_ble_eq_true rfl) (Nat.le_of_ble_eq_true rfl) rfl
  · have e6 : sMoved w = w 0 + 1 := by unfold sMoved; rw [if_neg b6]
    refine m_aload_n X dX6_tracks_9 rfl rfl ?_
    refine m_getf (v := .int (w 0)) X dX6_tracks_10 fl_X6_69 rfl rfl rfl ?_
    refine m_iconst (v := 1) X dX6_tracks_13 (by decide) rfl ?_
    refine m_iadd X dX6_tracks_14 rfl ?_
    refine m_goto (tgt := 24) X dX6_tracks_15 (by decide) rfl ?_
    refine m_istore_n X dX6_tracks_24 (Nat.le_of_ble_eq_true rfl) rfl ?_
    refine m_aload_n X dX6_tracks_25 rfl rfl ?_
    refine m_cV0 X dX6_tracks_26 lk_X6_95 mk_X6_settles in_X6_settles se_X6_settles rfl rfl (c_X6_settles hr) rfl (Nat.le_of_ble_eq_true rfl) (Nat.le_of_ble_eq_true rfl) (Nat.le_of_ble_eq_true rfl) (Nat.le_of_ble_eq_true rfl) (Nat.le_of_ble_eq_true rfl) rfl ?_
    refine m_if_eq (tgt := 65) X dX6_tracks_29 (by decide) rfl (fun b29 => ?_) (fun b29 => ?_)
    · exact m_vret X dX6_tracks_65 rfl (by rw [tr_1 b29]) (Nat.le_of_ble_eq_true rfl) (Nat.le_of_ble_eq_true rfl) rfl
    · refine m_iload_n X dX6_tracks_32 rfl rfl ?_
      refine m_bipush (v := (-10)) X dX6_tracks_33 (by decide) rfl ?_
      refine m_bipush (v := (10)) X dX6_tracks_35 (by decide) rfl ?_
      refine m_cS3 X dX6_tracks_37 lk_X6_56 mk_X6_in st_X6_in (c_X6_in) rfl (Nat.le_of_ble_eq_true rfl) (Nat.le_of_ble_eq_true rfl) (Nat.le_of_ble_eq_true rfl) (Nat.le_of_ble_eq_true rfl) (Nat.le_of_ble_eq_true rfl) rfl ?_
      refine m_if_eq (tgt := 65) X dX6_tracks_40 (by decide) rfl (fun b40 => ?_) (fun b40 => ?_)
      · exact m_vret X dX6_tracks_65 rfl (by rw [tr_2 b40]) (Nat.le_of_ble_eq_true rfl) (Nat.le_of_ble_eq_true rfl) rfl
      · refine m_iload_n X dX6_tracks_43 rfl rfl ?_
        refine m_if_eq (tgt := 65) X dX6_tracks_44 (by decide) rfl (fun b44 => ?_) (fun b44 => ?_)
        · exact m_vret X dX6_tracks_65 rfl (by rw [tr_3 b44]) (Nat.le_of_ble_eq_true rfl) (Nat.le_of_ble_eq_true rfl) rfl
        · refine m_iload_n X dX6_tracks_47 rfl rfl ?_
          refine m_sipush (v := (-500)) X dX6_tracks_48 (by decide) rfl ?_
          refine m_sipush (v := (500)) X dX6_tracks_51 (by decide) rfl ?_
          refine m_cS3 X dX6_tracks_54 lk_X6_56 mk_X6_in st_X6_in (c_X6_in) rfl (Nat.le_of_ble_eq_true rfl) (Nat.le_of_ble_eq_true rfl) (Nat.le_of_ble_eq_true rfl) (Nat.le_of_ble_eq_true rfl) (Nat.le_of_ble_eq_true rfl) rfl ?_
          refine m_if_eq (tgt := 65) X dX6_tracks_57 (by decide) rfl (fun b57 => ?_) (fun b57 => ?_)
          · exact m_vret X dX6_tracks_65 rfl (by rw [tr_4 b44 b40 b29, e6, if_pos b57]) (Nat.le_of_ble_eq_true rfl) (Nat.le_of_ble_eq_true rfl) rfl
          · refine m_aload_n X dX6_tracks_60 rfl rfl ?_
            refine m_iload_n X dX6_tracks_61 rfl rfl ?_
            refine m_piM 0 X dX6_tracks_62 fl_X6_69 fp_X6_3 rfl rfl rfl rfl ?_
            exact m_vret X dX6_tracks_65 rfl (by rw [tr_4 b44 b40 b29, e6, if_neg b57]) (Nat.le_of_ble_eq_true rfl) (Nat.le_of_ble_eq_true rfl) rfl
end MN

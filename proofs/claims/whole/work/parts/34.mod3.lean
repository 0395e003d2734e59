section MN3
theorem i_p1 (x : Int32) : x + 1 - 1 = x := by grind
theorem sCount_in {w : m_V} {r : Int32} (h : ¬ (w 10 = 0 ∨ w 10 = 6)) : sCount w r = sCnt (sTake w r) := by
  unfold sCount
  rw [if_neg h]
  rfl
theorem sCount_out {w : m_V} {r : Int32} (h : w 10 = 0 ∨ w 10 = 6) : sCount w r = upd (upd (sTake w r) 13 (w 13 + 1)) 22 (w 22) := by
  unfold sCount
  rw [if_pos h]
/-- what the model needs of the state to take a reading -/
def mI (w : m_V) (b : m_R) (r : Int32) : Prop := kI w b ∧ (¬ w 10 = 6 → w 11 = 0) ∧ rS (sTake w r) (sRing w b r) ∧ vp_in (w 23 - w 23 / 4 * 4) 4 ∧ (w 10 = 4 → w 22 = w 13) ∧ (w 10 = 5 → w 22 = w 13 ∧ (w 13 = 0 ∨ w 13 = 1)) ∧ (w 10 = 4 → -1000000000 ≤ (sErr (sTake w r) (sRing w b r)).toInt)
theorem rS_c {w : m_V} {b : m_R} {r : Int32} (h : rS (sTake w r) (sRing w b r)) : rS (sCount w r) (sRing w b r) := h
theorem c_X6_brings0 {v w : m_V} {a b : m_R} {x z : Int64} {lq : Int32} {t : m_H} {r : Int32} (hs : w 10 = 0) (hm : mI w b r) : m_Ctr M_X6_brings [.ref 17, .int r] (hL v a x w b z lq t) (.inl (some (.int (sBringV w b r 10)), hL v a x (sBringV w b r) (sBringA w b r) z lq t)) := by
  refine m_intro (by decide +kernel) (Nat.le_of_ble_eq_true rfl) (fun X => ?_)
  refine m_aload_n X dX6_brings_0 rfl rfl ?_
  refine m_getf X dX6_brings_1 fl_X6_7 rfl rfl rfl ?_
  refine m_aload_n X dX6_brings_4 rfl rfl ?_
  refine m_getf (v := .int (w 23)) X dX6_brings_5 fl_X6_63 rfl rfl rfl ?_
  refine m_iconst (v := 4) X dX6_brings_8 (by decide) rfl ?_
  refine m_irem X dX6_brings_9 (by decide) rfl ?_
  refine m_iload_n X dX6_brings_10 rfl rfl ?_
  refine m_iast X dX6_brings_11 rfl (hm.2.2.2.1) rfl ?_
  refine m_hp hM_a11 ?_
  refine m_aload_n X dX6_brings_12 rfl rfl ?_
  refine m_dup X dX6_brings_13 rfl rfl ?_
  refine m_getf (v := .int (w 23)) X dX6_brings_14 fl_X6_63 rfl rfl rfl ?_
  refine m_iconst (v := 1) X dX6_brings_17 (by decide) rfl ?_
  refine m_iadd X dX6_brings_18 rfl ?_
  refine m_piM 23 X dX6_brings_19 fl_X6_63 fp_X6_1 rfl rfl rfl rfl ?_
  refine m_aload_n X dX6_brings_22 rfl rfl ?_
  refine m_iload_n X dX6_brings_23 rfl rfl ?_
  refine m_piM 4 X dX6_brings_24 fl_X6_66 fp_X6_2 rfl rfl rfl rfl ?_
  have eC := sCount_out (r := r) (show w 10 = 0 ∨ w 10 = 6 from Or.inl hs)
  refine m_hp (h1 := hL v a x (sCount w r) (sRing w b r) z lq t) (by rw [eC]; rfl) ?_
  refine m_aload_n X dX6_brings_27 rfl rfl ?_
  refine m_getf (v := .int ((sCount w r) 10)) X dX6_brings_28 fl_X6_79 rfl rfl rfl ?_
  refine m_sp (st1 := [.int 0]) (by rw [show (sCount w r) 10 = 0 from hs]; try rfl) ?_
  refine m_if_ne (tgt := 41) X dX6_brings_31 (by decide) rfl (fun b31 => absurd b31 (not_not_intro rfl)) (fun b31 => ?_)
  refine m_aload_n X dX6_brings_34 rfl rfl ?_
  refine m_cV0 X dX6_brings_35 lk_X6_134 mk_X6_tracks in_X6_tracks se_X6_tracks rfl rfl (c_X6_tracks (w := sCount w r) (rS_c hm.2.2.1)) rfl (Nat.le_of_ble_eq_true rfl) (Nat.le_of_ble_eq_true rfl) (Nat.le_of_ble_eq_true rfl) (Nat.le_of_ble_eq_true rfl) (Nat.le_of_ble_eq_true rfl) rfl ?_
  refine m_goto (tgt := 54) X dX6_brings_38 (by decide) rfl ?_
  refine m_aload_n X dX6_brings_54 rfl rfl ?_
  refine m_getf (v := .int ((sTrack (sCount w r)) 10)) X dX6_brings_55 fl_X6_79 rfl rfl rfl ?_
  exact m_iret X dX6_brings_58 rfl (by have h10 : sCount w r 10 = 0 := hs; unfold sBringV sBringA sGoV sGoA; rw [if_pos h10, if_neg (show ¬ sCount w r 10 = 4 by rw [h10]; decide)]) (Nat.le_of_ble_eq_true rfl) (Nat.le_of_ble_eq_true rfl) rfl
theorem c_X6_brings1 {v w : m_V} {a b : m_R} {x z : Int64} {lq : Int32} {t : m_H} {r : Int32} (hs : w 10 = 1) (hm : mI w b r) : m_Ctr M_X6_brings [.ref 17, .int r] (hL v a x w b z lq t) (.inl (some (.int (sBringV w b r 10)), hL v a x (sBringV w b r) (sBringA w b r) z lq t)) := by
  refine m_intro (by decide +kernel) (Nat.le_of_ble_eq_true rfl) (fun X => ?_)
  refine m_aload_n X dX6_brings_0 rfl rfl ?_
  refine m_getf X dX6_brings_1 fl_X6_7 rfl rfl rfl ?_
  refine m_aload_n X dX6_brings_4 rfl rfl ?_
  refine m_getf (v := .int (w 23)) X dX6_brings_5 fl_X6_63 rfl rfl rfl ?_
  refine m_iconst (v := 4) X dX6_brings_8 (by decide) rfl ?_
  refine m_irem X dX6_brings_9 (by decide) rfl ?_
  refine m_iload_n X dX6_brings_10 rfl rfl ?_
  refine m_iast X dX6_brings_11 rfl (hm.2.2.2.1) rfl ?_
  refine m_hp hM_a11 ?_
  refine m_aload_n X dX6_brings_12 rfl rfl ?_
  refine m_dup X dX6_brings_13 rfl rfl ?_
  refine m_getf (v := .int (w 23)) X dX6_brings_14 fl_X6_63 rfl rfl rfl ?_
  refine m_iconst (v := 1) X dX6_brings_17 (by decide) rfl ?_
  refine m_iadd X dX6_brings_18 rfl ?_
  refine m_piM 23 X dX6_brings_19 fl_X6_63 fp_X6_1 rfl rfl rfl rfl ?_
  refine m_aload_n X dX6_brings_22 rfl rfl ?_
  refine m_iload_n X dX6_brings_23 rfl rfl ?_
  refine m_piM 4 X dX6_brings_24 fl_X6_66 fp_X6_2 rfl rfl rfl rfl ?_
  refine m_hp (h1 := hL v a x (sTake w r) (sRing w b r) z lq t) rfl ?_
  have eC := sCount_in (r := r) (show ¬ (w 10 = 0 ∨ w 10 = 6) by rw [hs]; decide)
  refine m_aload_n X dX6_brings_27 rfl rfl ?_
  refine m_getf (v := .int ((sTake w r) 10)) X dX6_brings_28 fl_X6_79 rfl rfl rfl ?_
  refine m_sp (st1 := [.int 1]) (by rw [show (sTake w r) 10 = 1 from hs]; try rfl) ?_
  refine m_if_ne (tgt := 41) X dX6_brings_31 (by decide) rfl (fun b31 => ?_) (fun b31 => absurd b31 (by decide))
  refine m_aload_n X dX6_brings_41 rfl rfl ?_
  refine m_getf (v := .int ((sTake w r) 10)) X dX6_brings_42 fl_X6_79 rfl rfl rfl ?_
  refine m_bipush (v := (6)) X dX6_brings_45 (by decide) rfl ?_
  refine m_sp (st1 := [.int 6, .int 1]) (by rw [show (sTake w r) 10 = 1 from hs]; try rfl) ?_
  refine m_icmp_ge (tgt := 54) X dX6_brings_47 (by decide) rfl (fun b47 => absurd b47 (by decide)) (fun b47 => ?_)
  refine m_aload_n X dX6_brings_50 rfl rfl ?_
  refine m_cV0 X dX6_brings_51 lk_X6_137 mk_X6_goesOn in_X6_goesOn se_X6_goesOn rfl rfl (c_X6_goesOn1 hm.1.1 hm.1.2.1 (hm.2.1 (by rw [hs]; decide)) hm.2.2.1 hs) rfl (Nat.le_of_ble_eq_true rfl) (Nat.le_of_ble_eq_true rfl) (Nat.le_of_ble_eq_true rfl) (Nat.le_of_ble_eq_true rfl) (Nat.le_of_ble_eq_true rfl) rfl ?_
  refine m_aload_n X dX6_brings_54 rfl rfl ?_
  refine m_getf (v := .int ((sGoV (sCnt (sTake w r)) (sRing w b r)) 10)) X dX6_brings_55 fl_X6_79 rfl rfl rfl ?_
  exact m_iret X dX6_brings_58 rfl (by unfold sBringV sBringA; rw [eC]) (Nat.le_of_ble_eq_true rfl) (Nat.le_of_ble_eq_true rfl) rfl
theorem c_X6_brings2 {v w : m_V} {a b : m_R} {x z : Int64} {lq : Int32} {t : m_H} {r : Int32} (hs : w 10 = 2) (hm : mI w b r) : m_Ctr M_X6_brings [.ref 17, .int r] (hL v a x w b z lq t) (.inl (some (.int (sBringV w b r 10)), hL v a x (sBringV w b r) (sBringA w b r) z lq t)) := by
  refine m_intro (by decide +kernel) (Nat.le_of_ble_eq_true rfl) (fun X => ?_)
  refine m_aload_n X dX6_brings_0 rfl rfl ?_
  refine m_getf X dX6_brings_1 fl_X6_7 rfl rfl rfl ?_
  refine m_aload_n X dX6_brings_4 rfl rfl ?_
  refine m_getf (v := .int (w 23)) X dX6_brings_5 fl_X6_63 rfl rfl rfl ?_
  refine m_iconst (v := 4) X dX6_brings_8 (by decide) rfl ?_
  refine m_irem X dX6_brings_9 (by decide) rfl ?_
  refine m_iload_n X dX6_brings_10 rfl rfl ?_
  refine m_iast X dX6_brings_11 rfl (hm.2.2.2.1) rfl ?_
  refine m_hp hM_a11 ?_
  refine m_aload_n X dX6_brings_12 rfl rfl ?_
  refine m_dup X dX6_brings_13 rfl rfl ?_
  refine m_getf (v := .int (w 23)) X dX6_brings_14 fl_X6_63 rfl rfl rfl ?_
  refine m_iconst (v := 1) X dX6_brings_17 (by decide) rfl ?_
  refine m_iadd X dX6_brings_18 rfl ?_
  refine m_piM 23 X dX6_brings_19 fl_X6_63 fp_X6_1 rfl rfl rfl rfl ?_
  refine m_aload_n X dX6_brings_22 rfl rfl ?_
  refine m_iload_n X dX6_brings_23 rfl rfl ?_
  refine m_piM 4 X dX6_brings_24 fl_X6_66 fp_X6_2 rfl rfl rfl rfl ?_
  refine m_hp (h1 := hL v a x (sTake w r) (sRing w b r) z lq t) rfl ?_
  have eC := sCount_in (r := r) (show ¬ (w 10 = 0 ∨ w 10 = 6) by rw [hs]; decide)
  refine m_aload_n X dX6_brings_27 rfl rfl ?_
  refine m_getf (v := .int ((sTake w r) 10)) X dX6_brings_28 fl_X6_79 rfl rfl rfl ?_
  refine m_sp (st1 := [.int 2]) (by rw [show (sTake w r) 10 = 2 from hs]; try rfl) ?_
  refine m_if_ne (tgt := 41) X dX6_brings_31 (by decide) rfl (fun b31 => ?_) (fun b31 => absurd b31 (by decide))
  refine m_aload_n X dX6_brings_41 rfl rfl ?_
  refine m_getf (v := .int ((sTake w r) 10)) X dX6_brings_42 fl_X6_79 rfl rfl rfl ?_
  refine m_bipush (v := (6)) X dX6_brings_45 (by decide) rfl ?_
  refine m_sp (st1 := [.int 6, .int 2]) (by rw [show (sTake w r) 10 = 2 from hs]; try rfl) ?_
  refine m_icmp_ge (tgt := 54) X dX6_brings_47 (by decide) rfl (fun b47 => absurd b47 (by decide)) (fun b47 => ?_)
  refine m_aload_n X dX6_brings_50 rfl rfl ?_
  refine m_cV0 X dX6_brings_51 lk_X6_137 mk_X6_goesOn in_X6_goesOn se_X6_goesOn rfl rfl (c_X6_goesOn2 hm.1.1 hm.1.2.1 (hm.2.1 (by rw [hs]; decide)) hm.2.2.1 hs) rfl (Nat.le_of_ble_eq_true rfl) (Nat.le_of_ble_eq_true rfl) (Nat.le_of_ble_eq_true rfl) (Nat.le_of_ble_eq_true rfl) (Nat.le_of_ble_eq_true rfl) rfl ?_
  refine m_aload_n X dX6_brings_54 rfl rfl ?_
  refine m_getf (v := .int ((sGoV (sCnt (sTake w r)) (sRing w b r)) 10)) X dX6_brings_55 fl_X6_79 rfl rfl rfl ?_
  exact m_iret X dX6_brings_58 rfl (by unfold sBringV sBringA; rw [eC]) (Nat.le_of_ble_eq_true rfl) (Nat.le_of_ble_eq_true rfl) rfl
theorem c_X6_brings3 {v w : m_V} {a b : m_R} {x z : Int64} {lq : Int32} {t : m_H} {r : Int32} (hs : w 10 = 3) (hm : mI w b r) : m_Ctr M_X6_brings [.ref 17, .int r] (hL v a x w b z lq t) (.inl (some (.int (sBringV w b r 10)), hL v a x (sBringV w b r) (sBringA w b r) z lq t)) := by
  refine m_intro (by decide +kernel) (Nat.le_of_ble_eq_true rfl) (fun X => ?_)
  refine m_aload_n X dX6_brings_0 rfl rfl ?_
  refine m_getf X dX6_brings_1 fl_X6_7 rfl rfl rfl ?_
  refine m_aload_n X dX6_brings_4 rfl rfl ?_
  refine m_getf (v := .int (w 23)) X dX6_brings_5 fl_X6_63 rfl rfl rfl ?_
  refine m_iconst (v := 4) X dX6_brings_8 (by decide) rfl ?_
  refine m_irem X dX6_brings_9 (by decide) rfl ?_
  refine m_iload_n X dX6_brings_10 rfl rfl ?_
  refine m_iast X dX6_brings_11 rfl (hm.2.2.2.1) rfl ?_
  refine m_hp hM_a11 ?_
  refine m_aload_n X dX6_brings_12 rfl rfl ?_
  refine m_dup X dX6_brings_13 rfl rfl ?_
  refine m_getf (v := .int (w 23)) X dX6_brings_14 fl_X6_63 rfl rfl rfl ?_
  refine m_iconst (v := 1) X dX6_brings_17 (by decide) rfl ?_
  refine m_iadd X dX6_brings_18 rfl ?_
  refine m_piM 23 X dX6_brings_19 fl_X6_63 fp_X6_1 rfl rfl rfl rfl ?_
  refine m_aload_n X dX6_brings_22 rfl rfl ?_
  refine m_iload_n X dX6_brings_23 rfl rfl ?_
  refine m_piM 4 X dX6_brings_24 fl_X6_66 fp_X6_2 rfl rfl rfl rfl ?_
  refine m_hp (h1 := hL v a x (sTake w r) (sRing w b r) z lq t) rfl ?_
  have eC := sCount_in (r := r) (show ¬ (w 10 = 0 ∨ w 10 = 6) by rw [hs]; decide)
  refine m_aload_n X dX6_brings_27 rfl rfl ?_
  refine m_getf (v := .int ((sTake w r) 10)) X dX6_brings_28 fl_X6_79 rfl rfl rfl ?_
  refine m_sp (st1 := [.int 3]) (by rw [show (sTake w r) 10 = 3 from hs]; try rfl) ?_
  refine m_if_ne (tgt := 41) X dX6_brings_31 (by decide) rfl (fun b31 => ?_) (fun b31 => absurd b31 (by decide))
  refine m_aload_n X dX6_brings_41 rfl rfl ?_
  refine m_getf (v := .int ((sTake w r) 10)) X dX6_brings_42 fl_X6_79 rfl rfl rfl ?_
  refine m_bipush (v := (6)) X dX6_brings_45 (by decide) rfl ?_
  refine m_sp (st1 := [.int 6, .int 3]) (by rw [show (sTake w r) 10 = 3 from hs]; try rfl) ?_
  refine m_icmp_ge (tgt := 54) X dX6_brings_47 (by decide) rfl (fun b47 => absurd b47 (by decide)) (fun b47 => ?_)
  refine m_aload_n X dX6_brings_50 rfl rfl ?_
  refine m_cV0 X dX6_brings_51 lk_X6_137 mk_X6_goesOn in_X6_goesOn se_X6_goesOn rfl rfl (c_X6_goesOn3 hm.1.1 hm.1.2.1 (hm.2.1 (by rw [hs]; decide)) hm.2.2.1 hs) rfl (Nat.le_of_ble_eq_true rfl) (Nat.le_of_ble_eq_true rfl) (Nat.le_of_ble_eq_true rfl) (Nat.le_of_ble_eq_true rfl) (Nat.le_of_ble_eq_true rfl) rfl ?_
  refine m_aload_n X dX6_brings_54 rfl rfl ?_
  refine m_getf (v := .int ((sGoV (sCnt (sTake w r)) (sRing w b r)) 10)) X dX6_brings_55 fl_X6_79 rfl rfl rfl ?_
  exact m_iret X dX6_brings_58 rfl (by unfold sBringV sBringA; rw [eC]) (Nat.le_of_ble_eq_true rfl) (Nat.le_of_ble_eq_true rfl) rfl
theorem c_X6_brings4 {v w : m_V} {a b : m_R} {x z : Int64} {lq : Int32} {t : m_H} {r : Int32} (hs : w 10 = 4) (hm : mI w b r) : m_Ctr M_X6_brings [.ref 17, .int r] (hL v a x w b z lq t) (.inl (some (.int (sBringV w b r 10)), hL v a x (sBringV w b r) (sBringA w b r) z lq t)) := by
  refine m_intro (by decide +kernel) (Nat.le_of_ble_eq_true rfl) (fun X => ?_)
  refine m_aload_n X dX6_brings_0 rfl rfl ?_
  refine m_getf X dX6_brings_1 fl_X6_7 rfl rfl rfl ?_
  refine m_aload_n X dX6_brings_4 rfl rfl ?_
  refine m_getf (v := .int (w 23)) X dX6_brings_5 fl_X6_63 rfl rfl rfl ?_
  refine m_iconst (v := 4) X dX6_brings_8 (by decide) rfl ?_
  refine m_irem X dX6_brings_9 (by decide) rfl ?_
  refine m_iload_n X dX6_brings_10 rfl rfl ?_
  refine m_iast X dX6_brings_11 rfl (hm.2.2.2.1) rfl ?_
  refine m_hp hM_a11 ?_
  refine m_aload_n X dX6_brings_12 rfl rfl ?_
  refine m_dup X dX6_brings_13 rfl rfl ?_
  refine m_getf (v := .int (w 23)) X dX6_brings_14 fl_X6_63 rfl rfl rfl ?_
  refine m_iconst (v := 1) X dX6_brings_17 (by decide) rfl ?_
  refine m_iadd X dX6_brings_18 rfl ?_
  refine m_piM 23 X dX6_brings_19 fl_X6_63 fp_X6_1 rfl rfl rfl rfl ?_
  refine m_aload_n X dX6_brings_22 rfl rfl ?_
  refine m_iload_n X dX6_brings_23 rfl rfl ?_
  refine m_piM 4 X dX6_brings_24 fl_X6_66 fp_X6_2 rfl rfl rfl rfl ?_
  refine m_hp (h1 := hL v a x (sTake w r) (sRing w b r) z lq t) rfl ?_
  have eC := sCount_in (r := r) (show ¬ (w 10 = 0 ∨ w 10 = 6) by rw [hs]; decide)
  refine m_aload_n X dX6_brings_27 rfl rfl ?_
  refine m_getf (v := .int ((sTake w r) 10)) X dX6_brings_28 fl_X6_79 rfl rfl rfl ?_
  refine m_sp (st1 := [.int 4]) (by rw [show (sTake w r) 10 = 4 from hs]; try rfl) ?_
  refine m_if_ne (tgt := 41) X dX6_brings_31 (by decide) rfl (fun b31 => ?_) (fun b31 => absurd b31 (by decide))
  refine m_aload_n X dX6_brings_41 rfl rfl ?_
  refine m_getf (v := .int ((sTake w r) 10)) X dX6_brings_42 fl_X6_79 rfl rfl rfl ?_
  refine m_bipush (v := (6)) X dX6_brings_45 (by decide) rfl ?_
  refine m_sp (st1 := [.int 6, .int 4]) (by rw [show (sTake w r) 10 = 4 from hs]; try rfl) ?_
  refine m_icmp_ge (tgt := 54) X dX6_brings_47 (by decide) rfl (fun b47 => absurd b47 (by decide)) (fun b47 => ?_)
  refine m_aload_n X dX6_brings_50 rfl rfl ?_
  refine m_cV0 X dX6_brings_51 lk_X6_137 mk_X6_goesOn in_X6_goesOn se_X6_goesOn rfl rfl (c_X6_goesOn4 hm.1.1 hm.1.2.1 (hm.2.1 (by rw [hs]; decide)) hm.2.2.1 hs hm.1.2.2.1 (hm.1.2.2.2.1 (by rw [hs]; decide)) (hm.2.2.2.2.2.2 hs) (hm.2.2.2.2.1 hs)) rfl (Nat.le_of_ble_eq_true rfl) (Nat.le_of_ble_eq_true rfl) (Nat.le_of_ble_eq_true rfl) (Nat.le_of_ble_eq_true rfl) (Nat.le_of_ble_eq_true rfl) rfl ?_
  refine m_aload_n X dX6_brings_54 rfl rfl ?_
  refine m_getf (v := .int ((sGoV (sCnt (sTake w r)) (sRing w b r)) 10)) X dX6_brings_55 fl_X6_79 rfl rfl rfl ?_
  exact m_iret X dX6_brings_58 rfl (by unfold sBringV sBringA; rw [eC]) (Nat.le_of_ble_eq_true rfl) (Nat.le_of_ble_eq_true rfl) rfl
theorem c_X6_brings5 {v w : m_V} {a b : m_R} {x z : Int64} {lq : Int32} {t : m_H} {r : Int32} (hs : w 10 = 5) (hm : mI w b r) : m_Ctr M_X6_brings [.ref 17, .int r] (hL v a x w b z lq t) (.inl (some (.int (sBringV w b r 10)), hL v a x (sBringV w b r) (sBringA w b r) z lq t)) := by
  refine m_intro (by decide +kernel) (Nat.le_of_ble_eq_true rfl) (fun X => ?_)
  refine m_aload_n X dX6_brings_0 rfl rfl ?_
  refine m_getf X dX6_brings_1 fl_X6_7 rfl rfl rfl ?_
  refine m_aload_n X dX6_brings_4 rfl rfl ?_
  refine m_getf (v := .int (w 23)) X dX6_brings_5 fl_X6_63 rfl rfl rfl ?_
  refine m_iconst (v := 4) X dX6_brings_8 (by decide) rfl ?_
  refine m_irem X dX6_brings_9 (by decide) rfl ?_
  refine m_iload_n X dX6_brings_10 rfl rfl ?_
  refine m_iast X dX6_brings_11 rfl (hm.2.2.2.1) rfl ?_
  refine m_hp hM_a11 ?_
  refine m_aload_n X dX6_brings_12 rfl rfl ?_
  refine m_dup X dX6_brings_13 rfl rfl ?_
  refine m_getf (v := .int (w 23)) X dX6_brings_14 fl_X6_63 rfl rfl rfl ?_
  refine m_iconst (v := 1) X dX6_brings_17 (by decide) rfl ?_
  refine m_iadd X dX6_brings_18 rfl ?_
  refine m_piM 23 X dX6_brings_19 fl_X6_63 fp_X6_1 rfl rfl rfl rfl ?_
  refine m_aload_n X dX6_brings_22 rfl rfl ?_
  refine m_iload_n X dX6_brings_23 rfl rfl ?_
  refine m_piM 4 X dX6_brings_24 fl_X6_66 fp_X6_2 rfl rfl rfl rfl ?_
  refine m_hp (h1 := hL v a x (sTake w r) (sRing w b r) z lq t) rfl ?_
  have eC := sCount_in (r := r) (show ¬ (w 10 = 0 ∨ w 10 = 6) by rw [hs]; decide)
  refine m_aload_n X dX6_brings_27 rfl rfl ?_
  refine m_getf (v := .int ((sTake w r) 10)) X dX6_brings_28 fl_X6_79 rfl rfl rfl ?_
  refine m_sp (st1 := [.int 5]) (by rw [show (sTake w r) 10 = 5 from hs]; try rfl) ?_
  refine m_if_ne (tgt := 41) X dX6_brings_31 (by decide) rfl (fun b31 => ?_) (fun b31 => absurd b31 (by decide))
  refine m_aload_n X dX6_brings_41 rfl rfl ?_
  refine m_getf (v := .int ((sTake w r) 10)) X dX6_brings_42 fl_X6_79 rfl rfl rfl ?_
  refine m_bipush (v := (6)) X dX6_brings_45 (by decide) rfl ?_
  refine m_sp (st1 := [.int 6, .int 5]) (by rw [show (sTake w r) 10 = 5 from hs]; try rfl) ?_
  refine m_icmp_ge (tgt := 54) X dX6_brings_47 (by decide) rfl (fun b47 => absurd b47 (by decide)) (fun b47 => ?_)
  refine m_aload_n X dX6_brings_50 rfl rfl ?_
  refine m_cV0 X dX6_brings_51 lk_X6_137 mk_X6_goesOn in_X6_goesOn se_X6_goesOn rfl rfl (c_X6_goesOn5 hm.1.1 hm.1.2.1 (hm.2.1 (by rw [hs]; decide)) hm.2.2.1 hs (hm.2.2.2.2.2.1 hs).1 (hm.2.2.2.2.2.1 hs).2) rfl (Nat.le_of_ble_eq_true rfl) (Nat.le_of_ble_eq_true rfl) (Nat.le_of_ble_eq_true rfl) (Nat.le_of_ble_eq_true rfl) (Nat.le_of_ble_eq_true rfl) rfl ?_
  refine m_aload_n X dX6_brings_54 rfl rfl ?_
  refine m_getf (v := .int ((sGoV (sCnt (sTake w r)) (sRing w b r)) 10)) X dX6_brings_55 fl_X6_79 rfl rfl rfl ?_
  exact m_iret X dX6_brings_58 rfl (by unfold sBringV sBringA; rw [eC]) (Nat.le_of_ble_eq_true rfl) (Nat.le_of_ble_eq_true rfl) rfl
theorem c_X6_brings6 {v w : m_V} {a b : m_R} {x z : Int64} {lq : Int32} {t : m_H} {r : Int32} (hs : w 10 = 6) (hm : mI w b r) : m_Ctr M_X6_brings [.ref 17, .int r] (hL v a x w b z lq t) (.inl (some (.int (sBringV w b r 10)), hL v a x (sBringV w b r) (sBringA w b r) z lq t)) := by
  refine m_intro (by decide +kernel) (Nat.le_of_ble_eq_true rfl) (fun X => ?_)
  refine m_aload_n X dX6_brings_0 rfl rfl ?_
  refine m_getf X dX6_brings_1 fl_X6_7 rfl rfl rfl ?_
  refine m_aload_n X dX6_brings_4 rfl rfl ?_
  refine m_getf (v := .int (w 23)) X dX6_brings_5 fl_X6_63 rfl rfl rfl ?_
  refine m_iconst (v := 4) X dX6_brings_8 (by decide) rfl ?_
  refine m_irem X dX6_brings_9 (by decide) rfl ?_
  refine m_iload_n X dX6_brings_10 rfl rfl ?_
  refine m_iast X dX6_brings_11 rfl (hm.2.2.2.1) rfl ?_
  refine m_hp hM_a11 ?_
  refine m_aload_n X dX6_brings_12 rfl rfl ?_
  refine m_dup X dX6_brings_13 rfl rfl ?_
  refine m_getf (v := .int (w 23)) X dX6_brings_14 fl_X6_63 rfl rfl rfl ?_
  refine m_iconst (v := 1) X dX6_brings_17 (by decide) rfl ?_
  refine m_iadd X dX6_brings_18 rfl ?_
  refine m_piM 23 X dX6_brings_19 fl_X6_63 fp_X6_1 rfl rfl rfl rfl ?_
  refine m_aload_n X dX6_brings_22 rfl rfl ?_
  refine m_iload_n X dX6_brings_23 rfl rfl ?_
  refine m_piM 4 X dX6_brings_24 fl_X6_66 fp_X6_2 rfl rfl rfl rfl ?_
  have eC := sCount_out (r := r) (show w 10 = 0 ∨ w 10 = 6 from Or.inr hs)
  refine m_hp (h1 := hL v a x (sCount w r) (sRing w b r) z lq t) (by rw [eC]; rfl) ?_
  refine m_aload_n X dX6_brings_27 rfl rfl ?_
  refine m_getf (v := .int ((sCount w r) 10)) X dX6_brings_28 fl_X6_79 rfl rfl rfl ?_
  refine m_sp (st1 := [.int 6]) (by rw [show (sCount w r) 10 = 6 from hs]; try rfl) ?_
  refine m_if_ne (tgt := 41) X dX6_brings_31 (by decide) rfl (fun b31 => ?_) (fun b31 => absurd b31 (by decide))
  refine m_aload_n X dX6_brings_41 rfl rfl ?_
  refine m_getf (v := .int ((sCount w r) 10)) X dX6_brings_42 fl_X6_79 rfl rfl rfl ?_
  refine m_bipush (v := (6)) X dX6_brings_45 (by decide) rfl ?_
  refine m_sp (st1 := [.int 6, .int 6]) (by rw [show (sCount w r) 10 = 6 from hs]; try rfl) ?_
  refine m_icmp_ge (tgt := 54) X dX6_brings_47 (by decide) rfl (fun b47 => ?_) (fun b47 => absurd b47 (by decide))
  refine m_aload_n X dX6_brings_54 rfl rfl ?_
  refine m_getf (v := .int ((sCount w r) 10)) X dX6_brings_55 fl_X6_79 rfl rfl rfl ?_
  exact m_iret X dX6_brings_58 rfl (by have h10 : sCount w r 10 = 6 := hs; unfold sBringV sBringA sGoV sGoA; rw [if_neg (show ¬ sCount w r 10 = 0 by rw [h10]; decide), if_neg (show ¬ sCount w r 10 = 1 by rw [h10]; decide), if_neg (show ¬ (sCount w r 10 = 2 ∨ sCount w r 10 = 3) by rw [h10]; decide), if_neg (show ¬ sCount w r 10 = 4 by rw [h10]; decide), if_neg (show ¬ sCount w r 10 = 5 by rw [h10]; decide), if_neg (show ¬ sCount w r 10 = 4 by rw [h10]; decide)]) (Nat.le_of_ble_eq_true rfl) (Nat.le_of_ble_eq_true rfl) rfl
theorem c_X6_brings {v w : m_V} {a b : m_R} {x z : Int64} {lq : Int32} {t : m_H} {r : Int32} (hm : mI w b r) : m_Ctr M_X6_brings [.ref 17, .int r] (hL v a x w b z lq t) (.inl (some (.int (sBringV w b r 10)), hL v a x (sBringV w b r) (sBringA w b r) z lq t)) := by
  rcases hm.1.2.2.2.2 with hs | hs | hs | hs | hs | hs | hs
  · exact c_X6_brings0 hs hm
  · exact c_X6_brings1 hs hm
  · exact c_X6_brings2 hs hm
  · exact c_X6_brings3 hs hm
  · exact c_X6_brings4 hs hm
  · exact c_X6_brings5 hs hm
  · exact c_X6_brings6 hs hm
theorem c_X6_tick {v w : m_V} {a b : m_R} {x z : Int64} {lq : Int32} {t : m_H} {r : Int32} (hr : -1000 ≤ r ∧ r ≤ 100000) (hm : mI w b r) : m_Ctr M_X6_tick [.ref 17, .int r] (hL v a x w b z lq t) (.inl (some (.int (sBringV w b r 10)), hL v a x (sBringV w b r) (sBringA w b r) z 0 t)) := by
  refine m_intro (by decide +kernel) (Nat.le_of_ble_eq_true rfl) (fun X => ?_)
  refine m_aload_n X dX6_tick_0 rfl rfl ?_
  refine m_iload_n X dX6_tick_1 rfl rfl ?_
  refine m_sipush (v := (-1000)) X dX6_tick_2 (by decide) rfl ?_
  refine m_ldc X dX6_tick_5 cs_X6_140 rfl ?_
  refine m_cS3 X dX6_tick_7 lk_X6_56 mk_X6_in st_X6_in (c_X6_in) rfl (Nat.le_of_ble_eq_true rfl) (Nat.le_of_ble_eq_true rfl) (Nat.le_of_ble_eq_true rfl) (Nat.le_of_ble_eq_true rfl) (Nat.le_of_ble_eq_true rfl) rfl ?_
  refine m_iconst (v := 1) X dX6_tick_10 (by decide) rfl ?_
  refine m_iconst (v := 1) X dX6_tick_11 (by decide) rfl ?_
  refine m_cV3 X dX6_tick_12 lk_X6_141 mk_X6_goes in_X6_goes se_X6_goes rfl rfl (c_X6_goes0 (by rw [bi_t hr]; decide) (by decide) (by decide)) rfl (Nat.le_of_ble_eq_true rfl) (Nat.le_of_ble_eq_true rfl) (Nat.le_of_ble_eq_true rfl) (Nat.le_of_ble_eq_true rfl) (Nat.le_of_ble_eq_true rfl) rfl ?_
  refine m_if_eq (tgt := 26) X dX6_tick_15 (by decide) rfl (fun b15 => absurd b15 (by decide)) (fun b15 => ?_)
  refine m_aload_n X dX6_tick_18 rfl rfl ?_
  refine m_iload_n X dX6_tick_19 rfl rfl ?_
  refine m_cV1 X dX6_tick_20 lk_X6_145 mk_X6_brings in_X6_brings se_X6_brings rfl rfl (c_X6_brings hm) rfl (Nat.le_of_ble_eq_true rfl) (Nat.le_of_ble_eq_true rfl) (Nat.le_of_ble_eq_true rfl) (Nat.le_of_ble_eq_true rfl) (Nat.le_of_ble_eq_true rfl) rfl ?_
  refine m_goto (tgt := 27) X dX6_tick_23 (by decide) rfl ?_
  exact m_iret X dX6_tick_27 rfl (rfl) (Nat.le_of_ble_eq_true rfl) (Nat.le_of_ble_eq_true rfl) rfl
theorem f_X6_tick {v w : m_V} {a b : m_R} {x z : Int64} {lq : Int32} {t : m_H} {r : Int32} (hr : ¬ (-1000 ≤ r ∧ r ≤ 100000)) : m_Ctr M_X6_tick [.ref 17, .int r] (hL v a x w b z lq t) (.inl (some (.int 0), hL v a x w b z 1 t)) := by
  refine m_intro (by decide +kernel) (Nat.le_of_ble_eq_true rfl) (fun X => ?_)
  refine m_aload_n X dX6_tick_0 rfl rfl ?_
  refine m_iload_n X dX6_tick_1 rfl rfl ?_
  refine m_sipush (v := (-1000)) X dX6_tick_2 (by decide) rfl ?_
  refine m_ldc X dX6_tick_5 cs_X6_140 rfl ?_
  refine m_cS3 X dX6_tick_7 lk_X6_56 mk_X6_in st_X6_in (c_X6_in) rfl (Nat.le_of_ble_eq_true rfl) (Nat.le_of_ble_eq_true rfl) (Nat.le_of_ble_eq_true rfl) (Nat.le_of_ble_eq_true rfl) (Nat.le_of_ble_eq_true rfl) rfl ?_
  refine m_iconst (v := 1) X dX6_tick_10 (by decide) rfl ?_
  refine m_iconst (v := 1) X dX6_tick_11 (by decide) rfl ?_
  refine m_cV3 X dX6_tick_12 lk_X6_141 mk_X6_goes in_X6_goes se_X6_goes rfl rfl (c_X6_goes1 (bi_f hr)) rfl (Nat.le_of_ble_eq_true rfl) (Nat.le_of_ble_eq_true rfl) (Nat.le_of_ble_eq_true rfl) (Nat.le_of_ble_eq_true rfl) (Nat.le_of_ble_eq_true rfl) rfl ?_
  refine m_if_eq (tgt := 26) X dX6_tick_15 (by decide) rfl (fun b15 => ?_) (fun b15 => absurd b15 (not_not_intro rfl))
  refine m_iconst (v := 0) X dX6_tick_26 (by decide) rfl ?_
  exact m_iret X dX6_tick_27 rfl (rfl) (Nat.le_of_ble_eq_true rfl) (Nat.le_of_ble_eq_true rfl) rfl
theorem c_X6_ticks {v w : m_V} {a b : m_R} {x z : Int64} {lq : Int32} {t : m_H} {r : Int32} {N : Nat} (hr : -1000 ≤ r ∧ r ≤ 100000) (hN1 : 1 ≤ N) (hN : N ≤ 50) (hk : ∀ i, i < N → mI (sTicks r i w b).1 (sTicks r i w b).2 r) : m_Ctr M_X6_ticks [.ref 17, .int r, .int (nI N)] (hL v a x w b z lq t) (.inl (some (.int ((sTicks r N w b).1 10)), hL v a x (sTicks r N w b).1 (sTicks r N w b).2 z 0 t)) := by
  refine m_intro (by decide +kernel) (Nat.le_of_ble_eq_true rfl) (fun {D cI cL sa A p l e s m args below meth c ad} X => ?_)
  have hn : 1 ≤ nI N ∧ nI N ≤ 50 := ⟨(nI_leI (a := 1) (by omega) (by omega)).mpr hN1, (nI_leI (b := 50) (by omega) (by omega)).mpr hN⟩
  have loop : ∀ k i, i + k = N → m_Go D cI cL ad ((hL v a x w b z lq t)).length (m_Ml M_X6_ticks) A p l e (m_rm M_X6_ticks) s m args below meth c (m_VQ D cI cL ad ((hL v a x w b z lq t)).length A (.inl (some (.int ((sTicks r N w b).1 10)), hL v a x (sTicks r N w b).1 (sTicks r N w b).2 z 0 t)) below args s (m_Mc M_X6_ticks) (m_Ms M_X6_ticks)) 37 [(4, .int (nI i)), (3, .int 1), (0, .ref 17), (1, .int r), (2, .int (nI N))] [] (hL v a x (sTicks r i w b).1 (sTicks r i w b).2 z 0 t) 0 0 := by
    intro k
    induction k with
    | zero =>
      intro i hi
      have hiL : i = N := by omega
      subst hiL
      refine m_iload X dX6_ticks_37 rfl rfl ?_
      refine m_iload_n X dX6_ticks_39 rfl rfl ?_
      refine m_icmp_ge (tgt := 59) X dX6_ticks_40 (by decide) rfl (fun b40 => ?_) (fun b40 => absurd b40 (not_not_intro (Int32.le_refl _)))
      refine m_iload_n X dX6_ticks_59 rfl rfl ?_
      refine m_if_eq (tgt := 70) X dX6_ticks_60 (by decide) rfl (fun b60 => absurd b60 (by decide)) (fun b60 => ?_)
      refine m_aload_n X dX6_ticks_63 rfl rfl ?_
      refine m_getf (v := .int ((sTicks r i w b).1 10)) X dX6_ticks_64 fl_X6_79 rfl rfl rfl ?_
      refine m_goto (tgt := 71) X dX6_ticks_67 (by decide) rfl ?_
      exact m_iret X dX6_ticks_71 rfl (rfl) (Nat.le_of_ble_eq_true rfl) (Nat.le_of_ble_eq_true rfl) rfl
    | succ k ih =>
      intro i hi
      have hlt : i < N := by omega
      have hmi := hk i hlt
      refine m_iload X dX6_ticks_37 rfl rfl ?_
      refine m_iload_n X dX6_ticks_39 rfl rfl ?_
      refine m_icmp_ge (tgt := 59) X dX6_ticks_40 (by decide) rfl (fun b40 => absurd b40 (nI_ge hlt (by omega))) (fun b40 => ?_)
      refine m_iload_n X dX6_ticks_43 rfl rfl ?_
      refine m_if_eq (tgt := 59) X dX6_ticks_44 (by decide) rfl (fun b44 => absurd b44 (by decide)) (fun b44 => ?_)
      refine m_aload_n X dX6_ticks_47 rfl rfl ?_
      refine m_iload_n X dX6_ticks_48 rfl rfl ?_
      refine m_cV1 X dX6_ticks_49 lk_X6_145 mk_X6_brings in_X6_brings se_X6_brings rfl rfl (c_X6_brings hmi) rfl (Nat.le_of_ble_eq_true rfl) (Nat.le_of_ble_eq_true rfl) (Nat.le_of_ble_eq_true rfl) (Nat.le_of_ble_eq_true rfl) (Nat.le_of_ble_eq_true rfl) rfl ?_
      refine m_pop X dX6_ticks_52 rfl rfl ?_
      refine m_iinc X dX6_ticks_53 rfl (Nat.le_of_ble_eq_true rfl) rfl ?_
      refine m_goto (tgt := 37) X dX6_ticks_56 (by decide) rfl ?_
      refine m_lp (l1 := [(4, .int (nI (i + 1))), (3, .int 1), (0, .ref 17), (1, .int r), (2, .int (nI N))]) [0, 1, 2, 3, 4] (by rw [nI_succ]; rfl) ?_
      exact ih (i + 1) (by omega)
  refine m_aload_n X dX6_ticks_0 rfl rfl ?_
  refine m_iload_n X dX6_ticks_1 rfl rfl ?_
  refine m_sipush (v := (-1000)) X dX6_ticks_2 (by decide) rfl ?_
  refine m_ldc X dX6_ticks_5 cs_X6_140 rfl ?_
  refine m_cS3 X dX6_ticks_7 lk_X6_56 mk_X6_in st_X6_in (c_X6_in) rfl (Nat.le_of_ble_eq_true rfl) (Nat.le_of_ble_eq_true rfl) (Nat.le_of_ble_eq_true rfl) (Nat.le_of_ble_eq_true rfl) (Nat.le_of_ble_eq_true rfl) rfl ?_
  refine m_if_eq (tgt := 27) X dX6_ticks_10 (by decide) rfl (fun b10 => absurd b10 ((by rw [bi_t hr]; decide))) (fun b10 => ?_)
  refine m_iload_n X dX6_ticks_13 rfl rfl ?_
  refine m_iconst (v := 1) X dX6_ticks_14 (by decide) rfl ?_
  refine m_bipush (v := (50)) X dX6_ticks_15 (by decide) rfl ?_
  refine m_cS3 X dX6_ticks_17 lk_X6_56 mk_X6_in st_X6_in (c_X6_in) rfl (Nat.le_of_ble_eq_true rfl) (Nat.le_of_ble_eq_true rfl) (Nat.le_of_ble_eq_true rfl) (Nat.le_of_ble_eq_true rfl) (Nat.le_of_ble_eq_true rfl) rfl ?_
  refine m_if_eq (tgt := 27) X dX6_ticks_20 (by decide) rfl (fun b20 => absurd b20 ((by rw [bi_t hn]; decide))) (fun b20 => ?_)
  refine m_iconst (v := 1) X dX6_ticks_23 (by decide) rfl ?_
  refine m_goto (tgt := 28) X dX6_ticks_24 (by decide) rfl ?_
  refine m_iconst (v := 1) X dX6_ticks_28 (by decide) rfl ?_
  refine m_iconst (v := 1) X dX6_ticks_29 (by decide) rfl ?_
  refine m_cV3 X dX6_ticks_30 lk_X6_141 mk_X6_goes in_X6_goes se_X6_goes rfl rfl (c_X6_goes0 (by decide) (by decide) (by decide)) rfl (Nat.le_of_ble_eq_true rfl) (Nat.le_of_ble_eq_true rfl) (Nat.le_of_ble_eq_true rfl) (Nat.le_of_ble_eq_true rfl) (Nat.le_of_ble_eq_true rfl) rfl ?_
  refine m_istore_n X dX6_ticks_33 (Nat.le_of_ble_eq_true rfl) rfl ?_
  refine m_iconst (v := 0) X dX6_ticks_34 (by decide) rfl ?_
  refine m_istore X dX6_ticks_35 (Nat.le_of_ble_eq_true rfl) rfl ?_
  refine m_hp (h1 := (hL v a x (sTicks r 0 w b).1 (sTicks r 0 w b).2 z 0 t)) rfl ?_
  refine m_lp (l1 := [(4, .int (nI 0)), (3, .int 1), (0, .ref 17), (1, .int r), (2, .int (nI N))]) [0, 1, 2, 3, 4] rfl ?_
  exact loop N 0 (by omega)
theorem f_X6_ticks {v w : m_V} {a b : m_R} {x z : Int64} {lq : Int32} {t : m_H} {r n : Int32} (hn : ¬ ((-1000 ≤ r ∧ r ≤ 100000) ∧ (1 ≤ n ∧ n ≤ 50))) : m_Ctr M_X6_ticks [.ref 17, .int r, .int n] (hL v a x w b z lq t) (.inl (some (.int 0), hL v a x w b z 1 t)) := by
  refine m_intro (by decide +kernel) (Nat.le_of_ble_eq_true rfl) (fun X => ?_)
  refine m_aload_n X dX6_ticks_0 rfl rfl ?_
  refine m_iload_n X dX6_ticks_1 rfl rfl ?_
  refine m_sipush (v := (-1000)) X dX6_ticks_2 (by decide) rfl ?_
  refine m_ldc X dX6_ticks_5 cs_X6_140 rfl ?_
  refine m_cS3 X dX6_ticks_7 lk_X6_56 mk_X6_in st_X6_in (c_X6_in) rfl (Nat.le_of_ble_eq_true rfl) (Nat.le_of_ble_eq_true rfl) (Nat.le_of_ble_eq_true rfl) (Nat.le_of_ble_eq_true rfl) (Nat.le_of_ble_eq_true rfl) rfl ?_
  refine m_if_eq (tgt := 27) X dX6_ticks_10 (by decide) rfl (fun b10 => ?_) (fun b10 => ?_)
  · refine m_iconst (v := 0) X dX6_ticks_27 (by decide) rfl ?_
    refine m_iconst (v := 1) X dX6_ticks_28 (by decide) rfl ?_
    refine m_iconst (v := 1) X dX6_ticks_29 (by decide) rfl ?_
    refine m_cV3 X dX6_ticks_30 lk_X6_141 mk_X6_goes in_X6_goes se_X6_goes rfl rfl (c_X6_goes1 rfl) rfl (Nat.le_of_ble_eq_true rfl) (Nat.le_of_ble_eq_true rfl) (Nat.le_of_ble_eq_true rfl) (Nat.le_of_ble_eq_true rfl) (Nat.le_of_ble_eq_true rfl) rfl ?_
    refine m_istore_n X dX6_ticks_33 (Nat.le_of_ble_eq_true rfl) rfl ?_
    refine m_iconst (v := 0) X dX6_ticks_34 (by decide) rfl ?_
    refine m_istore X dX6_ticks_35 (Nat.le_of_ble_eq_true rfl) rfl ?_
    refine m_iload X dX6_ticks_37 rfl rfl ?_
    refine m_iload_n X dX6_ticks_39 rfl rfl ?_
    refine m_icmp_ge (tgt := 59) X dX6_ticks_40 (by decide) rfl (fun b40 => ?_) (fun b40 => ?_)
    · refine m_iload_n X dX6_ticks_59 rfl rfl ?_
      refine m_if_eq (tgt := 70) X dX6_ticks_60 (by decide) rfl (fun b60 => ?_) (fun b60 => absurd b60 (not_not_intro rfl))
      refine m_iconst (v := 0) X dX6_ticks_70 (by decide) rfl ?_
      exact m_iret X dX6_ticks_71 rfl (rfl) (Nat.le_of_ble_eq_true rfl) (Nat.le_of_ble_eq_true rfl) rfl
    · refine m_iload_n X dX6_ticks_43 rfl rfl ?_
      refine m_if_eq (tgt := 59) X dX6_ticks_44 (by decide) rfl (fun b44 => ?_) (fun b44 => absurd b44 (not_not_intro rfl))
      refine m_iload_n X dX6_ticks_59 rfl rfl ?_
      refine m_if_eq (tgt := 70) X dX6_ticks_60 (by decide) rfl (fun b60 => ?_) (fun b60 => absurd b60 (not_not_intro rfl))
      refine m_iconst (v := 0) X dX6_ticks_70 (by decide) rfl ?_
      exact m_iret X dX6_ticks_71 rfl (rfl) (Nat.le_of_ble_eq_true rfl) (Nat.le_of_ble_eq_true rfl) rfl
  · refine m_iload_n X dX6_ticks_13 rfl rfl ?_
    refine m_iconst (v := 1) X dX6_ticks_14 (by decide) rfl ?_
    refine m_bipush (v := (50)) X dX6_ticks_15 (by decide) rfl ?_
    refine m_cS3 X dX6_ticks_17 lk_X6_56 mk_X6_in st_X6_in (c_X6_in) rfl (Nat.le_of_ble_eq_true rfl) (Nat.le_of_ble_eq_true rfl) (Nat.le_of_ble_eq_true rfl) (Nat.le_of_ble_eq_true rfl) (Nat.le_of_ble_eq_true rfl) rfl ?_
    refine m_if_eq (tgt := 27) X dX6_ticks_20 (by decide) rfl (fun b20 => ?_) (fun b20 => ?_)
    · refine m_iconst (v := 0) X dX6_ticks_27 (by decide) rfl ?_
      refine m_iconst (v := 1) X dX6_ticks_28 (by decide) rfl ?_
      refine m_iconst (v := 1) X dX6_ticks_29 (by decide) rfl ?_
      refine m_cV3 X dX6_ticks_30 lk_X6_141 mk_X6_goes in_X6_goes se_X6_goes rfl rfl (c_X6_goes1 rfl) rfl (Nat.le_of_ble_eq_true rfl) (Nat.le_of_ble_eq_true rfl) (Nat.le_of_ble_eq_true rfl) (Nat.le_of_ble_eq_true rfl) (Nat.le_of_ble_eq_true rfl) rfl ?_
      refine m_istore_n X dX6_ticks_33 (Nat.le_of_ble_eq_true rfl) rfl ?_
      refine m_iconst (v := 0) X dX6_ticks_34 (by decide) rfl ?_
      refine m_istore X dX6_ticks_35 (Nat.le_of_ble_eq_true rfl) rfl ?_
      refine m_iload X dX6_ticks_37 rfl rfl ?_
      refine m_iload_n X dX6_ticks_39 rfl rfl ?_
      refine m_icmp_ge (tgt := 59) X dX6_ticks_40 (by decide) rfl (fun b40 => ?_) (fun b40 => ?_)
      · refine m_iload_n X dX6_ticks_59 rfl rfl ?_
        refine m_if_eq (tgt := 70) X dX6_ticks_60 (by decide) rfl (fun b60 => ?_) (fun b60 => absurd b60 (not_not_intro rfl))
        refine m_iconst (v := 0) X dX6_ticks_70 (by decide) rfl ?_
        exact m_iret X dX6_ticks_71 rfl (rfl) (Nat.le_of_ble_eq_true rfl) (Nat.le_of_ble_eq_true rfl) rfl
      · refine m_iload_n X dX6_ticks_43 rfl rfl ?_
        refine m_if_eq (tgt := 59) X dX6_ticks_44 (by decide) rfl (fun b44 => ?_) (fun b44 => absurd b44 (not_not_intro rfl))
        refine m_iload_n X dX6_ticks_59 rfl rfl ?_
        refine m_if_eq (tgt := 70) X dX6_ticks_60 (by decide) rfl (fun b60 => ?_) (fun b60 => absurd b60 (not_not_intro rfl))
        refine m_iconst (v := 0) X dX6_ticks_70 (by decide) rfl ?_
        exact m_iret X dX6_ticks_71 rfl (rfl) (Nat.le_of_ble_eq_true rfl) (Nat.le_of_ble_eq_true rfl) rfl
    · exact absurd ⟨Classical.not_not.mp (fun q => b10 (bi_f q)), Classical.not_not.mp (fun q => b20 (bi_f q))⟩ hn
theorem c_X6_zero {v w : m_V} {a b : m_R} {x z : Int64} {lq : Int32} {t : m_H} (h0 : w 10 = 0) (hr : rS w b) (hc : calm w) (h4 : -500 ≤ w 4 ∧ w 4 ≤ 500) : m_Ctr M_X6_zero [.ref 17] (hL v a x w b z lq t) (.inl (some (.int (w 0)), hL v a x (upd w 0 (w 4)) b z 0 t)) := by
  refine m_intro (by decide +kernel) (Nat.le_of_ble_eq_true rfl) (fun X => ?_)
  refine m_aload_n X dX6_zero_0 rfl rfl ?_
  refine m_aload_n X dX6_zero_1 rfl rfl ?_
  refine m_getf (v := .int (w 10)) X dX6_zero_2 fl_X6_79 rfl rfl rfl ?_
  refine m_if_ne (tgt := 35) X dX6_zero_5 (by decide) rfl (fun b5 => absurd b5 (not_not_intro h0)) (fun b5 => ?_)
  refine m_aload_n X dX6_zero_8 rfl rfl ?_
  refine m_cV0 X dX6_zero_9 lk_X6_95 mk_X6_settles in_X6_settles se_X6_settles rfl rfl (c_X6_settles hr) rfl (Nat.le_of_ble_eq_true rfl) (Nat.le_of_ble_eq_true rfl) (Nat.le_of_ble_eq_true rfl) (Nat.le_of_ble_eq_true rfl) (Nat.le_of_ble_eq_true rfl) rfl ?_
  refine m_if_eq (tgt := 35) X dX6_zero_12 (by decide) rfl (fun b12 => absurd b12 ((by rw [bi_t hc]; decide))) (fun b12 => ?_)
  refine m_aload_n X dX6_zero_15 rfl rfl ?_
  refine m_getf (v := .int (w 4)) X dX6_zero_16 fl_X6_66 rfl rfl rfl ?_
  refine m_sipush (v := (-500)) X dX6_zero_19 (by decide) rfl ?_
  refine m_sipush (v := (500)) X dX6_zero_22 (by decide) rfl ?_
  refine m_cS3 X dX6_zero_25 lk_X6_56 mk_X6_in st_X6_in (c_X6_in) rfl (Nat.le_of_ble_eq_true rfl) (Nat.le_of_ble_eq_true rfl) (Nat.le_of_ble_eq_true rfl) (Nat.le_of_ble_eq_true rfl) (Nat.le_of_ble_eq_true rfl) rfl ?_
  refine m_if_eq (tgt := 35) X dX6_zero_28 (by decide) rfl (fun b28 => absurd b28 ((by rw [bi_t h4]; decide))) (fun b28 => ?_)
  refine m_iconst (v := 1) X dX6_zero_31 (by decide) rfl ?_
  refine m_goto (tgt := 36) X dX6_zero_32 (by decide) rfl ?_
  refine m_iconst (v := 1) X dX6_zero_36 (by decide) rfl ?_
  refine m_iconst (v := 1) X dX6_zero_37 (by decide) rfl ?_
  refine m_cV3 X dX6_zero_38 lk_X6_141 mk_X6_goes in_X6_goes se_X6_goes rfl rfl (c_X6_goes0 (by decide) (by decide) (by decide)) rfl (Nat.le_of_ble_eq_true rfl) (Nat.le_of_ble_eq_true rfl) (Nat.le_of_ble_eq_true rfl) (Nat.le_of_ble_eq_true rfl) (Nat.le_of_ble_eq_true rfl) rfl ?_
  refine m_if_ne (tgt := 46) X dX6_zero_41 (by decide) rfl (fun b41 => ?_) (fun b41 => absurd b41 (by decide))
  refine m_aload_n X dX6_zero_46 rfl rfl ?_
  refine m_getf (v := .int (w 0)) X dX6_zero_47 fl_X6_69 rfl rfl rfl ?_
  refine m_istore_n X dX6_zero_50 (Nat.le_of_ble_eq_true rfl) rfl ?_
  refine m_aload_n X dX6_zero_51 rfl rfl ?_
  refine m_aload_n X dX6_zero_52 rfl rfl ?_
  refine m_getf (v := .int (w 4)) X dX6_zero_53 fl_X6_66 rfl rfl rfl ?_
  refine m_piM 0 X dX6_zero_56 fl_X6_69 fp_X6_3 rfl rfl rfl rfl ?_
  refine m_iload_n X dX6_zero_59 rfl rfl ?_
  exact m_iret X dX6_zero_60 rfl (rfl) (Nat.le_of_ble_eq_true rfl) (Nat.le_of_ble_eq_true rfl) rfl
theorem f_X6_zero {v w : m_V} {a b : m_R} {x z : Int64} {lq : Int32} {t : m_H} (hr : rS w b) (h0 : ¬ (w 10 = 0 ∧ calm w ∧ (-500 ≤ w 4 ∧ w 4 ≤ 500))) : m_Ctr M_X6_zero [.ref 17] (hL v a x w b z lq t) (.inl (some (.int 0), hL v a x w b z 1 t)) := by
  refine m_intro (by decide +kernel) (Nat.le_of_ble_eq_true rfl) (fun X => ?_)
  refine m_aload_n X dX6_zero_0 rfl rfl ?_
  refine m_aload_n X dX6_zero_1 rfl rfl ?_
  refine m_getf (v := .int (w 10)) X dX6_zero_2 fl_X6_79 rfl rfl rfl ?_
  refine m_if_ne (tgt := 35) X dX6_zero_5 (by decide) rfl (fun b5 => ?_) (fun b5 => ?_)
  · refine m_iconst (v := 0) X dX6_zero_35 (by decide) rfl ?_
    refine m_iconst (v := 1) X dX6_zero_36 (by decide) rfl ?_
    refine m_iconst (v := 1) X dX6_zero_37 (by decide) rfl ?_
    refine m_cV3 X dX6_zero_38 lk_X6_141 mk_X6_goes in_X6_goes se_X6_goes rfl rfl (c_X6_goes1 rfl) rfl (Nat.le_of_ble_eq_true rfl) (Nat.le_of_ble_eq_true rfl) (Nat.le_of_ble_eq_true rfl) (Nat.le_of_ble_eq_true rfl) (Nat.le_of_ble_eq_true rfl) rfl ?_
    refine m_if_ne (tgt := 46) X dX6_zero_41 (by decide) rfl (fun b41 => absurd b41 (not_not_intro rfl)) (fun b41 => ?_)
    refine m_iconst (v := 0) X dX6_zero_44 (by decide) rfl ?_
    exact m_iret X dX6_zero_45 rfl (rfl) (Nat.le_of_ble_eq_true rfl) (Nat.le_of_ble_eq_true rfl) rfl
  · refine m_aload_n X dX6_zero_8 rfl rfl ?_
    refine m_cV0 X dX6_zero_9 lk_X6_95 mk_X6_settles in_X6_settles se_X6_settles rfl rfl (c_X6_settles hr) rfl (Nat.le_of_ble_eq_true rfl) (Nat.le_of_ble_eq_true rfl) (Nat.le_of_ble_eq_true rfl) (Nat.le_of_ble_eq_true rfl) (Nat.le_of_ble_eq_true rfl) rfl ?_
    refine m_if_eq (tgt := 35) X dX6_zero_12 (by decide) rfl (fun b12 => ?_) (fun b12 => ?_)
    · refine m_iconst (v := 0) X dX6_zero_35 (by decide) rfl ?_
      refine m_iconst (v := 1) X dX6_zero_36 (by decide) rfl ?_
      refine m_iconst (v := 1) X dX6_zero_37 (by decide) rfl ?_
      refine m_cV3 X dX6_zero_38 lk_X6_141 mk_X6_goes in_X6_goes se_X6_goes rfl rfl (c_X6_goes1 rfl) rfl (Nat.le_of_ble_eq_true rfl) (Nat.le_of_ble_eq_true rfl) (Nat.le_of_ble_eq_true rfl) (Nat.le_of_ble_eq_true rfl) (Nat.le_of_ble_eq_true rfl) rfl ?_
      refine m_if_ne (tgt := 46) X dX6_zero_41 (by decide) rfl (fun b41 => absurd b41 (not_not_intro rfl)) (fun b41 => ?_)
      refine m_iconst (v := 0) X dX6_zero_44 (by decide) rfl ?_
      exact m_iret X dX6_zero_45 rfl (rfl) (Nat.le_of_ble_eq_true rfl) (Nat.le_of_ble_eq_true rfl) rfl
    · refine m_aload_n X dX6_zero_15 rfl rfl ?_
      refine m_getf (v := .int (w 4)) X dX6_zero_16 fl_X6_66 rfl rfl rfl ?_
      refine m_sipush (v := (-500)) X dX6_zero_19 (by decide) rfl ?_
      refine m_sipush (v := (500)) X dX6_zero_22 (by decide) rfl ?_
      refine m_cS3 X dX6_zero_25 lk_X6_56 mk_X6_in st_X6_in (c_X6_in) rfl (Nat.le_of_ble_eq_true rfl) (Nat.le_of_ble_eq_true rfl) (Nat.le_of_ble_eq_true rfl) (Nat.le_of_ble_eq_true rfl) (Nat.le_of_ble_eq_true rfl) rfl ?_
      refine m_if_eq (tgt := 35) X dX6_zero_28 (by decide) rfl (fun b28 => ?_) (fun b28 => ?_)
      · refine m_iconst (v := 0) X dX6_zero_35 (by decide) rfl ?_
        refine m_iconst (v := 1) X dX6_zero_36 (by decide) rfl ?_
        refine m_iconst (v := 1) X dX6_zero_37 (by decide) rfl ?_
        refine m_cV3 X dX6_zero_38 lk_X6_141 mk_X6_goes in_X6_goes se_X6_goes rfl rfl (c_X6_goes1 rfl) rfl (Nat.le_of_ble_eq_true rfl) (Nat.le_of_ble_eq_true rfl) (Nat.le_of_ble_eq_true rfl) (Nat.le_of_ble_eq_true rfl) (Nat.le_of_ble_eq_true rfl) rfl ?_
        refine m_if_ne (tgt := 46) X dX6_zero_41 (by decide) rfl (fun b41 => absurd b41 (not_not_intro rfl)) (fun b41 => ?_)
        refine m_iconst (v := 0) X dX6_zero_44 (by decide) rfl ?_
        exact m_iret X dX6_zero_45 rfl (rfl) (Nat.le_of_ble_eq_true rfl) (Nat.le_of_ble_eq_true rfl) rfl
      · exact absurd ⟨b5, Classical.not_not.mp (fun q => b12 (bi_f q)), Classical.not_not.mp (fun q => b28 (bi_f q))⟩ h0
theorem c_X6_setBand {v w : m_V} {a b : m_R} {x z : Int64} {lq : Int32} {t : m_H} {n : Int32} (hb : 0 ≤ n ∧ n ≤ 50) : m_Ctr M_X6_setBand [.ref 17, .int n] (hL v a x w b z lq t) (.inl (some (.int (w 2)), hL v a x (upd w 2 n) b z 0 t)) := by
  refine m_intro (by decide +kernel) (Nat.le_of_ble_eq_true rfl) (fun X => ?_)
  refine m_aload_n X dX6_setBand_0 rfl rfl ?_
  refine m_iload_n X dX6_setBand_1 rfl rfl ?_
  refine m_iconst (v := 0) X dX6_setBand_2 (by decide) rfl ?_
  refine m_bipush (v := (50)) X dX6_setBand_3 (by decide) rfl ?_
  refine m_cS3 X dX6_setBand_5 lk_X6_56 mk_X6_in st_X6_in (c_X6_in) rfl (Nat.le_of_ble_eq_true rfl) (Nat.le_of_ble_eq_true rfl) (Nat.le_of_ble_eq_true rfl) (Nat.le_of_ble_eq_true rfl) (Nat.le_of_ble_eq_true rfl) rfl ?_
  refine m_iconst (v := 1) X dX6_setBand_8 (by decide) rfl ?_
  refine m_iconst (v := 1) X dX6_setBand_9 (by decide) rfl ?_
  refine m_cV3 X dX6_setBand_10 lk_X6_141 mk_X6_goes in_X6_goes se_X6_goes rfl rfl (c_X6_goes0 (by rw [bi_t hb]; decide) (by decide) (by decide)) rfl (Nat.le_of_ble_eq_true rfl) (Nat.le_of_ble_eq_true rfl) (Nat.le_of_ble_eq_true rfl) (Nat.le_of_ble_eq_true rfl) (Nat.le_of_ble_eq_true rfl) rfl ?_
  refine m_if_ne (tgt := 18) X dX6_setBand_13 (by decide) rfl (fun b13 => ?_) (fun b13 => absurd b13 (by decide))
  refine m_aload_n X dX6_setBand_18 rfl rfl ?_
  refine m_getf (v := .int (w 2)) X dX6_setBand_19 fl_X6_13 rfl rfl rfl ?_
  refine m_istore_n X dX6_setBand_22 (Nat.le_of_ble_eq_true rfl) rfl ?_
  refine m_aload_n X dX6_setBand_23 rfl rfl ?_
  refine m_iload_n X dX6_setBand_24 rfl rfl ?_
  refine m_piM 2 X dX6_setBand_25 fl_X6_13 fp_X6_5 rfl rfl rfl rfl ?_
  refine m_iload_n X dX6_setBand_28 rfl rfl ?_
  exact m_iret X dX6_setBand_29 rfl (rfl) (Nat.le_of_ble_eq_true rfl) (Nat.le_of_ble_eq_true rfl) rfl
theorem f_X6_setBand {v w : m_V} {a b : m_R} {x z : Int64} {lq : Int32} {t : m_H} {n : Int32} (hb : ¬ (0 ≤ n ∧ n ≤ 50)) : m_Ctr M_X6_setBand [.ref 17, .int n] (hL v a x w b z lq t) (.inl (some (.int 0), hL v a x w b z 1 t)) := by
  refine m_intro (by decide +kernel) (Nat.le_of_ble_eq_true rfl) (fun X => ?_)
  refine m_aload_n X dX6_setBand_0 rfl rfl ?_
  refine m_iload_n X dX6_setBand_1 rfl rfl ?_
  refine m_iconst (v := 0) X dX6_setBand_2 (by decide) rfl ?_
  refine m_bipush (v := (50)) X dX6_setBand_3 (by decide) rfl ?_
  refine m_cS3 X dX6_setBand_5 lk_X6_56 mk_X6_in st_X6_in (c_X6_in) rfl (Nat.le_of_ble_eq_true rfl) (Nat.le_of_ble_eq_true rfl) (Nat.le_of_ble_eq_true rfl) (Nat.le_of_ble_eq_true rfl) (Nat.le_of_ble_eq_true rfl) rfl ?_
  refine m_iconst (v := 1) X dX6_setBand_8 (by decide) rfl ?_
  refine m_iconst (v := 1) X dX6_setBand_9 (by decide) rfl ?_
  refine m_cV3 X dX6_setBand_10 lk_X6_141 mk_X6_goes in_X6_goes se_X6_goes rfl rfl (c_X6_goes1 (bi_f hb)) rfl (Nat.le_of_ble_eq_true rfl) (Nat.le_of_ble_eq_true rfl) (Nat.le_of_ble_eq_true rfl) (Nat.le_of_ble_eq_true rfl) (Nat.le_of_ble_eq_true rfl) rfl ?_
  refine m_if_ne (tgt := 18) X dX6_setBand_13 (by decide) rfl (fun b13 => absurd b13 (not_not_intro rfl)) (fun b13 => ?_)
  refine m_iconst (v := 0) X dX6_setBand_16 (by decide) rfl ?_
  exact m_iret X dX6_setBand_17 rfl (rfl) (Nat.le_of_ble_eq_true rfl) (Nat.le_of_ble_eq_true rfl) rfl
theorem c_X6_gross {v w : m_V} {a b : m_R} {x z : Int64} {lq : Int32} {t : m_H}  : m_Ctr M_X6_gross [.ref 17] (hL v a x w b z lq t) (.inl (some (.int (gross w)), hL v a x w b z 0 t)) := by
  refine m_intro (by decide +kernel) (Nat.le_of_ble_eq_true rfl) (fun X => ?_)
  refine m_aload_n X dX6_gross_0 rfl rfl ?_
  refine m_iconst (v := 0) X dX6_gross_1 (by decide) rfl ?_
  refine m_pqM X dX6_gross_2 fl_X6_53 fp_X6_33 rfl rfl rfl rfl ?_
  refine m_aload_n X dX6_gross_5 rfl rfl ?_
  refine m_cV0 X dX6_gross_6 lk_X6_72 mk_X6_grossNow in_X6_grossNow se_X6_grossNow rfl rfl (c_X6_grossNow) rfl (Nat.le_of_ble_eq_true rfl) (Nat.le_of_ble_eq_true rfl) (Nat.le_of_ble_eq_true rfl) (Nat.le_of_ble_eq_true rfl) (Nat.le_of_ble_eq_true rfl) rfl ?_
  exact m_iret X dX6_gross_9 rfl (rfl) (Nat.le_of_ble_eq_true rfl) (Nat.le_of_ble_eq_true rfl) rfl
theorem c_X6_net {v w : m_V} {a b : m_R} {x z : Int64} {lq : Int32} {t : m_H}  : m_Ctr M_X6_net [.ref 17] (hL v a x w b z lq t) (.inl (some (.int (net w)), hL v a x w b z 0 t)) := by
  refine m_intro (by decide +kernel) (Nat.le_of_ble_eq_true rfl) (fun X => ?_)
  refine m_aload_n X dX6_net_0 rfl rfl ?_
  refine m_iconst (v := 0) X dX6_net_1 (by decide) rfl ?_
  refine m_pqM X dX6_net_2 fl_X6_53 fp_X6_33 rfl rfl rfl rfl ?_
  refine m_aload_n X dX6_net_5 rfl rfl ?_
  refine m_cV0 X dX6_net_6 lk_X6_102 mk_X6_netNow in_X6_netNow se_X6_netNow rfl rfl (c_X6_netNow) rfl (Nat.le_of_ble_eq_true rfl) (Nat.le_of_ble_eq_true rfl) (Nat.le_of_ble_eq_true rfl) (Nat.le_of_ble_eq_true rfl) (Nat.le_of_ble_eq_true rfl) rfl ?_
  exact m_iret X dX6_net_9 rfl (rfl) (Nat.le_of_ble_eq_true rfl) (Nat.le_of_ble_eq_true rfl) rfl
theorem c_X6_isSettled {v w : m_V} {a b : m_R} {x z : Int64} {lq : Int32} {t : m_H} (hr : rS w b) : m_Ctr M_X6_isSettled [.ref 17] (hL v a x w b z lq t) (.inl (some (.int (bi (calm w))), hL v a x w b z 0 t)) := by
  refine m_intro (by decide +kernel) (Nat.le_of_ble_eq_true rfl) (fun X => ?_)
  refine m_aload_n X dX6_isSettled_0 rfl rfl ?_
  refine m_iconst (v := 0) X dX6_isSettled_1 (by decide) rfl ?_
  refine m_pqM X dX6_isSettled_2 fl_X6_53 fp_X6_33 rfl rfl rfl rfl ?_
  refine m_aload_n X dX6_isSettled_5 rfl rfl ?_
  refine m_cV0 X dX6_isSettled_6 lk_X6_95 mk_X6_settles in_X6_settles se_X6_settles rfl rfl (c_X6_settles hr) rfl (Nat.le_of_ble_eq_true rfl) (Nat.le_of_ble_eq_true rfl) (Nat.le_of_ble_eq_true rfl) (Nat.le_of_ble_eq_true rfl) (Nat.le_of_ble_eq_true rfl) rfl ?_
  exact m_zret X dX6_isSettled_9 rfl (bi_nar) (rfl) (Nat.le_of_ble_eq_true rfl) (Nat.le_of_ble_eq_true rfl) rfl
theorem c_X6_fill {v w : m_V} {a b : m_R} {x z : Int64} {lq : Int32} {t : m_H} {c n : Int32} (hb : 0 ≤ c ∧ c ≤ 3) (hn : 1 ≤ n ∧ n ≤ 100000) (h8 : vp_in (w 8) 30) : m_Ctr M_X6_fill [.ref 17, .int c, .int n] (hL v a x w b z lq t) (.inl (some (.int (w 8 + 1 - 1)), hL v a x (upd w 8 (w 8 + 1)) (sFillA c n w b) z 0 t)) := by
  refine m_intro (by decide +kernel) (Nat.le_of_ble_eq_true rfl) (fun X => ?_)
  refine m_aload_n X dX6_fill_0 rfl rfl ?_
  refine m_iload_n X dX6_fill_1 rfl rfl ?_
  refine m_cS1 X dX6_fill_2 lk_X6_149 mk_X6_isBin st_X6_isBin (c_X6_isBin) rfl (Nat.le_of_ble_eq_true rfl) (Nat.le_of_ble_eq_true rfl) (Nat.le_of_ble_eq_true rfl) (Nat.le_of_ble_eq_true rfl) (Nat.le_of_ble_eq_true rfl) rfl ?_
  refine m_iload_n X dX6_fill_5 rfl rfl ?_
  refine m_iconst (v := 1) X dX6_fill_6 (by decide) rfl ?_
  refine m_ldc X dX6_fill_7 cs_X6_140 rfl ?_
  refine m_cS3 X dX6_fill_9 lk_X6_56 mk_X6_in st_X6_in (c_X6_in) rfl (Nat.le_of_ble_eq_true rfl) (Nat.le_of_ble_eq_true rfl) (Nat.le_of_ble_eq_true rfl) (Nat.le_of_ble_eq_true rfl) (Nat.le_of_ble_eq_true rfl) rfl ?_
  refine m_aload_n X dX6_fill_12 rfl rfl ?_
  refine m_getf (v := .int (w 8)) X dX6_fill_13 fl_X6_60 rfl rfl rfl ?_
  refine m_bipush (v := (30)) X dX6_fill_16 (by decide) rfl ?_
  refine m_icmp_ge (tgt := 25) X dX6_fill_18 (by decide) rfl (fun b18 => absurd b18 (vi_1 (by decide) h8)) (fun b18 => ?_)
  refine m_iconst (v := 1) X dX6_fill_21 (by decide) rfl ?_
  refine m_goto (tgt := 26) X dX6_fill_22 (by decide) rfl ?_
  refine m_cV3 X dX6_fill_26 lk_X6_141 mk_X6_goes in_X6_goes se_X6_goes rfl rfl (c_X6_goes0 (by rw [bi_t hb]; decide) (by rw [bi_t hn]; decide) (by decide)) rfl (Nat.le_of_ble_eq_true rfl) (Nat.le_of_ble_eq_true rfl) (Nat.le_of_ble_eq_true rfl) (Nat.le_of_ble_eq_true rfl) (Nat.le_of_ble_eq_true rfl) rfl ?_
  refine m_if_ne (tgt := 34) X dX6_fill_29 (by decide) rfl (fun b29 => ?_) (fun b29 => absurd b29 (by decide))
  refine m_aload_n X dX6_fill_34 rfl rfl ?_
  refine m_getf X dX6_fill_35 fl_X6_29 rfl rfl rfl ?_
  refine m_aload_n X dX6_fill_38 rfl rfl ?_
  refine m_getf (v := .int (w 8)) X dX6_fill_39 fl_X6_60 rfl rfl rfl ?_
  refine m_iload_n X dX6_fill_42 rfl rfl ?_
  refine m_iast X dX6_fill_43 rfl (h8) rfl ?_
  refine m_hp hM_a4 ?_
  refine m_aload_n X dX6_fill_44 rfl rfl ?_
  refine m_getf X dX6_fill_45 fl_X6_32 rfl rfl rfl ?_
  refine m_aload_n X dX6_fill_48 rfl rfl ?_
  refine m_getf (v := .int (w 8)) X dX6_fill_49 fl_X6_60 rfl rfl rfl ?_
  refine m_iload_n X dX6_fill_52 rfl rfl ?_
  refine m_iast X dX6_fill_53 rfl (h8) rfl ?_
  refine m_hp hM_a5 ?_
  refine m_aload_n X dX6_fill_54 rfl rfl ?_
  refine m_getf X dX6_fill_55 fl_X6_35 rfl rfl rfl ?_
  refine m_aload_n X dX6_fill_58 rfl rfl ?_
  refine m_getf (v := .int (w 8)) X dX6_fill_59 fl_X6_60 rfl rfl rfl ?_
  refine m_iload_n X dX6_fill_62 rfl rfl ?_
  refine m_iast X dX6_fill_63 rfl (h8) rfl ?_
  refine m_hp hM_a6 ?_
  refine m_aload_n X dX6_fill_64 rfl rfl ?_
  refine m_getf X dX6_fill_65 fl_X6_38 rfl rfl rfl ?_
  refine m_aload_n X dX6_fill_68 rfl rfl ?_
  refine m_getf (v := .int (w 8)) X dX6_fill_69 fl_X6_60 rfl rfl rfl ?_
  refine m_iconst (v := (-1)) X dX6_fill_72 (by decide) rfl ?_
  refine m_iast X dX6_fill_73 rfl (h8) rfl ?_
  refine m_hp hM_a12 ?_
  refine m_aload_n X dX6_fill_74 rfl rfl ?_
  refine m_dup X dX6_fill_75 rfl rfl ?_
  refine m_getf (v := .int (w 8)) X dX6_fill_76 fl_X6_60 rfl rfl rfl ?_
  refine m_iconst (v := 1) X dX6_fill_79 (by decide) rfl ?_
  refine m_iadd X dX6_fill_80 rfl ?_
  refine m_piM 8 X dX6_fill_81 fl_X6_60 fp_X6_15 rfl rfl rfl rfl ?_
  refine m_aload_n X dX6_fill_84 rfl rfl ?_
  refine m_getf X dX6_fill_85 fl_X6_60 rfl rfl rfl ?_
  refine m_iconst (v := 1) X dX6_fill_88 (by decide) rfl ?_
  refine m_isub X dX6_fill_89 rfl ?_
  exact m_iret X dX6_fill_90 rfl (rfl) (Nat.le_of_ble_eq_true rfl) (Nat.le_of_ble_eq_true rfl) rfl
theorem f_X6_fill1 {v w : m_V} {a b : m_R} {x z : Int64} {lq : Int32} {t : m_H} {c n : Int32} (hb : ¬ (0 ≤ c ∧ c ≤ 3)) : m_Ctr M_X6_fill [.ref 17, .int c, .int n] (hL v a x w b z lq t) (.inl (some (.int 0), hL v a x w b z 1 t)) := by
  refine m_intro (by decide +kernel) (Nat.le_of_ble_eq_true rfl) (fun X => ?_)
  refine m_aload_n X dX6_fill_0 rfl rfl ?_
  refine m_iload_n X dX6_fill_1 rfl rfl ?_
  refine m_cS1 X dX6_fill_2 lk_X6_149 mk_X6_isBin st_X6_isBin (c_X6_isBin) rfl (Nat.le_of_ble_eq_true rfl) (Nat.le_of_ble_eq_true rfl) (Nat.le_of_ble_eq_true rfl) (Nat.le_of_ble_eq_true rfl) (Nat.le_of_ble_eq_true rfl) rfl ?_
  refine m_iload_n X dX6_fill_5 rfl rfl ?_
  refine m_iconst (v := 1) X dX6_fill_6 (by decide) rfl ?_
  refine m_ldc X dX6_fill_7 cs_X6_140 rfl ?_
  refine m_cS3 X dX6_fill_9 lk_X6_56 mk_X6_in st_X6_in (c_X6_in) rfl (Nat.le_of_ble_eq_true rfl) (Nat.le_of_ble_eq_true rfl) (Nat.le_of_ble_eq_true rfl) (Nat.le_of_ble_eq_true rfl) (Nat.le_of_ble_eq_true rfl) rfl ?_
  refine m_aload_n X dX6_fill_12 rfl rfl ?_
  refine m_getf (v := .int (w 8)) X dX6_fill_13 fl_X6_60 rfl rfl rfl ?_
  refine m_bipush (v := (30)) X dX6_fill_16 (by decide) rfl ?_
  refine m_icmp_ge (tgt := 25) X dX6_fill_18 (by decide) rfl (fun b18 => ?_) (fun b18 => ?_)
  · refine m_iconst (v := 0) X dX6_fill_25 (by decide) rfl ?_
    refine m_cV3 X dX6_fill_26 lk_X6_141 mk_X6_goes in_X6_goes se_X6_goes rfl rfl (c_X6_goes1 (bi_f hb)) rfl (Nat.le_of_ble_eq_true rfl) (Nat.le_of_ble_eq_true rfl) (Nat.le_of_ble_eq_true rfl) (Nat.le_of_ble_eq_true rfl) (Nat.le_of_ble_eq_true rfl) rfl ?_
    refine m_if_ne (tgt := 34) X dX6_fill_29 (by decide) rfl (fun b29 => absurd b29 (not_not_intro rfl)) (fun b29 => ?_)
    refine m_iconst (v := 0) X dX6_fill_32 (by decide) rfl ?_
    exact m_iret X dX6_fill_33 rfl (rfl) (Nat.le_of_ble_eq_true rfl) (Nat.le_of_ble_eq_true rfl) rfl
  · refine m_iconst (v := 1) X dX6_fill_21 (by decide) rfl ?_
    refine m_goto (tgt := 26) X dX6_fill_22 (by decide) rfl ?_
    refine m_cV3 X dX6_fill_26 lk_X6_141 mk_X6_goes in_X6_goes se_X6_goes rfl rfl (c_X6_goes1 (bi_f hb)) rfl (Nat.le_of_ble_eq_true rfl) (Nat.le_of_ble_eq_true rfl) (Nat.le_of_ble_eq_true rfl) (Nat.le_of_ble_eq_true rfl) (Nat.le_of_ble_eq_true rfl) rfl ?_
    refine m_if_ne (tgt := 34) X dX6_fill_29 (by decide) rfl (fun b29 => absurd b29 (not_not_intro rfl)) (fun b29 => ?_)
    refine m_iconst (v := 0) X dX6_fill_32 (by decide) rfl ?_
    exact m_iret X dX6_fill_33 rfl (rfl) (Nat.le_of_ble_eq_true rfl) (Nat.le_of_ble_eq_true rfl) rfl
theorem f_X6_fill2 {v w : m_V} {a b : m_R} {x z : Int64} {lq : Int32} {t : m_H} {c n : Int32} (hb : 0 ≤ c ∧ c ≤ 3) (hn : ¬ (1 ≤ n ∧ n ≤ 100000)) : m_Ctr M_X6_fill [.ref 17, .int c, .int n] (hL v a x w b z lq t) (.inl (some (.int 0), hL v a x w b z 2 t)) := by
  refine m_intro (by decide +kernel) (Nat.le_of_ble_eq_true rfl) (fun X => ?_)
  refine m_aload_n X dX6_fill_0 rfl rfl ?_
  refine m_iload_n X dX6_fill_1 rfl rfl ?_
  refine m_cS1 X dX6_fill_2 lk_X6_149 mk_X6_isBin st_X6_isBin (c_X6_isBin) rfl (Nat.le_of_ble_eq_true rfl) (Nat.le_of_ble_eq_true rfl) (Nat.le_of_ble_eq_true rfl) (Nat.le_of_ble_eq_true rfl) (Nat.le_of_ble_eq_true rfl) rfl ?_
  refine m_iload_n X dX6_fill_5 rfl rfl ?_
  refine m_iconst (v := 1) X dX6_fill_6 (by decide) rfl ?_
  refine m_ldc X dX6_fill_7 cs_X6_140 rfl ?_
  refine m_cS3 X dX6_fill_9 lk_X6_56 mk_X6_in st_X6_in (c_X6_in) rfl (Nat.le_of_ble_eq_true rfl) (Nat.le_of_ble_eq_true rfl) (Nat.le_of_ble_eq_true rfl) (Nat.le_of_ble_eq_true rfl) (Nat.le_of_ble_eq_true rfl) rfl ?_
  refine m_aload_n X dX6_fill_12 rfl rfl ?_
  refine m_getf (v := .int (w 8)) X dX6_fill_13 fl_X6_60 rfl rfl rfl ?_
  refine m_bipush (v := (30)) X dX6_fill_16 (by decide) rfl ?_
  refine m_icmp_ge (tgt := 25) X dX6_fill_18 (by decide) rfl (fun b18 => ?_) (fun b18 => ?_)
  · refine m_iconst (v := 0) X dX6_fill_25 (by decide) rfl ?_
    refine m_cV3 X dX6_fill_26 lk_X6_141 mk_X6_goes in_X6_goes se_X6_goes rfl rfl (c_X6_goes2 (by rw [bi_t hb]; decide) (bi_f hn)) rfl (Nat.le_of_ble_eq_true rfl) (Nat.le_of_ble_eq_true rfl) (Nat.le_of_ble_eq_true rfl) (Nat.le_of_ble_eq_true rfl) (Nat.le_of_ble_eq_true rfl) rfl ?_
    refine m_if_ne (tgt := 34) X dX6_fill_29 (by decide) rfl (fun b29 => absurd b29 (not_not_intro rfl)) (fun b29 => ?_)
    refine m_iconst (v := 0) X dX6_fill_32 (by decide) rfl ?_
    exact m_iret X dX6_fill_33 rfl (rfl) (Nat.le_of_ble_eq_true rfl) (Nat.le_of_ble_eq_true rfl) rfl
  · refine m_iconst (v := 1) X dX6_fill_21 (by decide) rfl ?_
    refine m_goto (tgt := 26) X dX6_fill_22 (by decide) rfl ?_
    refine m_cV3 X dX6_fill_26 lk_X6_141 mk_X6_goes in_X6_goes se_X6_goes rfl rfl (c_X6_goes2 (by rw [bi_t hb]; decide) (bi_f hn)) rfl (Nat.le_of_ble_eq_true rfl) (Nat.le_of_ble_eq_true rfl) (Nat.le_of_ble_eq_true rfl) (Nat.le_of_ble_eq_true rfl) (Nat.le_of_ble_eq_true rfl) rfl ?_
    refine m_if_ne (tgt := 34) X dX6_fill_29 (by decide) rfl (fun b29 => absurd b29 (not_not_intro rfl)) (fun b29 => ?_)
    refine m_iconst (v := 0) X dX6_fill_32 (by decide) rfl ?_
    exact m_iret X dX6_fill_33 rfl (rfl) (Nat.le_of_ble_eq_true rfl) (Nat.le_of_ble_eq_true rfl) rfl
theorem f_X6_fill3 {v w : m_V} {a b : m_R} {x z : Int64} {lq : Int32} {t : m_H} {c n : Int32} (hb : 0 ≤ c ∧ c ≤ 3) (hn : 1 ≤ n ∧ n ≤ 100000) (h8 : 30 ≤ w 8) : m_Ctr M_X6_fill [.ref 17, .int c, .int n] (hL v a x w b z lq t) (.inl (some (.int 0), hL v a x w b z 3 t)) := by
  refine m_intro (by decide +kernel) (Nat.le_of_ble_eq_true rfl) (fun X => ?_)
  refine m_aload_n X dX6_fill_0 rfl rfl ?_
  refine m_iload_n X dX6_fill_1 rfl rfl ?_
  refine m_cS1 X dX6_fill_2 lk_X6_149 mk_X6_isBin st_X6_isBin (c_X6_isBin) rfl (Nat.le_of_ble_eq_true rfl) (Nat.le_of_ble_eq_true rfl) (Nat.le_of_ble_eq_true rfl) (Nat.le_of_ble_eq_true rfl) (Nat.le_of_ble_eq_true rfl) rfl ?_
  refine m_iload_n X dX6_fill_5 rfl rfl ?_
  refine m_iconst (v := 1) X dX6_fill_6 (by decide) rfl ?_
  refine m_ldc X dX6_fill_7 cs_X6_140 rfl ?_
  refine m_cS3 X dX6_fill_9 lk_X6_56 mk_X6_in st_X6_in (c_X6_in) rfl (Nat.le_of_ble_eq_true rfl) (Nat.le_of_ble_eq_true rfl) (Nat.le_of_ble_eq_true rfl) (Nat.le_of_ble_eq_true rfl) (Nat.le_of_ble_eq_true rfl) rfl ?_
  refine m_aload_n X dX6_fill_12 rfl rfl ?_
  refine m_getf (v := .int (w 8)) X dX6_fill_13 fl_X6_60 rfl rfl rfl ?_
  refine m_bipush (v := (30)) X dX6_fill_16 (by decide) rfl ?_
  refine m_icmp_ge (tgt := 25) X dX6_fill_18 (by decide) rfl (fun b18 => ?_) (fun b18 => absurd b18 (not_not_intro h8))
  refine m_iconst (v := 0) X dX6_fill_25 (by decide) rfl ?_
  refine m_cV3 X dX6_fill_26 lk_X6_141 mk_X6_goes in_X6_goes se_X6_goes rfl rfl (c_X6_goes3 (by rw [bi_t hb]; decide) (by rw [bi_t hn]; decide) rfl) rfl (Nat.le_of_ble_eq_true rfl) (Nat.le_of_ble_eq_true rfl) (Nat.le_of_ble_eq_true rfl) (Nat.le_of_ble_eq_true rfl) (Nat.le_of_ble_eq_true rfl) rfl ?_
  refine m_if_ne (tgt := 34) X dX6_fill_29 (by decide) rfl (fun b29 => absurd b29 (not_not_intro rfl)) (fun b29 => ?_)
  refine m_iconst (v := 0) X dX6_fill_32 (by decide) rfl ?_
  exact m_iret X dX6_fill_33 rfl (rfl) (Nat.le_of_ble_eq_true rfl) (Nat.le_of_ble_eq_true rfl) rfl
theorem c_X6_setMargin {v w : m_V} {a b : m_R} {x z : Int64} {lq : Int32} {t : m_H} {c n : Int32} (hb : 0 ≤ c ∧ c ≤ 3) (hn : 0 ≤ n ∧ n ≤ 1000) : m_Ctr M_X6_setMargin [.ref 17, .int c, .int n] (hL v a x w b z lq t) (.inl (some (.int (b 0 c.toNatClampNeg)), hL v a x w (va_up b 0 (upd (b 0) c.toNatClampNeg n)) z 0 t)) := by
  refine m_intro (by decide +kernel) (Nat.le_of_ble_eq_true rfl) (fun X => ?_)
  refine m_aload_n X dX6_setMargin_0 rfl rfl ?_
  refine m_iload_n X dX6_setMargin_1 rfl rfl ?_
  refine m_cS1 X dX6_setMargin_2 lk_X6_149 mk_X6_isBin st_X6_isBin (c_X6_isBin) rfl (Nat.le_of_ble_eq_true rfl) (Nat.le_of_ble_eq_true rfl) (Nat.le_of_ble_eq_true rfl) (Nat.le_of_ble_eq_true rfl) (Nat.le_of_ble_eq_true rfl) rfl ?_
  refine m_iload_n X dX6_setMargin_5 rfl rfl ?_
  refine m_iconst (v := 0) X dX6_setMargin_6 (by decide) rfl ?_
  refine m_sipush (v := (1000)) X dX6_setMargin_7 (by decide) rfl ?_
  refine m_cS3 X dX6_setMargin_10 lk_X6_56 mk_X6_in st_X6_in (c_X6_in) rfl (Nat.le_of_ble_eq_true rfl) (Nat.le_of_ble_eq_true rfl) (Nat.le_of_ble_eq_true rfl) (Nat.le_of_ble_eq_true rfl) (Nat.le_of_ble_eq_true rfl) rfl ?_
  refine m_iconst (v := 1) X dX6_setMargin_13 (by decide) rfl ?_
  refine m_cV3 X dX6_setMargin_14 lk_X6_141 mk_X6_goes in_X6_goes se_X6_goes rfl rfl (c_X6_goes0 (by rw [bi_t hb]; decide) (by rw [bi_t hn]; decide) (by decide)) rfl (Nat.le_of_ble_eq_true rfl) (Nat.le_of_ble_eq_true rfl) (Nat.le_of_ble_eq_true rfl) (Nat.le_of_ble_eq_true rfl) (Nat.le_of_ble_eq_true rfl) rfl ?_
  refine m_if_ne (tgt := 22) X dX6_setMargin_17 (by decide) rfl (fun b17 => ?_) (fun b17 => absurd b17 (by decide))
  refine m_aload_n X dX6_setMargin_22 rfl rfl ?_
  refine m_getf X dX6_setMargin_23 fl_X6_17 rfl rfl rfl ?_
  refine m_iload_n X dX6_setMargin_26 rfl rfl ?_
  refine m_iald X dX6_setMargin_27 rfl ((bin_in hb)) rfl ?_
  refine m_istore_n X dX6_setMargin_28 (Nat.le_of_ble_eq_true rfl) rfl ?_
  refine m_aload_n X dX6_setMargin_29 rfl rfl ?_
  refine m_getf X dX6_setMargin_30 fl_X6_17 rfl rfl rfl ?_
  refine m_iload_n X dX6_setMargin_33 rfl rfl ?_
  refine m_iload_n X dX6_setMargin_34 rfl rfl ?_
  refine m_iast X dX6_setMargin_35 rfl ((bin_in hb)) rfl ?_
  refine m_hp hM_a0 ?_
  refine m_iload_n X dX6_setMargin_36 rfl rfl ?_
  exact m_iret X dX6_setMargin_37 rfl (rfl) (Nat.le_of_ble_eq_true rfl) (Nat.le_of_ble_eq_true rfl) rfl
theorem f_X6_setMargin1 {v w : m_V} {a b : m_R} {x z : Int64} {lq : Int32} {t : m_H} {c n : Int32} (hb : ¬ (0 ≤ c ∧ c ≤ 3)) : m_Ctr M_X6_setMargin [.ref 17, .int c, .int n] (hL v a x w b z lq t) (.inl (some (.int 0), hL v a x w b z 1 t)) := by
  refine m_intro (by decide +kernel) (Nat.le_of_ble_eq_true rfl) (fun X => ?_)
  refine m_aload_n X dX6_setMargin_0 rfl rfl ?_
  refine m_iload_n X dX6_setMargin_1 rfl rfl ?_
  refine m_cS1 X dX6_setMargin_2 lk_X6_149 mk_X6_isBin st_X6_isBin (c_X6_isBin) rfl (Nat.le_of_ble_eq_true rfl) (Nat.le_of_ble_eq_true rfl) (Nat.le_of_ble_eq_true rfl) (Nat.le_of_ble_eq_true rfl) (Nat.le_of_ble_eq_true rfl) rfl ?_
  refine m_iload_n X dX6_setMargin_5 rfl rfl ?_
  refine m_iconst (v := 0) X dX6_setMargin_6 (by decide) rfl ?_
  refine m_sipush (v := (1000)) X dX6_setMargin_7 (by decide) rfl ?_
  refine m_cS3 X dX6_setMargin_10 lk_X6_56 mk_X6_in st_X6_in (c_X6_in) rfl (Nat.le_of_ble_eq_true rfl) (Nat.le_of_ble_eq_true rfl) (Nat.le_of_ble_eq_true rfl) (Nat.le_of_ble_eq_true rfl) (Nat.le_of_ble_eq_true rfl) rfl ?_
  refine m_iconst (v := 1) X dX6_setMargin_13 (by decide) rfl ?_
  refine m_cV3 X dX6_setMargin_14 lk_X6_141 mk_X6_goes in_X6_goes se_X6_goes rfl rfl (c_X6_goes1 (bi_f hb)) rfl (Nat.le_of_ble_eq_true rfl) (Nat.le_of_ble_eq_true rfl) (Nat.le_of_ble_eq_true rfl) (Nat.le_of_ble_eq_true rfl) (Nat.le_of_ble_eq_true rfl) rfl ?_
  refine m_if_ne (tgt := 22) X dX6_setMargin_17 (by decide) rfl (fun b17 => absurd b17 (not_not_intro rfl)) (fun b17 => ?_)
  refine m_iconst (v := 0) X dX6_setMargin_20 (by decide) rfl ?_
  exact m_iret X dX6_setMargin_21 rfl (rfl) (Nat.le_of_ble_eq_true rfl) (Nat.le_of_ble_eq_true rfl) rfl
theorem f_X6_setMargin2 {v w : m_V} {a b : m_R} {x z : Int64} {lq : Int32} {t : m_H} {c n : Int32} (hb : 0 ≤ c ∧ c ≤ 3) (hn : ¬ (0 ≤ n ∧ n ≤ 1000)) : m_Ctr M_X6_setMargin [.ref 17, .int c, .int n] (hL v a x w b z lq t) (.inl (some (.int 0), hL v a x w b z 2 t)) := by
  refine m_intro (by decide +kernel) (Nat.le_of_ble_eq_true rfl) (fun X => ?_)
  refine m_aload_n X dX6_setMargin_0 rfl rfl ?_
  refine m_iload_n X dX6_setMargin_1 rfl rfl ?_
  refine m_cS1 X dX6_setMargin_2 lk_X6_149 mk_X6_isBin st_X6_isBin (c_X6_isBin) rfl (Nat.le_of_ble_eq_true rfl) (Nat.le_of_ble_eq_true rfl) (Nat.le_of_ble_eq_true rfl) (Nat.le_of_ble_eq_true rfl) (Nat.le_of_ble_eq_true rfl) rfl ?_
  refine m_iload_n X dX6_setMargin_5 rfl rfl ?_
  refine m_iconst (v := 0) X dX6_setMargin_6 (by decide) rfl ?_
  refine m_sipush (v := (1000)) X dX6_setMargin_7 (by decide) rfl ?_
  refine m_cS3 X dX6_setMargin_10 lk_X6_56 mk_X6_in st_X6_in (c_X6_in) rfl (Nat.le_of_ble_eq_true rfl) (Nat.le_of_ble_eq_true rfl) (Nat.le_of_ble_eq_true rfl) (Nat.le_of_ble_eq_true rfl) (Nat.le_of_ble_eq_true rfl) rfl ?_
  refine m_iconst (v := 1) X dX6_setMargin_13 (by decide) rfl ?_
  refine m_cV3 X dX6_setMargin_14 lk_X6_141 mk_X6_goes in_X6_goes se_X6_goes rfl rfl (c_X6_goes2 (by rw [bi_t hb]; decide) (bi_f hn)) rfl (Nat.le_of_ble_eq_true rfl) (Nat.le_of_ble_eq_true rfl) (Nat.le_of_ble_eq_true rfl) (Nat.le_of_ble_eq_true rfl) (Nat.le_of_ble_eq_true rfl) rfl ?_
  refine m_if_ne (tgt := 22) X dX6_setMargin_17 (by decide) rfl (fun b17 => absurd b17 (not_not_intro rfl)) (fun b17 => ?_)
  refine m_iconst (v := 0) X dX6_setMargin_20 (by decide) rfl ?_
  exact m_iret X dX6_setMargin_21 rfl (rfl) (Nat.le_of_ble_eq_true rfl) (Nat.le_of_ble_eq_true rfl) rfl
theorem c_X6_flight {v w : m_V} {a b : m_R} {x z : Int64} {lq : Int32} {t : m_H} {c : Int32} (hb : 0 ≤ c ∧ c ≤ 3) : m_Ctr M_X6_flight [.ref 17, .int c] (hL v a x w b z lq t) (.inl (some (.int (b 1 c.toNatClampNeg)), hL v a x w b z 0 t)) := by
  refine m_intro (by decide +kernel) (Nat.le_of_ble_eq_true rfl) (fun X => ?_)
  refine m_aload_n X dX6_flight_0 rfl rfl ?_
  refine m_iload_n X dX6_flight_1 rfl rfl ?_
  refine m_cS1 X dX6_flight_2 lk_X6_149 mk_X6_isBin st_X6_isBin (c_X6_isBin) rfl (Nat.le_of_ble_eq_true rfl) (Nat.le_of_ble_eq_true rfl) (Nat.le_of_ble_eq_true rfl) (Nat.le_of_ble_eq_true rfl) (Nat.le_of_ble_eq_true rfl) rfl ?_
  refine m_iconst (v := 1) X dX6_flight_5 (by decide) rfl ?_
  refine m_iconst (v := 1) X dX6_flight_6 (by decide) rfl ?_
  refine m_cV3 X dX6_flight_7 lk_X6_141 mk_X6_goes in_X6_goes se_X6_goes rfl rfl (c_X6_goes0 (by rw [bi_t hb]; decide) (by decide) (by decide)) rfl (Nat.le_of_ble_eq_true rfl) (Nat.le_of_ble_eq_true rfl) (Nat.le_of_ble_eq_true rfl) (Nat.le_of_ble_eq_true rfl) (Nat.le_of_ble_eq_true rfl) rfl ?_
  refine m_if_eq (tgt := 22) X dX6_flight_10 (by decide) rfl (fun b10 => absurd b10 (by decide)) (fun b10 => ?_)
  refine m_aload_n X dX6_flight_13 rfl rfl ?_
  refine m_getf X dX6_flight_14 fl_X6_20 rfl rfl rfl ?_
  refine m_iload_n X dX6_flight_17 rfl rfl ?_
  refine m_iald X dX6_flight_18 rfl ((bin_in hb)) rfl ?_
  refine m_goto (tgt := 23) X dX6_flight_19 (by decide) rfl ?_
  exact m_iret X dX6_flight_23 rfl (rfl) (Nat.le_of_ble_eq_true rfl) (Nat.le_of_ble_eq_true rfl) rfl
theorem f_X6_flight {v w : m_V} {a b : m_R} {x z : Int64} {lq : Int32} {t : m_H} {c : Int32} (hb : ¬ (0 ≤ c ∧ c ≤ 3)) : m_Ctr M_X6_flight [.ref 17, .int c] (hL v a x w b z lq t) (.inl (some (.int 0), hL v a x w b z 1 t)) := by
  refine m_intro (by decide +kernel) (Nat.le_of_ble_eq_true rfl) (fun X => ?_)
  refine m_aload_n X dX6_flight_0 rfl rfl ?_
  refine m_iload_n X dX6_flight_1 rfl rfl ?_
  refine m_cS1 X dX6_flight_2 lk_X6_149 mk_X6_isBin st_X6_isBin (c_X6_isBin) rfl (Nat.le_of_ble_eq_true rfl) (Nat.le_of_ble_eq_true rfl) (Nat.le_of_ble_eq_true rfl) (Nat.le_of_ble_eq_true rfl) (Nat.le_of_ble_eq_true rfl) rfl ?_
  refine m_iconst (v := 1) X dX6_flight_5 (by decide) rfl ?_
  refine m_iconst (v := 1) X dX6_flight_6 (by decide) rfl ?_
  refine m_cV3 X dX6_flight_7 lk_X6_141 mk_X6_goes in_X6_goes se_X6_goes rfl rfl (c_X6_goes1 (bi_f hb)) rfl (Nat.le_of_ble_eq_true rfl) (Nat.le_of_ble_eq_true rfl) (Nat.le_of_ble_eq_true rfl) (Nat.le_of_ble_eq_true rfl) (Nat.le_of_ble_eq_true rfl) rfl ?_
  refine m_if_eq (tgt := 22) X dX6_flight_10 (by decide) rfl (fun b10 => ?_) (fun b10 => absurd b10 (not_not_intro rfl))
  refine m_iconst (v := 0) X dX6_flight_22 (by decide) rfl ?_
  exact m_iret X dX6_flight_23 rfl (rfl) (Nat.le_of_ble_eq_true rfl) (Nat.le_of_ble_eq_true rfl) rfl
theorem c_X6_register {v w : m_V} {a b : m_R} {x z : Int64} {lq : Int32} {t : m_H} {c : Int32} (hb : 0 ≤ c ∧ c ≤ 3) : m_Ctr M_X6_register [.ref 17, .int c] (hL v a x w b z lq t) (.inl (some (.int (b 2 c.toNatClampNeg)), hL v a x w b z 0 t)) := by
  refine m_intro (by decide +kernel) (Nat.le_of_ble_eq_true rfl) (fun X => ?_)
  refine m_aload_n X dX6_register_0 rfl rfl ?_
  refine m_iload_n X dX6_register_1 rfl rfl ?_
  refine m_cS1 X dX6_register_2 lk_X6_149 mk_X6_isBin st_X6_isBin (c_X6_isBin) rfl (Nat.le_of_ble_eq_true rfl) (Nat.le_of_ble_eq_true rfl) (Nat.le_of_ble_eq_true rfl) (Nat.le_of_ble_eq_true rfl) (Nat.le_of_ble_eq_true rfl) rfl ?_
  refine m_iconst (v := 1) X dX6_register_5 (by decide) rfl ?_
  refine m_iconst (v := 1) X dX6_register_6 (by decide) rfl ?_
  refine m_cV3 X dX6_register_7 lk_X6_141 mk_X6_goes in_X6_goes se_X6_goes rfl rfl (c_X6_goes0 (by rw [bi_t hb]; decide) (by decide) (by decide)) rfl (Nat.le_of_ble_eq_true rfl) (Nat.le_of_ble_eq_true rfl) (Nat.le_of_ble_eq_true rfl) (Nat.le_of_ble_eq_true rfl) (Nat.le_of_ble_eq_true rfl) rfl ?_
  refine m_if_eq (tgt := 22) X dX6_register_10 (by decide) rfl (fun b10 => absurd b10 (by decide)) (fun b10 => ?_)
  refine m_aload_n X dX6_register_13 rfl rfl ?_
  refine m_getf X dX6_register_14 fl_X6_23 rfl rfl rfl ?_
  refine m_iload_n X dX6_register_17 rfl rfl ?_
  refine m_iald X dX6_register_18 rfl ((bin_in hb)) rfl ?_
  refine m_goto (tgt := 23) X dX6_register_19 (by decide) rfl ?_
  exact m_iret X dX6_register_23 rfl (rfl) (Nat.le_of_ble_eq_true rfl) (Nat.le_of_ble_eq_true rfl) rfl
theorem f_X6_register {v w : m_V} {a b : m_R} {x z : Int64} {lq : Int32} {t : m_H} {c : Int32} (hb : ¬ (0 ≤ c ∧ c ≤ 3)) : m_Ctr M_X6_register [.ref 17, .int c] (hL v a x w b z lq t) (.inl (some (.int 0), hL v a x w b z 1 t)) := by
  refine m_intro (by decide +kernel) (Nat.le_of_ble_eq_true rfl) (fun X => ?_)
  refine m_aload_n X dX6_register_0 rfl rfl ?_
  refine m_iload_n X dX6_register_1 rfl rfl ?_
  refine m_cS1 X dX6_register_2 lk_X6_149 mk_X6_isBin st_X6_isBin (c_X6_isBin) rfl (Nat.le_of_ble_eq_true rfl) (Nat.le_of_ble_eq_true rfl) (Nat.le_of_ble_eq_true rfl) (Nat.le_of_ble_eq_true rfl) (Nat.le_of_ble_eq_true rfl) rfl ?_
  refine m_iconst (v := 1) X dX6_register_5 (by decide) rfl ?_
  refine m_iconst (v := 1) X dX6_register_6 (by decide) rfl ?_
  refine m_cV3 X dX6_register_7 lk_X6_141 mk_X6_goes in_X6_goes se_X6_goes rfl rfl (c_X6_goes1 (bi_f hb)) rfl (Nat.le_of_ble_eq_true rfl) (Nat.le_of_ble_eq_true rfl) (Nat.le_of_ble_eq_true rfl) (Nat.le_of_ble_eq_true rfl) (Nat.le_of_ble_eq_true rfl) rfl ?_
  refine m_if_eq (tgt := 22) X dX6_register_10 (by decide) rfl (fun b10 => ?_) (fun b10 => absurd b10 (not_not_intro rfl))
  refine m_iconst (v := 0) X dX6_register_22 (by decide) rfl ?_
  exact m_iret X dX6_register_23 rfl (rfl) (Nat.le_of_ble_eq_true rfl) (Nat.le_of_ble_eq_true rfl) rfl
theorem sGate_0 {w : m_V} {b : m_R} {c : Int32} (h : w 10 = 0) : sGate w b c = 0 := by
  unfold sGate
  by_cases h1 : ¬ sbin w b = c
  · rw [if_pos h1]
  · rw [if_neg h1, h]; decide
theorem c_X6_gate {v w : m_V} {a b : m_R} {x z : Int64} {lq : Int32} {t : m_H} {c : Int32} (hb : 0 ≤ c ∧ c ≤ 3) (h1 : vp_in (w 15) 6) : m_Ctr M_X6_gate [.ref 17, .int c] (hL v a x w b z lq t) (.inl (some (.int (sGate w b c)), hL v a x w b z 0 t)) := by
  refine m_intro (by decide +kernel) (Nat.le_of_ble_eq_true rfl) (fun X => ?_)
  refine m_aload_n X dX6_gate_0 rfl rfl ?_
  refine m_iload_n X dX6_gate_1 rfl rfl ?_
  refine m_cS1 X dX6_gate_2 lk_X6_149 mk_X6_isBin st_X6_isBin (c_X6_isBin) rfl (Nat.le_of_ble_eq_true rfl) (Nat.le_of_ble_eq_true rfl) (Nat.le_of_ble_eq_true rfl) (Nat.le_of_ble_eq_true rfl) (Nat.le_of_ble_eq_true rfl) rfl ?_
  refine m_iconst (v := 1) X dX6_gate_5 (by decide) rfl ?_
  refine m_iconst (v := 1) X dX6_gate_6 (by decide) rfl ?_
  refine m_cV3 X dX6_gate_7 lk_X6_141 mk_X6_goes in_X6_goes se_X6_goes rfl rfl (c_X6_goes0 (by rw [bi_t hb]; decide) (by decide) (by decide)) rfl (Nat.le_of_ble_eq_true rfl) (Nat.le_of_ble_eq_true rfl) (Nat.le_of_ble_eq_true rfl) (Nat.le_of_ble_eq_true rfl) (Nat.le_of_ble_eq_true rfl) rfl ?_
  refine m_if_eq (tgt := 33) X dX6_gate_10 (by decide) rfl (fun b10 => absurd b10 (by decide)) (fun b10 => ?_)
  refine m_aload_n X dX6_gate_13 rfl rfl ?_
  refine m_getf (v := .int (w 10)) X dX6_gate_14 fl_X6_79 rfl rfl rfl ?_
  refine m_if_eq (tgt := 33) X dX6_gate_17 (by decide) rfl (fun b17 => ?_) (fun b17 => ?_)
  · refine m_iconst (v := 0) X dX6_gate_33 (by decide) rfl ?_
    exact m_iret X dX6_gate_34 rfl (by rw [sGate_0 b17]) (Nat.le_of_ble_eq_true rfl) (Nat.le_of_ble_eq_true rfl) rfl
  · refine m_aload_n X dX6_gate_20 rfl rfl ?_
    refine m_getf X dX6_gate_21 fl_X6_44 rfl rfl rfl ?_
    refine m_aload_n X dX6_gate_24 rfl rfl ?_
    refine m_getf (v := .int (w 15)) X dX6_gate_25 fl_X6_99 rfl rfl rfl ?_
    refine m_iald X dX6_gate_28 rfl (h1) rfl ?_
    refine m_iload_n X dX6_gate_29 rfl rfl ?_
    refine m_icmp_eq (tgt := 35) X dX6_gate_30 (by decide) rfl (fun b30 => ?_) (fun b30 => ?_)
    · replace b30 : sbin w b = c := b30
      refine m_aload_n X dX6_gate_35 rfl rfl ?_
      refine m_getf (v := .int (w 10)) X dX6_gate_36 fl_X6_79 rfl rfl rfl ?_
      refine m_iconst (v := 2) X dX6_gate_39 (by decide) rfl ?_
      refine m_icmp_ne (tgt := 47) X dX6_gate_40 (by decide) rfl (fun b40 => ?_) (fun b40 => ?_)
      · refine m_aload_n X dX6_gate_47 rfl rfl ?_
        refine m_getf (v := .int (w 10)) X dX6_gate_48 fl_X6_79 rfl rfl rfl ?_
        refine m_iconst (v := 3) X dX6_gate_51 (by decide) rfl ?_
        refine m_icmp_eq (tgt := 63) X dX6_gate_52 (by decide) rfl (fun b52 => ?_) (fun b52 => ?_)
        · refine m_iconst (v := 1) X dX6_gate_63 (by decide) rfl ?_
          refine m_goto (tgt := 68) X dX6_gate_64 (by decide) rfl ?_
          exact m_iret X dX6_gate_68 rfl (by unfold sGate; rw [if_neg (not_not_intro b30), if_pos b40, if_pos b52]) (Nat.le_of_ble_eq_true rfl) (Nat.le_of_ble_eq_true rfl) rfl
        · refine m_aload_n X dX6_gate_55 rfl rfl ?_
          refine m_getf (v := .int (w 10)) X dX6_gate_56 fl_X6_79 rfl rfl rfl ?_
          refine m_iconst (v := 5) X dX6_gate_59 (by decide) rfl ?_
          refine m_icmp_ne (tgt := 67) X dX6_gate_60 (by decide) rfl (fun b60 => ?_) (fun b60 => ?_)
          · refine m_iconst (v := 0) X dX6_gate_67 (by decide) rfl ?_
            exact m_iret X dX6_gate_68 rfl (by unfold sGate; rw [if_neg (not_not_intro b30), if_pos b40, if_neg b52, if_pos b60]) (Nat.le_of_ble_eq_true rfl) (Nat.le_of_ble_eq_true rfl) rfl
          · refine m_iconst (v := 1) X dX6_gate_63 (by decide) rfl ?_
            refine m_goto (tgt := 68) X dX6_gate_64 (by decide) rfl ?_
            exact m_iret X dX6_gate_68 rfl (by unfold sGate; rw [if_neg (not_not_intro b30), if_pos b40, if_neg b52, if_neg (not_not_intro b60)]) (Nat.le_of_ble_eq_true rfl) (Nat.le_of_ble_eq_true rfl) rfl
      · refine m_iconst (v := 2) X dX6_gate_43 (by decide) rfl ?_
        refine m_goto (tgt := 68) X dX6_gate_44 (by decide) rfl ?_
        exact m_iret X dX6_gate_68 rfl (by unfold sGate; rw [if_neg (not_not_intro b30), if_neg (not_not_intro b40)]) (Nat.le_of_ble_eq_true rfl) (Nat.le_of_ble_eq_true rfl) rfl
    · replace b30 : ¬(sbin w b = c) := b30
      refine m_iconst (v := 0) X dX6_gate_33 (by decide) rfl ?_
      exact m_iret X dX6_gate_34 rfl (by unfold sGate; rw [if_pos b30]) (Nat.le_of_ble_eq_true rfl) (Nat.le_of_ble_eq_true rfl) rfl
theorem f_X6_gate {v w : m_V} {a b : m_R} {x z : Int64} {lq : Int32} {t : m_H} {c : Int32} (hb : ¬ (0 ≤ c ∧ c ≤ 3)) : m_Ctr M_X6_gate [.ref 17, .int c] (hL v a x w b z lq t) (.inl (some (.int 0), hL v a x w b z 1 t)) := by
  refine m_intro (by decide +kernel) (Nat.le_of_ble_eq_true rfl) (fun X => ?_)
  refine m_aload_n X dX6_gate_0 rfl rfl ?_
  refine m_iload_n X dX6_gate_1 rfl rfl ?_
  refine m_cS1 X dX6_gate_2 lk_X6_149 mk_X6_isBin st_X6_isBin (c_X6_isBin) rfl (Nat.le_of_ble_eq_true rfl) (Nat.le_of_ble_eq_true rfl) (Nat.le_of_ble_eq_true rfl) (Nat.le_of_ble_eq_true rfl) (Nat.le_of_ble_eq_true rfl) rfl ?_
  refine m_iconst (v := 1) X dX6_gate_5 (by decide) rfl ?_
  refine m_iconst (v := 1) X dX6_gate_6 (by decide) rfl ?_
  refine m_cV3 X dX6_gate_7 lk_X6_141 mk_X6_goes in_X6_goes se_X6_goes rfl rfl (c_X6_goes1 (bi_f hb)) rfl (Nat.le_of_ble_eq_true rfl) (Nat.le_of_ble_eq_true rfl) (Nat.le_of_ble_eq_true rfl) (Nat.le_of_ble_eq_true rfl) (Nat.le_of_ble_eq_true rfl) rfl ?_
  refine m_if_eq (tgt := 33) X dX6_gate_10 (by decide) rfl (fun b10 => ?_) (fun b10 => absurd b10 (not_not_intro rfl))
  refine m_iconst (v := 0) X dX6_gate_33 (by decide) rfl ?_
  exact m_iret X dX6_gate_34 rfl (rfl) (Nat.le_of_ble_eq_true rfl) (Nat.le_of_ble_eq_true rfl) rfl
theorem c_X6_stock {v w : m_V} {a b : m_R} {x z : Int64} {lq : Int32} {t : m_H} {c9 : Int32} (hb : 0 ≤ c9 ∧ c9 ≤ 3) (hLo : ∃ L, L ≤ 30 ∧ w 8 = nI L) : m_Ctr M_X6_stock [.ref 17, .int c9] (hL v a x w b z lq t) (.inl (some (.int (sStock c9 b (w 8).toNatClampNeg)), hL v a x w b z 0 t)) := by
  refine m_intro (by decide +kernel) (Nat.le_of_ble_eq_true rfl) (fun {D cI cL sa A p l e s m args below meth c ad} X => ?_)
  obtain ⟨L, hL30, hL8⟩ := hLo
  have eL : (w 8).toNatClampNeg = L := by rw [hL8]; exact nI_clamp (by omega)
  have loop : ∀ k i, i + k = L → m_Go D cI cL ad ((hL v a x w b z lq t)).length (m_Ml M_X6_stock) A p l e (m_rm M_X6_stock) s m args below meth c (m_VQ D cI cL ad ((hL v a x w b z lq t)).length A (.inl (some (.int (sStock c9 b (w 8).toNatClampNeg)), hL v a x w b z 0 t)) below args s (m_Mc M_X6_stock) (m_Ms M_X6_stock)) 16 [(4, .int (nI i)), (2, .int (sStock c9 b i)), (3, .int 1), (0, .ref 17), (1, .int c9)] [] (hL v a x w b z 0 t) 0 0 := by
    intro k
    induction k with
    | zero =>
      intro i hi
      have hiL : i = L := by omega
      subst hiL
      refine m_iload X dX6_stock_16 rfl rfl ?_
      refine m_aload_n X dX6_stock_18 rfl rfl ?_
      refine m_getf (v := .int (w 8)) X dX6_stock_19 fl_X6_60 rfl rfl rfl ?_
      refine m_icmp_ge (tgt := 60) X dX6_stock_22 (by decide) rfl (fun b22 => ?_) (fun b22 => absurd b22 (not_not_intro (by rw [hL8]; exact Int32.le_refl _)))
      refine m_iload_n X dX6_stock_60 rfl rfl ?_
      exact m_iret X dX6_stock_61 rfl (by rw [eL]) (Nat.le_of_ble_eq_true rfl) (Nat.le_of_ble_eq_true rfl) rfl
    | succ k ih =>
      intro i hi
      have hlt : i < L := by omega
      have hin : vp_in (nI i) 30 := vp_in_nI (by omega) (by omega)
      have ein : (nI i).toNatClampNeg = i := nI_clamp (by omega)
      refine m_iload X dX6_stock_16 rfl rfl ?_
      refine m_aload_n X dX6_stock_18 rfl rfl ?_
      refine m_getf (v := .int (w 8)) X dX6_stock_19 fl_X6_60 rfl rfl rfl ?_
      refine m_icmp_ge (tgt := 60) X dX6_stock_22 (by decide) rfl (fun b22 => absurd b22 (by rw [hL8]; exact nI_ge hlt (by omega))) (fun b22 => ?_)
      refine m_iload_n X dX6_stock_25 rfl rfl ?_
      refine m_if_eq (tgt := 60) X dX6_stock_26 (by decide) rfl (fun b26 => absurd b26 (by decide)) (fun b26 => ?_)
      refine m_iload_n X dX6_stock_29 rfl rfl ?_
      refine m_aload_n X dX6_stock_30 rfl rfl ?_
      refine m_getf X dX6_stock_31 fl_X6_29 rfl rfl rfl ?_
      refine m_iload X dX6_stock_34 rfl rfl ?_
      refine m_iald X dX6_stock_36 rfl (hin) rfl ?_
      refine m_iload_n X dX6_stock_37 rfl rfl ?_
      refine m_icmp_ne (tgt := 51) X dX6_stock_38 (by decide) rfl (fun b38 => ?_) (fun b38 => ?_)
      · have e38 : sStock c9 b (i + 1) = sStock c9 b i + 0 := by show sStock c9 b i + _ = _; rw [if_pos (show ¬ b 4 i = c9 by rw [← ein]; exact b38)]
        refine m_iconst (v := 0) X dX6_stock_51 (by decide) rfl ?_
        refine m_iadd X dX6_stock_52 rfl ?_
        refine m_istore_n X dX6_stock_53 (Nat.le_of_ble_eq_true rfl) rfl ?_
        refine m_iinc X dX6_stock_54 rfl (Nat.le_of_ble_eq_true rfl) rfl ?_
        refine m_goto (tgt := 16) X dX6_stock_57 (by decide) rfl ?_
        refine m_lp (l1 := [(4, .int (nI (i + 1))), (2, .int (sStock c9 b (i + 1))), (3, .int 1), (0, .ref 17), (1, .int c9)]) [0, 1, 2, 3, 4] (by rw [e38, nI_succ]; first | rfl | (rw [ein]; rfl)) ?_
        exact ih (i + 1) (by omega)
      · have e38 : sStock c9 b (i + 1) = sStock c9 b i + (b 6 i) := by show sStock c9 b i + _ = _; rw [if_neg (not_not_intro (show b 4 i = c9 by rw [← ein]; exact b38))]
        refine m_aload_n X dX6_stock_41 rfl rfl ?_
        refine m_getf X dX6_stock_42 fl_X6_35 rfl rfl rfl ?_
        refine m_iload X dX6_stock_45 rfl rfl ?_
        refine m_iald X dX6_stock_47 rfl (hin) rfl ?_
        refine m_goto (tgt := 52) X dX6_stock_48 (by decide) rfl ?_
        refine m_iadd X dX6_stock_52 rfl ?_
        refine m_istore_n X dX6_stock_53 (Nat.le_of_ble_eq_true rfl) rfl ?_
        refine m_iinc X dX6_stock_54 rfl (Nat.le_of_ble_eq_true rfl) rfl ?_
        refine m_goto (tgt := 16) X dX6_stock_57 (by decide) rfl ?_
        refine m_lp (l1 := [(4, .int (nI (i + 1))), (2, .int (sStock c9 b (i + 1))), (3, .int 1), (0, .ref 17), (1, .int c9)]) [0, 1, 2, 3, 4] (by rw [e38, nI_succ]; first | rfl | (rw [ein]; rfl)) ?_
        exact ih (i + 1) (by omega)
  refine m_iconst (v := 0) X dX6_stock_0 (by decide) rfl ?_
  refine m_istore_n X dX6_stock_1 (Nat.le_of_ble_eq_true rfl) rfl ?_
  refine m_aload_n X dX6_stock_2 rfl rfl ?_
  refine m_iload_n X dX6_stock_3 rfl rfl ?_
  refine m_cS1 X dX6_stock_4 lk_X6_149 mk_X6_isBin st_X6_isBin (c_X6_isBin) rfl (Nat.le_of_ble_eq_true rfl) (Nat.le_of_ble_eq_true rfl) (Nat.le_of_ble_eq_true rfl) (Nat.le_of_ble_eq_true rfl) (Nat.le_of_ble_eq_true rfl) rfl ?_
  refine m_iconst (v := 1) X dX6_stock_7 (by decide) rfl ?_
  refine m_iconst (v := 1) X dX6_stock_8 (by decide) rfl ?_
  refine m_cV3 X dX6_stock_9 lk_X6_141 mk_X6_goes in_X6_goes se_X6_goes rfl rfl (c_X6_goes0 (by rw [bi_t hb]; decide) (by decide) (by decide)) rfl (Nat.le_of_ble_eq_true rfl) (Nat.le_of_ble_eq_true rfl) (Nat.le_of_ble_eq_true rfl) (Nat.le_of_ble_eq_true rfl) (Nat.le_of_ble_eq_true rfl) rfl ?_
  refine m_istore_n X dX6_stock_12 (Nat.le_of_ble_eq_true rfl) rfl ?_
  refine m_iconst (v := 0) X dX6_stock_13 (by decide) rfl ?_
  refine m_istore X dX6_stock_14 (Nat.le_of_ble_eq_true rfl) rfl ?_
  refine m_lp (l1 := [(4, .int (nI 0)), (2, .int (sStock c9 b 0)), (3, .int 1), (0, .ref 17), (1, .int c9)]) [0, 2, 1, 3, 4] rfl ?_
  exact loop L 0 (by omega)
theorem c_X6_registerByLots {v w : m_V} {a b : m_R} {x z : Int64} {lq : Int32} {t : m_H} {c9 : Int32} (hb : 0 ≤ c9 ∧ c9 ≤ 3) (hLo : ∃ L, L ≤ 30 ∧ w 8 = nI L) : m_Ctr M_X6_registerByLots [.ref 17, .int c9] (hL v a x w b z lq t) (.inl (some (.int (sGone c9 b (w 8).toNatClampNeg + b 3 c9.toNatClampNeg)), hL v a x w b z 0 t)) := by
  refine m_intro (by decide +kernel) (Nat.le_of_ble_eq_true rfl) (fun {D cI cL sa A p l e s m args below meth c ad} X => ?_)
  obtain ⟨L, hL30, hL8⟩ := hLo
  have eL : (w 8).toNatClampNeg = L := by rw [hL8]; exact nI_clamp (by omega)
  have loop : ∀ k i, i + k = L → m_Go D cI cL ad ((hL v a x w b z lq t)).length (m_Ml M_X6_registerByLots) A p l e (m_rm M_X6_registerByLots) s m args below meth c (m_VQ D cI cL ad ((hL v a x w b z lq t)).length A (.inl (some (.int (sGone c9 b (w 8).toNatClampNeg + b 3 c9.toNatClampNeg)), hL v a x w b z 0 t)) below args s (m_Mc M_X6_registerByLots) (m_Ms M_X6_registerByLots)) 16 [(4, .int (nI i)), (2, .int (sGone c9 b i)), (3, .int 1), (0, .ref 17), (1, .int c9)] [] (hL v a x w b z 0 t) 0 0 := by
    intro k
    induction k with
    | zero =>
      intro i hi
      have hiL : i = L := by omega
      subst hiL
      refine m_iload X dX6_registerByLots_16 rfl rfl ?_
      refine m_aload_n X dX6_registerByLots_18 rfl rfl ?_
      refine m_getf (v := .int (w 8)) X dX6_registerByLots_19 fl_X6_60 rfl rfl rfl ?_
      refine m_icmp_ge (tgt := 68) X dX6_registerByLots_22 (by decide) rfl (fun b22 => ?_) (fun b22 => absurd b22 (not_not_intro (by rw [hL8]; exact Int32.le_refl _)))
      refine m_iload_n X dX6_registerByLots_68 rfl rfl ?_
      refine m_if_eq (tgt := 83) X dX6_registerByLots_69 (by decide) rfl (fun b69 => absurd b69 (by decide)) (fun b69 => ?_)
      refine m_iload_n X dX6_registerByLots_72 rfl rfl ?_
      refine m_aload_n X dX6_registerByLots_73 rfl rfl ?_
      refine m_getf X dX6_registerByLots_74 fl_X6_26 rfl rfl rfl ?_
      refine m_iload_n X dX6_registerByLots_77 rfl rfl ?_
      refine m_iald X dX6_registerByLots_78 rfl ((bin_in hb)) rfl ?_
      refine m_iadd X dX6_registerByLots_79 rfl ?_
      refine m_goto (tgt := 84) X dX6_registerByLots_80 (by decide) rfl ?_
      exact m_iret X dX6_registerByLots_84 rfl (by rw [eL]) (Nat.le_of_ble_eq_true rfl) (Nat.le_of_ble_eq_true rfl) rfl
    | succ k ih =>
      intro i hi
      have hlt : i < L := by omega
      have hin : vp_in (nI i) 30 := vp_in_nI (by omega) (by omega)
      have ein : (nI i).toNatClampNeg = i := nI_clamp (by omega)
      refine m_iload X dX6_registerByLots_16 rfl rfl ?_
      refine m_aload_n X dX6_registerByLots_18 rfl rfl ?_
      refine m_getf (v := .int (w 8)) X dX6_registerByLots_19 fl_X6_60 rfl rfl rfl ?_
      refine m_icmp_ge (tgt := 68) X dX6_registerByLots_22 (by decide) rfl (fun b22 => absurd b22 (by rw [hL8]; exact nI_ge hlt (by omega))) (fun b22 => ?_)
      refine m_iload_n X dX6_registerByLots_25 rfl rfl ?_
      refine m_if_eq (tgt := 68) X dX6_registerByLots_26 (by decide) rfl (fun b26 => absurd b26 (by decide)) (fun b26 => ?_)
      refine m_iload_n X dX6_registerByLots_29 rfl rfl ?_
      refine m_aload_n X dX6_registerByLots_30 rfl rfl ?_
      refine m_getf X dX6_registerByLots_31 fl_X6_29 rfl rfl rfl ?_
      refine m_iload X dX6_registerByLots_34 rfl rfl ?_
      refine m_iald X dX6_registerByLots_36 rfl (hin) rfl ?_
      refine m_iload_n X dX6_registerByLots_37 rfl rfl ?_
      refine m_icmp_ne (tgt := 59) X dX6_registerByLots_38 (by decide) rfl (fun b38 => ?_) (fun b38 => ?_)
      · have e38 : sGone c9 b (i + 1) = sGone c9 b i + 0 := by show sGone c9 b i + _ = _; rw [if_pos (show ¬ b 4 i = c9 by rw [← ein]; exact b38)]
        refine m_iconst (v := 0) X dX6_registerByLots_59 (by decide) rfl ?_
        refine m_iadd X dX6_registerByLots_60 rfl ?_
        refine m_istore_n X dX6_registerByLots_61 (Nat.le_of_ble_eq_true rfl) rfl ?_
        refine m_iinc X dX6_registerByLots_62 rfl (Nat.le_of_ble_eq_true rfl) rfl ?_
        refine m_goto (tgt := 16) X dX6_registerByLots_65 (by decide) rfl ?_
        refine m_lp (l1 := [(4, .int (nI (i + 1))), (2, .int (sGone c9 b (i + 1))), (3, .int 1), (0, .ref 17), (1, .int c9)]) [0, 1, 2, 3, 4] (by rw [e38, nI_succ]; first | rfl | (rw [ein]; rfl)) ?_
        exact ih (i + 1) (by omega)
      · have e38 : sGone c9 b (i + 1) = sGone c9 b i + (b 5 i - b 6 i) := by show sGone c9 b i + _ = _; rw [if_neg (not_not_intro (show b 4 i = c9 by rw [← ein]; exact b38))]
        refine m_aload_n X dX6_registerByLots_41 rfl rfl ?_
        refine m_getf X dX6_registerByLots_42 fl_X6_32 rfl rfl rfl ?_
        refine m_iload X dX6_registerByLots_45 rfl rfl ?_
        refine m_iald X dX6_registerByLots_47 rfl (hin) rfl ?_
        refine m_aload_n X dX6_registerByLots_48 rfl rfl ?_
        refine m_getf X dX6_registerByLots_49 fl_X6_35 rfl rfl rfl ?_
        refine m_iload X dX6_registerByLots_52 rfl rfl ?_
        refine m_iald X dX6_registerByLots_54 rfl (hin) rfl ?_
        refine m_isub X dX6_registerByLots_55 rfl ?_
        refine m_goto (tgt := 60) X dX6_registerByLots_56 (by decide) rfl ?_
        refine m_iadd X dX6_registerByLots_60 rfl ?_
        refine m_istore_n X dX6_registerByLots_61 (Nat.le_of_ble_eq_true rfl) rfl ?_
        refine m_iinc X dX6_registerByLots_62 rfl (Nat.le_of_ble_eq_true rfl) rfl ?_
        refine m_goto (tgt := 16) X dX6_registerByLots_65 (by decide) rfl ?_
        refine m_lp (l1 := [(4, .int (nI (i + 1))), (2, .int (sGone c9 b (i + 1))), (3, .int 1), (0, .ref 17), (1, .int c9)]) [0, 1, 2, 3, 4] (by rw [e38, nI_succ]; first | rfl | (rw [ein]; rfl)) ?_
        exact ih (i + 1) (by omega)
  refine m_iconst (v := 0) X dX6_registerByLots_0 (by decide) rfl ?_
  refine m_istore_n X dX6_registerByLots_1 (Nat.le_of_ble_eq_true rfl) rfl ?_
  refine m_aload_n X dX6_registerByLots_2 rfl rfl ?_
  refine m_iload_n X dX6_registerByLots_3 rfl rfl ?_
  refine m_cS1 X dX6_registerByLots_4 lk_X6_149 mk_X6_isBin st_X6_isBin (c_X6_isBin) rfl (Nat.le_of_ble_eq_true rfl) (Nat.le_of_ble_eq_true rfl) (Nat.le_of_ble_eq_true rfl) (Nat.le_of_ble_eq_true rfl) (Nat.le_of_ble_eq_true rfl) rfl ?_
  refine m_iconst (v := 1) X dX6_registerByLots_7 (by decide) rfl ?_
  refine m_iconst (v := 1) X dX6_registerByLots_8 (by decide) rfl ?_
  refine m_cV3 X dX6_registerByLots_9 lk_X6_141 mk_X6_goes in_X6_goes se_X6_goes rfl rfl (c_X6_goes0 (by rw [bi_t hb]; decide) (by decide) (by decide)) rfl (Nat.le_of_ble_eq_true rfl) (Nat.le_of_ble_eq_true rfl) (Nat.le_of_ble_eq_true rfl) (Nat.le_of_ble_eq_true rfl) (Nat.le_of_ble_eq_true rfl) rfl ?_
  refine m_istore_n X dX6_registerByLots_12 (Nat.le_of_ble_eq_true rfl) rfl ?_
  refine m_iconst (v := 0) X dX6_registerByLots_13 (by decide) rfl ?_
  refine m_istore X dX6_registerByLots_14 (Nat.le_of_ble_eq_true rfl) rfl ?_
  refine m_lp (l1 := [(4, .int (nI 0)), (2, .int (sGone c9 b 0)), (3, .int 1), (0, .ref 17), (1, .int c9)]) [0, 2, 1, 3, 4] rfl ?_
  exact loop L 0 (by omega)
theorem f_X6_stock {v w : m_V} {a b : m_R} {x z : Int64} {lq : Int32} {t : m_H} {c : Int32} (hb : ¬ (0 ≤ c ∧ c ≤ 3)) (hLo : ∃ L, L ≤ 30 ∧ w 8 = nI L) : m_Ctr M_X6_stock [.ref 17, .int c] (hL v a x w b z lq t) (.inl (some (.int 0), hL v a x w b z 1 t)) := by
  refine m_intro (by decide +kernel) (Nat.le_of_ble_eq_true rfl) (fun X => ?_)
  refine m_iconst (v := 0) X dX6_stock_0 (by decide) rfl ?_
  refine m_istore_n X dX6_stock_1 (Nat.le_of_ble_eq_true rfl) rfl ?_
  refine m_aload_n X dX6_stock_2 rfl rfl ?_
  refine m_iload_n X dX6_stock_3 rfl rfl ?_
  refine m_cS1 X dX6_stock_4 lk_X6_149 mk_X6_isBin st_X6_isBin (c_X6_isBin) rfl (Nat.le_of_ble_eq_true rfl) (Nat.le_of_ble_eq_true rfl) (Nat.le_of_ble_eq_true rfl) (Nat.le_of_ble_eq_true rfl) (Nat.le_of_ble_eq_true rfl) rfl ?_
  refine m_iconst (v := 1) X dX6_stock_7 (by decide) rfl ?_
  refine m_iconst (v := 1) X dX6_stock_8 (by decide) rfl ?_
  refine m_cV3 X dX6_stock_9 lk_X6_141 mk_X6_goes in_X6_goes se_X6_goes rfl rfl (c_X6_goes1 (bi_f hb)) rfl (Nat.le_of_ble_eq_true rfl) (Nat.le_of_ble_eq_true rfl) (Nat.le_of_ble_eq_true rfl) (Nat.le_of_ble_eq_true rfl) (Nat.le_of_ble_eq_true rfl) rfl ?_
  refine m_istore_n X dX6_stock_12 (Nat.le_of_ble_eq_true rfl) rfl ?_
  refine m_iconst (v := 0) X dX6_stock_13 (by decide) rfl ?_
  refine m_istore X dX6_stock_14 (Nat.le_of_ble_eq_true rfl) rfl ?_
  refine m_iload X dX6_stock_16 rfl rfl ?_
  refine m_aload_n X dX6_stock_18 rfl rfl ?_
  refine m_getf (v := .int (w 8)) X dX6_stock_19 fl_X6_60 rfl rfl rfl ?_
  refine m_icmp_ge (tgt := 60) X dX6_stock_22 (by decide) rfl (fun b22 => ?_) (fun b22 => ?_)
  · refine m_iload_n X dX6_stock_60 rfl rfl ?_
    exact m_iret X dX6_stock_61 rfl (rfl) (Nat.le_of_ble_eq_true rfl) (Nat.le_of_ble_eq_true rfl) rfl
  · refine m_iload_n X dX6_stock_25 rfl rfl ?_
    refine m_if_eq (tgt := 60) X dX6_stock_26 (by decide) rfl (fun b26 => ?_) (fun b26 => absurd b26 (not_not_intro rfl))
    refine m_iload_n X dX6_stock_60 rfl rfl ?_
    exact m_iret X dX6_stock_61 rfl (rfl) (Nat.le_of_ble_eq_true rfl) (Nat.le_of_ble_eq_true rfl) rfl
theorem f_X6_registerByLots {v w : m_V} {a b : m_R} {x z : Int64} {lq : Int32} {t : m_H} {c : Int32} (hb : ¬ (0 ≤ c ∧ c ≤ 3)) (hLo : ∃ L, L ≤ 30 ∧ w 8 = nI L) : m_Ctr M_X6_registerByLots [.ref 17, .int c] (hL v a x w b z lq t) (.inl (some (.int 0), hL v a x w b z 1 t)) := by
  refine m_intro (by decide +kernel) (Nat.le_of_ble_eq_true rfl) (fun X => ?_)
  refine m_iconst (v := 0) X dX6_registerByLots_0 (by decide) rfl ?_
  refine m_istore_n X dX6_registerByLots_1 (Nat.le_of_ble_eq_true rfl) rfl ?_
  refine m_aload_n X dX6_registerByLots_2 rfl rfl ?_
  refine m_iload_n X dX6_registerByLots_3 rfl rfl ?_
  refine m_cS1 X dX6_registerByLots_4 lk_X6_149 mk_X6_isBin st_X6_isBin (c_X6_isBin) rfl (Nat.le_of_ble_eq_true rfl) (Nat.le_of_ble_eq_true rfl) (Nat.le_of_ble_eq_true rfl) (Nat.le_of_ble_eq_true rfl) (Nat.le_of_ble_eq_true rfl) rfl ?_
  refine m_iconst (v := 1) X dX6_registerByLots_7 (by decide) rfl ?_
  refine m_iconst (v := 1) X dX6_registerByLots_8 (by decide) rfl ?_
  refine m_cV3 X dX6_registerByLots_9 lk_X6_141 mk_X6_goes in_X6_goes se_X6_goes rfl rfl (c_X6_goes1 (bi_f hb)) rfl (Nat.le_of_ble_eq_true rfl) (Nat.le_of_ble_eq_true rfl) (Nat.le_of_ble_eq_true rfl) (Nat.le_of_ble_eq_true rfl) (Nat.le_of_ble_eq_true rfl) rfl ?_
  refine m_istore_n X dX6_registerByLots_12 (Nat.le_of_ble_eq_true rfl) rfl ?_
  refine m_iconst (v := 0) X dX6_registerByLots_13 (by decide) rfl ?_
  refine m_istore X dX6_registerByLots_14 (Nat.le_of_ble_eq_true rfl) rfl ?_
  refine m_iload X dX6_registerByLots_16 rfl rfl ?_
  refine m_aload_n X dX6_registerByLots_18 rfl rfl ?_
  refine m_getf (v := .int (w 8)) X dX6_registerByLots_19 fl_X6_60 rfl rfl rfl ?_
  refine m_icmp_ge (tgt := 68) X dX6_registerByLots_22 (by decide) rfl (fun b22 => ?_) (fun b22 => ?_)
  · refine m_iload_n X dX6_registerByLots_68 rfl rfl ?_
    refine m_if_eq (tgt := 83) X dX6_registerByLots_69 (by decide) rfl (fun b69 => ?_) (fun b69 => absurd b69 (not_not_intro rfl))
    refine m_iconst (v := 0) X dX6_registerByLots_83 (by decide) rfl ?_
    exact m_iret X dX6_registerByLots_84 rfl (rfl) (Nat.le_of_ble_eq_true rfl) (Nat.le_of_ble_eq_true rfl) rfl
  · refine m_iload_n X dX6_registerByLots_25 rfl rfl ?_
    refine m_if_eq (tgt := 68) X dX6_registerByLots_26 (by decide) rfl (fun b26 => ?_) (fun b26 => absurd b26 (not_not_intro rfl))
    refine m_iload_n X dX6_registerByLots_68 rfl rfl ?_
    refine m_if_eq (tgt := 83) X dX6_registerByLots_69 (by decide) rfl (fun b69 => ?_) (fun b69 => absurd b69 (not_not_intro rfl))
    refine m_iconst (v := 0) X dX6_registerByLots_83 (by decide) rfl ?_
    exact m_iret X dX6_registerByLots_84 rfl (rfl) (Nat.le_of_ble_eq_true rfl) (Nat.le_of_ble_eq_true rfl) rfl
theorem c_X6_leftOf {v w : m_V} {a b : m_R} {x z : Int64} {lq : Int32} {t : m_H} {i : Int32} (hi : 0 ≤ i ∧ i ≤ w 8 - 1) (h30 : vp_in i 30) : m_Ctr M_X6_leftOf [.ref 17, .int i] (hL v a x w b z lq t) (.inl (some (.int (b 6 i.toNatClampNeg)), hL v a x w b z 0 t)) := by
  refine m_intro (by decide +kernel) (Nat.le_of_ble_eq_true rfl) (fun X => ?_)
  refine m_aload_n X dX6_leftOf_0 rfl rfl ?_
  refine m_aload_n X dX6_leftOf_1 rfl rfl ?_
  refine m_iload_n X dX6_leftOf_2 rfl rfl ?_
  refine m_cV1 X dX6_leftOf_3 lk_X6_153 mk_X6_isLot in_X6_isLot se_X6_isLot rfl rfl (c_X6_isLot) rfl (Nat.le_of_ble_eq_true rfl) (Nat.le_of_ble_eq_true rfl) (Nat.le_of_ble_eq_true rfl) (Nat.le_of_ble_eq_true rfl) (Nat.le_of_ble_eq_true rfl) rfl ?_
  refine m_iconst (v := 1) X dX6_leftOf_6 (by decide) rfl ?_
  refine m_iconst (v := 1) X dX6_leftOf_7 (by decide) rfl ?_
  refine m_cV3 X dX6_leftOf_8 lk_X6_141 mk_X6_goes in_X6_goes se_X6_goes rfl rfl (c_X6_goes0 (by rw [bi_t hi]; decide) (by decide) (by decide)) rfl (Nat.le_of_ble_eq_true rfl) (Nat.le_of_ble_eq_true rfl) (Nat.le_of_ble_eq_true rfl) (Nat.le_of_ble_eq_true rfl) (Nat.le_of_ble_eq_true rfl) rfl ?_
  refine m_if_eq (tgt := 23) X dX6_leftOf_11 (by decide) rfl (fun b11 => absurd b11 (by decide)) (fun b11 => ?_)
  refine m_aload_n X dX6_leftOf_14 rfl rfl ?_
  refine m_getf X dX6_leftOf_15 fl_X6_35 rfl rfl rfl ?_
  refine m_iload_n X dX6_leftOf_18 rfl rfl ?_
  refine m_iald X dX6_leftOf_19 rfl (h30) rfl ?_
  refine m_goto (tgt := 24) X dX6_leftOf_20 (by decide) rfl ?_
  exact m_iret X dX6_leftOf_24 rfl (rfl) (Nat.le_of_ble_eq_true rfl) (Nat.le_of_ble_eq_true rfl) rfl
theorem f_X6_leftOf {v w : m_V} {a b : m_R} {x z : Int64} {lq : Int32} {t : m_H} {i : Int32} (hi : ¬ (0 ≤ i ∧ i ≤ w 8 - 1)) : m_Ctr M_X6_leftOf [.ref 17, .int i] (hL v a x w b z lq t) (.inl (some (.int 0), hL v a x w b z 1 t)) := by
  refine m_intro (by decide +kernel) (Nat.le_of_ble_eq_true rfl) (fun X => ?_)
  refine m_aload_n X dX6_leftOf_0 rfl rfl ?_
  refine m_aload_n X dX6_leftOf_1 rfl rfl ?_
  refine m_iload_n X dX6_leftOf_2 rfl rfl ?_
  refine m_cV1 X dX6_leftOf_3 lk_X6_153 mk_X6_isLot in_X6_isLot se_X6_isLot rfl rfl (c_X6_isLot) rfl (Nat.le_of_ble_eq_true rfl) (Nat.le_of_ble_eq_true rfl) (Nat.le_of_ble_eq_true rfl) (Nat.le_of_ble_eq_true rfl) (Nat.le_of_ble_eq_true rfl) rfl ?_
  refine m_iconst (v := 1) X dX6_leftOf_6 (by decide) rfl ?_
  refine m_iconst (v := 1) X dX6_leftOf_7 (by decide) rfl ?_
  refine m_cV3 X dX6_leftOf_8 lk_X6_141 mk_X6_goes in_X6_goes se_X6_goes rfl rfl (c_X6_goes1 (bi_f hi)) rfl (Nat.le_of_ble_eq_true rfl) (Nat.le_of_ble_eq_true rfl) (Nat.le_of_ble_eq_true rfl) (Nat.le_of_ble_eq_true rfl) (Nat.le_of_ble_eq_true rfl) rfl ?_
  refine m_if_eq (tgt := 23) X dX6_leftOf_11 (by decide) rfl (fun b11 => ?_) (fun b11 => absurd b11 (not_not_intro rfl))
  refine m_iconst (v := 0) X dX6_leftOf_23 (by decide) rfl ?_
  exact m_iret X dX6_leftOf_24 rfl (rfl) (Nat.le_of_ble_eq_true rfl) (Nat.le_of_ble_eq_true rfl) rfl
theorem c_X6_firstBatch {v w : m_V} {a b : m_R} {x z : Int64} {lq : Int32} {t : m_H} {i : Int32} (hi : 0 ≤ i ∧ i ≤ w 8 - 1) (h30 : vp_in i 30) : m_Ctr M_X6_firstBatch [.ref 17, .int i] (hL v a x w b z lq t) (.inl (some (.int (b 12 i.toNatClampNeg)), hL v a x w b z 0 t)) := by
  refine m_intro (by decide +kernel) (Nat.le_of_ble_eq_true rfl) (fun X => ?_)
  refine m_aload_n X dX6_firstBatch_0 rfl rfl ?_
  refine m_aload_n X dX6_firstBatch_1 rfl rfl ?_
  refine m_iload_n X dX6_firstBatch_2 rfl rfl ?_
  refine m_cV1 X dX6_firstBatch_3 lk_X6_153 mk_X6_isLot in_X6_isLot se_X6_isLot rfl rfl (c_X6_isLot) rfl (Nat.le_of_ble_eq_true rfl) (Nat.le_of_ble_eq_true rfl) (Nat.le_of_ble_eq_true rfl) (Nat.le_of_ble_eq_true rfl) (Nat.le_of_ble_eq_true rfl) rfl ?_
  refine m_iconst (v := 1) X dX6_firstBatch_6 (by decide) rfl ?_
  refine m_iconst (v := 1) X dX6_firstBatch_7 (by decide) rfl ?_
  refine m_cV3 X dX6_firstBatch_8 lk_X6_141 mk_X6_goes in_X6_goes se_X6_goes rfl rfl (c_X6_goes0 (by rw [bi_t hi]; decide) (by decide) (by decide)) rfl (Nat.le_of_ble_eq_true rfl) (Nat.le_of_ble_eq_true rfl) (Nat.le_of_ble_eq_true rfl) (Nat.le_of_ble_eq_true rfl) (Nat.le_of_ble_eq_true rfl) rfl ?_
  refine m_if_eq (tgt := 23) X dX6_firstBatch_11 (by decide) rfl (fun b11 => absurd b11 (by decide)) (fun b11 => ?_)
  refine m_aload_n X dX6_firstBatch_14 rfl rfl ?_
  refine m_getf X dX6_firstBatch_15 fl_X6_38 rfl rfl rfl ?_
  refine m_iload_n X dX6_firstBatch_18 rfl rfl ?_
  refine m_iald X dX6_firstBatch_19 rfl (h30) rfl ?_
  refine m_goto (tgt := 24) X dX6_firstBatch_20 (by decide) rfl ?_
  exact m_iret X dX6_firstBatch_24 rfl (rfl) (Nat.le_of_ble_eq_true rfl) (Nat.le_of_ble_eq_true rfl) rfl
theorem f_X6_firstBatch {v w : m_V} {a b : m_R} {x z : Int64} {lq : Int32} {t : m_H} {i : Int32} (hi : ¬ (0 ≤ i ∧ i ≤ w 8 - 1)) : m_Ctr M_X6_firstBatch [.ref 17, .int i] (hL v a x w b z lq t) (.inl (some (.int 0), hL v a x w b z 1 t)) := by
  refine m_intro (by decide +kernel) (Nat.le_of_ble_eq_true rfl) (fun X => ?_)
  refine m_aload_n X dX6_firstBatch_0 rfl rfl ?_
  refine m_aload_n X dX6_firstBatch_1 rfl rfl ?_
  refine m_iload_n X dX6_firstBatch_2 rfl rfl ?_
  refine m_cV1 X dX6_firstBatch_3 lk_X6_153 mk_X6_isLot in_X6_isLot se_X6_isLot rfl rfl (c_X6_isLot) rfl (Nat.le_of_ble_eq_true rfl) (Nat.le_of_ble_eq_true rfl) (Nat.le_of_ble_eq_true rfl) (Nat.le_of_ble_eq_true rfl) (Nat.le_of_ble_eq_true rfl) rfl ?_
  refine m_iconst (v := 1) X dX6_firstBatch_6 (by decide) rfl ?_
  refine m_iconst (v := 1) X dX6_firstBatch_7 (by decide) rfl ?_
  refine m_cV3 X dX6_firstBatch_8 lk_X6_141 mk_X6_goes in_X6_goes se_X6_goes rfl rfl (c_X6_goes1 (bi_f hi)) rfl (Nat.le_of_ble_eq_true rfl) (Nat.le_of_ble_eq_true rfl) (Nat.le_of_ble_eq_true rfl) (Nat.le_of_ble_eq_true rfl) (Nat.le_of_ble_eq_true rfl) rfl ?_
  refine m_if_eq (tgt := 23) X dX6_firstBatch_11 (by decide) rfl (fun b11 => ?_) (fun b11 => absurd b11 (not_not_intro rfl))
  refine m_iconst (v := 0) X dX6_firstBatch_23 (by decide) rfl ?_
  exact m_iret X dX6_firstBatch_24 rfl (rfl) (Nat.le_of_ble_eq_true rfl) (Nat.le_of_ble_eq_true rfl) rfl
theorem c_X6_used {v w : m_V} {a b : m_R} {x z : Int64} {lq : Int32} {t : m_H} {i j : Int32} (hi : 0 ≤ i ∧ i ≤ w 8 - 1) (hj : 0 ≤ j ∧ j ≤ w 20 - 1) (hp : vp_in (20 * i + j) 600) : m_Ctr M_X6_used [.ref 17, .int i, .int j] (hL v a x w b z lq t) (.inl (some (.int (b 7 (20 * i + j).toNatClampNeg)), hL v a x w b z 0 t)) := by
  refine m_intro (by decide +kernel) (Nat.le_of_ble_eq_true rfl) (fun X => ?_)
  refine m_aload_n X dX6_used_0 rfl rfl ?_
  refine m_aload_n X dX6_used_1 rfl rfl ?_
  refine m_iload_n X dX6_used_2 rfl rfl ?_
  refine m_cV1 X dX6_used_3 lk_X6_153 mk_X6_isLot in_X6_isLot se_X6_isLot rfl rfl (c_X6_isLot) rfl (Nat.le_of_ble_eq_true rfl) (Nat.le_of_ble_eq_true rfl) (Nat.le_of_ble_eq_true rfl) (Nat.le_of_ble_eq_true rfl) (Nat.le_of_ble_eq_true rfl) rfl ?_
  refine m_if_eq (tgt := 27) X dX6_used_6 (by decide) rfl (fun b6 => absurd b6 ((by rw [bi_t hi]; decide))) (fun b6 => ?_)
  refine m_iload_n X dX6_used_9 rfl rfl ?_
  refine m_iconst (v := 0) X dX6_used_10 (by decide) rfl ?_
  refine m_aload_n X dX6_used_11 rfl rfl ?_
  refine m_getf (v := .int (w 20)) X dX6_used_12 fl_X6_156 rfl rfl rfl ?_
  refine m_iconst (v := 1) X dX6_used_15 (by decide) rfl ?_
  refine m_isub X dX6_used_16 rfl ?_
  refine m_cS3 X dX6_used_17 lk_X6_56 mk_X6_in st_X6_in (c_X6_in) rfl (Nat.le_of_ble_eq_true rfl) (Nat.le_of_ble_eq_true rfl) (Nat.le_of_ble_eq_true rfl) (Nat.le_of_ble_eq_true rfl) (Nat.le_of_ble_eq_true rfl) rfl ?_
  refine m_if_eq (tgt := 27) X dX6_used_20 (by decide) rfl (fun b20 => absurd b20 ((by rw [bi_t hj]; decide))) (fun b20 => ?_)
  refine m_iconst (v := 1) X dX6_used_23 (by decide) rfl ?_
  refine m_goto (tgt := 28) X dX6_used_24 (by decide) rfl ?_
  refine m_iconst (v := 1) X dX6_used_28 (by decide) rfl ?_
  refine m_iconst (v := 1) X dX6_used_29 (by decide) rfl ?_
  refine m_cV3 X dX6_used_30 lk_X6_141 mk_X6_goes in_X6_goes se_X6_goes rfl rfl (c_X6_goes0 (by decide) (by decide) (by decide)) rfl (Nat.le_of_ble_eq_true rfl) (Nat.le_of_ble_eq_true rfl) (Nat.le_of_ble_eq_true rfl) (Nat.le_of_ble_eq_true rfl) (Nat.le_of_ble_eq_true rfl) rfl ?_
  refine m_if_eq (tgt := 50) X dX6_used_33 (by decide) rfl (fun b33 => absurd b33 (by decide)) (fun b33 => ?_)
  refine m_aload_n X dX6_used_36 rfl rfl ?_
  refine m_getf X dX6_used_37 fl_X6_41 rfl rfl rfl ?_
  refine m_bipush (v := (20)) X dX6_used_40 (by decide) rfl ?_
  refine m_iload_n X dX6_used_42 rfl rfl ?_
  refine m_imul X dX6_used_43 rfl ?_
  refine m_iload_n X dX6_used_44 rfl rfl ?_
  refine m_iadd X dX6_used_45 rfl ?_
  refine m_iald X dX6_used_46 rfl (hp) rfl ?_
  refine m_goto (tgt := 51) X dX6_used_47 (by decide) rfl ?_
  exact m_iret X dX6_used_51 rfl (rfl) (Nat.le_of_ble_eq_true rfl) (Nat.le_of_ble_eq_true rfl) rfl
theorem f_X6_used {v w : m_V} {a b : m_R} {x z : Int64} {lq : Int32} {t : m_H} {i j : Int32} (hn : ¬ ((0 ≤ i ∧ i ≤ w 8 - 1) ∧ (0 ≤ j ∧ j ≤ w 20 - 1))) : m_Ctr M_X6_used [.ref 17, .int i, .int j] (hL v a x w b z lq t) (.inl (some (.int 0), hL v a x w b z 1 t)) := by
  refine m_intro (by decide +kernel) (Nat.le_of_ble_eq_true rfl) (fun X => ?_)
  refine m_aload_n X dX6_used_0 rfl rfl ?_
  refine m_aload_n X dX6_used_1 rfl rfl ?_
  refine m_iload_n X dX6_used_2 rfl rfl ?_
  refine m_cV1 X dX6_used_3 lk_X6_153 mk_X6_isLot in_X6_isLot se_X6_isLot rfl rfl (c_X6_isLot) rfl (Nat.le_of_ble_eq_true rfl) (Nat.le_of_ble_eq_true rfl) (Nat.le_of_ble_eq_true rfl) (Nat.le_of_ble_eq_true rfl) (Nat.le_of_ble_eq_true rfl) rfl ?_
  refine m_if_eq (tgt := 27) X dX6_used_6 (by decide) rfl (fun b6 => ?_) (fun b6 => ?_)
  · refine m_iconst (v := 0) X dX6_used_27 (by decide) rfl ?_
    refine m_iconst (v := 1) X dX6_used_28 (by decide) rfl ?_
    refine m_iconst (v := 1) X dX6_used_29 (by decide) rfl ?_
    refine m_cV3 X dX6_used_30 lk_X6_141 mk_X6_goes in_X6_goes se_X6_goes rfl rfl (c_X6_goes1 rfl) rfl (Nat.le_of_ble_eq_true rfl) (Nat.le_of_ble_eq_true rfl) (Nat.le_of_ble_eq_true rfl) (Nat.le_of_ble_eq_true rfl) (Nat.le_of_ble_eq_true rfl) rfl ?_
    refine m_if_eq (tgt := 50) X dX6_used_33 (by decide) rfl (fun b33 => ?_) (fun b33 => absurd b33 (not_not_intro rfl))
    refine m_iconst (v := 0) X dX6_used_50 (by decide) rfl ?_
    exact m_iret X dX6_used_51 rfl (rfl) (Nat.le_of_ble_eq_true rfl) (Nat.le_of_ble_eq_true rfl) rfl
  · refine m_iload_n X dX6_used_9 rfl rfl ?_
    refine m_iconst (v := 0) X dX6_used_10 (by decide) rfl ?_
    refine m_aload_n X dX6_used_11 rfl rfl ?_
    refine m_getf (v := .int (w 20)) X dX6_used_12 fl_X6_156 rfl rfl rfl ?_
    refine m_iconst (v := 1) X dX6_used_15 (by decide) rfl ?_
    refine m_isub X dX6_used_16 rfl ?_
    refine m_cS3 X dX6_used_17 lk_X6_56 mk_X6_in st_X6_in (c_X6_in) rfl (Nat.le_of_ble_eq_true rfl) (Nat.le_of_ble_eq_true rfl) (Nat.le_of_ble_eq_true rfl) (Nat.le_of_ble_eq_true rfl) (Nat.le_of_ble_eq_true rfl) rfl ?_
    refine m_if_eq (tgt := 27) X dX6_used_20 (by decide) rfl (fun b20 => ?_) (fun b20 => ?_)
    · refine m_iconst (v := 0) X dX6_used_27 (by decide) rfl ?_
      refine m_iconst (v := 1) X dX6_used_28 (by decide) rfl ?_
      refine m_iconst (v := 1) X dX6_used_29 (by decide) rfl ?_
      refine m_cV3 X dX6_used_30 lk_X6_141 mk_X6_goes in_X6_goes se_X6_goes rfl rfl (c_X6_goes1 rfl) rfl (Nat.le_of_ble_eq_true rfl) (Nat.le_of_ble_eq_true rfl) (Nat.le_of_ble_eq_true rfl) (Nat.le_of_ble_eq_true rfl) (Nat.le_of_ble_eq_true rfl) rfl ?_
      refine m_if_eq (tgt := 50) X dX6_used_33 (by decide) rfl (fun b33 => ?_) (fun b33 => absurd b33 (not_not_intro rfl))
      refine m_iconst (v := 0) X dX6_used_50 (by decide) rfl ?_
      exact m_iret X dX6_used_51 rfl (rfl) (Nat.le_of_ble_eq_true rfl) (Nat.le_of_ble_eq_true rfl) rfl
    · exact absurd ⟨Classical.not_not.mp (fun q => b6 (bi_f q)), Classical.not_not.mp (fun q => b20 (bi_f q))⟩ hn
theorem c_X6_addStep {v w : m_V} {a b : m_R} {x z : Int64} {lq : Int32} {t : m_H} {c g l9 : Int32} (hb : 0 ≤ c ∧ c ≤ 3) (ht : 1 ≤ g ∧ g ≤ 10000) (hl : 0 ≤ l9 ∧ l9 ≤ 1000) (h0 : w 10 = 0) (h9 : vp_in (w 9) 6) : m_Ctr M_X6_addStep [.ref 17, .int c, .int g, .int l9] (hL v a x w b z lq t) (.inl (some (.int (w 9 + 1)), hL v a x (upd w 9 (w 9 + 1)) (sAppA c g l9 w b) z 0 t)) := by
  refine m_intro (by decide +kernel) (Nat.le_of_ble_eq_true rfl) (fun X => ?_)
  refine m_aload_n X dX6_addStep_0 rfl rfl ?_
  refine m_iload_n X dX6_addStep_1 rfl rfl ?_
  refine m_cS1 X dX6_addStep_2 lk_X6_149 mk_X6_isBin st_X6_isBin (c_X6_isBin) rfl (Nat.le_of_ble_eq_true rfl) (Nat.le_of_ble_eq_true rfl) (Nat.le_of_ble_eq_true rfl) (Nat.le_of_ble_eq_true rfl) (Nat.le_of_ble_eq_true rfl) rfl ?_
  refine m_iload_n X dX6_addStep_5 rfl rfl ?_
  refine m_iconst (v := 1) X dX6_addStep_6 (by decide) rfl ?_
  refine m_sipush (v := (10000)) X dX6_addStep_7 (by decide) rfl ?_
  refine m_cS3 X dX6_addStep_10 lk_X6_56 mk_X6_in st_X6_in (c_X6_in) rfl (Nat.le_of_ble_eq_true rfl) (Nat.le_of_ble_eq_true rfl) (Nat.le_of_ble_eq_true rfl) (Nat.le_of_ble_eq_true rfl) (Nat.le_of_ble_eq_true rfl) rfl ?_
  refine m_if_eq (tgt := 31) X dX6_addStep_13 (by decide) rfl (fun b13 => absurd b13 ((by rw [bi_t ht]; decide))) (fun b13 => ?_)
  refine m_iload_n X dX6_addStep_16 rfl rfl ?_
  refine m_iconst (v := 0) X dX6_addStep_17 (by decide) rfl ?_
  refine m_sipush (v := (1000)) X dX6_addStep_18 (by decide) rfl ?_
  refine m_cS3 X dX6_addStep_21 lk_X6_56 mk_X6_in st_X6_in (c_X6_in) rfl (Nat.le_of_ble_eq_true rfl) (Nat.le_of_ble_eq_true rfl) (Nat.le_of_ble_eq_true rfl) (Nat.le_of_ble_eq_true rfl) (Nat.le_of_ble_eq_true rfl) rfl ?_
  refine m_if_eq (tgt := 31) X dX6_addStep_24 (by decide) rfl (fun b24 => absurd b24 ((by rw [bi_t hl]; decide))) (fun b24 => ?_)
  refine m_iconst (v := 1) X dX6_addStep_27 (by decide) rfl ?_
  refine m_goto (tgt := 32) X dX6_addStep_28 (by decide) rfl ?_
  refine m_aload_n X dX6_addStep_32 rfl rfl ?_
  refine m_getf (v := .int (w 10)) X dX6_addStep_33 fl_X6_79 rfl rfl rfl ?_
  refine m_if_ne (tgt := 52) X dX6_addStep_36 (by decide) rfl (fun b36 => absurd b36 (not_not_intro h0)) (fun b36 => ?_)
  refine m_aload_n X dX6_addStep_39 rfl rfl ?_
  refine m_getf (v := .int (w 9)) X dX6_addStep_40 fl_X6_159 rfl rfl rfl ?_
  refine m_bipush (v := (6)) X dX6_addStep_43 (by decide) rfl ?_
  refine m_icmp_ge (tgt := 52) X dX6_addStep_45 (by decide) rfl (fun b45 => absurd b45 (vi_1 (by decide) h9)) (fun b45 => ?_)
  refine m_iconst (v := 1) X dX6_addStep_48 (by decide) rfl ?_
  refine m_goto (tgt := 53) X dX6_addStep_49 (by decide) rfl ?_
  refine m_cV3 X dX6_addStep_53 lk_X6_141 mk_X6_goes in_X6_goes se_X6_goes rfl rfl (c_X6_goes0 (by rw [bi_t hb]; decide) (by decide) (by decide)) rfl (Nat.le_of_ble_eq_true rfl) (Nat.le_of_ble_eq_true rfl) (Nat.le_of_ble_eq_true rfl) (Nat.le_of_ble_eq_true rfl) (Nat.le_of_ble_eq_true rfl) rfl ?_
  refine m_if_ne (tgt := 61) X dX6_addStep_56 (by decide) rfl (fun b56 => ?_) (fun b56 => absurd b56 (by decide))
  refine m_aload_n X dX6_addStep_61 rfl rfl ?_
  refine m_getf X dX6_addStep_62 fl_X6_44 rfl rfl rfl ?_
  refine m_aload_n X dX6_addStep_65 rfl rfl ?_
  refine m_getf (v := .int (w 9)) X dX6_addStep_66 fl_X6_159 rfl rfl rfl ?_
  refine m_iload_n X dX6_addStep_69 rfl rfl ?_
  refine m_iast X dX6_addStep_70 rfl (h9) rfl ?_
  refine m_hp hM_a8 ?_
  refine m_aload_n X dX6_addStep_71 rfl rfl ?_
  refine m_getf X dX6_addStep_72 fl_X6_47 rfl rfl rfl ?_
  refine m_aload_n X dX6_addStep_75 rfl rfl ?_
  refine m_getf (v := .int (w 9)) X dX6_addStep_76 fl_X6_159 rfl rfl rfl ?_
  refine m_iload_n X dX6_addStep_79 rfl rfl ?_
  refine m_iast X dX6_addStep_80 rfl (h9) rfl ?_
  refine m_hp hM_a9 ?_
  refine m_aload_n X dX6_addStep_81 rfl rfl ?_
  refine m_getf X dX6_addStep_82 fl_X6_50 rfl rfl rfl ?_
  refine m_aload_n X dX6_addStep_85 rfl rfl ?_
  refine m_getf (v := .int (w 9)) X dX6_addStep_86 fl_X6_159 rfl rfl rfl ?_
  refine m_iload_n X dX6_addStep_89 rfl rfl ?_
  refine m_iast X dX6_addStep_90 rfl (h9) rfl ?_
  refine m_hp hM_a10 ?_
  refine m_aload_n X dX6_addStep_91 rfl rfl ?_
  refine m_dup X dX6_addStep_92 rfl rfl ?_
  refine m_getf (v := .int (w 9)) X dX6_addStep_93 fl_X6_159 rfl rfl rfl ?_
  refine m_iconst (v := 1) X dX6_addStep_96 (by decide) rfl ?_
  refine m_iadd X dX6_addStep_97 rfl ?_
  refine m_piM 9 X dX6_addStep_98 fl_X6_159 fp_X6_19 rfl rfl rfl rfl ?_
  refine m_aload_n X dX6_addStep_101 rfl rfl ?_
  refine m_getf X dX6_addStep_102 fl_X6_159 rfl rfl rfl ?_
  exact m_iret X dX6_addStep_105 rfl (rfl) (Nat.le_of_ble_eq_true rfl) (Nat.le_of_ble_eq_true rfl) rfl
theorem f_X6_addStep1 {v w : m_V} {a b : m_R} {x z : Int64} {lq : Int32} {t : m_H} {c g l9 : Int32} (hb : ¬ (0 ≤ c ∧ c ≤ 3)) : m_Ctr M_X6_addStep [.ref 17, .int c, .int g, .int l9] (hL v a x w b z lq t) (.inl (some (.int 0), hL v a x w b z 1 t)) := by
  refine m_intro (by decide +kernel) (Nat.le_of_ble_eq_true rfl) (fun X => ?_)
  refine m_aload_n X dX6_addStep_0 rfl rfl ?_
  refine m_iload_n X dX6_addStep_1 rfl rfl ?_
  refine m_cS1 X dX6_addStep_2 lk_X6_149 mk_X6_isBin st_X6_isBin (c_X6_isBin) rfl (Nat.le_of_ble_eq_true rfl) (Nat.le_of_ble_eq_true rfl) (Nat.le_of_ble_eq_true rfl) (Nat.le_of_ble_eq_true rfl) (Nat.le_of_ble_eq_true rfl) rfl ?_
  refine m_iload_n X dX6_addStep_5 rfl rfl ?_
  refine m_iconst (v := 1) X dX6_addStep_6 (by decide) rfl ?_
  refine m_sipush (v := (10000)) X dX6_addStep_7 (by decide) rfl ?_
  refine m_cS3 X dX6_addStep_10 lk_X6_56 mk_X6_in st_X6_in (c_X6_in) rfl (Nat.le_of_ble_eq_true rfl) (Nat.le_of_ble_eq_true rfl) (Nat.le_of_ble_eq_true rfl) (Nat.le_of_ble_eq_true rfl) (Nat.le_of_ble_eq_true rfl) rfl ?_
  refine m_if_eq (tgt := 31) X dX6_addStep_13 (by decide) rfl (fun b13 => ?_) (fun b13 => ?_)
  · refine m_iconst (v := 0) X dX6_addStep_31 (by decide) rfl ?_
    refine m_aload_n X dX6_addStep_32 rfl rfl ?_
    refine m_getf (v := .int (w 10)) X dX6_addStep_33 fl_X6_79 rfl rfl rfl ?_
    refine m_if_ne (tgt := 52) X dX6_addStep_36 (by decide) rfl (fun b36 => ?_) (fun b36 => ?_)
    · refine m_iconst (v := 0) X dX6_addStep_52 (by decide) rfl ?_
      refine m_cV3 X dX6_addStep_53 lk_X6_141 mk_X6_goes in_X6_goes se_X6_goes rfl rfl (c_X6_goes1 (bi_f hb)) rfl (Nat.le_of_ble_eq_true rfl) (Nat.le_of_ble_eq_true rfl) (Nat.le_of_ble_eq_true rfl) (Nat.le_of_ble_eq_true rfl) (Nat.le_of_ble_eq_true rfl) rfl ?_
      refine m_if_ne (tgt := 61) X dX6_addStep_56 (by decide) rfl (fun b56 => absurd b56 (not_not_intro rfl)) (fun b56 => ?_)
      refine m_iconst (v := 0) X dX6_addStep_59 (by decide) rfl ?_
      exact m_iret X dX6_addStep_60 rfl (rfl) (Nat.le_of_ble_eq_true rfl) (Nat.le_of_ble_eq_true rfl) rfl
    · refine m_aload_n X dX6_addStep_39 rfl rfl ?_
      refine m_getf (v := .int (w 9)) X dX6_addStep_40 fl_X6_159 rfl rfl rfl ?_
      refine m_bipush (v := (6)) X dX6_addStep_43 (by decide) rfl ?_
      refine m_icmp_ge (tgt := 52) X dX6_addStep_45 (by decide) rfl (fun b45 => ?_) (fun b45 => ?_)
      · refine m_iconst (v := 0) X dX6_addStep_52 (by decide) rfl ?_
        refine m_cV3 X dX6_addStep_53 lk_X6_141 mk_X6_goes in_X6_goes se_X6_goes rfl rfl (c_X6_goes1 (bi_f hb)) rfl (Nat.le_of_ble_eq_true rfl) (Nat.le_of_ble_eq_true rfl) (Nat.le_of_ble_eq_true rfl) (Nat.le_of_ble_eq_true rfl) (Nat.le_of_ble_eq_true rfl) rfl ?_
        refine m_if_ne (tgt := 61) X dX6_addStep_56 (by decide) rfl (fun b56 => absurd b56 (not_not_intro rfl)) (fun b56 => ?_)
        refine m_iconst (v := 0) X dX6_addStep_59 (by decide) rfl ?_
        exact m_iret X dX6_addStep_60 rfl (rfl) (Nat.le_of_ble_eq_true rfl) (Nat.le_of_ble_eq_true rfl) rfl
      · refine m_iconst (v := 1) X dX6_addStep_48 (by decide) rfl ?_
        refine m_goto (tgt := 53) X dX6_addStep_49 (by decide) rfl ?_
        refine m_cV3 X dX6_addStep_53 lk_X6_141 mk_X6_goes in_X6_goes se_X6_goes rfl rfl (c_X6_goes1 (bi_f hb)) rfl (Nat.le_of_ble_eq_true rfl) (Nat.le_of_ble_eq_true rfl) (Nat.le_of_ble_eq_true rfl) (Nat.le_of_ble_eq_true rfl) (Nat.le_of_ble_eq_true rfl) rfl ?_
        refine m_if_ne (tgt := 61) X dX6_addStep_56 (by decide) rfl (fun b56 => absurd b56 (not_not_intro rfl)) (fun b56 => ?_)
        refine m_iconst (v := 0) X dX6_addStep_59 (by decide) rfl ?_
        exact m_iret X dX6_addStep_60 rfl (rfl) (Nat.le_of_ble_eq_true rfl) (Nat.le_of_ble_eq_true rfl) rfl
  · refine m_iload_n X dX6_addStep_16 rfl rfl ?_
    refine m_iconst (v := 0) X dX6_addStep_17 (by decide) rfl ?_
    refine m_sipush (v := (1000)) X dX6_addStep_18 (by decide) rfl ?_
    refine m_cS3 X dX6_addStep_21 lk_X6_56 mk_X6_in st_X6_in (c_X6_in) rfl (Nat.le_of_ble_eq_true rfl) (Nat.le_of_ble_eq_true rfl) (Nat.le_of_ble_eq_true rfl) (Nat.le_of_ble_eq_true rfl) (Nat.le_of_ble_eq_true rfl) rfl ?_
    refine m_if_eq (tgt := 31) X dX6_addStep_24 (by decide) rfl (fun b24 => ?_) (fun b24 => ?_)
    · refine m_iconst (v := 0) X dX6_addStep_31 (by decide) rfl ?_
      refine m_aload_n X dX6_addStep_32 rfl rfl ?_
      refine m_getf (v := .int (w 10)) X dX6_addStep_33 fl_X6_79 rfl rfl rfl ?_
      refine m_if_ne (tgt := 52) X dX6_addStep_36 (by decide) rfl (fun b36 => ?_) (fun b36 => ?_)
      · refine m_iconst (v := 0) X dX6_addStep_52 (by decide) rfl ?_
        refine m_cV3 X dX6_addStep_53 lk_X6_141 mk_X6_goes in_X6_goes se_X6_goes rfl rfl (c_X6_goes1 (bi_f hb)) rfl (Nat.le_of_ble_eq_true rfl) (Nat.le_of_ble_eq_true rfl) (Nat.le_of_ble_eq_true rfl) (Nat.le_of_ble_eq_true rfl) (Nat.le_of_ble_eq_true rfl) rfl ?_
        refine m_if_ne (tgt := 61) X dX6_addStep_56 (by decide) rfl (fun b56 => absurd b56 (not_not_intro rfl)) (fun b56 => ?_)
        refine m_iconst (v := 0) X dX6_addStep_59 (by decide) rfl ?_
        exact m_iret X dX6_addStep_60 rfl (rfl) (Nat.le_of_ble_eq_true rfl) (Nat.le_of_ble_eq_true rfl) rfl
      · refine m_aload_n X dX6_addStep_39 rfl rfl ?_
        refine m_getf (v := .int (w 9)) X dX6_addStep_40 fl_X6_159 rfl rfl rfl ?_
        refine m_bipush (v := (6)) X dX6_addStep_43 (by decide) rfl ?_
        refine m_icmp_ge (tgt := 52) X dX6_addStep_45 (by decide) rfl (fun b45 => ?_) (fun b45 => ?_)
        · refine m_iconst (v := 0) X dX6_addStep_52 (by decide) rfl ?_
          refine m_cV3 X dX6_addStep_53 lk_X6_141 mk_X6_goes in_X6_goes se_X6_goes rfl rfl (c_X6_goes1 (bi_f hb)) rfl (Nat.le_of_ble_eq_true rfl) (Nat.le_of_ble_eq_true rfl) (Nat.le_of_ble_eq_true rfl) (Nat.le_of_ble_eq_true rfl) (Nat.le_of_ble_eq_true rfl) rfl ?_
          refine m_if_ne (tgt := 61) X dX6_addStep_56 (by decide) rfl (fun b56 => absurd b56 (not_not_intro rfl)) (fun b56 => ?_)
          refine m_iconst (v := 0) X dX6_addStep_59 (by decide) rfl ?_
          exact m_iret X dX6_addStep_60 rfl (rfl) (Nat.le_of_ble_eq_true rfl) (Nat.le_of_ble_eq_true rfl) rfl
        · refine m_iconst (v := 1) X dX6_addStep_48 (by decide) rfl ?_
          refine m_goto (tgt := 53) X dX6_addStep_49 (by decide) rfl ?_
          refine m_cV3 X dX6_addStep_53 lk_X6_141 mk_X6_goes in_X6_goes se_X6_goes rfl rfl (c_X6_goes1 (bi_f hb)) rfl (Nat.le_of_ble_eq_true rfl) (Nat.le_of_ble_eq_true rfl) (Nat.le_of_ble_eq_true rfl) (Nat.le_of_ble_eq_true rfl) (Nat.le_of_ble_eq_true rfl) rfl ?_
          refine m_if_ne (tgt := 61) X dX6_addStep_56 (by decide) rfl (fun b56 => absurd b56 (not_not_intro rfl)) (fun b56 => ?_)
          refine m_iconst (v := 0) X dX6_addStep_59 (by decide) rfl ?_
          exact m_iret X dX6_addStep_60 rfl (rfl) (Nat.le_of_ble_eq_true rfl) (Nat.le_of_ble_eq_true rfl) rfl
    · refine m_iconst (v := 1) X dX6_addStep_27 (by decide) rfl ?_
      refine m_goto (tgt := 32) X dX6_addStep_28 (by decide) rfl ?_
      refine m_aload_n X dX6_addStep_32 rfl rfl ?_
      refine m_getf (v := .int (w 10)) X dX6_addStep_33 fl_X6_79 rfl rfl rfl ?_
      refine m_if_ne (tgt := 52) X dX6_addStep_36 (by decide) rfl (fun b36 => ?_) (fun b36 => ?_)
      · refine m_iconst (v := 0) X dX6_addStep_52 (by decide) rfl ?_
        refine m_cV3 X dX6_addStep_53 lk_X6_141 mk_X6_goes in_X6_goes se_X6_goes rfl rfl (c_X6_goes1 (bi_f hb)) rfl (Nat.le_of_ble_eq_true rfl) (Nat.le_of_ble_eq_true rfl) (Nat.le_of_ble_eq_true rfl) (Nat.le_of_ble_eq_true rfl) (Nat.le_of_ble_eq_true rfl) rfl ?_
        refine m_if_ne (tgt := 61) X dX6_addStep_56 (by decide) rfl (fun b56 => absurd b56 (not_not_intro rfl)) (fun b56 => ?_)
        refine m_iconst (v := 0) X dX6_addStep_59 (by decide) rfl ?_
        exact m_iret X dX6_addStep_60 rfl (rfl) (Nat.le_of_ble_eq_true rfl) (Nat.le_of_ble_eq_true rfl) rfl
      · refine m_aload_n X dX6_addStep_39 rfl rfl ?_
        refine m_getf (v := .int (w 9)) X dX6_addStep_40 fl_X6_159 rfl rfl rfl ?_
        refine m_bipush (v := (6)) X dX6_addStep_43 (by decide) rfl ?_
        refine m_icmp_ge (tgt := 52) X dX6_addStep_45 (by decide) rfl (fun b45 => ?_) (fun b45 => ?_)
        · refine m_iconst (v := 0) X dX6_addStep_52 (by decide) rfl ?_
          refine m_cV3 X dX6_addStep_53 lk_X6_141 mk_X6_goes in_X6_goes se_X6_goes rfl rfl (c_X6_goes1 (bi_f hb)) rfl (Nat.le_of_ble_eq_true rfl) (Nat.le_of_ble_eq_true rfl) (Nat.le_of_ble_eq_true rfl) (Nat.le_of_ble_eq_true rfl) (Nat.le_of_ble_eq_true rfl) rfl ?_
          refine m_if_ne (tgt := 61) X dX6_addStep_56 (by decide) rfl (fun b56 => absurd b56 (not_not_intro rfl)) (fun b56 => ?_)
          refine m_iconst (v := 0) X dX6_addStep_59 (by decide) rfl ?_
          exact m_iret X dX6_addStep_60 rfl (rfl) (Nat.le_of_ble_eq_true rfl) (Nat.le_of_ble_eq_true rfl) rfl
        · refine m_iconst (v := 1) X dX6_addStep_48 (by decide) rfl ?_
          refine m_goto (tgt := 53) X dX6_addStep_49 (by decide) rfl ?_
          refine m_cV3 X dX6_addStep_53 lk_X6_141 mk_X6_goes in_X6_goes se_X6_goes rfl rfl (c_X6_goes1 (bi_f hb)) rfl (Nat.le_of_ble_eq_true rfl) (Nat.le_of_ble_eq_true rfl) (Nat.le_of_ble_eq_true rfl) (Nat.le_of_ble_eq_true rfl) (Nat.le_of_ble_eq_true rfl) rfl ?_
          refine m_if_ne (tgt := 61) X dX6_addStep_56 (by decide) rfl (fun b56 => absurd b56 (not_not_intro rfl)) (fun b56 => ?_)
          refine m_iconst (v := 0) X dX6_addStep_59 (by decide) rfl ?_
          exact m_iret X dX6_addStep_60 rfl (rfl) (Nat.le_of_ble_eq_true rfl) (Nat.le_of_ble_eq_true rfl) rfl
theorem f_X6_addStep2 {v w : m_V} {a b : m_R} {x z : Int64} {lq : Int32} {t : m_H} {c g l9 : Int32} (hb : 0 ≤ c ∧ c ≤ 3) (ht : ¬ ((1 ≤ g ∧ g ≤ 10000) ∧ (0 ≤ l9 ∧ l9 ≤ 1000))) : m_Ctr M_X6_addStep [.ref 17, .int c, .int g, .int l9] (hL v a x w b z lq t) (.inl (some (.int 0), hL v a x w b z 2 t)) := by
  refine m_intro (by decide +kernel) (Nat.le_of_ble_eq_true rfl) (fun X => ?_)
  refine m_aload_n X dX6_addStep_0 rfl rfl ?_
  refine m_iload_n X dX6_addStep_1 rfl rfl ?_
  refine m_cS1 X dX6_addStep_2 lk_X6_149 mk_X6_isBin st_X6_isBin (c_X6_isBin) rfl (Nat.le_of_ble_eq_true rfl) (Nat.le_of_ble_eq_true rfl) (Nat.le_of_ble_eq_true rfl) (Nat.le_of_ble_eq_true rfl) (Nat.le_of_ble_eq_true rfl) rfl ?_
  refine m_iload_n X dX6_addStep_5 rfl rfl ?_
  refine m_iconst (v := 1) X dX6_addStep_6 (by decide) rfl ?_
  refine m_sipush (v := (10000)) X dX6_addStep_7 (by decide) rfl ?_
  refine m_cS3 X dX6_addStep_10 lk_X6_56 mk_X6_in st_X6_in (c_X6_in) rfl (Nat.le_of_ble_eq_true rfl) (Nat.le_of_ble_eq_true rfl) (Nat.le_of_ble_eq_true rfl) (Nat.le_of_ble_eq_true rfl) (Nat.le_of_ble_eq_true rfl) rfl ?_
  refine m_if_eq (tgt := 31) X dX6_addStep_13 (by decide) rfl (fun b13 => ?_) (fun b13 => ?_)
  · refine m_iconst (v := 0) X dX6_addStep_31 (by decide) rfl ?_
    refine m_aload_n X dX6_addStep_32 rfl rfl ?_
    refine m_getf (v := .int (w 10)) X dX6_addStep_33 fl_X6_79 rfl rfl rfl ?_
    refine m_if_ne (tgt := 52) X dX6_addStep_36 (by decide) rfl (fun b36 => ?_) (fun b36 => ?_)
    · refine m_iconst (v := 0) X dX6_addStep_52 (by decide) rfl ?_
      refine m_cV3 X dX6_addStep_53 lk_X6_141 mk_X6_goes in_X6_goes se_X6_goes rfl rfl (c_X6_goes2 (by rw [bi_t hb]; decide) rfl) rfl (Nat.le_of_ble_eq_true rfl) (Nat.le_of_ble_eq_true rfl) (Nat.le_of_ble_eq_true rfl) (Nat.le_of_ble_eq_true rfl) (Nat.le_of_ble_eq_true rfl) rfl ?_
      refine m_if_ne (tgt := 61) X dX6_addStep_56 (by decide) rfl (fun b56 => absurd b56 (not_not_intro rfl)) (fun b56 => ?_)
      refine m_iconst (v := 0) X dX6_addStep_59 (by decide) rfl ?_
      exact m_iret X dX6_addStep_60 rfl (rfl) (Nat.le_of_ble_eq_true rfl) (Nat.le_of_ble_eq_true rfl) rfl
    · refine m_aload_n X dX6_addStep_39 rfl rfl ?_
      refine m_getf (v := .int (w 9)) X dX6_addStep_40 fl_X6_159 rfl rfl rfl ?_
      refine m_bipush (v := (6)) X dX6_addStep_43 (by decide) rfl ?_
      refine m_icmp_ge (tgt := 52) X dX6_addStep_45 (by decide) rfl (fun b45 => ?_) (fun b45 => ?_)
      · refine m_iconst (v := 0) X dX6_addStep_52 (by decide) rfl ?_
        refine m_cV3 X dX6_addStep_53 lk_X6_141 mk_X6_goes in_X6_goes se_X6_goes rfl rfl (c_X6_goes2 (by rw [bi_t hb]; decide) rfl) rfl (Nat.le_of_ble_eq_true rfl) (Nat.le_of_ble_eq_true rfl) (Nat.le_of_ble_eq_true rfl) (Nat.le_of_ble_eq_true rfl) (Nat.le_of_ble_eq_true rfl) rfl ?_
        refine m_if_ne (tgt := 61) X dX6_addStep_56 (by decide) rfl (fun b56 => absurd b56 (not_not_intro rfl)) (fun b56 => ?_)
        refine m_iconst (v := 0) X dX6_addStep_59 (by decide) rfl ?_
        exact m_iret X dX6_addStep_60 rfl (rfl) (Nat.le_of_ble_eq_true rfl) (Nat.le_of_ble_eq_true rfl) rfl
      · refine m_iconst (v := 1) X dX6_addStep_48 (by decide) rfl ?_
        refine m_goto (tgt := 53) X dX6_addStep_49 (by decide) rfl ?_
        refine m_cV3 X dX6_addStep_53 lk_X6_141 mk_X6_goes in_X6_goes se_X6_goes rfl rfl (c_X6_goes2 (by rw [bi_t hb]; decide) rfl) rfl (Nat.le_of_ble_eq_true rfl) (Nat.le_of_ble_eq_true rfl) (Nat.le_of_ble_eq_true rfl) (Nat.le_of_ble_eq_true rfl) (Nat.le_of_ble_eq_true rfl) rfl ?_
        refine m_if_ne (tgt := 61) X dX6_addStep_56 (by decide) rfl (fun b56 => absurd b56 (not_not_intro rfl)) (fun b56 => ?_)
        refine m_iconst (v := 0) X dX6_addStep_59 (by decide) rfl ?_
        exact m_iret X dX6_addStep_60 rfl (rfl) (Nat.le_of_ble_eq_true rfl) (Nat.le_of_ble_eq_true rfl) rfl
  · refine m_iload_n X dX6_addStep_16 rfl rfl ?_
    refine m_iconst (v := 0) X dX6_addStep_17 (by decide) rfl ?_
    refine m_sipush (v := (1000)) X dX6_addStep_18 (by decide) rfl ?_
    refine m_cS3 X dX6_addStep_21 lk_X6_56 mk_X6_in st_X6_in (c_X6_in) rfl (Nat.le_of_ble_eq_true rfl) (Nat.le_of_ble_eq_true rfl) (Nat.le_of_ble_eq_true rfl) (Nat.le_of_ble_eq_true rfl) (Nat.le_of_ble_eq_true rfl) rfl ?_
    refine m_if_eq (tgt := 31) X dX6_addStep_24 (by decide) rfl (fun b24 => ?_) (fun b24 => ?_)
    · refine m_iconst (v := 0) X dX6_addStep_31 (by decide) rfl ?_
      refine m_aload_n X dX6_addStep_32 rfl rfl ?_
      refine m_getf (v := .int (w 10)) X dX6_addStep_33 fl_X6_79 rfl rfl rfl ?_
      refine m_if_ne (tgt := 52) X dX6_addStep_36 (by decide) rfl (fun b36 => ?_) (fun b36 => ?_)
      · refine m_iconst (v := 0) X dX6_addStep_52 (by decide) rfl ?_
        refine m_cV3 X dX6_addStep_53 lk_X6_141 mk_X6_goes in_X6_goes se_X6_goes rfl rfl (c_X6_goes2 (by rw [bi_t hb]; decide) rfl) rfl (Nat.le_of_ble_eq_true rfl) (Nat.le_of_ble_eq_true rfl) (Nat.le_of_ble_eq_true rfl) (Nat.le_of_ble_eq_true rfl) (Nat.le_of_ble_eq_true rfl) rfl ?_
        refine m_if_ne (tgt := 61) X dX6_addStep_56 (by decide) rfl (fun b56 => absurd b56 (not_not_intro rfl)) (fun b56 => ?_)
        refine m_iconst (v := 0) X dX6_addStep_59 (by decide) rfl ?_
        exact m_iret X dX6_addStep_60 rfl (rfl) (Nat.le_of_ble_eq_true rfl) (Nat.le_of_ble_eq_true rfl) rfl
      · refine m_aload_n X dX6_addStep_39 rfl rfl ?_
        refine m_getf (v := .int (w 9)) X dX6_addStep_40 fl_X6_159 rfl rfl rfl ?_
        refine m_bipush (v := (6)) X dX6_addStep_43 (by decide) rfl ?_
        refine m_icmp_ge (tgt := 52) X dX6_addStep_45 (by decide) rfl (fun b45 => ?_) (fun b45 => ?_)
        · refine m_iconst (v := 0) X dX6_addStep_52 (by decide) rfl ?_
          refine m_cV3 X dX6_addStep_53 lk_X6_141 mk_X6_goes in_X6_goes se_X6_goes rfl rfl (c_X6_goes2 (by rw [bi_t hb]; decide) rfl) rfl (Nat.le_of_ble_eq_true rfl) (Nat.le_of_ble_eq_true rfl) (Nat.le_of_ble_eq_true rfl) (Nat.le_of_ble_eq_true rfl) (Nat.le_of_ble_eq_true rfl) rfl ?_
          refine m_if_ne (tgt := 61) X dX6_addStep_56 (by decide) rfl (fun b56 => absurd b56 (not_not_intro rfl)) (fun b56 => ?_)
          refine m_iconst (v := 0) X dX6_addStep_59 (by decide) rfl ?_
          exact m_iret X dX6_addStep_60 rfl (rfl) (Nat.le_of_ble_eq_true rfl) (Nat.le_of_ble_eq_true rfl) rfl
        · refine m_iconst (v := 1) X dX6_addStep_48 (by decide) rfl ?_
          refine m_goto (tgt := 53) X dX6_addStep_49 (by decide) rfl ?_
          refine m_cV3 X dX6_addStep_53 lk_X6_141 mk_X6_goes in_X6_goes se_X6_goes rfl rfl (c_X6_goes2 (by rw [bi_t hb]; decide) rfl) rfl (Nat.le_of_ble_eq_true rfl) (Nat.le_of_ble_eq_true rfl) (Nat.le_of_ble_eq_true rfl) (Nat.le_of_ble_eq_true rfl) (Nat.le_of_ble_eq_true rfl) rfl ?_
          refine m_if_ne (tgt := 61) X dX6_addStep_56 (by decide) rfl (fun b56 => absurd b56 (not_not_intro rfl)) (fun b56 => ?_)
          refine m_iconst (v := 0) X dX6_addStep_59 (by decide) rfl ?_
          exact m_iret X dX6_addStep_60 rfl (rfl) (Nat.le_of_ble_eq_true rfl) (Nat.le_of_ble_eq_true rfl) rfl
    · exact absurd ⟨Classical.not_not.mp (fun q => b13 (bi_f q)), Classical.not_not.mp (fun q => b24 (bi_f q))⟩ ht
theorem f_X6_addStep3 {v w : m_V} {a b : m_R} {x z : Int64} {lq : Int32} {t : m_H} {c g l9 : Int32} (hb : 0 ≤ c ∧ c ≤ 3) (ht : 1 ≤ g ∧ g ≤ 10000) (hl : 0 ≤ l9 ∧ l9 ≤ 1000) (h0 : ¬ (w 10 = 0 ∧ ¬ 6 ≤ w 9)) : m_Ctr M_X6_addStep [.ref 17, .int c, .int g, .int l9] (hL v a x w b z lq t) (.inl (some (.int 0), hL v a x w b z 3 t)) := by
  refine m_intro (by decide +kernel) (Nat.le_of_ble_eq_true rfl) (fun X => ?_)
  refine m_aload_n X dX6_addStep_0 rfl rfl ?_
  refine m_iload_n X dX6_addStep_1 rfl rfl ?_
  refine m_cS1 X dX6_addStep_2 lk_X6_149 mk_X6_isBin st_X6_isBin (c_X6_isBin) rfl (Nat.le_of_ble_eq_true rfl) (Nat.le_of_ble_eq_true rfl) (Nat.le_of_ble_eq_true rfl) (Nat.le_of_ble_eq_true rfl) (Nat.le_of_ble_eq_true rfl) rfl ?_
  refine m_iload_n X dX6_addStep_5 rfl rfl ?_
  refine m_iconst (v := 1) X dX6_addStep_6 (by decide) rfl ?_
  refine m_sipush (v := (10000)) X dX6_addStep_7 (by decide) rfl ?_
  refine m_cS3 X dX6_addStep_10 lk_X6_56 mk_X6_in st_X6_in (c_X6_in) rfl (Nat.le_of_ble_eq_true rfl) (Nat.le_of_ble_eq_true rfl) (Nat.le_of_ble_eq_true rfl) (Nat.le_of_ble_eq_true rfl) (Nat.le_of_ble_eq_true rfl) rfl ?_
  refine m_if_eq (tgt := 31) X dX6_addStep_13 (by decide) rfl (fun b13 => absurd b13 ((by rw [bi_t ht]; decide))) (fun b13 => ?_)
  refine m_iload_n X dX6_addStep_16 rfl rfl ?_
  refine m_iconst (v := 0) X dX6_addStep_17 (by decide) rfl ?_
  refine m_sipush (v := (1000)) X dX6_addStep_18 (by decide) rfl ?_
  refine m_cS3 X dX6_addStep_21 lk_X6_56 mk_X6_in st_X6_in (c_X6_in) rfl (Nat.le_of_ble_eq_true rfl) (Nat.le_of_ble_eq_true rfl) (Nat.le_of_ble_eq_true rfl) (Nat.le_of_ble_eq_true rfl) (Nat.le_of_ble_eq_true rfl) rfl ?_
  refine m_if_eq (tgt := 31) X dX6_addStep_24 (by decide) rfl (fun b24 => absurd b24 ((by rw [bi_t hl]; decide))) (fun b24 => ?_)
  refine m_iconst (v := 1) X dX6_addStep_27 (by decide) rfl ?_
  refine m_goto (tgt := 32) X dX6_addStep_28 (by decide) rfl ?_
  refine m_aload_n X dX6_addStep_32 rfl rfl ?_
  refine m_getf (v := .int (w 10)) X dX6_addStep_33 fl_X6_79 rfl rfl rfl ?_
  refine m_if_ne (tgt := 52) X dX6_addStep_36 (by decide) rfl (fun b36 => ?_) (fun b36 => ?_)
  · refine m_iconst (v := 0) X dX6_addStep_52 (by decide) rfl ?_
    refine m_cV3 X dX6_addStep_53 lk_X6_141 mk_X6_goes in_X6_goes se_X6_goes rfl rfl (c_X6_goes3 (by rw [bi_t hb]; decide) (by decide) rfl) rfl (Nat.le_of_ble_eq_true rfl) (Nat.le_of_ble_eq_true rfl) (Nat.le_of_ble_eq_true rfl) (Nat.le_of_ble_eq_true rfl) (Nat.le_of_ble_eq_true rfl) rfl ?_
    refine m_if_ne (tgt := 61) X dX6_addStep_56 (by decide) rfl (fun b56 => absurd b56 (not_not_intro rfl)) (fun b56 => ?_)
    refine m_iconst (v := 0) X dX6_addStep_59 (by decide) rfl ?_
    exact m_iret X dX6_addStep_60 rfl (rfl) (Nat.le_of_ble_eq_true rfl) (Nat.le_of_ble_eq_true rfl) rfl
  · refine m_aload_n X dX6_addStep_39 rfl rfl ?_
    refine m_getf (v := .int (w 9)) X dX6_addStep_40 fl_X6_159 rfl rfl rfl ?_
    refine m_bipush (v := (6)) X dX6_addStep_43 (by decide) rfl ?_
    refine m_icmp_ge (tgt := 52) X dX6_addStep_45 (by decide) rfl (fun b45 => ?_) (fun b45 => ?_)
    · refine m_iconst (v := 0) X dX6_addStep_52 (by decide) rfl ?_
      refine m_cV3 X dX6_addStep_53 lk_X6_141 mk_X6_goes in_X6_goes se_X6_goes rfl rfl (c_X6_goes3 (by rw [bi_t hb]; decide) (by decide) rfl) rfl (Nat.le_of_ble_eq_true rfl) (Nat.le_of_ble_eq_true rfl) (Nat.le_of_ble_eq_true rfl) (Nat.le_of_ble_eq_true rfl) (Nat.le_of_ble_eq_true rfl) rfl ?_
      refine m_if_ne (tgt := 61) X dX6_addStep_56 (by decide) rfl (fun b56 => absurd b56 (not_not_intro rfl)) (fun b56 => ?_)
      refine m_iconst (v := 0) X dX6_addStep_59 (by decide) rfl ?_
      exact m_iret X dX6_addStep_60 rfl (rfl) (Nat.le_of_ble_eq_true rfl) (Nat.le_of_ble_eq_true rfl) rfl
    · exact absurd ⟨b36, b45⟩ h0
theorem c_X6_clearRecipe {v w : m_V} {a b : m_R} {x z : Int64} {lq : Int32} {t : m_H} (h0 : w 10 = 0) : m_Ctr M_X6_clearRecipe [.ref 17] (hL v a x w b z lq t) (.inl (some (.int (w 9)), hL v a x (upd w 9 0) b z 0 t)) := by
  refine m_intro (by decide +kernel) (Nat.le_of_ble_eq_true rfl) (fun X => ?_)
  refine m_aload_n X dX6_clearRecipe_0 rfl rfl ?_
  refine m_aload_n X dX6_clearRecipe_1 rfl rfl ?_
  refine m_getf (v := .int (w 10)) X dX6_clearRecipe_2 fl_X6_79 rfl rfl rfl ?_
  refine m_if_ne (tgt := 12) X dX6_clearRecipe_5 (by decide) rfl (fun b5 => absurd b5 (not_not_intro h0)) (fun b5 => ?_)
  refine m_iconst (v := 1) X dX6_clearRecipe_8 (by decide) rfl ?_
  refine m_goto (tgt := 13) X dX6_clearRecipe_9 (by decide) rfl ?_
  refine m_iconst (v := 1) X dX6_clearRecipe_13 (by decide) rfl ?_
  refine m_iconst (v := 1) X dX6_clearRecipe_14 (by decide) rfl ?_
  refine m_cV3 X dX6_clearRecipe_15 lk_X6_141 mk_X6_goes in_X6_goes se_X6_goes rfl rfl (c_X6_goes0 (by decide) (by decide) (by decide)) rfl (Nat.le_of_ble_eq_true rfl) (Nat.le_of_ble_eq_true rfl) (Nat.le_of_ble_eq_true rfl) (Nat.le_of_ble_eq_true rfl) (Nat.le_of_ble_eq_true rfl) rfl ?_
  refine m_if_ne (tgt := 23) X dX6_clearRecipe_18 (by decide) rfl (fun b18 => ?_) (fun b18 => absurd b18 (by decide))
  refine m_aload_n X dX6_clearRecipe_23 rfl rfl ?_
  refine m_getf (v := .int (w 9)) X dX6_clearRecipe_24 fl_X6_159 rfl rfl rfl ?_
  refine m_istore_n X dX6_clearRecipe_27 (Nat.le_of_ble_eq_true rfl) rfl ?_
  refine m_aload_n X dX6_clearRecipe_28 rfl rfl ?_
  refine m_iconst (v := 0) X dX6_clearRecipe_29 (by decide) rfl ?_
  refine m_piM 9 X dX6_clearRecipe_30 fl_X6_159 fp_X6_19 rfl rfl rfl rfl ?_
  refine m_iload_n X dX6_clearRecipe_33 rfl rfl ?_
  exact m_iret X dX6_clearRecipe_34 rfl (rfl) (Nat.le_of_ble_eq_true rfl) (Nat.le_of_ble_eq_true rfl) rfl
theorem f_X6_clearRecipe {v w : m_V} {a b : m_R} {x z : Int64} {lq : Int32} {t : m_H} (h0 : ¬ w 10 = 0) : m_Ctr M_X6_clearRecipe [.ref 17] (hL v a x w b z lq t) (.inl (some (.int 0), hL v a x w b z 1 t)) := by
  refine m_intro (by decide +kernel) (Nat.le_of_ble_eq_true rfl) (fun X => ?_)
  refine m_aload_n X dX6_clearRecipe_0 rfl rfl ?_
  refine m_aload_n X dX6_clearRecipe_1 rfl rfl ?_
  refine m_getf (v := .int (w 10)) X dX6_clearRecipe_2 fl_X6_79 rfl rfl rfl ?_
  refine m_if_ne (tgt := 12) X dX6_clearRecipe_5 (by decide) rfl (fun b5 => ?_) (fun b5 => absurd b5 (h0))
  refine m_iconst (v := 0) X dX6_clearRecipe_12 (by decide) rfl ?_
  refine m_iconst (v := 1) X dX6_clearRecipe_13 (by decide) rfl ?_
  refine m_iconst (v := 1) X dX6_clearRecipe_14 (by decide) rfl ?_
  refine m_cV3 X dX6_clearRecipe_15 lk_X6_141 mk_X6_goes in_X6_goes se_X6_goes rfl rfl (c_X6_goes1 rfl) rfl (Nat.le_of_ble_eq_true rfl) (Nat.le_of_ble_eq_true rfl) (Nat.le_of_ble_eq_true rfl) (Nat.le_of_ble_eq_true rfl) (Nat.le_of_ble_eq_true rfl) rfl ?_
  refine m_if_ne (tgt := 23) X dX6_clearRecipe_18 (by decide) rfl (fun b18 => absurd b18 (not_not_intro rfl)) (fun b18 => ?_)
  refine m_iconst (v := 0) X dX6_clearRecipe_21 (by decide) rfl ?_
  exact m_iret X dX6_clearRecipe_22 rfl (rfl) (Nat.le_of_ble_eq_true rfl) (Nat.le_of_ble_eq_true rfl) rfl
theorem c_X6_start {v w : m_V} {a b : m_R} {x z : Int64} {lq : Int32} {t : m_H} (h0 : w 10 = 0) (h9 : ¬ w 9 ≤ 0) (h20 : ¬ 20 ≤ w 20) : m_Ctr M_X6_start [.ref 17] (hL v a x w b z lq t) (.inl (some (.int (w 20 + 1 - 1)), hL v a x (sBegin (upd w 20 (w 20 + 1)) 0) b z 0 t)) := by
  refine m_intro (by decide +kernel) (Nat.le_of_ble_eq_true rfl) (fun X => ?_)
  refine m_aload_n X dX6_start_0 rfl rfl ?_
  refine m_aload_n X dX6_start_1 rfl rfl ?_
  refine m_getf (v := .int (w 10)) X dX6_start_2 fl_X6_79 rfl rfl rfl ?_
  refine m_if_ne (tgt := 28) X dX6_start_5 (by decide) rfl (fun b5 => absurd b5 (not_not_intro h0)) (fun b5 => ?_)
  refine m_aload_n X dX6_start_8 rfl rfl ?_
  refine m_getf (v := .int (w 9)) X dX6_start_9 fl_X6_159 rfl rfl rfl ?_
  refine m_if_le (tgt := 28) X dX6_start_12 (by decide) rfl (fun b12 => absurd b12 (h9)) (fun b12 => ?_)
  refine m_aload_n X dX6_start_15 rfl rfl ?_
  refine m_getf (v := .int (w 20)) X dX6_start_16 fl_X6_156 rfl rfl rfl ?_
  refine m_bipush (v := (20)) X dX6_start_19 (by decide) rfl ?_
  refine m_icmp_ge (tgt := 28) X dX6_start_21 (by decide) rfl (fun b21 => absurd b21 (h20)) (fun b21 => ?_)
  refine m_iconst (v := 1) X dX6_start_24 (by decide) rfl ?_
  refine m_goto (tgt := 29) X dX6_start_25 (by decide) rfl ?_
  refine m_iconst (v := 1) X dX6_start_29 (by decide) rfl ?_
  refine m_iconst (v := 1) X dX6_start_30 (by decide) rfl ?_
  refine m_cV3 X dX6_start_31 lk_X6_141 mk_X6_goes in_X6_goes se_X6_goes rfl rfl (c_X6_goes0 (by decide) (by decide) (by decide)) rfl (Nat.le_of_ble_eq_true rfl) (Nat.le_of_ble_eq_true rfl) (Nat.le_of_ble_eq_true rfl) (Nat.le_of_ble_eq_true rfl) (Nat.le_of_ble_eq_true rfl) rfl ?_
  refine m_if_ne (tgt := 39) X dX6_start_34 (by decide) rfl (fun b34 => ?_) (fun b34 => absurd b34 (by decide))
  refine m_aload_n X dX6_start_39 rfl rfl ?_
  refine m_dup X dX6_start_40 rfl rfl ?_
  refine m_getf (v := .int (w 20)) X dX6_start_41 fl_X6_156 rfl rfl rfl ?_
  refine m_iconst (v := 1) X dX6_start_44 (by decide) rfl ?_
  refine m_iadd X dX6_start_45 rfl ?_
  refine m_piM 20 X dX6_start_46 fl_X6_156 fp_X6_30 rfl rfl rfl rfl ?_
  refine m_aload_n X dX6_start_49 rfl rfl ?_
  refine m_iconst (v := 0) X dX6_start_50 (by decide) rfl ?_
  refine m_cV1 X dX6_start_51 lk_X6_165 mk_X6_begins in_X6_begins se_X6_begins rfl rfl (c_X6_begins) rfl (Nat.le_of_ble_eq_true rfl) (Nat.le_of_ble_eq_true rfl) (Nat.le_of_ble_eq_true rfl) (Nat.le_of_ble_eq_true rfl) (Nat.le_of_ble_eq_true rfl) rfl ?_
  refine m_aload_n X dX6_start_54 rfl rfl ?_
  refine m_getf (v := .int ((sBegin (upd w 20 (w 20 + 1)) 0) 20)) X dX6_start_55 fl_X6_156 rfl rfl rfl ?_
  refine m_iconst (v := 1) X dX6_start_58 (by decide) rfl ?_
  refine m_isub X dX6_start_59 rfl ?_
  exact m_iret X dX6_start_60 rfl (rfl) (Nat.le_of_ble_eq_true rfl) (Nat.le_of_ble_eq_true rfl) rfl
theorem f_X6_start {v w : m_V} {a b : m_R} {x z : Int64} {lq : Int32} {t : m_H} (h0 : ¬ (w 10 = 0 ∧ ¬ w 9 ≤ 0 ∧ ¬ 20 ≤ w 20)) : m_Ctr M_X6_start [.ref 17] (hL v a x w b z lq t) (.inl (some (.int 0), hL v a x w b z 1 t)) := by
  refine m_intro (by decide +kernel) (Nat.le_of_ble_eq_true rfl) (fun X => ?_)
  refine m_aload_n X dX6_start_0 rfl rfl ?_
  refine m_aload_n X dX6_start_1 rfl rfl ?_
  refine m_getf (v := .int (w 10)) X dX6_start_2 fl_X6_79 rfl rfl rfl ?_
  refine m_if_ne (tgt := 28) X dX6_start_5 (by decide) rfl (fun b5 => ?_) (fun b5 => ?_)
  · refine m_iconst (v := 0) X dX6_start_28 (by decide) rfl ?_
    refine m_iconst (v := 1) X dX6_start_29 (by decide) rfl ?_
    refine m_iconst (v := 1) X dX6_start_30 (by decide) rfl ?_
    refine m_cV3 X dX6_start_31 lk_X6_141 mk_X6_goes in_X6_goes se_X6_goes rfl rfl (c_X6_goes1 rfl) rfl (Nat.le_of_ble_eq_true rfl) (Nat.le_of_ble_eq_true rfl) (Nat.le_of_ble_eq_true rfl) (Nat.le_of_ble_eq_true rfl) (Nat.le_of_ble_eq_true rfl) rfl ?_
    refine m_if_ne (tgt := 39) X dX6_start_34 (by decide) rfl (fun b34 => absurd b34 (not_not_intro rfl)) (fun b34 => ?_)
    refine m_iconst (v := 0) X dX6_start_37 (by decide) rfl ?_
    exact m_iret X dX6_start_38 rfl (rfl) (Nat.le_of_ble_eq_true rfl) (Nat.le_of_ble_eq_true rfl) rfl
  · refine m_aload_n X dX6_start_8 rfl rfl ?_
    refine m_getf (v := .int (w 9)) X dX6_start_9 fl_X6_159 rfl rfl rfl ?_
    refine m_if_le (tgt := 28) X dX6_start_12 (by decide) rfl (fun b12 => ?_) (fun b12 => ?_)
    · refine m_iconst (v := 0) X dX6_start_28 (by decide) rfl ?_
      refine m_iconst (v := 1) X dX6_start_29 (by decide) rfl ?_
      refine m_iconst (v := 1) X dX6_start_30 (by decide) rfl ?_
      refine m_cV3 X dX6_start_31 lk_X6_141 mk_X6_goes in_X6_goes se_X6_goes rfl rfl (c_X6_goes1 rfl) rfl (Nat.le_of_ble_eq_true rfl) (Nat.le_of_ble_eq_true rfl) (Nat.le_of_ble_eq_true rfl) (Nat.le_of_ble_eq_true rfl) (Nat.le_of_ble_eq_true rfl) rfl ?_
      refine m_if_ne (tgt := 39) X dX6_start_34 (by decide) rfl (fun b34 => absurd b34 (not_not_intro rfl)) (fun b34 => ?_)
      refine m_iconst (v := 0) X dX6_start_37 (by decide) rfl ?_
      exact m_iret X dX6_start_38 rfl (rfl) (Nat.le_of_ble_eq_true rfl) (Nat.le_of_ble_eq_true rfl) rfl
    · refine m_aload_n X dX6_start_15 rfl rfl ?_
      refine m_getf (v := .int (w 20)) X dX6_start_16 fl_X6_156 rfl rfl rfl ?_
      refine m_bipush (v := (20)) X dX6_start_19 (by decide) rfl ?_
      refine m_icmp_ge (tgt := 28) X dX6_start_21 (by decide) rfl (fun b21 => ?_) (fun b21 => ?_)
      · refine m_iconst (v := 0) X dX6_start_28 (by decide) rfl ?_
        refine m_iconst (v := 1) X dX6_start_29 (by decide) rfl ?_
        refine m_iconst (v := 1) X dX6_start_30 (by decide) rfl ?_
        refine m_cV3 X dX6_start_31 lk_X6_141 mk_X6_goes in_X6_goes se_X6_goes rfl rfl (c_X6_goes1 rfl) rfl (Nat.le_of_ble_eq_true rfl) (Nat.le_of_ble_eq_true rfl) (Nat.le_of_ble_eq_true rfl) (Nat.le_of_ble_eq_true rfl) (Nat.le_of_ble_eq_true rfl) rfl ?_
        refine m_if_ne (tgt := 39) X dX6_start_34 (by decide) rfl (fun b34 => absurd b34 (not_not_intro rfl)) (fun b34 => ?_)
        refine m_iconst (v := 0) X dX6_start_37 (by decide) rfl ?_
        exact m_iret X dX6_start_38 rfl (rfl) (Nat.le_of_ble_eq_true rfl) (Nat.le_of_ble_eq_true rfl) rfl
      · exact absurd ⟨b5, b12, b21⟩ h0
theorem c_X6_hold {v w : m_V} {a b : m_R} {x z : Int64} {lq : Int32} {t : m_H} (h0 : ¬ w 10 = 0) (h6 : ¬ w 10 = 6) : m_Ctr M_X6_hold [.ref 17] (hL v a x w b z lq t) (.inl (some (.int (w 10)), hL v a x (sHalt w 0) b z 0 t)) := by
  refine m_intro (by decide +kernel) (Nat.le_of_ble_eq_true rfl) (fun X => ?_)
  refine m_aload_n X dX6_hold_0 rfl rfl ?_
  refine m_aload_n X dX6_hold_1 rfl rfl ?_
  refine m_getf (v := .int (w 10)) X dX6_hold_2 fl_X6_79 rfl rfl rfl ?_
  refine m_if_eq (tgt := 21) X dX6_hold_5 (by decide) rfl (fun b5 => absurd b5 (h0)) (fun b5 => ?_)
  refine m_aload_n X dX6_hold_8 rfl rfl ?_
  refine m_getf (v := .int (w 10)) X dX6_hold_9 fl_X6_79 rfl rfl rfl ?_
  refine m_bipush (v := (6)) X dX6_hold_12 (by decide) rfl ?_
  refine m_icmp_eq (tgt := 21) X dX6_hold_14 (by decide) rfl (fun b14 => absurd b14 (h6)) (fun b14 => ?_)
  refine m_iconst (v := 1) X dX6_hold_17 (by decide) rfl ?_
  refine m_goto (tgt := 22) X dX6_hold_18 (by decide) rfl ?_
  refine m_iconst (v := 1) X dX6_hold_22 (by decide) rfl ?_
  refine m_iconst (v := 1) X dX6_hold_23 (by decide) rfl ?_
  refine m_cV3 X dX6_hold_24 lk_X6_141 mk_X6_goes in_X6_goes se_X6_goes rfl rfl (c_X6_goes0 (by decide) (by decide) (by decide)) rfl (Nat.le_of_ble_eq_true rfl) (Nat.le_of_ble_eq_true rfl) (Nat.le_of_ble_eq_true rfl) (Nat.le_of_ble_eq_true rfl) (Nat.le_of_ble_eq_true rfl) rfl ?_
  refine m_if_ne (tgt := 32) X dX6_hold_27 (by decide) rfl (fun b27 => ?_) (fun b27 => absurd b27 (by decide))
  refine m_aload_n X dX6_hold_32 rfl rfl ?_
  refine m_getf (v := .int (w 10)) X dX6_hold_33 fl_X6_79 rfl rfl rfl ?_
  refine m_istore_n X dX6_hold_36 (Nat.le_of_ble_eq_true rfl) rfl ?_
  refine m_aload_n X dX6_hold_37 rfl rfl ?_
  refine m_iconst (v := 0) X dX6_hold_38 (by decide) rfl ?_
  refine m_cV1 X dX6_hold_39 lk_X6_116 mk_X6_holds in_X6_holds se_X6_holds rfl rfl (c_X6_holds) rfl (Nat.le_of_ble_eq_true rfl) (Nat.le_of_ble_eq_true rfl) (Nat.le_of_ble_eq_true rfl) (Nat.le_of_ble_eq_true rfl) (Nat.le_of_ble_eq_true rfl) rfl ?_
  refine m_iload_n X dX6_hold_42 rfl rfl ?_
  exact m_iret X dX6_hold_43 rfl (rfl) (Nat.le_of_ble_eq_true rfl) (Nat.le_of_ble_eq_true rfl) rfl
theorem f_X6_hold {v w : m_V} {a b : m_R} {x z : Int64} {lq : Int32} {t : m_H} (h0 : ¬ (¬ w 10 = 0 ∧ ¬ w 10 = 6)) : m_Ctr M_X6_hold [.ref 17] (hL v a x w b z lq t) (.inl (some (.int 0), hL v a x w b z 1 t)) := by
  refine m_intro (by decide +kernel) (Nat.le_of_ble_eq_true rfl) (fun X => ?_)
  refine m_aload_n X dX6_hold_0 rfl rfl ?_
  refine m_aload_n X dX6_hold_1 rfl rfl ?_
  refine m_getf (v := .int (w 10)) X dX6_hold_2 fl_X6_79 rfl rfl rfl ?_
  refine m_if_eq (tgt := 21) X dX6_hold_5 (by decide) rfl (fun b5 => ?_) (fun b5 => ?_)
  · refine m_iconst (v := 0) X dX6_hold_21 (by decide) rfl ?_
    refine m_iconst (v := 1) X dX6_hold_22 (by decide) rfl ?_
    refine m_iconst (v := 1) X dX6_hold_23 (by decide) rfl ?_
    refine m_cV3 X dX6_hold_24 lk_X6_141 mk_X6_goes in_X6_goes se_X6_goes rfl rfl (c_X6_goes1 rfl) rfl (Nat.le_of_ble_eq_true rfl) (Nat.le_of_ble_eq_true rfl) (Nat.le_of_ble_eq_true rfl) (Nat.le_of_ble_eq_true rfl) (Nat.le_of_ble_eq_true rfl) rfl ?_
    refine m_if_ne (tgt := 32) X dX6_hold_27 (by decide) rfl (fun b27 => absurd b27 (not_not_intro rfl)) (fun b27 => ?_)
    refine m_iconst (v := 0) X dX6_hold_30 (by decide) rfl ?_
    exact m_iret X dX6_hold_31 rfl (rfl) (Nat.le_of_ble_eq_true rfl) (Nat.le_of_ble_eq_true rfl) rfl
  · refine m_aload_n X dX6_hold_8 rfl rfl ?_
    refine m_getf (v := .int (w 10)) X dX6_hold_9 fl_X6_79 rfl rfl rfl ?_
    refine m_bipush (v := (6)) X dX6_hold_12 (by decide) rfl ?_
    refine m_icmp_eq (tgt := 21) X dX6_hold_14 (by decide) rfl (fun b14 => ?_) (fun b14 => ?_)
    · refine m_iconst (v := 0) X dX6_hold_21 (by decide) rfl ?_
      refine m_iconst (v := 1) X dX6_hold_22 (by decide) rfl ?_
      refine m_iconst (v := 1) X dX6_hold_23 (by decide) rfl ?_
      refine m_cV3 X dX6_hold_24 lk_X6_141 mk_X6_goes in_X6_goes se_X6_goes rfl rfl (c_X6_goes1 rfl) rfl (Nat.le_of_ble_eq_true rfl) (Nat.le_of_ble_eq_true rfl) (Nat.le_of_ble_eq_true rfl) (Nat.le_of_ble_eq_true rfl) (Nat.le_of_ble_eq_true rfl) rfl ?_
      refine m_if_ne (tgt := 32) X dX6_hold_27 (by decide) rfl (fun b27 => absurd b27 (not_not_intro rfl)) (fun b27 => ?_)
      refine m_iconst (v := 0) X dX6_hold_30 (by decide) rfl ?_
      exact m_iret X dX6_hold_31 rfl (rfl) (Nat.le_of_ble_eq_true rfl) (Nat.le_of_ble_eq_true rfl) rfl
    · exact absurd ⟨b5, b14⟩ h0
theorem c_X6_resume {v w : m_V} {a b : m_R} {x z : Int64} {lq : Int32} {t : m_H} (h0 : w 10 = 6) (hk : kI w b) : m_Ctr M_X6_resume [.ref 17] (hL v a x w b z lq t) (.inl (some (.int (sGoOnV w 10)), hL v a x (sGoOnV w) (sGoOnA w b) z 0 t)) := by
  refine m_intro (by decide +kernel) (Nat.le_of_ble_eq_true rfl) (fun X => ?_)
  refine m_aload_n X dX6_resume_0 rfl rfl ?_
  refine m_aload_n X dX6_resume_1 rfl rfl ?_
  refine m_getf (v := .int (w 10)) X dX6_resume_2 fl_X6_79 rfl rfl rfl ?_
  refine m_bipush (v := (6)) X dX6_resume_5 (by decide) rfl ?_
  refine m_icmp_ne (tgt := 14) X dX6_resume_7 (by decide) rfl (fun b7 => absurd b7 (not_not_intro h0)) (fun b7 => ?_)
  refine m_iconst (v := 1) X dX6_resume_10 (by decide) rfl ?_
  refine m_goto (tgt := 15) X dX6_resume_11 (by decide) rfl ?_
  refine m_iconst (v := 1) X dX6_resume_15 (by decide) rfl ?_
  refine m_iconst (v := 1) X dX6_resume_16 (by decide) rfl ?_
  refine m_cV3 X dX6_resume_17 lk_X6_141 mk_X6_goes in_X6_goes se_X6_goes rfl rfl (c_X6_goes0 (by decide) (by decide) (by decide)) rfl (Nat.le_of_ble_eq_true rfl) (Nat.le_of_ble_eq_true rfl) (Nat.le_of_ble_eq_true rfl) (Nat.le_of_ble_eq_true rfl) (Nat.le_of_ble_eq_true rfl) rfl ?_
  refine m_if_ne (tgt := 25) X dX6_resume_20 (by decide) rfl (fun b20 => ?_) (fun b20 => absurd b20 (by decide))
  refine m_aload_n X dX6_resume_25 rfl rfl ?_
  refine m_getf (v := .int (w 11)) X dX6_resume_26 fl_X6_88 rfl rfl rfl ?_
  refine m_iconst (v := 1) X dX6_resume_29 (by decide) rfl ?_
  refine m_icmp_eq (tgt := 41) X dX6_resume_30 (by decide) rfl (fun b30 => ?_) (fun b30 => ?_)
  · refine m_aload_n X dX6_resume_41 rfl rfl ?_
    refine m_cV0 X dX6_resume_42 lk_X6_119 mk_X6_finishes in_X6_finishes se_X6_finishes rfl rfl (c_X6_finishes hk.1 hk.2.1 hk.2.2.1 (hk.2.2.2.1 (by rw [h0]; decide))) rfl (Nat.le_of_ble_eq_true rfl) (Nat.le_of_ble_eq_true rfl) (Nat.le_of_ble_eq_true rfl) (Nat.le_of_ble_eq_true rfl) (Nat.le_of_ble_eq_true rfl) rfl ?_
    refine m_goto (tgt := 66) X dX6_resume_45 (by decide) rfl ?_
    refine m_aload_n X dX6_resume_66 rfl rfl ?_
    refine m_getf (v := .int ((sFinish w) 10)) X dX6_resume_67 fl_X6_79 rfl rfl rfl ?_
    exact m_iret X dX6_resume_70 rfl (by unfold sGoOnV sGoOnA; rw [if_pos b30, if_pos b30]; try rfl) (Nat.le_of_ble_eq_true rfl) (Nat.le_of_ble_eq_true rfl) rfl
  · refine m_aload_n X dX6_resume_33 rfl rfl ?_
    refine m_getf (v := .int (w 11)) X dX6_resume_34 fl_X6_88 rfl rfl rfl ?_
    refine m_iconst (v := 2) X dX6_resume_37 (by decide) rfl ?_
    refine m_icmp_ne (tgt := 48) X dX6_resume_38 (by decide) rfl (fun b38 => ?_) (fun b38 => ?_)
    · refine m_aload_n X dX6_resume_48 rfl rfl ?_
      refine m_iconst (v := 0) X dX6_resume_49 (by decide) rfl ?_
      refine m_piM 11 X dX6_resume_50 fl_X6_88 fp_X6_21 rfl rfl rfl rfl ?_
      refine m_aload_n X dX6_resume_53 rfl rfl ?_
      refine m_iconst (v := 0) X dX6_resume_54 (by decide) rfl ?_
      refine m_piM 14 X dX6_resume_55 fl_X6_131 fp_X6_25 rfl rfl rfl rfl ?_
      refine m_aload_n X dX6_resume_58 rfl rfl ?_
      refine m_aload_n X dX6_resume_59 rfl rfl ?_
      refine m_getf (v := .int (w 12)) X dX6_resume_60 fl_X6_85 rfl rfl rfl ?_
      refine m_cV1 X dX6_resume_63 lk_X6_91 mk_X6_becomes in_X6_becomes se_X6_becomes rfl rfl (c_X6_becomes) rfl (Nat.le_of_ble_eq_true rfl) (Nat.le_of_ble_eq_true rfl) (Nat.le_of_ble_eq_true rfl) (Nat.le_of_ble_eq_true rfl) (Nat.le_of_ble_eq_true rfl) rfl ?_
      refine m_aload_n X dX6_resume_66 rfl rfl ?_
      refine m_getf X dX6_resume_67 fl_X6_79 rfl rfl rfl ?_
      exact m_iret X dX6_resume_70 rfl (by unfold sGoOnV sGoOnA; rw [if_neg b30, if_neg b30, if_pos b38, if_pos b38]; try rfl) (Nat.le_of_ble_eq_true rfl) (Nat.le_of_ble_eq_true rfl) rfl
    · refine m_aload_n X dX6_resume_41 rfl rfl ?_
      refine m_cV0 X dX6_resume_42 lk_X6_119 mk_X6_finishes in_X6_finishes se_X6_finishes rfl rfl (c_X6_finishes hk.1 hk.2.1 hk.2.2.1 (hk.2.2.2.1 (by rw [h0]; decide))) rfl (Nat.le_of_ble_eq_true rfl) (Nat.le_of_ble_eq_true rfl) (Nat.le_of_ble_eq_true rfl) (Nat.le_of_ble_eq_true rfl) (Nat.le_of_ble_eq_true rfl) rfl ?_
      refine m_goto (tgt := 66) X dX6_resume_45 (by decide) rfl ?_
      refine m_aload_n X dX6_resume_66 rfl rfl ?_
      refine m_getf (v := .int ((sFinish w) 10)) X dX6_resume_67 fl_X6_79 rfl rfl rfl ?_
      exact m_iret X dX6_resume_70 rfl (by unfold sGoOnV sGoOnA; rw [if_neg b30, if_neg b30, if_neg (not_not_intro b38), if_neg (not_not_intro b38)]; try rfl) (Nat.le_of_ble_eq_true rfl) (Nat.le_of_ble_eq_true rfl) rfl
theorem f_X6_resume {v w : m_V} {a b : m_R} {x z : Int64} {lq : Int32} {t : m_H} (h0 : ¬ w 10 = 6) : m_Ctr M_X6_resume [.ref 17] (hL v a x w b z lq t) (.inl (some (.int 0), hL v a x w b z 1 t)) := by
  refine m_intro (by decide +kernel) (Nat.le_of_ble_eq_true rfl) (fun X => ?_)
  refine m_aload_n X dX6_resume_0 rfl rfl ?_
  refine m_aload_n X dX6_resume_1 rfl rfl ?_
  refine m_getf (v := .int (w 10)) X dX6_resume_2 fl_X6_79 rfl rfl rfl ?_
  refine m_bipush (v := (6)) X dX6_resume_5 (by decide) rfl ?_
  refine m_icmp_ne (tgt := 14) X dX6_resume_7 (by decide) rfl (fun b7 => ?_) (fun b7 => absurd b7 (h0))
  refine m_iconst (v := 0) X dX6_resume_14 (by decide) rfl ?_
  refine m_iconst (v := 1) X dX6_resume_15 (by decide) rfl ?_
  refine m_iconst (v := 1) X dX6_resume_16 (by decide) rfl ?_
  refine m_cV3 X dX6_resume_17 lk_X6_141 mk_X6_goes in_X6_goes se_X6_goes rfl rfl (c_X6_goes1 rfl) rfl (Nat.le_of_ble_eq_true rfl) (Nat.le_of_ble_eq_true rfl) (Nat.le_of_ble_eq_true rfl) (Nat.le_of_ble_eq_true rfl) (Nat.le_of_ble_eq_true rfl) rfl ?_
  refine m_if_ne (tgt := 25) X dX6_resume_20 (by decide) rfl (fun b20 => absurd b20 (not_not_intro rfl)) (fun b20 => ?_)
  refine m_iconst (v := 0) X dX6_resume_23 (by decide) rfl ?_
  exact m_iret X dX6_resume_24 rfl (rfl) (Nat.le_of_ble_eq_true rfl) (Nat.le_of_ble_eq_true rfl) rfl
theorem c_X6_abort {v w : m_V} {a b : m_R} {x z : Int64} {lq : Int32} {t : m_H} (h0 : ¬ w 10 = 0) (hk : kI w b) : m_Ctr M_X6_abort [.ref 17] (hL v a x w b z lq t) (.inl (some (.int (if w 18 = 0 then 0 else sAmt w)), hL v a x (sEnter w 0) (if w 18 = 0 then b else sBook w b) z 0 t)) := by
  refine m_intro (by decide +kernel) (Nat.le_of_ble_eq_true rfl) (fun X => ?_)
  refine m_aload_n X dX6_abort_0 rfl rfl ?_
  refine m_aload_n X dX6_abort_1 rfl rfl ?_
  refine m_getf (v := .int (w 10)) X dX6_abort_2 fl_X6_79 rfl rfl rfl ?_
  refine m_if_eq (tgt := 12) X dX6_abort_5 (by decide) rfl (fun b5 => absurd b5 (h0)) (fun b5 => ?_)
  refine m_iconst (v := 1) X dX6_abort_8 (by decide) rfl ?_
  refine m_goto (tgt := 13) X dX6_abort_9 (by decide) rfl ?_
  refine m_iconst (v := 1) X dX6_abort_13 (by decide) rfl ?_
  refine m_iconst (v := 1) X dX6_abort_14 (by decide) rfl ?_
  refine m_cV3 X dX6_abort_15 lk_X6_141 mk_X6_goes in_X6_goes se_X6_goes rfl rfl (c_X6_goes0 (by decide) (by decide) (by decide)) rfl (Nat.le_of_ble_eq_true rfl) (Nat.le_of_ble_eq_true rfl) (Nat.le_of_ble_eq_true rfl) (Nat.le_of_ble_eq_true rfl) (Nat.le_of_ble_eq_true rfl) rfl ?_
  refine m_if_ne (tgt := 23) X dX6_abort_18 (by decide) rfl (fun b18 => ?_) (fun b18 => absurd b18 (by decide))
  refine m_aload_n X dX6_abort_23 rfl rfl ?_
  refine m_getf (v := .int (w 18)) X dX6_abort_24 fl_X6_122 rfl rfl rfl ?_
  refine m_if_eq (tgt := 37) X dX6_abort_27 (by decide) rfl (fun b27 => ?_) (fun b27 => ?_)
  · refine m_iconst (v := 0) X dX6_abort_37 (by decide) rfl ?_
    refine m_istore_n X dX6_abort_38 (Nat.le_of_ble_eq_true rfl) rfl ?_
    refine m_aload_n X dX6_abort_39 rfl rfl ?_
    refine m_iconst (v := 0) X dX6_abort_40 (by decide) rfl ?_
    refine m_piM 11 X dX6_abort_41 fl_X6_88 fp_X6_21 rfl rfl rfl rfl ?_
    refine m_aload_n X dX6_abort_44 rfl rfl ?_
    refine m_iconst (v := 0) X dX6_abort_45 (by decide) rfl ?_
    refine m_cV1 X dX6_abort_46 lk_X6_91 mk_X6_becomes in_X6_becomes se_X6_becomes rfl rfl (c_X6_becomes) rfl (Nat.le_of_ble_eq_true rfl) (Nat.le_of_ble_eq_true rfl) (Nat.le_of_ble_eq_true rfl) (Nat.le_of_ble_eq_true rfl) (Nat.le_of_ble_eq_true rfl) rfl ?_
    refine m_iload_n X dX6_abort_49 rfl rfl ?_
    exact m_iret X dX6_abort_50 rfl (by rw [if_pos b27, if_pos b27]; try rfl) (Nat.le_of_ble_eq_true rfl) (Nat.le_of_ble_eq_true rfl) rfl
  · refine m_aload_n X dX6_abort_30 rfl rfl ?_
    refine m_cV0 X dX6_abort_31 lk_X6_162 mk_X6_books in_X6_books se_X6_books rfl rfl (c_X6_books hk.1 hk.2.1 hk.2.2.1 (hk.2.2.2.1 h0)) rfl (Nat.le_of_ble_eq_true rfl) (Nat.le_of_ble_eq_true rfl) (Nat.le_of_ble_eq_true rfl) (Nat.le_of_ble_eq_true rfl) (Nat.le_of_ble_eq_true rfl) rfl ?_
    refine m_goto (tgt := 38) X dX6_abort_34 (by decide) rfl ?_
    refine m_istore_n X dX6_abort_38 (Nat.le_of_ble_eq_true rfl) rfl ?_
    refine m_aload_n X dX6_abort_39 rfl rfl ?_
    refine m_iconst (v := 0) X dX6_abort_40 (by decide) rfl ?_
    refine m_piM 11 X dX6_abort_41 fl_X6_88 fp_X6_21 rfl rfl rfl rfl ?_
    refine m_aload_n X dX6_abort_44 rfl rfl ?_
    refine m_iconst (v := 0) X dX6_abort_45 (by decide) rfl ?_
    refine m_cV1 X dX6_abort_46 lk_X6_91 mk_X6_becomes in_X6_becomes se_X6_becomes rfl rfl (c_X6_becomes) rfl (Nat.le_of_ble_eq_true rfl) (Nat.le_of_ble_eq_true rfl) (Nat.le_of_ble_eq_true rfl) (Nat.le_of_ble_eq_true rfl) (Nat.le_of_ble_eq_true rfl) rfl ?_
    refine m_iload_n X dX6_abort_49 rfl rfl ?_
    exact m_iret X dX6_abort_50 rfl (by rw [if_neg b27, if_neg b27]; try rfl) (Nat.le_of_ble_eq_true rfl) (Nat.le_of_ble_eq_true rfl) rfl
theorem f_X6_abort {v w : m_V} {a b : m_R} {x z : Int64} {lq : Int32} {t : m_H} (h0 : w 10 = 0) : m_Ctr M_X6_abort [.ref 17] (hL v a x w b z lq t) (.inl (some (.int 0), hL v a x w b z 1 t)) := by
  refine m_intro (by decide +kernel) (Nat.le_of_ble_eq_true rfl) (fun X => ?_)
  refine m_aload_n X dX6_abort_0 rfl rfl ?_
  refine m_aload_n X dX6_abort_1 rfl rfl ?_
  refine m_getf (v := .int (w 10)) X dX6_abort_2 fl_X6_79 rfl rfl rfl ?_
  refine m_if_eq (tgt := 12) X dX6_abort_5 (by decide) rfl (fun b5 => ?_) (fun b5 => absurd b5 (not_not_intro h0))
  refine m_iconst (v := 0) X dX6_abort_12 (by decide) rfl ?_
  refine m_iconst (v := 1) X dX6_abort_13 (by decide) rfl ?_
  refine m_iconst (v := 1) X dX6_abort_14 (by decide) rfl ?_
  refine m_cV3 X dX6_abort_15 lk_X6_141 mk_X6_goes in_X6_goes se_X6_goes rfl rfl (c_X6_goes1 rfl) rfl (Nat.le_of_ble_eq_true rfl) (Nat.le_of_ble_eq_true rfl) (Nat.le_of_ble_eq_true rfl) (Nat.le_of_ble_eq_true rfl) (Nat.le_of_ble_eq_true rfl) rfl ?_
  refine m_if_ne (tgt := 23) X dX6_abort_18 (by decide) rfl (fun b18 => absurd b18 (not_not_intro rfl)) (fun b18 => ?_)
  refine m_iconst (v := 0) X dX6_abort_21 (by decide) rfl ?_
  exact m_iret X dX6_abort_22 rfl (rfl) (Nat.le_of_ble_eq_true rfl) (Nat.le_of_ble_eq_true rfl) rfl
theorem c_X6_state {v w : m_V} {a b : m_R} {x z : Int64} {lq : Int32} {t : m_H}  : m_Ctr M_X6_state [.ref 17] (hL v a x w b z lq t) (.inl (some (.int (w 10)), hL v a x w b z 0 t)) := by
  refine m_intro (by decide +kernel) (Nat.le_of_ble_eq_true rfl) (fun X => ?_)
  refine m_aload_n X dX6_state_0 rfl rfl ?_
  refine m_iconst (v := 0) X dX6_state_1 (by decide) rfl ?_
  refine m_pqM X dX6_state_2 fl_X6_53 fp_X6_33 rfl rfl rfl rfl ?_
  refine m_aload_n X dX6_state_5 rfl rfl ?_
  refine m_getf (v := .int (w 10)) X dX6_state_6 fl_X6_79 rfl rfl rfl ?_
  exact m_iret X dX6_state_9 rfl (rfl) (Nat.le_of_ble_eq_true rfl) (Nat.le_of_ble_eq_true rfl) rfl
theorem c_X6_alarm {v w : m_V} {a b : m_R} {x z : Int64} {lq : Int32} {t : m_H}  : m_Ctr M_X6_alarm [.ref 17] (hL v a x w b z lq t) (.inl (some (.int (w 11)), hL v a x w b z 0 t)) := by
  refine m_intro (by decide +kernel) (Nat.le_of_ble_eq_true rfl) (fun X => ?_)
  refine m_aload_n X dX6_alarm_0 rfl rfl ?_
  refine m_iconst (v := 0) X dX6_alarm_1 (by decide) rfl ?_
  refine m_pqM X dX6_alarm_2 fl_X6_53 fp_X6_33 rfl rfl rfl rfl ?_
  refine m_aload_n X dX6_alarm_5 rfl rfl ?_
  refine m_getf (v := .int (w 11)) X dX6_alarm_6 fl_X6_88 rfl rfl rfl ?_
  exact m_iret X dX6_alarm_9 rfl (rfl) (Nat.le_of_ble_eq_true rfl) (Nat.le_of_ble_eq_true rfl) rfl
theorem c_X6_step {v w : m_V} {a b : m_R} {x z : Int64} {lq : Int32} {t : m_H}  : m_Ctr M_X6_step [.ref 17] (hL v a x w b z lq t) (.inl (some (.int (if w 10 = 0 then -1 else w 15)), hL v a x w b z 0 t)) := by
  refine m_intro (by decide +kernel) (Nat.le_of_ble_eq_true rfl) (fun X => ?_)
  refine m_aload_n X dX6_step_0 rfl rfl ?_
  refine m_iconst (v := 0) X dX6_step_1 (by decide) rfl ?_
  refine m_pqM X dX6_step_2 fl_X6_53 fp_X6_33 rfl rfl rfl rfl ?_
  refine m_aload_n X dX6_step_5 rfl rfl ?_
  refine m_getf (v := .int (w 10)) X dX6_step_6 fl_X6_79 rfl rfl rfl ?_
  refine m_if_ne (tgt := 16) X dX6_step_9 (by decide) rfl (fun b9 => ?_) (fun b9 => ?_)
  · refine m_aload_n X dX6_step_16 rfl rfl ?_
    refine m_getf (v := .int (w 15)) X dX6_step_17 fl_X6_99 rfl rfl rfl ?_
    exact m_iret X dX6_step_20 rfl (by rw [if_neg b9]) (Nat.le_of_ble_eq_true rfl) (Nat.le_of_ble_eq_true rfl) rfl
  · refine m_iconst (v := (-1)) X dX6_step_12 (by decide) rfl ?_
    refine m_goto (tgt := 20) X dX6_step_13 (by decide) rfl ?_
    exact m_iret X dX6_step_20 rfl (by rw [if_pos b9]) (Nat.le_of_ble_eq_true rfl) (Nat.le_of_ble_eq_true rfl) rfl
theorem c_X6_jogs {v w : m_V} {a b : m_R} {x z : Int64} {lq : Int32} {t : m_H}  : m_Ctr M_X6_jogs [.ref 17] (hL v a x w b z lq t) (.inl (some (.int (if w 10 = 0 then 0 else w 16)), hL v a x w b z 0 t)) := by
  refine m_intro (by decide +kernel) (Nat.le_of_ble_eq_true rfl) (fun X => ?_)
  refine m_aload_n X dX6_jogs_0 rfl rfl ?_
  refine m_iconst (v := 0) X dX6_jogs_1 (by decide) rfl ?_
  refine m_pqM X dX6_jogs_2 fl_X6_53 fp_X6_33 rfl rfl rfl rfl ?_
  refine m_aload_n X dX6_jogs_5 rfl rfl ?_
  refine m_getf (v := .int (w 10)) X dX6_jogs_6 fl_X6_79 rfl rfl rfl ?_
  refine m_if_ne (tgt := 16) X dX6_jogs_9 (by decide) rfl (fun b9 => ?_) (fun b9 => ?_)
  · refine m_aload_n X dX6_jogs_16 rfl rfl ?_
    refine m_getf (v := .int (w 16)) X dX6_jogs_17 fl_X6_113 rfl rfl rfl ?_
    exact m_iret X dX6_jogs_20 rfl (by rw [if_neg b9]) (Nat.le_of_ble_eq_true rfl) (Nat.le_of_ble_eq_true rfl) rfl
  · refine m_iconst (v := 0) X dX6_jogs_12 (by decide) rfl ?_
    refine m_goto (tgt := 20) X dX6_jogs_13 (by decide) rfl ?_
    exact m_iret X dX6_jogs_20 rfl (by rw [if_pos b9]) (Nat.le_of_ble_eq_true rfl) (Nat.le_of_ble_eq_true rfl) rfl
theorem c_X6_batches {v w : m_V} {a b : m_R} {x z : Int64} {lq : Int32} {t : m_H}  : m_Ctr M_X6_batches [.ref 17] (hL v a x w b z lq t) (.inl (some (.int (w 20)), hL v a x w b z 0 t)) := by
  refine m_intro (by decide +kernel) (Nat.le_of_ble_eq_true rfl) (fun X => ?_)
  refine m_aload_n X dX6_batches_0 rfl rfl ?_
  refine m_iconst (v := 0) X dX6_batches_1 (by decide) rfl ?_
  refine m_pqM X dX6_batches_2 fl_X6_53 fp_X6_33 rfl rfl rfl rfl ?_
  refine m_aload_n X dX6_batches_5 rfl rfl ?_
  refine m_getf (v := .int (w 20)) X dX6_batches_6 fl_X6_156 rfl rfl rfl ?_
  exact m_iret X dX6_batches_9 rfl (rfl) (Nat.le_of_ble_eq_true rfl) (Nat.le_of_ble_eq_true rfl) rfl
theorem c_X6_done {v w : m_V} {a b : m_R} {x z : Int64} {lq : Int32} {t : m_H}  : m_Ctr M_X6_done [.ref 17] (hL v a x w b z lq t) (.inl (some (.int (w 21)), hL v a x w b z 0 t)) := by
  refine m_intro (by decide +kernel) (Nat.le_of_ble_eq_true rfl) (fun X => ?_)
  refine m_aload_n X dX6_done_0 rfl rfl ?_
  refine m_iconst (v := 0) X dX6_done_1 (by decide) rfl ?_
  refine m_pqM X dX6_done_2 fl_X6_53 fp_X6_33 rfl rfl rfl rfl ?_
  refine m_aload_n X dX6_done_5 rfl rfl ?_
  refine m_getf (v := .int (w 21)) X dX6_done_6 fl_X6_168 rfl rfl rfl ?_
  exact m_iret X dX6_done_9 rfl (rfl) (Nat.le_of_ble_eq_true rfl) (Nat.le_of_ble_eq_true rfl) rfl
theorem c_X6_belt {v w : m_V} {a b : m_R} {x z : Int64} {lq : Int32} {t : m_H} {d g n : Int32} (hl : 0 ≤ d ∧ d ≤ 10000) (hs : 0 ≤ g ∧ g ≤ 1000) (hn : 1 ≤ n ∧ n ≤ 100) : m_Ctr M_X6_belt [.ref 17, .int d, .int g, .int n] (hL v a x w b z lq t) (.inl (some (.long ((z + d.toInt64 * g.toInt64 * n.toInt64) / 1000)), hL v a x w b (z + d.toInt64 * g.toInt64 * n.toInt64) 0 t)) := by
  refine m_intro (by decide +kernel) (Nat.le_of_ble_eq_true rfl) (fun X => ?_)
  refine m_aload_n X dX6_belt_0 rfl rfl ?_
  refine m_iload_n X dX6_belt_1 rfl rfl ?_
  refine m_iconst (v := 0) X dX6_belt_2 (by decide) rfl ?_
  refine m_sipush (v := (10000)) X dX6_belt_3 (by decide) rfl ?_
  refine m_cS3 X dX6_belt_6 lk_X6_56 mk_X6_in st_X6_in (c_X6_in) rfl (Nat.le_of_ble_eq_true rfl) (Nat.le_of_ble_eq_true rfl) (Nat.le_of_ble_eq_true rfl) (Nat.le_of_ble_eq_true rfl) (Nat.le_of_ble_eq_true rfl) rfl ?_
  refine m_if_eq (tgt := 37) X dX6_belt_9 (by decide) rfl (fun b9 => absurd b9 ((by rw [bi_t hl]; decide))) (fun b9 => ?_)
  refine m_iload_n X dX6_belt_12 rfl rfl ?_
  refine m_iconst (v := 0) X dX6_belt_13 (by decide) rfl ?_
  refine m_sipush (v := (1000)) X dX6_belt_14 (by decide) rfl ?_
  refine m_cS3 X dX6_belt_17 lk_X6_56 mk_X6_in st_X6_in (c_X6_in) rfl (Nat.le_of_ble_eq_true rfl) (Nat.le_of_ble_eq_true rfl) (Nat.le_of_ble_eq_true rfl) (Nat.le_of_ble_eq_true rfl) (Nat.le_of_ble_eq_true rfl) rfl ?_
  refine m_if_eq (tgt := 37) X dX6_belt_20 (by decide) rfl (fun b20 => absurd b20 ((by rw [bi_t hs]; decide))) (fun b20 => ?_)
  refine m_iload_n X dX6_belt_23 rfl rfl ?_
  refine m_iconst (v := 1) X dX6_belt_24 (by decide) rfl ?_
  refine m_bipush (v := (100)) X dX6_belt_25 (by decide) rfl ?_
  refine m_cS3 X dX6_belt_27 lk_X6_56 mk_X6_in st_X6_in (c_X6_in) rfl (Nat.le_of_ble_eq_true rfl) (Nat.le_of_ble_eq_true rfl) (Nat.le_of_ble_eq_true rfl) (Nat.le_of_ble_eq_true rfl) (Nat.le_of_ble_eq_true rfl) rfl ?_
  refine m_if_eq (tgt := 37) X dX6_belt_30 (by decide) rfl (fun b30 => absurd b30 ((by rw [bi_t hn]; decide))) (fun b30 => ?_)
  refine m_iconst (v := 1) X dX6_belt_33 (by decide) rfl ?_
  refine m_goto (tgt := 38) X dX6_belt_34 (by decide) rfl ?_
  refine m_iconst (v := 1) X dX6_belt_38 (by decide) rfl ?_
  refine m_iconst (v := 1) X dX6_belt_39 (by decide) rfl ?_
  refine m_cV3 X dX6_belt_40 lk_X6_141 mk_X6_goes in_X6_goes se_X6_goes rfl rfl (c_X6_goes0 (by decide) (by decide) (by decide)) rfl (Nat.le_of_ble_eq_true rfl) (Nat.le_of_ble_eq_true rfl) (Nat.le_of_ble_eq_true rfl) (Nat.le_of_ble_eq_true rfl) (Nat.le_of_ble_eq_true rfl) rfl ?_
  refine m_if_ne (tgt := 48) X dX6_belt_43 (by decide) rfl (fun b43 => ?_) (fun b43 => absurd b43 (by decide))
  refine m_aload_n X dX6_belt_48 rfl rfl ?_
  refine m_dup X dX6_belt_49 rfl rfl ?_
  refine m_getf X dX6_belt_50 fl_X6_171 rfl rfl rfl ?_
  refine m_iload_n X dX6_belt_53 rfl rfl ?_
  refine m_i2l X dX6_belt_54 rfl ?_
  refine m_iload_n X dX6_belt_55 rfl rfl ?_
  refine m_i2l X dX6_belt_56 rfl ?_
  refine m_lmul X dX6_belt_57 rfl ?_
  refine m_iload_n X dX6_belt_58 rfl rfl ?_
  refine m_i2l X dX6_belt_59 rfl ?_
  refine m_lmul X dX6_belt_60 rfl ?_
  refine m_ladd X dX6_belt_61 rfl ?_
  refine m_plM X dX6_belt_62 fl_X6_171 fp_X6_32 rfl rfl rfl rfl ?_
  refine m_aload_n X dX6_belt_65 rfl rfl ?_
  refine m_getf X dX6_belt_66 fl_X6_171 rfl rfl rfl ?_
  refine m_ldc2 X dX6_belt_69 cs_X6_175 rfl ?_
  refine m_ldiv X dX6_belt_72 (by decide) rfl ?_
  exact m_lret X dX6_belt_73 rfl (rfl) (Nat.le_of_ble_eq_true rfl) (Nat.le_of_ble_eq_true rfl) rfl
theorem f_X6_belt {v w : m_V} {a b : m_R} {x z : Int64} {lq : Int32} {t : m_H} {d g n : Int32} (hl : ¬ ((0 ≤ d ∧ d ≤ 10000) ∧ (0 ≤ g ∧ g ≤ 1000) ∧ (1 ≤ n ∧ n ≤ 100))) : m_Ctr M_X6_belt [.ref 17, .int d, .int g, .int n] (hL v a x w b z lq t) (.inl (some (.long 0), hL v a x w b z 1 t)) := by
  refine m_intro (by decide +kernel) (Nat.le_of_ble_eq_true rfl) (fun X => ?_)
  refine m_aload_n X dX6_belt_0 rfl rfl ?_
  refine m_iload_n X dX6_belt_1 rfl rfl ?_
  refine m_iconst (v := 0) X dX6_belt_2 (by decide) rfl ?_
  refine m_sipush (v := (10000)) X dX6_belt_3 (by decide) rfl ?_
  refine m_cS3 X dX6_belt_6 lk_X6_56 mk_X6_in st_X6_in (c_X6_in) rfl (Nat.le_of_ble_eq_true rfl) (Nat.le_of_ble_eq_true rfl) (Nat.le_of_ble_eq_true rfl) (Nat.le_of_ble_eq_true rfl) (Nat.le_of_ble_eq_true rfl) rfl ?_
  refine m_if_eq (tgt := 37) X dX6_belt_9 (by decide) rfl (fun b9 => ?_) (fun b9 => ?_)
  · refine m_iconst (v := 0) X dX6_belt_37 (by decide) rfl ?_
    refine m_iconst (v := 1) X dX6_belt_38 (by decide) rfl ?_
    refine m_iconst (v := 1) X dX6_belt_39 (by decide) rfl ?_
    refine m_cV3 X dX6_belt_40 lk_X6_141 mk_X6_goes in_X6_goes se_X6_goes rfl rfl (c_X6_goes1 rfl) rfl (Nat.le_of_ble_eq_true rfl) (Nat.le_of_ble_eq_true rfl) (Nat.le_of_ble_eq_true rfl) (Nat.le_of_ble_eq_true rfl) (Nat.le_of_ble_eq_true rfl) rfl ?_
    refine m_if_ne (tgt := 48) X dX6_belt_43 (by decide) rfl (fun b43 => absurd b43 (not_not_intro rfl)) (fun b43 => ?_)
    refine m_lconst (v := 0) X dX6_belt_46 (by decide) rfl ?_
    exact m_lret X dX6_belt_47 rfl (rfl) (Nat.le_of_ble_eq_true rfl) (Nat.le_of_ble_eq_true rfl) rfl
  · refine m_iload_n X dX6_belt_12 rfl rfl ?_
    refine m_iconst (v := 0) X dX6_belt_13 (by decide) rfl ?_
    refine m_sipush (v := (1000)) X dX6_belt_14 (by decide) rfl ?_
    refine m_cS3 X dX6_belt_17 lk_X6_56 mk_X6_in st_X6_in (c_X6_in) rfl (Nat.le_of_ble_eq_true rfl) (Nat.le_of_ble_eq_true rfl) (Nat.le_of_ble_eq_true rfl) (Nat.le_of_ble_eq_true rfl) (Nat.le_of_ble_eq_true rfl) rfl ?_
    refine m_if_eq (tgt := 37) X dX6_belt_20 (by decide) rfl (fun b20 => ?_) (fun b20 => ?_)
    · refine m_iconst (v := 0) X dX6_belt_37 (by decide) rfl ?_
      refine m_iconst (v := 1) X dX6_belt_38 (by decide) rfl ?_
      refine m_iconst (v := 1) X dX6_belt_39 (by decide) rfl ?_
      refine m_cV3 X dX6_belt_40 lk_X6_141 mk_X6_goes in_X6_goes se_X6_goes rfl rfl (c_X6_goes1 rfl) rfl (Nat.le_of_ble_eq_true rfl) (Nat.le_of_ble_eq_true rfl) (Nat.le_of_ble_eq_true rfl) (Nat.le_of_ble_eq_true rfl) (Nat.le_of_ble_eq_true rfl) rfl ?_
      refine m_if_ne (tgt := 48) X dX6_belt_43 (by decide) rfl (fun b43 => absurd b43 (not_not_intro rfl)) (fun b43 => ?_)
      refine m_lconst (v := 0) X dX6_belt_46 (by decide) rfl ?_
      exact m_lret X dX6_belt_47 rfl (rfl) (Nat.le_of_ble_eq_true rfl) (Nat.le_of_ble_eq_true rfl) rfl
    · refine m_iload_n X dX6_belt_23 rfl rfl ?_
      refine m_iconst (v := 1) X dX6_belt_24 (by decide) rfl ?_
      refine m_bipush (v := (100)) X dX6_belt_25 (by decide) rfl ?_
      refine m_cS3 X dX6_belt_27 lk_X6_56 mk_X6_in st_X6_in (c_X6_in) rfl (Nat.le_of_ble_eq_true rfl) (Nat.le_of_ble_eq_true rfl) (Nat.le_of_ble_eq_true rfl) (Nat.le_of_ble_eq_true rfl) (Nat.le_of_ble_eq_true rfl) rfl ?_
      refine m_if_eq (tgt := 37) X dX6_belt_30 (by decide) rfl (fun b30 => ?_) (fun b30 => ?_)
      · refine m_iconst (v := 0) X dX6_belt_37 (by decide) rfl ?_
        refine m_iconst (v := 1) X dX6_belt_38 (by decide) rfl ?_
        refine m_iconst (v := 1) X dX6_belt_39 (by decide) rfl ?_
        refine m_cV3 X dX6_belt_40 lk_X6_141 mk_X6_goes in_X6_goes se_X6_goes rfl rfl (c_X6_goes1 rfl) rfl (Nat.le_of_ble_eq_true rfl) (Nat.le_of_ble_eq_true rfl) (Nat.le_of_ble_eq_true rfl) (Nat.le_of_ble_eq_true rfl) (Nat.le_of_ble_eq_true rfl) rfl ?_
        refine m_if_ne (tgt := 48) X dX6_belt_43 (by decide) rfl (fun b43 => absurd b43 (not_not_intro rfl)) (fun b43 => ?_)
        refine m_lconst (v := 0) X dX6_belt_46 (by decide) rfl ?_
        exact m_lret X dX6_belt_47 rfl (rfl) (Nat.le_of_ble_eq_true rfl) (Nat.le_of_ble_eq_true rfl) rfl
      · exact absurd ⟨Classical.not_not.mp (fun q => b9 (bi_f q)), Classical.not_not.mp (fun q => b20 (bi_f q)), Classical.not_not.mp (fun q => b30 (bi_f q))⟩ hl
end MN3

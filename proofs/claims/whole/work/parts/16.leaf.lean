section ML
def bi (p : Prop) [Decidable p] : Int32 := if p then 1 else 0
theorem bi_t {p : Prop} [Decidable p] (h : p) : bi p = 1 := if_pos h
theorem bi_f {p : Prop} [Decidable p] (h : ¬ p) : bi p = 0 := if_neg h
theorem bi_01 {p : Prop} [Decidable p] : bi p = 0 ∨ bi p = 1 := by unfold bi; by_cases h : p <;> simp [h]
theorem bi_0 {p : Prop} [Decidable p] : bi p = 0 ↔ ¬ p := by unfold bi; by_cases h : p <;> simp [h]
theorem bi_nar {p : Prop} [Decidable p] : narrow .boolean (.int (bi p)) = .int (bi p) := by rcases bi_01 (p := p) with h | h <;> rw [h] <;> rfl
theorem i_le {x y : Int32} : x ≤ y ↔ x.toInt ≤ y.toInt := Int32.le_iff_toInt_le
theorem i_lt {x y : Int32} : x < y ↔ x.toInt < y.toInt := Int32.lt_iff_toInt_lt
theorem i_nlt {x y : Int32} : ¬ x < y ↔ y ≤ x := by rw [i_le, i_lt]; omega
theorem i_nle {x y : Int32} : ¬ x ≤ y ↔ y < x := by rw [i_le, i_lt]; omega
theorem vi_iff {i : Int32} {n : Nat} (hn : n < 2 ^ 31) : vp_in i n ↔ ¬ i < 0 ∧ ¬ Int32.ofNat n ≤ i := by
  unfold vp_in
  rw [not_or, Int32.le_iff_toInt_le, Int32.lt_iff_toInt_lt, show (Int32.ofNat n).toInt = (n : Int) from nI_toInt hn, Int32.toInt_zero]
  have h1 : i.toNatClampNeg = i.toInt.toNat := rfl
  rw [h1]
  omega
theorem vi_0 {i : Int32} {n : Nat} (hn : n < 2 ^ 31) (h : vp_in i n) : ¬ i < 0 := ((vi_iff hn).mp h).1
theorem vi_1 {i : Int32} {n : Nat} (hn : n < 2 ^ 31) (h : vp_in i n) : ¬ Int32.ofNat n ≤ i := ((vi_iff hn).mp h).2
theorem c_X5_isWithin {h : m_H} {x lo hi : Int32} : m_Ctr M_X5_isWithin [.int x, .int lo, .int hi] h (.inl (some (.int (bi (lo ≤ x ∧ x ≤ hi))), h)) := by
  refine m_intro (by decide +kernel) (Nat.le_of_ble_eq_true rfl) (fun X => ?_)
  refine m_iload_n X dX5_isWithin_0 rfl rfl ?_
  refine m_iload_n X dX5_isWithin_1 rfl rfl ?_
  refine m_icmp_lt (tgt := 14) X dX5_isWithin_2 (by decide) rfl (fun b2 => ?_) (fun b2 => ?_)
  · refine m_iconst (v := 0) X dX5_isWithin_14 (by decide) rfl ?_
    exact m_zret X dX5_isWithin_15 rfl (by decide) (by rw [bi_f (fun q => absurd q.1 (by rw [i_nle]; exact b2))]) (Nat.le_of_ble_eq_true rfl) (Nat.le_of_ble_eq_true rfl) rfl
  · rw [i_nlt] at b2
    refine m_iload_n X dX5_isWithin_5 rfl rfl ?_
    refine m_iload_n X dX5_isWithin_6 rfl rfl ?_
    refine m_icmp_gt (tgt := 14) X dX5_isWithin_7 (by decide) rfl (fun b7 => ?_) (fun b7 => ?_)
    · rw [← i_nle] at b7
      refine m_iconst (v := 0) X dX5_isWithin_14 (by decide) rfl ?_
      exact m_zret X dX5_isWithin_15 rfl (by decide) (by rw [bi_f (fun q => absurd q.2 b7)]) (Nat.le_of_ble_eq_true rfl) (Nat.le_of_ble_eq_true rfl) rfl
    · rw [i_nlt] at b7
      refine m_iconst (v := 1) X dX5_isWithin_10 (by decide) rfl ?_
      refine m_goto (tgt := 15) X dX5_isWithin_11 (by decide) rfl ?_
      exact m_zret X dX5_isWithin_15 rfl (by decide) (by rw [bi_t ⟨b2, b7⟩]) (Nat.le_of_ble_eq_true rfl) (Nat.le_of_ble_eq_true rfl) rfl
theorem c_X6_in {h : m_H} {x lo hi : Int32} : m_Ctr M_X6_in [.int x, .int lo, .int hi] h (.inl (some (.int (bi (lo ≤ x ∧ x ≤ hi))), h)) := by
  refine m_intro (by decide +kernel) (Nat.le_of_ble_eq_true rfl) (fun X => ?_)
  refine m_iload_n X dX6_in_0 rfl rfl ?_
  refine m_iload_n X dX6_in_1 rfl rfl ?_
  refine m_icmp_lt (tgt := 14) X dX6_in_2 (by decide) rfl (fun b2 => ?_) (fun b2 => ?_)
  · refine m_iconst (v := 0) X dX6_in_14 (by decide) rfl ?_
    exact m_zret X dX6_in_15 rfl (by decide) (by rw [bi_f (fun q => absurd q.1 (by rw [i_nle]; exact b2))]) (Nat.le_of_ble_eq_true rfl) (Nat.le_of_ble_eq_true rfl) rfl
  · rw [i_nlt] at b2
    refine m_iload_n X dX6_in_5 rfl rfl ?_
    refine m_iload_n X dX6_in_6 rfl rfl ?_
    refine m_icmp_gt (tgt := 14) X dX6_in_7 (by decide) rfl (fun b7 => ?_) (fun b7 => ?_)
    · rw [← i_nle] at b7
      refine m_iconst (v := 0) X dX6_in_14 (by decide) rfl ?_
      exact m_zret X dX6_in_15 rfl (by decide) (by rw [bi_f (fun q => absurd q.2 b7)]) (Nat.le_of_ble_eq_true rfl) (Nat.le_of_ble_eq_true rfl) rfl
    · rw [i_nlt] at b7
      refine m_iconst (v := 1) X dX6_in_10 (by decide) rfl ?_
      refine m_goto (tgt := 15) X dX6_in_11 (by decide) rfl ?_
      exact m_zret X dX6_in_15 rfl (by decide) (by rw [bi_t ⟨b2, b7⟩]) (Nat.le_of_ble_eq_true rfl) (Nat.le_of_ble_eq_true rfl) rfl
theorem c_X5_at {h : m_H} {q n : Nat} {f : Nat → Int32} {i : Int32} (hq : h[q]? = some (m_ia n f)) (hn : n < 2 ^ 31) (hi : vp_in i n) : m_Ctr M_X5_at [.ref q, .int i] h (.inl (some (.int (f i.toNatClampNeg)), h)) := by
  refine m_intro (by decide +kernel) (Nat.le_of_ble_eq_true rfl) (fun X => ?_)
  refine m_iload_n X dX5_at_0 rfl rfl ?_
  refine m_if_lt (tgt := 16) X dX5_at_1 (by decide) rfl (fun b1 => absurd b1 (vi_0 hn hi)) (fun b1 => ?_)
  refine m_iload_n X dX5_at_4 rfl rfl ?_
  refine m_aload_n X dX5_at_5 rfl rfl ?_
  refine m_alen X dX5_at_6 hq rfl ?_
  refine m_icmp_ge (tgt := 16) X dX5_at_7 (by decide) rfl (fun b7 => absurd b7 (vi_1 hn hi)) (fun b7 => ?_)
  refine m_aload_n X dX5_at_10 rfl rfl ?_
  refine m_iload_n X dX5_at_11 rfl rfl ?_
  refine m_iald X dX5_at_12 hq (hi) rfl ?_
  refine m_goto (tgt := 17) X dX5_at_13 (by decide) rfl ?_
  exact m_iret X dX5_at_17 rfl (rfl) (Nat.le_of_ble_eq_true rfl) (Nat.le_of_ble_eq_true rfl) rfl
theorem c_X5_put {h : m_H} {q n : Nat} {f : Nat → Int32} {i : Int32} (hq : h[q]? = some (m_ia n f)) (hn : n < 2 ^ 31) (hi : vp_in i n) {x : Int32} : m_Ctr M_X5_put [.ref q, .int i, .int x] h (.inl (none, h.set q (m_ia n (upd f i.toNatClampNeg x)))) := by
  refine m_intro (by decide +kernel) (Nat.le_of_ble_eq_true rfl) (fun X => ?_)
  refine m_iload_n X dX5_put_0 rfl rfl ?_
  refine m_if_lt (tgt := 14) X dX5_put_1 (by decide) rfl (fun b1 => absurd b1 (vi_0 hn hi)) (fun b1 => ?_)
  refine m_iload_n X dX5_put_4 rfl rfl ?_
  refine m_aload_n X dX5_put_5 rfl rfl ?_
  refine m_alen X dX5_put_6 hq rfl ?_
  refine m_icmp_ge (tgt := 14) X dX5_put_7 (by decide) rfl (fun b7 => absurd b7 (vi_1 hn hi)) (fun b7 => ?_)
  refine m_aload_n X dX5_put_10 rfl rfl ?_
  refine m_iload_n X dX5_put_11 rfl rfl ?_
  refine m_iload_n X dX5_put_12 rfl rfl ?_
  refine m_iast X dX5_put_13 hq (hi) rfl ?_
  exact m_vret X dX5_put_14 rfl (rfl) (Nat.le_of_ble_eq_true rfl) (Nat.le_of_ble_eq_true rfl) rfl
theorem c_X5_increase {h : m_H} {q n : Nat} {f : Nat → Int32} {i : Int32} (hq : h[q]? = some (m_ia n f)) (hn : n < 2 ^ 31) (hi : vp_in i n) {x : Int32} : m_Ctr M_X5_increase [.ref q, .int i, .int x] h (.inl (none, h.set q (m_ia n (upd f i.toNatClampNeg (f i.toNatClampNeg + x))))) := by
  refine m_intro (by decide +kernel) (Nat.le_of_ble_eq_true rfl) (fun X => ?_)
  refine m_iload_n X dX5_increase_0 rfl rfl ?_
  refine m_if_lt (tgt := 17) X dX5_increase_1 (by decide) rfl (fun b1 => absurd b1 (vi_0 hn hi)) (fun b1 => ?_)
  refine m_iload_n X dX5_increase_4 rfl rfl ?_
  refine m_aload_n X dX5_increase_5 rfl rfl ?_
  refine m_alen X dX5_increase_6 hq rfl ?_
  refine m_icmp_ge (tgt := 17) X dX5_increase_7 (by decide) rfl (fun b7 => absurd b7 (vi_1 hn hi)) (fun b7 => ?_)
  refine m_aload_n X dX5_increase_10 rfl rfl ?_
  refine m_iload_n X dX5_increase_11 rfl rfl ?_
  refine m_dup2 X dX5_increase_12 rfl rfl rfl ?_
  refine m_iald X dX5_increase_13 hq (hi) rfl ?_
  refine m_iload_n X dX5_increase_14 rfl rfl ?_
  refine m_iadd X dX5_increase_15 rfl ?_
  refine m_iast X dX5_increase_16 hq (hi) rfl ?_
  exact m_vret X dX5_increase_17 rfl (rfl) (Nat.le_of_ble_eq_true rfl) (Nat.le_of_ble_eq_true rfl) rfl
theorem c_X2_place {h : m_H} {x z : Int32} : m_Ctr M_X2_place [.int x, .int z] h (.inl (some (.int (x * 20 + z)), h)) := by
  refine m_intro (by decide +kernel) (Nat.le_of_ble_eq_true rfl) (fun X => ?_)
  refine m_iload_n X dX2_place_0 rfl rfl ?_
  refine m_bipush (v := (20)) X dX2_place_1 (by decide) rfl ?_
  refine m_imul X dX2_place_3 rfl ?_
  refine m_iload_n X dX2_place_4 rfl rfl ?_
  refine m_iadd X dX2_place_5 rfl ?_
  exact m_iret X dX2_place_6 rfl (rfl) (Nat.le_of_ble_eq_true rfl) (Nat.le_of_ble_eq_true rfl) rfl
def fl4 (x : Int32) : Int32 := if 0 ≤ x then x / 4 else if x / 4 * 4 = x then x / 4 else x / 4 - 1
end ML

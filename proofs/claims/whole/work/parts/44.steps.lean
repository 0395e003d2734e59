section MS
theorem fL0 {f : Nat → Int64} {x : Int64} : vp_updL f (0 : Int32).toNatClampNeg x 0 = x := if_pos rfl
theorem nI_ex {x : Int32} {m : Nat} (hm : m < 2 ^ 31) (h0 : 0 ≤ x.toInt) (h1 : x.toInt ≤ m) : ∃ N, N ≤ m ∧ (N : Int) = x.toInt ∧ x = nI N := by
  refine ⟨x.toInt.toNat, by omega, by omega, ?_⟩
  apply Int32.toInt_inj.mp
  rw [nI_toInt (by omega)]; omega
theorem lt_ex {x y : Int32} {K : Nat} (hK : K ≤ 30) (hy : y = nI K) (h : 0 ≤ x ∧ x ≤ y - 1) : ∃ i, i < K ∧ x = nI i := by
  obtain ⟨h0, h1⟩ := h
  have e0 : (0 : Int32).toInt = 0 := rfl
  have e1 : (1 : Int32).toInt = 1 := rfl
  rw [i_le, e0] at h0
  rw [hy, i_le, Jvm.Kit.i32_sub (by rw [nI_toInt (by omega), e1]; omega) (by rw [nI_toInt (by omega), e1]; omega), nI_toInt (by omega), e1] at h1
  obtain ⟨N, g1, g2, g3⟩ := nI_ex (m := 30) (by decide) h0 (by omega)
  exact ⟨N, by omega, g3⟩
theorem in_ex {y : Int32} {K M : Nat} (hM : M ≤ 100) (hK : K ≤ M) (hy : y = nI K) (h : ¬ nI M ≤ y) : vp_in y M := by
  rw [hy, nI_leI (by omega) (by omega)] at h
  rw [hy]
  exact vp_in_nI (by omega) (by omega)
theorem use_ix (i j : Nat) : 20 * nI i + nI j = nI (i * 20 + j) := by
  rw [show (20 : Int32) = nI 20 from rfl, nI_mul, nI_add, Nat.mul_comm]
/-- one step of the law: its call of the class, then its call of the model -/
def m_StI (ML : m_M) (HL : List (Nat × Nat × Nat × Nat)) (MX : m_M) (as1 as2 : List Value) (n : Nat) (v : m_V) (a : m_R) (x : Int64) (lq : Int32) (f : Nat → Int64) : Prop :=
  ∃ (k r : Int32) (v' : m_V) (a' : m_R) (x' : Int64) (f' : Nat → Int64) (n' L' B' : Nat),
    m_CtrN ML HL as1 (hL v a x v a x lq [m_la 1 f]) (.inl (some (.int k), hL v' a' x' v a x lq [m_la 1 f'])) ∧
    m_Ctr MX as2 (hL v' a' x' v a x lq [m_la 1 f']) (.inl (some (.int r), hL v' a' x' v' a' x' k [m_la 1 f'])) ∧
    (k = 0 → f' 0 = r.toInt64) ∧ Inv n' L' B' v' a' ∧ n' ≤ n + 50
def m_StL (ML : m_M) (HL : List (Nat × Nat × Nat × Nat)) (MX : m_M) (as1 as2 : List Value) (n : Nat) (v : m_V) (a : m_R) (x : Int64) (lq : Int32) (f : Nat → Int64) : Prop :=
  ∃ (k : Int32) (r : Int64) (v' : m_V) (a' : m_R) (x' : Int64) (f' : Nat → Int64) (n' L' B' : Nat),
    m_CtrN ML HL as1 (hL v a x v a x lq [m_la 1 f]) (.inl (some (.int k), hL v' a' x' v a x lq [m_la 1 f'])) ∧
    m_Ctr MX as2 (hL v' a' x' v a x lq [m_la 1 f']) (.inl (some (.long r), hL v' a' x' v' a' x' k [m_la 1 f'])) ∧
    (k = 0 → f' 0 = r) ∧ Inv n' L' B' v' a' ∧ n' ≤ n + 50
section
variable {n L B : Nat} {v : m_V} {a : m_R} {x : Int64} {lq : Int32} {f : Nat → Int64}
theorem inv_8 (h : Inv n L B v a) (q : ¬ 30 ≤ v 8) : vp_in (v 8) 30 := by
  obtain ⟨⟨hA, hR, hN, k1, k2, k3, k4, k5, k6⟩, hT⟩ := h
  exact in_ex (by decide) k1 k3 q
theorem inv_9 (h : Inv n L B v a) (q : ¬ 6 ≤ v 9) : vp_in (v 9) 6 := by
  obtain ⟨⟨⟨h1, ⟨S, hS, h2⟩, h3⟩, hR⟩, hT⟩ := h
  exact in_ex (by decide) hS h2 q
theorem inv_hL (h : Inv n L B v a) : ∃ L, L ≤ 30 ∧ v 8 = nI L := by
  obtain ⟨⟨hA, hR, hN, k1, k2, k3, k4, k5, k6⟩, hT⟩ := h
  exact ⟨L, k1, k3⟩
theorem inv_i8 {i : Int32} (h : Inv n L B v a) (q : 0 ≤ i ∧ i ≤ v 8 - 1) : ∃ j, j < L ∧ j < 30 ∧ i = nI j := by
  obtain ⟨⟨hA, hR, hN, k1, k2, k3, k4, k5, k6⟩, hT⟩ := h
  obtain ⟨j, g1, g2⟩ := lt_ex k1 k3 q
  exact ⟨j, g1, by omega, g2⟩
theorem inv_i20 {i : Int32} (h : Inv n L B v a) (q : 0 ≤ i ∧ i ≤ v 20 - 1) : ∃ j, j < B ∧ j < 20 ∧ i = nI j := by
  obtain ⟨⟨hA, hR, hN, k1, k2, k3, k4, k5, k6⟩, hT⟩ := h
  obtain ⟨j, g1, g2⟩ := lt_ex (by omega) k4 q
  exact ⟨j, g1, by omega, g2⟩
theorem inv_sF {i : Nat} (h : Inv n L B v a) (hi : i < L) : sFst a i B := by
  obtain ⟨⟨hA, hR, hN, k1, k2, k3, k4, k5, k6⟩, hT⟩ := h
  exact (k5.1 i hi).2.2.2
theorem inv_20 (h : Inv n L B v a) : B ≤ 20 ∧ v 20 = nI B := by
  obtain ⟨⟨hA, hR, hN, k1, k2, k3, k4, k5, k6⟩, hT⟩ := h
  exact ⟨k2, k4⟩
theorem inv_15 (h : Inv n L B v a) : vp_in (v 15) 6 := h.1.1.1
theorem s_tick {p0 : Int32} (hn : n + 100 < 2 ^ 30) (h : Inv n L B v a) : m_StI M_L_tick H_L_tick M_X6_tick [.ref 0, .int p0, .ref 31] [.ref 17, .int p0] n v a x lq f := by
  by_cases hr : -1000 ≤ p0 ∧ p0 ≤ 100000
  · exact ⟨0, _, _, _, _, _, _, _, _, w_tick (c_X5_tick hr (inv_kI h)), c_X6_tick hr (inv_mI (by omega) hr h), fun _ => fL0, inv_bring (by omega) hr h, by omega⟩
  · exact ⟨1, 0, v, a, x, f, n, L, B, w_tick_x1 (v9 := v) (a9 := a) (x9 := x) (x_X5_tick hr), f_X6_tick hr, fun q => absurd q (by decide), h, by omega⟩
theorem s_ticks {p0 p1 : Int32} (hn : n + 100 < 2 ^ 30) (h : Inv n L B v a) : m_StI M_L_ticks H_L_ticks M_X6_ticks [.ref 0, .int p0, .int p1, .ref 31] [.ref 17, .int p0, .int p1] n v a x lq f := by
  by_cases hr : -1000 ≤ p0 ∧ p0 ≤ 100000
  · by_cases hq : 1 ≤ p1 ∧ p1 ≤ 50
    · obtain ⟨N, g1, g2, rfl⟩ := nI_ex (x := p1) (m := 50) (by decide) (by have := hq.1; rw [i_le] at this; have e : (1 : Int32).toInt = 1 := rfl; omega) (by have := hq.2; rw [i_le] at this; exact this)
      have hN1 : 1 ≤ N := by have := hq.1; rw [show (1 : Int32) = nI 1 from rfl, nI_leI (by decide) (by omega)] at this; exact this
      exact ⟨0, _, _, _, _, _, _, _, _, w_ticks (c_X5_ticks hr hN1 g1 (fun i hi => inv_kI (inv_ticks hr h i (by omega)))), c_X6_ticks hr hN1 g1 (fun i hi => inv_mI (by omega) hr (inv_ticks hr h i (by omega))), fun _ => fL0, inv_ticks hr h N (by omega), by omega⟩
    · exact ⟨1, 0, v, a, x, f, n, L, B, w_ticks_x1 (v9 := v) (a9 := a) (x9 := x) (x_X5_ticks2 hr hq), f_X6_ticks (fun q => hq q.2), fun q => absurd q (by decide), h, by omega⟩
  · exact ⟨1, 0, v, a, x, f, n, L, B, w_ticks_x1 (v9 := v) (a9 := a) (x9 := x) (x_X5_ticks1 hr), f_X6_ticks (fun q => hr q.1), fun q => absurd q (by decide), h, by omega⟩
theorem s_zero (hn : n + 100 < 2 ^ 30) (h : Inv n L B v a) : m_StI M_L_zero H_L_zero M_X6_zero [.ref 0, .ref 31] [.ref 17] n v a x lq f := by
  by_cases h0 : v 10 = 0
  · by_cases hc : calm v
    · by_cases h4 : -500 ≤ v 4 ∧ v 4 ≤ 500
      · exact ⟨0, _, _, _, _, _, _, _, _, w_zero (c_X5_zero h0 hc h4), c_X6_zero h0 (inv_rS (by omega) h) hc h4, fun _ => fL0, inv_zero h4 h, by omega⟩
      · exact ⟨1, 0, v, a, x, f, n, L, B, w_zero_x1 (v9 := v) (a9 := a) (x9 := x) (x_X5_zero2 h0 hc h4), f_X6_zero (inv_rS (by omega) h) (fun q => h4 q.2.2), fun q => absurd q (by decide), h, by omega⟩
    · exact ⟨1, 0, v, a, x, f, n, L, B, w_zero_x1 (v9 := v) (a9 := a) (x9 := x) (x_X5_zero1 (fun q => hc q.2)), f_X6_zero (inv_rS (by omega) h) (fun q => hc q.2.1), fun q => absurd q (by decide), h, by omega⟩
  · exact ⟨1, 0, v, a, x, f, n, L, B, w_zero_x1 (v9 := v) (a9 := a) (x9 := x) (x_X5_zero1 (fun q => h0 q.1)), f_X6_zero (inv_rS (by omega) h) (fun q => h0 q.1), fun q => absurd q (by decide), h, by omega⟩
theorem s_setBand {p0 : Int32} (hn : n + 100 < 2 ^ 30) (h : Inv n L B v a) : m_StI M_L_setBand H_L_setBand M_X6_setBand [.ref 0, .int p0, .ref 31] [.ref 17, .int p0] n v a x lq f := by
  by_cases hb : 0 ≤ p0 ∧ p0 ≤ 50
  · exact ⟨0, _, _, _, _, _, _, _, _, w_setBand (c_X5_setBand hb), c_X6_setBand hb, fun _ => fL0, inv_band h, by omega⟩
  · exact ⟨1, 0, v, a, x, f, n, L, B, w_setBand_x1 (v9 := v) (a9 := a) (x9 := x) (x_X5_setBand hb), f_X6_setBand hb, fun q => absurd q (by decide), h, by omega⟩
theorem s_fill {p0 p1 : Int32} (hn : n + 100 < 2 ^ 30) (h : Inv n L B v a) : m_StI M_L_fill H_L_fill M_X6_fill [.ref 0, .int p0, .int p1, .ref 31] [.ref 17, .int p0, .int p1] n v a x lq f := by
  by_cases hb : 0 ≤ p0 ∧ p0 ≤ 3
  · by_cases hm : 1 ≤ p1 ∧ p1 ≤ 100000
    · by_cases h8 : 30 ≤ v 8
      · exact ⟨3, 0, v, a, x, f, n, L, B, w_fill_x3 (v9 := v) (a9 := a) (x9 := x) (x_X5_fill3 hb hm h8), f_X6_fill3 hb hm h8, fun q => absurd q (by decide), h, by omega⟩
      · exact ⟨0, v 8 + 1 - 1, _, _, _, _, _, _, _, w_fill (c_X5_fill hb hm (inv_8 h h8)), c_X6_fill hb hm (inv_8 h h8), fun _ => by rw [i_p1]; exact fL0, inv_fill (inv_8 h h8) hm h, by omega⟩
    · exact ⟨2, 0, v, a, x, f, n, L, B, w_fill_x2 (v9 := v) (a9 := a) (x9 := x) (x_X5_fill2 hb hm), f_X6_fill2 hb hm, fun q => absurd q (by decide), h, by omega⟩
  · exact ⟨1, 0, v, a, x, f, n, L, B, w_fill_x1 (v9 := v) (a9 := a) (x9 := x) (x_X5_fill1 hb), f_X6_fill1 hb, fun q => absurd q (by decide), h, by omega⟩
theorem s_setMargin {p0 p1 : Int32} (hn : n + 100 < 2 ^ 30) (h : Inv n L B v a) : m_StI M_L_setMargin H_L_setMargin M_X6_setMargin [.ref 0, .int p0, .int p1, .ref 31] [.ref 17, .int p0, .int p1] n v a x lq f := by
  by_cases hb : 0 ≤ p0 ∧ p0 ≤ 3
  · by_cases hm : 0 ≤ p1 ∧ p1 ≤ 1000
    · exact ⟨0, _, _, _, _, _, _, _, _, w_setMargin (c_X5_setMargin hb hm), c_X6_setMargin hb hm, fun _ => fL0, inv_margin h, by omega⟩
    · exact ⟨2, 0, v, a, x, f, n, L, B, w_setMargin_x2 (v9 := v) (a9 := a) (x9 := x) (x_X5_setMargin2 hb hm), f_X6_setMargin2 hb hm, fun q => absurd q (by decide), h, by omega⟩
  · exact ⟨1, 0, v, a, x, f, n, L, B, w_setMargin_x1 (v9 := v) (a9 := a) (x9 := x) (x_X5_setMargin1 hb), f_X6_setMargin1 hb, fun q => absurd q (by decide), h, by omega⟩
theorem s_flight {p0 : Int32} (hn : n + 100 < 2 ^ 30) (h : Inv n L B v a) : m_StI M_L_flight H_L_flight M_X6_flight [.ref 0, .int p0, .ref 31] [.ref 17, .int p0] n v a x lq f := by
  by_cases hb : 0 ≤ p0 ∧ p0 ≤ 3
  · exact ⟨0, _, _, _, _, _, _, _, _, w_flight (c_X5_flight hb), c_X6_flight hb, fun _ => fL0, h, by omega⟩
  · exact ⟨1, 0, v, a, x, f, n, L, B, w_flight_x1 (v9 := v) (a9 := a) (x9 := x) (x_X5_flight hb), f_X6_flight hb, fun q => absurd q (by decide), h, by omega⟩
theorem s_gate {p0 : Int32} (hn : n + 100 < 2 ^ 30) (h : Inv n L B v a) : m_StI M_L_gate H_L_gate M_X6_gate [.ref 0, .int p0, .ref 31] [.ref 17, .int p0] n v a x lq f := by
  by_cases hb : 0 ≤ p0 ∧ p0 ≤ 3
  · exact ⟨0, _, _, _, _, _, _, _, _, w_gate (c_X5_gate hb (inv_15 h)), c_X6_gate hb (inv_15 h), fun _ => fL0, h, by omega⟩
  · exact ⟨1, 0, v, a, x, f, n, L, B, w_gate_x1 (v9 := v) (a9 := a) (x9 := x) (x_X5_gate hb), f_X6_gate hb, fun q => absurd q (by decide), h, by omega⟩
theorem s_stock {p0 : Int32} (hn : n + 100 < 2 ^ 30) (h : Inv n L B v a) : m_StI M_L_stock H_L_stock M_X6_stock [.ref 0, .int p0, .ref 31] [.ref 17, .int p0] n v a x lq f := by
  by_cases hb : 0 ≤ p0 ∧ p0 ≤ 3
  · exact ⟨0, _, _, _, _, _, _, _, _, w_stock (c_X5_stock hb (inv_hL h)), c_X6_stock hb (inv_hL h), fun _ => fL0, h, by omega⟩
  · exact ⟨1, 0, v, a, x, f, n, L, B, w_stock_x1 (v9 := v) (a9 := a) (x9 := x) (x_X5_stock hb), f_X6_stock hb (inv_hL h), fun q => absurd q (by decide), h, by omega⟩
theorem s_register {p0 : Int32} (hn : n + 100 < 2 ^ 30) (h : Inv n L B v a) : m_StI M_L_register H_L_register M_X6_register [.ref 0, .int p0, .ref 31] [.ref 17, .int p0] n v a x lq f := by
  by_cases hb : 0 ≤ p0 ∧ p0 ≤ 3
  · exact ⟨0, _, _, _, _, _, _, _, _, w_register (c_X5_register hb), c_X6_register hb, fun _ => fL0, h, by omega⟩
  · exact ⟨1, 0, v, a, x, f, n, L, B, w_register_x1 (v9 := v) (a9 := a) (x9 := x) (x_X5_register hb), f_X6_register hb, fun q => absurd q (by decide), h, by omega⟩
theorem s_registerByLots {p0 : Int32} (hn : n + 100 < 2 ^ 30) (h : Inv n L B v a) : m_StI M_L_registerByLots H_L_registerByLots M_X6_registerByLots [.ref 0, .int p0, .ref 31] [.ref 17, .int p0] n v a x lq f := by
  by_cases hb : 0 ≤ p0 ∧ p0 ≤ 3
  · exact ⟨0, _, _, _, _, _, _, _, _, w_registerByLots (c_X5_registerByLots hb (inv_hL h)), c_X6_registerByLots hb (inv_hL h), fun _ => fL0, h, by omega⟩
  · exact ⟨1, 0, v, a, x, f, n, L, B, w_registerByLots_x1 (v9 := v) (a9 := a) (x9 := x) (x_X5_registerByLots hb), f_X6_registerByLots hb (inv_hL h), fun q => absurd q (by decide), h, by omega⟩
theorem s_leftOf {p0 : Int32} (hn : n + 100 < 2 ^ 30) (h : Inv n L B v a) : m_StI M_L_leftOf H_L_leftOf M_X6_leftOf [.ref 0, .int p0, .ref 31] [.ref 17, .int p0] n v a x lq f := by
  by_cases hi : 0 ≤ p0 ∧ p0 ≤ v 8 - 1
  · obtain ⟨i, g1, g2, rfl⟩ := inv_i8 h hi
    exact ⟨0, _, _, _, _, _, _, _, _, w_leftOf (c_X5_leftOf hi (vp_in_nI g2 (by decide))), c_X6_leftOf hi (vp_in_nI g2 (by decide)), fun _ => fL0, h, by omega⟩
  · exact ⟨1, 0, v, a, x, f, n, L, B, w_leftOf_x1 (v9 := v) (a9 := a) (x9 := x) (x_X5_leftOf hi), f_X6_leftOf hi, fun q => absurd q (by decide), h, by omega⟩
theorem s_firstBatch {p0 : Int32} (hn : n + 100 < 2 ^ 30) (h : Inv n L B v a) : m_StI M_L_firstBatch H_L_firstBatch M_X6_firstBatch [.ref 0, .int p0, .ref 31] [.ref 17, .int p0] n v a x lq f := by
  by_cases hi : 0 ≤ p0 ∧ p0 ≤ v 8 - 1
  · obtain ⟨i, g1, g2, rfl⟩ := inv_i8 h hi
    obtain ⟨k2, k4⟩ := inv_20 h
    exact ⟨0, _, _, _, _, _, _, _, _, w_firstBatch (c_X5_firstBatch hi g2 k2 k4 (inv_sF h g1)), c_X6_firstBatch hi (vp_in_nI g2 (by decide)), fun _ => by rw [nI_clamp (by omega)]; exact fL0, h, by omega⟩
  · exact ⟨1, 0, v, a, x, f, n, L, B, w_firstBatch_x1 (v9 := v) (a9 := a) (x9 := x) (x_X5_firstBatch hi), f_X6_firstBatch hi, fun q => absurd q (by decide), h, by omega⟩
theorem s_used {p0 p1 : Int32} (hn : n + 100 < 2 ^ 30) (h : Inv n L B v a) : m_StI M_L_used H_L_used M_X6_used [.ref 0, .int p0, .int p1, .ref 31] [.ref 17, .int p0, .int p1] n v a x lq f := by
  by_cases hi : 0 ≤ p0 ∧ p0 ≤ v 8 - 1
  · by_cases hj : 0 ≤ p1 ∧ p1 ≤ v 20 - 1
    · obtain ⟨i, g1, g2, rfl⟩ := inv_i8 h hi
      obtain ⟨j, g3, g4, rfl⟩ := inv_i20 h hj
      exact ⟨0, _, _, _, _, _, _, _, _, w_used (c_X5_used hi hj g2 g4), c_X6_used hi hj (by rw [use_ix]; exact vp_in_nI (by omega) (by decide)), fun _ => by rw [use_ix, nI_clamp (by omega)]; exact fL0, h, by omega⟩
    · exact ⟨1, 0, v, a, x, f, n, L, B, w_used_x1 (v9 := v) (a9 := a) (x9 := x) (x_X5_used2 hi hj), f_X6_used (fun q => hj q.2), fun q => absurd q (by decide), h, by omega⟩
  · exact ⟨1, 0, v, a, x, f, n, L, B, w_used_x1 (v9 := v) (a9 := a) (x9 := x) (x_X5_used1 hi), f_X6_used (fun q => hi q.1), fun q => absurd q (by decide), h, by omega⟩
theorem s_addStep {p0 p1 p2 : Int32} (hn : n + 100 < 2 ^ 30) (h : Inv n L B v a) : m_StI M_L_addStep H_L_addStep M_X6_addStep [.ref 0, .int p0, .int p1, .int p2, .ref 31] [.ref 17, .int p0, .int p1, .int p2] n v a x lq f := by
  by_cases hb : 0 ≤ p0 ∧ p0 ≤ 3
  · by_cases ht : 1 ≤ p1 ∧ p1 ≤ 10000
    · by_cases hl : 0 ≤ p2 ∧ p2 ≤ 1000
      · by_cases h0 : v 10 = 0
        · by_cases h9 : 6 ≤ v 9
          · exact ⟨3, 0, v, a, x, f, n, L, B, w_addStep_x3 (v9 := v) (a9 := a) (x9 := x) (x_X5_addStep3 hb ht hl (fun q => q.2 h9)), f_X6_addStep3 hb ht hl (fun q => q.2 h9), fun q => absurd q (by decide), h, by omega⟩
          · exact ⟨0, _, _, _, _, _, _, _, _, w_addStep (c_X5_addStep hb ht hl h0 (inv_9 h h9)), c_X6_addStep hb ht hl h0 (inv_9 h h9), fun _ => fL0, inv_addStep hb ht (inv_9 h h9) h, by omega⟩
        · exact ⟨3, 0, v, a, x, f, n, L, B, w_addStep_x3 (v9 := v) (a9 := a) (x9 := x) (x_X5_addStep3 hb ht hl (fun q => h0 q.1)), f_X6_addStep3 hb ht hl (fun q => h0 q.1), fun q => absurd q (by decide), h, by omega⟩
      · exact ⟨2, 0, v, a, x, f, n, L, B, w_addStep_x2 (v9 := v) (a9 := a) (x9 := x) (x_X5_addStep2 hb (fun q => hl q.2)), f_X6_addStep2 hb (fun q => hl q.2), fun q => absurd q (by decide), h, by omega⟩
    · exact ⟨2, 0, v, a, x, f, n, L, B, w_addStep_x2 (v9 := v) (a9 := a) (x9 := x) (x_X5_addStep2 hb (fun q => ht q.1)), f_X6_addStep2 hb (fun q => ht q.1), fun q => absurd q (by decide), h, by omega⟩
  · exact ⟨1, 0, v, a, x, f, n, L, B, w_addStep_x1 (v9 := v) (a9 := a) (x9 := x) (x_X5_addStep1 hb), f_X6_addStep1 hb, fun q => absurd q (by decide), h, by omega⟩
theorem s_clearRecipe (hn : n + 100 < 2 ^ 30) (h : Inv n L B v a) : m_StI M_L_clearRecipe H_L_clearRecipe M_X6_clearRecipe [.ref 0, .ref 31] [.ref 17] n v a x lq f := by
  by_cases h0 : v 10 = 0
  · exact ⟨0, _, _, _, _, _, _, _, _, w_clearRecipe (c_X5_clearRecipe h0), c_X6_clearRecipe h0, fun _ => fL0, inv_clear h, by omega⟩
  · exact ⟨1, 0, v, a, x, f, n, L, B, w_clearRecipe_x1 (v9 := v) (a9 := a) (x9 := x) (x_X5_clearRecipe h0), f_X6_clearRecipe h0, fun q => absurd q (by decide), h, by omega⟩
theorem s_start (hn : n + 100 < 2 ^ 30) (h : Inv n L B v a) : m_StI M_L_start H_L_start M_X6_start [.ref 0, .ref 31] [.ref 17] n v a x lq f := by
  by_cases h0 : v 10 = 0
  · by_cases h9 : v 9 ≤ 0
    · exact ⟨1, 0, v, a, x, f, n, L, B, w_start_x1 (v9 := v) (a9 := a) (x9 := x) (x_X5_start (fun q => q.2.1 h9)), f_X6_start (fun q => q.2.1 h9), fun q => absurd q (by decide), h, by omega⟩
    · by_cases h20 : 20 ≤ v 20
      · exact ⟨1, 0, v, a, x, f, n, L, B, w_start_x1 (v9 := v) (a9 := a) (x9 := x) (x_X5_start (fun q => q.2.2 h20)), f_X6_start (fun q => q.2.2 h20), fun q => absurd q (by decide), h, by omega⟩
      · exact ⟨0, v 20 + 1 - 1, _, _, _, _, _, _, _, w_start (c_X5_start h0 h9 h20), c_X6_start h0 h9 h20, fun _ => by rw [i_p1]; exact fL0, inv_start h20 h, by omega⟩
  · exact ⟨1, 0, v, a, x, f, n, L, B, w_start_x1 (v9 := v) (a9 := a) (x9 := x) (x_X5_start (fun q => h0 q.1)), f_X6_start (fun q => h0 q.1), fun q => absurd q (by decide), h, by omega⟩
theorem s_hold (hn : n + 100 < 2 ^ 30) (h : Inv n L B v a) : m_StI M_L_hold H_L_hold M_X6_hold [.ref 0, .ref 31] [.ref 17] n v a x lq f := by
  by_cases h0 : v 10 = 0
  · exact ⟨1, 0, v, a, x, f, n, L, B, w_hold_x1 (v9 := v) (a9 := a) (x9 := x) (x_X5_hold (fun q => q.1 h0)), f_X6_hold (fun q => q.1 h0), fun q => absurd q (by decide), h, by omega⟩
  · by_cases h6 : v 10 = 6
    · exact ⟨1, 0, v, a, x, f, n, L, B, w_hold_x1 (v9 := v) (a9 := a) (x9 := x) (x_X5_hold (fun q => q.2 h6)), f_X6_hold (fun q => q.2 h6), fun q => absurd q (by decide), h, by omega⟩
    · exact ⟨0, _, _, _, _, _, _, _, _, w_hold (c_X5_hold h0 h6), c_X6_hold h0 h6, fun _ => fL0, inv_hold h0 h6 h, by omega⟩
theorem s_resume (hn : n + 100 < 2 ^ 30) (h : Inv n L B v a) : m_StI M_L_resume H_L_resume M_X6_resume [.ref 0, .ref 31] [.ref 17] n v a x lq f := by
  by_cases h0 : v 10 = 6
  · exact ⟨0, _, _, _, _, _, _, _, _, w_resume (c_X5_resume h0 (inv_kI h)), c_X6_resume h0 (inv_kI h), fun _ => fL0, inv_goOn h0 h, by omega⟩
  · exact ⟨1, 0, v, a, x, f, n, L, B, w_resume_x1 (v9 := v) (a9 := a) (x9 := x) (x_X5_resume h0), f_X6_resume h0, fun q => absurd q (by decide), h, by omega⟩
theorem s_abort (hn : n + 100 < 2 ^ 30) (h : Inv n L B v a) : m_StI M_L_abort H_L_abort M_X6_abort [.ref 0, .ref 31] [.ref 17] n v a x lq f := by
  by_cases h0 : v 10 = 0
  · exact ⟨1, 0, v, a, x, f, n, L, B, w_abort_x1 (v9 := v) (a9 := a) (x9 := x) (x_X5_abort h0), f_X6_abort h0, fun q => absurd q (by decide), h, by omega⟩
  · exact ⟨0, _, _, _, _, _, _, _, _, w_abort (c_X5_abort h0 (inv_kI h)), c_X6_abort h0 (inv_kI h), fun _ => fL0, inv_abort h0 h, by omega⟩
theorem s_belt {p0 p1 p2 : Int32} (hn : n + 100 < 2 ^ 30) (h : Inv n L B v a) : m_StL M_L_belt H_L_belt M_X6_belt [.ref 0, .int p0, .int p1, .int p2, .ref 31] [.ref 17, .int p0, .int p1, .int p2] n v a x lq f := by
  by_cases hd : 0 ≤ p0 ∧ p0 ≤ 10000
  · by_cases hg : 0 ≤ p1 ∧ p1 ≤ 1000
    · by_cases hq : 1 ≤ p2 ∧ p2 ≤ 100
      · exact ⟨0, _, _, _, _, _, _, _, _, w_belt (c_X5_belt hd hg hq), c_X6_belt hd hg hq, fun _ => fL0, h, by omega⟩
      · exact ⟨1, 0, v, a, x, f, n, L, B, w_belt_x1 (v9 := v) (a9 := a) (x9 := x) (x_X5_belt2 hd hg hq), f_X6_belt (fun q => hq q.2.2), fun q => absurd q (by decide), h, by omega⟩
    · exact ⟨1, 0, v, a, x, f, n, L, B, w_belt_x1 (v9 := v) (a9 := a) (x9 := x) (x_X5_belt1 (fun q => hg q.2)), f_X6_belt (fun q => hg q.2.1), fun q => absurd q (by decide), h, by omega⟩
  · exact ⟨1, 0, v, a, x, f, n, L, B, w_belt_x1 (v9 := v) (a9 := a) (x9 := x) (x_X5_belt1 (fun q => hd q.1)), f_X6_belt (fun q => hd q.1), fun q => absurd q (by decide), h, by omega⟩
end
end MS

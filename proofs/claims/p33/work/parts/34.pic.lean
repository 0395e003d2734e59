section PC
/-! numbers -/
theorem nI_modI {n m : Nat} (hn : n < 2 ^ 31) (hm : 0 < m) (hm2 : m < 2 ^ 31) : nI n - nI n / nI m * nI m = nI (n % m) := by
  have e1 : (nI n).toInt = n := nI_toInt (by omega)
  have e4 : (nI m).toInt = m := nI_toInt (by omega)
  have hq : n / m ≤ n := Nat.div_le_self n m
  have hmul : n / m * m ≤ n := Nat.div_mul_le_self n m
  have e2 : (nI n / nI m).toInt = ((n / m : Nat) : Int) := by
    rw [Int32.toInt_div, e1, e4, Int.tdiv_eq_ediv_of_nonneg (by omega), ← Int.natCast_ediv]
    clear hmul
    generalize n / m = q at hq ⊢
    exact Jvm.Kit.bmod32 (by omega) (by omega)
  have hc : ((n / m : Nat) : Int) * (m : Int) = ((n / m * m : Nat) : Int) := (Int.natCast_mul _ _).symm
  have e3 : (nI n / nI m * nI m).toInt = ((n / m * m : Nat) : Int) := by
    rw [Jvm.Kit.i32_mul (by rw [e2, e4, hc]; omega) (by rw [e2, e4, hc]; omega), e2, e4, hc]
  have hd : n % m = n - n / m * m := by
    have := Nat.div_add_mod n m
    rw [Nat.mul_comm] at this
    omega
  apply Int32.toInt_inj.mp
  rw [Jvm.Kit.i32_sub (by rw [e1, e3]; omega) (by rw [e1, e3]; omega), e1, e3, nI_toInt (by omega), hd]
  omega
theorem nI_divI {n m : Nat} (hn : n < 2 ^ 31) (hm2 : m < 2 ^ 31) : nI n / nI m = nI (n / m) := by
  have e1 : (nI n).toInt = n := nI_toInt (by omega)
  have e4 : (nI m).toInt = m := nI_toInt (by omega)
  have hq : n / m ≤ n := Nat.div_le_self n m
  apply Int32.toInt_inj.mp
  rw [Int32.toInt_div, e1, e4, Int.tdiv_eq_ediv_of_nonneg (by omega), ← Int.natCast_ediv]
  generalize n / m = q at hq ⊢
  rw [Jvm.Kit.bmod32 (by omega) (by omega), nI_toInt (by omega)]
theorem i_ge0 {x : Int32} {n : Nat} (hn : n < 2 ^ 31) (h0 : 0 ≤ x.toInt) (h1 : x.toInt ≤ n) : ∃ j : Nat, j ≤ n ∧ x = nI j ∧ (j : Int) = x.toInt := by
  refine ⟨x.toInt.toNat, by omega, ?_, by omega⟩
  apply Int32.toInt_inj.mp
  rw [nI_toInt (by omega)]; omega
theorem fl4_eq (x : Int32) : x >>> ((2 : Int32) &&& 31) = fl4 x := by
  have h1 : -2147483648 ≤ x.toInt := Int32.le_toInt x
  have h2 : x.toInt < 2147483648 := Int32.toInt_lt x
  have e4 : (4 : Int32).toInt = 4 := rfl
  have e1 : (x >>> ((2 : Int32) &&& 31)).toInt = x.toInt / 4 := by
    show (x >>> ((2 : Int32) &&& 31)).toBitVec.toInt = _
    rw [Int32.toBitVec_shiftRight]
    show (x.toBitVec.sshiftRight 2).toInt = x.toBitVec.toInt / 4
    rw [BitVec.toInt_sshiftRight, Int.shiftRight_eq_div_pow]
    rfl
  have em : ∀ y : Int32, y.toBitVec.msb = decide (y.toInt < 0) := fun y => BitVec.msb_eq_toInt
  have e2 : 0 ≤ x ^^^ 4 ↔ 0 ≤ x.toInt := by
    have hx := em (x ^^^ 4)
    rw [Int32.toBitVec_xor, BitVec.msb_xor, show (4 : Int32).toBitVec.msb = false from by decide, Bool.xor_false, em x] at hx
    have h9 := decide_eq_decide.mp hx
    rw [i_le]
    have e0 : (0 : Int32).toInt = 0 := rfl
    omega
  have et : x.toInt.tdiv 4 = if 0 ≤ x.toInt then x.toInt / 4 else -((-x.toInt) / 4) := by
    by_cases h : 0 ≤ x.toInt
    · rw [if_pos h, Int.tdiv_eq_ediv_of_nonneg h]
    · rw [if_neg h]
      have := Int.neg_tdiv (-x.toInt) 4
      rw [Int.neg_neg] at this
      rw [this, Int.tdiv_eq_ediv_of_nonneg (by omega)]
  have eb : -2147483648 ≤ x.toInt.tdiv 4 ∧ x.toInt.tdiv 4 < 2147483648 := by
    rw [et]
    by_cases h : 0 ≤ x.toInt
    · rw [if_pos h]; omega
    · rw [if_neg h]; omega
  have ed : (x / 4).toInt = x.toInt.tdiv 4 := by
    rw [Int32.toInt_div, e4]
    generalize x.toInt.tdiv 4 = y at eb ⊢
    exact Jvm.Kit.bmod32 (by omega) (by omega)
  unfold fl4
  apply Int32.toInt_inj.mp
  rw [e1]
  by_cases h0 : 0 ≤ x.toInt
  · rw [if_pos (e2.mpr h0), ed, et, if_pos h0]
  · rw [if_neg (fun q => h0 (e2.mp q))]
    rw [if_neg h0] at et
    have em4 : (x / 4 * 4).toInt = x.toInt.tdiv 4 * 4 := by
      rw [Jvm.Kit.i32_mul (by rw [ed, e4]; omega) (by rw [ed, e4]; omega), ed, e4]
    by_cases h3 : x / 4 * 4 = x
    · rw [if_pos h3, ed]
      have := congrArg Int32.toInt h3
      rw [em4] at this
      omega
    · rw [if_neg h3, Jvm.Kit.i32_sub (by rw [ed, show (1 : Int32).toInt = 1 from rfl]; omega) (by rw [ed, show (1 : Int32).toInt = 1 from rfl]; omega), ed, show (1 : Int32).toInt = 1 from rfl]
      have h4 : ¬ x.toInt.tdiv 4 * 4 = x.toInt := by
        intro q
        exact h3 (Int32.toInt_inj.mp (em4.trans q))
      omega
theorem clampF_eq (x : Int32) : (if x ≤ 500 then (if x ≤ 0 then 0 else x) else 500) = clampF x := by
  apply Int32.toInt_inj.mp
  unfold clampF
  rw [mx2_int, mn2_int]
  have e0 : (0 : Int32).toInt = 0 := rfl
  have e5 : (500 : Int32).toInt = 500 := rfl
  by_cases h : x ≤ 500
  · rw [if_pos h]
    rw [i_le] at h
    by_cases h2 : x ≤ 0
    · rw [if_pos h2]; rw [i_le] at h2; omega
    · rw [if_neg h2]; rw [i_le] at h2; omega
  · rw [if_neg h]; rw [i_le] at h; omega
/-! the pictures -/
def PM (n : Nat) (v : m_V) (f : Nat → Int32) : Prop :=
  f 0 = v 4 ∧ f 1 = v 5 ∧ f 2 = v 6 ∧ f 3 = v 7 ∧ f 4 = nI n ∧ f 5 = v 0 ∧ f 6 = v 1 ∧ f 7 = v 2 ∧ f 8 = v 10 ∧ (v 10 = 6 → f 9 = v 11) ∧ f 10 = v 12 ∧ f 11 = v 15 ∧ f 4 - f 12 = v 13 ∧ f 14 - f 13 = v 14 ∧ f 15 = v 16 ∧ f 16 = v 17 ∧ f 17 = v 19 ∧ f 18 = v 18 ∧ f 19 = v 20 ∧ f 20 = v 21 ∧ f 21 = v 9
def PB (a : m_R) (f : Nat → Int32) : Prop := ∀ k, k < 4 → f (4 * k) = a 0 k ∧ f (4 * k + 1) = a 1 k ∧ f (4 * k + 2) = a 2 k ∧ f (4 * k + 3) = a 3 k
def PR (a : m_R) (f : Nat → Int32) : Prop := ∀ k, k < 6 → f (3 * k) = a 8 k ∧ f (3 * k + 1) = a 9 k ∧ f (3 * k + 2) = a 10 k
def PL (lb l u f g : Nat → Int32) : Prop := ∀ k, k < 8 → f (3 * k) = lb k ∧ f (3 * k + 2) = l k ∧ g k = u k
def PU (B : Nat) (u f : Nat → Int32) : Prop := B ≤ 8 → ∀ k, k < 8 → ∀ j, j < 8 → f (8 * k + j) = u (k * 20 + j)
def PA (B : Nat) (a : m_R) (fb fr fl fu fv : Nat → Int32) : Prop := PB a fb ∧ PR a fr ∧ PL (a 4) (a 6) (a 12) fl fu ∧ PU B (a 7) fv
/-- what a method of the law leaves: its answer, the class's world untouched, the law's rows a picture -/
def oW (v0 : m_V) (a0 : m_R) (x0 : Int64) (res : Option Value) (n B : Nat) (v : m_V) (a : m_R) : Option Value → m_H → Prop := fun o h =>
  o = res ∧ ∃ fm fb fr fl fu fv : Nat → Int32, h = hW v0 a0 x0 fm fb fr fl fu fv ∧ PM n v fm ∧ PA B a fb fr fl fu fv
theorem oW_len {v0 : m_V} {a0 : m_R} {x0 : Int64} {res : Option Value} {n B : Nat} {v : m_V} {a : m_R} (o : Option Value) (h : m_H) (q : oW v0 a0 x0 res n B v a o h) : h.length = 23 := by
  obtain ⟨-, fm, fb, fr, fl, fu, fv, rfl, -⟩ := q
  rfl
section
variable {n B : Nat} {v : m_V} {a : m_R} {f fm fb fr fl fu fv : Nat → Int32} {k r : Int32}
theorem pm0 (h : PM n v f) : f 0 = v 4 := h.1
theorem pm1 (h : PM n v f) : f 1 = v 5 := h.2.1
theorem pm2 (h : PM n v f) : f 2 = v 6 := h.2.2.1
theorem pm3 (h : PM n v f) : f 3 = v 7 := h.2.2.2.1
theorem pm4 (h : PM n v f) : f 4 = nI n := h.2.2.2.2.1
theorem pm5 (h : PM n v f) : f 5 = v 0 := h.2.2.2.2.2.1
theorem pm6 (h : PM n v f) : f 6 = v 1 := h.2.2.2.2.2.2.1
theorem pm7 (h : PM n v f) : f 7 = v 2 := h.2.2.2.2.2.2.2.1
theorem pm8 (h : PM n v f) : f 8 = v 10 := h.2.2.2.2.2.2.2.2.1
theorem pm9 (h : PM n v f) (q : v 10 = 6) : f 9 = v 11 := h.2.2.2.2.2.2.2.2.2.1 q
theorem pm10 (h : PM n v f) : f 10 = v 12 := h.2.2.2.2.2.2.2.2.2.2.1
theorem pm11 (h : PM n v f) : f 11 = v 15 := h.2.2.2.2.2.2.2.2.2.2.2.1
theorem pm12 (h : PM n v f) : f 4 - f 12 = v 13 := h.2.2.2.2.2.2.2.2.2.2.2.2.1
theorem pm13 (h : PM n v f) : f 14 - f 13 = v 14 := h.2.2.2.2.2.2.2.2.2.2.2.2.2.1
theorem pm15 (h : PM n v f) : f 15 = v 16 := h.2.2.2.2.2.2.2.2.2.2.2.2.2.2.1
theorem pm16 (h : PM n v f) : f 16 = v 17 := h.2.2.2.2.2.2.2.2.2.2.2.2.2.2.2.1
theorem pm17 (h : PM n v f) : f 17 = v 19 := h.2.2.2.2.2.2.2.2.2.2.2.2.2.2.2.2.1
theorem pm18 (h : PM n v f) : f 18 = v 18 := h.2.2.2.2.2.2.2.2.2.2.2.2.2.2.2.2.2.1
theorem pm19 (h : PM n v f) : f 19 = v 20 := h.2.2.2.2.2.2.2.2.2.2.2.2.2.2.2.2.2.2.1
theorem pm20 (h : PM n v f) : f 20 = v 21 := h.2.2.2.2.2.2.2.2.2.2.2.2.2.2.2.2.2.2.2.1
theorem pm21 (h : PM n v f) : f 21 = v 9 := h.2.2.2.2.2.2.2.2.2.2.2.2.2.2.2.2.2.2.2.2
/-! the little steps -/
def gTurn (f : Nat → Int32) (k : Int32) : Nat → Int32 := upd (upd f 8 k) 12 (f 4)
def gStop (f : Nat → Int32) (r : Int32) : Nat → Int32 := gTurn (upd (upd f 10 (f 8)) 9 r) 6
def gNext (f : Nat → Int32) (k : Int32) : Nat → Int32 := gTurn (upd (upd (upd (upd (upd (upd (upd (upd f 11 k) 14 0) 15 0) 16 0) 17 0) 18 0) 13 0) 9 0) 1
theorem PM_turn (hk : ¬ k = 6) (h : PM n v f) : PM n (sEnter v k) (gTurn f k) := by
  obtain ⟨p0, p1, p2, p3, p4, p5, p6, p7, p8, p9, p10, p11, p12, p13, p15, p16, p17, p18, p19, p20, p21⟩ := h
  exact ⟨p0, p1, p2, p3, p4, p5, p6, p7, rfl, fun q => absurd (show k = 6 from q) hk, p10, p11, Int32.sub_self (a := f 4), p13, p15, p16, p17, p18, p19, p20, p21⟩
theorem PM_stop (h : PM n v f) : PM n (sHalt v r) (gStop f r) := by
  obtain ⟨p0, p1, p2, p3, p4, p5, p6, p7, p8, p9, p10, p11, p12, p13, p15, p16, p17, p18, p19, p20, p21⟩ := h
  exact ⟨p0, p1, p2, p3, p4, p5, p6, p7, rfl, fun _ => rfl, p8, p11, Int32.sub_self (a := f 4), p13, p15, p16, p17, p18, p19, p20, p21⟩
theorem PM_next (h : PM n v f) : PM n (sBegin v k) (gNext f k) := by
  obtain ⟨p0, p1, p2, p3, p4, p5, p6, p7, p8, p9, p10, p11, p12, p13, p15, p16, p17, p18, p19, p20, p21⟩ := h
  exact ⟨p0, p1, p2, p3, p4, p5, p6, p7, rfl, fun q => absurd (show (1 : Int32) = 6 from q) (by decide), p10, rfl, Int32.sub_self (a := f 4), Int32.sub_self (a := 0), rfl, rfl, rfl, rfl, p19, p20, p21⟩
theorem PM_fin (h : PM n v f) : PM n (sEnter (upd v 21 (v 21 + 1)) 0) (gTurn (upd (upd f 20 (v 21 + 1)) 9 0) 0) := by
  obtain ⟨p0, p1, p2, p3, p4, p5, p6, p7, p8, p9, p10, p11, p12, p13, p15, p16, p17, p18, p19, p20, p21⟩ := h
  exact ⟨p0, p1, p2, p3, p4, p5, p6, p7, rfl, fun q => absurd (show (0 : Int32) = 6 from q) (by decide), p10, p11, Int32.sub_self (a := f 4), p13, p15, p16, p17, p18, p19, rfl, p21⟩
/-- a reading has come -/
theorem PM_take (h : PM n v f) : PM (n + 1) (sCount v r) (upd (upd (upd (upd (upd f 3 (v 6)) 2 (v 5)) 1 (v 4)) 0 r) 4 (nI (n + 1))) := by
  obtain ⟨p0, p1, p2, p3, p4, p5, p6, p7, p8, p9, p10, p11, p12, p13, p15, p16, p17, p18, p19, p20, p21⟩ := h
  refine ⟨rfl, rfl, rfl, rfl, rfl, p5, p6, p7, p8, p9, p10, p11, ?_, p13, p15, p16, p17, p18, p19, p20, p21⟩
  show nI (n + 1) - f 12 = v 13 + 1
  rw [← p12, p4, nI_succ]
  grind
theorem PM_zero (x : Int32) (h : PM n v f) : PM n (upd v 0 x) (upd f 5 x) := by
  obtain ⟨p0, p1, p2, p3, p4, p5, p6, p7, p8, p9, p10, p11, p12, p13, p15, p16, p17, p18, p19, p20, p21⟩ := h
  exact ⟨p0, p1, p2, p3, p4, rfl, p6, p7, p8, p9, p10, p11, p12, p13, p15, p16, p17, p18, p19, p20, p21⟩
theorem PM_same {x : Int32} (hx : x = v 0) (h : PM n v f) : PM n v (upd f 5 x) := by
  obtain ⟨p0, p1, p2, p3, p4, p5, p6, p7, p8, p9, p10, p11, p12, p13, p15, p16, p17, p18, p19, p20, p21⟩ := h
  exact ⟨p0, p1, p2, p3, p4, hx, p6, p7, p8, p9, p10, p11, p12, p13, p15, p16, p17, p18, p19, p20, p21⟩
theorem PM_tare {x : Int32} (h : PM n v f) : PM n (upd (upd v 1 x) 18 1) (upd (upd f 6 x) 18 1) := by
  obtain ⟨p0, p1, p2, p3, p4, p5, p6, p7, p8, p9, p10, p11, p12, p13, p15, p16, p17, p18, p19, p20, p21⟩ := h
  exact ⟨p0, p1, p2, p3, p4, p5, rfl, p7, p8, p9, p10, p11, p12, p13, p15, p16, p17, rfl, p19, p20, p21⟩
theorem PM_fresh {x : Int32} (h : PM n v f) : PM n (upd (upd v 17 x) 14 0) (upd (upd (upd f 14 (f 14 + 1)) 16 x) 13 (f 14 + 1)) := by
  obtain ⟨p0, p1, p2, p3, p4, p5, p6, p7, p8, p9, p10, p11, p12, p13, p15, p16, p17, p18, p19, p20, p21⟩ := h
  exact ⟨p0, p1, p2, p3, p4, p5, p6, p7, p8, p9, p10, p11, p12, Int32.sub_self (a := f 14 + 1), p15, rfl, p17, p18, p19, p20, p21⟩
theorem PM_stale (h : PM n v f) : PM n (upd v 14 (v 14 + 1)) (upd (upd (upd f 14 (f 14 + 1)) 16 (v 17)) 13 (f 13)) := by
  obtain ⟨p0, p1, p2, p3, p4, p5, p6, p7, p8, p9, p10, p11, p12, p13, p15, p16, p17, p18, p19, p20, p21⟩ := h
  refine ⟨p0, p1, p2, p3, p4, p5, p6, p7, p8, p9, p10, p11, p12, ?_, p15, rfl, p17, p18, p19, p20, p21⟩
  show f 14 + 1 - f 13 = v 14 + 1
  rw [← p13]
  grind
theorem PM_weighed (h : PM n v f) : PM n (upd v 19 1) (upd f 17 1) := by
  obtain ⟨p0, p1, p2, p3, p4, p5, p6, p7, p8, p9, p10, p11, p12, p13, p15, p16, p17, p18, p19, p20, p21⟩ := h
  exact ⟨p0, p1, p2, p3, p4, p5, p6, p7, p8, p9, p10, p11, p12, p13, p15, p16, rfl, p18, p19, p20, p21⟩
theorem PM_jog (h : PM n v f) : PM n (upd v 16 (v 16 + 1)) (upd f 15 (v 16 + 1)) := by
  obtain ⟨p0, p1, p2, p3, p4, p5, p6, p7, p8, p9, p10, p11, p12, p13, p15, p16, p17, p18, p19, p20, p21⟩ := h
  exact ⟨p0, p1, p2, p3, p4, p5, p6, p7, p8, p9, p10, p11, p12, p13, rfl, p16, p17, p18, p19, p20, p21⟩
theorem PM_goOn (h : PM n v f) : PM n (upd v 14 0) (upd (upd f 9 0) 13 (f 14)) ∨ v 10 = 6 := by
  by_cases q6 : v 10 = 6
  · exact Or.inr q6
  · obtain ⟨p0, p1, p2, p3, p4, p5, p6, p7, p8, p9, p10, p11, p12, p13, p15, p16, p17, p18, p19, p20, p21⟩ := h
    exact Or.inl ⟨p0, p1, p2, p3, p4, p5, p6, p7, p8, fun q => absurd q q6, p10, p11, p12, Int32.sub_self (a := f 14), p15, p16, p17, p18, p19, p20, p21⟩
theorem PM_resume (hk : ¬ k = 6) (h : PM n v f) : PM n (sEnter (upd v 14 0) k) (gTurn (upd (upd f 9 0) 13 (f 14)) k) := by
  obtain ⟨p0, p1, p2, p3, p4, p5, p6, p7, p8, p9, p10, p11, p12, p13, p15, p16, p17, p18, p19, p20, p21⟩ := h
  exact ⟨p0, p1, p2, p3, p4, p5, p6, p7, rfl, fun q => absurd (show k = 6 from q) hk, p10, p11, Int32.sub_self (a := f 4), Int32.sub_self (a := f 14), p15, p16, p17, p18, p19, p20, p21⟩
theorem PM_abort (h : PM n v f) : PM n (sEnter v 0) (gTurn (upd f 9 0) 0) := by
  obtain ⟨p0, p1, p2, p3, p4, p5, p6, p7, p8, p9, p10, p11, p12, p13, p15, p16, p17, p18, p19, p20, p21⟩ := h
  exact ⟨p0, p1, p2, p3, p4, p5, p6, p7, rfl, fun q => absurd (show (0 : Int32) = 6 from q) (by decide), p10, p11, Int32.sub_self (a := f 4), p13, p15, p16, p17, p18, p19, p20, p21⟩
theorem PM_band (x : Int32) (h : PM n v f) : PM n (upd v 2 x) (upd f 7 x) := by
  obtain ⟨p0, p1, p2, p3, p4, p5, p6, p7, p8, p9, p10, p11, p12, p13, p15, p16, p17, p18, p19, p20, p21⟩ := h
  exact ⟨p0, p1, p2, p3, p4, p5, p6, rfl, p8, p9, p10, p11, p12, p13, p15, p16, p17, p18, p19, p20, p21⟩
theorem PM_start (h : PM n v f) : PM n (upd v 20 (v 20 + 1)) (upd f 19 (v 20 + 1)) := by
  obtain ⟨p0, p1, p2, p3, p4, p5, p6, p7, p8, p9, p10, p11, p12, p13, p15, p16, p17, p18, p19, p20, p21⟩ := h
  exact ⟨p0, p1, p2, p3, p4, p5, p6, p7, p8, p9, p10, p11, p12, p13, p15, p16, p17, p18, rfl, p20, p21⟩
theorem PM_step (h : PM n v f) : PM n (upd v 9 (v 9 + 1)) (upd f 21 (v 9 + 1)) := by
  obtain ⟨p0, p1, p2, p3, p4, p5, p6, p7, p8, p9, p10, p11, p12, p13, p15, p16, p17, p18, p19, p20, p21⟩ := h
  exact ⟨p0, p1, p2, p3, p4, p5, p6, p7, p8, p9, p10, p11, p12, p13, p15, p16, p17, p18, p19, p20, rfl⟩
theorem PM_lot (h : PM n v f) : PM n (upd v 8 (v 8 + 1)) f := h
/-! the rows of bins, steps, lots -/
theorem upd_at {f : Nat → Int32} {k j : Nat} {x : Int32} : upd f k x j = if j = k then x else f j := rfl
theorem PB_margin {bn : Nat} {x : Int32} (hb : bn < 4) (h : PB a f) : PB (va_up a 0 (upd (a 0) bn x)) (upd f (4 * bn) x) := by
  intro k hk
  obtain ⟨h0, h1, h2, h3⟩ := h k hk
  refine ⟨?_, ?_, ?_, ?_⟩
  · show upd f (4 * bn) x (4 * k) = upd (a 0) bn x k
    by_cases q : k = bn
    · rw [q, upd_eq, upd_eq]
    · rw [upd_ne (by omega), upd_ne q]; exact h0
  · rw [upd_ne (by omega)]; exact h1
  · rw [upd_ne (by omega)]; exact h2
  · rw [upd_ne (by omega)]; exact h3
theorem PB_flight {bn : Nat} {x : Int32} (hb : bn < 4) (h : PB a f) : PB (va_up a 1 (upd (a 1) bn x)) (upd f (4 * bn + 1) x) := by
  intro k hk
  obtain ⟨h0, h1, h2, h3⟩ := h k hk
  refine ⟨?_, ?_, ?_, ?_⟩
  · rw [upd_ne (by omega)]; exact h0
  · show upd f (4 * bn + 1) x (4 * k + 1) = upd (a 1) bn x k
    by_cases q : k = bn
    · rw [q, upd_eq, upd_eq]
    · rw [upd_ne (by omega), upd_ne q]; exact h1
  · rw [upd_ne (by omega)]; exact h2
  · rw [upd_ne (by omega)]; exact h3
theorem PB_book {bn : Nat} {x y : Int32} (hb : bn < 4) (h : PB a f) : ∀ k, k < 4 → upd (upd f (4 * bn + 2) x) (4 * bn + 3) y (4 * k) = a 0 k ∧ upd (upd f (4 * bn + 2) x) (4 * bn + 3) y (4 * k + 1) = a 1 k ∧ upd (upd f (4 * bn + 2) x) (4 * bn + 3) y (4 * k + 2) = upd (a 2) bn x k ∧ upd (upd f (4 * bn + 2) x) (4 * bn + 3) y (4 * k + 3) = upd (a 3) bn y k := by
  intro k hk
  obtain ⟨h0, h1, h2, h3⟩ := h k hk
  refine ⟨?_, ?_, ?_, ?_⟩
  · rw [upd_ne (by omega), upd_ne (by omega)]; exact h0
  · rw [upd_ne (by omega), upd_ne (by omega)]; exact h1
  · rw [upd_ne (by omega)]
    by_cases q : k = bn
    · rw [q, upd_eq, upd_eq]
    · rw [upd_ne (by omega), upd_ne q]; exact h2
  · by_cases q : k = bn
    · rw [q, upd_eq, upd_eq]
    · rw [upd_ne (by omega), upd_ne (by omega), upd_ne q]; exact h3
theorem PR_app {S : Nat} {b g l9 : Int32} (hS : S < 6) (h8 : v 9 = nI S) (h : PR a f) : PR (sAppA b g l9 v a) (upd (upd (upd f (3 * S) b) (3 * S + 1) g) (3 * S + 2) l9) := by
  intro k hk
  obtain ⟨h0, h1, h2⟩ := h k hk
  have e : (v 9).toNatClampNeg = S := by rw [h8]; exact nI_clamp (by omega)
  refine ⟨?_, ?_, ?_⟩
  · show _ = upd (a 8) (v 9).toNatClampNeg b k
    rw [e, upd_ne (by omega), upd_ne (by omega)]
    by_cases q : k = S
    · rw [q, upd_eq, upd_eq]
    · rw [upd_ne (by omega), upd_ne q]; exact h0
  · show _ = upd (a 9) (v 9).toNatClampNeg g k
    rw [e, upd_ne (by omega)]
    by_cases q : k = S
    · rw [q, upd_eq, upd_eq]
    · rw [upd_ne (by omega), upd_ne (by omega), upd_ne q]; exact h1
  · show _ = upd (a 10) (v 9).toNatClampNeg l9 k
    rw [e]
    by_cases q : k = S
    · rw [q, upd_eq, upd_eq]
    · rw [upd_ne (by omega), upd_ne (by omega), upd_ne (by omega), upd_ne q]; exact h2
theorem PL_fill {L : Nat} {b am y : Int32} (hL : L < 8) (h8 : v 8 = nI L) (h : PL (a 4) (a 6) (a 12) fl fu) : PL (sFillA b am v a 4) (sFillA b am v a 6) (sFillA b am v a 12) (upd (upd (upd fl (3 * L) b) (3 * L + 1) y) (3 * L + 2) am) (upd fu L (-1)) := by
  intro k hk
  obtain ⟨h0, h1, h2⟩ := h k hk
  have e : (v 8).toNatClampNeg = L := by rw [h8]; exact nI_clamp (by omega)
  refine ⟨?_, ?_, ?_⟩
  · show _ = upd (a 4) (v 8).toNatClampNeg b k
    rw [e, upd_ne (by omega), upd_ne (by omega)]
    by_cases q : k = L
    · rw [q, upd_eq, upd_eq]
    · rw [upd_ne (by omega), upd_ne q]; exact h0
  · show _ = upd (a 6) (v 8).toNatClampNeg am k
    rw [e]
    by_cases q : k = L
    · rw [q, upd_eq, upd_eq]
    · rw [upd_ne (by omega), upd_ne (by omega), upd_ne (by omega), upd_ne q]; exact h1
  · show upd fu L (-1) k = upd (a 12) (v 8).toNatClampNeg (-1) k
    rw [e]
    by_cases q : k = L
    · rw [q, upd_eq, upd_eq]
    · rw [upd_ne q, upd_ne q]; exact h2
theorem PU_up {u f : Nat → Int32} (h : PU B u f) : PU (B + 1) u f := fun q => h (by omega)
end
end PC

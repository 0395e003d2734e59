section MY
/-! the four readings -/
def iR (n : Nat) (v : m_V) (f : Nat → Int32) : Prop := v 23 = nI n ∧ v 3 = nI (min n 4) ∧ f ((n + 3) % 4) = v 4 ∧ f ((n + 2) % 4) = v 5 ∧ f ((n + 1) % 4) = v 6 ∧ f (n % 4) = v 7
theorem mx2_int (x z : Int32) : (mx2 x z).toInt = max x.toInt z.toInt := by
  unfold mx2
  by_cases h : x < z
  · rw [if_pos h]; rw [i_lt] at h; omega
  · rw [if_neg h]; rw [i_lt] at h; omega
theorem mn2_int (x z : Int32) : (mn2 x z).toInt = min x.toInt z.toInt := by
  unfold mn2
  by_cases h : z < x
  · rw [if_pos h]; rw [i_lt] at h; omega
  · rw [if_neg h]; rw [i_lt] at h; omega
theorem msM_int (f : Nat → Int32) (n : Nat) : (msM f (n + 1)).toInt = max (msM f n).toInt (f (n + 1)).toInt := by
  show (if f (n + 1) ≤ msM f n then msM f n else f (n + 1)).toInt = _
  by_cases h : f (n + 1) ≤ msM f n
  · rw [if_pos h]; rw [i_le] at h; omega
  · rw [if_neg h]; rw [i_le] at h; omega
theorem lsM_int (f : Nat → Int32) (n : Nat) : (lsM f (n + 1)).toInt = min (lsM f n).toInt (f (n + 1)).toInt := by
  show (if lsM f n ≤ f (n + 1) then lsM f n else f (n + 1)).toInt = _
  by_cases h : lsM f n ≤ f (n + 1)
  · rw [if_pos h]; rw [i_le] at h; omega
  · rw [if_neg h]; rw [i_le] at h; omega
theorem ms3 (f : Nat → Int32) : (msM f 3).toInt = max (max (max (f 0).toInt (f 1).toInt) (f 2).toInt) (f 3).toInt := by
  have h2 := msM_int f 2
  have h1 := msM_int f 1
  have h0 := msM_int f 0
  have hz : msM f 0 = f 0 := rfl
  rw [hz] at h0
  rw [h0] at h1
  rw [h1] at h2
  exact h2
theorem ls3 (f : Nat → Int32) : (lsM f 3).toInt = min (min (min (f 0).toInt (f 1).toInt) (f 2).toInt) (f 3).toInt := by
  have h2 := lsM_int f 2
  have h1 := lsM_int f 1
  have h0 := lsM_int f 0
  have hz : lsM f 0 = f 0 := rfl
  rw [hz] at h0
  rw [h0] at h1
  rw [h1] at h2
  exact h2
theorem rS_of {n : Nat} {v : m_V} {a : m_R} (hn : n < 2 ^ 30) (h : iR n v (a 11)) : rS v a := by
  obtain ⟨h1, h2, q0, q1, q2, q3⟩ := h
  refine ⟨?_, ?_, ?_⟩
  · rw [h1, h2, show (4 : Int32) = nI 4 from rfl, nI_ltI (by omega) (by decide), nI_ltI (by omega) (by decide)]
    omega
  all_goals
    apply Int32.toInt_inj.mp
    simp only [ms3, ls3, mx2_int, mn2_int]
    have hm : n % 4 = 0 ∨ n % 4 = 1 ∨ n % 4 = 2 ∨ n % 4 = 3 := by omega
    rcases hm with hm | hm | hm | hm
    · rw [show (n + 3) % 4 = 3 by omega] at q0
      rw [show (n + 2) % 4 = 2 by omega] at q1
      rw [show (n + 1) % 4 = 1 by omega] at q2
      rw [show n % 4 = 0 by omega] at q3
      rw [q0, q1, q2, q3]
      omega
    · rw [show (n + 3) % 4 = 0 by omega] at q0
      rw [show (n + 2) % 4 = 3 by omega] at q1
      rw [show (n + 1) % 4 = 2 by omega] at q2
      rw [show n % 4 = 1 by omega] at q3
      rw [q0, q1, q2, q3]
      omega
    · rw [show (n + 3) % 4 = 1 by omega] at q0
      rw [show (n + 2) % 4 = 0 by omega] at q1
      rw [show (n + 1) % 4 = 3 by omega] at q2
      rw [show n % 4 = 2 by omega] at q3
      rw [q0, q1, q2, q3]
      omega
    · rw [show (n + 3) % 4 = 2 by omega] at q0
      rw [show (n + 2) % 4 = 1 by omega] at q1
      rw [show (n + 1) % 4 = 0 by omega] at q2
      rw [show n % 4 = 3 by omega] at q3
      rw [q0, q1, q2, q3]
      omega
theorem nI_mod4 {n : Nat} (hn : n < 2 ^ 30) : nI n - nI n / 4 * 4 = nI (n % 4) := by
  have e4 : (4 : Int32).toInt = 4 := rfl
  have e1 : (nI n).toInt = n := nI_toInt (by omega)
  have e2 : (nI n / 4).toInt = ((n / 4 : Nat) : Int) := by
    rw [Int32.toInt_div, e1, e4, Int.tdiv_eq_ediv_of_nonneg (by omega), Jvm.Kit.bmod32 (by omega) (by omega)]
    omega
  have e3 : (nI n / 4 * 4).toInt = ((n / 4 * 4 : Nat) : Int) := by
    rw [Jvm.Kit.i32_mul (by rw [e2, e4]; omega) (by rw [e2, e4]; omega), e2, e4]
    omega
  apply Int32.toInt_inj.mp
  rw [Jvm.Kit.i32_sub (by rw [e1, e3]; omega) (by rw [e1, e3]; omega), e1, e3, nI_toInt (by omega)]
  omega
theorem iR_take {n : Nat} {v : m_V} {a : m_R} (r : Int32) (hn : n < 2 ^ 30) (h : iR n v (a 11)) : iR (n + 1) (sTake v r) (sRing v a r 11) := by
  obtain ⟨h1, h2, q0, q1, q2, q3⟩ := h
  have ei : (v 23 - v 23 / 4 * 4).toNatClampNeg = n % 4 := by rw [h1, nI_mod4 hn]; exact nI_clamp (by omega)
  refine ⟨?_, ?_, ?_, ?_, ?_, ?_⟩
  · show v 23 + 1 = _
    rw [h1]; exact nI_1 n
  · show (if 4 ≤ v 3 then v 3 else v 3 + 1) = _
    rw [h2]
    by_cases hm : n < 4
    · rw [if_neg (by rw [show (4 : Int32) = nI 4 from rfl, nI_leI (by decide) (by omega)]; omega), nI_1, show min n 4 + 1 = min (n + 1) 4 by omega]
    · rw [if_pos (by rw [show (4 : Int32) = nI 4 from rfl, nI_leI (by decide) (by omega)]; omega), show min n 4 = min (n + 1) 4 by omega]
  · show (if (n + 1 + 3) % 4 = (v 23 - v 23 / 4 * 4).toNatClampNeg then r else a 11 ((n + 1 + 3) % 4)) = r
    rw [ei, if_pos (by omega)]
  · show (if (n + 1 + 2) % 4 = (v 23 - v 23 / 4 * 4).toNatClampNeg then r else a 11 ((n + 1 + 2) % 4)) = v 4
    rw [ei, if_neg (by omega), ← q0]; try rfl
  · show (if (n + 1 + 1) % 4 = (v 23 - v 23 / 4 * 4).toNatClampNeg then r else a 11 ((n + 1 + 1) % 4)) = v 5
    rw [ei, if_neg (by omega), ← q1]; try rfl
  · show (if (n + 1) % 4 = (v 23 - v 23 / 4 * 4).toNatClampNeg then r else a 11 ((n + 1) % 4)) = v 6
    rw [ei, if_neg (by omega), ← q2]; try rfl
theorem ring_in {n : Nat} {v : m_V} (hn : n < 2 ^ 30) (h : v 23 = nI n) : vp_in (v 23 - v 23 / 4 * 4) 4 := by
  rw [h, nI_mod4 hn]; exact vp_in_nI (by omega) (by omega)
/-! the ranges -/
def iN (v : m_V) (f : Nat → Int32) : Prop := (-1000 ≤ (v 4).toInt ∧ (v 4).toInt ≤ 100000) ∧ (-500 ≤ (v 0).toInt ∧ (v 0).toInt ≤ 500) ∧ (-200000 ≤ (v 1).toInt ∧ (v 1).toInt ≤ 200000) ∧ ∀ k, 0 ≤ (f k).toInt ∧ (f k).toInt ≤ 10000
theorem gross_int {v : m_V} {f : Nat → Int32} (h : iN v f) : (gross v).toInt = (v 4).toInt - (v 0).toInt := by
  obtain ⟨h1, h2, -, -⟩ := h
  unfold gross
  exact Jvm.Kit.i32_sub (by omega) (by omega)
theorem net_int {v : m_V} {f : Nat → Int32} (h : iN v f) : (net v).toInt = (v 4).toInt - (v 0).toInt - (v 1).toInt := by
  have hg := gross_int h
  obtain ⟨h1, h2, h3, -⟩ := h
  unfold net
  rw [Jvm.Kit.i32_sub (by rw [hg]; omega) (by rw [hg]; omega), hg]
theorem err_ge {v : m_V} {a : m_R} (h : iN v (a 9)) : -1000000000 ≤ (sErr v a).toInt := by
  have hn := net_int h
  obtain ⟨h1, h2, h3, h4⟩ := h
  have h5 := h4 (v 15).toNatClampNeg
  unfold sErr stgt
  rw [Jvm.Kit.i32_sub (by rw [hn]; omega) (by rw [hn]; omega), hn]
  omega
/-! the lots -/
/-- lot i of L, among B batches -/
def iU (l u f : Nat → Int32) (B i : Nat) : Prop := 0 ≤ (l i).toInt ∧ (∀ b, b < 20 → 0 ≤ (u (i * 20 + b)).toInt ∧ (u (i * 20 + b)).toInt + (l i).toInt ≤ 100000) ∧ (∀ b, B ≤ b → b < 20 → u (i * 20 + b) = 0) ∧
  ((f i = -1 ∧ ∀ b, b < B → ¬ 0 < u (i * 20 + b)) ∨ ∃ b, b < B ∧ f i = nI b ∧ 0 < u (i * 20 + b) ∧ ∀ b', b' < b → ¬ 0 < u (i * 20 + b'))
def iL (L B : Nat) (l u f : Nat → Int32) : Prop := (∀ i, i < L → iU l u f B i) ∧ ∀ i, L ≤ i → ∀ b, b < 20 → u (i * 20 + b) = 0
theorem plc_eq {i B : Nat} (hi : i < 30) (hB : B < 20) : plc i (nI B) = i * 20 + B := by
  unfold plc
  rw [plc_nI]; exact nI_clamp (by omega)
theorem upd_ne {f : Nat → Int32} {k j : Nat} {x : Int32} (h : ¬ j = k) : upd f k x j = f j := if_neg h
theorem upd_eq {f : Nat → Int32} {k : Nat} {x : Int32} : upd f k x k = x := if_pos rfl
theorem lot_step {bin : Int32} {lb : Nat → Int32} {i L B : Nat} {s : m_L} (hB : B < 20) (hi : i < 30) (hiL : i < L) (hr : 0 ≤ s.1.toInt) (h : iL L (B + 1) s.2.1 s.2.2.1 s.2.2.2) :
    0 ≤ (sLot1 bin (nI B) lb i s).1.toInt ∧ iL L (B + 1) (sLot1 bin (nI B) lb i s).2.1 (sLot1 bin (nI B) lb i s).2.2.1 (sLot1 bin (nI B) lb i s).2.2.2 := by
  unfold sLot1
  by_cases hb : ¬ lb i = bin
  · rw [if_pos hb]; exact ⟨hr, h⟩
  · rw [if_neg hb]
    obtain ⟨h1, h2⟩ := h
    obtain ⟨g1, g2, g3, g4⟩ := h1 i hiL
    generalize hp : mn2 s.1 (s.2.1 i) = pt
    have ep : pt.toInt = min s.1.toInt (s.2.1 i).toInt := by rw [← hp]; exact mn2_int _ _
    rw [plc_eq hi hB]
    have gB := g2 B hB
    have e1 : (s.1 - pt).toInt = s.1.toInt - pt.toInt := Jvm.Kit.i32_sub (by have := Int32.toInt_lt s.1; omega) (by have := Int32.toInt_lt s.1; omega)
    have e2 : (s.2.1 i + -pt).toInt = (s.2.1 i).toInt - pt.toInt := by
      rw [← i_subneg]
      exact Jvm.Kit.i32_sub (by omega) (by omega)
    have e3 : (s.2.2.1 (i * 20 + B) + pt).toInt = (s.2.2.1 (i * 20 + B)).toInt + pt.toInt := Jvm.Kit.i32_add (by omega) (by omega)
    refine ⟨by dsimp only; rw [e1]; omega, ?_, ?_⟩
    · intro j hj
      dsimp only
      by_cases hji : j = i
      · subst hji
        refine ⟨by rw [upd_eq, e2]; omega, ?_, ?_, ?_⟩
        · intro b hb20
          rw [upd_eq, e2]
          by_cases hbB : b = B
          · subst hbB; rw [upd_eq, e3]; omega
          · rw [upd_ne (by omega)]; have := g2 b hb20; omega
        · intro b hb1 hb2
          rw [upd_ne (by omega)]; exact g3 b hb1 hb2
        · rw [upd_eq]
          by_cases hpos : 0 < pt
          · have hpi : 0 < pt.toInt := by rw [i_lt] at hpos; exact hpos
            have hBpos : 0 < s.2.2.1 (j * 20 + B) + pt := by rw [i_lt, e3]; show (0 : Int) < _; omega
            rcases g4 with ⟨q1, q2⟩ | ⟨b0, q1, q2, q3, q4⟩
            · rw [if_pos ⟨hpos, q1⟩]
              refine Or.inr ⟨B, by omega, rfl, by rw [upd_eq]; exact hBpos, fun b' hb' => ?_⟩
              rw [upd_ne (by omega)]; exact q2 b' (by omega)
            · have hne : ¬ s.2.2.2 j = -1 := by
                rw [q2]; intro q
                have := congrArg Int32.toInt q
                rw [nI_toInt (by omega), show (-1 : Int32).toInt = -1 from rfl] at this
                omega
              rw [if_neg (fun q => hne q.2)]
              refine Or.inr ⟨b0, q1, q2, ?_, fun b' hb' => by rw [upd_ne (by omega)]; exact q4 b' hb'⟩
              by_cases hbB : b0 = B
              · subst hbB; rw [upd_eq]; exact hBpos
              · rw [upd_ne (by omega)]; exact q3
          · rw [if_neg (fun q => hpos q.1)]
            have hp0 : pt = 0 := by
              apply Int32.toInt_inj.mp
              rw [i_lt] at hpos
              have h0 : (0 : Int32).toInt = 0 := rfl
              omega
            have eu : ∀ b, upd s.2.2.1 (j * 20 + B) (s.2.2.1 (j * 20 + B) + pt) (j * 20 + b) = s.2.2.1 (j * 20 + b) := by
              intro b
              by_cases hbB : b = B
              · subst hbB; rw [upd_eq, hp0, Int32.add_zero]
              · exact upd_ne (by omega)
            rcases g4 with ⟨q1, q2⟩ | ⟨b0, q1, q2, q3, q4⟩
            · exact Or.inl ⟨q1, fun b hb => by rw [eu]; exact q2 b hb⟩
            · exact Or.inr ⟨b0, q1, q2, by rw [eu]; exact q3, fun b' hb' => by rw [eu]; exact q4 b' hb'⟩
      · obtain ⟨k1, k2, k3, k4⟩ := h1 j hj
        have eu : ∀ b, b < 20 → upd s.2.2.1 (i * 20 + B) (s.2.2.1 (i * 20 + B) + pt) (j * 20 + b) = s.2.2.1 (j * 20 + b) := fun b hb => upd_ne (by omega)
        refine ⟨by rw [upd_ne hji]; exact k1, fun b hb => by rw [eu b hb, upd_ne hji]; exact k2 b hb, fun b hb1 hb2 => by rw [eu b hb2]; exact k3 b hb1 hb2, ?_⟩
        rw [upd_ne hji]
        rcases k4 with ⟨q1, q2⟩ | ⟨b0, q1, q2, q3, q4⟩
        · exact Or.inl ⟨q1, fun b hb => by rw [eu b (by omega)]; exact q2 b hb⟩
        · exact Or.inr ⟨b0, q1, q2, by rw [eu b0 (by omega)]; exact q3, fun b' hb' => by rw [eu b' (by omega)]; exact q4 b' hb'⟩
    · intro j hj b hb20
      dsimp only
      rw [upd_ne (by omega)]; exact h2 j hj b hb20
theorem lots_steps {bin : Int32} {lb : Nat → Int32} {L B : Nat} {s : m_L} (hB : B < 20) (hL : L ≤ 30) (hr : 0 ≤ s.1.toInt) (h : iL L (B + 1) s.2.1 s.2.2.1 s.2.2.2) : ∀ i, i ≤ L →
    0 ≤ (sLots bin (nI B) lb i s).1.toInt ∧ iL L (B + 1) (sLots bin (nI B) lb i s).2.1 (sLots bin (nI B) lb i s).2.2.1 (sLots bin (nI B) lb i s).2.2.2 := by
  intro i
  induction i with
  | zero => intro _; exact ⟨hr, h⟩
  | succ i ih =>
    intro hi
    obtain ⟨h1, h2⟩ := ih (by omega)
    exact lot_step hB (by omega) (by omega) h1 h2
theorem iL_book {L B : Nat} {v : m_V} {a : m_R} (hB : B < 20) (hL : L ≤ 30) (h8 : v 8 = nI L) (h20 : v 20 = nI (B + 1)) (h : iL L (B + 1) (a 6) (a 7) (a 12)) : iL L (B + 1) (sBook v a 6) (sBook v a 7) (sBook v a 12) := by
  have hc : v 20 - 1 = nI B := by rw [h20]; exact nI_pred B
  have eL : (v 8).toNatClampNeg = L := by rw [h8]; exact nI_clamp (by omega)
  have hr : 0 ≤ (sAmt v).toInt := by have := amt_pos (net v); rw [i_le] at this; exact this
  have := (lots_steps (bin := sbin v a) (lb := a 4) (s := (sAmt v, a 6, a 7, a 12)) hB hL hr h L (Nat.le_refl L)).2
  show iL L (B + 1) (sTook (sbin v a) (sAmt v) (v 20 - 1) v a).2.1 (sTook (sbin v a) (sAmt v) (v 20 - 1) v a).2.2.1 (sTook (sbin v a) (sAmt v) (v 20 - 1) v a).2.2.2
  unfold sTook
  rw [hc, eL]
  exact this
theorem iL_start {L B : Nat} {l u f : Nat → Int32} (hB : B < 20) (h : iL L B l u f) : iL L (B + 1) l u f := by
  refine ⟨fun i hi => ?_, h.2⟩
  obtain ⟨k1, k2, k3, k4⟩ := h.1 i hi
  refine ⟨k1, k2, fun b hb1 hb2 => k3 b (by omega) hb2, ?_⟩
  rcases k4 with ⟨q1, q2⟩ | ⟨b0, q1, q2, q3, q4⟩
  · refine Or.inl ⟨q1, fun b hb => ?_⟩
    by_cases hbB : b = B
    · rw [hbB, k3 B (Nat.le_refl _) hB]; decide
    · exact q2 b (by omega)
  · exact Or.inr ⟨b0, by omega, q2, q3, q4⟩
theorem iL_fill {L B : Nat} {l u f : Nat → Int32} {am : Int32} (hB : B ≤ 20) (h1 : 0 ≤ am.toInt) (h2 : am.toInt ≤ 100000) (h : iL L B l u f) : iL (L + 1) B (upd l L am) u (upd f L (-1)) := by
  refine ⟨fun i hi => ?_, fun i hi => h.2 i (by omega)⟩
  by_cases hiL : i = L
  · subst hiL
    have hz := h.2 i (Nat.le_refl i)
    have e0 : (0 : Int32).toInt = 0 := rfl
    refine ⟨by rw [upd_eq]; exact h1, fun b hb => by rw [upd_eq, hz b hb, e0]; omega, fun b _ hb => hz b hb, Or.inl ⟨upd_eq, fun b hb => by rw [hz b (by omega)]; decide⟩⟩
  · obtain ⟨k1, k2, k3, k4⟩ := h.1 i (by omega)
    exact ⟨by rw [upd_ne hiL]; exact k1, fun b hb => by rw [upd_ne hiL]; exact k2 b hb, k3, by rw [upd_ne hiL]; exact k4⟩
end MY

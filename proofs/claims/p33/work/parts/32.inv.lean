section MY0
theorem i_subneg (x y : Int32) : x - y = x + -y := by grind
theorem i_p1 (x : Int32) : x + 1 - 1 = x := by grind
end MY0
section MY
/-! the four readings -/
def iR (n : Nat) (v : m_V) (f : Nat → Int32) : Prop := v 23 = nI n ∧ v 3 = nI (min n 4) ∧ f ((n + 3) % 4) = v 4 ∧ f ((n + 2) % 4) = v 5 ∧ f ((n + 1) % 4) = v 6 ∧ f (n % 4) = v 7
theorem mx2_int (x z : Int32) : (mx2 x z).toInt = max x.toInt z.toInt := by
  unfold mx2
  by_cases h : x < z
  · rw [if_pos h]; rw [i_lt] at h; omega
  · rw [if_neg h]; rw [i_lt] at h; omega
theorem mn2_int (x z : Int32) : (mn2 x z).toInt = min x.toInt z.toInt := by
  unfold mn2
  by_cases h : z < x
  · rw [if_pos h]; rw [i_lt] at h; omega
  · rw [if_neg h]; rw [i_lt] at h; omega
theorem amt_pos (n : Int32) : 0 ≤ mx2 0 n := by
  rw [i_le, mx2_int]
  have e0 : (0 : Int32).toInt = 0 := rfl
  omega
theorem nI_mod4 {n : Nat} (hn : n < 2 ^ 30) : nI n - nI n / 4 * 4 = nI (n % 4) := by
  have e4 : (4 : Int32).toInt = 4 := rfl
  have e1 : (nI n).toInt = n := nI_toInt (by omega)
  have e2 : (nI n / 4).toInt = ((n / 4 : Nat) : Int) := by
    rw [Int32.toInt_div, e1, e4, Int.tdiv_eq_ediv_of_nonneg (by omega), Jvm.Kit.bmod32 (by omega) (by omega)]
    omega
  have e3 : (nI n / 4 * 4).toInt = ((n / 4 * 4 : Nat) : Int) := by
    rw [Jvm.Kit.i32_mul (by rw [e2, e4]; omega) (by rw [e2, e4]; omega), e2, e4]
    omega
  apply Int32.toInt_inj.mp
  rw [Jvm.Kit.i32_sub (by rw [e1, e3]; omega) (by rw [e1, e3]; omega), e1, e3, nI_toInt (by omega)]
  omega
theorem iR_take {n : Nat} {v : m_V} {a : m_R} (r : Int32) (hn : n < 2 ^ 30) (h : iR n v (a 11)) : iR (n + 1) (sTake v r) (sRing v a r 11) := by
  obtain ⟨h1, h2, q0, q1, q2, q3⟩ := h
  have ei : (v 23 - v 23 / 4 * 4).toNatClampNeg = n % 4 := by rw [h1, nI_mod4 hn]; exact nI_clamp (by omega)
  refine ⟨?_, ?_, ?_, ?_, ?_, ?_⟩
  · show v 23 + 1 = _
    rw [h1]; exact nI_1 n
  · show (if 4 ≤ v 3 then v 3 else v 3 + 1) = _
    rw [h2]
    by_cases hm : n < 4
    · rw [if_neg (by rw [show (4 : Int32) = nI 4 from rfl, nI_leI (by decide) (by omega)]; omega), nI_1, show min n 4 + 1 = min (n + 1) 4 by omega]
    · rw [if_pos (by rw [show (4 : Int32) = nI 4 from rfl, nI_leI (by decide) (by omega)]; omega), show min n 4 = min (n + 1) 4 by omega]
  · show (if (n + 1 + 3) % 4 = (v 23 - v 23 / 4 * 4).toNatClampNeg then r else a 11 ((n + 1 + 3) % 4)) = r
    rw [ei, if_pos (by omega)]
  · show (if (n + 1 + 2) % 4 = (v 23 - v 23 / 4 * 4).toNatClampNeg then r else a 11 ((n + 1 + 2) % 4)) = v 4
    rw [ei, if_neg (by omega), ← q0]; try rfl
  · show (if (n + 1 + 1) % 4 = (v 23 - v 23 / 4 * 4).toNatClampNeg then r else a 11 ((n + 1 + 1) % 4)) = v 5
    rw [ei, if_neg (by omega), ← q1]; try rfl
  · show (if (n + 1) % 4 = (v 23 - v 23 / 4 * 4).toNatClampNeg then r else a 11 ((n + 1) % 4)) = v 6
    rw [ei, if_neg (by omega), ← q2]; try rfl
theorem ring_in {n : Nat} {v : m_V} (hn : n < 2 ^ 30) (h : v 23 = nI n) : vp_in (v 23 - v 23 / 4 * 4) 4 := by
  rw [h, nI_mod4 hn]; exact vp_in_nI (by omega) (by omega)
/-! the ranges -/
def iN (v : m_V) (f : Nat → Int32) : Prop := (-1000 ≤ (v 4).toInt ∧ (v 4).toInt ≤ 100000) ∧ (-500 ≤ (v 0).toInt ∧ (v 0).toInt ≤ 500) ∧ (-200000 ≤ (v 1).toInt ∧ (v 1).toInt ≤ 200000) ∧ ∀ k, 0 ≤ (f k).toInt ∧ (f k).toInt ≤ 10000
theorem gross_int {v : m_V} {f : Nat → Int32} (h : iN v f) : (gross v).toInt = (v 4).toInt - (v 0).toInt := by
  obtain ⟨h1, h2, -, -⟩ := h
  unfold gross
  exact Jvm.Kit.i32_sub (by omega) (by omega)
theorem net_int {v : m_V} {f : Nat → Int32} (h : iN v f) : (net v).toInt = (v 4).toInt - (v 0).toInt - (v 1).toInt := by
  have hg := gross_int h
  obtain ⟨h1, h2, h3, -⟩ := h
  unfold net
  rw [Jvm.Kit.i32_sub (by rw [hg]; omega) (by rw [hg]; omega), hg]
theorem err_ge {v : m_V} {a : m_R} (h : iN v (a 9)) : -1000000000 ≤ (sErr v a).toInt := by
  have hn := net_int h
  obtain ⟨h1, h2, h3, h4⟩ := h
  have h5 := h4 (v 15).toNatClampNeg
  unfold sErr stgt
  rw [Jvm.Kit.i32_sub (by rw [hn]; omega) (by rw [hn]; omega), hn]
  omega
/-! the lots -/
/-- lot i of L, among B batches -/
def iU (l u f : Nat → Int32) (B i : Nat) : Prop := 0 ≤ (l i).toInt ∧ (∀ b, b < 20 → 0 ≤ (u (i * 20 + b)).toInt ∧ (u (i * 20 + b)).toInt + (l i).toInt ≤ 100000) ∧ (∀ b, B ≤ b → b < 20 → u (i * 20 + b) = 0) ∧
  ((f i = -1 ∧ ∀ b, b < B → ¬ 0 < u (i * 20 + b)) ∨ ∃ b, b < B ∧ f i = nI b ∧ 0 < u (i * 20 + b) ∧ ∀ b', b' < b → ¬ 0 < u (i * 20 + b'))
def iL (L B : Nat) (l u f : Nat → Int32) : Prop := (∀ i, i < L → iU l u f B i) ∧ ∀ i, L ≤ i → ∀ b, b < 20 → u (i * 20 + b) = 0
theorem plc_eq {i B : Nat} (hi : i < 30) (hB : B < 20) : plc i (nI B) = i * 20 + B := by
  unfold plc
  rw [plc_nI]; exact nI_clamp (by omega)
theorem upd_ne {f : Nat → Int32} {k j : Nat} {x : Int32} (h : ¬ j = k) : upd f k x j = f j := if_neg h
theorem upd_eq {f : Nat → Int32} {k : Nat} {x : Int32} : upd f k x k = x := if_pos rfl
theorem lot_step {bin : Int32} {lb : Nat → Int32} {i L B : Nat} {s : m_L} (hB : B < 20) (hi : i < 30) (hiL : i < L) (hr : 0 ≤ s.1.toInt) (h : iL L (B + 1) s.2.1 s.2.2.1 s.2.2.2) :
    0 ≤ (sLot1 bin (nI B) lb i s).1.toInt ∧ iL L (B + 1) (sLot1 bin (nI B) lb i s).2.1 (sLot1 bin (nI B) lb i s).2.2.1 (sLot1 bin (nI B) lb i s).2.2.2 := by
  unfold sLot1
  by_cases hb : ¬ lb i = bin
  · rw [if_pos hb]; exact ⟨hr, h⟩
  · rw [if_neg hb]
    obtain ⟨h1, h2⟩ := h
    obtain ⟨g1, g2, g3, g4⟩ := h1 i hiL
    generalize hp : mn2 s.1 (s.2.1 i) = pt
    have ep : pt.toInt = min s.1.toInt (s.2.1 i).toInt := by rw [← hp]; exact mn2_int _ _
    rw [plc_eq hi hB]
    have gB := g2 B hB
    have e1 : (s.1 - pt).toInt = s.1.toInt - pt.toInt := Jvm.Kit.i32_sub (by have := Int32.toInt_lt s.1; omega) (by have := Int32.toInt_lt s.1; omega)
    have e2 : (s.2.1 i + -pt).toInt = (s.2.1 i).toInt - pt.toInt := by
      rw [← i_subneg]
      exact Jvm.Kit.i32_sub (by omega) (by omega)
    have e3 : (s.2.2.1 (i * 20 + B) + pt).toInt = (s.2.2.1 (i * 20 + B)).toInt + pt.toInt := Jvm.Kit.i32_add (by omega) (by omega)
    refine ⟨by dsimp only; rw [e1]; omega, ?_, ?_⟩
    · intro j hj
      dsimp only
      by_cases hji : j = i
      · subst hji
        refine ⟨by rw [upd_eq, e2]; omega, ?_, ?_, ?_⟩
        · intro b hb20
          rw [upd_eq, e2]
          by_cases hbB : b = B
          · subst hbB; rw [upd_eq, e3]; omega
          · rw [upd_ne (by omega)]; have := g2 b hb20; omega
        · intro b hb1 hb2
          rw [upd_ne (by omega)]; exact g3 b hb1 hb2
        · rw [upd_eq]
          by_cases hpos : 0 < pt
          · have hpi : 0 < pt.toInt := by rw [i_lt] at hpos; exact hpos
            have hBpos : 0 < s.2.2.1 (j * 20 + B) + pt := by rw [i_lt, e3]; show (0 : Int) < _; omega
            rcases g4 with ⟨q1, q2⟩ | ⟨b0, q1, q2, q3, q4⟩
            · rw [if_pos ⟨hpos, q1⟩]
              refine Or.inr ⟨B, by omega, rfl, by rw [upd_eq]; exact hBpos, fun b' hb' => ?_⟩
              rw [upd_ne (by omega)]; exact q2 b' (by omega)
            · have hne : ¬ s.2.2.2 j = -1 := by
                rw [q2]; intro q
                have := congrArg Int32.toInt q
                rw [nI_toInt (by omega), show (-1 : Int32).toInt = -1 from rfl] at this
                omega
              rw [if_neg (fun q => hne q.2)]
              refine Or.inr ⟨b0, q1, q2, ?_, fun b' hb' => by rw [upd_ne (by omega)]; exact q4 b' hb'⟩
              by_cases hbB : b0 = B
              · subst hbB; rw [upd_eq]; exact hBpos
              · rw [upd_ne (by omega)]; exact q3
          · rw [if_neg (fun q => hpos q.1)]
            have hp0 : pt = 0 := by
              apply Int32.toInt_inj.mp
              rw [i_lt] at hpos
              have h0 : (0 : Int32).toInt = 0 := rfl
              omega
            have eu : ∀ b, upd s.2.2.1 (j * 20 + B) (s.2.2.1 (j * 20 + B) + pt) (j * 20 + b) = s.2.2.1 (j * 20 + b) := by
              intro b
              by_cases hbB : b = B
              · subst hbB; rw [upd_eq, hp0, Int32.add_zero]
              · exact upd_ne (by omega)
            rcases g4 with ⟨q1, q2⟩ | ⟨b0, q1, q2, q3, q4⟩
            · exact Or.inl ⟨q1, fun b hb => by rw [eu]; exact q2 b hb⟩
            · exact Or.inr ⟨b0, q1, q2, by rw [eu]; exact q3, fun b' hb' => by rw [eu]; exact q4 b' hb'⟩
      · obtain ⟨k1, k2, k3, k4⟩ := h1 j hj
        have eu : ∀ b, b < 20 → upd s.2.2.1 (i * 20 + B) (s.2.2.1 (i * 20 + B) + pt) (j * 20 + b) = s.2.2.1 (j * 20 + b) := fun b hb => upd_ne (by omega)
        refine ⟨by rw [upd_ne hji]; exact k1, fun b hb => by rw [eu b hb, upd_ne hji]; exact k2 b hb, fun b hb1 hb2 => by rw [eu b hb2]; exact k3 b hb1 hb2, ?_⟩
        rw [upd_ne hji]
        rcases k4 with ⟨q1, q2⟩ | ⟨b0, q1, q2, q3, q4⟩
        · exact Or.inl ⟨q1, fun b hb => by rw [eu b (by omega)]; exact q2 b hb⟩
        · exact Or.inr ⟨b0, q1, q2, by rw [eu b0 (by omega)]; exact q3, fun b' hb' => by rw [eu b' (by omega)]; exact q4 b' hb'⟩
    · intro j hj b hb20
      dsimp only
      rw [upd_ne (by omega)]; exact h2 j hj b hb20
theorem lots_steps {bin : Int32} {lb : Nat → Int32} {L B : Nat} {s : m_L} (hB : B < 20) (hL : L ≤ 30) (hr : 0 ≤ s.1.toInt) (h : iL L (B + 1) s.2.1 s.2.2.1 s.2.2.2) : ∀ i, i ≤ L →
    0 ≤ (sLots bin (nI B) lb i s).1.toInt ∧ iL L (B + 1) (sLots bin (nI B) lb i s).2.1 (sLots bin (nI B) lb i s).2.2.1 (sLots bin (nI B) lb i s).2.2.2 := by
  intro i
  induction i with
  | zero => intro _; exact ⟨hr, h⟩
  | succ i ih =>
    intro hi
    obtain ⟨h1, h2⟩ := ih (by omega)
    exact lot_step hB (by omega) (by omega) h1 h2
theorem iL_book {L B : Nat} {v : m_V} {a : m_R} (hB : B < 20) (hL : L ≤ 30) (h8 : v 8 = nI L) (h20 : v 20 = nI (B + 1)) (h : iL L (B + 1) (a 6) (a 7) (a 12)) : iL L (B + 1) (sBook v a 6) (sBook v a 7) (sBook v a 12) := by
  have hc : v 20 - 1 = nI B := by rw [h20]; exact nI_pred B
  have eL : (v 8).toNatClampNeg = L := by rw [h8]; exact nI_clamp (by omega)
  have hr : 0 ≤ (sAmt v).toInt := by have := amt_pos (net v); rw [i_le] at this; exact this
  have := (lots_steps (bin := sbin v a) (lb := a 4) (s := (sAmt v, a 6, a 7, a 12)) hB hL hr h L (Nat.le_refl L)).2
  show iL L (B + 1) (sTook (sbin v a) (sAmt v) (v 20 - 1) v a).2.1 (sTook (sbin v a) (sAmt v) (v 20 - 1) v a).2.2.1 (sTook (sbin v a) (sAmt v) (v 20 - 1) v a).2.2.2
  unfold sTook
  rw [hc, eL]
  exact this
theorem iL_start {L B : Nat} {l u f : Nat → Int32} (hB : B < 20) (h : iL L B l u f) : iL L (B + 1) l u f := by
  refine ⟨fun i hi => ?_, h.2⟩
  obtain ⟨k1, k2, k3, k4⟩ := h.1 i hi
  refine ⟨k1, k2, fun b hb1 hb2 => k3 b (by omega) hb2, ?_⟩
  rcases k4 with ⟨q1, q2⟩ | ⟨b0, q1, q2, q3, q4⟩
  · refine Or.inl ⟨q1, fun b hb => ?_⟩
    by_cases hbB : b = B
    · rw [hbB, k3 B (Nat.le_refl _) hB]; decide
    · exact q2 b (by omega)
  · exact Or.inr ⟨b0, by omega, q2, q3, q4⟩
theorem iL_fill {L B : Nat} {l u f : Nat → Int32} {am : Int32} (hB : B ≤ 20) (h1 : 0 ≤ am.toInt) (h2 : am.toInt ≤ 100000) (h : iL L B l u f) : iL (L + 1) B (upd l L am) u (upd f L (-1)) := by
  refine ⟨fun i hi => ?_, fun i hi => h.2 i (by omega)⟩
  by_cases hiL : i = L
  · subst hiL
    have hz := h.2 i (Nat.le_refl i)
    have e0 : (0 : Int32).toInt = 0 := rfl
    refine ⟨by rw [upd_eq]; exact h1, fun b hb => by rw [upd_eq, hz b hb, e0]; omega, fun b _ hb => hz b hb, Or.inl ⟨upd_eq, fun b hb => by rw [hz b (by omega)]; decide⟩⟩
  · obtain ⟨k1, k2, k3, k4⟩ := h.1 i (by omega)
    exact ⟨by rw [upd_ne hiL]; exact k1, fun b hb => by rw [upd_ne hiL]; exact k2 b hb, k3, by rw [upd_ne hiL]; exact k4⟩
end MY

section MY2
def st5 (k : Int32) : Prop := k = 1 ∨ k = 2 ∨ k = 3 ∨ k = 4 ∨ k = 5
def st7 (k : Int32) : Prop := k = 0 ∨ k = 1 ∨ k = 2 ∨ k = 3 ∨ k = 4 ∨ k = 5 ∨ k = 6
theorem st5_7 {k : Int32} (h : st5 k) : st7 k := by
  rcases h with h | h | h | h | h
  · exact Or.inr (Or.inl h)
  · exact Or.inr (Or.inr (Or.inl h))
  · exact Or.inr (Or.inr (Or.inr (Or.inl h)))
  · exact Or.inr (Or.inr (Or.inr (Or.inr (Or.inl h))))
  · exact Or.inr (Or.inr (Or.inr (Or.inr (Or.inr (Or.inl h)))))
theorem st5_n0 {k : Int32} (h : st5 k) : ¬ k = 0 := by rcases h with h | h | h | h | h <;> rw [h] <;> decide
theorem st5_n6 {k : Int32} (h : st5 k) : ¬ k = 6 := by rcases h with h | h | h | h | h <;> rw [h] <;> decide
def iA (B : Nat) (v : m_V) : Prop := vp_in (v 15) 6 ∧ (∃ S, S ≤ 6 ∧ v 9 = nI S) ∧ (¬ v 10 = 0 → 1 ≤ B) ∧ st7 (v 10) ∧ (v 10 = 6 → st5 (v 12)) ∧ (¬ v 10 = 6 → v 11 = 0)
def iT (v : m_V) : Prop := (v 10 = 4 → v 22 = v 13) ∧ (v 10 = 5 → v 22 = v 13 ∧ (v 13 = 0 ∨ v 13 = 1))
def iB (L B : Nat) (v : m_V) (a : m_R) : Prop := L ≤ 30 ∧ B ≤ 20 ∧ v 8 = nI L ∧ v 20 = nI B ∧ iL L B (a 6) (a 7) (a 12) ∧ ∀ k, vp_in (a 8 k) 4
def Inv0 (n L B : Nat) (v : m_V) (a : m_R) : Prop := iA B v ∧ iR n v (a 11) ∧ iN v (a 9) ∧ iB L B v a
def Inv (n L B : Nat) (v : m_V) (a : m_R) : Prop := Inv0 n L B v a ∧ iT v
section
variable {n L B : Nat} {v : m_V} {a : m_R}
theorem iT_not {v : m_V} (h4 : ¬ v 10 = 4) (h5 : ¬ v 10 = 5) : iT v := ⟨fun q => absurd q h4, fun q => absurd q h5⟩
theorem inv_enter {k : Int32} (hk : k = 0 ∨ (st5 k ∧ 1 ≤ B)) (h : Inv0 n L B v a) : Inv n L B (sEnter v k) a := by
  obtain ⟨⟨h1, h2, h3, h4, h5, h6⟩, hR, hN, hB⟩ := h
  refine ⟨⟨⟨h1, h2, fun q => ?_, ?_, fun q => ?_, fun _ => rfl⟩, hR, hN, hB⟩, fun _ => rfl, fun _ => ⟨rfl, Or.inl rfl⟩⟩
  · rcases hk with hk | hk
    · exact absurd hk q
    · exact hk.2
  · rcases hk with hk | hk
    · exact Or.inl hk
    · exact st5_7 hk.1
  · rcases hk with hk | hk
    · have q9 : k = 6 := q
      rw [hk] at q9
      exact absurd q9 (by decide)
    · exact absurd q (st5_n6 hk.1)
theorem inv_halt {r : Int32} (hs : st5 (v 10)) (h : Inv0 n L B v a) : Inv n L B (sHalt v r) a := by
  obtain ⟨⟨h1, h2, h3, h4, h5, h6⟩, hR, hN, hB⟩ := h
  exact ⟨⟨⟨h1, h2, fun _ => h3 (st5_n0 hs), Or.inr (Or.inr (Or.inr (Or.inr (Or.inr (Or.inr rfl))))), fun _ => hs, fun q => absurd rfl q⟩, hR, hN, hB⟩, iT_not (show ¬ (6 : Int32) = 4 by decide) (show ¬ (6 : Int32) = 5 by decide)⟩
theorem inv_begin {k : Int32} (hk : vp_in k 6) (hB1 : 1 ≤ B) (h : Inv0 n L B v a) : Inv n L B (sBegin v k) a := by
  obtain ⟨⟨h1, h2, h3, h4, h5, h6⟩, hR, hN, hB⟩ := h
  exact inv_enter (Or.inr ⟨Or.inl rfl, hB1⟩) ⟨⟨hk, h2, h3, h4, h5, h6⟩, hR, hN, hB⟩
theorem inv_book (hB1 : 1 ≤ B) (h : Inv0 n L B v a) : Inv0 n L B v (sBook v a) := by
  obtain ⟨hA, hR, hN, k1, k2, k3, k4, k5, k6⟩ := h
  obtain ⟨B', rfl⟩ : ∃ B', B = B' + 1 := ⟨B - 1, by omega⟩
  exact ⟨hA, hR, hN, k1, k2, k3, k4, iL_book (by omega) k1 k3 k4 k5, k6⟩
theorem step_in {x y : Int32} {S : Nat} (hS : S ≤ 6) (hx : vp_in x 6) (hy : y = nI S) (h : ¬ y ≤ x + 1) : vp_in (x + 1) 6 := by
  rw [vi_iff (by decide)] at hx
  obtain ⟨h1, h2⟩ := hx
  have e1 : (1 : Int32).toInt = 1 := rfl
  have e0 : (0 : Int32).toInt = 0 := rfl
  have e6 : (Int32.ofNat 6).toInt = 6 := rfl
  rw [i_lt] at h1
  rw [i_le] at h2
  have ex : (x + 1).toInt = x.toInt + 1 := by rw [Jvm.Kit.i32_add (by omega) (by omega), e1]
  rw [vi_iff (by decide)]
  rw [i_le, hy, nI_toInt (by omega), ex] at h
  refine ⟨?_, ?_⟩
  · rw [i_lt, ex]; omega
  · rw [i_le, ex]; omega
theorem inv_finish (hB1 : 1 ≤ B) (h : Inv0 n L B v a) : Inv n L B (sFinish v) a := by
  unfold sFinish
  obtain ⟨S, hS, h9⟩ := h.1.2.1
  by_cases hc : v 9 ≤ v 15 + 1
  · rw [if_pos hc]
    exact inv_enter (v := upd v 21 (v 21 + 1)) (Or.inl rfl) h
  · rw [if_neg hc]
    exact inv_begin (step_in hS h.1.1 h9 hc) hB1 h
theorem inv_learn {b e : Int32} (h : Inv0 n L B v a) : Inv0 n L B v (sLearn a b e) := h
theorem inv_weigh (hs : v 10 = 4) (h : Inv0 n L B v a) : Inv n L B (sWeighV v a) (sWeighA v a) := by
  have hB1 : 1 ≤ B := h.1.2.2.1 (by rw [hs]; decide)
  have h1 : Inv0 n L B (sW1 v) (sW2 v a) ∧ (sW1 v) 10 = 4 := by
    unfold sW1 sW2
    by_cases hw : ¬ v 19 = 0
    · rw [if_pos hw, if_pos hw]; exact ⟨h, hs⟩
    · rw [if_neg hw, if_neg hw]; exact ⟨h, hs⟩
  obtain ⟨h1, hs1⟩ := h1
  have s5 : st5 ((sW1 v) 10) := by rw [hs1]; exact Or.inr (Or.inr (Or.inr (Or.inl rfl)))
  unfold sWeighV sWeighA
  by_cases c1 : -(stol v a) ≤ sErr v a
  · rw [if_pos c1, if_pos c1]
    by_cases c2 : sErr v a ≤ stol v a
    · rw [if_pos c2, if_pos c2]; exact inv_finish hB1 (inv_book hB1 h1)
    · rw [if_neg c2, if_neg c2]; exact inv_halt s5 h1
  · rw [if_neg c1, if_neg c1]
    unfold sJog
    by_cases c3 : 5 ≤ sW1 v 16
    · rw [if_pos c3]; exact inv_halt s5 h1
    · rw [if_neg c3]; exact inv_enter (v := upd (sW1 v) 16 (sW1 v 16 + 1)) (Or.inr ⟨Or.inr (Or.inr (Or.inr (Or.inr rfl))), hB1⟩) h1
theorem inv_track (h : Inv0 n L B v a) : Inv0 n L B (sTrack v) a ∧ (sTrack v) 10 = v 10 ∧ (sTrack v) 13 = v 13 ∧ (sTrack v) 22 = v 22 := by
  unfold sTrack
  by_cases c1 : gross v = 0
  · rw [if_pos c1]; exact ⟨h, rfl, rfl, rfl⟩
  · rw [if_neg c1]
    by_cases c2 : bi (-10 ≤ gross v ∧ gross v ≤ 10) = 0
    · rw [if_pos c2]; exact ⟨h, rfl, rfl, rfl⟩
    · rw [if_neg c2]
      by_cases c3 : ¬ bi (calm v) = 0
      · rw [if_pos c3]
        by_cases c4 : bi (-500 ≤ sMoved v ∧ sMoved v ≤ 500) = 0
        · rw [if_pos c4]; exact ⟨h, rfl, rfl, rfl⟩
        · rw [if_neg c4]
          rw [bi_0] at c4
          obtain ⟨m1, m2⟩ := Classical.not_not.mp c4
          rw [i_le] at m1 m2
          obtain ⟨hA, hR, ⟨n1, n2, n3, n4⟩, hB⟩ := h
          exact ⟨⟨hA, hR, ⟨n1, ⟨m1, m2⟩, n3, n4⟩, hB⟩, rfl, rfl, rfl⟩
      · rw [if_neg c3]; exact ⟨h, rfl, rfl, rfl⟩
theorem inv_tare (hs : v 10 = 1) (h : Inv0 n L B v a) : Inv n L B (sTare v a) a := by
  have hB1 : 1 ≤ B := h.1.2.2.1 (by rw [hs]; decide)
  unfold sTare
  by_cases c1 : bi (calm v) = 0
  · rw [if_pos c1]; exact ⟨h, iT_not (by rw [hs]; decide) (by rw [hs]; decide)⟩
  · rw [if_neg c1]
    have hg := gross_int h.2.2.1
    obtain ⟨hA, hR, ⟨n1, n2, n3, n4⟩, hB⟩ := h
    have h9 : Inv0 n L B (upd (upd v 1 (gross v)) 18 1) a := ⟨hA, hR, ⟨n1, n2, ⟨by show _ ≤ (gross v).toInt; omega, by show (gross v).toInt ≤ _; omega⟩, n4⟩, hB⟩
    by_cases c2 : stgt v a ≤ a 0 (sbin v a).toNatClampNeg
    · rw [if_pos c2]; exact inv_enter (Or.inr ⟨Or.inr (Or.inr (Or.inl rfl)), hB1⟩) h9
    · rw [if_neg c2]; exact inv_enter (Or.inr ⟨Or.inr (Or.inl rfl), hB1⟩) h9
theorem inv_feed (hs : v 10 = 2 ∨ v 10 = 3) (h : Inv0 n L B v a) : Inv n L B (sFeed v a) a := by
  have hB1 : 1 ≤ B := h.1.2.2.1 (by rcases hs with hs | hs <;> rw [hs] <;> decide)
  have h1 : Inv0 n L B (sIdle v) a ∧ (sIdle v) 10 = v 10 := by
    unfold sIdle
    by_cases c : net v ≤ v 17
    · rw [if_pos c]; exact ⟨h, rfl⟩
    · rw [if_neg c]; exact ⟨h, rfl⟩
  obtain ⟨h1, hs1⟩ := h1
  unfold sFeed
  by_cases c1 : net v < stgt v a - sAhead v a
  · rw [if_pos c1]
    by_cases c2 : (sIdle v) 14 < 20
    · rw [if_pos c2]
      exact ⟨h1, iT_not (by rw [hs1]; rcases hs with hs | hs <;> rw [hs] <;> decide) (by rw [hs1]; rcases hs with hs | hs <;> rw [hs] <;> decide)⟩
    · rw [if_neg c2]
      exact inv_halt (by rw [hs1]; rcases hs with hs | hs
                         · exact Or.inr (Or.inl hs)
                         · exact Or.inr (Or.inr (Or.inl hs))) h1
  · rw [if_neg c1]
    by_cases c3 : ¬ v 10 = 2
    · rw [if_pos c3]; exact inv_enter (Or.inr ⟨Or.inr (Or.inr (Or.inr (Or.inl rfl))), hB1⟩) h1
    · rw [if_neg c3]; exact inv_enter (Or.inr ⟨Or.inr (Or.inr (Or.inl rfl)), hB1⟩) h1
theorem inv_bring {r : Int32} (hn : n < 2 ^ 30) (hr : -1000 ≤ r ∧ r ≤ 100000) (h : Inv n L B v a) : Inv (n + 1) L B (sBringV v a r) (sBringA v a r) := by
  obtain ⟨⟨hA, hR, ⟨n1, n2, n3, n4⟩, hB⟩, hT⟩ := h
  have hR' : iR (n + 1) (sCount v r) (sRing v a r 11) := iR_take r hn hR
  have r1 : (-1000 : Int) ≤ r.toInt := by have := hr.1; rw [i_le] at this; exact this
  have r2 : r.toInt ≤ 100000 := by have := hr.2; rw [i_le] at this; exact this
  have h0 : Inv0 (n + 1) L B (sCount v r) (sRing v a r) := ⟨hA, hR', ⟨⟨r1, r2⟩, n2, n3, n4⟩, hB⟩
  have e10 : sCount v r 10 = v 10 := rfl
  unfold sBringV sBringA sGoV sGoA
  rw [e10]
  rcases hA.2.2.2.1 with hs | hs | hs | hs | hs | hs | hs
  · rw [if_pos hs, if_neg (show ¬ v 10 = 4 by rw [hs]; decide)]
    obtain ⟨k1, k2, -, -⟩ := inv_track h0
    exact ⟨k1, iT_not (by rw [k2, e10, hs]; decide) (by rw [k2, e10, hs]; decide)⟩
  · rw [if_neg (show ¬ v 10 = 0 by rw [hs]; decide), if_pos hs, if_neg (show ¬ v 10 = 4 by rw [hs]; decide)]
    exact inv_tare hs h0
  · rw [if_neg (show ¬ v 10 = 0 by rw [hs]; decide), if_neg (show ¬ v 10 = 1 by rw [hs]; decide), if_pos (Or.inl hs), if_neg (show ¬ v 10 = 4 by rw [hs]; decide)]
    exact inv_feed (Or.inl hs) h0
  · rw [if_neg (show ¬ v 10 = 0 by rw [hs]; decide), if_neg (show ¬ v 10 = 1 by rw [hs]; decide), if_pos (Or.inr hs), if_neg (show ¬ v 10 = 4 by rw [hs]; decide)]
    exact inv_feed (Or.inr hs) h0
  · rw [if_neg (show ¬ v 10 = 0 by rw [hs]; decide), if_neg (show ¬ v 10 = 1 by rw [hs]; decide), if_neg (show ¬ (v 10 = 2 ∨ v 10 = 3) by rw [hs]; decide), if_pos hs, if_pos hs]
    have e22 : sCount v r 22 = sCount v r 13 := by
      show (if v 10 = 0 ∨ v 10 = 6 then v 22 else v 22 + 1) = v 13 + 1
      rw [if_neg (by rw [hs]; decide), hT.1 hs]
    have hT' : iT (sCount v r) := ⟨fun _ => e22, fun q => absurd (show v 10 = 5 from q) (by rw [hs]; decide)⟩
    by_cases c1 : sCount v r 13 < 4
    · rw [if_pos c1, if_pos c1]; exact ⟨h0, hT'⟩
    · rw [if_neg c1, if_neg c1]
      by_cases c2 : bi (calm (sCount v r)) = 0
      · rw [if_pos c2, if_pos c2]; exact ⟨h0, hT'⟩
      · rw [if_neg c2, if_neg c2]; exact inv_weigh hs h0
  · rw [if_neg (show ¬ v 10 = 0 by rw [hs]; decide), if_neg (show ¬ v 10 = 1 by rw [hs]; decide), if_neg (show ¬ (v 10 = 2 ∨ v 10 = 3) by rw [hs]; decide), if_neg (show ¬ v 10 = 4 by rw [hs]; decide), if_pos hs, if_neg (show ¬ v 10 = 4 by rw [hs]; decide)]
    obtain ⟨t1, t2⟩ := hT.2 hs
    by_cases c1 : sCount v r 13 < 2
    · rw [if_pos c1]
      have e22 : sCount v r 22 = sCount v r 13 := by
        show (if v 10 = 0 ∨ v 10 = 6 then v 22 else v 22 + 1) = v 13 + 1
        rw [if_neg (by rw [hs]; decide), t1]
      refine ⟨h0, fun q => absurd (show v 10 = 4 from q) (by rw [hs]; decide), fun _ => ⟨e22, Or.inr ?_⟩⟩
      rcases t2 with t2 | t2
      · show v 13 + 1 = 1; rw [t2]; rfl
      · exact absurd (show v 13 + 1 < 2 from c1) (by rw [t2]; decide)
    · rw [if_neg c1]
      exact inv_enter (Or.inr ⟨Or.inr (Or.inr (Or.inr (Or.inl rfl))), hA.2.2.1 (by rw [hs]; decide)⟩) h0
  · rw [if_neg (show ¬ v 10 = 0 by rw [hs]; decide), if_neg (show ¬ v 10 = 1 by rw [hs]; decide), if_neg (show ¬ (v 10 = 2 ∨ v 10 = 3) by rw [hs]; decide), if_neg (show ¬ v 10 = 4 by rw [hs]; decide), if_neg (show ¬ v 10 = 5 by rw [hs]; decide), if_neg (show ¬ v 10 = 4 by rw [hs]; decide)]
    exact ⟨h0, iT_not (by rw [e10, hs]; decide) (by rw [e10, hs]; decide)⟩
theorem inv_kI (h : Inv n L B v a) : kI v a := by
  obtain ⟨⟨⟨h1, h2, h3, h4, h5, h6⟩, hR, hN, k1, k2, k3, k4, k5, k6⟩, hT⟩ := h
  exact ⟨h1, k6 _, ⟨L, k1, k3⟩, fun q => ⟨B - 1, by have := h3 q; omega, by rw [k4, show B - 1 + 1 = B by have := h3 q; omega]⟩, h4⟩
theorem inv_ticks {r : Int32} (hr : -1000 ≤ r ∧ r ≤ 100000) (h : Inv n L B v a) : ∀ N, n + N < 2 ^ 30 → Inv (n + N) L B (sTicks r N v a).1 (sTicks r N v a).2 := by
  intro N
  induction N with
  | zero => intro _; exact h
  | succ N ih =>
    intro hN
    exact inv_bring (n := n + N) (by omega) hr (ih (by omega))
theorem inv_goOn (hs : v 10 = 6) (h : Inv n L B v a) : Inv n L B (sGoOnV v) (sGoOnA v a) := by
  have hB1 : 1 ≤ B := h.1.1.2.2.1 (by rw [hs]; decide)
  have h5 := h.1.1.2.2.2.2.1 hs
  unfold sGoOnV sGoOnA
  by_cases c1 : v 11 = 1
  · rw [if_pos c1, if_pos c1]; exact inv_finish hB1 (inv_book hB1 h.1)
  · rw [if_neg c1, if_neg c1]
    by_cases c2 : ¬ v 11 = 2
    · rw [if_pos c2, if_pos c2]; exact inv_enter (v := upd v 14 0) (Or.inr ⟨h5, hB1⟩) h.1
    · rw [if_neg c2, if_neg c2]; exact inv_finish hB1 (inv_book hB1 h.1)
theorem inv_abort (hs : ¬ v 10 = 0) (h : Inv n L B v a) : Inv n L B (sEnter v 0) (if v 18 = 0 then a else sBook v a) := by
  have hB1 : 1 ≤ B := h.1.1.2.2.1 hs
  by_cases c : v 18 = 0
  · rw [if_pos c]; exact inv_enter (Or.inl rfl) h.1
  · rw [if_neg c]; exact inv_enter (Or.inl rfl) (inv_book hB1 h.1)
theorem inv_hold (h0 : ¬ v 10 = 0) (h6 : ¬ v 10 = 6) (h : Inv n L B v a) : Inv n L B (sHalt v 0) a := by
  refine inv_halt ?_ h.1
  rcases h.1.1.2.2.2.1 with q | q | q | q | q | q | q
  · exact absurd q h0
  · exact Or.inl q
  · exact Or.inr (Or.inl q)
  · exact Or.inr (Or.inr (Or.inl q))
  · exact Or.inr (Or.inr (Or.inr (Or.inl q)))
  · exact Or.inr (Or.inr (Or.inr (Or.inr q)))
  · exact absurd q h6
theorem inv_start (h20 : ¬ 20 ≤ v 20) (h : Inv n L B v a) : Inv n L (B + 1) (sBegin (upd v 20 (v 20 + 1)) 0) a := by
  obtain ⟨⟨⟨h1, h2, h3, h4, h5, h6⟩, hR, hN, k1, k2, k3, k4, k5, k6⟩, hT⟩ := h
  have hB : B < 20 := by
    rw [k4, show (20 : Int32) = nI 20 from rfl, nI_leI (by decide) (by omega)] at h20
    omega
  refine inv_begin (vp_in_nI (n := 0) (by decide) (by decide)) (by omega) ⟨⟨h1, h2, fun _ => by omega, h4, h5, h6⟩, hR, hN, k1, by omega, k3, ?_, iL_start hB k5, k6⟩
  show v 20 + 1 = nI (B + 1)
  rw [k4]; exact nI_1 B
theorem inv_zero (h4 : -500 ≤ v 4 ∧ v 4 ≤ 500) (h : Inv n L B v a) : Inv n L B (upd v 0 (v 4)) a := by
  obtain ⟨⟨hA, hR, ⟨n1, n2, n3, n4⟩, hB⟩, hT⟩ := h
  have m1 := h4.1
  have m2 := h4.2
  rw [i_le] at m1 m2
  exact ⟨⟨hA, hR, ⟨n1, ⟨m1, m2⟩, n3, n4⟩, hB⟩, hT⟩
theorem inv_band {x : Int32} (h : Inv n L B v a) : Inv n L B (upd v 2 x) a := h
theorem inv_margin {f : Nat → Int32} (h : Inv n L B v a) : Inv n L B v (va_up a 0 f) := h
theorem inv_fill {b am : Int32} (h8 : vp_in (v 8) 30) (ha : 1 ≤ am ∧ am ≤ 100000) (h : Inv n L B v a) : Inv n (L + 1) B (upd v 8 (v 8 + 1)) (sFillA b am v a) := by
  obtain ⟨⟨hA, hR, hN, k1, k2, k3, k4, k5, k6⟩, hT⟩ := h
  have m1 := ha.1
  have m2 := ha.2
  rw [i_le] at m1 m2
  have e1 : (1 : Int32).toInt = 1 := rfl
  have e2 : (100000 : Int32).toInt = 100000 := rfl
  have hL : L < 30 := by
    rw [k3, vi_iff (by decide)] at h8
    have := h8.2
    rw [show Int32.ofNat 30 = nI 30 from rfl, nI_leI (by decide) (by omega)] at this
    omega
  have eL : (v 8).toNatClampNeg = L := by rw [k3]; exact nI_clamp (by omega)
  refine ⟨⟨hA, hR, hN, by omega, k2, by show v 8 + 1 = _; rw [k3]; exact nI_1 L, k4, ?_, k6⟩, hT⟩
  show iL (L + 1) B (upd (a 6) (v 8).toNatClampNeg am) (a 7) (upd (a 12) (v 8).toNatClampNeg (-1))
  rw [eL]
  exact iL_fill k2 (by omega) (by omega) k5
theorem upd_all {p : Int32 → Prop} {f : Nat → Int32} {k : Nat} {x : Int32} (h : ∀ j, p (f j)) (hx : p x) : ∀ j, p (upd f k x j) := by
  intro j
  unfold upd
  by_cases hj : j = k
  · rw [if_pos hj]; exact hx
  · rw [if_neg hj]; exact h j
theorem inv_addStep {b g l9 : Int32} (hb : 0 ≤ b ∧ b ≤ 3) (hg : 1 ≤ g ∧ g ≤ 10000) (h9 : vp_in (v 9) 6) (h : Inv n L B v a) : Inv n L B (upd v 9 (v 9 + 1)) (sAppA b g l9 v a) := by
  obtain ⟨⟨⟨h1, ⟨S, hS, h2⟩, h3, h4, h5, h6⟩, hR, ⟨n1, n2, n3, n4⟩, k1, k2, k3, k4, k5, k6⟩, hT⟩ := h
  have m1 := hg.1
  have m2 := hg.2
  rw [i_le] at m1 m2
  have e1 : (1 : Int32).toInt = 1 := rfl
  have e2 : (10000 : Int32).toInt = 10000 := rfl
  have hS6 : S < 6 := by
    rw [h2, vi_iff (by decide)] at h9
    have := h9.2
    rw [show Int32.ofNat 6 = nI 6 from rfl, nI_leI (by decide) (by omega)] at this
    omega
  refine ⟨⟨⟨h1, ⟨S + 1, by omega, by show v 9 + 1 = _; rw [h2]; exact nI_1 S⟩, h3, h4, h5, h6⟩, hR, ⟨n1, n2, n3, ?_⟩, k1, k2, k3, k4, k5, ?_⟩, hT⟩
  · exact upd_all (p := fun z => 0 ≤ z.toInt ∧ z.toInt ≤ 10000) n4 ⟨by omega, by omega⟩
  · exact upd_all (p := fun z => vp_in z 4) k6 (bin_in hb)
theorem inv_clear (h : Inv n L B v a) : Inv n L B (upd v 9 0) a := by
  obtain ⟨⟨⟨h1, h2, h3, h4, h5, h6⟩, hR, hN, hB⟩, hT⟩ := h
  exact ⟨⟨⟨h1, ⟨0, by omega, rfl⟩, h3, h4, h5, h6⟩, hR, hN, hB⟩, hT⟩
theorem inv_new : Inv 0 0 0 v00 a00 := by
  refine ⟨⟨⟨vp_in_nI (n := 0) (by decide) (by decide), ⟨0, by omega, rfl⟩, fun q => absurd rfl q, Or.inl rfl, fun q => absurd (show (0 : Int32) = 6 from q) (by decide), fun _ => rfl⟩, ⟨rfl, rfl, rfl, rfl, rfl, rfl⟩, ⟨⟨by decide, by decide⟩, ⟨by decide, by decide⟩, ⟨by decide, by decide⟩, fun k => ⟨by show (0 : Int) ≤ (0 : Int32).toInt; decide, by show (0 : Int32).toInt ≤ 10000; decide⟩⟩, by omega, by omega, rfl, rfl, ⟨fun i hi => absurd hi (Nat.not_lt_zero _), fun i _ b _ => rfl⟩, fun k => vp_in_nI (n := 0) (by decide) (by decide)⟩, iT_not (show ¬ (0 : Int32) = 4 by decide) (show ¬ (0 : Int32) = 5 by decide)⟩
end
end MY2


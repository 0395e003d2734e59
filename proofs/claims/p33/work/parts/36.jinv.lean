section PJ
def rd (x : Int32) : Prop := -1000 ≤ x.toInt ∧ x.toInt ≤ 100000
def iX (v : m_V) (a : m_R) : Prop := (rd (v 4) ∧ rd (v 5) ∧ rd (v 6) ∧ rd (v 7)) ∧ (∀ k, 0 ≤ (a 0 k).toInt ∧ (a 0 k).toInt ≤ 1000) ∧ (∀ k, 0 ≤ (a 1 k).toInt ∧ (a 1 k).toInt ≤ 1000) ∧ ∀ k, 0 ≤ (a 10 k).toInt ∧ (a 10 k).toInt ≤ 1000
def iG (L : Nat) (a : m_R) : Prop := ∀ k, k < 4 → a 2 k = sGone (nI k) a L + a 3 k
def iJ (v : m_V) : Prop := (v 16).toInt ≤ 5 ∧ (v 18 = 0 ∨ v 18 = 1)
def J (n L B : Nat) (v : m_V) (a : m_R) : Prop := Inv n L B v a ∧ iX v a ∧ iG L a ∧ L ≤ 8 ∧ iJ v
theorem sGone_congr {b : Int32} {a a' : m_R} : ∀ n, (∀ i, i < n → a' 4 i = a 4 i ∧ a' 5 i = a 5 i ∧ a' 6 i = a 6 i) → sGone b a' n = sGone b a n := by
  intro n
  induction n with
  | zero => intro _; rfl
  | succ n ih =>
    intro h
    obtain ⟨h4, h5, h6⟩ := h n (Nat.lt_succ_self n)
    show sGone b a' n + _ = sGone b a n + _
    rw [ih (fun i hi => h i (by omega)), h4, h5, h6]
/-- what the lots of a bin have given, lot by lot -/
theorem lots_gone {b bin cur : Int32} {a : m_R} {am : Int32} {u g : Nat → Int32} : ∀ n, (∀ j, n ≤ j → (sLots bin cur (a 4) n (am, a 6, u, g)).2.1 j = a 6 j) ∧
    sGone b (va_up a 6 (sLots bin cur (a 4) n (am, a 6, u, g)).2.1) n = sGone b a n + (if b = bin then am - (sLots bin cur (a 4) n (am, a 6, u, g)).1 else 0) := by
  intro n
  induction n with
  | zero =>
    refine ⟨fun j _ => rfl, ?_⟩
    show (0 : Int32) = 0 + (if b = bin then am - am else 0)
    by_cases h : b = bin
    · rw [if_pos h]; grind
    · rw [if_neg h]; grind
  | succ n ih =>
    obtain ⟨ih1, ih2⟩ := ih
    by_cases hl : a 4 n = bin
    · rw [sLots_yes hl]
      generalize sLots bin cur (a 4) n (am, a 6, u, g) = s at ih1 ih2
      dsimp only
      have h6 := ih1 n (Nat.le_refl n)
      refine ⟨fun j hj => ?_, ?_⟩
      · rw [upd_ne (by omega)]; exact ih1 j (by omega)
      · have hc : sGone b (va_up a 6 (upd s.2.1 n (s.2.1 n + -(mn2 s.1 (s.2.1 n))))) n = sGone b (va_up a 6 s.2.1) n :=
          sGone_congr n (fun i hi => ⟨rfl, rfl, show upd s.2.1 n _ i = s.2.1 i from upd_ne (by omega)⟩)
        show sGone b _ n + (if ¬ a 4 n = b then 0 else a 5 n - upd s.2.1 n (s.2.1 n + -(mn2 s.1 (s.2.1 n))) n) = sGone b a n + (if ¬ a 4 n = b then 0 else a 5 n - a 6 n) + _
        rw [hc, ih2, upd_eq, h6, hl]
        by_cases hb : b = bin
        · rw [if_pos hb, if_pos hb, if_neg (not_not_intro hb.symm), if_neg (not_not_intro hb.symm)]; grind
        · rw [if_neg hb, if_neg hb, if_pos (fun q => hb q.symm), if_pos (fun q => hb q.symm)]
    · rw [sLots_no hl]
      generalize sLots bin cur (a 4) n (am, a 6, u, g) = s at ih1 ih2
      refine ⟨fun j hj => ih1 j (by omega), ?_⟩
      have h6 := ih1 n (Nat.le_refl n)
      show sGone b (va_up a 6 s.2.1) n + (if ¬ a 4 n = b then 0 else a 5 n - s.2.1 n) = sGone b a n + (if ¬ a 4 n = b then 0 else a 5 n - a 6 n) + _
      rw [ih2, h6]; grind
section
variable {n L B : Nat} {v : m_V} {a : m_R}
theorem iG_book (h : Inv0 n L B v a) (g : iG L a) : iG L (sBook v a) := by
  obtain ⟨hA, hR, hN, k1, k2, k3, k4, k5, k6⟩ := h
  obtain ⟨bn, hbn, ebn⟩ := vp_in_of (k6 (v 15).toNatClampNeg) (by decide)
  have es : sbin v a = nI bn := ebn
  have ec : (sbin v a).toNatClampNeg = bn := by rw [es]; exact nI_clamp (by omega)
  have eL : (v 8).toNatClampNeg = L := by rw [k3]; exact nI_clamp (by omega)
  intro k hk
  have hl := (lots_gone (b := nI k) (bin := sbin v a) (cur := v 20 - 1) (a := a) (am := sAmt v) (u := a 7) (g := a 12) L).2
  have hg := g k hk
  have hs : sGone (nI k) (sBook v a) L = sGone (nI k) (va_up a 6 (sTook (sbin v a) (sAmt v) (v 20 - 1) v a).2.1) L := sGone_congr L (fun i _ => ⟨rfl, rfl, rfl⟩)
  show upd (a 2) (sbin v a).toNatClampNeg (a 2 (sbin v a).toNatClampNeg + sAmt v) k = sGone (nI k) (sBook v a) L + upd (a 3) (sbin v a).toNatClampNeg (a 3 (sbin v a).toNatClampNeg + (sAmt v - (sAmt v - (sTook (sbin v a) (sAmt v) (v 20 - 1) v a).1))) k
  rw [hs]
  unfold sTook
  rw [eL, hl, ec]
  by_cases q : k = bn
  · subst q
    rw [upd_eq, upd_eq, if_pos es.symm, hg]
    grind
  · rw [upd_ne q, upd_ne q, if_neg (by rw [es, nI_eq (by omega) (by omega)]; exact q), hg]
    grind
theorem iG_same {a' : m_R} (h2 : a' 2 = a 2) (h3 : a' 3 = a 3) (h4 : a' 4 = a 4) (h5 : a' 5 = a 5) (h6 : a' 6 = a 6) (g : iG L a) : iG L a' := by
  intro k hk
  rw [h2, h3, sGone_congr L (a := a) (fun i _ => ⟨by rw [h4], by rw [h5], by rw [h6]⟩)]
  exact g k hk
theorem iG_weigh (hB1 : 1 ≤ B) (hs : v 10 = 4) (h : Inv0 n L B v a) (g : iG L a) : iG L (sWeighA v a) := by
  have h1 : Inv0 n L B (sW1 v) (sW2 v a) ∧ iG L (sW2 v a) := by
    unfold sW1 sW2
    by_cases hw : ¬ v 19 = 0
    · rw [if_pos hw, if_pos hw]; exact ⟨h, g⟩
    · rw [if_neg hw, if_neg hw]; exact ⟨h, iG_same (a := a) rfl rfl rfl rfl rfl g⟩
  obtain ⟨h1, g1⟩ := h1
  unfold sWeighA
  by_cases c1 : -(stol v a) ≤ sErr v a
  · rw [if_pos c1]
    by_cases c2 : sErr v a ≤ stol v a
    · rw [if_pos c2]; exact iG_book h1 g1
    · rw [if_neg c2]; exact g1
  · rw [if_neg c1]; exact g1
theorem iG_fill {b am : Int32} (h8 : v 8 = nI L) (hL : L < 2 ^ 31) (g : iG L a) : iG (L + 1) (sFillA b am v a) := by
  have eL : (v 8).toNatClampNeg = L := by rw [h8]; exact nI_clamp hL
  intro k hk
  have hc : sGone (nI k) (sFillA b am v a) L = sGone (nI k) a L := sGone_congr L (fun i hi => by
    refine ⟨?_, ?_, ?_⟩
    · show upd (a 4) (v 8).toNatClampNeg b i = a 4 i
      rw [eL]; exact upd_ne (by omega)
    · show upd (a 5) (v 8).toNatClampNeg am i = a 5 i
      rw [eL]; exact upd_ne (by omega)
    · show upd (a 6) (v 8).toNatClampNeg am i = a 6 i
      rw [eL]; exact upd_ne (by omega))
  show a 2 k = sGone (nI k) (sFillA b am v a) L + (if ¬ upd (a 4) (v 8).toNatClampNeg b L = nI k then 0 else upd (a 5) (v 8).toNatClampNeg am L - upd (a 6) (v 8).toNatClampNeg am L) + a 3 k
  rw [hc, g k hk, eL, upd_eq, upd_eq, upd_eq]
  by_cases q : ¬ b = nI k
  · rw [if_pos q]; grind
  · rw [if_neg q]; grind
/-! the ranges -/
theorem clampF_rg (x : Int32) : 0 ≤ (clampF x).toInt ∧ (clampF x).toInt ≤ 1000 := by
  unfold clampF
  rw [mx2_int, mn2_int]
  have e0 : (0 : Int32).toInt = 0 := rfl
  have e5 : (500 : Int32).toInt = 500 := rfl
  omega
theorem iX_learn {b e : Int32} (h : iX v a) : iX v (sLearn a b e) := by
  obtain ⟨h1, h2, h3, h4⟩ := h
  exact ⟨h1, h2, upd_all (p := fun z => 0 ≤ z.toInt ∧ z.toInt ≤ 1000) h3 (clampF_rg _), h4⟩
theorem iX_finish (h : iX v a) : iX (sFinish v) (sBook v a) := by
  unfold sFinish
  by_cases c : v 9 ≤ v 15 + 1
  · rw [if_pos c]; exact h
  · rw [if_neg c]; exact h
theorem iX_w (h : iX v a) : iX (sW1 v) (sW2 v a) := by
  unfold sW1 sW2
  by_cases hw : ¬ v 19 = 0
  · rw [if_pos hw, if_pos hw]; exact h
  · rw [if_neg hw, if_neg hw]; exact iX_learn h
theorem iX_weigh (h : iX v a) : iX (sWeighV v a) (sWeighA v a) := by
  have h1 := iX_w h
  unfold sWeighV sWeighA
  by_cases c1 : -(stol v a) ≤ sErr v a
  · rw [if_pos c1, if_pos c1]
    by_cases c2 : sErr v a ≤ stol v a
    · rw [if_pos c2, if_pos c2]; exact iX_finish h1
    · rw [if_neg c2, if_neg c2]; exact h1
  · rw [if_neg c1, if_neg c1]
    unfold sJog
    by_cases c3 : 5 ≤ sW1 v 16
    · rw [if_pos c3]; exact h1
    · rw [if_neg c3]; exact h1
theorem iX_track (h : iX v a) : iX (sTrack v) a := by
  unfold sTrack
  by_cases c1 : gross v = 0
  · rw [if_pos c1]; exact h
  · rw [if_neg c1]
    by_cases c2 : bi (-10 ≤ gross v ∧ gross v ≤ 10) = 0
    · rw [if_pos c2]; exact h
    · rw [if_neg c2]
      by_cases c3 : ¬ bi (calm v) = 0
      · rw [if_pos c3]
        by_cases c4 : bi (-500 ≤ sMoved v ∧ sMoved v ≤ 500) = 0
        · rw [if_pos c4]; exact h
        · rw [if_neg c4]; exact h
      · rw [if_neg c3]; exact h
theorem iX_tare (h : iX v a) : iX (sTare v a) a := by
  unfold sTare
  by_cases c1 : bi (calm v) = 0
  · rw [if_pos c1]; exact h
  · rw [if_neg c1]; exact h
theorem iX_feed (h : iX v a) : iX (sFeed v a) a := by
  have h1 : iX (sIdle v) a := by
    unfold sIdle
    by_cases c : net v ≤ v 17
    · rw [if_pos c]; exact h
    · rw [if_neg c]; exact h
  unfold sFeed
  by_cases c1 : net v < stgt v a - sAhead v a
  · rw [if_pos c1]
    by_cases c2 : (sIdle v) 14 < 20
    · rw [if_pos c2]; exact h1
    · rw [if_neg c2]; exact h1
  · rw [if_neg c1]; exact h1
theorem rd_of {r : Int32} (hr : -1000 ≤ r ∧ r ≤ 100000) : rd r := by
  obtain ⟨r1, r2⟩ := hr
  rw [i_le] at r1 r2
  exact ⟨r1, r2⟩
theorem iJ_finish (h : iJ v) : iJ (sFinish v) := by
  unfold sFinish
  by_cases c : v 9 ≤ v 15 + 1
  · rw [if_pos c]; exact h
  · rw [if_neg c]; exact ⟨(show (0 : Int32).toInt ≤ 5 by decide), Or.inl rfl⟩
theorem iJ_jog (h : iJ v) : iJ (sJog v) := by
  unfold sJog
  by_cases c : 5 ≤ v 16
  · rw [if_pos c]; exact h
  · rw [if_neg c]
    have e5 : (5 : Int32).toInt = 5 := rfl
    have e1 : (1 : Int32).toInt = 1 := rfl
    rw [i_le, e5] at c
    have hl := Int32.le_toInt (v 16)
    refine ⟨?_, h.2⟩
    show (v 16 + 1).toInt ≤ 5
    rw [Jvm.Kit.i32_add (by rw [e1]; omega) (by rw [e1]; omega), e1]; omega
theorem iJ_w (h : iJ v) : iJ (sW1 v) := by
  unfold sW1
  by_cases hw : ¬ v 19 = 0
  · rw [if_pos hw]; exact h
  · rw [if_neg hw]; exact h
theorem iJ_weigh (h : iJ v) : iJ (sWeighV v a) := by
  have h1 := iJ_w h
  unfold sWeighV
  by_cases c1 : -(stol v a) ≤ sErr v a
  · rw [if_pos c1]
    by_cases c2 : sErr v a ≤ stol v a
    · rw [if_pos c2]; exact iJ_finish h1
    · rw [if_neg c2]; exact h1
  · rw [if_neg c1]; exact iJ_jog h1
theorem iJ_track (h : iJ v) : iJ (sTrack v) := by
  unfold sTrack
  by_cases c1 : gross v = 0
  · rw [if_pos c1]; exact h
  · rw [if_neg c1]
    by_cases c2 : bi (-10 ≤ gross v ∧ gross v ≤ 10) = 0
    · rw [if_pos c2]; exact h
    · rw [if_neg c2]
      by_cases c3 : ¬ bi (calm v) = 0
      · rw [if_pos c3]
        by_cases c4 : bi (-500 ≤ sMoved v ∧ sMoved v ≤ 500) = 0
        · rw [if_pos c4]; exact h
        · rw [if_neg c4]; exact h
      · rw [if_neg c3]; exact h
theorem iJ_tare (h : iJ v) : iJ (sTare v a) := by
  unfold sTare
  by_cases c1 : bi (calm v) = 0
  · rw [if_pos c1]; exact h
  · rw [if_neg c1]; exact ⟨h.1, Or.inr rfl⟩
theorem iJ_feed (h : iJ v) : iJ (sFeed v a) := by
  have h1 : iJ (sIdle v) := by
    unfold sIdle
    by_cases c : net v ≤ v 17
    · rw [if_pos c]; exact h
    · rw [if_neg c]; exact h
  unfold sFeed
  by_cases c1 : net v < stgt v a - sAhead v a
  · rw [if_pos c1]
    by_cases c2 : (sIdle v) 14 < 20
    · rw [if_pos c2]; exact h1
    · rw [if_neg c2]; exact h1
  · rw [if_neg c1]; exact h1
theorem iJ_go (h : iJ v) : iJ (sGoV v a) := by
  unfold sGoV
  by_cases s0 : v 10 = 0
  · rw [if_pos s0]; exact iJ_track h
  · rw [if_neg s0]
    by_cases s1 : v 10 = 1
    · rw [if_pos s1]; exact iJ_tare h
    · rw [if_neg s1]
      by_cases s2 : v 10 = 2 ∨ v 10 = 3
      · rw [if_pos s2]; exact iJ_feed h
      · rw [if_neg s2]
        by_cases s4 : v 10 = 4
        · rw [if_pos s4]
          by_cases c1 : v 13 < 4
          · rw [if_pos c1]; exact h
          · rw [if_neg c1]
            by_cases c2 : bi (calm v) = 0
            · rw [if_pos c2]; exact h
            · rw [if_neg c2]; exact iJ_weigh h
        · rw [if_neg s4]
          by_cases s5 : v 10 = 5
          · rw [if_pos s5]
            by_cases c1 : v 13 < 2
            · rw [if_pos c1]; exact h
            · rw [if_neg c1]; exact h
          · rw [if_neg s5]; exact h
theorem iJ_goOn (h : iJ v) : iJ (sGoOnV v) := by
  unfold sGoOnV
  by_cases c1 : v 11 = 1
  · rw [if_pos c1]; exact iJ_finish h
  · rw [if_neg c1]
    by_cases c2 : ¬ v 11 = 2
    · rw [if_pos c2]; exact h
    · rw [if_neg c2]; exact iJ_finish h
theorem J_bring {r : Int32} (hn : n < 2 ^ 30) (hr : -1000 ≤ r ∧ r ≤ 100000) (h : J n L B v a) : J (n + 1) L B (sBringV v a r) (sBringA v a r) := by
  obtain ⟨hI, hX, hG, h8, hJ⟩ := h
  refine ⟨inv_bring hn hr hI, ?_, ?_, h8, iJ_go (v := sCount v r) hJ⟩
  · have h0 : iX (sCount v r) (sRing v a r) := ⟨⟨rd_of hr, hX.1.1, hX.1.2.1, hX.1.2.2.1⟩, hX.2.1, hX.2.2.1, hX.2.2.2⟩
    have e10 : sCount v r 10 = v 10 := rfl
    unfold sBringV sBringA sGoV sGoA
    by_cases s4 : sCount v r 10 = 4
    · rw [if_neg (by rw [s4]; decide), if_neg (by rw [s4]; decide), if_neg (by rw [s4]; decide), if_pos s4, if_pos s4]
      by_cases c1 : sCount v r 13 < 4
      · rw [if_pos c1, if_pos c1]; exact h0
      · rw [if_neg c1, if_neg c1]
        by_cases c2 : bi (calm (sCount v r)) = 0
        · rw [if_pos c2, if_pos c2]; exact h0
        · rw [if_neg c2, if_neg c2]; exact iX_weigh h0
    · rw [if_neg s4, if_neg s4]
      by_cases s0 : sCount v r 10 = 0
      · rw [if_pos s0]; exact iX_track h0
      · rw [if_neg s0]
        by_cases s1 : sCount v r 10 = 1
        · rw [if_pos s1]; exact iX_tare h0
        · rw [if_neg s1]
          by_cases s2 : sCount v r 10 = 2 ∨ sCount v r 10 = 3
          · rw [if_pos s2]; exact iX_feed h0
          · rw [if_neg s2]
            by_cases s5 : sCount v r 10 = 5
            · rw [if_pos s5]
              by_cases c1 : sCount v r 13 < 2
              · rw [if_pos c1]; exact h0
              · rw [if_neg c1]; exact h0
            · rw [if_neg s5]; exact h0
  · have hG : iG L (sRing v a r) := iG_same (a := a) rfl rfl rfl rfl rfl hG
    unfold sBringA sGoA
    by_cases s4 : sCount v r 10 = 4
    · rw [if_pos s4]
      by_cases c1 : sCount v r 13 < 4
      · rw [if_pos c1]; exact hG
      · rw [if_neg c1]
        by_cases c2 : bi (calm (sCount v r)) = 0
        · rw [if_pos c2]; exact hG
        · rw [if_neg c2]
          obtain ⟨⟨hA, hR, ⟨n1, n2, n3, n4⟩, hB⟩, hT⟩ := hI
          have r1 := rd_of hr
          have h0 : Inv0 (n + 1) L B (sCount v r) (sRing v a r) := ⟨hA, iR_take r hn hR, ⟨⟨r1.1, r1.2⟩, n2, n3, n4⟩, hB⟩
          exact iG_weigh (hA.2.2.1 (by rw [show v 10 = 4 from s4]; decide)) s4 h0 hG
    · rw [if_neg s4]; exact hG
theorem J_ticks {r : Int32} (hr : -1000 ≤ r ∧ r ≤ 100000) (h : J n L B v a) : ∀ N, n + N < 2 ^ 30 → J (n + N) L B (sTicks r N v a).1 (sTicks r N v a).2 := by
  intro N
  induction N with
  | zero => intro _; exact h
  | succ N ih =>
    intro hN
    exact J_bring (n := n + N) (by omega) hr (ih (by omega))
theorem J_hold (h0 : ¬ v 10 = 0) (h6 : ¬ v 10 = 6) (h : J n L B v a) : J n L B (sHalt v 0) a := ⟨inv_hold h0 h6 h.1, h.2.1, h.2.2.1, h.2.2.2⟩
theorem J_goOn (hs : v 10 = 6) (h : J n L B v a) : J n L B (sGoOnV v) (sGoOnA v a) := by
  refine ⟨inv_goOn hs h.1, ?_, ?_, h.2.2.2.1, iJ_goOn h.2.2.2.2⟩
  · unfold sGoOnV sGoOnA
    by_cases c1 : v 11 = 1
    · rw [if_pos c1, if_pos c1]; exact iX_finish h.2.1
    · rw [if_neg c1, if_neg c1]
      by_cases c2 : ¬ v 11 = 2
      · rw [if_pos c2, if_pos c2]; exact h.2.1
      · rw [if_neg c2, if_neg c2]; exact iX_finish h.2.1
  · unfold sGoOnA
    by_cases c1 : v 11 = 1
    · rw [if_pos c1]; exact iG_book h.1.1 h.2.2.1
    · rw [if_neg c1]
      by_cases c2 : ¬ v 11 = 2
      · rw [if_pos c2]; exact h.2.2.1
      · rw [if_neg c2]; exact iG_book h.1.1 h.2.2.1
theorem J_abort (hs : ¬ v 10 = 0) (h : J n L B v a) : J n L B (sEnter v 0) (if v 18 = 0 then a else sBook v a) := by
  refine ⟨inv_abort hs h.1, ?_, ?_, h.2.2.2⟩
  · by_cases c : v 18 = 0
    · rw [if_pos c]; exact h.2.1
    · rw [if_neg c]; exact h.2.1
  · by_cases c : v 18 = 0
    · rw [if_pos c]; exact h.2.2.1
    · rw [if_neg c]; exact iG_book h.1.1 h.2.2.1
theorem J_start (h20 : ¬ 20 ≤ v 20) (h : J n L B v a) : J n L (B + 1) (sBegin (upd v 20 (v 20 + 1)) 0) a := ⟨inv_start h20 h.1, h.2.1, h.2.2.1, h.2.2.2.1, (show (0 : Int32).toInt ≤ 5 by decide), Or.inl rfl⟩
theorem J_zero (h4 : -500 ≤ v 4 ∧ v 4 ≤ 500) (h : J n L B v a) : J n L B (upd v 0 (v 4)) a := ⟨inv_zero h4 h.1, h.2.1, h.2.2.1, h.2.2.2⟩
theorem J_band {x : Int32} (h : J n L B v a) : J n L B (upd v 2 x) a := h
theorem J_margin {bn : Nat} {x : Int32} (hx : 0 ≤ x.toInt ∧ x.toInt ≤ 1000) (h : J n L B v a) : J n L B v (va_up a 0 (upd (a 0) bn x)) :=
  ⟨h.1, ⟨h.2.1.1, upd_all (p := fun z => 0 ≤ z.toInt ∧ z.toInt ≤ 1000) h.2.1.2.1 hx, h.2.1.2.2⟩, iG_same (a := a) rfl rfl rfl rfl rfl h.2.2.1, h.2.2.2⟩
theorem J_fill {b am : Int32} (hL : L < 8) (ha : 1 ≤ am ∧ am ≤ 100000) (h : J n L B v a) : J n (L + 1) B (upd v 8 (v 8 + 1)) (sFillA b am v a) := by
  have k3 : v 8 = nI L := h.1.1.2.2.2.2.2.1
  exact ⟨inv_fill (by rw [k3]; exact vp_in_nI (by omega) (by decide)) ha h.1, h.2.1, iG_fill k3 (by omega) h.2.2.1, hL, h.2.2.2.2⟩
theorem J_addStep {b g l9 : Int32} (hb : 0 ≤ b ∧ b ≤ 3) (hg : 1 ≤ g ∧ g ≤ 10000) (hl : 0 ≤ l9 ∧ l9 ≤ 1000) (h9 : vp_in (v 9) 6) (h : J n L B v a) : J n L B (upd v 9 (v 9 + 1)) (sAppA b g l9 v a) := by
  have m1 := hl.1
  have m2 := hl.2
  rw [i_le] at m1 m2
  exact ⟨inv_addStep hb hg h9 h.1, ⟨h.2.1.1, h.2.1.2.1, h.2.1.2.2.1, upd_all (p := fun z => 0 ≤ z.toInt ∧ z.toInt ≤ 1000) h.2.1.2.2.2 ⟨m1, m2⟩⟩, iG_same (a := a) rfl rfl rfl rfl rfl h.2.2.1, h.2.2.2⟩
theorem ltc_rg {m : Nat} {c : Int32} (hc : 0 ≤ c.toInt ∧ c.toInt ≤ 1000) (k : Nat) : 0 ≤ (ltc m c k).toInt ∧ (ltc m c k).toInt ≤ 1000 := by
  unfold ltc
  by_cases h : k < m
  · rw [if_pos h]; exact hc
  · rw [if_neg h]; exact ⟨by decide, by decide⟩
theorem J_new : J 0 0 0 v00 a00 := by
  refine ⟨inv_new, ⟨⟨⟨by decide, by decide⟩, ⟨by decide, by decide⟩, ⟨by decide, by decide⟩, ⟨by decide, by decide⟩⟩, fun k => ltc_rg (m := 4) (c := 50) ⟨by decide, by decide⟩ k, fun k => ltc_rg (m := 4) (c := 20) ⟨by decide, by decide⟩ k, fun k => ⟨by show (0 : Int) ≤ (0 : Int32).toInt; decide, by show (0 : Int32).toInt ≤ 1000; decide⟩⟩, ?_, by omega, (show (0 : Int32).toInt ≤ 5 by decide), Or.inl rfl⟩
  intro k hk
  show (0 : Int32) = 0 + 0
  rfl
end
end PJ

/-! ===== what each step does, told once for the class and the model; numbers of the scalars: 0 zero, 1 tare, 2 band, 3 arrived (up to 4), 4..7 the latest readings, 8 lots, 9 steps, 10 state, 11 alarm, 12 held, 13 ticks in state, 14 idle, 15 step, 16 jogs, 17 greatest, 18 tared, 19 weighed, 20 batches, 21 done, 22 the model's ticks in state, 23 the model's arrived; of the rows: 0 margins, 1 flights, 2 registers, 3 untraced, 4 bins of lots, 5 filled, 6 left, 7 usage, 8 bins of steps, 9 targets, 10 tolerances, 11 the model's readings, 12 its firsts ===== -/
section MP
def bi (p : Prop) [Decidable p] : Int32 := if p then 1 else 0
theorem bi_t {p : Prop} [Decidable p] (h : p) : bi p = 1 := if_pos h
theorem bi_f {p : Prop} [Decidable p] (h : ¬ p) : bi p = 0 := if_neg h
theorem bi_01 {p : Prop} [Decidable p] : bi p = 0 ∨ bi p = 1 := by unfold bi; by_cases h : p <;> simp [h]
theorem bi_0 {p : Prop} [Decidable p] : bi p = 0 ↔ ¬ p := by unfold bi; by_cases h : p <;> simp [h]
theorem bi_nar {p : Prop} [Decidable p] : narrow .boolean (.int (bi p)) = .int (bi p) := by rcases bi_01 (p := p) with h | h <;> rw [h] <;> rfl
theorem i_le {x y : Int32} : x ≤ y ↔ x.toInt ≤ y.toInt := Int32.le_iff_toInt_le
theorem i_lt {x y : Int32} : x < y ↔ x.toInt < y.toInt := Int32.lt_iff_toInt_lt
theorem i_nlt {x y : Int32} : ¬ x < y ↔ y ≤ x := by rw [i_le, i_lt]; omega
theorem i_nle {x y : Int32} : ¬ x ≤ y ↔ y < x := by rw [i_le, i_lt]; omega
theorem vi_iff {i : Int32} {n : Nat} (hn : n < 2 ^ 31) : vp_in i n ↔ ¬ i < 0 ∧ ¬ Int32.ofNat n ≤ i := by
  unfold vp_in
  rw [not_or, Int32.le_iff_toInt_le, Int32.lt_iff_toInt_lt, show (Int32.ofNat n).toInt = (n : Int) from nI_toInt hn, Int32.toInt_zero]
  have h1 : i.toNatClampNeg = i.toInt.toNat := rfl
  rw [h1]
  omega
theorem vi_0 {i : Int32} {n : Nat} (hn : n < 2 ^ 31) (h : vp_in i n) : ¬ i < 0 := ((vi_iff hn).mp h).1
theorem vi_1 {i : Int32} {n : Nat} (hn : n < 2 ^ 31) (h : vp_in i n) : ¬ Int32.ofNat n ≤ i := ((vi_iff hn).mp h).2
abbrev m_V : Type := Nat → Int32
abbrev m_R : Type := Nat → Nat → Int32
def gross (v : m_V) : Int32 := v 4 - v 0
def net (v : m_V) : Int32 := gross v - v 1
def mx2 (x z : Int32) : Int32 := if x < z then z else x
def mn2 (x z : Int32) : Int32 := if z < x then z else x
abbrev calm (v : m_V) : Prop := ¬ v 3 < 4 ∧ ¬ v 2 < mx2 (mx2 (v 4) (v 5)) (mx2 (v 6) (v 7)) - mn2 (mn2 (v 4) (v 5)) (mn2 (v 6) (v 7))
def sTake (v : m_V) (r : Int32) : m_V := upd (upd (upd (upd (upd (upd v 7 (v 6)) 6 (v 5)) 5 (v 4)) 4 r) 3 (if 4 ≤ v 3 then v 3 else v 3 + 1)) 23 (v 23 + 1)
def sRing (v : m_V) (a : m_R) (r : Int32) : m_R := va_up a 11 (upd (a 11) (v 23 - v 23 / 4 * 4).toNatClampNeg r)
def sMoved (v : m_V) : Int32 := v 0 + (if gross v ≤ 0 then -1 else 1)
def sTrack (v : m_V) : m_V := if gross v = 0 then v else if bi (-10 ≤ gross v ∧ gross v ≤ 10) = 0 then v else if ¬ bi (calm v) = 0 then (if bi (-500 ≤ sMoved v ∧ sMoved v ≤ 500) = 0 then v else upd v 0 (sMoved v)) else v
def sbin (v : m_V) (a : m_R) : Int32 := a 8 (v 15).toNatClampNeg
def stgt (v : m_V) (a : m_R) : Int32 := a 9 (v 15).toNatClampNeg
def stol (v : m_V) (a : m_R) : Int32 := a 10 (v 15).toNatClampNeg
def sEnter (v : m_V) (n : Int32) : m_V := upd (upd (upd (upd v 10 n) 13 0) 22 0) 11 0
def sHalt (v : m_V) (r : Int32) : m_V := upd (upd (upd (upd (upd v 12 (v 10)) 10 6) 13 0) 22 0) 11 r
def sBegin (v : m_V) (n : Int32) : m_V := sEnter (upd (upd (upd (upd (upd (upd v 15 n) 16 0) 14 0) 17 0) 18 0) 19 0) 1
def sTare (v : m_V) (a : m_R) : m_V := if bi (calm v) = 0 then v else sEnter (upd (upd v 1 (gross v)) 18 1) (if stgt v a ≤ a 0 (sbin v a).toNatClampNeg then 3 else 2)
def sIdle (v : m_V) : m_V := if net v ≤ v 17 then upd v 14 (v 14 + 1) else upd (upd v 17 (net v)) 14 0
def sAhead (v : m_V) (a : m_R) : Int32 := if ¬ v 10 = 2 then a 1 (sbin v a).toNatClampNeg else a 0 (sbin v a).toNatClampNeg
def sFeed (v : m_V) (a : m_R) : m_V := if net v < stgt v a - sAhead v a then (if (sIdle v) 14 < 20 then sIdle v else sHalt (sIdle v) 3) else sEnter (sIdle v) (if ¬ v 10 = 2 then 4 else 3)
def sGate (v : m_V) (a : m_R) (b : Int32) : Int32 := if ¬ sbin v a = b then 0 else if ¬ v 10 = 2 then (if v 10 = 3 then 1 else if ¬ v 10 = 5 then 0 else 1) else 2
def clampF (x : Int32) : Int32 := mx2 0 (mn2 500 x)
def fl4 (x : Int32) : Int32 := if 0 ≤ x ^^^ 4 then x / 4 else if x / 4 * 4 = x then x / 4 else x / 4 - 1
def sLearn (a : m_R) (bin err : Int32) : m_R := va_up a 1 (upd (a 1) bin.toNatClampNeg (clampF (a 1 bin.toNatClampNeg + fl4 err)))
def plc (i : Nat) (cur : Int32) : Nat := (nI i * 20 + cur).toNatClampNeg
/-- lot i, with what is still to be taken, what is left, used, and the first batches -/
abbrev m_L : Type := Int32 × (Nat → Int32) × (Nat → Int32) × (Nat → Int32)
def sLot1 (bin cur : Int32) (lb : Nat → Int32) (i : Nat) (s : m_L) : m_L :=
  if ¬ lb i = bin then s else
    (s.1 - mn2 s.1 (s.2.1 i), upd s.2.1 i (s.2.1 i + -(mn2 s.1 (s.2.1 i))), upd s.2.2.1 (plc i cur) (s.2.2.1 (plc i cur) + mn2 s.1 (s.2.1 i)), upd s.2.2.2 i (if 0 < mn2 s.1 (s.2.1 i) ∧ s.2.2.2 i = -1 then cur else s.2.2.2 i))
def sLots (bin cur : Int32) (lb : Nat → Int32) : Nat → m_L → m_L
  | 0, s => s
  | n + 1, s => sLot1 bin cur lb n (sLots bin cur lb n s)
def sTook (bin amount cur : Int32) (v : m_V) (a : m_R) : m_L := sLots bin cur (a 4) (v 8).toNatClampNeg (amount, a 6, a 7, a 12)
def sOut (bin amount cur : Int32) (v : m_V) (a : m_R) : m_R := va_up (va_up (va_up a 6 (sTook bin amount cur v a).2.1) 7 (sTook bin amount cur v a).2.2.1) 12 (sTook bin amount cur v a).2.2.2
def sAmt (v : m_V) : Int32 := mx2 0 (net v)
def sBook (v : m_V) (a : m_R) : m_R :=
  va_up (va_up (sOut (sbin v a) (sAmt v) (v 20 - 1) v a) 2 (upd (a 2) (sbin v a).toNatClampNeg (a 2 (sbin v a).toNatClampNeg + sAmt v)))
    3 (upd (a 3) (sbin v a).toNatClampNeg (a 3 (sbin v a).toNatClampNeg + (sAmt v - (sAmt v - (sTook (sbin v a) (sAmt v) (v 20 - 1) v a).1))))
def sFinish (v : m_V) : m_V := if v 9 ≤ v 15 + 1 then sEnter (upd v 21 (v 21 + 1)) 0 else sBegin v (v 15 + 1)
def sErr (v : m_V) (a : m_R) : Int32 := net v - stgt v a
def sJog (v : m_V) : m_V := if 5 ≤ v 16 then sHalt v 1 else sEnter (upd v 16 (v 16 + 1)) 5
def sW1 (v : m_V) : m_V := if ¬ v 19 = 0 then v else upd v 19 1
def sW2 (v : m_V) (a : m_R) : m_R := if ¬ v 19 = 0 then a else sLearn a (sbin v a) (sErr v a)
def sWeighV (v : m_V) (a : m_R) : m_V := if -(stol v a) ≤ sErr v a then (if sErr v a ≤ stol v a then sFinish (sW1 v) else sHalt (sW1 v) 2) else sJog (sW1 v)
def sWeighA (v : m_V) (a : m_R) : m_R := if -(stol v a) ≤ sErr v a then (if sErr v a ≤ stol v a then sBook (sW1 v) (sW2 v a) else sW2 v a) else sW2 v a
def sStock (b : Int32) (a : m_R) : Nat → Int32
  | 0 => 0
  | n + 1 => sStock b a n + (if ¬ a 4 n = b then 0 else a 6 n)
def sGone (b : Int32) (a : m_R) : Nat → Int32
  | 0 => 0
  | n + 1 => sGone b a n + (if ¬ a 4 n = b then 0 else a 5 n - a 6 n)
def sFillA (b am : Int32) (v : m_V) (a : m_R) : m_R := va_up (va_up (va_up (va_up a 4 (upd (a 4) (v 8).toNatClampNeg b)) 5 (upd (a 5) (v 8).toNatClampNeg am)) 6 (upd (a 6) (v 8).toNatClampNeg am)) 12 (upd (a 12) (v 8).toNatClampNeg (-1))
def sAppA (b tg tl : Int32) (v : m_V) (a : m_R) : m_R := va_up (va_up (va_up a 8 (upd (a 8) (v 9).toNatClampNeg b)) 9 (upd (a 9) (v 9).toNatClampNeg tg)) 10 (upd (a 10) (v 9).toNatClampNeg tl)
def sGoOnV (v : m_V) : m_V := if v 11 = 1 then sFinish v else if ¬ v 11 = 2 then sEnter (upd v 14 0) (v 12) else sFinish v
def sGoOnA (v : m_V) (a : m_R) : m_R := if v 11 = 1 then sBook v a else if ¬ v 11 = 2 then a else sBook v a
/-- which batch was the first for lot i, among B -/
def sFst (a : m_R) (i B : Nat) : Prop := (a 12 i = -1 ∧ ∀ b, b < B → ¬ 0 < a 7 (i * 20 + b)) ∨ ∃ b, b < B ∧ a 12 i = nI b ∧ 0 < a 7 (i * 20 + b) ∧ ∀ b', b' < b → ¬ 0 < a 7 (i * 20 + b')
/-- a reading has come: counted in its state -/
def sCount (v : m_V) (r : Int32) : m_V := upd (upd (sTake v r) 13 (v 13 + 1)) 22 (if v 10 = 0 ∨ v 10 = 6 then v 22 else v 22 + 1)
def sGoV (v : m_V) (a : m_R) : m_V :=
  if v 10 = 0 then sTrack v else if v 10 = 1 then sTare v a else if v 10 = 2 ∨ v 10 = 3 then sFeed v a
  else if v 10 = 4 then (if v 13 < 4 then v else if bi (calm v) = 0 then v else sWeighV v a)
  else if v 10 = 5 then (if v 13 < 2 then v else sEnter v 4) else v
def sGoA (v : m_V) (a : m_R) : m_R := if v 10 = 4 then (if v 13 < 4 then a else if bi (calm v) = 0 then a else sWeighA v a) else a
def sBringV (v : m_V) (a : m_R) (r : Int32) : m_V := sGoV (sCount v r) (sRing v a r)
def sBringA (v : m_V) (a : m_R) (r : Int32) : m_R := sGoA (sCount v r) (sRing v a r)
/-- what the class needs of its own state to go on -/
def kI (v : m_V) (a : m_R) : Prop := vp_in (v 15) 6 ∧ vp_in (sbin v a) 4 ∧ (∃ L, L ≤ 30 ∧ v 8 = nI L) ∧ (¬ v 10 = 0 → ∃ B, B < 20 ∧ v 20 = nI (B + 1)) ∧ (v 10 = 0 ∨ v 10 = 1 ∨ v 10 = 2 ∨ v 10 = 3 ∨ v 10 = 4 ∨ v 10 = 5 ∨ v 10 = 6)
/-- the same reading several times -/
def sTicks (r : Int32) : Nat → m_V → m_R → m_V × m_R
  | 0, v, a => (v, a)
  | n + 1, v, a => (sBringV (sTicks r n v a).1 (sTicks r n v a).2 r, sBringA (sTicks r n v a).1 (sTicks r n v a).2 r)
end MP

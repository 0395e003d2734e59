section MI
/-! ===== the mini machine: objects and arrays have numbers, references are numbers; the kit's rows over it ===== -/
def m_isN : Cond → Bool
  | .fieldLinkNest .. => true
  | .methodLinkNest .. => true
  | .castable .. => true
  | .declares .. => true
  | _ => false
def m_ws : List Cond := lw_tbl.filter goodWord
def m_nw : List Cond := lw_tbl.filter m_isN
theorem m_ws_in {w : Cond} (h : w ∈ lw_tbl) (g : goodWord w = true) : w ∈ m_ws := List.mem_filter.mpr ⟨h, g⟩
theorem m_nw_in {w : Cond} (h : w ∈ lw_tbl) (g : m_isN w = true) : w ∈ m_nw := List.mem_filter.mpr ⟨h, g⟩
theorem m_ws_good {w : Cond} (h : w ∈ m_ws) : goodWord w = true := (List.mem_filter.mp h).2
theorem m_nw_is {w : Cond} (h : w ∈ m_nw) : m_isN w = true := (List.mem_filter.mp h).2
theorem m_isN_on {w : Cond} (h : m_isN w = true) : w.onTables = true := by
  cases w <;> first | rfl | (simp [m_isN] at h; done)
theorem m_Nw_warm {w : Cond} (hN : m_isN w = true) {s U : State} (hW : s.WarmedH U.vm) (h : va_Nw w s) : va_Nw w U := by
  cases w <;> first
    | (simp [m_isN] at hN; done)
    | exact va_Nw.warmF hW h
    | exact va_Nw.warmM hW h
    | exact va_Nw.warmD hW h
    | exact va_tabs rfl (rfl : (s.setVm U.vm).vm = U.vm) (by rw [Cond.castable_setVm hW.alike]; exact h)
theorem m_mat : Cond.initialized "java/lang/Math" ∈ m_ws := m_ws_in m_mat0 rfl
theorem m_max1 : Cond.static Lib.Math.max.name ∈ m_ws := m_ws_in m_max10 rfl
theorem m_max2 : Cond.code Lib.Math.max.name Lib.Math.max.code 2 (some .int) ∈ m_ws := m_ws_in m_max20 rfl
theorem m_min1 : Cond.static Lib.Math.min.name ∈ m_ws := m_ws_in m_min10 rfl
theorem m_min2 : Cond.code Lib.Math.min.name Lib.Math.min.code 2 (some .int) ∈ m_ws := m_ws_in m_min20 rfl
theorem m_obj1 : Cond.instanceMethod Lib.objectInit ∈ m_ws := m_ws_in m_obj10 rfl
theorem m_obj2 : Cond.code Lib.objectInit ⟨#[0xb1]⟩ 1 none ∈ m_ws := m_ws_in m_obj20 rfl
theorem m_cl_ok : ∀ (ci : Nat) (C : String) (T : u_T) (N : Nat), m_cl[ci]? = some (C, T, N) → (∀ w ∈ u_ws C T N, w ∈ m_ws) ∧ ∃ ty0 : Nat → FieldType, (∀ k, k < N → parseFieldDescriptor (T k).2.2.1 = some (ty0 k)) ∧ ∀ a, a < N → ∀ b, b < N → a ≠ b → (T a).2.1 ≠ (T b).2.1 := by
  intro ci C T N h
  match ci, h with
  | 0, h => cases h; exact ⟨fun w hw => m_ws_in (m_inX0 w hw) (m_igX0 w hw), tyX0, tyX0_ok, nmX0⟩
  | 1, h => cases h; exact ⟨fun w hw => m_ws_in (m_inX1 w hw) (m_igX1 w hw), tyX1, tyX1_ok, nmX1⟩
  | 2, h => cases h; exact ⟨fun w hw => m_ws_in (m_inX2 w hw) (m_igX2 w hw), tyX2, tyX2_ok, nmX2⟩
  | 3, h => cases h; exact ⟨fun w hw => m_ws_in (m_inX3 w hw) (m_igX3 w hw), tyX3, tyX3_ok, nmX3⟩
  | 4, h => cases h; exact ⟨fun w hw => m_ws_in (m_inX4 w hw) (m_igX4 w hw), tyX4, tyX4_ok, nmX4⟩
  | 5, h => cases h; exact ⟨fun w hw => m_ws_in (m_inX5 w hw) (m_igX5 w hw), tyX5, tyX5_ok, nmX5⟩
  | k + 6, h => cases h
/-- what a start gives beside the good words: the nest mates' words, the texts, two statics -/
def m_Env (A : Nat → Prop) (sa : Nat → Nat) (U : State) (H : Heap) : Prop :=
  (∀ w ∈ m_nw, va_Nw w U) ∧ (∀ (k : Nat) (q : String × Nat × String), m_str[k]? = some q → vk_R q.1 q.2.1 q.2.2 (sa k) U) ∧ vx_Zq Bundle.tN "UNASSIGNED_STACK" Bundle.steD A U H ∧ vx_Zq Bundle.tN "SUPPRESSED_SENTINEL" Bundle.listD A U H
theorem m_Env_same {A : Nat → Prop} {sa : Nat → Nat} {u U : State} {H : Heap} (h : u.vm = U.vm) (hE : m_Env A sa u H) : m_Env A sa U H :=
  ⟨fun w hw => va_Nw.same (m_isN_on (m_nw_is hw)) h (hE.1 w hw), fun k q hq => vk_R.same h.symm (hE.2.1 k q hq), vx_Zq.moved (by rw [← h]; exact Vm.Alike.refl _) hE.2.2.1, vx_Zq.moved (by rw [← h]; exact Vm.Alike.refl _) hE.2.2.2⟩
/-- the callee's: warmed, another heap, fewer cells that may change -/
theorem m_Env_for {A B : Nat → Prop} {sa : Nat → Nat} {s U : State} {H : Heap} {locs : List Loc} (hE : m_Env A sa s s.heap) (hS : va_S A s.heap H locs) (hW : s.WarmedH U.vm) (hAB : ∀ q, B q → A q) : m_Env B sa U H :=
  ⟨fun w hw => m_Nw_warm (m_nw_is hw) hW (hE.1 w hw), fun k q hq => vk_R.warm hW (hE.2.1 k q hq), (vx_Zq.moved hW.alike (hE.2.2.1.kept hS.2.1)).narrow hAB, (vx_Zq.moved hW.alike (hE.2.2.2.kept hS.2.1)).narrow hAB⟩
abbrev m_E : Type := vp_A ⊕ (Nat × List Value)
abbrev m_H : Type := List m_E
abbrev m_ia (n : Nat) (f : Nat → Int32) : m_E := .inl (n, .inl f)
abbrev m_la (n : Nat) (f : Nat → Int64) : m_E := .inl (n, .inr (.inl f))
abbrev m_ob (ci : Nat) (fs : List Value) : m_E := .inr (ci, fs)
def m_v (ad : Nat → Nat) : Value → Value
  | .ref q => .ref (ad q)
  | v => v
theorem m_v_cat (ad : Nat → Nat) (v : Value) : (m_v ad v).category = v.category := by cases v <;> rfl
theorem m_v_cats (ad : Nat → Nat) (l : List Value) : ((l.map (m_v ad)).map fun v => v.category) = l.map fun v => v.category := by
  rw [List.map_map]; exact List.map_congr_left fun v _ => m_v_cat ad v
def m_kc (cI cL : ClassId) (a : vp_A) : ClassId := match a.2 with
  | .inl _ => cI
  | _ => cL
def m_c (cI cL : ClassId) (ad : Nat → Nat) : m_E → va_E
  | .inl a => .inl (m_kc cI cL a, a)
  | .inr o => .inr (o.1, o.2.map (m_v ad))
def m_w (cI cL : ClassId) (ad : Nat → Nat) (h : m_H) : va_W := h.mapIdx (fun i c => (ad i, m_c cI cL ad c))
theorem m_w_get {cI cL : ClassId} {ad : Nat → Nat} {h : m_H} (i : Nat) : (m_w cI cL ad h)[i]? = (h[i]?).map (fun c => (ad i, m_c cI cL ad c)) := by simp [m_w]
theorem m_w_at {cI cL : ClassId} {ad : Nat → Nat} {h : m_H} {i : Nat} {c : m_E} (hi : h[i]? = some c) : (m_w cI cL ad h)[i]? = some (ad i, m_c cI cL ad c) := by rw [m_w_get, hi]; rfl
theorem m_w_set {cI cL : ClassId} {ad : Nat → Nat} {h : m_H} (i : Nat) (c : m_E) : (m_w cI cL ad h).set i (ad i, m_c cI cL ad c) = m_w cI cL ad (h.set i c) := by
  apply List.ext_getElem?
  intro j
  rw [m_w_get, List.getElem?_set, List.getElem?_set, m_w_get]
  have hlen : (m_w cI cL ad h).length = h.length := by simp [m_w]
  by_cases hij : i = j
  · subst hij
    simp only [if_true, hlen]
    by_cases hl : i < h.length <;> simp [hl]
  · simp only [if_neg hij]
theorem m_w_app {cI cL : ClassId} {ad : Nat → Nat} {h : m_H} (c : m_E) : m_w cI cL ad (h ++ [c]) = m_w cI cL ad h ++ [(ad h.length, m_c cI cL ad c)] := by
  simp [m_w, List.mapIdx_append]
theorem m_w_in {cI cL : ClassId} {ad : Nat → Nat} {h : m_H} {k : Nat} {q : Nat × va_E} (hk : (m_w cI cL ad h)[k]? = some q) : ∃ c, h[k]? = some c ∧ q = (ad k, m_c cI cL ad c) := by
  rw [m_w_get] at hk
  cases hc : h[k]? with
  | none => rw [hc] at hk; cases hk
  | some c => rw [hc] at hk; exact ⟨c, rfl, (Option.some.inj hk).symm⟩
def m_tys (cI _cL : ClassId) : List (ClassId × FieldType) := [(cI, .int)]
/-- references stay below a number -/
def m_rv (n : Nat) : Value → Bool
  | .ref q => decide (q < n)
  | _ => true
def m_rc (n : Nat) : m_E → Bool
  | .inl _ => true
  | .inr o => o.2.all (m_rv n)
def m_rb (n : Nat) (ls : List (Nat × Value)) (st : List Value) : Bool := ls.all (fun q => m_rv n q.2) && st.all (m_rv n)
theorem m_v_same {n : Nat} {ad ad' : Nat → Nat} (hag : ∀ i, i < n → ad' i = ad i) {v : Value} (hv : m_rv n v = true) : m_v ad' v = m_v ad v := by
  cases v <;> first | rfl | (simp only [m_rv, decide_eq_true_eq] at hv; simp only [m_v]; rw [hag _ hv])
theorem m_st_same {n : Nat} {ad ad' : Nat → Nat} (hag : ∀ i, i < n → ad' i = ad i) {st : List Value} (hv : st.all (m_rv n) = true) : st.map (m_v ad') = st.map (m_v ad) :=
  List.map_congr_left fun v h => m_v_same hag (List.all_eq_true.mp hv v h)
theorem m_ls_same {n : Nat} {ad ad' : Nat → Nat} (hag : ∀ i, i < n → ad' i = ad i) {ls : List (Nat × Value)} (hv : ls.all (fun q => m_rv n q.2) = true) : ls.map (fun q => (q.1, m_v ad' q.2)) = ls.map (fun q => (q.1, m_v ad q.2)) :=
  List.map_congr_left fun q h => by rw [m_v_same hag (List.all_eq_true.mp hv q h)]
theorem m_w_same {cI cL : ClassId} {n : Nat} {ad ad' : Nat → Nat} (hag : ∀ i, i < n → ad' i = ad i) {h : m_H} (hn : h.length ≤ n) (hv : h.all (m_rc n) = true) : m_w cI cL ad' h = m_w cI cL ad h := by
  apply List.ext_getElem?
  intro j
  rw [m_w_get, m_w_get]
  cases hc : h[j]? with
  | none => rfl
  | some c =>
    have hj : j < n := Nat.lt_of_lt_of_le (List.getElem?_eq_some_iff.mp hc).1 hn
    have hrc := List.all_eq_true.mp hv c (List.mem_of_getElem? hc)
    simp only [Option.map_some, hag j hj]
    cases c with
    | inl a => rfl
    | inr o =>
      simp only [m_rc] at hrc
      simp only [m_c, m_st_same hag hrc]
def m_get (ls : List (Nat × Value)) (i : Nat) : Option Value := (ls.find? (fun q => q.1 == i)).map Prod.snd
def m_put (ls : List (Nat × Value)) (i : Nat) (v : Value) : List (Nat × Value) := (i, v) :: ls.filter (fun q => !(q.1 == i) && !(q.1 + 1 == i && q.2.category == 2))
def m_put2 (ls : List (Nat × Value)) (i : Nat) (v : Value) : List (Nat × Value) := (i, v) :: ls.filter (fun q => !(q.1 == i) && (!(q.1 == i + 1) && !(q.1 + 1 == i && q.2.category == 2)))
theorem m_get_mem {ls : List (Nat × Value)} {i : Nat} {v : Value} (h : m_get ls i = some v) : (i, v) ∈ ls := by
  unfold m_get at h
  cases hf : ls.find? (fun q => q.1 == i) with
  | none => rw [hf] at h; cases h
  | some q =>
    rw [hf] at h
    have h1 := List.find?_some hf
    have h2 := List.mem_of_find?_eq_some hf
    cases h
    have : q.1 = i := by simpa using h1
    rw [← this]; exact h2
theorem m_get_at {ls : List (Nat × Value)} {i nL : Nat} {v : Value} {ad : Nat → Nat} {lsA : Array Slot} (hL : lv_has lsA nL (ls.map (fun q => (q.1, m_v ad q.2)))) (h : m_get ls i = some v) : lsA[i]? = some (.val (m_v ad v)) :=
  hL.2.2 (i, m_v ad v) (List.mem_map.mpr ⟨(i, v), m_get_mem h, rfl⟩)
theorem m_put_map {ls : List (Nat × Value)} {i : Nat} {v : Value} {ad : Nat → Nat} : (i, m_v ad v) :: (ls.map (fun q => (q.1, m_v ad q.2))).filter (fun q => !(q.1 == i) && !(q.1 + 1 == i && q.2.category == 2)) = (m_put ls i v).map (fun q => (q.1, m_v ad q.2)) := by
  simp only [m_put, List.map_cons, List.filter_map]
  congr 2
  apply List.filter_congr
  intro q _
  simp only [Function.comp, m_v_cat]
theorem m_put2_map {ls : List (Nat × Value)} {i : Nat} {v : Value} {ad : Nat → Nat} : (i, m_v ad v) :: (ls.map (fun q => (q.1, m_v ad q.2))).filter (fun q => !(q.1 == i) && (!(q.1 == i + 1) && !(q.1 + 1 == i && q.2.category == 2))) = (m_put2 ls i v).map (fun q => (q.1, m_v ad q.2)) := by
  simp only [m_put2, List.map_cons, List.filter_map]
  congr 2
  apply List.filter_congr
  intro q _
  simp only [Function.comp, m_v_cat]
theorem m_lsl (ad : Nat → Nat) (vs : List Value) : (lg_sl (vs.map (m_v ad))).length = (lg_sl vs).length := by
  induction vs with
  | nil => rfl
  | cons v t ih =>
    simp only [lg_sl, List.map_cons, List.flatMap_cons, List.length_append] at ih ⊢
    rw [ih, m_v_cat]
    by_cases hc : v.category = 2 <;> simp [hc]
theorem m_largs (ad : Nat → Nat) (vs : List Value) : ∀ i, lv_args i (vs.map (m_v ad)) = (lv_args i vs).map (fun q => (q.1, m_v ad q.2)) := by
  induction vs with
  | nil => intro i; rfl
  | cons v t ih =>
    intro i
    simp only [List.map_cons, lv_args, m_v_cat, ih]
/-- a method's standing facts -/
def m_At (D : va_G) (cI cL : ClassId) (sa : Nat → Nat) (y : MethodName) (cc : ByteArray) (nL : Nat) (ret : Option FieldType) (A : Nat → Prop) (TB : List ExceptionTableEntry) (p : Program) (l : Launch) (s : State) (m : MethodId) (args : Array Value) (meth : Method) (c : Code) : Prop :=
  p.tables.exec = Jvm.exec ∧ c.code = cc ∧ c.maxLocals = nL ∧ meth.sig.returnType = ret ∧ meth.locks = false ∧ meth.name = y.name ∧ s.vm.findClass y.cls = some m.cls ∧ (∀ w ∈ m_ws, w.before args s = true) ∧ va_K D m_cl (m_tys cI cL) s ∧ m_Env A sa s s.heap ∧ (∀ q, s.heap.size ≤ q → A q) ∧ l.stackTraces = false ∧ c.exceptionTable.toList = TB
/-- from this point, with this mini heap, the goal is reached -/
def m_Go (D : va_G) (cI cL : ClassId) (ad0 : Nat → Nat) (n0 nL : Nat) (A : Nat → Prop) (p : Program) (l : Launch) (e : Env) (R : Room) (s : State) (m : MethodId) (args : Array Value) (below : List Frame) (meth : Method) (c : Code) (Q : State → Prop) (pc : Nat) (ls : List (Nat × Value)) (st : List Value) (h : m_H) (cu su : Nat) : Prop :=
  ∀ (ad : Nat → Nat) (H : Heap) (locs : List Loc) (lsA : Array Slot), n0 ≤ h.length → (∀ i, (i < n0 ∨ h.length ≤ i) → ad i = ad0 i) → va_P D m_cl (m_w cI cL ad h) H → va_D A (m_w cI cL ad h) → va_S A s.heap H locs → lv_has lsA nL (ls.map (fun q => (q.1, m_v ad q.2))) →
    W p l e R s m args below meth c H locs cu su Q (F0 m pc lsA (st.map (m_v ad)))
variable {D : va_G} {cI cL : ClassId} {sa : Nat → Nat} {y : MethodName} {cc : ByteArray} {nL : Nat} {ret : Option FieldType} {A : Nat → Prop} {TB : List ExceptionTableEntry} {p : Program} {l : Launch} {e : Env} {R : Room} {s : State} {m : MethodId} {args : Array Value} {below : List Frame} {meth : Method} {c : Code} {Q : State → Prop} {ad0 : Nat → Nat} {n0 pc pc0 : Nat} {ls : List (Nat × Value)} {st : List Value} {h : m_H} {cu su : Nat}
theorem m_ex (X : m_At D cI cL sa y cc nL ret A TB p l s m args meth c) : p.tables.exec = Jvm.exec := X.1
theorem m_cb (X : m_At D cI cL sa y cc nL ret A TB p l s m args meth c) : c.code = cc := X.2.1
theorem m_ml (X : m_At D cI cL sa y cc nL ret A TB p l s m args meth c) : c.maxLocals = nL := X.2.2.1
theorem m_rt (X : m_At D cI cL sa y cc nL ret A TB p l s m args meth c) : meth.sig.returnType = ret := X.2.2.2.1
theorem m_lk (X : m_At D cI cL sa y cc nL ret A TB p l s m args meth c) : meth.locks = false := X.2.2.2.2.1
theorem m_nm (X : m_At D cI cL sa y cc nL ret A TB p l s m args meth c) : meth.name = y.name := X.2.2.2.2.2.1
theorem m_ow (X : m_At D cI cL sa y cc nL ret A TB p l s m args meth c) : s.vm.findClass y.cls = some m.cls := X.2.2.2.2.2.2.1
theorem m_wd (X : m_At D cI cL sa y cc nL ret A TB p l s m args meth c) : ∀ w ∈ m_ws, w.before args s = true := X.2.2.2.2.2.2.2.1
theorem m_kn (X : m_At D cI cL sa y cc nL ret A TB p l s m args meth c) : va_K D m_cl (m_tys cI cL) s := X.2.2.2.2.2.2.2.2.1
theorem m_ev (X : m_At D cI cL sa y cc nL ret A TB p l s m args meth c) : m_Env A sa s s.heap := X.2.2.2.2.2.2.2.2.2.1
theorem m_up (X : m_At D cI cL sa y cc nL ret A TB p l s m args meth c) : ∀ q, s.heap.size ≤ q → A q := X.2.2.2.2.2.2.2.2.2.2.1
theorem m_nt (X : m_At D cI cL sa y cc nL ret A TB p l s m args meth c) : l.stackTraces = false := X.2.2.2.2.2.2.2.2.2.2.2.1
theorem m_tb (X : m_At D cI cL sa y cc nL ret A TB p l s m args meth c) : c.exceptionTable.toList = TB := X.2.2.2.2.2.2.2.2.2.2.2.2
theorem m_iload {i : Nat} {x : Int32} (X : m_At D cI cL sa y cc nL ret A TB p l s m args meth c) (hd : decode cc pc0 = .ok (.iload i, 2)) (hl : m_get ls i = some (.int x)) (hp : pc = pc0) (kk : m_Go D cI cL ad0 n0 nL A p l e R s m args below meth c Q (pc0 + 2) ls (.int x :: st) h cu su) : m_Go D cI cL ad0 n0 nL A p l e R s m args below meth c Q pc ls (st) h cu su := by
  subst hp
  intro ad H locs lsA hn hag hP hD hS hL
  exact lv_iload (m_ex X) (m_cb X) hd (m_get_at hL hl) (kk ad H locs lsA hn hag hP hD hS hL)
theorem m_iload_n {k : Fin 4} {x : Int32} (X : m_At D cI cL sa y cc nL ret A TB p l s m args meth c) (hd : decode cc pc0 = .ok (.iload_n k, 1)) (hl : m_get ls (k : Nat) = some (.int x)) (hp : pc = pc0) (kk : m_Go D cI cL ad0 n0 nL A p l e R s m args below meth c Q (pc0 + 1) ls (.int x :: st) h cu su) : m_Go D cI cL ad0 n0 nL A p l e R s m args below meth c Q pc ls (st) h cu su := by
  subst hp
  intro ad H locs lsA hn hag hP hD hS hL
  exact lv_iload_n (m_ex X) (m_cb X) hd rfl (m_get_at hL hl) (kk ad H locs lsA hn hag hP hD hS hL)
theorem m_lload {i : Nat} {x : Int64} (X : m_At D cI cL sa y cc nL ret A TB p l s m args meth c) (hd : decode cc pc0 = .ok (.lload i, 2)) (hl : m_get ls i = some (.long x)) (hp : pc = pc0) (kk : m_Go D cI cL ad0 n0 nL A p l e R s m args below meth c Q (pc0 + 2) ls (.long x :: st) h cu su) : m_Go D cI cL ad0 n0 nL A p l e R s m args below meth c Q pc ls (st) h cu su := by
  subst hp
  intro ad H locs lsA hn hag hP hD hS hL
  exact lv_lload (m_ex X) (m_cb X) hd (m_get_at hL hl) (kk ad H locs lsA hn hag hP hD hS hL)
theorem m_lload_n {k : Fin 4} {x : Int64} (X : m_At D cI cL sa y cc nL ret A TB p l s m args meth c) (hd : decode cc pc0 = .ok (.lload_n k, 1)) (hl : m_get ls (k : Nat) = some (.long x)) (hp : pc = pc0) (kk : m_Go D cI cL ad0 n0 nL A p l e R s m args below meth c Q (pc0 + 1) ls (.long x :: st) h cu su) : m_Go D cI cL ad0 n0 nL A p l e R s m args below meth c Q pc ls (st) h cu su := by
  subst hp
  intro ad H locs lsA hn hag hP hD hS hL
  exact lv_lload_n (m_ex X) (m_cb X) hd rfl (m_get_at hL hl) (kk ad H locs lsA hn hag hP hD hS hL)
theorem m_aload {i x : Nat} (X : m_At D cI cL sa y cc nL ret A TB p l s m args meth c) (hd : decode cc pc0 = .ok (.aload i, 2)) (hl : m_get ls i = some (.ref x)) (hp : pc = pc0) (kk : m_Go D cI cL ad0 n0 nL A p l e R s m args below meth c Q (pc0 + 2) ls (.ref x :: st) h cu su) : m_Go D cI cL ad0 n0 nL A p l e R s m args below meth c Q pc ls (st) h cu su := by
  subst hp
  intro ad H locs lsA hn hag hP hD hS hL
  exact lv_aload (m_ex X) (m_cb X) hd (m_get_at hL hl) (kk ad H locs lsA hn hag hP hD hS hL)
theorem m_aload_n {k : Fin 4} {x : Nat} (X : m_At D cI cL sa y cc nL ret A TB p l s m args meth c) (hd : decode cc pc0 = .ok (.aload_n k, 1)) (hl : m_get ls (k : Nat) = some (.ref x)) (hp : pc = pc0) (kk : m_Go D cI cL ad0 n0 nL A p l e R s m args below meth c Q (pc0 + 1) ls (.ref x :: st) h cu su) : m_Go D cI cL ad0 n0 nL A p l e R s m args below meth c Q pc ls (st) h cu su := by
  subst hp
  intro ad H locs lsA hn hag hP hD hS hL
  exact lv_aload_n (m_ex X) (m_cb X) hd rfl (m_get_at hL hl) (kk ad H locs lsA hn hag hP hD hS hL)
theorem m_iconst {n : Int} {v : Int32} (X : m_At D cI cL sa y cc nL ret A TB p l s m args meth c) (hd : decode cc pc0 = .ok (.iconst n, 1)) (hv : Int32.ofInt n = v) (hp : pc = pc0) (kk : m_Go D cI cL ad0 n0 nL A p l e R s m args below meth c Q (pc0 + 1) ls (.int v :: st) h cu su) : m_Go D cI cL ad0 n0 nL A p l e R s m args below meth c Q pc ls (st) h cu su := by
  subst hp
  intro ad H locs lsA hn hag hP hD hS hL
  exact lv_iconst (m_ex X) (m_cb X) hd hv (kk ad H locs lsA hn hag hP hD hS hL)
theorem m_bipush {n : Int} {v : Int32} (X : m_At D cI cL sa y cc nL ret A TB p l s m args meth c) (hd : decode cc pc0 = .ok (.bipush n, 2)) (hv : (Int8.ofInt n).toInt32 = v) (hp : pc = pc0) (kk : m_Go D cI cL ad0 n0 nL A p l e R s m args below meth c Q (pc0 + 2) ls (.int v :: st) h cu su) : m_Go D cI cL ad0 n0 nL A p l e R s m args below meth c Q pc ls (st) h cu su := by
  subst hp
  intro ad H locs lsA hn hag hP hD hS hL
  exact lv_bipush (m_ex X) (m_cb X) hd hv (kk ad H locs lsA hn hag hP hD hS hL)
theorem m_sipush {n : Int} {v : Int32} (X : m_At D cI cL sa y cc nL ret A TB p l s m args meth c) (hd : decode cc pc0 = .ok (.sipush n, 3)) (hv : (Int16.ofInt n).toInt32 = v) (hp : pc = pc0) (kk : m_Go D cI cL ad0 n0 nL A p l e R s m args below meth c Q (pc0 + 3) ls (.int v :: st) h cu su) : m_Go D cI cL ad0 n0 nL A p l e R s m args below meth c Q pc ls (st) h cu su := by
  subst hp
  intro ad H locs lsA hn hag hP hD hS hL
  exact lv_sipush (m_ex X) (m_cb X) hd hv (kk ad H locs lsA hn hag hP hD hS hL)
theorem m_lconst {n : Fin 2} {v : Int64} (X : m_At D cI cL sa y cc nL ret A TB p l s m args meth c) (hd : decode cc pc0 = .ok (.lconst n, 1)) (hv : Int64.ofNat (n : Nat) = v) (hp : pc = pc0) (kk : m_Go D cI cL ad0 n0 nL A p l e R s m args below meth c Q (pc0 + 1) ls (.long v :: st) h cu su) : m_Go D cI cL ad0 n0 nL A p l e R s m args below meth c Q pc ls (st) h cu su := by
  subst hp
  intro ad H locs lsA hn hag hP hD hS hL
  exact lv_lconst (m_ex X) (m_cb X) hd hv (kk ad H locs lsA hn hag hP hD hS hL)
theorem m_ldc {k : Nat} {v : Int32} (X : m_At D cI cL sa y cc nL ret A TB p l s m args meth c) (hd : decode cc pc0 = .ok (.ldc k, 2)) (hw : Cond.constant y.cls k v ∈ m_ws) (hp : pc = pc0) (kk : m_Go D cI cL ad0 n0 nL A p l e R s m args below meth c Q (pc0 + 2) ls (.int v :: st) h cu su) : m_Go D cI cL ad0 n0 nL A p l e R s m args below meth c Q pc ls st h cu su := by
  subst hp
  intro ad H locs lsA hn hag hP hD hS hL
  exact lv_ldc (m_ex X) (m_cb X) (m_ow X) (m_wd X _ hw) hd (kk ad H locs lsA hn hag hP hD hS hL)
theorem m_ldc2 {k : Nat} {v : Int64} (X : m_At D cI cL sa y cc nL ret A TB p l s m args meth c) (hd : decode cc pc0 = .ok (.ldc2_w k, 3)) (hw : Cond.constantLong y.cls k v ∈ m_ws) (hp : pc = pc0) (kk : m_Go D cI cL ad0 n0 nL A p l e R s m args below meth c Q (pc0 + 3) ls (.long v :: st) h cu su) : m_Go D cI cL ad0 n0 nL A p l e R s m args below meth c Q pc ls st h cu su := by
  subst hp
  intro ad H locs lsA hn hag hP hD hS hL
  exact lv_ldc2 (m_ex X) (m_cb X) (m_ow X) (m_wd X _ hw) hd (kk ad H locs lsA hn hag hP hD hS hL)
theorem m_iadd {x z : Int32} (X : m_At D cI cL sa y cc nL ret A TB p l s m args meth c) (hd : decode cc pc0 = .ok (.iadd, 1))  (hp : pc = pc0) (kk : m_Go D cI cL ad0 n0 nL A p l e R s m args below meth c Q (pc0 + 1) ls (.int (x + z) :: st) h cu su) : m_Go D cI cL ad0 n0 nL A p l e R s m args below meth c Q pc ls (.int z :: .int x :: st) h cu su := by
  subst hp
  intro ad H locs lsA hn hag hP hD hS hL
  exact lv_iadd (m_ex X) (m_cb X) hd  (kk ad H locs lsA hn hag hP hD hS hL)
theorem m_isub {x z : Int32} (X : m_At D cI cL sa y cc nL ret A TB p l s m args meth c) (hd : decode cc pc0 = .ok (.isub, 1))  (hp : pc = pc0) (kk : m_Go D cI cL ad0 n0 nL A p l e R s m args below meth c Q (pc0 + 1) ls (.int (x - z) :: st) h cu su) : m_Go D cI cL ad0 n0 nL A p l e R s m args below meth c Q pc ls (.int z :: .int x :: st) h cu su := by
  subst hp
  intro ad H locs lsA hn hag hP hD hS hL
  exact lv_isub (m_ex X) (m_cb X) hd  (kk ad H locs lsA hn hag hP hD hS hL)
theorem m_imul {x z : Int32} (X : m_At D cI cL sa y cc nL ret A TB p l s m args meth c) (hd : decode cc pc0 = .ok (.imul, 1))  (hp : pc = pc0) (kk : m_Go D cI cL ad0 n0 nL A p l e R s m args below meth c Q (pc0 + 1) ls (.int (x * z) :: st) h cu su) : m_Go D cI cL ad0 n0 nL A p l e R s m args below meth c Q pc ls (.int z :: .int x :: st) h cu su := by
  subst hp
  intro ad H locs lsA hn hag hP hD hS hL
  exact lv_imul (m_ex X) (m_cb X) hd  (kk ad H locs lsA hn hag hP hD hS hL)
theorem m_iand {x z : Int32} (X : m_At D cI cL sa y cc nL ret A TB p l s m args meth c) (hd : decode cc pc0 = .ok (.iand, 1))  (hp : pc = pc0) (kk : m_Go D cI cL ad0 n0 nL A p l e R s m args below meth c Q (pc0 + 1) ls (.int (x &&& z) :: st) h cu su) : m_Go D cI cL ad0 n0 nL A p l e R s m args below meth c Q pc ls (.int z :: .int x :: st) h cu su := by
  subst hp
  intro ad H locs lsA hn hag hP hD hS hL
  exact lv_iand (m_ex X) (m_cb X) hd  (kk ad H locs lsA hn hag hP hD hS hL)
theorem m_ixor {x z : Int32} (X : m_At D cI cL sa y cc nL ret A TB p l s m args meth c) (hd : decode cc pc0 = .ok (.ixor, 1))  (hp : pc = pc0) (kk : m_Go D cI cL ad0 n0 nL A p l e R s m args below meth c Q (pc0 + 1) ls (.int (x ^^^ z) :: st) h cu su) : m_Go D cI cL ad0 n0 nL A p l e R s m args below meth c Q pc ls (.int z :: .int x :: st) h cu su := by
  subst hp
  intro ad H locs lsA hn hag hP hD hS hL
  exact lv_ixor (m_ex X) (m_cb X) hd  (kk ad H locs lsA hn hag hP hD hS hL)
theorem m_idiv {x z : Int32} (X : m_At D cI cL sa y cc nL ret A TB p l s m args meth c) (hd : decode cc pc0 = .ok (.idiv, 1)) (hz : ¬ z = 0) (hp : pc = pc0) (kk : m_Go D cI cL ad0 n0 nL A p l e R s m args below meth c Q (pc0 + 1) ls (.int (x / z) :: st) h cu su) : m_Go D cI cL ad0 n0 nL A p l e R s m args below meth c Q pc ls (.int z :: .int x :: st) h cu su := by
  subst hp
  intro ad H locs lsA hn hag hP hD hS hL
  exact lv_idiv (m_ex X) (m_cb X) hd hz (kk ad H locs lsA hn hag hP hD hS hL)
theorem m_irem {x z : Int32} (X : m_At D cI cL sa y cc nL ret A TB p l s m args meth c) (hd : decode cc pc0 = .ok (.irem, 1)) (hz : ¬ z = 0) (hp : pc = pc0) (kk : m_Go D cI cL ad0 n0 nL A p l e R s m args below meth c Q (pc0 + 1) ls (.int (x - x / z * z) :: st) h cu su) : m_Go D cI cL ad0 n0 nL A p l e R s m args below meth c Q pc ls (.int z :: .int x :: st) h cu su := by
  subst hp
  intro ad H locs lsA hn hag hP hD hS hL
  exact lv_irem (m_ex X) (m_cb X) hd hz (kk ad H locs lsA hn hag hP hD hS hL)
theorem m_ineg {x : Int32} (X : m_At D cI cL sa y cc nL ret A TB p l s m args meth c) (hd : decode cc pc0 = .ok (.ineg, 1))  (hp : pc = pc0) (kk : m_Go D cI cL ad0 n0 nL A p l e R s m args below meth c Q (pc0 + 1) ls (.int (-x) :: st) h cu su) : m_Go D cI cL ad0 n0 nL A p l e R s m args below meth c Q pc ls (.int x :: st) h cu su := by
  subst hp
  intro ad H locs lsA hn hag hP hD hS hL
  exact lv_ineg (m_ex X) (m_cb X) hd  (kk ad H locs lsA hn hag hP hD hS hL)
theorem m_ladd {x z : Int64} (X : m_At D cI cL sa y cc nL ret A TB p l s m args meth c) (hd : decode cc pc0 = .ok (.ladd, 1))  (hp : pc = pc0) (kk : m_Go D cI cL ad0 n0 nL A p l e R s m args below meth c Q (pc0 + 1) ls (.long (x + z) :: st) h cu su) : m_Go D cI cL ad0 n0 nL A p l e R s m args below meth c Q pc ls (.long z :: .long x :: st) h cu su := by
  subst hp
  intro ad H locs lsA hn hag hP hD hS hL
  exact lv_ladd (m_ex X) (m_cb X) hd  (kk ad H locs lsA hn hag hP hD hS hL)
theorem m_lmul {x z : Int64} (X : m_At D cI cL sa y cc nL ret A TB p l s m args meth c) (hd : decode cc pc0 = .ok (.lmul, 1))  (hp : pc = pc0) (kk : m_Go D cI cL ad0 n0 nL A p l e R s m args below meth c Q (pc0 + 1) ls (.long (x * z) :: st) h cu su) : m_Go D cI cL ad0 n0 nL A p l e R s m args below meth c Q pc ls (.long z :: .long x :: st) h cu su := by
  subst hp
  intro ad H locs lsA hn hag hP hD hS hL
  exact lv_lmul (m_ex X) (m_cb X) hd  (kk ad H locs lsA hn hag hP hD hS hL)
theorem m_ldiv {x z : Int64} (X : m_At D cI cL sa y cc nL ret A TB p l s m args meth c) (hd : decode cc pc0 = .ok (.ldiv, 1)) (hz : ¬ z = 0) (hp : pc = pc0) (kk : m_Go D cI cL ad0 n0 nL A p l e R s m args below meth c Q (pc0 + 1) ls (.long (x / z) :: st) h cu su) : m_Go D cI cL ad0 n0 nL A p l e R s m args below meth c Q pc ls (.long z :: .long x :: st) h cu su := by
  subst hp
  intro ad H locs lsA hn hag hP hD hS hL
  exact lv_ldiv (m_ex X) (m_cb X) hd hz (kk ad H locs lsA hn hag hP hD hS hL)
theorem m_i2l {x : Int32} (X : m_At D cI cL sa y cc nL ret A TB p l s m args meth c) (hd : decode cc pc0 = .ok (.i2l, 1))  (hp : pc = pc0) (kk : m_Go D cI cL ad0 n0 nL A p l e R s m args below meth c Q (pc0 + 1) ls (.long x.toInt64 :: st) h cu su) : m_Go D cI cL ad0 n0 nL A p l e R s m args below meth c Q pc ls (.int x :: st) h cu su := by
  subst hp
  intro ad H locs lsA hn hag hP hD hS hL
  exact lv_i2l (m_ex X) (m_cb X) hd rfl (kk ad H locs lsA hn hag hP hD hS hL)
theorem m_lcmp {x z : Int64} (X : m_At D cI cL sa y cc nL ret A TB p l s m args meth c) (hd : decode cc pc0 = .ok (.lcmp, 1)) (hp : pc = pc0) (kk : m_Go D cI cL ad0 n0 nL A p l e R s m args below meth c Q (pc0 + 1) ls (.int (lg_cmp x z) :: st) h cu su) : m_Go D cI cL ad0 n0 nL A p l e R s m args below meth c Q pc ls (.long z :: .long x :: st) h cu su := by
  subst hp
  intro ad H locs lsA hn hag hP hD hS hL
  exact W.lcmp (m_ex X) (m_cb X) hd (kk ad H locs lsA hn hag hP hD hS hL)
theorem m_dup {v : Value} (X : m_At D cI cL sa y cc nL ret A TB p l s m args meth c) (hd : decode cc pc0 = .ok (.dup, 1)) (hv : v.category = 1) (hp : pc = pc0) (kk : m_Go D cI cL ad0 n0 nL A p l e R s m args below meth c Q (pc0 + 1) ls (v :: v :: st) h cu su) : m_Go D cI cL ad0 n0 nL A p l e R s m args below meth c Q pc ls (v :: st) h cu su := by
  subst hp
  intro ad H locs lsA hn hag hP hD hS hL
  exact lv_dup (m_ex X) (m_cb X) hd ((m_v_cat ad v).trans hv) (kk ad H locs lsA hn hag hP hD hS hL)
theorem m_pop {v : Value} (X : m_At D cI cL sa y cc nL ret A TB p l s m args meth c) (hd : decode cc pc0 = .ok (.pop, 1)) (hv : v.category = 1) (hp : pc = pc0) (kk : m_Go D cI cL ad0 n0 nL A p l e R s m args below meth c Q (pc0 + 1) ls (st) h cu su) : m_Go D cI cL ad0 n0 nL A p l e R s m args below meth c Q pc ls (v :: st) h cu su := by
  subst hp
  intro ad H locs lsA hn hag hP hD hS hL
  exact lv_pop (m_ex X) (m_cb X) hd ((m_v_cat ad v).trans hv) (kk ad H locs lsA hn hag hP hD hS hL)
theorem m_dup2 {v u : Value} (X : m_At D cI cL sa y cc nL ret A TB p l s m args meth c) (hd : decode cc pc0 = .ok (.dup2, 1)) (hv : v.category = 1) (hu : u.category = 1) (hp : pc = pc0) (kk : m_Go D cI cL ad0 n0 nL A p l e R s m args below meth c Q (pc0 + 1) ls (v :: u :: v :: u :: st) h cu su) : m_Go D cI cL ad0 n0 nL A p l e R s m args below meth c Q pc ls (v :: u :: st) h cu su := by
  subst hp
  intro ad H locs lsA hn hag hP hD hS hL
  exact lv_dup2_11 (m_ex X) (m_cb X) hd ((m_v_cat ad v).trans hv) ((m_v_cat ad u).trans hu) (kk ad H locs lsA hn hag hP hD hS hL)
theorem m_istore {i : Nat} {x : Int32} (X : m_At D cI cL sa y cc nL ret A TB p l s m args meth c) (hd : decode cc pc0 = .ok (.istore i, 2)) (hi : i < nL) (hp : pc = pc0) (kk : m_Go D cI cL ad0 n0 nL A p l e R s m args below meth c Q (pc0 + 2) (m_put ls i (.int x)) st h cu su) : m_Go D cI cL ad0 n0 nL A p l e R s m args below meth c Q pc ls (.int x :: st) h cu su := by
  subst hp
  intro ad H locs lsA hn hag hP hD hS hL
  exact lv_istore (m_ex X) (m_cb X) hd  hL hi (m_put_map (v := .int x)) (fun ls' hL' => kk ad H locs ls' hn hag hP hD hS hL')
theorem m_istore_n {k : Fin 4} {x : Int32} (X : m_At D cI cL sa y cc nL ret A TB p l s m args meth c) (hd : decode cc pc0 = .ok (.istore_n k, 1)) (hi : (k : Nat) < nL) (hp : pc = pc0) (kk : m_Go D cI cL ad0 n0 nL A p l e R s m args below meth c Q (pc0 + 1) (m_put ls (k : Nat) (.int x)) st h cu su) : m_Go D cI cL ad0 n0 nL A p l e R s m args below meth c Q pc ls (.int x :: st) h cu su := by
  subst hp
  intro ad H locs lsA hn hag hP hD hS hL
  exact lv_istore_n (m_ex X) (m_cb X) hd rfl hL hi (m_put_map (v := .int x)) (fun ls' hL' => kk ad H locs ls' hn hag hP hD hS hL')
theorem m_lstore {i : Nat} {x : Int64} (X : m_At D cI cL sa y cc nL ret A TB p l s m args meth c) (hd : decode cc pc0 = .ok (.lstore i, 2)) (hi : i + 1 < nL) (hp : pc = pc0) (kk : m_Go D cI cL ad0 n0 nL A p l e R s m args below meth c Q (pc0 + 2) (m_put2 ls i (.long x)) st h cu su) : m_Go D cI cL ad0 n0 nL A p l e R s m args below meth c Q pc ls (.long x :: st) h cu su := by
  subst hp
  intro ad H locs lsA hn hag hP hD hS hL
  exact lv_lstore (m_ex X) (m_cb X) hd  hL hi (m_put2_map (v := .long x)) (fun ls' hL' => kk ad H locs ls' hn hag hP hD hS hL')
theorem m_lstore_n {k : Fin 4} {x : Int64} (X : m_At D cI cL sa y cc nL ret A TB p l s m args meth c) (hd : decode cc pc0 = .ok (.lstore_n k, 1)) (hi : (k : Nat) + 1 < nL) (hp : pc = pc0) (kk : m_Go D cI cL ad0 n0 nL A p l e R s m args below meth c Q (pc0 + 1) (m_put2 ls (k : Nat) (.long x)) st h cu su) : m_Go D cI cL ad0 n0 nL A p l e R s m args below meth c Q pc ls (.long x :: st) h cu su := by
  subst hp
  intro ad H locs lsA hn hag hP hD hS hL
  exact lv_lstore_n (m_ex X) (m_cb X) hd rfl hL hi (m_put2_map (v := .long x)) (fun ls' hL' => kk ad H locs ls' hn hag hP hD hS hL')
theorem m_astore {i x : Nat} (X : m_At D cI cL sa y cc nL ret A TB p l s m args meth c) (hd : decode cc pc0 = .ok (.astore i, 2)) (hi : i < nL) (hp : pc = pc0) (kk : m_Go D cI cL ad0 n0 nL A p l e R s m args below meth c Q (pc0 + 2) (m_put ls i (.ref x)) st h cu su) : m_Go D cI cL ad0 n0 nL A p l e R s m args below meth c Q pc ls (.ref x :: st) h cu su := by
  subst hp
  intro ad H locs lsA hn hag hP hD hS hL
  exact lv_astore (m_ex X) (m_cb X) hd  hL hi (m_put_map (v := .ref x)) (fun ls' hL' => kk ad H locs ls' hn hag hP hD hS hL')
theorem m_astore_n {k : Fin 4} {x : Nat} (X : m_At D cI cL sa y cc nL ret A TB p l s m args meth c) (hd : decode cc pc0 = .ok (.astore_n k, 1)) (hi : (k : Nat) < nL) (hp : pc = pc0) (kk : m_Go D cI cL ad0 n0 nL A p l e R s m args below meth c Q (pc0 + 1) (m_put ls (k : Nat) (.ref x)) st h cu su) : m_Go D cI cL ad0 n0 nL A p l e R s m args below meth c Q pc ls (.ref x :: st) h cu su := by
  subst hp
  intro ad H locs lsA hn hag hP hD hS hL
  exact lv_astore_n (m_ex X) (m_cb X) hd rfl hL hi (m_put_map (v := .ref x)) (fun ls' hL' => kk ad H locs ls' hn hag hP hD hS hL')
theorem m_iinc {i : Nat} {n : Int} {x : Int32} (X : m_At D cI cL sa y cc nL ret A TB p l s m args meth c) (hd : decode cc pc0 = .ok (.iinc i n, 3)) (hl : m_get ls i = some (.int x)) (hi : i < nL) (hp : pc = pc0) (kk : m_Go D cI cL ad0 n0 nL A p l e R s m args below meth c Q (pc0 + 3) (m_put ls i (.int (x + Int32.ofInt n))) st h cu su) : m_Go D cI cL ad0 n0 nL A p l e R s m args below meth c Q pc ls st h cu su := by
  subst hp
  intro ad H locs lsA hn hag hP hD hS hL
  have hm : (i, m_v ad (.int x)) ∈ ls.map (fun q => (q.1, m_v ad q.2)) := List.mem_map.mpr ⟨(i, .int x), m_get_mem hl, rfl⟩
  obtain ⟨k, hk⟩ := List.mem_iff_getElem?.mp hm
  exact lv_iinc (m_ex X) (m_cb X) hd hL (k := k) hk rfl hi (m_put_map (v := .int (x + Int32.ofInt n))) (fun ls' hL' => kk ad H locs ls' hn hag hP hD hS hL')
theorem m_if_eq {x : Int32} {off : Int} {tgt : Nat} (X : m_At D cI cL sa y cc nL ret A TB p l s m args meth c) (hd : decode cc pc0 = .ok (.ifCond .eq off, 3)) (ht : (pc0 : Int) + off = (tgt : Int)) (hp : pc = pc0) (kt : x = 0 → m_Go D cI cL ad0 n0 nL A p l e R s m args below meth c Q tgt ls st h cu su) (kf : ¬ x = 0 → m_Go D cI cL ad0 n0 nL A p l e R s m args below meth c Q (pc0 + 3) ls st h cu su) : m_Go D cI cL ad0 n0 nL A p l e R s m args below meth c Q pc ls (.int x :: st) h cu su := by
  subst hp
  intro ad H locs lsA hn hag hP hD hS hL
  exact lv_if_eq (m_ex X) (m_cb X) hd ht (fun q => kt q ad H locs lsA hn hag hP hD hS hL) (fun q => kf q ad H locs lsA hn hag hP hD hS hL)
theorem m_icmp_eq {x z : Int32} {off : Int} {tgt : Nat} (X : m_At D cI cL sa y cc nL ret A TB p l s m args meth c) (hd : decode cc pc0 = .ok (.if_icmp .eq off, 3)) (ht : (pc0 : Int) + off = (tgt : Int)) (hp : pc = pc0) (kt : x = z → m_Go D cI cL ad0 n0 nL A p l e R s m args below meth c Q tgt ls st h cu su) (kf : ¬ x = z → m_Go D cI cL ad0 n0 nL A p l e R s m args below meth c Q (pc0 + 3) ls st h cu su) : m_Go D cI cL ad0 n0 nL A p l e R s m args below meth c Q pc ls (.int z :: .int x :: st) h cu su := by
  subst hp
  intro ad H locs lsA hn hag hP hD hS hL
  exact lv_icmp_eq (m_ex X) (m_cb X) hd ht (fun q => kt q ad H locs lsA hn hag hP hD hS hL) (fun q => kf q ad H locs lsA hn hag hP hD hS hL)
theorem m_if_ne {x : Int32} {off : Int} {tgt : Nat} (X : m_At D cI cL sa y cc nL ret A TB p l s m args meth c) (hd : decode cc pc0 = .ok (.ifCond .ne off, 3)) (ht : (pc0 : Int) + off = (tgt : Int)) (hp : pc = pc0) (kt : ¬ x = 0 → m_Go D cI cL ad0 n0 nL A p l e R s m args below meth c Q tgt ls st h cu su) (kf : x = 0 → m_Go D cI cL ad0 n0 nL A p l e R s m args below meth c Q (pc0 + 3) ls st h cu su) : m_Go D cI cL ad0 n0 nL A p l e R s m args below meth c Q pc ls (.int x :: st) h cu su := by
  subst hp
  intro ad H locs lsA hn hag hP hD hS hL
  exact lv_if_ne (m_ex X) (m_cb X) hd ht (fun q => kt q ad H locs lsA hn hag hP hD hS hL) (fun q => kf q ad H locs lsA hn hag hP hD hS hL)
theorem m_icmp_ne {x z : Int32} {off : Int} {tgt : Nat} (X : m_At D cI cL sa y cc nL ret A TB p l s m args meth c) (hd : decode cc pc0 = .ok (.if_icmp .ne off, 3)) (ht : (pc0 : Int) + off = (tgt : Int)) (hp : pc = pc0) (kt : ¬ x = z → m_Go D cI cL ad0 n0 nL A p l e R s m args below meth c Q tgt ls st h cu su) (kf : x = z → m_Go D cI cL ad0 n0 nL A p l e R s m args below meth c Q (pc0 + 3) ls st h cu su) : m_Go D cI cL ad0 n0 nL A p l e R s m args below meth c Q pc ls (.int z :: .int x :: st) h cu su := by
  subst hp
  intro ad H locs lsA hn hag hP hD hS hL
  exact lv_icmp_ne (m_ex X) (m_cb X) hd ht (fun q => kt q ad H locs lsA hn hag hP hD hS hL) (fun q => kf q ad H locs lsA hn hag hP hD hS hL)
theorem m_if_lt {x : Int32} {off : Int} {tgt : Nat} (X : m_At D cI cL sa y cc nL ret A TB p l s m args meth c) (hd : decode cc pc0 = .ok (.ifCond .lt off, 3)) (ht : (pc0 : Int) + off = (tgt : Int)) (hp : pc = pc0) (kt : x < 0 → m_Go D cI cL ad0 n0 nL A p l e R s m args below meth c Q tgt ls st h cu su) (kf : ¬ x < 0 → m_Go D cI cL ad0 n0 nL A p l e R s m args below meth c Q (pc0 + 3) ls st h cu su) : m_Go D cI cL ad0 n0 nL A p l e R s m args below meth c Q pc ls (.int x :: st) h cu su := by
  subst hp
  intro ad H locs lsA hn hag hP hD hS hL
  exact lv_if_lt (m_ex X) (m_cb X) hd ht (fun q => kt q ad H locs lsA hn hag hP hD hS hL) (fun q => kf q ad H locs lsA hn hag hP hD hS hL)
theorem m_icmp_lt {x z : Int32} {off : Int} {tgt : Nat} (X : m_At D cI cL sa y cc nL ret A TB p l s m args meth c) (hd : decode cc pc0 = .ok (.if_icmp .lt off, 3)) (ht : (pc0 : Int) + off = (tgt : Int)) (hp : pc = pc0) (kt : x < z → m_Go D cI cL ad0 n0 nL A p l e R s m args below meth c Q tgt ls st h cu su) (kf : ¬ x < z → m_Go D cI cL ad0 n0 nL A p l e R s m args below meth c Q (pc0 + 3) ls st h cu su) : m_Go D cI cL ad0 n0 nL A p l e R s m args below meth c Q pc ls (.int z :: .int x :: st) h cu su := by
  subst hp
  intro ad H locs lsA hn hag hP hD hS hL
  exact lv_icmp_lt (m_ex X) (m_cb X) hd ht (fun q => kt q ad H locs lsA hn hag hP hD hS hL) (fun q => kf q ad H locs lsA hn hag hP hD hS hL)
theorem m_if_ge {x : Int32} {off : Int} {tgt : Nat} (X : m_At D cI cL sa y cc nL ret A TB p l s m args meth c) (hd : decode cc pc0 = .ok (.ifCond .ge off, 3)) (ht : (pc0 : Int) + off = (tgt : Int)) (hp : pc = pc0) (kt : 0 ≤ x → m_Go D cI cL ad0 n0 nL A p l e R s m args below meth c Q tgt ls st h cu su) (kf : ¬ 0 ≤ x → m_Go D cI cL ad0 n0 nL A p l e R s m args below meth c Q (pc0 + 3) ls st h cu su) : m_Go D cI cL ad0 n0 nL A p l e R s m args below meth c Q pc ls (.int x :: st) h cu su := by
  subst hp
  intro ad H locs lsA hn hag hP hD hS hL
  exact lv_if_ge (m_ex X) (m_cb X) hd ht (fun q => kt q ad H locs lsA hn hag hP hD hS hL) (fun q => kf q ad H locs lsA hn hag hP hD hS hL)
theorem m_icmp_ge {x z : Int32} {off : Int} {tgt : Nat} (X : m_At D cI cL sa y cc nL ret A TB p l s m args meth c) (hd : decode cc pc0 = .ok (.if_icmp .ge off, 3)) (ht : (pc0 : Int) + off = (tgt : Int)) (hp : pc = pc0) (kt : z ≤ x → m_Go D cI cL ad0 n0 nL A p l e R s m args below meth c Q tgt ls st h cu su) (kf : ¬ z ≤ x → m_Go D cI cL ad0 n0 nL A p l e R s m args below meth c Q (pc0 + 3) ls st h cu su) : m_Go D cI cL ad0 n0 nL A p l e R s m args below meth c Q pc ls (.int z :: .int x :: st) h cu su := by
  subst hp
  intro ad H locs lsA hn hag hP hD hS hL
  exact lv_icmp_ge (m_ex X) (m_cb X) hd ht (fun q => kt q ad H locs lsA hn hag hP hD hS hL) (fun q => kf q ad H locs lsA hn hag hP hD hS hL)
theorem m_if_gt {x : Int32} {off : Int} {tgt : Nat} (X : m_At D cI cL sa y cc nL ret A TB p l s m args meth c) (hd : decode cc pc0 = .ok (.ifCond .gt off, 3)) (ht : (pc0 : Int) + off = (tgt : Int)) (hp : pc = pc0) (kt : 0 < x → m_Go D cI cL ad0 n0 nL A p l e R s m args below meth c Q tgt ls st h cu su) (kf : ¬ 0 < x → m_Go D cI cL ad0 n0 nL A p l e R s m args below meth c Q (pc0 + 3) ls st h cu su) : m_Go D cI cL ad0 n0 nL A p l e R s m args below meth c Q pc ls (.int x :: st) h cu su := by
  subst hp
  intro ad H locs lsA hn hag hP hD hS hL
  exact lv_if_gt (m_ex X) (m_cb X) hd ht (fun q => kt q ad H locs lsA hn hag hP hD hS hL) (fun q => kf q ad H locs lsA hn hag hP hD hS hL)
theorem m_icmp_gt {x z : Int32} {off : Int} {tgt : Nat} (X : m_At D cI cL sa y cc nL ret A TB p l s m args meth c) (hd : decode cc pc0 = .ok (.if_icmp .gt off, 3)) (ht : (pc0 : Int) + off = (tgt : Int)) (hp : pc = pc0) (kt : z < x → m_Go D cI cL ad0 n0 nL A p l e R s m args below meth c Q tgt ls st h cu su) (kf : ¬ z < x → m_Go D cI cL ad0 n0 nL A p l e R s m args below meth c Q (pc0 + 3) ls st h cu su) : m_Go D cI cL ad0 n0 nL A p l e R s m args below meth c Q pc ls (.int z :: .int x :: st) h cu su := by
  subst hp
  intro ad H locs lsA hn hag hP hD hS hL
  exact lv_icmp_gt (m_ex X) (m_cb X) hd ht (fun q => kt q ad H locs lsA hn hag hP hD hS hL) (fun q => kf q ad H locs lsA hn hag hP hD hS hL)
theorem m_if_le {x : Int32} {off : Int} {tgt : Nat} (X : m_At D cI cL sa y cc nL ret A TB p l s m args meth c) (hd : decode cc pc0 = .ok (.ifCond .le off, 3)) (ht : (pc0 : Int) + off = (tgt : Int)) (hp : pc = pc0) (kt : x ≤ 0 → m_Go D cI cL ad0 n0 nL A p l e R s m args below meth c Q tgt ls st h cu su) (kf : ¬ x ≤ 0 → m_Go D cI cL ad0 n0 nL A p l e R s m args below meth c Q (pc0 + 3) ls st h cu su) : m_Go D cI cL ad0 n0 nL A p l e R s m args below meth c Q pc ls (.int x :: st) h cu su := by
  subst hp
  intro ad H locs lsA hn hag hP hD hS hL
  exact lv_if_le (m_ex X) (m_cb X) hd ht (fun q => kt q ad H locs lsA hn hag hP hD hS hL) (fun q => kf q ad H locs lsA hn hag hP hD hS hL)
theorem m_icmp_le {x z : Int32} {off : Int} {tgt : Nat} (X : m_At D cI cL sa y cc nL ret A TB p l s m args meth c) (hd : decode cc pc0 = .ok (.if_icmp .le off, 3)) (ht : (pc0 : Int) + off = (tgt : Int)) (hp : pc = pc0) (kt : x ≤ z → m_Go D cI cL ad0 n0 nL A p l e R s m args below meth c Q tgt ls st h cu su) (kf : ¬ x ≤ z → m_Go D cI cL ad0 n0 nL A p l e R s m args below meth c Q (pc0 + 3) ls st h cu su) : m_Go D cI cL ad0 n0 nL A p l e R s m args below meth c Q pc ls (.int z :: .int x :: st) h cu su := by
  subst hp
  intro ad H locs lsA hn hag hP hD hS hL
  exact lv_icmp_le (m_ex X) (m_cb X) hd ht (fun q => kt q ad H locs lsA hn hag hP hD hS hL) (fun q => kf q ad H locs lsA hn hag hP hD hS hL)
theorem m_goto {off : Int} {tgt : Nat} (X : m_At D cI cL sa y cc nL ret A TB p l s m args meth c) (hd : decode cc pc0 = .ok (.goto off, 3)) (ht : (pc0 : Int) + off = (tgt : Int)) (hp : pc = pc0) (kk : m_Go D cI cL ad0 n0 nL A p l e R s m args below meth c Q tgt ls st h cu su) : m_Go D cI cL ad0 n0 nL A p l e R s m args below meth c Q pc ls st h cu su := by
  subst hp
  intro ad H locs lsA hn hag hP hD hS hL
  exact lv_goto (m_ex X) (m_cb X) hd ht (kk ad H locs lsA hn hag hP hD hS hL)
theorem m_tabOut {dflt lo hi : Int} {offs : Array Int} {len : Nat} {x : Int32} {tgt : Nat} (X : m_At D cI cL sa y cc nL ret A TB p l s m args meth c) (hd : decode cc pc0 = .ok (.tableswitch dflt lo hi offs, len)) (hx : x.toInt < lo ∨ hi < x.toInt) (ht : (pc0 : Int) + dflt = (tgt : Int)) (hp : pc = pc0) (kk : m_Go D cI cL ad0 n0 nL A p l e R s m args below meth c Q tgt ls st h cu su) : m_Go D cI cL ad0 n0 nL A p l e R s m args below meth c Q pc ls (.int x :: st) h cu su := by
  subst hp
  intro ad H locs lsA hn hag hP hD hS hL
  exact lv_tableOut (m_ex X) (m_cb X) hd hx ht (kk ad H locs lsA hn hag hP hD hS hL)
theorem m_tabIn {dflt lo hi off : Int} {offs : Array Int} {len : Nat} {x : Int32} {tgt : Nat} (X : m_At D cI cL sa y cc nL ret A TB p l s m args meth c) (hd : decode cc pc0 = .ok (.tableswitch dflt lo hi offs, len)) (h1 : ¬ x.toInt < lo) (h2 : ¬ hi < x.toInt) (ho : offs[(x.toInt - lo).toNat]? = some off) (ht : (pc0 : Int) + off = (tgt : Int)) (hp : pc = pc0) (kk : m_Go D cI cL ad0 n0 nL A p l e R s m args below meth c Q tgt ls st h cu su) : m_Go D cI cL ad0 n0 nL A p l e R s m args below meth c Q pc ls (.int x :: st) h cu su := by
  subst hp
  intro ad H locs lsA hn hag hP hD hS hL
  exact lv_tableIn (m_ex X) (m_cb X) hd h1 h2 ho ht (kk ad H locs lsA hn hag hP hD hS hL)
theorem m_hp {h1 : m_H} (hh : h = h1) (kk : m_Go D cI cL ad0 n0 nL A p l e R s m args below meth c Q pc ls st h1 cu su) : m_Go D cI cL ad0 n0 nL A p l e R s m args below meth c Q pc ls st h cu su := hh ▸ kk
theorem m_sp {st1 : List Value} (hh : st = st1) (kk : m_Go D cI cL ad0 n0 nL A p l e R s m args below meth c Q pc ls st1 h cu su) : m_Go D cI cL ad0 n0 nL A p l e R s m args below meth c Q pc ls st h cu su := hh ▸ kk
theorem m_lp {l1 : List (Nat × Value)} (ks : List Nat) (hh : lv_pick ls ks = l1) (kk : m_Go D cI cL ad0 n0 nL A p l e R s m args below meth c Q pc l1 st h cu su) : m_Go D cI cL ad0 n0 nL A p l e R s m args below meth c Q pc ls st h cu su := by
  intro ad H locs lsA hn hag hP hD hS hL
  refine kk ad H locs lsA hn hag hP hD hS (lv_sub hL ks ?_)
  rw [← hh]
  unfold lv_pick
  rw [List.map_filterMap]
  congr 1
  funext k
  rw [List.getElem?_map]
theorem m_wid {cu1 su1 : Nat} (h1 : cu ≤ cu1) (h2 : su ≤ su1) (kk : m_Go D cI cL ad0 n0 nL A p l e R s m args below meth c Q pc ls st h cu1 su1) : m_Go D cI cL ad0 n0 nL A p l e R s m args below meth c Q pc ls st h cu su := fun ad H locs lsA hn hag hP hD hS hL => W.widen h1 h2 (kk ad H locs lsA hn hag hP hD hS hL)
/-- the field link 'idx' of class own names field j of the mini class ci -/
def m_FL (own : String) (idx ci j : Nat) : Prop := ∃ (C : String) (T : u_T) (N : Nat), m_cl[ci]? = some (C, T, N) ∧ j < N ∧ (Cond.fieldLink own idx (T j).1 (T j).2.1 (T j).2.2.1 ∈ m_ws ∨ ∃ host, Cond.fieldLinkNest own idx (T j).1 (T j).2.1 (T j).2.2.1 host ∈ m_nw)
/-- .. and it isn't final, of type ty -/
def m_FP (ci j : Nat) (ty : FieldType) : Prop := ∃ (C : String) (T : u_T) (N : Nat), m_cl[ci]? = some (C, T, N) ∧ (T j).2.2.2 = false ∧ parseFieldDescriptor (T j).2.2.1 = some ty
def m_FF (own : String) (ci j : Nat) (ty : FieldType) : Prop := ∃ (C : String) (T : u_T) (N : Nat), m_cl[ci]? = some (C, T, N) ∧ (T j).2.2.2 = true ∧ (T j).1 = own ∧ parseFieldDescriptor (T j).2.2.1 = some ty
theorem m_getf {idx ci j q : Nat} {fs : List Value} {v : Value} (X : m_At D cI cL sa y cc nL ret A TB p l s m args meth c) (hd : decode cc pc0 = .ok (.getfield idx, 3)) (hf : m_FL y.cls idx ci j) (hq : h[q]? = some (m_ob ci fs)) (hv : fs[j]? = some v) (hp : pc = pc0) (kk : m_Go D cI cL ad0 n0 nL A p l e R s m args below meth c Q (pc0 + 3) ls (v :: st) h cu su) : m_Go D cI cL ad0 n0 nL A p l e R s m args below meth c Q pc ls (.ref q :: st) h cu su := by
  subst hp
  intro ad H locs lsA hn hag hP hD hS hL
  obtain ⟨C, T, N, hc, hj, hw⟩ := hf
  have hv' : (fs.map (m_v ad))[j]? = some (m_v ad v) := by rw [List.getElem?_map, hv]; rfl
  have hin := (m_cl_ok ci C T N hc).1
  rcases hw with hw | ⟨host, hw⟩
  · exact va_get (m_ex X) (m_cb X) (m_wd X) hin (m_ow X) (m_kn X) hP q (m_w_at hq) hc j hj (m_wd X _ hw) (fun _ h9 => h9) hv' hd (kk ad H locs lsA hn hag hP hD hS hL)
  · exact va_getN (m_ex X) (m_cb X) (m_wd X) hin (m_ow X) (m_kn X) hP q (m_w_at hq) hc j hj (va_Nw.use (m_isN_on (m_nw_is hw)) ((m_ev X).1 _ hw)) (fun _ h9 => h9) hv' hd (kk ad H locs lsA hn hag hP hD hS hL)
theorem m_putf {idx ci j q : Nat} {fs : List Value} {v : Value} {ty : FieldType} (X : m_At D cI cL sa y cc nL ret A TB p l s m args meth c) (hd : decode cc pc0 = .ok (.putfield idx, 3)) (hf : m_FL y.cls idx ci j) (hg : m_FP ci j ty) (hq : h[q]? = some (m_ob ci fs)) (hj2 : j < fs.length) (hn9 : ∀ ad : Nat → Nat, narrow ty (m_v ad v) = m_v ad v) (hn8 : ∀ ad : Nat → Nat, fits ty (m_v ad v) = true) (hp : pc = pc0) (kk : m_Go D cI cL ad0 n0 nL A p l e R s m args below meth c Q (pc0 + 3) ls st (h.set q (m_ob ci (fs.set j v))) cu su) : m_Go D cI cL ad0 n0 nL A p l e R s m args below meth c Q pc ls (v :: .ref q :: st) h cu su := by
  subst hp
  intro ad H locs lsA hn hag hP hD hS hL
  obtain ⟨C, T, N, hc, hj, hw⟩ := hf
  obtain ⟨C', T', N', hc', hfin, hty⟩ := hg
  cases Option.some.inj (hc.symm.trans hc')
  obtain ⟨hin, ty0, hty0, hnm⟩ := m_cl_ok ci C T N hc
  have hset : ∀ (H1 : Heap) (locs1 : List Loc), va_P D m_cl ((m_w cI cL ad h).set q (ad q, .inr (ci, (fs.map (m_v ad)).set j (m_v ad v)))) H1 → va_D A ((m_w cI cL ad h).set q (ad q, .inr (ci, (fs.map (m_v ad)).set j (m_v ad v)))) → va_S A s.heap H1 locs1 → W p l e R s m args below meth c H1 locs1 cu su Q (F0 m (pc + 3) lsA (st.map (m_v ad))) := by
    intro H1 locs1 hP1 hD1 hS1
    have e1 : (m_w cI cL ad h).set q (ad q, .inr (ci, (fs.map (m_v ad)).set j (m_v ad v))) = m_w cI cL ad (h.set q (m_ob ci (fs.set j v))) := by
      rw [← m_w_set]; simp only [m_c, List.map_set]
    rw [e1] at hP1 hD1
    exact kk ad H1 locs1 lsA (by rw [List.length_set]; exact hn) (by rw [List.length_set]; exact hag) hP1 hD1 hS1 hL
  have hl2 : j < (fs.map (m_v ad)).length := by rw [List.length_map]; exact hj2
  rcases hw with hw | ⟨host, hw⟩
  · exact va_put (m_ex X) (m_cb X) (m_wd X) hin ty0 hty0 hnm (m_ow X) (m_kn X) hP hD hS q (m_w_at hq) hc j hj (m_wd X _ hw) (fun _ h9 => h9) hfin hty (hn9 ad) (hn8 ad) hl2 hd hset
  · exact va_putN (m_ex X) (m_cb X) (m_wd X) hin ty0 hty0 hnm (m_ow X) (m_kn X) hP hD hS q (m_w_at hq) hc j hj (va_Nw.use (m_isN_on (m_nw_is hw)) ((m_ev X).1 _ hw)) (fun _ h9 => h9) hfin hty (hn9 ad) (hn8 ad) hl2 hd hset
theorem m_putF {idx ci j q : Nat} {fs : List Value} {v : Value} {ty : FieldType} (X : m_At D cI cL sa y cc nL ret A TB p l s m args meth c) (hd : decode cc pc0 = .ok (.putfield idx, 3)) (hf : m_FL y.cls idx ci j) (hg : m_FF y.cls ci j ty) (hi : y.name = "<init>") (hw0 : ∀ (C : String) (T : u_T) (N : Nat), m_cl[ci]? = some (C, T, N) → Cond.fieldLink y.cls idx (T j).1 (T j).2.1 (T j).2.2.1 ∈ m_ws) (hq : h[q]? = some (m_ob ci fs)) (hj2 : j < fs.length) (hn9 : ∀ ad : Nat → Nat, narrow ty (m_v ad v) = m_v ad v) (hn8 : ∀ ad : Nat → Nat, fits ty (m_v ad v) = true) (hp : pc = pc0) (kk : m_Go D cI cL ad0 n0 nL A p l e R s m args below meth c Q (pc0 + 3) ls st (h.set q (m_ob ci (fs.set j v))) cu su) : m_Go D cI cL ad0 n0 nL A p l e R s m args below meth c Q pc ls (v :: .ref q :: st) h cu su := by
  subst hp
  intro ad H locs lsA hn hag hP hD hS hL
  obtain ⟨C, T, N, hc, hj, hw⟩ := hf
  obtain ⟨C', T', N', hc', hfin, hdecl, hty⟩ := hg
  cases Option.some.inj (hc.symm.trans hc')
  obtain ⟨hin, ty0, hty0, hnm⟩ := m_cl_ok ci C T N hc
  have hset : ∀ (H1 : Heap) (locs1 : List Loc), va_P D m_cl ((m_w cI cL ad h).set q (ad q, .inr (ci, (fs.map (m_v ad)).set j (m_v ad v)))) H1 → va_D A ((m_w cI cL ad h).set q (ad q, .inr (ci, (fs.map (m_v ad)).set j (m_v ad v)))) → va_S A s.heap H1 locs1 → W p l e R s m args below meth c H1 locs1 cu su Q (F0 m (pc + 3) lsA (st.map (m_v ad))) := by
    intro H1 locs1 hP1 hD1 hS1
    have e1 : (m_w cI cL ad h).set q (ad q, .inr (ci, (fs.map (m_v ad)).set j (m_v ad v))) = m_w cI cL ad (h.set q (m_ob ci (fs.set j v))) := by
      rw [← m_w_set]; simp only [m_c, List.map_set]
    rw [e1] at hP1 hD1
    exact kk ad H1 locs1 lsA (by rw [List.length_set]; exact hn) (by rw [List.length_set]; exact hag) hP1 hD1 hS1 hL
  exact va_putF (m_ex X) (m_cb X) (m_wd X) hin ty0 hty0 hnm (m_ow X) (m_kn X) hP hD hS q (m_w_at hq) hc j hj (m_wd X _ (hw0 C T N hc)) (fun _ h9 => h9) hfin ((m_nm X).trans hi) hdecl hty (hn9 ad) (hn8 ad) (by rw [List.length_map]; exact hj2) hd hset
/-! arrays -/
theorem m_iald {q n : Nat} {f : Nat → Int32} {i : Int32} (X : m_At D cI cL sa y cc nL ret A TB p l s m args meth c) (hd : decode cc pc0 = .ok (.iaload, 1)) (hq : h[q]? = some (m_ia n f)) (hi : vp_in i n) (hp : pc = pc0) (kk : m_Go D cI cL ad0 n0 nL A p l e R s m args below meth c Q (pc0 + 1) ls (.int (f i.toNatClampNeg) :: st) h cu su) : m_Go D cI cL ad0 n0 nL A p l e R s m args below meth c Q pc ls (.int i :: .ref q :: st) h cu su := by
  subst hp
  intro ad H locs lsA hn hag hP hD hS hL
  exact va_iald (m_ex X) (m_cb X) (m_kn X) hP q 0 (m_w_at hq) rfl hi hd (kk ad H locs lsA hn hag hP hD hS hL)
theorem m_alen {q n : Nat} {f : Nat → Int32} (X : m_At D cI cL sa y cc nL ret A TB p l s m args meth c) (hd : decode cc pc0 = .ok (.arraylength, 1)) (hq : h[q]? = some (m_ia n f)) (hp : pc = pc0) (kk : m_Go D cI cL ad0 n0 nL A p l e R s m args below meth c Q (pc0 + 1) ls (.int (Int32.ofNat n) :: st) h cu su) : m_Go D cI cL ad0 n0 nL A p l e R s m args below meth c Q pc ls (.ref q :: st) h cu su := by
  subst hp
  intro ad H locs lsA hn hag hP hD hS hL
  exact va_alen (m_ex X) (m_cb X) (m_kn X) hP q 0 (m_w_at hq) rfl rfl hd (kk ad H locs lsA hn hag hP hD hS hL)
theorem m_iast {q n : Nat} {f : Nat → Int32} {i x : Int32} (X : m_At D cI cL sa y cc nL ret A TB p l s m args meth c) (hd : decode cc pc0 = .ok (.iastore, 1)) (hq : h[q]? = some (m_ia n f)) (hi : vp_in i n) (hp : pc = pc0) (kk : m_Go D cI cL ad0 n0 nL A p l e R s m args below meth c Q (pc0 + 1) ls st (h.set q (m_ia n (upd f i.toNatClampNeg x))) cu su) : m_Go D cI cL ad0 n0 nL A p l e R s m args below meth c Q pc ls (.int x :: .int i :: .ref q :: st) h cu su := by
  subst hp
  intro ad H locs lsA hn hag hP hD hS hL
  refine va_iast (m_ex X) (m_cb X) (m_kn X) hP hD hS q 0 (m_w_at hq) rfl hi hd (fun H1 locs1 hP1 hD1 hS1 => ?_)
  have e1 : (m_w cI cL ad h).set q (ad q, .inl (cI, n, .inl (upd f i.toNatClampNeg x))) = m_w cI cL ad (h.set q (m_ia n (upd f i.toNatClampNeg x))) := by rw [← m_w_set]; rfl
  have hP2 : va_P D m_cl ((m_w cI cL ad h).set q (ad q, .inl (cI, n, .inl (upd f i.toNatClampNeg x)))) H1 := hP1
  have hD2 : va_D A ((m_w cI cL ad h).set q (ad q, .inl (cI, n, .inl (upd f i.toNatClampNeg x)))) := hD1
  rw [e1] at hP2 hD2
  exact kk ad H1 locs1 lsA (by rw [List.length_set]; exact hn) (by rw [List.length_set]; exact hag) hP2 hD2 hS1 hL
/-! Math -/
theorem m_mmax {k : Nat} {x z : Int32} (X : m_At D cI cL sa y cc nL ret A TB p l s m args meth c) (hd : decode cc pc0 = .ok (.invokestatic k, 3)) (hw : Cond.methodLink y.cls k Lib.Math.max.name ∈ m_ws) (hfr : 1 ≤ R.frames) (hlo : (st.map fun v => v.category).sum + 13 ≤ R.locals) (hc : cu ≤ R.cells) (hs : su ≤ R.slots) (hp : pc = pc0) (kk : m_Go D cI cL ad0 n0 nL A p l e R s m args below meth c Q (pc0 + 3) ls (.int (if x < z then z else x) :: st) h cu su) : m_Go D cI cL ad0 n0 nL A p l e R s m args below meth c Q pc ls (.int z :: .int x :: st) h cu su := by
  subst hp
  intro ad H locs lsA hn hag hP hD hS hL
  exact va_mmax (m_ex X) (m_cb X) ((m_ml X).trans hL.1.symm) (m_ow X) (m_wd X _ hw) (m_wd X _ m_max1) (m_wd X _ m_mat) (m_wd X _ m_max2) hfr (by rw [m_v_cats]; exact hlo) hc hs hd (kk ad H locs lsA hn hag hP hD hS hL)
theorem m_mmin {k : Nat} {x z : Int32} (X : m_At D cI cL sa y cc nL ret A TB p l s m args meth c) (hd : decode cc pc0 = .ok (.invokestatic k, 3)) (hw : Cond.methodLink y.cls k Lib.Math.min.name ∈ m_ws) (hfr : 1 ≤ R.frames) (hlo : (st.map fun v => v.category).sum + 13 ≤ R.locals) (hc : cu ≤ R.cells) (hs : su ≤ R.slots) (hp : pc = pc0) (kk : m_Go D cI cL ad0 n0 nL A p l e R s m args below meth c Q (pc0 + 3) ls (.int (if z < x then z else x) :: st) h cu su) : m_Go D cI cL ad0 n0 nL A p l e R s m args below meth c Q pc ls (.int z :: .int x :: st) h cu su := by
  subst hp
  intro ad H locs lsA hn hag hP hD hS hL
  exact va_mmin (m_ex X) (m_cb X) ((m_ml X).trans hL.1.symm) (m_ow X) (m_wd X _ hw) (m_wd X _ m_min1) (m_wd X _ m_mat) (m_wd X _ m_min2) hfr (by rw [m_v_cats]; exact hlo) hc hs hd (kk ad H locs lsA hn hag hP hD hS hL)
theorem m_obI {k q : Nat} (X : m_At D cI cL sa y cc nL ret A TB p l s m args meth c) (hd : decode cc pc0 = .ok (.invokespecial k, 3)) (hw : Cond.methodLink y.cls k Lib.objectInit ∈ m_ws) (hfr : 1 ≤ R.frames) (hlo : (st.map fun v => v.category).sum + 12 ≤ R.locals) (hp : pc = pc0) (kk : m_Go D cI cL ad0 n0 nL A p l e R s m args below meth c Q (pc0 + 3) ls st h cu su) : m_Go D cI cL ad0 n0 nL A p l e R s m args below meth c Q pc ls (.ref q :: st) h cu su := by
  subst hp
  intro ad H locs lsA hn hag hP hD hS hL
  have hlo9 : ((st.map (m_v ad)).map fun v => v.category).sum + 12 ≤ R.locals := by rw [m_v_cats]; exact hlo
  exact W.objInit (m_ex X) (m_cb X) (m_ow X) (m_wd X _ hw) (m_wd X _ m_obj1) (m_wd X _ m_obj2) rfl (by show lsA.size = c.maxLocals; rw [m_ml X]; exact hL.1) rfl hd hfr (by
    have e9 : 2 * (F0 m pc lsA (List.map (m_v ad) (.ref q :: st))).monitorRoom = 0 := by first | rfl | simp [JFrame.monitorRoom]
    rw [e9]; omega) (kk ad H locs lsA hn hag hP hD hS hL)
/-! new things -/
theorem m_upd_ag {n : Nat} {ad : Nat → Nat} {q : Nat} : ∀ i, i < n → (fun j => if j = n then q else ad j) i = ad i := fun i hi => if_neg (Nat.ne_of_lt hi)
theorem m_new {k ci N : Nat} {C : String} {T : u_T} {fs : List Value} (X : m_At D cI cL sa y cc nL ret A TB p l s m args meth c) (hd : decode cc pc0 = .ok (.new k, 3)) (hcl : m_cl[ci]? = some (C, T, N)) (h1 : Cond.classLink y.cls k C ∈ m_ws) (h2 : Cond.instantiable C N ∈ m_ws) (h3 : Cond.initialized C ∈ m_ws) (ty : Nat → FieldType) (hty : ∀ k, k < N → parseFieldDescriptor (T k).2.2.1 = some (ty k)) (hfs : ∀ j, j < N → defaultValue (ty j) = vp_V fs j) (hnr : fs.all (m_rv 0) = true) (hrb : m_rb h.length ls st = true) (hrh : h.all (m_rc h.length) = true) (hcc : cu + 1 ≤ R.cells) (hss : su + N ≤ R.slots) (hp : pc = pc0) (kk : m_Go D cI cL ad0 n0 nL A p l e R s m args below meth c Q (pc0 + 3) ls (.ref h.length :: st) (h ++ [m_ob ci fs]) (cu + 1) (su + N)) : m_Go D cI cL ad0 n0 nL A p l e R s m args below meth c Q pc ls st h cu su := by
  subst hp
  intro ad H locs lsA hn hag hP hD hS hL
  simp only [m_rb, Bool.and_eq_true] at hrb
  refine va_new (fs := fs) (m_ex X) (m_cb X) (m_wd X) (m_cl_ok ci C T N hcl).1 ty hty (m_ow X) (m_wd X _ h1) (m_wd X _ h2) (m_wd X _ h3) (m_kn X) hP hD hS (m_up X) hcl hfs hcc hss hd (fun q H1 hP1 hD1 hS1 => ?_)
  have ha := m_upd_ag (n := h.length) (ad := ad) (q := q)
  have e0 : fs.map (m_v (fun j => if j = h.length then q else ad j)) = fs := by
    have : fs.map (m_v (fun j => if j = h.length then q else ad j)) = fs.map id := List.map_congr_left fun v hv => by
      have := List.all_eq_true.mp hnr v hv
      cases v <;> first | rfl | (simp [m_rv] at this; done)
    rw [this, List.map_id]
  have e1 : m_w cI cL (fun j => if j = h.length then q else ad j) (h ++ [m_ob ci fs]) = m_w cI cL ad h ++ [(q, .inr (ci, fs))] := by
    rw [m_w_app, m_w_same ha (Nat.le_refl _) hrh]; simp only [m_c, e0, if_true]
  have k9 := kk (fun j => if j = h.length then q else ad j) H1 locs lsA (by rw [List.length_append]; omega) (fun i hi => by
    rw [List.length_append, List.length_singleton] at hi
    have hne : i ≠ h.length := by omega
    rw [if_neg hne]; exact hag i (by omega)) (by rw [e1]; exact hP1) (by rw [e1]; exact hD1) hS1 (by rw [m_ls_same ha hrb.1]; exact hL)
  rw [List.map_cons, m_st_same ha hrb.2] at k9
  have e2 : m_v (fun j => if j = h.length then q else ad j) (.ref h.length) = .ref q := by simp [m_v]
  rw [e2] at k9
  exact k9
theorem m_newa {at9 : ArrayType} {ty : FieldType} {n : Int32} {N : Nat} {a0 : vp_A} (X : m_At D cI cL sa y cc nL ret A TB p l s m args meth c) (hd : decode cc pc0 = .ok (.newarray at9, 2)) (hw : Cond.arrayClass (newarray.typeOf at9) ∈ m_ws) (hty : newarray.typeOf at9 = ty) (hk : ty = .int ∧ ∃ f, a0.2 = .inl f) (ha : ∀ cA : ClassId, vp_cell cA a0 = arrV cA N (fun _ => defaultValue ty)) (hn0 : ¬ n < 0) (hN : n.toNatClampNeg = N) (hby : N * componentBytes ty ≤ 536870912) (hrb : m_rb h.length ls st = true) (hrh : h.all (m_rc h.length) = true) (hcc : cu + 1 ≤ R.cells) (hss : su + N ≤ R.slots) (hp : pc = pc0) (kk : m_Go D cI cL ad0 n0 nL A p l e R s m args below meth c Q (pc0 + 2) ls (.ref h.length :: st) (h ++ [.inl a0]) (cu + 1) (su + N)) : m_Go D cI cL ad0 n0 nL A p l e R s m args below meth c Q pc ls (.int n :: st) h cu su := by
  subst hp
  intro ad H locs lsA hn hag hP hD hS hL
  simp only [m_rb, Bool.and_eq_true] at hrb
  refine va_newa (m_ex X) (m_cb X) (m_wd X _ hw) hty (m_kn X) hP hD hS (m_up X) ha hn0 hN hby hcc hss hd (fun q cA H1 hK1 hP1 hD1 hS1 => ?_)
  have hcA : cA = m_kc cI cL a0 := by
    have h9 := (hK1.2 1 (cA, ty) rfl).2
    obtain ⟨rfl, f, hf⟩ := hk
    have h8 := ((m_kn X).2 0 (cI, .int) rfl).2
    simp only [m_kc, hf]
    exact Option.some.inj (Eq.trans (Eq.symm h9) h8)
  subst hcA
  have ha := m_upd_ag (n := h.length) (ad := ad) (q := q)
  have e1 : m_w cI cL (fun j => if j = h.length then q else ad j) (h ++ [.inl a0]) = m_w cI cL ad h ++ [(q, .inl (m_kc cI cL a0, a0))] := by
    rw [m_w_app, m_w_same ha (Nat.le_refl _) hrh]; simp only [m_c, if_true]
  have k9 := kk (fun j => if j = h.length then q else ad j) H1 locs lsA (by rw [List.length_append]; omega) (fun i hi => by
    rw [List.length_append, List.length_singleton] at hi
    have hne : i ≠ h.length := by omega
    rw [if_neg hne]; exact hag i (by omega)) (by rw [e1]; exact hP1) (by rw [e1]; exact hD1) hS1 (by rw [m_ls_same ha hrb.1]; exact hL)
  rw [List.map_cons, m_st_same ha hrb.2] at k9
  have e2 : m_v (fun j => if j = h.length then q else ad j) (.ref h.length) = .ref q := by simp [m_v]
  rw [e2] at k9
  exact k9
end MI

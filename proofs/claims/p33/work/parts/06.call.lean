section MC
/-! ===== contracts: the whole mini heap in, an outcome and the whole mini heap out ===== -/
/-- a method: name, bytes, locals, return, rank (how deep its calls go), cells and slots that it may make -/
abbrev m_M : Type := MethodName × ByteArray × Nat × Option FieldType × Nat × Nat × Nat
abbrev m_My (M : m_M) : MethodName := M.1
abbrev m_Mb (M : m_M) : ByteArray := M.2.1
abbrev m_Ml (M : m_M) : Nat := M.2.2.1
abbrev m_Mr (M : m_M) : Option FieldType := M.2.2.2.1
abbrev m_Mk (M : m_M) : Nat := M.2.2.2.2.1
abbrev m_Mc (M : m_M) : Nat := M.2.2.2.2.2.1
abbrev m_Ms (M : m_M) : Nat := M.2.2.2.2.2.2
def m_rm (M : m_M) : Room := { frames := m_Mk M, cells := m_Mc M, slots := m_Ms M, locals := 32 * m_Mk M }
def m_Ws (M : m_M) : List Cond := Cond.code (m_My M) (m_Mb M) (m_Ml M) (m_Mr M) :: m_ws
def m_WsH (M : m_M) (hh : List (Nat × Nat × Nat × Nat)) : List Cond := Cond.codeWith (m_My M) (m_Mb M) (m_Ml M) (m_Mr M) hh :: m_ws
/-- returned with a value, or thrown -/
abbrev m_Om : Type := (Option Value × m_H) ⊕ (String × m_H)
def m_Q (D : va_G) (cI cL : ClassId) (ad : Nat → Nat) (n0 : Nat) (A : Nat → Prop) (om : m_Om) : Array Value → State → Outcome → State → Prop := fun _ st oc t =>
  ∃ (v : Option Value) (hf : m_H) (ad' : Nat → Nat), om = .inl (v, hf) ∧ oc = .returned (v.map (m_v ad')) ∧ n0 ≤ hf.length ∧ (∀ i, (i < n0 ∨ hf.length ≤ i) → ad' i = ad i) ∧ va_P D m_cl (m_w cI cL ad' hf) t.heap ∧ va_D A (m_w cI cL ad' hf) ∧ va_F A st t
def m_XC (D : va_G) (cI cL : ClassId) (ad : Nat → Nat) (n0 : Nat) (A : Nat → Prop) (om : m_Om) : String → State → State → Prop := fun E st t =>
  ∃ (hf : m_H) (ad' : Nat → Nat), om = .inr (E, hf) ∧ n0 ≤ hf.length ∧ (∀ i, (i < n0 ∨ hf.length ≤ i) → ad' i = ad i) ∧ va_P D m_cl (m_w cI cL ad' hf) t.heap ∧ va_D A (m_w cI cL ad' hf) ∧ va_F A st t
def m_Pre (D : va_G) (cI cL : ClassId) (sa ad : Nat → Nat) (h : m_H) (sz : Nat) (as : List Value) : Array Value → State → Prop := va_Pc (as.map (m_v ad)) (fun U => U.heap.size = sz ∧ va_P D m_cl (m_w cI cL ad h) U.heap ∧ va_D (fun _ => True) (m_w cI cL ad h) ∧ va_K D m_cl (m_tys cI cL) U ∧ m_Env (va_A (m_w cI cL ad h) sz) sa U U.heap)
abbrev m_VQ (D : va_G) (cI cL : ClassId) (ad : Nat → Nat) (n0 : Nat) (A : Nat → Prop) (om : m_Om) (below : List Frame) (args : Array Value) (s : State) (mc ms : Nat) : State → Prop := vx_MQ below (m_Q D cI cL ad n0 A om) (m_XC D cI cL ad n0 A om) args s mc ms A
def m_Ctr (M : m_M) (as : List Value) (h : m_H) (om : m_Om) : Prop := ∀ (l : Launch) (D : va_G) (cI cL : ClassId) (sa ad : Nat → Nat) (sz : Nat), l.stackTraces = false →
  vx_Met l (m_My M) (m_Ws M) (m_rm M) (m_Pre D cI cL sa ad h sz as) (m_Q D cI cL ad h.length (va_A (m_w cI cL ad h) sz) om) (m_XC D cI cL ad h.length (va_A (m_w cI cL ad h) sz) om) (m_Mc M) (m_Ms M) (va_A (m_w cI cL ad h) sz)
def m_CtrH (M : m_M) (hh : List (Nat × Nat × Nat × Nat)) (as : List Value) (h : m_H) (om : m_Om) : Prop := ∀ (l : Launch) (D : va_G) (cI cL : ClassId) (sa ad : Nat → Nat) (sz : Nat), l.stackTraces = false →
  vx_Met l (m_My M) (m_WsH M hh) (m_rm M) (m_Pre D cI cL sa ad h sz as) (m_Q D cI cL ad h.length (va_A (m_w cI cL ad h) sz) om) (m_XC D cI cL ad h.length (va_A (m_w cI cL ad h) sz) om) (m_Mc M) (m_Ms M) (va_A (m_w cI cL ad h) sz)
theorem m_blind {D : va_G} {cI cL : ClassId} {sa ad : Nat → Nat} {h : m_H} {sz : Nat} {as : List Value} : FrameBlind (m_Pre D cI cL sa ad h sz as) := fun a U g mk q => by
  obtain ⟨q0, q1, q2, q3, q4, q5⟩ := q
  exact ⟨q0, q1, q2, q3, va_K.moved (u := U) (U := U.calling g mk a) (Vm.Alike.refl U.vm) q4, m_Env_same (u := U) (U := U.calling g mk a) rfl q5⟩
/-- a method's body: walk it from its entry -/
theorem m_intro {M : m_M} {as : List Value} {h : m_H} {om : m_Om} (hy : plainName (m_My M).cls = true) (hsz : (lg_sl as).length ≤ m_Ml M)
    (body : ∀ {D : va_G} {cI cL : ClassId} {sa : Nat → Nat} {A : Nat → Prop} {p : Program} {l : Launch} {e : Env} {s : State} {m : MethodId} {args : Array Value} {below : List Frame} {meth : Method} {c : Code} {ad : Nat → Nat}, m_At D cI cL sa (m_My M) (m_Mb M) (m_Ml M) (m_Mr M) A [] p l s m args meth c →
      m_Go D cI cL ad h.length (m_Ml M) A p l e (m_rm M) s m args below meth c (m_VQ D cI cL ad h.length A om below args s (m_Mc M) (m_Ms M)) 0 (lv_args 0 as) [] h 0 0) : m_Ctr M as h om := by
  intro l D cI cL sa ad sz hl
  refine vx_ofW (cc := m_Mb M) (maxL := m_Ml M) (ret := m_Mr M) hy rfl ?_
  intro p e s m args below meth c s₁ B hml ht hv
  obtain ⟨rfl, hsz9, hP, hD0, hK, hE⟩ := hv
  subst hsz9
  have hD := hD0.self (sz := s.heap.size)
  have hts := atoms_spec (ws := m_Ws M) B.pre
  have X : m_At D cI cL sa (m_My M) (m_Mb M) (m_Ml M) (m_Mr M) (va_A (m_w cI cL ad h) s.heap.size) [] p l s m (as.map (m_v ad)).toArray meth c :=
    ⟨B.exec, B.bytes, hml, B.returns, B.notSynchronized, (name_of_methodNamed B.named B.method).1, findClass_of_methodNamed B.named, fun w hw => hts w (List.mem_cons_of_mem _ hw), hK, hE, fun q hq => Or.inr hq, hl, List.eq_nil_iff_forall_not_mem.mpr ht⟩
  have hl9 := lv_entry (as.map (m_v ad)) (n := m_Ml M) (by rw [m_lsl]; exact hsz)
  rw [m_largs] at hl9
  rw [lg_entry_eq]
  exact body X ad s.heap [] _ (Nat.le_refl _) (fun _ _ => rfl) hP hD va_S.rf hl9
theorem m_introH {M : m_M} {hh : List (Nat × Nat × Nat × Nat)} {as : List Value} {h : m_H} {om : m_Om} (hy : plainName (m_My M).cls = true) (hsz : (lg_sl as).length ≤ m_Ml M)
    (body : ∀ {D : va_G} {cI cL : ClassId} {sa : Nat → Nat} {A : Nat → Prop} {p : Program} {l : Launch} {e : Env} {s : State} {m : MethodId} {args : Array Value} {below : List Frame} {meth : Method} {c : Code} {ad : Nat → Nat}, m_At D cI cL sa (m_My M) (m_Mb M) (m_Ml M) (m_Mr M) A (tableOf hh) p l s m args meth c →
      m_Go D cI cL ad h.length (m_Ml M) A p l e (m_rm M) s m args below meth c (m_VQ D cI cL ad h.length A om below args s (m_Mc M) (m_Ms M)) 0 (lv_args 0 as) [] h 0 0) : m_CtrH M hh as h om := by
  intro l D cI cL sa ad sz hl
  refine vx_ofWH (cc := m_Mb M) (maxL := m_Ml M) (ret := m_Mr M) (hh := hh) hy rfl ?_
  intro p e s m args below meth c s₁ B hml hv
  obtain ⟨rfl, hsz9, hP, hD0, hK, hE⟩ := hv
  subst hsz9
  have hD := hD0.self (sz := s.heap.size)
  have hts := atoms_spec (ws := m_WsH M hh) B.pre
  have X : m_At D cI cL sa (m_My M) (m_Mb M) (m_Ml M) (m_Mr M) (va_A (m_w cI cL ad h) s.heap.size) (tableOf hh) p l s m (as.map (m_v ad)).toArray meth c :=
    ⟨B.exec, B.bytes, hml, B.returns, B.notSynchronized, (name_of_methodNamed B.named B.method).1, findClass_of_methodNamed B.named, fun w hw => hts w (List.mem_cons_of_mem _ hw), hK, hE, fun q hq => Or.inr hq, hl, vx_table (x := m_My M) B (hts _ List.mem_cons_self)⟩
  have hl9 := lv_entry (as.map (m_v ad)) (n := m_Ml M) (by rw [m_lsl]; exact hsz)
  rw [m_largs] at hl9
  rw [lg_entry_eq]
  exact body X ad s.heap [] _ (Nat.le_refl _) (fun _ _ => rfl) hP hD va_S.rf hl9
theorem m_met {M : m_M} {as : List Value} {h h' : m_H} {v : Option Value} (hC : m_Ctr M as h (.inl (v, h'))) (l : Launch) (D : va_G) (cI cL : ClassId) (sa ad : Nat → Nat) (sz : Nat) (hl : l.stackTraces = false) :
    Met l (m_My M) (m_Ws M) (m_rm M) (m_Pre D cI cL sa ad h sz as) (m_Q D cI cL ad h.length (va_A (m_w cI cL ad h) sz) (.inl (v, h'))) (m_Mc M) (m_Ms M) (va_A (m_w cI cL ad h) sz) :=
  MetFree.mono (hC l D cI cL sa ad sz hl) (fun _ _ h => h) (fun _ _ _ _ _ h => h) (fun a st o t _ hq => by
    rcases hq with ⟨h1, L, h2, h3⟩ | ⟨q, ho, E, ce, L, hx, -⟩
    · exact ⟨h1, L, h2, h3⟩
    · obtain ⟨hf, ad', he, -⟩ := hx
      cases he)
theorem m_metH {M : m_M} {hh : List (Nat × Nat × Nat × Nat)} {as : List Value} {h h' : m_H} {v : Option Value} (hC : m_CtrH M hh as h (.inl (v, h'))) (l : Launch) (D : va_G) (cI cL : ClassId) (sa ad : Nat → Nat) (sz : Nat) (hl : l.stackTraces = false) :
    Met l (m_My M) (m_WsH M hh) (m_rm M) (m_Pre D cI cL sa ad h sz as) (m_Q D cI cL ad h.length (va_A (m_w cI cL ad h) sz) (.inl (v, h'))) (m_Mc M) (m_Ms M) (va_A (m_w cI cL ad h) sz) :=
  MetFree.mono (hC l D cI cL sa ad sz hl) (fun _ _ h => h) (fun _ _ _ _ _ h => h) (fun a st o t _ hq => by
    rcases hq with ⟨h1, L, h2, h3⟩ | ⟨q, ho, E, ce, L, hx, -⟩
    · exact ⟨h1, L, h2, h3⟩
    · obtain ⟨hf, ad', he, -⟩ := hx
      cases he)
/-- what is known of a method by name -/
def m_MK (M : m_M) (n : Nat) : Prop := Cond.code (m_My M) (m_Mb M) (m_Ml M) (m_Mr M) ∈ m_ws ∧ Cond.initialized (m_My M).cls ∈ m_ws ∧ ((m_My M).cls ≠ "java/lang/invoke/MethodHandle" ∧ (m_My M).cls ≠ "java/lang/invoke/VarHandle" ∧ (parseMethodDescriptor (m_My M).desc).map (fun d => d.parameters.length) = some n)
def m_MKH (M : m_M) (hh : List (Nat × Nat × Nat × Nat)) (n : Nat) : Prop := Cond.codeWith (m_My M) (m_Mb M) (m_Ml M) (m_Mr M) hh ∈ m_ws ∧ Cond.initialized (m_My M).cls ∈ m_ws ∧ ((m_My M).cls ≠ "java/lang/invoke/MethodHandle" ∧ (m_My M).cls ≠ "java/lang/invoke/VarHandle" ∧ (parseMethodDescriptor (m_My M).desc).map (fun d => d.parameters.length) = some n)
def m_LK (own : String) (k : Nat) (M : m_M) : Prop := Cond.methodLink own k (m_My M) ∈ m_ws ∨ ∃ host, Cond.methodLinkNest own k (m_My M) host ∈ m_nw
theorem m_good {M : m_M} {n : Nat} (hK : m_MK M n) : GoodIn m_ws (m_Ws M) := fun w hw => by
  rcases List.mem_cons.mp hw with rfl | hw
  · exact ⟨hK.1, good_of_word (m_ws_good hK.1)⟩
  · exact ⟨hw, good_of_word (m_ws_good hw)⟩
variable {D : va_G} {cI cL : ClassId} {sa : Nat → Nat} {y : MethodName} {cc : ByteArray} {nL : Nat} {ret : Option FieldType} {A : Nat → Prop} {TB : List ExceptionTableEntry} {p : Program} {l : Launch} {e : Env} {R : Room} {s : State} {m : MethodId} {args : Array Value} {below : List Frame} {meth : Method} {c : Code} {Q : State → Prop} {ad0 : Nat → Nat} {n0 pc pc0 : Nat} {ls : List (Nat × Value)} {st : List Value} {h : m_H} {cu su : Nat} {om : m_Om} {mc ms : Nat}
theorem m_AB {ws : va_W} {H : Heap} {locs : List Loc} (X : m_At D cI cL sa y cc nL ret A TB p l s m args meth c) (hD : va_D A ws) (hS : va_S A s.heap H locs) : ∀ q, va_A ws H.size q → A q := by
  rintro q (⟨k, e9, hk⟩ | hq)
  · exact hD.2 k (q, e9) hk
  · exact m_up X q (Nat.le_trans hS.1 hq)
theorem m_pre {ad : Nat → Nat} {H : Heap} {locs : List Loc} {as : List Value} (X : m_At D cI cL sa y cc nL ret A TB p l s m args meth c) (hP : va_P D m_cl (m_w cI cL ad h) H) (hD : va_D A (m_w cI cL ad h)) (hS : va_S A s.heap H locs) : ∀ U : State, U.heap = H → s.WarmedH U.vm → m_Pre D cI cL sa ad h H.size as (as.map (m_v ad)).toArray U := by
  intro U hU hW
  refine ⟨rfl, by rw [hU], by rw [hU]; exact hP, hD.weaken (fun _ _ _ _ => trivial), va_K.moved hW.alike (m_kn X), ?_⟩
  rw [hU]
  exact m_Env_for (m_ev X) hS hW (m_AB X hD hS)
theorem m_fix (X : m_At D cI cL sa y cc nL ret A TB p l s m args meth c) : CallFix p m c cc nL s args m_ws y.cls := ⟨m_ex X, m_cb X, m_ml X, m_ow X, m_wd X⟩
theorem m_ag {ad ad' : Nat → Nat} {n : Nat} (h0 : ∀ i, (i < n ∨ n ≤ i) → ad' i = ad i) : ad' = ad := funext fun i => h0 i (Nat.lt_or_ge i n)
theorem m_optmap {ad : Nat → Nat} {v : Option Value} {rest : List Value} : (v.map (m_v ad)).toList ++ rest.map (m_v ad) = (v.toList ++ rest).map (m_v ad) := by cases v <;> rfl
/-- behind a call that makes nothing -/
theorem m_after {h' : m_H} {v : Option Value} {rest stA : List Value} {ad : Nat → Nat} {H : Heap} {locs : List Loc} {lsA : Array Slot} {mc2 ms2 : Nat} {a2 : Array Value} (X : m_At D cI cL sa y cc nL ret A TB p l s m args meth c)
    (hr : va_Run p l e R s m args below meth c H locs cu su mc2 ms2 (F0 m pc lsA stA) (rest.map (m_v ad)) (m_Q D cI cL ad h.length (va_A (m_w cI cL ad h) H.size) (.inl (v, h')) a2) (va_A (m_w cI cL ad h) H.size)) (hlen : h'.length = h.length)
    (hn : n0 ≤ h.length) (hag : ∀ i, (i < n0 ∨ h.length ≤ i) → ad i = ad0 i) (hD : va_D A (m_w cI cL ad h)) (hS : va_S A s.heap H locs) (hL : lv_has lsA nL (ls.map (fun q => (q.1, m_v ad q.2))))
    (kk : m_Go D cI cL ad0 n0 nL A p l e R s m args below meth c Q (pc + 3) ls (v.toList ++ rest) h' (cu + mc2) (su + ms2)) : W p l e R s m args below meth c H locs cu su Q (F0 m pc lsA stA) := by
  intro T hT XX
  obtain ⟨v9, st₀, t, T', L, h0, X', hL', e1, e2, ⟨vv, hf, ad', he, hoc, hn', hag', hP', hD', hF⟩, st9⟩ := hr T hT XX
  cases he
  have had : ad' = ad := m_ag (n := h.length) (fun i hi => hag' i (by rw [hlen]; exact hi))
  subst had
  cases hoc
  have hAB := m_AB X hD hS
  obtain ⟨k1, k2, k3⟩ := vx_keep h0 e1 hS (fun q _ hq => hAB q hq) hAB hL' hF
  obtain ⟨t2, a1, b1⟩ := kk ad' T'.heap (locs ++ L) lsA (by rw [hlen]; exact hn) (by rw [hlen]; exact hag) (by rw [e1]; exact hP') (hD'.weaken (fun _ q _ hq => hAB q.1 hq)) k3 hL T' rfl X'
  refine ⟨t2, st9 t2 ?_, b1⟩
  rw [m_optmap]
  exact a1
/-- behind a call that may make things -/
theorem m_afterA {h' : m_H} {v : Option Value} {rest stA : List Value} {ad : Nat → Nat} {H : Heap} {locs : List Loc} {lsA : Array Slot} {mc2 ms2 : Nat} {a2 : Array Value} (X : m_At D cI cL sa y cc nL ret A TB p l s m args meth c)
    (hr : va_Run p l e R s m args below meth c H locs cu su mc2 ms2 (F0 m pc lsA stA) (rest.map (m_v ad)) (m_Q D cI cL ad h.length (va_A (m_w cI cL ad h) H.size) (.inl (v, h')) a2) (va_A (m_w cI cL ad h) H.size)) (hlen : h.length ≤ h'.length) (hrb : m_rb h.length ls rest = true)
    (hn : n0 ≤ h.length) (hag : ∀ i, (i < n0 ∨ h.length ≤ i) → ad i = ad0 i) (hD : va_D A (m_w cI cL ad h)) (hS : va_S A s.heap H locs) (hL : lv_has lsA nL (ls.map (fun q => (q.1, m_v ad q.2))))
    (kk : m_Go D cI cL ad0 n0 nL A p l e R s m args below meth c Q (pc + 3) ls (v.toList ++ rest) h' (cu + mc2) (su + ms2)) : W p l e R s m args below meth c H locs cu su Q (F0 m pc lsA stA) := by
  simp only [m_rb, Bool.and_eq_true] at hrb
  intro T hT XX
  obtain ⟨v9, st₀, t, T', L, h0, X', hL', e1, e2, ⟨vv, hf, ad', he, hoc, hn', hag', hP', hD', hF⟩, st9⟩ := hr T hT XX
  cases he
  cases hoc
  have ha : ∀ i, i < h.length → ad' i = ad i := fun i hi => hag' i (Or.inl hi)
  have hAB := m_AB X hD hS
  obtain ⟨k1, k2, k3⟩ := vx_keep h0 e1 hS (fun q _ hq => hAB q hq) hAB hL' hF
  obtain ⟨t2, a1, b1⟩ := kk ad' T'.heap (locs ++ L) lsA (by omega) (fun i hi => (hag' i (by omega)).trans (hag i (by omega))) (by rw [e1]; exact hP') (hD'.weaken (fun _ q _ hq => hAB q.1 hq)) k3 (by rw [m_ls_same ha hrb.1]; exact hL) T' rfl X'
  refine ⟨t2, st9 t2 ?_, b1⟩
  rw [← m_st_same ha hrb.2, m_optmap]
  exact a1
/-! ends -/
theorem m_iret {x : Int32} (X : m_At D cI cL sa y cc nL ret A TB p l s m args meth c) (hd : decode cc pc0 = .ok (.ireturn, 1)) (hr : ret = some .int) (ho : om = .inl (some (.int x), h)) (hc : cu ≤ mc) (hs : su ≤ ms) (hp : pc = pc0) : m_Go D cI cL ad0 n0 nL A p l e R s m args below meth c (m_VQ D cI cL ad0 n0 A om below args s mc ms) pc ls [.int x] h cu su := by
  subst hp
  intro ad H locs lsA hn hag hP hD hS hL
  exact W.widen hc hs (vx_ret (W.iret (m_ex X) (m_cb X) ((m_rt X).trans hr) (fun t ht hW => ⟨_, h, ad, ho, rfl, hn, hag, by rw [ht]; exact hP, hD, hS.F ht⟩) hS.2.2 hd (m_lk X)))
theorem m_zret {x : Int32} {ty : FieldType} (X : m_At D cI cL sa y cc nL ret A TB p l s m args meth c) (hd : decode cc pc0 = .ok (.ireturn, 1)) (hr : ret = some ty) (hx : narrow ty (.int x) = .int x) (ho : om = .inl (some (.int x), h)) (hc : cu ≤ mc) (hs : su ≤ ms) (hp : pc = pc0) : m_Go D cI cL ad0 n0 nL A p l e R s m args below meth c (m_VQ D cI cL ad0 n0 A om below args s mc ms) pc ls [.int x] h cu su := by
  subst hp
  intro ad H locs lsA hn hag hP hD hS hL
  exact W.widen hc hs (vx_ret (W.zret (m_ex X) (m_cb X) ((m_rt X).trans hr) hx (fun t ht hW => ⟨_, h, ad, ho, rfl, hn, hag, by rw [ht]; exact hP, hD, hS.F ht⟩) hS.2.2 hd (m_lk X)))
theorem m_lret {x : Int64} (X : m_At D cI cL sa y cc nL ret A TB p l s m args meth c) (hd : decode cc pc0 = .ok (.lreturn, 1)) (hr : ret = some .long) (ho : om = .inl (some (.long x), h)) (hc : cu ≤ mc) (hs : su ≤ ms) (hp : pc = pc0) : m_Go D cI cL ad0 n0 nL A p l e R s m args below meth c (m_VQ D cI cL ad0 n0 A om below args s mc ms) pc ls [.long x] h cu su := by
  subst hp
  intro ad H locs lsA hn hag hP hD hS hL
  exact W.widen hc hs (vx_ret (W.lret (m_ex X) (m_cb X) ((m_rt X).trans hr) (fun t ht hW => ⟨_, h, ad, ho, rfl, hn, hag, by rw [ht]; exact hP, hD, hS.F ht⟩) hS.2.2 hd (m_lk X)))
theorem m_vret (X : m_At D cI cL sa y cc nL ret A TB p l s m args meth c) (hd : decode cc pc0 = .ok (.return_, 1)) (hr : ret = none) (ho : om = .inl (none, h)) (hc : cu ≤ mc) (hs : su ≤ ms) (hp : pc = pc0) : m_Go D cI cL ad0 n0 nL A p l e R s m args below meth c (m_VQ D cI cL ad0 n0 A om below args s mc ms) pc ls [] h cu su := by
  subst hp
  intro ad H locs lsA hn hag hP hD hS hL
  exact W.widen hc hs (vx_ret (W.vret (m_ex X) (m_cb X) ((m_rt X).trans hr) (fun t ht hW => ⟨_, h, ad, ho, rfl, hn, hag, by rw [ht]; exact hP, hD, hS.F ht⟩) hS.2.2 hd (m_lk X)))

theorem m_callS {M : m_M} {h' : m_H} {v : Option Value} {rest : List Value} {k n : Nat} {as : List Value} (X : m_At D cI cL sa y cc nL ret A TB p l s m args meth c) (hd : decode cc pc0 = .ok (.invokestatic k, 3)) (hk : m_LK y.cls k M) (hK : m_MK M n) (hst : Cond.static (m_My M) ∈ m_ws) (hC : m_Ctr M as h (.inl (v, h'))) (hs9 : st = as.reverse ++ rest) (hn9 : as.length = n) (hlen : h'.length = h.length) (hro : (rest.map fun v => v.category).sum ≤ 8) (hrk : m_Mk M + 1 ≤ R.frames) (hrl : 8 + (m_Ml M + 11) + 32 * m_Mk M ≤ R.locals) (hcc : cu + m_Mc M ≤ R.cells) (hss : su + m_Ms M ≤ R.slots) (hp : pc = pc0)
    (kk : m_Go D cI cL ad0 n0 nL A p l e R s m args below meth c Q (pc0 + 3) ls (v.toList ++ rest) h' (cu + m_Mc M) (su + m_Ms M)) : m_Go D cI cL ad0 n0 nL A p l e R s m args below meth c Q pc ls st h cu su := by
  subst hp
  subst hs9
  intro ad H locs lsA hn hag hP hD hS hL
  have hM := m_met hC l D cI cL sa ad H.size (m_nt X)
  have hpre : PreS s H (m_Pre D cI cL sa ad h H.size as) (as.map (m_v ad)) := ⟨m_blind, m_pre X hP hD hS⟩
  refine (fun hr => m_after X hr hlen hn hag hD hS hL kk) (?_ : va_Run p l e R s m args below meth c H locs cu su _ _ (F0 m pc lsA (((as.reverse ++ rest) : List Value).map (m_v ad))) (rest.map (m_v ad)) (m_Q D cI cL ad h.length (va_A (m_w cI cL ad h) H.size) (.inl (v, h')) (as.map (m_v ad)).toArray) (va_A (m_w cI cL ad h) H.size))
  rcases hk with hk | ⟨host, hk⟩
  · exact va_runS (m_fix X) hM ⟨callB_of n (m_wd X) (m_good hK) rfl rfl rfl (m_wd X _ hK.2.1) (m_wd X _ hk) hK.2.2 ⟨hrk, hrl⟩, m_wd X _ hst⟩ hpre rfl (by rw [List.length_map]; exact hn9) hL.1 (by simp [List.map_append, List.map_reverse]) (lv_room (by rw [m_v_cats]; exact hro)) hd ⟨hcc, hss⟩
  · exact va_runSN (m_fix X) hM ⟨va_cnB n (m_wd X) (m_good hK) rfl rfl rfl ((m_ev X).1 _ hk) (m_wd X _ hK.2.1) hK.2.2 ⟨hrk, hrl⟩, m_wd X _ hst, trivial⟩ hpre rfl (by rw [List.length_map]; exact hn9) hL.1 (by simp [List.map_append, List.map_reverse]) (lv_room (by rw [m_v_cats]; exact hro)) hd ⟨hcc, hss⟩
theorem m_callV {M : m_M} {h' : m_H} {v : Option Value} {rest : List Value} {k n : Nat} {as : List Value} {q : Nat} {ci : Nat} {fs : List Value} (X : m_At D cI cL sa y cc nL ret A TB p l s m args meth c) (hd : decode cc pc0 = .ok (.invokevirtual k, 3)) (hk : m_LK y.cls k M) (hK : m_MK M n) (hin : Cond.instanceMethod (m_My M) ∈ m_ws) (hse : Cond.selects (m_My M).cls (m_My M) (m_My M) ∈ m_ws) (hq : h[q]? = some (m_ob ci fs)) (hci : (m_cl[ci]?).map Prod.fst = some (m_My M).cls) (hC : m_Ctr M (.ref q :: as) h (.inl (v, h'))) (hs9 : st = as.reverse ++ .ref q :: rest) (hn9 : as.length = n) (hlen : h'.length = h.length) (hro : (rest.map fun v => v.category).sum ≤ 8) (hrk : m_Mk M + 1 ≤ R.frames) (hrl : 8 + (m_Ml M + 11) + 32 * m_Mk M ≤ R.locals) (hcc : cu + m_Mc M ≤ R.cells) (hss : su + m_Ms M ≤ R.slots) (hp : pc = pc0)
    (kk : m_Go D cI cL ad0 n0 nL A p l e R s m args below meth c Q (pc0 + 3) ls (v.toList ++ rest) h' (cu + m_Mc M) (su + m_Ms M)) : m_Go D cI cL ad0 n0 nL A p l e R s m args below meth c Q pc ls st h cu su := by
  subst hp
  subst hs9
  intro ad H locs lsA hn hag hP hD hS hL
  have hM := m_met hC l D cI cL sa ad H.size (m_nt X)
  have hrec : ∃ cell : Cell, H[ad q]? = some cell ∧ cell.vm.isStatics = false ∧ s.vm.findClass (m_My M).cls = some cell.cls := by
    cases hcx : m_cl[ci]? with
    | none => rw [hcx] at hci; cases hci
    | some cq =>
      rw [hcx] at hci
      have e9 : cq.1 = (m_My M).cls := Option.some.inj hci
      rw [← e9]
      exact va_recv (m_kn X) hP hcx (m_w_at hq)
  have hpre : PreV s H (m_My M).cls (ad q) (m_Pre D cI cL sa ad h H.size (.ref q :: as)) (as.map (m_v ad)) := ⟨m_blind, hrec, m_pre (as := .ref q :: as) X hP hD hS⟩
  refine (fun hr => m_after X hr hlen hn hag hD hS hL kk) (?_ : va_Run p l e R s m args below meth c H locs cu su _ _ (F0 m pc lsA (((as.reverse ++ .ref q :: rest) : List Value).map (m_v ad))) (rest.map (m_v ad)) (m_Q D cI cL ad h.length (va_A (m_w cI cL ad h) H.size) (.inl (v, h')) (Value.ref (ad q) :: as.map (m_v ad)).toArray) (va_A (m_w cI cL ad h) H.size))
  rcases hk with hk | ⟨host, hk⟩
  · exact va_runV (m_fix X) hM ⟨callB_of n (m_wd X) (m_good hK) rfl rfl rfl (m_wd X _ hK.2.1) (m_wd X _ hk) hK.2.2 ⟨hrk, hrl⟩, m_wd X _ hin, m_wd X _ hse⟩ hpre rfl (by rw [List.length_map]; exact hn9) hL.1 (by simp [List.map_append, List.map_reverse, m_v]) (lv_room (by rw [m_v_cats]; exact hro)) hd ⟨hcc, hss⟩
  · exact va_runVN (m_fix X) hM ⟨va_cnB n (m_wd X) (m_good hK) rfl rfl rfl ((m_ev X).1 _ hk) (m_wd X _ hK.2.1) hK.2.2 ⟨hrk, hrl⟩, m_wd X _ hin, m_wd X _ hse⟩ hpre rfl (by rw [List.length_map]; exact hn9) hL.1 (by simp [List.map_append, List.map_reverse, m_v]) (lv_room (by rw [m_v_cats]; exact hro)) hd ⟨hcc, hss⟩
theorem m_callI {M : m_M} {h' : m_H} {v : Option Value} {rest : List Value} {k n : Nat} {as : List Value} {q : Nat} (X : m_At D cI cL sa y cc nL ret A TB p l s m args meth c) (hd : decode cc pc0 = .ok (.invokespecial k, 3)) (hk : m_LK y.cls k M) (hK : m_MK M n) (hin : Cond.instanceMethod (m_My M) ∈ m_ws) (hini : (m_My M).name = "<init>") (hrn : m_Mr M = none) (hC : m_Ctr M (.ref q :: as) h (.inl (v, h'))) (hs9 : st = as.reverse ++ .ref q :: rest) (hn9 : as.length = n) (hlen : h.length ≤ h'.length) (hrb : m_rb h.length ls rest = true) (hro : (rest.map fun v => v.category).sum ≤ 8) (hrk : m_Mk M + 1 ≤ R.frames) (hrl : 8 + (m_Ml M + 11) + 32 * m_Mk M ≤ R.locals) (hcc : cu + m_Mc M ≤ R.cells) (hss : su + m_Ms M ≤ R.slots) (hp : pc = pc0)
    (kk : m_Go D cI cL ad0 n0 nL A p l e R s m args below meth c Q (pc0 + 3) ls (v.toList ++ rest) h' (cu + m_Mc M) (su + m_Ms M)) : m_Go D cI cL ad0 n0 nL A p l e R s m args below meth c Q pc ls st h cu su := by
  subst hp
  subst hs9
  intro ad H locs lsA hn hag hP hD hS hL
  have hM := m_met hC l D cI cL sa ad H.size (m_nt X)
  have hpre : PreS s H (m_Pre D cI cL sa ad h H.size (.ref q :: as)) (.ref (ad q) :: as.map (m_v ad)) := ⟨m_blind, m_pre (as := .ref q :: as) X hP hD hS⟩
  obtain ⟨My, Mb, Ml, Mr, Mk, Mc, Ms⟩ := M
  cases hrn
  refine (fun hr => m_afterA X hr hlen hrb hn hag hD hS hL kk) (?_ : va_Run p l e R s m args below meth c H locs cu su _ _ (F0 m pc lsA (((as.reverse ++ .ref q :: rest) : List Value).map (m_v ad))) (rest.map (m_v ad)) (m_Q D cI cL ad h.length (va_A (m_w cI cL ad h) H.size) (.inl (v, h')) (Value.ref (ad q) :: as.map (m_v ad)).toArray) (va_A (m_w cI cL ad h) H.size))
  rcases hk with hk | ⟨host, hk⟩
  · exact va_runI (m_fix X) hM ⟨callB_of n (m_wd X) (m_good hK) rfl rfl rfl (m_wd X _ hK.2.1) (m_wd X _ hk) hK.2.2 ⟨hrk, hrl⟩, hini, m_wd X _ hin⟩ hpre rfl (by rw [List.length_map]; exact hn9) hL.1 (by simp [List.map_append, List.map_reverse, m_v]) (lv_room (by rw [m_v_cats]; exact hro)) hd ⟨hcc, hss⟩
  · exact va_runIN (m_fix X) hM ⟨va_cnB n (m_wd X) (m_good hK) rfl rfl rfl ((m_ev X).1 _ hk) (m_wd X _ hK.2.1) hK.2.2 ⟨hrk, hrl⟩, hini, m_wd X _ hin⟩ hpre rfl (by rw [List.length_map]; exact hn9) hL.1 (by simp [List.map_append, List.map_reverse, m_v]) (lv_room (by rw [m_v_cats]; exact hro)) hd ⟨hcc, hss⟩
theorem m_callH {M : m_M} {hh : List (Nat × Nat × Nat × Nat)} {h' : m_H} {v : Option Value} {rest : List Value} {k n : Nat} {as : List Value} (X : m_At D cI cL sa y cc nL ret A TB p l s m args meth c) (hd : decode cc pc0 = .ok (.invokestatic k, 3)) (hk : Cond.methodLink y.cls k (m_My M) ∈ m_ws) (hK : m_MKH M hh n) (hst : Cond.static (m_My M) ∈ m_ws) (hC : m_CtrH M hh as h (.inl (v, h'))) (hs9 : st = as.reverse ++ rest) (hn9 : as.length = n) (hlen : h'.length = h.length) (hro : (rest.map fun v => v.category).sum ≤ 8) (hrk : m_Mk M + 1 ≤ R.frames) (hrl : 8 + (m_Ml M + 11) + 32 * m_Mk M ≤ R.locals) (hcc : cu + m_Mc M ≤ R.cells) (hss : su + m_Ms M ≤ R.slots) (hp : pc = pc0)
    (kk : m_Go D cI cL ad0 n0 nL A p l e R s m args below meth c Q (pc0 + 3) ls (v.toList ++ rest) h' (cu + m_Mc M) (su + m_Ms M)) : m_Go D cI cL ad0 n0 nL A p l e R s m args below meth c Q pc ls st h cu su := by
  subst hp
  subst hs9
  intro ad H locs lsA hn hag hP hD hS hL
  have hM := m_metH hC l D cI cL sa ad H.size (m_nt X)
  have hpre : PreS s H (m_Pre D cI cL sa ad h H.size as) (as.map (m_v ad)) := ⟨m_blind, m_pre X hP hD hS⟩
  have hG : GoodIn m_ws (m_WsH M hh) := fun w hw => by
    rcases List.mem_cons.mp hw with rfl | hw
    · exact ⟨hK.1, good_of_word (m_ws_good hK.1)⟩
    · exact ⟨hw, good_of_word (m_ws_good hw)⟩
  refine (fun hr => m_after X hr hlen hn hag hD hS hL kk) (?_ : va_Run p l e R s m args below meth c H locs cu su _ _ (F0 m pc lsA (((as.reverse ++ rest) : List Value).map (m_v ad))) (rest.map (m_v ad)) (m_Q D cI cL ad h.length (va_A (m_w cI cL ad h) H.size) (.inl (v, h')) (as.map (m_v ad)).toArray) (va_A (m_w cI cL ad h) H.size))
  refine vx_runSW (hh := hh) (bytes := m_Mb M) (maxL := m_Ml M) (ret := m_Mr M) (n := n) (m_fix X) hM ⟨⟨rfl, rfl, hrk, hrl, pay_in (m_wd X) hG, List.mem_cons_self⟩, m_wd X _ hK.1, m_wd X _ hK.2.1, ⟨hK.2.2.1, hK.2.2.2.1⟩, fun sig h9 => ?_, m_wd X _ hk, m_wd X _ hst⟩ hpre rfl (by rw [List.length_map]; exact hn9) hL.1 (by simp [List.map_append, List.map_reverse]) (lv_room (by rw [m_v_cats]; exact hro)) hd ⟨hcc, hss⟩
  have h2 := hK.2.2.2.2
  rw [h9] at h2
  exact (Option.some.inj h2).symm
theorem m_thS_x {M : m_M} {h' : m_H} {E : String} {rest : List Value} {k n : Nat} {as : List Value} (X : m_At D cI cL sa y cc nL ret A TB p l s m args meth c) (hd : decode cc pc0 = .ok (.invokestatic k, 3)) (hk : Cond.methodLink y.cls k (m_My M) ∈ m_ws) (hK : m_MK M n) (hst : Cond.static (m_My M) ∈ m_ws) (hC : m_Ctr M as h (.inr (E, h'))) (hs9 : st = as.reverse ++ rest) (hn9 : as.length = n) (hlen : h'.length = h.length) (hro : (rest.map fun v => v.category).sum ≤ 8) (hrk : m_Mk M + 1 ≤ R.frames) (hrl : 8 + (m_Ml M + 11) + 32 * m_Mk M ≤ R.locals) (hcc : cu + m_Mc M ≤ R.cells) (hss : su + m_Ms M ≤ R.slots) (hp : pc = pc0)
    (kx : ∀ (ad : Nat → Nat) (H1 : Heap) (locs1 : List Loc) (lsA : Array Slot) (q9 : Addr) (ce : Cell), n0 ≤ h'.length → (∀ i, (i < n0 ∨ h'.length ≤ i) → ad i = ad0 i) → va_P D m_cl (m_w cI cL ad h') H1 → va_D A (m_w cI cL ad h') → va_S A s.heap H1 locs1 → lv_has lsA nL (ls.map (fun q => (q.1, m_v ad q.2))) → H1[q9]? = some ce → ce.vm = .none → s.vm.findClass E = some ce.cls → vx_W p l e R s m args below meth c H1 locs1 (cu + m_Mc M) (su + m_Ms M) Q (F0 m pc0 lsA (rest.map (m_v ad))) q9) : m_Go D cI cL ad0 n0 nL A p l e R s m args below meth c Q pc ls st h cu su := by
  subst hp
  subst hs9
  intro ad H locs lsA hn hag hP hD hS hL
  have hM := hC l D cI cL sa ad H.size (m_nt X)
  have hpre : PreS s H (m_Pre D cI cL sa ad h H.size as) (as.map (m_v ad)) := ⟨m_blind, m_pre X hP hD hS⟩
  have hr : vx_Run p l e R s m args below meth c H locs cu su _ _ (F0 m pc lsA (((as.reverse ++ rest) : List Value).map (m_v ad))) (rest.map (m_v ad)) _ _ _ := vx_runS (m_fix X) hM ⟨callB_of n (m_wd X) (m_good hK) rfl rfl rfl (m_wd X _ hK.2.1) (m_wd X _ hk) hK.2.2 ⟨hrk, hrl⟩, m_wd X _ hst⟩ hpre rfl (by rw [List.length_map]; exact hn9) hL.1 (by simp [List.map_append, List.map_reverse]) (lv_room (by rw [m_v_cats]; exact hro)) hd ⟨hcc, hss⟩
  intro T hT XX
  rcases hr T hT XX with ⟨v9, st₀, t, T', L, h0, X', hL', e1, e2, ⟨vv, hf, ad', he, -⟩, -⟩ | ⟨q9, st₀, t, T', L, E9, ce, h0, X', hL', e1, e2, ⟨hf, ad', he, hn', hag', hP', hD', hF⟩, hce, hcv, hcl, st9⟩
  · cases he
  · cases he
    have had : ad' = ad := m_ag (n := h.length) (fun i hi => hag' i (by rw [hlen]; exact hi))
    subst had
    have hAB := m_AB X hD hS
    obtain ⟨k1, k2, k3⟩ := vx_keep h0 e1 hS (fun q _ hq => hAB q hq) hAB hL' hF
    obtain ⟨t2, a1, b1⟩ := kx ad' T'.heap (locs ++ L) lsA q9 ce (by rw [hlen]; exact hn) (by rw [hlen]; exact hag) (by rw [e1]; exact hP') (hD'.weaken (fun _ q _ hq => hAB q.1 hq)) k3 hL (by rw [e1]; exact hce) hcv hcl T' rfl X'
    exact ⟨t2, st9.trans a1, b1⟩
theorem m_thrS {M : m_M} {h' : m_H} {E : String} {rest : List Value} {k n : Nat} {as : List Value} (X : m_At D cI cL sa y cc nL ret A TB p l s m args meth c) (hd : decode cc pc0 = .ok (.invokestatic k, 3)) (hk : Cond.methodLink y.cls k (m_My M) ∈ m_ws) (hK : m_MK M n) (hst : Cond.static (m_My M) ∈ m_ws) (hC : m_Ctr M as h (.inr (E, h'))) (hs9 : st = as.reverse ++ rest) (hn9 : as.length = n) (hlen : h'.length = h.length) (hro : (rest.map fun v => v.category).sum ≤ 8) (hrk : m_Mk M + 1 ≤ R.frames) (hrl : 8 + (m_Ml M + 11) + 32 * m_Mk M ≤ R.locals) (hcc : cu + m_Mc M ≤ R.cells) (hss : su + m_Ms M ≤ R.slots) (hp : pc = pc0) (htb : TB = []) (ho : om = .inr (E, h')) (hmc : cu + m_Mc M ≤ mc) (hms : su + m_Ms M ≤ ms) : m_Go D cI cL ad0 n0 nL A p l e R s m args below meth c (m_VQ D cI cL ad0 n0 A om below args s mc ms) pc ls st h cu su := by
  refine m_thS_x X hd hk hK hst hC hs9 hn9 hlen hro hrk hrl hcc hss hp (fun ad H1 locs1 lsA q9 ce hn hag hP hD hS hL hce hcv hcl => ?_)
  refine vx_widen hmc hms (vx_out (fun x hx => ?_) (m_lk X) hce hcv hcl (fun t ht hal => ⟨h', ad, ho, hn, hag, by rw [ht]; exact hP, hD, hS.F ht⟩) hS.2.2 (Nat.le_refl _) (Nat.le_refl _))
  rw [m_tb X, htb] at hx
  cases hx
theorem m_thV_x {M : m_M} {h' : m_H} {E : String} {rest : List Value} {k n : Nat} {as : List Value} {q : Nat} {ci : Nat} {fs : List Value} (X : m_At D cI cL sa y cc nL ret A TB p l s m args meth c) (hd : decode cc pc0 = .ok (.invokevirtual k, 3)) (hk : Cond.methodLink y.cls k (m_My M) ∈ m_ws) (hK : m_MK M n) (hin : Cond.instanceMethod (m_My M) ∈ m_ws) (hse : Cond.selects (m_My M).cls (m_My M) (m_My M) ∈ m_ws) (hq : h[q]? = some (m_ob ci fs)) (hci : (m_cl[ci]?).map Prod.fst = some (m_My M).cls) (hC : m_Ctr M (.ref q :: as) h (.inr (E, h'))) (hs9 : st = as.reverse ++ .ref q :: rest) (hn9 : as.length = n) (hlen : h'.length = h.length) (hro : (rest.map fun v => v.category).sum ≤ 8) (hrk : m_Mk M + 1 ≤ R.frames) (hrl : 8 + (m_Ml M + 11) + 32 * m_Mk M ≤ R.locals) (hcc : cu + m_Mc M ≤ R.cells) (hss : su + m_Ms M ≤ R.slots) (hp : pc = pc0)
    (kx : ∀ (ad : Nat → Nat) (H1 : Heap) (locs1 : List Loc) (lsA : Array Slot) (q9 : Addr) (ce : Cell), n0 ≤ h'.length → (∀ i, (i < n0 ∨ h'.length ≤ i) → ad i = ad0 i) → va_P D m_cl (m_w cI cL ad h') H1 → va_D A (m_w cI cL ad h') → va_S A s.heap H1 locs1 → lv_has lsA nL (ls.map (fun q => (q.1, m_v ad q.2))) → H1[q9]? = some ce → ce.vm = .none → s.vm.findClass E = some ce.cls → vx_W p l e R s m args below meth c H1 locs1 (cu + m_Mc M) (su + m_Ms M) Q (F0 m pc0 lsA (rest.map (m_v ad))) q9) : m_Go D cI cL ad0 n0 nL A p l e R s m args below meth c Q pc ls st h cu su := by
  subst hp
  subst hs9
  intro ad H locs lsA hn hag hP hD hS hL
  have hM := hC l D cI cL sa ad H.size (m_nt X)
  have hrec : ∃ cell : Cell, H[ad q]? = some cell ∧ cell.vm.isStatics = false ∧ s.vm.findClass (m_My M).cls = some cell.cls := by
    cases hcx : m_cl[ci]? with
    | none => rw [hcx] at hci; cases hci
    | some cq =>
      rw [hcx] at hci
      have e9 : cq.1 = (m_My M).cls := Option.some.inj hci
      rw [← e9]
      exact va_recv (m_kn X) hP hcx (m_w_at hq)
  have hpre : PreV s H (m_My M).cls (ad q) (m_Pre D cI cL sa ad h H.size (.ref q :: as)) (as.map (m_v ad)) := ⟨m_blind, hrec, m_pre (as := .ref q :: as) X hP hD hS⟩
  have hr : vx_Run p l e R s m args below meth c H locs cu su _ _ (F0 m pc lsA (((as.reverse ++ .ref q :: rest) : List Value).map (m_v ad))) (rest.map (m_v ad)) _ _ _ := vx_runV (m_fix X) hM ⟨callB_of n (m_wd X) (m_good hK) rfl rfl rfl (m_wd X _ hK.2.1) (m_wd X _ hk) hK.2.2 ⟨hrk, hrl⟩, m_wd X _ hin, m_wd X _ hse⟩ hpre rfl (by rw [List.length_map]; exact hn9) hL.1 (by simp [List.map_append, List.map_reverse, m_v]) (lv_room (by rw [m_v_cats]; exact hro)) hd ⟨hcc, hss⟩
  intro T hT XX
  rcases hr T hT XX with ⟨v9, st₀, t, T', L, h0, X', hL', e1, e2, ⟨vv, hf, ad', he, -⟩, -⟩ | ⟨q9, st₀, t, T', L, E9, ce, h0, X', hL', e1, e2, ⟨hf, ad', he, hn', hag', hP', hD', hF⟩, hce, hcv, hcl, st9⟩
  · cases he
  · cases he
    have had : ad' = ad := m_ag (n := h.length) (fun i hi => hag' i (by rw [hlen]; exact hi))
    subst had
    have hAB := m_AB X hD hS
    obtain ⟨k1, k2, k3⟩ := vx_keep h0 e1 hS (fun q _ hq => hAB q hq) hAB hL' hF
    obtain ⟨t2, a1, b1⟩ := kx ad' T'.heap (locs ++ L) lsA q9 ce (by rw [hlen]; exact hn) (by rw [hlen]; exact hag) (by rw [e1]; exact hP') (hD'.weaken (fun _ q _ hq => hAB q.1 hq)) k3 hL (by rw [e1]; exact hce) hcv hcl T' rfl X'
    exact ⟨t2, st9.trans a1, b1⟩
theorem m_thrV {M : m_M} {h' : m_H} {E : String} {rest : List Value} {k n : Nat} {as : List Value} {q : Nat} {ci : Nat} {fs : List Value} (X : m_At D cI cL sa y cc nL ret A TB p l s m args meth c) (hd : decode cc pc0 = .ok (.invokevirtual k, 3)) (hk : Cond.methodLink y.cls k (m_My M) ∈ m_ws) (hK : m_MK M n) (hin : Cond.instanceMethod (m_My M) ∈ m_ws) (hse : Cond.selects (m_My M).cls (m_My M) (m_My M) ∈ m_ws) (hq : h[q]? = some (m_ob ci fs)) (hci : (m_cl[ci]?).map Prod.fst = some (m_My M).cls) (hC : m_Ctr M (.ref q :: as) h (.inr (E, h'))) (hs9 : st = as.reverse ++ .ref q :: rest) (hn9 : as.length = n) (hlen : h'.length = h.length) (hro : (rest.map fun v => v.category).sum ≤ 8) (hrk : m_Mk M + 1 ≤ R.frames) (hrl : 8 + (m_Ml M + 11) + 32 * m_Mk M ≤ R.locals) (hcc : cu + m_Mc M ≤ R.cells) (hss : su + m_Ms M ≤ R.slots) (hp : pc = pc0) (htb : TB = []) (ho : om = .inr (E, h')) (hmc : cu + m_Mc M ≤ mc) (hms : su + m_Ms M ≤ ms) : m_Go D cI cL ad0 n0 nL A p l e R s m args below meth c (m_VQ D cI cL ad0 n0 A om below args s mc ms) pc ls st h cu su := by
  refine m_thV_x X hd hk hK hin hse hq hci hC hs9 hn9 hlen hro hrk hrl hcc hss hp (fun ad H1 locs1 lsA q9 ce hn hag hP hD hS hL hce hcv hcl => ?_)
  refine vx_widen hmc hms (vx_out (fun x hx => ?_) (m_lk X) hce hcv hcl (fun t ht hal => ⟨h', ad, ho, hn, hag, by rw [ht]; exact hP, hD, hS.F ht⟩) hS.2.2 (Nat.le_refl _) (Nat.le_refl _))
  rw [m_tb X, htb] at hx
  cases hx
theorem m_throw {ik is ic j : Nat} {E text : String} {names : List String} (X : m_At D cI cL sa y cc nL ret A TB p l s m args meth c) (d0 : decode cc pc0 = .ok (.new ik, 3)) (d3 : decode cc (pc0 + 3) = .ok (.dup, 1)) (d4 : decode cc (pc0 + 4) = .ok (.ldc is, 2)) (d6 : decode cc (pc0 + 6) = .ok (.invokespecial ic, 3)) (d9 : decode cc (pc0 + 9) = .ok (.athrow, 1))
    (hE : Bundle.fit E = true) (hnm : ∀ n ∈ names, Bundle.fit n = true) (h1 : Cond.classLink y.cls ik E ∈ m_ws) (h2 : Cond.initialized E ∈ m_ws) (hj : m_str[j]? = some (y.cls, is, text)) (hat : ∀ w ∈ vx_atS y.cls ic E names, w ∈ m_ws ∨ w ∈ m_nw) (htb : TB = [])
    (hfr : names.length + 3 < R.frames) (hlo : (st.map fun v => v.category).sum + (13 * (names.length + 1) + 43) ≤ R.locals) (hcc : cu + 1 ≤ R.cells) (hss : su + 6 ≤ R.slots) (ho : om = .inr (E, h)) (hmc : cu + 1 ≤ mc) (hms : su + 6 ≤ ms) (hp : pc = pc0) : m_Go D cI cL ad0 n0 nL A p l e R s m args below meth c (m_VQ D cI cL ad0 n0 A om below args s mc ms) pc ls st h cu su := by
  subst hp
  intro ad H locs lsA hn hag hP hD hS hL
  have hw : ∀ w ∈ vx_atS y.cls ic E names, w.before args s = true := fun w hw => by
    rcases hat w hw with h9 | h9
    · exact m_wd X _ h9
    · exact va_Nw.use (m_isN_on (m_nw_is h9)) ((m_ev X).1 _ h9)
  have hg : ∀ w ∈ Cond.classLink y.cls ik E :: Cond.initialized E :: vx_atS y.cls ic E names, vx_ot w = true := fun w hw => by
    have g1 : w ∈ m_ws ∨ w ∈ m_nw := by
      rcases List.mem_cons.mp hw with rfl | hw
      · exact Or.inl h1
      · rcases List.mem_cons.mp hw with rfl | hw
        · exact Or.inl h2
        · exact hat w hw
    unfold vx_ot
    rcases g1 with g | g
    · rw [m_ws_good g, Bool.or_true]
    · rw [m_isN_on (m_nw_is g), Bool.true_or]
  exact vx_throwS (A := A) (m_ex X) (m_cb X) (m_nt X) (m_ow X) hE hnm (m_wd X _ h1) (m_wd X _ h2) ((m_ev X).2.1 j _ hj) hw hg (m_ev X).2.2.1 (m_ev X).2.2.2 hS (hL.1.trans (m_ml X).symm) d0 d3 d4 d6 d9 (fun x hx => by rw [m_tb X, htb] at hx; cases hx) hfr (by rw [m_v_cats]; exact hlo) hcc hss (m_lk X)
    (fun t hal hz hk => ⟨h, ad, ho, hn, hag, fun k q hkq => (hP k q hkq).kept (hk q.1 (hP k q hkq).lt), hD, ⟨Nat.le_trans hS.1 hz, fun q h1 h2 => (hk q (Nat.lt_of_lt_of_le h1 hS.1)).trans (hS.2.1 q h1 h2)⟩⟩) hS.2.2 hmc hms
end MC

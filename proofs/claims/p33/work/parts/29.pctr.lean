section MPC
/-- the outcome is one that P describes -/
def m_QP (D : va_G) (cI cL : ClassId) (ad : Nat → Nat) (n0 : Nat) (A : Nat → Prop) (P : Option Value → m_H → Prop) : Array Value → State → Outcome → State → Prop := fun a st oc t => ∃ (v : Option Value) (hf : m_H), P v hf ∧ m_Q D cI cL ad n0 A (.inl (v, hf)) a st oc t
def m_XN : String → State → State → Prop := fun _ _ _ => False
abbrev m_VP (D : va_G) (cI cL : ClassId) (ad : Nat → Nat) (n0 : Nat) (A : Nat → Prop) (P : Option Value → m_H → Prop) (below : List Frame) (args : Array Value) (s : State) (mc ms : Nat) : State → Prop := vx_MQ below (m_QP D cI cL ad n0 A P) m_XN args s mc ms A
abbrev m_Ex : Type := (Nat → Prop) → (Nat → Nat) → State → Prop
def m_No : m_Ex := fun _ _ _ => True
/-- the script: an array that is no cell of the mini heap, under a number that no cell has -/
def m_BI : Nat := 1000000
def m_Sc (L : Nat) (xs : Nat → Int32) : m_Ex := fun A ad U => va_X (ad m_BI) L xs U U.heap ∧ ad m_BI < U.heap.size ∧ ¬ A (ad m_BI)
def m_Bl (Ex : m_Ex) : Prop := ∀ (A : Nat → Prop) (ad : Nat → Nat) (U : State) (g : JFrame) (mk : MethodId) (a : Array Value), Ex A ad U → Ex A ad (U.calling g mk a)
theorem m_Bl_No : m_Bl m_No := fun _ _ _ _ _ _ h => h
theorem m_Bl_Sc {L : Nat} {xs : Nat → Int32} : m_Bl (m_Sc L xs) := fun A ad U g mk a h => ⟨va_X.moved (u := U) (U := U.calling g mk a) (Vm.Alike.refl U.vm) h.1, h.2.1, h.2.2⟩
def m_PreG (D : va_G) (cI cL : ClassId) (sa ad : Nat → Nat) (h : m_H) (sz : Nat) (as : List Value) (Ex : m_Ex) : Array Value → State → Prop := fun av U => m_Pre D cI cL sa ad h sz as av U ∧ Ex (va_A (m_w cI cL ad h) sz) ad U
theorem m_blindG {D : va_G} {cI cL : ClassId} {sa ad : Nat → Nat} {h : m_H} {sz : Nat} {as : List Value} {Ex : m_Ex} (hB : m_Bl Ex) : FrameBlind (m_PreG D cI cL sa ad h sz as Ex) := fun a U g mk q => ⟨m_blind a U g mk q.1, hB _ _ _ _ _ _ q.2⟩
def m_CtrG (M : m_M) (ws : List Cond) (as : List Value) (h : m_H) (Ex : m_Ex) (P : Option Value → m_H → Prop) : Prop := ∀ (l : Launch) (D : va_G) (cI cL : ClassId) (sa ad : Nat → Nat) (sz : Nat), l.stackTraces = false →
  vx_Met l (m_My M) ws (m_rm M) (m_PreG D cI cL sa ad h sz as Ex) (m_QP D cI cL ad h.length (va_A (m_w cI cL ad h) sz) P) m_XN (m_Mc M) (m_Ms M) (va_A (m_w cI cL ad h) sz)
abbrev m_CtrP (M : m_M) (as : List Value) (h : m_H) (P : Option Value → m_H → Prop) : Prop := m_CtrG M (m_Ws M) as h m_No P
theorem m_CtrP_of {M : m_M} {as : List Value} {h h' : m_H} {v : Option Value} {P : Option Value → m_H → Prop} (hC : m_Ctr M as h (.inl (v, h'))) (hP : P v h') : m_CtrP M as h P := fun l D cI cL sa ad sz hl =>
  MetFree.mono (hC l D cI cL sa ad sz hl) (fun _ _ h => h.1) (fun _ _ _ _ _ h => h) (fun a st o t _ hq => by
    rcases hq with ⟨h1, L, h2, h3⟩ | ⟨q, ho, E, ce, L, hx, -⟩
    · exact Or.inl ⟨⟨v, h', hP, h1⟩, L, h2, h3⟩
    · obtain ⟨hf, ad', he, -⟩ := hx
      cases he)
theorem m_CtrP_mono {M : m_M} {as : List Value} {h : m_H} {P P' : Option Value → m_H → Prop} (hC : m_CtrP M as h P) (hP : ∀ v h', P v h' → P' v h') : m_CtrP M as h P' := fun l D cI cL sa ad sz hl =>
  MetFree.mono (hC l D cI cL sa ad sz hl) (fun _ _ h => h) (fun _ _ _ _ _ h => h) (fun a st o t _ hq => by
    rcases hq with ⟨⟨v, hf, h0, h1⟩, L, h2, h3⟩ | ⟨q, ho, E, ce, L, hx, -⟩
    · exact Or.inl ⟨⟨v, hf, hP v hf h0, h1⟩, L, h2, h3⟩
    · exact hx.elim)
theorem m_metG {M : m_M} {ws : List Cond} {as : List Value} {h : m_H} {Ex : m_Ex} {P : Option Value → m_H → Prop} (hC : m_CtrG M ws as h Ex P) (l : Launch) (D : va_G) (cI cL : ClassId) (sa ad : Nat → Nat) (sz : Nat) (hl : l.stackTraces = false) :
    Met l (m_My M) ws (m_rm M) (m_PreG D cI cL sa ad h sz as Ex) (m_QP D cI cL ad h.length (va_A (m_w cI cL ad h) sz) P) (m_Mc M) (m_Ms M) (va_A (m_w cI cL ad h) sz) :=
  MetFree.mono (hC l D cI cL sa ad sz hl) (fun _ _ h => h) (fun _ _ _ _ _ h => h) (fun a st o t _ hq => by
    rcases hq with ⟨h1, L, h2, h3⟩ | ⟨q, ho, E, ce, L, hx, -⟩
    · exact ⟨h1, L, h2, h3⟩
    · exact hx.elim)
theorem m_introG {M : m_M} {as : List Value} {h : m_H} {Ex : m_Ex} {P : Option Value → m_H → Prop} (hy : plainName (m_My M).cls = true) (hsz : (lg_sl as).length ≤ m_Ml M)
    (body : ∀ {D : va_G} {cI cL : ClassId} {sa : Nat → Nat} {A : Nat → Prop} {p : Program} {l : Launch} {e : Env} {s : State} {m : MethodId} {args : Array Value} {below : List Frame} {meth : Method} {c : Code} {ad : Nat → Nat}, m_At D cI cL sa (m_My M) (m_Mb M) (m_Ml M) (m_Mr M) A [] p l s m args meth c → Ex A ad s →
      m_Go D cI cL ad h.length (m_Ml M) A p l e (m_rm M) s m args below meth c (m_VP D cI cL ad h.length A P below args s (m_Mc M) (m_Ms M)) 0 (lv_args 0 as) [] h 0 0) : m_CtrG M (m_Ws M) as h Ex P := by
  intro l D cI cL sa ad sz hl
  refine vx_ofW (cc := m_Mb M) (maxL := m_Ml M) (ret := m_Mr M) hy rfl ?_
  intro p e s m args below meth c s₁ B hml ht hv
  obtain ⟨⟨rfl, hsz9, hP, hD0, hK, hE⟩, hX9⟩ := hv
  subst hsz9
  have hD := hD0.self (sz := s.heap.size)
  have hts := atoms_spec (ws := m_Ws M) B.pre
  have X : m_At D cI cL sa (m_My M) (m_Mb M) (m_Ml M) (m_Mr M) (va_A (m_w cI cL ad h) s.heap.size) [] p l s m (as.map (m_v ad)).toArray meth c :=
    ⟨B.exec, B.bytes, hml, B.returns, B.notSynchronized, (name_of_methodNamed B.named B.method).1, findClass_of_methodNamed B.named, fun w hw => hts w (List.mem_cons_of_mem _ hw), hK, hE, fun q hq => Or.inr hq, hl, List.eq_nil_iff_forall_not_mem.mpr ht⟩
  have hl9 := lv_entry (as.map (m_v ad)) (n := m_Ml M) (by rw [m_lsl]; exact hsz)
  rw [m_largs] at hl9
  rw [lg_entry_eq]
  exact body X hX9 ad s.heap [] _ (Nat.le_refl _) (fun _ _ => rfl) hP hD va_S.rf hl9
theorem m_introGH {M : m_M} {hh : List (Nat × Nat × Nat × Nat)} {as : List Value} {h : m_H} {Ex : m_Ex} {P : Option Value → m_H → Prop} (hy : plainName (m_My M).cls = true) (hsz : (lg_sl as).length ≤ m_Ml M)
    (body : ∀ {D : va_G} {cI cL : ClassId} {sa : Nat → Nat} {A : Nat → Prop} {p : Program} {l : Launch} {e : Env} {s : State} {m : MethodId} {args : Array Value} {below : List Frame} {meth : Method} {c : Code} {ad : Nat → Nat}, m_At D cI cL sa (m_My M) (m_Mb M) (m_Ml M) (m_Mr M) A (tableOf hh) p l s m args meth c → Ex A ad s →
      m_Go D cI cL ad h.length (m_Ml M) A p l e (m_rm M) s m args below meth c (m_VP D cI cL ad h.length A P below args s (m_Mc M) (m_Ms M)) 0 (lv_args 0 as) [] h 0 0) : m_CtrG M (m_WsH M hh) as h Ex P := by
  intro l D cI cL sa ad sz hl
  refine vx_ofWH (cc := m_Mb M) (maxL := m_Ml M) (ret := m_Mr M) (hh := hh) hy rfl ?_
  intro p e s m args below meth c s₁ B hml hv
  obtain ⟨⟨rfl, hsz9, hP, hD0, hK, hE⟩, hX9⟩ := hv
  subst hsz9
  have hD := hD0.self (sz := s.heap.size)
  have hts := atoms_spec (ws := m_WsH M hh) B.pre
  have X : m_At D cI cL sa (m_My M) (m_Mb M) (m_Ml M) (m_Mr M) (va_A (m_w cI cL ad h) s.heap.size) (tableOf hh) p l s m (as.map (m_v ad)).toArray meth c :=
    ⟨B.exec, B.bytes, hml, B.returns, B.notSynchronized, (name_of_methodNamed B.named B.method).1, findClass_of_methodNamed B.named, fun w hw => hts w (List.mem_cons_of_mem _ hw), hK, hE, fun q hq => Or.inr hq, hl, vx_table (x := m_My M) B (hts _ List.mem_cons_self)⟩
  have hl9 := lv_entry (as.map (m_v ad)) (n := m_Ml M) (by rw [m_lsl]; exact hsz)
  rw [m_largs] at hl9
  rw [lg_entry_eq]
  exact body X hX9 ad s.heap [] _ (Nat.le_refl _) (fun _ _ => rfl) hP hD va_S.rf hl9
variable {D : va_G} {cI cL : ClassId} {sa : Nat → Nat} {y : MethodName} {cc : ByteArray} {nL : Nat} {ret : Option FieldType} {A : Nat → Prop} {TB : List ExceptionTableEntry} {p : Program} {l : Launch} {e : Env} {R : Room} {s : State} {m : MethodId} {args : Array Value} {below : List Frame} {meth : Method} {c : Code} {Q : State → Prop} {ad0 : Nat → Nat} {n0 pc pc0 : Nat} {ls : List (Nat × Value)} {st : List Value} {h : m_H} {cu su : Nat} {P : Option Value → m_H → Prop} {mc ms : Nat}
/-- an end that P allows -/
theorem m_toP {v : Option Value} {hf : m_H} (hPv : P v hf) (k : m_Go D cI cL ad0 n0 nL A p l e R s m args below meth c (m_VQ D cI cL ad0 n0 A (.inl (v, hf)) below args s mc ms) pc ls st h cu su) : m_Go D cI cL ad0 n0 nL A p l e R s m args below meth c (m_VP D cI cL ad0 n0 A P below args s mc ms) pc ls st h cu su := by
  intro ad H locs lsA hn hag hP hD hS hL T hT X9
  obtain ⟨t, a1, o, b1, b2, b3⟩ := k ad H locs lsA hn hag hP hD hS hL T hT X9
  refine ⟨t, a1, o, b1, b2, ?_⟩
  rcases b3 with ⟨b3, b4⟩ | ⟨q, ho, E, ce, L, hx, -⟩
  · exact Or.inl ⟨⟨v, hf, hPv, b3⟩, b4⟩
  · obtain ⟨hf', ad', he, -⟩ := hx
    cases he
theorem m_afterP {rest stA : List Value} {ad : Nat → Nat} {H : Heap} {locs : List Loc} {lsA : Array Slot} {mc2 ms2 : Nat} {a2 : Array Value} (X : m_At D cI cL sa y cc nL ret A TB p l s m args meth c)
    (hr : va_Run p l e R s m args below meth c H locs cu su mc2 ms2 (F0 m pc lsA stA) (rest.map (m_v ad)) (m_QP D cI cL ad h.length (va_A (m_w cI cL ad h) H.size) P a2) (va_A (m_w cI cL ad h) H.size)) (hlen : ∀ v h', P v h' → h'.length = h.length)
    (hn : n0 ≤ h.length) (hag : ∀ i, (i < n0 ∨ h.length ≤ i) → ad i = ad0 i) (hD : va_D A (m_w cI cL ad h)) (hS : va_S A s.heap H locs) (hL : lv_has lsA nL (ls.map (fun q => (q.1, m_v ad q.2))))
    (kk : ∀ (v : Option Value) (h' : m_H), P v h' → m_Go D cI cL ad0 n0 nL A p l e R s m args below meth c Q (pc + 3) ls (v.toList ++ rest) h' (cu + mc2) (su + ms2)) : W p l e R s m args below meth c H locs cu su Q (F0 m pc lsA stA) := by
  intro T hT XX
  obtain ⟨v9, st₀, t, T', L, h0, X', hL', e1, e2, ⟨vP, hf, hPv, vv, hf2, ad', he, hoc, hn', hag', hP', hD', hF⟩, st9⟩ := hr T hT XX
  cases he
  cases hoc
  have hl9 := hlen _ _ hPv
  have had : ad' = ad := m_ag (n := h.length) (fun i hi => hag' i (by rw [hl9]; exact hi))
  subst had
  have hAB := m_AB X hD hS
  obtain ⟨k1, k2, k3⟩ := vx_keep h0 e1 hS (fun q _ hq => hAB q hq) hAB hL' hF
  obtain ⟨t2, a1, b1⟩ := kk _ _ hPv ad' T'.heap (locs ++ L) lsA (by rw [hl9]; exact hn) (by rw [hl9]; exact hag) (by rw [e1]; exact hP') (hD'.weaken (fun _ q _ hq => hAB q.1 hq)) k3 hL T' rfl X'
  refine ⟨t2, st9 t2 ?_, b1⟩
  rw [m_optmap]
  exact a1
theorem m_afterPA {rest stA : List Value} {ad : Nat → Nat} {H : Heap} {locs : List Loc} {lsA : Array Slot} {mc2 ms2 : Nat} {a2 : Array Value} (X : m_At D cI cL sa y cc nL ret A TB p l s m args meth c)
    (hr : va_Run p l e R s m args below meth c H locs cu su mc2 ms2 (F0 m pc lsA stA) (rest.map (m_v ad)) (m_QP D cI cL ad h.length (va_A (m_w cI cL ad h) H.size) P a2) (va_A (m_w cI cL ad h) H.size)) (hlen : ∀ v h', P v h' → h.length ≤ h'.length) (hrb : m_rb h.length ls rest = true)
    (hn : n0 ≤ h.length) (hag : ∀ i, (i < n0 ∨ h.length ≤ i) → ad i = ad0 i) (hD : va_D A (m_w cI cL ad h)) (hS : va_S A s.heap H locs) (hL : lv_has lsA nL (ls.map (fun q => (q.1, m_v ad q.2))))
    (kk : ∀ (v : Option Value) (h' : m_H), P v h' → m_Go D cI cL ad0 n0 nL A p l e R s m args below meth c Q (pc + 3) ls (v.toList ++ rest) h' (cu + mc2) (su + ms2)) : W p l e R s m args below meth c H locs cu su Q (F0 m pc lsA stA) := by
  simp only [m_rb, Bool.and_eq_true] at hrb
  intro T hT XX
  obtain ⟨v9, st₀, t, T', L, h0, X', hL', e1, e2, ⟨vP, hf, hPv, vv, hf2, ad', he, hoc, hn', hag', hP', hD', hF⟩, st9⟩ := hr T hT XX
  cases he
  cases hoc
  have hl9 := hlen _ _ hPv
  have ha : ∀ i, i < h.length → ad' i = ad i := fun i hi => hag' i (Or.inl hi)
  have hAB := m_AB X hD hS
  obtain ⟨k1, k2, k3⟩ := vx_keep h0 e1 hS (fun q _ hq => hAB q hq) hAB hL' hF
  obtain ⟨t2, a1, b1⟩ := kk _ _ hPv ad' T'.heap (locs ++ L) lsA (by omega) (fun i hi => (hag' i (by omega)).trans (hag i (by omega))) (by rw [e1]; exact hP') (hD'.weaken (fun _ q _ hq => hAB q.1 hq)) k3 (by rw [m_ls_same ha hrb.1]; exact hL) T' rfl X'
  refine ⟨t2, st9 t2 ?_, b1⟩
  rw [← m_st_same ha hrb.2, m_optmap]
  exact a1
theorem m_callG {M : m_M} {Ex : m_Ex} {rest : List Value} {k n : Nat} {as : List Value} (X : m_At D cI cL sa y cc nL ret A TB p l s m args meth c) (hd : decode cc pc0 = .ok (.invokestatic k, 3)) (hk : Cond.methodLink y.cls k (m_My M) ∈ m_ws) (hK : m_MK M n) (hst : Cond.static (m_My M) ∈ m_ws) (hC : m_CtrG M (m_Ws M) as h Ex P) (hBl : m_Bl Ex) (hEx : ∀ (ad : Nat → Nat) (H : Heap) (locs : List Loc), (∀ i, (i < n0 ∨ h.length ≤ i) → ad i = ad0 i) → va_D A (m_w cI cL ad h) → va_S A s.heap H locs → ∀ U : State, U.heap = H → s.WarmedH U.vm → Ex (va_A (m_w cI cL ad h) H.size) ad U) (hs9 : st = as.reverse ++ rest) (hn9 : as.length = n) (hlen : ∀ v h', P v h' → h'.length = h.length) (hro : (rest.map fun v => v.category).sum ≤ 8) (hrk : m_Mk M + 1 ≤ R.frames) (hrl : 8 + (m_Ml M + 11) + 32 * m_Mk M ≤ R.locals) (hcc : cu + m_Mc M ≤ R.cells) (hss : su + m_Ms M ≤ R.slots) (hp : pc = pc0)
    (kk : ∀ (v : Option Value) (h' : m_H), P v h' → m_Go D cI cL ad0 n0 nL A p l e R s m args below meth c Q (pc0 + 3) ls (v.toList ++ rest) h' (cu + m_Mc M) (su + m_Ms M)) : m_Go D cI cL ad0 n0 nL A p l e R s m args below meth c Q pc ls st h cu su := by
  subst hp
  subst hs9
  intro ad H locs lsA hn hag hP hD hS hL
  have hM := m_metG hC l D cI cL sa ad H.size (m_nt X)
  have hpre : PreS s H (m_PreG D cI cL sa ad h H.size as Ex) (as.map (m_v ad)) := ⟨m_blindG hBl, fun U hU hW => ⟨m_pre X hP hD hS U hU hW, hEx ad H locs hag hD hS U hU hW⟩⟩
  refine (fun hr => m_afterP X hr hlen hn hag hD hS hL kk) (?_ : va_Run p l e R s m args below meth c H locs cu su _ _ (F0 m pc lsA (((as.reverse ++ rest) : List Value).map (m_v ad))) (rest.map (m_v ad)) (m_QP D cI cL ad h.length (va_A (m_w cI cL ad h) H.size) P (as.map (m_v ad)).toArray) (va_A (m_w cI cL ad h) H.size))
  exact va_runS (m_fix X) hM ⟨callB_of n (m_wd X) (m_good hK) rfl rfl rfl (m_wd X _ hK.2.1) (m_wd X _ hk) hK.2.2 ⟨hrk, hrl⟩, m_wd X _ hst⟩ hpre rfl (by rw [List.length_map]; exact hn9) hL.1 (by simp [List.map_append, List.map_reverse]) (lv_room (by rw [m_v_cats]; exact hro)) hd ⟨hcc, hss⟩
theorem m_callGA {M : m_M} {Ex : m_Ex} {rest : List Value} {k n : Nat} {as : List Value} (X : m_At D cI cL sa y cc nL ret A TB p l s m args meth c) (hd : decode cc pc0 = .ok (.invokestatic k, 3)) (hk : Cond.methodLink y.cls k (m_My M) ∈ m_ws) (hK : m_MK M n) (hst : Cond.static (m_My M) ∈ m_ws) (hC : m_CtrG M (m_Ws M) as h Ex P) (hBl : m_Bl Ex) (hEx : ∀ (ad : Nat → Nat) (H : Heap) (locs : List Loc), (∀ i, (i < n0 ∨ h.length ≤ i) → ad i = ad0 i) → va_D A (m_w cI cL ad h) → va_S A s.heap H locs → ∀ U : State, U.heap = H → s.WarmedH U.vm → Ex (va_A (m_w cI cL ad h) H.size) ad U) (hs9 : st = as.reverse ++ rest) (hn9 : as.length = n) (hlen : ∀ v h', P v h' → h.length ≤ h'.length) (hrb : m_rb h.length ls rest = true) (hro : (rest.map fun v => v.category).sum ≤ 8) (hrk : m_Mk M + 1 ≤ R.frames) (hrl : 8 + (m_Ml M + 11) + 32 * m_Mk M ≤ R.locals) (hcc : cu + m_Mc M ≤ R.cells) (hss : su + m_Ms M ≤ R.slots) (hp : pc = pc0)
    (kk : ∀ (v : Option Value) (h' : m_H), P v h' → m_Go D cI cL ad0 n0 nL A p l e R s m args below meth c Q (pc0 + 3) ls (v.toList ++ rest) h' (cu + m_Mc M) (su + m_Ms M)) : m_Go D cI cL ad0 n0 nL A p l e R s m args below meth c Q pc ls st h cu su := by
  subst hp
  subst hs9
  intro ad H locs lsA hn hag hP hD hS hL
  have hM := m_metG hC l D cI cL sa ad H.size (m_nt X)
  have hpre : PreS s H (m_PreG D cI cL sa ad h H.size as Ex) (as.map (m_v ad)) := ⟨m_blindG hBl, fun U hU hW => ⟨m_pre X hP hD hS U hU hW, hEx ad H locs hag hD hS U hU hW⟩⟩
  refine (fun hr => m_afterPA X hr hlen hrb hn hag hD hS hL kk) (?_ : va_Run p l e R s m args below meth c H locs cu su _ _ (F0 m pc lsA (((as.reverse ++ rest) : List Value).map (m_v ad))) (rest.map (m_v ad)) (m_QP D cI cL ad h.length (va_A (m_w cI cL ad h) H.size) P (as.map (m_v ad)).toArray) (va_A (m_w cI cL ad h) H.size))
  exact va_runS (m_fix X) hM ⟨callB_of n (m_wd X) (m_good hK) rfl rfl rfl (m_wd X _ hK.2.1) (m_wd X _ hk) hK.2.2 ⟨hrk, hrl⟩, m_wd X _ hst⟩ hpre rfl (by rw [List.length_map]; exact hn9) hL.1 (by simp [List.map_append, List.map_reverse]) (lv_room (by rw [m_v_cats]; exact hro)) hd ⟨hcc, hss⟩
theorem m_callGHA {M : m_M} {hh : List (Nat × Nat × Nat × Nat)} {Ex : m_Ex} {rest : List Value} {k n : Nat} {as : List Value} (X : m_At D cI cL sa y cc nL ret A TB p l s m args meth c) (hd : decode cc pc0 = .ok (.invokestatic k, 3)) (hk : Cond.methodLink y.cls k (m_My M) ∈ m_ws) (hK : m_MKH M hh n) (hst : Cond.static (m_My M) ∈ m_ws) (hC : m_CtrG M (m_WsH M hh) as h Ex P) (hBl : m_Bl Ex) (hEx : ∀ (ad : Nat → Nat) (H : Heap) (locs : List Loc), (∀ i, (i < n0 ∨ h.length ≤ i) → ad i = ad0 i) → va_D A (m_w cI cL ad h) → va_S A s.heap H locs → ∀ U : State, U.heap = H → s.WarmedH U.vm → Ex (va_A (m_w cI cL ad h) H.size) ad U) (hs9 : st = as.reverse ++ rest) (hn9 : as.length = n) (hlen : ∀ v h', P v h' → h.length ≤ h'.length) (hrb : m_rb h.length ls rest = true) (hro : (rest.map fun v => v.category).sum ≤ 8) (hrk : m_Mk M + 1 ≤ R.frames) (hrl : 8 + (m_Ml M + 11) + 32 * m_Mk M ≤ R.locals) (hcc : cu + m_Mc M ≤ R.cells) (hss : su + m_Ms M ≤ R.slots) (hp : pc = pc0)
    (kk : ∀ (v : Option Value) (h' : m_H), P v h' → m_Go D cI cL ad0 n0 nL A p l e R s m args below meth c Q (pc0 + 3) ls (v.toList ++ rest) h' (cu + m_Mc M) (su + m_Ms M)) : m_Go D cI cL ad0 n0 nL A p l e R s m args below meth c Q pc ls st h cu su := by
  subst hp
  subst hs9
  intro ad H locs lsA hn hag hP hD hS hL
  have hM := m_metG hC l D cI cL sa ad H.size (m_nt X)
  have hpre : PreS s H (m_PreG D cI cL sa ad h H.size as Ex) (as.map (m_v ad)) := ⟨m_blindG hBl, fun U hU hW => ⟨m_pre X hP hD hS U hU hW, hEx ad H locs hag hD hS U hU hW⟩⟩
  have hG : GoodIn m_ws (m_WsH M hh) := fun w hw => by
    rcases List.mem_cons.mp hw with rfl | hw
    · exact ⟨hK.1, good_of_word (m_ws_good hK.1)⟩
    · exact ⟨hw, good_of_word (m_ws_good hw)⟩
  refine (fun hr => m_afterPA X hr hlen hrb hn hag hD hS hL kk) (?_ : va_Run p l e R s m args below meth c H locs cu su _ _ (F0 m pc lsA (((as.reverse ++ rest) : List Value).map (m_v ad))) (rest.map (m_v ad)) (m_QP D cI cL ad h.length (va_A (m_w cI cL ad h) H.size) P (as.map (m_v ad)).toArray) (va_A (m_w cI cL ad h) H.size))
  refine vx_runSW (hh := hh) (bytes := m_Mb M) (maxL := m_Ml M) (ret := m_Mr M) (n := n) (m_fix X) hM ⟨⟨rfl, rfl, hrk, hrl, pay_in (m_wd X) hG, List.mem_cons_self⟩, m_wd X _ hK.1, m_wd X _ hK.2.1, ⟨hK.2.2.1, hK.2.2.2.1⟩, fun sig h9 => ?_, m_wd X _ hk, m_wd X _ hst⟩ hpre rfl (by rw [List.length_map]; exact hn9) hL.1 (by simp [List.map_append, List.map_reverse]) (lv_room (by rw [m_v_cats]; exact hro)) hd ⟨hcc, hss⟩
  have h2 := hK.2.2.2.2
  rw [h9] at h2
  exact (Option.some.inj h2).symm
theorem m_pS1 {x0 : Value} {M : m_M} {rest : List Value} {k : Nat} (X : m_At D cI cL sa y cc nL ret A TB p l s m args meth c) (hd : decode cc pc0 = .ok (.invokestatic k, 3)) (hk : Cond.methodLink y.cls k (m_My M) ∈ m_ws) (hK : m_MK M 1) (hst : Cond.static (m_My M) ∈ m_ws) (hC : m_CtrP M [x0] h P) (hlen : ∀ v h', P v h' → h'.length = h.length) (hro : (rest.map fun v => v.category).sum ≤ 8) (hrk : m_Mk M + 1 ≤ R.frames) (hrl : 8 + (m_Ml M + 11) + 32 * m_Mk M ≤ R.locals) (hcc : cu + m_Mc M ≤ R.cells) (hss : su + m_Ms M ≤ R.slots) (hp : pc = pc0)
    (kk : ∀ (v : Option Value) (h' : m_H), P v h' → m_Go D cI cL ad0 n0 nL A p l e R s m args below meth c Q (pc0 + 3) ls (v.toList ++ rest) h' (cu + m_Mc M) (su + m_Ms M)) : m_Go D cI cL ad0 n0 nL A p l e R s m args below meth c Q pc ls (x0 :: rest) h cu su := m_callG X hd hk hK hst hC m_Bl_No (fun _ _ _ _ _ _ _ _ _ => trivial) rfl rfl hlen hro hrk hrl hcc hss hp kk
theorem m_pS7 {x0 x1 x2 x3 x4 x5 x6 : Value} {M : m_M} {rest : List Value} {k : Nat} (X : m_At D cI cL sa y cc nL ret A TB p l s m args meth c) (hd : decode cc pc0 = .ok (.invokestatic k, 3)) (hk : Cond.methodLink y.cls k (m_My M) ∈ m_ws) (hK : m_MK M 7) (hst : Cond.static (m_My M) ∈ m_ws) (hC : m_CtrP M [x0, x1, x2, x3, x4, x5, x6] h P) (hlen : ∀ v h', P v h' → h'.length = h.length) (hro : (rest.map fun v => v.category).sum ≤ 8) (hrk : m_Mk M + 1 ≤ R.frames) (hrl : 8 + (m_Ml M + 11) + 32 * m_Mk M ≤ R.locals) (hcc : cu + m_Mc M ≤ R.cells) (hss : su + m_Ms M ≤ R.slots) (hp : pc = pc0)
    (kk : ∀ (v : Option Value) (h' : m_H), P v h' → m_Go D cI cL ad0 n0 nL A p l e R s m args below meth c Q (pc0 + 3) ls (v.toList ++ rest) h' (cu + m_Mc M) (su + m_Ms M)) : m_Go D cI cL ad0 n0 nL A p l e R s m args below meth c Q pc ls (x6 :: x5 :: x4 :: x3 :: x2 :: x1 :: x0 :: rest) h cu su := m_callG X hd hk hK hst hC m_Bl_No (fun _ _ _ _ _ _ _ _ _ => trivial) rfl rfl hlen hro hrk hrl hcc hss hp kk
theorem m_pS8 {x0 x1 x2 x3 x4 x5 x6 x7 : Value} {M : m_M} {rest : List Value} {k : Nat} (X : m_At D cI cL sa y cc nL ret A TB p l s m args meth c) (hd : decode cc pc0 = .ok (.invokestatic k, 3)) (hk : Cond.methodLink y.cls k (m_My M) ∈ m_ws) (hK : m_MK M 8) (hst : Cond.static (m_My M) ∈ m_ws) (hC : m_CtrP M [x0, x1, x2, x3, x4, x5, x6, x7] h P) (hlen : ∀ v h', P v h' → h'.length = h.length) (hro : (rest.map fun v => v.category).sum ≤ 8) (hrk : m_Mk M + 1 ≤ R.frames) (hrl : 8 + (m_Ml M + 11) + 32 * m_Mk M ≤ R.locals) (hcc : cu + m_Mc M ≤ R.cells) (hss : su + m_Ms M ≤ R.slots) (hp : pc = pc0)
    (kk : ∀ (v : Option Value) (h' : m_H), P v h' → m_Go D cI cL ad0 n0 nL A p l e R s m args below meth c Q (pc0 + 3) ls (v.toList ++ rest) h' (cu + m_Mc M) (su + m_Ms M)) : m_Go D cI cL ad0 n0 nL A p l e R s m args below meth c Q pc ls (x7 :: x6 :: x5 :: x4 :: x3 :: x2 :: x1 :: x0 :: rest) h cu su := m_callG X hd hk hK hst hC m_Bl_No (fun _ _ _ _ _ _ _ _ _ => trivial) rfl rfl hlen hro hrk hrl hcc hss hp kk
theorem m_pS10 {x0 x1 x2 x3 x4 x5 x6 x7 x8 x9 : Value} {M : m_M} {rest : List Value} {k : Nat} (X : m_At D cI cL sa y cc nL ret A TB p l s m args meth c) (hd : decode cc pc0 = .ok (.invokestatic k, 3)) (hk : Cond.methodLink y.cls k (m_My M) ∈ m_ws) (hK : m_MK M 10) (hst : Cond.static (m_My M) ∈ m_ws) (hC : m_CtrP M [x0, x1, x2, x3, x4, x5, x6, x7, x8, x9] h P) (hlen : ∀ v h', P v h' → h'.length = h.length) (hro : (rest.map fun v => v.category).sum ≤ 8) (hrk : m_Mk M + 1 ≤ R.frames) (hrl : 8 + (m_Ml M + 11) + 32 * m_Mk M ≤ R.locals) (hcc : cu + m_Mc M ≤ R.cells) (hss : su + m_Ms M ≤ R.slots) (hp : pc = pc0)
    (kk : ∀ (v : Option Value) (h' : m_H), P v h' → m_Go D cI cL ad0 n0 nL A p l e R s m args below meth c Q (pc0 + 3) ls (v.toList ++ rest) h' (cu + m_Mc M) (su + m_Ms M)) : m_Go D cI cL ad0 n0 nL A p l e R s m args below meth c Q pc ls (x9 :: x8 :: x7 :: x6 :: x5 :: x4 :: x3 :: x2 :: x1 :: x0 :: rest) h cu su := m_callG X hd hk hK hst hC m_Bl_No (fun _ _ _ _ _ _ _ _ _ => trivial) rfl rfl hlen hro hrk hrl hcc hss hp kk
theorem m_scr {b L : Nat} {xs : Nat → Int32} (X : m_At D cI cL sa y cc nL ret A TB p l s m args meth c) (hX : va_X b L xs s s.heap) (hbl : b < s.heap.size) (hbA : ¬ A b) (hb9 : ad0 m_BI = b) (hB9 : h.length ≤ m_BI) (ad : Nat → Nat) (H : Heap) (locs : List Loc) (hag : ∀ i, (i < n0 ∨ h.length ≤ i) → ad i = ad0 i) (hD : va_D A (m_w cI cL ad h)) (hS : va_S A s.heap H locs) (U : State) (hU : U.heap = H) (hW : s.WarmedH U.vm) : m_Sc L xs (va_A (m_w cI cL ad h) H.size) ad U := by
  have e9 : ad m_BI = b := (hag m_BI (Or.inr hB9)).trans hb9
  unfold m_Sc
  rw [e9, hU]
  exact ⟨va_X.moved hW.alike (va_X.kept hX (hS.2.1 b hbl hbA)), Nat.lt_of_lt_of_le hbl hS.1, fun q => hbA (m_AB X hD hS b q)⟩
theorem m_sld {b L : Nat} {xs : Nat → Int32} {i : Int32} (X : m_At D cI cL sa y cc nL ret A TB p l s m args meth c) (hX : va_X b L xs s s.heap) (hbl : b < s.heap.size) (hbA : ¬ A b) (hb9 : ad0 m_BI = b) (hd : decode cc pc0 = .ok (.iaload, 1)) (hi : vp_in i L) (hB9 : h.length ≤ m_BI) (hp : pc = pc0)
    (kk : m_Go D cI cL ad0 n0 nL A p l e R s m args below meth c Q (pc0 + 1) ls (.int (xs i.toNatClampNeg) :: st) h cu su) : m_Go D cI cL ad0 n0 nL A p l e R s m args below meth c Q pc ls (.int i :: .ref m_BI :: st) h cu su := by
  subst hp
  intro ad H locs lsA hn hag hP hD hS hL
  have e9 : ad m_BI = b := (hag m_BI (Or.inr hB9)).trans hb9
  show W p l e R s m args below meth c H locs cu su Q (F0 m pc lsA (.int i :: .ref (ad m_BI) :: st.map (m_v ad)))
  rw [e9]
  exact va_sld (m_ex X) (m_cb X) hX hbl hbA hS hi hd (kk ad H locs lsA hn hag hP hD hS hL)
theorem m_slen {b L : Nat} {xs : Nat → Int32} (X : m_At D cI cL sa y cc nL ret A TB p l s m args meth c) (hX : va_X b L xs s s.heap) (hbl : b < s.heap.size) (hbA : ¬ A b) (hb9 : ad0 m_BI = b) (hd : decode cc pc0 = .ok (.arraylength, 1)) (hB9 : h.length ≤ m_BI) (hp : pc = pc0)
    (kk : m_Go D cI cL ad0 n0 nL A p l e R s m args below meth c Q (pc0 + 1) ls (.int (nI L) :: st) h cu su) : m_Go D cI cL ad0 n0 nL A p l e R s m args below meth c Q pc ls (.ref m_BI :: st) h cu su := by
  subst hp
  intro ad H locs lsA hn hag hP hD hS hL
  have e9 : ad m_BI = b := (hag m_BI (Or.inr hB9)).trans hb9
  show W p l e R s m args below meth c H locs cu su Q (F0 m pc lsA (.ref (ad m_BI) :: st.map (m_v ad)))
  rw [e9]
  exact va_slen (m_ex X) (m_cb X) hX hbl hbA hS hd (kk ad H locs lsA hn hag hP hD hS hL)
def m_rvB (n : Nat) : Value → Bool
  | .ref q => decide (q < n ∨ q = m_BI)
  | _ => true
def m_rbB (n : Nat) (ls : List (Nat × Value)) (st : List Value) : Bool := ls.all (fun q => m_rvB n q.2) && st.all (m_rvB n)
theorem m_v_sameB {n : Nat} {ad ad' : Nat → Nat} (hag : ∀ i, (i < n ∨ i = m_BI) → ad' i = ad i) {v : Value} (hv : m_rvB n v = true) : m_v ad' v = m_v ad v := by
  cases v <;> first | rfl | (simp only [m_rvB, decide_eq_true_eq] at hv; simp only [m_v]; rw [hag _ hv])
theorem m_st_sameB {n : Nat} {ad ad' : Nat → Nat} (hag : ∀ i, (i < n ∨ i = m_BI) → ad' i = ad i) {st : List Value} (hv : st.all (m_rvB n) = true) : st.map (m_v ad') = st.map (m_v ad) :=
  List.map_congr_left fun v h => m_v_sameB hag (List.all_eq_true.mp hv v h)
theorem m_ls_sameB {n : Nat} {ad ad' : Nat → Nat} (hag : ∀ i, (i < n ∨ i = m_BI) → ad' i = ad i) {ls : List (Nat × Value)} (hv : ls.all (fun q => m_rvB n q.2) = true) : ls.map (fun q => (q.1, m_v ad' q.2)) = ls.map (fun q => (q.1, m_v ad q.2)) :=
  List.map_congr_left fun q h => by rw [m_v_sameB hag (List.all_eq_true.mp hv q h)]
theorem m_newB {k ci N : Nat} {C : String} {T : u_T} {fs : List Value} (X : m_At D cI cL sa y cc nL ret A TB p l s m args meth c) (hd : decode cc pc0 = .ok (.new k, 3)) (hcl : m_cl[ci]? = some (C, T, N)) (h1 : Cond.classLink y.cls k C ∈ m_ws) (h2 : Cond.instantiable C N ∈ m_ws) (h3 : Cond.initialized C ∈ m_ws) (ty : Nat → FieldType) (hty : ∀ k, k < N → parseFieldDescriptor (T k).2.2.1 = some (ty k)) (hfs : ∀ j, j < N → defaultValue (ty j) = vp_V fs j) (hnr : fs.all (m_rv 0) = true) (hB9 : h.length < m_BI) (hrb : m_rbB h.length ls st = true) (hrh : h.all (m_rc h.length) = true) (hcc : cu + 1 ≤ R.cells) (hss : su + N ≤ R.slots) (hp : pc = pc0) (kk : m_Go D cI cL ad0 n0 nL A p l e R s m args below meth c Q (pc0 + 3) ls (.ref h.length :: st) (h ++ [m_ob ci fs]) (cu + 1) (su + N)) : m_Go D cI cL ad0 n0 nL A p l e R s m args below meth c Q pc ls st h cu su := by
  subst hp
  intro ad H locs lsA hn hag hP hD hS hL
  simp only [m_rbB, Bool.and_eq_true] at hrb
  refine va_new (fs := fs) (m_ex X) (m_cb X) (m_wd X) (m_cl_ok ci C T N hcl).1 ty hty (m_ow X) (m_wd X _ h1) (m_wd X _ h2) (m_wd X _ h3) (m_kn X) hP hD hS (m_up X) hcl hfs hcc hss hd (fun q H1 hP1 hD1 hS1 => ?_)
  have ha := m_upd_ag (n := h.length) (ad := ad) (q := q)
  have haB : ∀ i, (i < h.length ∨ i = m_BI) → (fun j => if j = h.length then q else ad j) i = ad i := fun i hi => if_neg (by omega)
  have e0 : fs.map (m_v (fun j => if j = h.length then q else ad j)) = fs := by
    have : fs.map (m_v (fun j => if j = h.length then q else ad j)) = fs.map id := List.map_congr_left fun v hv => by
      have := List.all_eq_true.mp hnr v hv
      cases v <;> first | rfl | (simp [m_rv] at this; done)
    rw [this, List.map_id]
  have e1 : m_w cI cL (fun j => if j = h.length then q else ad j) (h ++ [m_ob ci fs]) = m_w cI cL ad h ++ [(q, .inr (ci, fs))] := by
    rw [m_w_app, m_w_same ha (Nat.le_refl _) hrh]; simp only [m_c, e0, if_true]
  have k9 := kk (fun j => if j = h.length then q else ad j) H1 locs lsA (by rw [List.length_append]; omega) (fun i hi => by
    rw [List.length_append, List.length_singleton] at hi
    have hne : i ≠ h.length := by omega
    rw [if_neg hne]; exact hag i (by omega)) (by rw [e1]; exact hP1) (by rw [e1]; exact hD1) hS1 (by rw [m_ls_sameB haB hrb.1]; exact hL)
  rw [List.map_cons, m_st_sameB haB hrb.2] at k9
  have e2 : m_v (fun j => if j = h.length then q else ad j) (.ref h.length) = .ref q := by simp [m_v]
  rw [e2] at k9
  exact k9
theorem m_newaB {at9 : ArrayType} {ty : FieldType} {n : Int32} {N : Nat} {a0 : vp_A} (X : m_At D cI cL sa y cc nL ret A TB p l s m args meth c) (hd : decode cc pc0 = .ok (.newarray at9, 2)) (hw : Cond.arrayClass (newarray.typeOf at9) ∈ m_ws) (hty : newarray.typeOf at9 = ty) (hk : ty = .int ∧ ∃ f, a0.2 = .inl f) (ha : ∀ cA : ClassId, vp_cell cA a0 = arrV cA N (fun _ => defaultValue ty)) (hn0 : ¬ n < 0) (hN : n.toNatClampNeg = N) (hby : N * componentBytes ty ≤ 536870912) (hB9 : h.length < m_BI) (hrb : m_rbB h.length ls st = true) (hrh : h.all (m_rc h.length) = true) (hcc : cu + 1 ≤ R.cells) (hss : su + N ≤ R.slots) (hp : pc = pc0) (kk : m_Go D cI cL ad0 n0 nL A p l e R s m args below meth c Q (pc0 + 2) ls (.ref h.length :: st) (h ++ [.inl a0]) (cu + 1) (su + N)) : m_Go D cI cL ad0 n0 nL A p l e R s m args below meth c Q pc ls (.int n :: st) h cu su := by
  subst hp
  intro ad H locs lsA hn hag hP hD hS hL
  simp only [m_rbB, Bool.and_eq_true] at hrb
  refine va_newa (m_ex X) (m_cb X) (m_wd X _ hw) hty (m_kn X) hP hD hS (m_up X) ha hn0 hN hby hcc hss hd (fun q cA H1 hK1 hP1 hD1 hS1 => ?_)
  have hcA : cA = m_kc cI cL a0 := by
    have h9 := (hK1.2 1 (cA, ty) rfl).2
    obtain ⟨rfl, f, hf⟩ := hk
    have h8 := ((m_kn X).2 0 (cI, .int) rfl).2
    simp only [m_kc, hf]
    exact Option.some.inj (Eq.trans (Eq.symm h9) h8)
  subst hcA
  have ha := m_upd_ag (n := h.length) (ad := ad) (q := q)
  have haB : ∀ i, (i < h.length ∨ i = m_BI) → (fun j => if j = h.length then q else ad j) i = ad i := fun i hi => if_neg (by omega)
  have e1 : m_w cI cL (fun j => if j = h.length then q else ad j) (h ++ [.inl a0]) = m_w cI cL ad h ++ [(q, .inl (m_kc cI cL a0, a0))] := by
    rw [m_w_app, m_w_same ha (Nat.le_refl _) hrh]; simp only [m_c, if_true]
  have k9 := kk (fun j => if j = h.length then q else ad j) H1 locs lsA (by rw [List.length_append]; omega) (fun i hi => by
    rw [List.length_append, List.length_singleton] at hi
    have hne : i ≠ h.length := by omega
    rw [if_neg hne]; exact hag i (by omega)) (by rw [e1]; exact hP1) (by rw [e1]; exact hD1) hS1 (by rw [m_ls_sameB haB hrb.1]; exact hL)
  rw [List.map_cons, m_st_sameB haB hrb.2] at k9
  have e2 : m_v (fun j => if j = h.length then q else ad j) (.ref h.length) = .ref q := by simp [m_v]
  rw [e2] at k9
  exact k9
theorem m_afterAB {h' : m_H} {v : Option Value} {rest stA : List Value} {ad : Nat → Nat} {H : Heap} {locs : List Loc} {lsA : Array Slot} {mc2 ms2 : Nat} {a2 : Array Value} (X : m_At D cI cL sa y cc nL ret A TB p l s m args meth c)
    (hr : va_Run p l e R s m args below meth c H locs cu su mc2 ms2 (F0 m pc lsA stA) (rest.map (m_v ad)) (m_Q D cI cL ad h.length (va_A (m_w cI cL ad h) H.size) (.inl (v, h')) a2) (va_A (m_w cI cL ad h) H.size)) (hlen : h.length ≤ h'.length) (hB9 : h'.length ≤ m_BI) (hrb : m_rbB h.length ls rest = true)
    (hn : n0 ≤ h.length) (hag : ∀ i, (i < n0 ∨ h.length ≤ i) → ad i = ad0 i) (hD : va_D A (m_w cI cL ad h)) (hS : va_S A s.heap H locs) (hL : lv_has lsA nL (ls.map (fun q => (q.1, m_v ad q.2))))
    (kk : m_Go D cI cL ad0 n0 nL A p l e R s m args below meth c Q (pc + 3) ls (v.toList ++ rest) h' (cu + mc2) (su + ms2)) : W p l e R s m args below meth c H locs cu su Q (F0 m pc lsA stA) := by
  simp only [m_rbB, Bool.and_eq_true] at hrb
  intro T hT XX
  obtain ⟨v9, st₀, t, T', L, h0, X', hL', e1, e2, ⟨vv, hf, ad', he, hoc, hn', hag', hP', hD', hF⟩, st9⟩ := hr T hT XX
  cases he
  cases hoc
  have haB : ∀ i, (i < h.length ∨ i = m_BI) → ad' i = ad i := fun i hi => hag' i (by omega)
  have hAB := m_AB X hD hS
  obtain ⟨k1, k2, k3⟩ := vx_keep h0 e1 hS (fun q _ hq => hAB q hq) hAB hL' hF
  obtain ⟨t2, a1, b1⟩ := kk ad' T'.heap (locs ++ L) lsA (by omega) (fun i hi => (hag' i (by omega)).trans (hag i (by omega))) (by rw [e1]; exact hP') (hD'.weaken (fun _ q _ hq => hAB q.1 hq)) k3 (by rw [m_ls_sameB haB hrb.1]; exact hL) T' rfl X'
  refine ⟨t2, st9 t2 ?_, b1⟩
  rw [← m_st_sameB haB hrb.2, m_optmap]
  exact a1
theorem m_callIB {M : m_M} {h' : m_H} {v : Option Value} {rest : List Value} {k n : Nat} {as : List Value} {q : Nat} (X : m_At D cI cL sa y cc nL ret A TB p l s m args meth c) (hd : decode cc pc0 = .ok (.invokespecial k, 3)) (hk : m_LK y.cls k M) (hK : m_MK M n) (hin : Cond.instanceMethod (m_My M) ∈ m_ws) (hini : (m_My M).name = "<init>") (hrn : m_Mr M = none) (hC : m_Ctr M (.ref q :: as) h (.inl (v, h'))) (hs9 : st = as.reverse ++ .ref q :: rest) (hn9 : as.length = n) (hlen : h.length ≤ h'.length) (hB9 : h'.length ≤ m_BI) (hrb : m_rbB h.length ls rest = true) (hro : (rest.map fun v => v.category).sum ≤ 8) (hrk : m_Mk M + 1 ≤ R.frames) (hrl : 8 + (m_Ml M + 11) + 32 * m_Mk M ≤ R.locals) (hcc : cu + m_Mc M ≤ R.cells) (hss : su + m_Ms M ≤ R.slots) (hp : pc = pc0)
    (kk : m_Go D cI cL ad0 n0 nL A p l e R s m args below meth c Q (pc0 + 3) ls (v.toList ++ rest) h' (cu + m_Mc M) (su + m_Ms M)) : m_Go D cI cL ad0 n0 nL A p l e R s m args below meth c Q pc ls st h cu su := by
  subst hp
  subst hs9
  intro ad H locs lsA hn hag hP hD hS hL
  have hM := m_met hC l D cI cL sa ad H.size (m_nt X)
  have hpre : PreS s H (m_Pre D cI cL sa ad h H.size (.ref q :: as)) (.ref (ad q) :: as.map (m_v ad)) := ⟨m_blind, m_pre (as := .ref q :: as) X hP hD hS⟩
  obtain ⟨My, Mb, Ml, Mr, Mk, Mc, Ms⟩ := M
  cases hrn
  refine (fun hr => m_afterAB X hr hlen hB9 hrb hn hag hD hS hL kk) (?_ : va_Run p l e R s m args below meth c H locs cu su _ _ (F0 m pc lsA (((as.reverse ++ .ref q :: rest) : List Value).map (m_v ad))) (rest.map (m_v ad)) (m_Q D cI cL ad h.length (va_A (m_w cI cL ad h) H.size) (.inl (v, h')) (Value.ref (ad q) :: as.map (m_v ad)).toArray) (va_A (m_w cI cL ad h) H.size))
  rcases hk with hk | ⟨host, hk⟩
  · exact va_runI (m_fix X) hM ⟨callB_of n (m_wd X) (m_good hK) rfl rfl rfl (m_wd X _ hK.2.1) (m_wd X _ hk) hK.2.2 ⟨hrk, hrl⟩, hini, m_wd X _ hin⟩ hpre rfl (by rw [List.length_map]; exact hn9) hL.1 (by simp [List.map_append, List.map_reverse, m_v]) (lv_room (by rw [m_v_cats]; exact hro)) hd ⟨hcc, hss⟩
  · exact va_runIN (m_fix X) hM ⟨va_cnB n (m_wd X) (m_good hK) rfl rfl rfl ((m_ev X).1 _ hk) (m_wd X _ hK.2.1) hK.2.2 ⟨hrk, hrl⟩, hini, m_wd X _ hin⟩ hpre rfl (by rw [List.length_map]; exact hn9) hL.1 (by simp [List.map_append, List.map_reverse, m_v]) (lv_room (by rw [m_v_cats]; exact hro)) hd ⟨hcc, hss⟩
theorem m_ishr {x z : Int32} (X : m_At D cI cL sa y cc nL ret A TB p l s m args meth c) (hd : decode cc pc0 = .ok (.ishr, 1)) (hp : pc = pc0) (kk : m_Go D cI cL ad0 n0 nL A p l e R s m args below meth c Q (pc0 + 1) ls (.int (x >>> (z &&& 31)) :: st) h cu su) : m_Go D cI cL ad0 n0 nL A p l e R s m args below meth c Q pc ls (.int z :: .int x :: st) h cu su := by
  subst hp
  intro ad H locs lsA hn hag hP hD hS hL
  exact lv_ishr (m_ex X) (m_cb X) hd (kk ad H locs lsA hn hag hP hD hS hL)
/-- an element at place k, known to be x -/
theorem m_ald {q n k : Nat} {f : Nat → Int32} {i x : Int32} (X : m_At D cI cL sa y cc nL ret A TB p l s m args meth c) (hd : decode cc pc0 = .ok (.iaload, 1)) (hq : h[q]? = some (m_ia n f)) (hi : vp_in i n) (hk : i.toNatClampNeg = k) (hx : f k = x) (hp : pc = pc0) (kk : m_Go D cI cL ad0 n0 nL A p l e R s m args below meth c Q (pc0 + 1) ls (.int x :: st) h cu su) : m_Go D cI cL ad0 n0 nL A p l e R s m args below meth c Q pc ls (.int i :: .ref q :: st) h cu su := by
  subst hk
  subst hx
  exact m_iald X hd hq hi hp kk
/-- an element at place k is written: the heap as it is then -/
theorem m_ast {q n k : Nat} {f : Nat → Int32} {i x : Int32} {h1 : m_H} (X : m_At D cI cL sa y cc nL ret A TB p l s m args meth c) (hd : decode cc pc0 = .ok (.iastore, 1)) (hq : h[q]? = some (m_ia n f)) (hi : vp_in i n) (hk : i.toNatClampNeg = k) (hh : h.set q (m_ia n (upd f k x)) = h1) (hp : pc = pc0) (kk : m_Go D cI cL ad0 n0 nL A p l e R s m args below meth c Q (pc0 + 1) ls st h1 cu su) : m_Go D cI cL ad0 n0 nL A p l e R s m args below meth c Q pc ls (.int x :: .int i :: .ref q :: st) h cu su := by
  subst hk
  subst hh
  exact m_iast X hd hq hi hp kk
/-- a store into a local, the list as it is then -/
theorem m_ist {i : Nat} {x : Int32} {l1 : List (Nat × Value)} (X : m_At D cI cL sa y cc nL ret A TB p l s m args meth c) (hd : decode cc pc0 = .ok (.istore i, 2)) (hi : i < nL) (hl : m_put ls i (.int x) = l1) (hp : pc = pc0) (kk : m_Go D cI cL ad0 n0 nL A p l e R s m args below meth c Q (pc0 + 2) l1 st h cu su) : m_Go D cI cL ad0 n0 nL A p l e R s m args below meth c Q pc ls (.int x :: st) h cu su := by
  subst hl
  exact m_istore X hd hi hp kk
theorem m_ist_n {k : Fin 4} {x : Int32} {l1 : List (Nat × Value)} (X : m_At D cI cL sa y cc nL ret A TB p l s m args meth c) (hd : decode cc pc0 = .ok (.istore_n k, 1)) (hi : (k : Nat) < nL) (hl : m_put ls (k : Nat) (.int x) = l1) (hp : pc = pc0) (kk : m_Go D cI cL ad0 n0 nL A p l e R s m args below meth c Q (pc0 + 1) l1 st h cu su) : m_Go D cI cL ad0 n0 nL A p l e R s m args below meth c Q pc ls (.int x :: st) h cu su := by
  subst hl
  exact m_istore_n X hd hi hp kk
theorem m_inc {i : Nat} {n : Int} {x x1 : Int32} {l1 : List (Nat × Value)} (X : m_At D cI cL sa y cc nL ret A TB p l s m args meth c) (hd : decode cc pc0 = .ok (.iinc i n, 3)) (hl : m_get ls i = some (.int x)) (hi : i < nL) (hx : x + Int32.ofInt n = x1) (hl1 : m_put ls i (.int x1) = l1) (hp : pc = pc0) (kk : m_Go D cI cL ad0 n0 nL A p l e R s m args below meth c Q (pc0 + 3) l1 st h cu su) : m_Go D cI cL ad0 n0 nL A p l e R s m args below meth c Q pc ls st h cu su := by
  subst hl1
  subst hx
  exact m_iinc X hd hl hi hp kk
/-- the value on top is written otherwise -/
theorem m_top {x x1 : Int32} (hx : x = x1) (kk : m_Go D cI cL ad0 n0 nL A p l e R s m args below meth c Q pc ls (.int x1 :: st) h cu su) : m_Go D cI cL ad0 n0 nL A p l e R s m args below meth c Q pc ls (.int x :: st) h cu su := hx ▸ kk
end MPC

section ML2
/-- the script: an array that is no cell of the mini heap, under a number that no cell has -/
def m_BI : Nat := 1000000
def m_rvB (n : Nat) : Value → Bool
  | .ref q => decide (q < n ∨ q = m_BI)
  | _ => true
def m_rbB (n : Nat) (ls : List (Nat × Value)) (st : List Value) : Bool := ls.all (fun q => m_rvB n q.2) && st.all (m_rvB n)
theorem m_v_sameB {n : Nat} {ad ad' : Nat → Nat} (hag : ∀ i, (i < n ∨ i = m_BI) → ad' i = ad i) {v : Value} (hv : m_rvB n v = true) : m_v ad' v = m_v ad v := by
  cases v <;> first | rfl | (simp only [m_rvB, decide_eq_true_eq] at hv; simp only [m_v]; rw [hag _ hv])
theorem m_st_sameB {n : Nat} {ad ad' : Nat → Nat} (hag : ∀ i, (i < n ∨ i = m_BI) → ad' i = ad i) {st : List Value} (hv : st.all (m_rvB n) = true) : st.map (m_v ad') = st.map (m_v ad) :=
  List.map_congr_left fun v h => m_v_sameB hag (List.all_eq_true.mp hv v h)
theorem m_ls_sameB {n : Nat} {ad ad' : Nat → Nat} (hag : ∀ i, (i < n ∨ i = m_BI) → ad' i = ad i) {ls : List (Nat × Value)} (hv : ls.all (fun q => m_rvB n q.2) = true) : ls.map (fun q => (q.1, m_v ad' q.2)) = ls.map (fun q => (q.1, m_v ad q.2)) :=
  List.map_congr_left fun q h => by rw [m_v_sameB hag (List.all_eq_true.mp hv q h)]
variable {D : va_G} {cI cL : ClassId} {sa : Nat → Nat} {y : MethodName} {cc : ByteArray} {nL : Nat} {ret : Option FieldType} {A : Nat → Prop} {TB : List ExceptionTableEntry} {p : Program} {l : Launch} {e : Env} {R : Room} {s : State} {m : MethodId} {args : Array Value} {below : List Frame} {meth : Method} {c : Code} {Q : State → Prop} {ad0 : Nat → Nat} {n0 pc pc0 : Nat} {ls : List (Nat × Value)} {st : List Value} {h : m_H} {cu su : Nat} {om : m_Om} {mc ms : Nat}
theorem m_newB {k ci N : Nat} {C : String} {T : u_T} {fs : List Value} (X : m_At D cI cL sa y cc nL ret A TB p l s m args meth c) (hd : decode cc pc0 = .ok (.new k, 3)) (hcl : m_cl[ci]? = some (C, T, N)) (h1 : Cond.classLink y.cls k C ∈ m_ws) (h2 : Cond.instantiable C N ∈ m_ws) (h3 : Cond.initialized C ∈ m_ws) (ty : Nat → FieldType) (hty : ∀ k, k < N → parseFieldDescriptor (T k).2.2.1 = some (ty k)) (hfs : ∀ j, j < N → defaultValue (ty j) = vp_V fs j) (hnr : fs.all (m_rv 0) = true) (hB9 : h.length < m_BI) (hrb : m_rbB h.length ls st = true) (hrh : h.all (m_rc h.length) = true) (hcc : cu + 1 ≤ R.cells) (hss : su + N ≤ R.slots) (hp : pc = pc0) (kk : m_Go D cI cL ad0 n0 nL A p l e R s m args below meth c Q (pc0 + 3) ls (.ref h.length :: st) (h ++ [m_ob ci fs]) (cu + 1) (su + N)) : m_Go D cI cL ad0 n0 nL A p l e R s m args below meth c Q pc ls st h cu su := by
  subst hp
  intro ad H locs lsA hn hag hP hD hS hL
  simp only [m_rbB, Bool.and_eq_true] at hrb
  refine va_new (fs := fs) (m_ex X) (m_cb X) (m_wd X) (m_cl_ok ci C T N hcl).1 ty hty (m_ow X) (m_wd X _ h1) (m_wd X _ h2) (m_wd X _ h3) (m_kn X) hP hD hS (m_up X) hcl hfs hcc hss hd (fun q H1 hP1 hD1 hS1 => ?_)
  have ha := m_upd_ag (n := h.length) (ad := ad) (q := q)
  have haB : ∀ i, (i < h.length ∨ i = m_BI) → (fun j => if j = h.length then q else ad j) i = ad i := fun i hi => if_neg (by omega)
  have e0 : fs.map (m_v (fun j => if j = h.length then q else ad j)) = fs := by
    have : fs.map (m_v (fun j => if j = h.length then q else ad j)) = fs.map id := List.map_congr_left fun v hv => by
      have := List.all_eq_true.mp hnr v hv
      cases v <;> first | rfl | (simp [m_rv] at this; done)
    rw [this, List.map_id]
  have e1 : m_w cI cL (fun j => if j = h.length then q else ad j) (h ++ [m_ob ci fs]) = m_w cI cL ad h ++ [(q, .inr (ci, fs))] := by
    rw [m_w_app, m_w_same ha (Nat.le_refl _) hrh]; simp only [m_c, e0, if_true]
  have k9 := kk (fun j => if j = h.length then q else ad j) H1 locs lsA (by rw [List.length_append]; omega) (fun i hi => by
    rw [List.length_append, List.length_singleton] at hi
    have hne : i ≠ h.length := by omega
    rw [if_neg hne]; exact hag i (by omega)) (by rw [e1]; exact hP1) (by rw [e1]; exact hD1) hS1 (by rw [m_ls_sameB haB hrb.1]; exact hL)
  rw [List.map_cons, m_st_sameB haB hrb.2] at k9
  have e2 : m_v (fun j => if j = h.length then q else ad j) (.ref h.length) = .ref q := by simp [m_v]
  rw [e2] at k9
  exact k9
theorem m_newaB {at9 : ArrayType} {ty : FieldType} {n : Int32} {N : Nat} {a0 : vp_A} (X : m_At D cI cL sa y cc nL ret A TB p l s m args meth c) (hd : decode cc pc0 = .ok (.newarray at9, 2)) (hw : Cond.arrayClass (newarray.typeOf at9) ∈ m_ws) (hty : newarray.typeOf at9 = ty) (hk : (ty = .int ∧ ∃ f, a0.2 = .inl f) ∨ (ty = .long ∧ ∃ f, a0.2 = .inr (.inl f))) (ha : ∀ cA : ClassId, vp_cell cA a0 = arrV cA N (fun _ => defaultValue ty)) (hn0 : ¬ n < 0) (hN : n.toNatClampNeg = N) (hby : N * componentBytes ty ≤ 536870912) (hB9 : h.length < m_BI) (hrb : m_rbB h.length ls st = true) (hrh : h.all (m_rc h.length) = true) (hcc : cu + 1 ≤ R.cells) (hss : su + N ≤ R.slots) (hp : pc = pc0) (kk : m_Go D cI cL ad0 n0 nL A p l e R s m args below meth c Q (pc0 + 2) ls (.ref h.length :: st) (h ++ [.inl a0]) (cu + 1) (su + N)) : m_Go D cI cL ad0 n0 nL A p l e R s m args below meth c Q pc ls (.int n :: st) h cu su := by
  subst hp
  intro ad H locs lsA hn hag hP hD hS hL
  simp only [m_rbB, Bool.and_eq_true] at hrb
  refine va_newa (m_ex X) (m_cb X) (m_wd X _ hw) hty (m_kn X) hP hD hS (m_up X) ha hn0 hN hby hcc hss hd (fun q cA H1 hK1 hP1 hD1 hS1 => ?_)
  have hcA : cA = m_kc cI cL a0 := by
    have h9 := (hK1.2 2 (cA, ty) rfl).2
    rcases hk with ⟨rfl, f, hf⟩ | ⟨rfl, f, hf⟩
    · have h8 := ((m_kn X).2 0 (cI, .int) rfl).2
      simp only [m_kc, hf]
      exact Option.some.inj (Eq.trans (Eq.symm h9) h8)
    · have h8 := ((m_kn X).2 1 (cL, .long) rfl).2
      simp only [m_kc, hf]
      exact Option.some.inj (Eq.trans (Eq.symm h9) h8)
  subst hcA
  have ha := m_upd_ag (n := h.length) (ad := ad) (q := q)
  have haB : ∀ i, (i < h.length ∨ i = m_BI) → (fun j => if j = h.length then q else ad j) i = ad i := fun i hi => if_neg (by omega)
  have e1 : m_w cI cL (fun j => if j = h.length then q else ad j) (h ++ [.inl a0]) = m_w cI cL ad h ++ [(q, .inl (m_kc cI cL a0, a0))] := by
    rw [m_w_app, m_w_same ha (Nat.le_refl _) hrh]; simp only [m_c, if_true]
  have k9 := kk (fun j => if j = h.length then q else ad j) H1 locs lsA (by rw [List.length_append]; omega) (fun i hi => by
    rw [List.length_append, List.length_singleton] at hi
    have hne : i ≠ h.length := by omega
    rw [if_neg hne]; exact hag i (by omega)) (by rw [e1]; exact hP1) (by rw [e1]; exact hD1) hS1 (by rw [m_ls_sameB haB hrb.1]; exact hL)
  rw [List.map_cons, m_st_sameB haB hrb.2] at k9
  have e2 : m_v (fun j => if j = h.length then q else ad j) (.ref h.length) = .ref q := by simp [m_v]
  rw [e2] at k9
  exact k9
theorem m_afterAB {h' : m_H} {v : Option Value} {rest stA : List Value} {ad : Nat → Nat} {H : Heap} {locs : List Loc} {lsA : Array Slot} {mc2 ms2 : Nat} {a2 : Array Value} (X : m_At D cI cL sa y cc nL ret A TB p l s m args meth c)
    (hr : va_Run p l e R s m args below meth c H locs cu su mc2 ms2 (F0 m pc lsA stA) (rest.map (m_v ad)) (m_Q D cI cL ad h.length (va_A (m_w cI cL ad h) H.size) (.inl (v, h')) a2) (va_A (m_w cI cL ad h) H.size)) (hlen : h.length ≤ h'.length) (hB9 : h'.length ≤ m_BI) (hrb : m_rbB h.length ls rest = true)
    (hn : n0 ≤ h.length) (hag : ∀ i, (i < n0 ∨ h.length ≤ i) → ad i = ad0 i) (hD : va_D A (m_w cI cL ad h)) (hS : va_S A s.heap H locs) (hL : lv_has lsA nL (ls.map (fun q => (q.1, m_v ad q.2))))
    (kk : m_Go D cI cL ad0 n0 nL A p l e R s m args below meth c Q (pc + 3) ls (v.toList ++ rest) h' (cu + mc2) (su + ms2)) : W p l e R s m args below meth c H locs cu su Q (F0 m pc lsA stA) := by
  simp only [m_rbB, Bool.and_eq_true] at hrb
  intro T hT XX
  obtain ⟨v9, st₀, t, T', L, h0, X', hL', e1, e2, ⟨vv, hf, ad', he, hoc, hn', hag', hP', hD', hF⟩, st9⟩ := hr T hT XX
  cases he
  cases hoc
  have haB : ∀ i, (i < h.length ∨ i = m_BI) → ad' i = ad i := fun i hi => hag' i (by omega)
  have hAB := m_AB X hD hS
  obtain ⟨k1, k2, k3⟩ := vx_keep h0 e1 hS (fun q _ hq => hAB q hq) hAB hL' hF
  obtain ⟨t2, a1, b1⟩ := kk ad' T'.heap (locs ++ L) lsA (by omega) (fun i hi => (hag' i (by omega)).trans (hag i (by omega))) (by rw [e1]; exact hP') (hD'.weaken (fun _ q _ hq => hAB q.1 hq)) k3 (by rw [m_ls_sameB haB hrb.1]; exact hL) T' rfl X'
  refine ⟨t2, st9 t2 ?_, b1⟩
  rw [← m_st_sameB haB hrb.2, m_optmap]
  exact a1
theorem m_callIB {M : m_M} {h' : m_H} {v : Option Value} {rest : List Value} {k n : Nat} {as : List Value} {q : Nat} (X : m_At D cI cL sa y cc nL ret A TB p l s m args meth c) (hd : decode cc pc0 = .ok (.invokespecial k, 3)) (hk : m_LK y.cls k M) (hK : m_MK M n) (hin : Cond.instanceMethod (m_My M) ∈ m_ws) (hini : (m_My M).name = "<init>") (hrn : m_Mr M = none) (hC : m_Ctr M (.ref q :: as) h (.inl (v, h'))) (hs9 : st = as.reverse ++ .ref q :: rest) (hn9 : as.length = n) (hlen : h.length ≤ h'.length) (hB9 : h'.length ≤ m_BI) (hrb : m_rbB h.length ls rest = true) (hro : (rest.map fun v => v.category).sum ≤ 8) (hrk : m_Mk M + 1 ≤ R.frames) (hrl : 8 + (m_Ml M + 11) + 32 * m_Mk M ≤ R.locals) (hcc : cu + m_Mc M ≤ R.cells) (hss : su + m_Ms M ≤ R.slots) (hp : pc = pc0)
    (kk : m_Go D cI cL ad0 n0 nL A p l e R s m args below meth c Q (pc0 + 3) ls (v.toList ++ rest) h' (cu + m_Mc M) (su + m_Ms M)) : m_Go D cI cL ad0 n0 nL A p l e R s m args below meth c Q pc ls st h cu su := by
  subst hp
  subst hs9
  intro ad H locs lsA hn hag hP hD hS hL
  have hM := m_met hC l D cI cL sa ad H.size (m_nt X)
  have hpre : PreS s H (m_Pre D cI cL sa ad h H.size (.ref q :: as)) (.ref (ad q) :: as.map (m_v ad)) := ⟨m_blind, m_pre (as := .ref q :: as) X hP hD hS⟩
  obtain ⟨My, Mb, Ml, Mr, Mk, Mc, Ms⟩ := M
  cases hrn
  refine (fun hr => m_afterAB X hr hlen hB9 hrb hn hag hD hS hL kk) (?_ : va_Run p l e R s m args below meth c H locs cu su _ _ (F0 m pc lsA (((as.reverse ++ .ref q :: rest) : List Value).map (m_v ad))) (rest.map (m_v ad)) (m_Q D cI cL ad h.length (va_A (m_w cI cL ad h) H.size) (.inl (v, h')) (Value.ref (ad q) :: as.map (m_v ad)).toArray) (va_A (m_w cI cL ad h) H.size))
  rcases hk with hk | ⟨host, hk⟩
  · exact va_runI (m_fix X) hM ⟨callB_of n (m_wd X) (m_good hK) rfl rfl rfl (m_wd X _ hK.2.1) (m_wd X _ hk) hK.2.2 ⟨hrk, hrl⟩, hini, m_wd X _ hin⟩ hpre rfl (by rw [List.length_map]; exact hn9) hL.1 (by simp [List.map_append, List.map_reverse, m_v]) (lv_room (by rw [m_v_cats]; exact hro)) hd ⟨hcc, hss⟩
  · exact va_runIN (m_fix X) hM ⟨va_cnB n (m_wd X) (m_good hK) rfl rfl rfl ((m_ev X).1 _ hk) (m_wd X _ hK.2.1) hK.2.2 ⟨hrk, hrl⟩, hini, m_wd X _ hin⟩ hpre rfl (by rw [List.length_map]; exact hn9) hL.1 (by simp [List.map_append, List.map_reverse, m_v]) (lv_room (by rw [m_v_cats]; exact hro)) hd ⟨hcc, hss⟩
theorem m_sld {b L : Nat} {xs : Nat → Int32} {i : Int32} (X : m_At D cI cL sa y cc nL ret A TB p l s m args meth c) (hX : va_X b L xs s s.heap) (hbl : b < s.heap.size) (hbA : ¬ A b) (hd : decode cc pc0 = .ok (.iaload, 1)) (hi : vp_in i L) (hB9 : h.length ≤ m_BI) (hp : pc = pc0)
    (kk : m_Go D cI cL (fun _ => b) n0 nL A p l e R s m args below meth c Q (pc0 + 1) ls (.int (xs i.toNatClampNeg) :: st) h cu su) : m_Go D cI cL (fun _ => b) n0 nL A p l e R s m args below meth c Q pc ls (.int i :: .ref m_BI :: st) h cu su := by
  subst hp
  intro ad H locs lsA hn hag hP hD hS hL
  have e9 : ad m_BI = b := hag m_BI (Or.inr hB9)
  show W p l e R s m args below meth c H locs cu su Q (F0 m pc lsA (.int i :: .ref (ad m_BI) :: st.map (m_v ad)))
  rw [e9]
  exact va_sld (m_ex X) (m_cb X) hX hbl hbA hS hi hd (kk ad H locs lsA hn hag hP hD hS hL)
theorem m_slen {b L : Nat} {xs : Nat → Int32} (X : m_At D cI cL sa y cc nL ret A TB p l s m args meth c) (hX : va_X b L xs s s.heap) (hbl : b < s.heap.size) (hbA : ¬ A b) (hd : decode cc pc0 = .ok (.arraylength, 1)) (hB9 : h.length ≤ m_BI) (hp : pc = pc0)
    (kk : m_Go D cI cL (fun _ => b) n0 nL A p l e R s m args below meth c Q (pc0 + 1) ls (.int (nI L) :: st) h cu su) : m_Go D cI cL (fun _ => b) n0 nL A p l e R s m args below meth c Q pc ls (.ref m_BI :: st) h cu su := by
  subst hp
  intro ad H locs lsA hn hag hP hD hS hL
  have e9 : ad m_BI = b := hag m_BI (Or.inr hB9)
  show W p l e R s m args below meth c H locs cu su Q (F0 m pc lsA (.ref (ad m_BI) :: st.map (m_v ad)))
  rw [e9]
  exact va_slen (m_ex X) (m_cb X) hX hbl hbA hS hd (kk ad H locs lsA hn hag hP hD hS hL)
theorem lg_cmp_0 {f : Nat → Int64} {z : Int64} (h : f 0 = z) : lg_cmp (f (0 : Int32).toNatClampNeg) z = 0 := by
  show lg_cmp (f 0) z = 0
  rw [h]; unfold lg_cmp; simp
theorem nI_4 (i : Nat) : nI (4 * i) + Int32.ofInt 4 = nI (4 * (i + 1)) := by
  rw [show Int32.ofInt 4 = nI 4 from rfl, nI_add, Nat.mul_succ]
theorem sc_in {i L : Nat} (j : Nat) (hj : j < 4) (h : 4 * i + 4 ≤ L) (hL : L ≤ 2048) : vp_in (nI (4 * i) + nI j) L := by
  rw [nI_add]; exact vp_in_nI (by omega) (by omega)
theorem sc_in0 {i L : Nat} (h : 4 * i + 4 ≤ L) (hL : L ≤ 2048) : vp_in (nI (4 * i)) L := vp_in_nI (by omega) (by omega)
end ML2

section MW
/-- the three exceptions are no kinds of each other -/
def m_ncs : List (String × String) := [("java/lang/IllegalArgumentException", "java/lang/IndexOutOfBoundsException"), ("java/lang/IllegalStateException", "java/lang/IndexOutOfBoundsException"), ("java/lang/IllegalStateException", "java/lang/IllegalArgumentException")]
def m_PreN (D : va_G) (cI cL : ClassId) (sa ad : Nat → Nat) (h : m_H) (sz : Nat) (as : List Value) : Array Value → State → Prop := fun av U => m_Pre D cI cL sa ad h sz as av U ∧ ∀ q ∈ m_ncs, va_Nc q.1 q.2 U
def m_CtrN (M : m_M) (hh : List (Nat × Nat × Nat × Nat)) (as : List Value) (h : m_H) (om : m_Om) : Prop := ∀ (l : Launch) (D : va_G) (cI cL : ClassId) (sa ad : Nat → Nat) (sz : Nat), l.stackTraces = false →
  vx_Met l (m_My M) (m_WsH M hh) (m_rm M) (m_PreN D cI cL sa ad h sz as) (m_Q D cI cL ad h.length (va_A (m_w cI cL ad h) sz) om) (m_XC D cI cL ad h.length (va_A (m_w cI cL ad h) sz) om) (m_Mc M) (m_Ms M) (va_A (m_w cI cL ad h) sz)
theorem m_introN {M : m_M} {hh : List (Nat × Nat × Nat × Nat)} {as : List Value} {h : m_H} {om : m_Om} (hy : plainName (m_My M).cls = true) (hsz : (lg_sl as).length ≤ m_Ml M)
    (body : ∀ {D : va_G} {cI cL : ClassId} {sa : Nat → Nat} {A : Nat → Prop} {p : Program} {l : Launch} {e : Env} {s : State} {m : MethodId} {args : Array Value} {below : List Frame} {meth : Method} {c : Code} {ad : Nat → Nat}, m_At D cI cL sa (m_My M) (m_Mb M) (m_Ml M) (m_Mr M) A (tableOf hh) p l s m args meth c → (∀ q ∈ m_ncs, va_Nc q.1 q.2 s) →
      m_Go D cI cL ad h.length (m_Ml M) A p l e (m_rm M) s m args below meth c (m_VQ D cI cL ad h.length A om below args s (m_Mc M) (m_Ms M)) 0 (lv_args 0 as) [] h 0 0) : m_CtrN M hh as h om := by
  intro l D cI cL sa ad sz hl
  refine vx_ofWH (cc := m_Mb M) (maxL := m_Ml M) (ret := m_Mr M) (hh := hh) hy rfl ?_
  intro p e s m args below meth c s₁ B hml hv
  obtain ⟨⟨rfl, hsz9, hP, hD0, hK, hE⟩, hN⟩ := hv
  subst hsz9
  have hD := hD0.self (sz := s.heap.size)
  have hts := atoms_spec (ws := m_WsH M hh) B.pre
  have X : m_At D cI cL sa (m_My M) (m_Mb M) (m_Ml M) (m_Mr M) (va_A (m_w cI cL ad h) s.heap.size) (tableOf hh) p l s m (as.map (m_v ad)).toArray meth c :=
    ⟨B.exec, B.bytes, hml, B.returns, B.notSynchronized, (name_of_methodNamed B.named B.method).1, findClass_of_methodNamed B.named, fun w hw => hts w (List.mem_cons_of_mem _ hw), hK, hE, fun q hq => Or.inr hq, hl, vx_table (x := m_My M) B (hts _ List.mem_cons_self)⟩
  have hl9 := lv_entry (as.map (m_v ad)) (n := m_Ml M) (by rw [m_lsl]; exact hsz)
  rw [m_largs] at hl9
  rw [lg_entry_eq]
  exact body X hN ad s.heap [] _ (Nat.le_refl _) (fun _ _ => rfl) hP hD va_S.rf hl9
theorem m_blindN {D : va_G} {cI cL : ClassId} {sa ad : Nat → Nat} {h : m_H} {sz : Nat} {as : List Value} : FrameBlind (m_PreN D cI cL sa ad h sz as) := fun a U g mk q => ⟨m_blind a U g mk q.1, fun k hk => va_Nc.moved (u := U) (U := U.calling g mk a) (Vm.Alike.refl U.vm) (q.2 k hk)⟩
theorem m_metN {M : m_M} {hh : List (Nat × Nat × Nat × Nat)} {as : List Value} {h h' : m_H} {v : Option Value} (hC : m_CtrN M hh as h (.inl (v, h'))) (l : Launch) (D : va_G) (cI cL : ClassId) (sa ad : Nat → Nat) (sz : Nat) (hl : l.stackTraces = false) :
    Met l (m_My M) (m_WsH M hh) (m_rm M) (m_PreN D cI cL sa ad h sz as) (m_Q D cI cL ad h.length (va_A (m_w cI cL ad h) sz) (.inl (v, h'))) (m_Mc M) (m_Ms M) (va_A (m_w cI cL ad h) sz) :=
  MetFree.mono (hC l D cI cL sa ad sz hl) (fun _ _ h => h) (fun _ _ _ _ _ h => h) (fun a st o t _ hq => by
    rcases hq with ⟨h1, L, h2, h3⟩ | ⟨q, ho, E, ce, L, hx, -⟩
    · exact ⟨h1, L, h2, h3⟩
    · obtain ⟨hf, ad', he, -⟩ := hx
      cases he)
variable {D : va_G} {cI cL : ClassId} {sa : Nat → Nat} {y : MethodName} {cc : ByteArray} {nL : Nat} {ret : Option FieldType} {A : Nat → Prop} {TB : List ExceptionTableEntry} {p : Program} {l : Launch} {e : Env} {R : Room} {s : State} {m : MethodId} {args : Array Value} {below : List Frame} {meth : Method} {c : Code} {Q : State → Prop} {ad0 : Nat → Nat} {n0 pc pc0 : Nat} {ls : List (Nat × Value)} {st : List Value} {h : m_H} {cu su : Nat} {om : m_Om} {mc ms : Nat}
theorem m_callN {M : m_M} {hh : List (Nat × Nat × Nat × Nat)} {h' : m_H} {v : Option Value} {rest : List Value} {k n : Nat} {as : List Value} (X : m_At D cI cL sa y cc nL ret A TB p l s m args meth c) (hN : ∀ q ∈ m_ncs, va_Nc q.1 q.2 s) (hd : decode cc pc0 = .ok (.invokestatic k, 3)) (hk : Cond.methodLink y.cls k (m_My M) ∈ m_ws) (hK : m_MKH M hh n) (hst : Cond.static (m_My M) ∈ m_ws) (hC : m_CtrN M hh as h (.inl (v, h'))) (hs9 : st = as.reverse ++ rest) (hn9 : as.length = n) (hlen : h'.length = h.length) (hro : (rest.map fun v => v.category).sum ≤ 8) (hrk : m_Mk M + 1 ≤ R.frames) (hrl : 8 + (m_Ml M + 11) + 32 * m_Mk M ≤ R.locals) (hcc : cu + m_Mc M ≤ R.cells) (hss : su + m_Ms M ≤ R.slots) (hp : pc = pc0)
    (kk : m_Go D cI cL ad0 n0 nL A p l e R s m args below meth c Q (pc0 + 3) ls (v.toList ++ rest) h' (cu + m_Mc M) (su + m_Ms M)) : m_Go D cI cL ad0 n0 nL A p l e R s m args below meth c Q pc ls st h cu su := by
  subst hp
  subst hs9
  intro ad H locs lsA hn hag hP hD hS hL
  have hM := m_metN hC l D cI cL sa ad H.size (m_nt X)
  have hpre : PreS s H (m_PreN D cI cL sa ad h H.size as) (as.map (m_v ad)) := ⟨m_blindN, fun U hU hW => ⟨m_pre X hP hD hS U hU hW, fun q hq => va_Nc.moved hW.alike (hN q hq)⟩⟩
  have hG : GoodIn m_ws (m_WsH M hh) := fun w hw => by
    rcases List.mem_cons.mp hw with rfl | hw
    · exact ⟨hK.1, good_of_word (m_ws_good hK.1)⟩
    · exact ⟨hw, good_of_word (m_ws_good hw)⟩
  refine (fun hr => m_after X hr hlen hn hag hD hS hL kk) (?_ : va_Run p l e R s m args below meth c H locs cu su _ _ (F0 m pc lsA (((as.reverse ++ rest) : List Value).map (m_v ad))) (rest.map (m_v ad)) (m_Q D cI cL ad h.length (va_A (m_w cI cL ad h) H.size) (.inl (v, h')) (as.map (m_v ad)).toArray) (va_A (m_w cI cL ad h) H.size))
  refine vx_runSW (hh := hh) (bytes := m_Mb M) (maxL := m_Ml M) (ret := m_Mr M) (n := n) (m_fix X) hM ⟨⟨rfl, rfl, hrk, hrl, pay_in (m_wd X) hG, List.mem_cons_self⟩, m_wd X _ hK.1, m_wd X _ hK.2.1, ⟨hK.2.2.1, hK.2.2.2.1⟩, fun sig h9 => ?_, m_wd X _ hk, m_wd X _ hst⟩ hpre rfl (by rw [List.length_map]; exact hn9) hL.1 (by simp [List.map_append, List.map_reverse]) (lv_room (by rw [m_v_cats]; exact hro)) hd ⟨hcc, hss⟩
  have h2 := hK.2.2.2.2
  rw [h9] at h2
  exact (Option.some.inj h2).symm
theorem m_callN5 {x0 x1 x2 x3 x4 : Value} {M : m_M} {hh : List (Nat × Nat × Nat × Nat)} {h' : m_H} {v : Option Value} {rest : List Value} {k n : Nat} (X : m_At D cI cL sa y cc nL ret A TB p l s m args meth c) (hN : ∀ q ∈ m_ncs, va_Nc q.1 q.2 s) (hd : decode cc pc0 = .ok (.invokestatic k, 3)) (hk : Cond.methodLink y.cls k (m_My M) ∈ m_ws) (hK : m_MKH M hh 5) (hst : Cond.static (m_My M) ∈ m_ws) (hC : m_CtrN M hh [x0, x1, x2, x3, x4] h (.inl (v, h'))) (hlen : h'.length = h.length) (hro : (rest.map fun v => v.category).sum ≤ 8) (hrk : m_Mk M + 1 ≤ R.frames) (hrl : 8 + (m_Ml M + 11) + 32 * m_Mk M ≤ R.locals) (hcc : cu + m_Mc M ≤ R.cells) (hss : su + m_Ms M ≤ R.slots) (hp : pc = pc0)
    (kk : m_Go D cI cL ad0 n0 nL A p l e R s m args below meth c Q (pc0 + 3) ls (v.toList ++ rest) h' (cu + m_Mc M) (su + m_Ms M)) : m_Go D cI cL ad0 n0 nL A p l e R s m args below meth c Q pc ls (x4 :: x3 :: x2 :: x1 :: x0 :: rest) h cu su := m_callN X hN hd hk hK hst hC rfl rfl hlen hro hrk hrl hcc hss hp kk
theorem m_callN4 {x0 x1 x2 x3 : Value} {M : m_M} {hh : List (Nat × Nat × Nat × Nat)} {h' : m_H} {v : Option Value} {rest : List Value} {k n : Nat} (X : m_At D cI cL sa y cc nL ret A TB p l s m args meth c) (hN : ∀ q ∈ m_ncs, va_Nc q.1 q.2 s) (hd : decode cc pc0 = .ok (.invokestatic k, 3)) (hk : Cond.methodLink y.cls k (m_My M) ∈ m_ws) (hK : m_MKH M hh 4) (hst : Cond.static (m_My M) ∈ m_ws) (hC : m_CtrN M hh [x0, x1, x2, x3] h (.inl (v, h'))) (hlen : h'.length = h.length) (hro : (rest.map fun v => v.category).sum ≤ 8) (hrk : m_Mk M + 1 ≤ R.frames) (hrl : 8 + (m_Ml M + 11) + 32 * m_Mk M ≤ R.locals) (hcc : cu + m_Mc M ≤ R.cells) (hss : su + m_Ms M ≤ R.slots) (hp : pc = pc0)
    (kk : m_Go D cI cL ad0 n0 nL A p l e R s m args below meth c Q (pc0 + 3) ls (v.toList ++ rest) h' (cu + m_Mc M) (su + m_Ms M)) : m_Go D cI cL ad0 n0 nL A p l e R s m args below meth c Q pc ls (x3 :: x2 :: x1 :: x0 :: rest) h cu su := m_callN X hN hd hk hK hst hC rfl rfl hlen hro hrk hrl hcc hss hp kk
theorem m_callN3 {x0 x1 x2 : Value} {M : m_M} {hh : List (Nat × Nat × Nat × Nat)} {h' : m_H} {v : Option Value} {rest : List Value} {k n : Nat} (X : m_At D cI cL sa y cc nL ret A TB p l s m args meth c) (hN : ∀ q ∈ m_ncs, va_Nc q.1 q.2 s) (hd : decode cc pc0 = .ok (.invokestatic k, 3)) (hk : Cond.methodLink y.cls k (m_My M) ∈ m_ws) (hK : m_MKH M hh 3) (hst : Cond.static (m_My M) ∈ m_ws) (hC : m_CtrN M hh [x0, x1, x2] h (.inl (v, h'))) (hlen : h'.length = h.length) (hro : (rest.map fun v => v.category).sum ≤ 8) (hrk : m_Mk M + 1 ≤ R.frames) (hrl : 8 + (m_Ml M + 11) + 32 * m_Mk M ≤ R.locals) (hcc : cu + m_Mc M ≤ R.cells) (hss : su + m_Ms M ≤ R.slots) (hp : pc = pc0)
    (kk : m_Go D cI cL ad0 n0 nL A p l e R s m args below meth c Q (pc0 + 3) ls (v.toList ++ rest) h' (cu + m_Mc M) (su + m_Ms M)) : m_Go D cI cL ad0 n0 nL A p l e R s m args below meth c Q pc ls (x2 :: x1 :: x0 :: rest) h cu su := m_callN X hN hd hk hK hst hC rfl rfl hlen hro hrk hrl hcc hss hp kk
theorem m_callN2 {x0 x1 : Value} {M : m_M} {hh : List (Nat × Nat × Nat × Nat)} {h' : m_H} {v : Option Value} {rest : List Value} {k n : Nat} (X : m_At D cI cL sa y cc nL ret A TB p l s m args meth c) (hN : ∀ q ∈ m_ncs, va_Nc q.1 q.2 s) (hd : decode cc pc0 = .ok (.invokestatic k, 3)) (hk : Cond.methodLink y.cls k (m_My M) ∈ m_ws) (hK : m_MKH M hh 2) (hst : Cond.static (m_My M) ∈ m_ws) (hC : m_CtrN M hh [x0, x1] h (.inl (v, h'))) (hlen : h'.length = h.length) (hro : (rest.map fun v => v.category).sum ≤ 8) (hrk : m_Mk M + 1 ≤ R.frames) (hrl : 8 + (m_Ml M + 11) + 32 * m_Mk M ≤ R.locals) (hcc : cu + m_Mc M ≤ R.cells) (hss : su + m_Ms M ≤ R.slots) (hp : pc = pc0)
    (kk : m_Go D cI cL ad0 n0 nL A p l e R s m args below meth c Q (pc0 + 3) ls (v.toList ++ rest) h' (cu + m_Mc M) (su + m_Ms M)) : m_Go D cI cL ad0 n0 nL A p l e R s m args below meth c Q pc ls (x1 :: x0 :: rest) h cu su := m_callN X hN hd hk hK hst hC rfl rfl hlen hro hrk hrl hcc hss hp kk
/-- the handler: it puts the exception by and answers n9 -/
theorem m_hand {hpc len : Nat} {n9 : Int32} {i9 : Int} {ad : Nat → Nat} {H : Heap} {locs : List Loc} {lsA : Array Slot} {q9 : Addr} (X : m_At D cI cL sa y cc nL ret A TB p l s m args meth c) (hst : (∃ k : Fin 4, decode cc hpc = .ok (.astore_n k, 1) ∧ len = 1 ∧ (k : Nat) < nL) ∨ ∃ k : Nat, decode cc hpc = .ok (.astore k, 2) ∧ len = 2 ∧ k < nL) (hi : decode cc (hpc + len) = .ok (.iconst i9, 1)) (hv : Int32.ofInt i9 = n9) (hd : decode cc (hpc + len + 1) = .ok (.ireturn, 1)) (hr : ret = some .int) (ho : om = .inl (some (.int n9), h)) (hc : cu ≤ mc) (hs : su ≤ ms)
    (hn : n0 ≤ h.length) (hag : ∀ i, (i < n0 ∨ h.length ≤ i) → ad i = ad0 i) (hP : va_P D m_cl (m_w cI cL ad h) H) (hD : va_D A (m_w cI cL ad h)) (hS : va_S A s.heap H locs) (hL : lv_has lsA nL (ls.map (fun q => (q.1, m_v ad q.2)))) :
    W p l e R s m args below meth c H locs cu su (m_VQ D cI cL ad0 n0 A om below args s mc ms) (F0 m hpc lsA [.ref q9]) := by
  have go : ∀ ls' : Array Slot, W p l e R s m args below meth c H locs cu su (m_VQ D cI cL ad0 n0 A om below args s mc ms) (F0 m (hpc + len) ls' []) := fun ls' =>
    lv_iconst (m_ex X) (m_cb X) hi hv (W.widen hc hs (vx_ret (W.iret (m_ex X) (m_cb X) ((m_rt X).trans hr) (fun t ht hW => ⟨_, h, ad, ho, rfl, hn, hag, by rw [ht]; exact hP, hD, hS.F ht⟩) hS.2.2 hd (m_lk X))))
  rcases hst with ⟨k, hk, rfl, hkn⟩ | ⟨k, hk, rfl, hkn⟩
  · exact lv_astore_n (m_ex X) (m_cb X) hk rfl hL hkn rfl (fun ls' _ => go ls')
  · exact lv_astore (m_ex X) (m_cb X) hk hL hkn rfl (fun ls' _ => go ls')
theorem m_own_RL {s : State} {m : MethodId} (h : s.vm.findClass RL = some m.cls) : s.vm.findClass RL = some m.cls := h
theorem xl_13 : Cond.classLink RL 13 "java/lang/IllegalArgumentException" ∈ m_ws := m_ws_in (List.mem_append_right _ (List.mem_of_getElem? (i := 277) (by decide +kernel))) rfl
theorem xk_1 : Cond.castable "java/lang/IllegalArgumentException" "java/lang/IllegalArgumentException" ∈ m_nw := m_nw_in (List.mem_append_right _ (List.mem_of_getElem? (i := 294) (by decide +kernel))) rfl
theorem xl_23 : Cond.classLink RL 23 "java/lang/IllegalStateException" ∈ m_ws := m_ws_in (List.mem_append_right _ (List.mem_of_getElem? (i := 461) (by decide +kernel))) rfl
theorem xk_2 : Cond.castable "java/lang/IllegalStateException" "java/lang/IllegalStateException" ∈ m_nw := m_nw_in (List.mem_append_right _ (List.mem_of_getElem? (i := 471) (by decide +kernel))) rfl
theorem xl_31 : Cond.classLink RL 31 "java/lang/IndexOutOfBoundsException" ∈ m_ws := m_ws_in (List.mem_append_right _ (List.mem_of_getElem? (i := 495) (by decide +kernel))) rfl
theorem xk_0 : Cond.castable "java/lang/IndexOutOfBoundsException" "java/lang/IndexOutOfBoundsException" ∈ m_nw := m_nw_in (List.mem_append_right _ (List.mem_of_getElem? (i := 505) (by decide +kernel))) rfl
theorem w_tick {v v9 w : m_V} {a a9 b : m_R} {x x9 z : Int64} {lq : Int32} {f : Nat → Int64} {r9 : Int32} {p0 : Int32} (hC : m_Ctr M_X5_tick [.ref 0, .int p0] (hL v a x w b z lq [m_la 1 f]) (.inl (some (.int r9), (hL v9 a9 x9 w b z lq [m_la 1 f])))) : m_CtrN M_L_tick H_L_tick [.ref 0, .int p0, .ref 31] (hL v a x w b z lq [m_la 1 f]) (.inl (some (.int 0), (hL v9 a9 x9 w b z lq [m_la 1 (vp_updL f (0 : Int32).toNatClampNeg r9.toInt64)]))) := by
  refine m_introN (by decide +kernel) (Nat.le_of_ble_eq_true rfl) (fun X hN => ?_)
  refine m_aload_n X dL_tick_0 rfl rfl ?_
  refine m_iconst (v := 0) X dL_tick_1 (by decide) rfl ?_
  refine m_aload_n X dL_tick_2 rfl rfl ?_
  refine m_iload_n X dL_tick_3 rfl rfl ?_
  refine m_cV1 X dL_tick_4 lk_L_7 mk_X5_tick in_X5_tick se_X5_tick rfl rfl hC rfl (Nat.le_of_ble_eq_true rfl) (Nat.le_of_ble_eq_true rfl) (Nat.le_of_ble_eq_true rfl) (Nat.le_of_ble_eq_true rfl) (Nat.le_of_ble_eq_true rfl) rfl ?_
  refine m_i2l X dL_tick_7 rfl ?_
  refine m_last X dL_tick_8 rfl (vp_in_nI (n := 0) (by decide) (by decide)) rfl ?_
  refine m_goto (tgt := 15) X dL_tick_9 (by decide) rfl ?_
  refine m_iconst (v := 0) X dL_tick_15 (by decide) rfl ?_
  exact m_iret X dL_tick_16 rfl rfl (Nat.le_of_ble_eq_true rfl) (Nat.le_of_ble_eq_true rfl) rfl
theorem w_tick_x1 {v v9 w : m_V} {a a9 b : m_R} {x x9 z : Int64} {lq : Int32} {f : Nat → Int64} {p0 : Int32} (hC : m_Ctr Mx_X5_tick [.ref 0, .int p0] (hL v a x w b z lq [m_la 1 f]) (.inr ("java/lang/IllegalArgumentException", (hL v a x w b z lq [m_la 1 f])))) : m_CtrN M_L_tick H_L_tick [.ref 0, .int p0, .ref 31] (hL v a x w b z lq [m_la 1 f]) (.inl (some (.int 1), (hL v a x w b z lq [m_la 1 f]))) := by
  refine m_introN (by decide +kernel) (Nat.le_of_ble_eq_true rfl) (fun X hN => ?_)
  refine m_aload_n X dL_tick_0 rfl rfl ?_
  refine m_iconst (v := 0) X dL_tick_1 (by decide) rfl ?_
  refine m_aload_n X dL_tick_2 rfl rfl ?_
  refine m_iload_n X dL_tick_3 rfl rfl ?_
  refine m_thV_x (M := Mx_X5_tick) X dL_tick_4 ll_L_7 mkx_X5_tick in_X5_tick se_X5_tick rfl rfl hC (as := [.int p0]) rfl rfl rfl (Nat.le_of_ble_eq_true rfl) (Nat.le_of_ble_eq_true rfl) (Nat.le_of_ble_eq_true rfl) (Nat.le_of_ble_eq_true rfl) (Nat.le_of_ble_eq_true rfl) rfl (fun ad H1 locs1 lsA q9 ce hn hag hP hD hS hLA hce hcv hcl => ?_)
  refine vx_catch (m_ow X) [] ⟨0, 9, 12, 13⟩ [] (m_tb X) (fun z hz => by cases hz) (by decide) (by decide) (m_wd X _ xl_13) (va_Nw.use rfl ((m_ev X).1 _ xk_1)) hce hcv hcl ?_
  exact m_hand (om := .inl (some (.int 1), (hL v a x w b z lq [m_la 1 f]))) X (Or.inl ⟨_, dL_tick_12, rfl, (Nat.le_of_ble_eq_true rfl)⟩) dL_tick_13 (by decide) dL_tick_14 rfl rfl (Nat.le_of_ble_eq_true rfl) (Nat.le_of_ble_eq_true rfl) hn hag hP hD hS hLA
theorem w_ticks {v v9 w : m_V} {a a9 b : m_R} {x x9 z : Int64} {lq : Int32} {f : Nat → Int64} {r9 : Int32} {p0 p1 : Int32} (hC : m_Ctr M_X5_ticks [.ref 0, .int p0, .int p1] (hL v a x w b z lq [m_la 1 f]) (.inl (some (.int r9), (hL v9 a9 x9 w b z lq [m_la 1 f])))) : m_CtrN M_L_ticks H_L_ticks [.ref 0, .int p0, .int p1, .ref 31] (hL v a x w b z lq [m_la 1 f]) (.inl (some (.int 0), (hL v9 a9 x9 w b z lq [m_la 1 (vp_updL f (0 : Int32).toNatClampNeg r9.toInt64)]))) := by
  refine m_introN (by decide +kernel) (Nat.le_of_ble_eq_true rfl) (fun X hN => ?_)
  refine m_aload_n X dL_ticks_0 rfl rfl ?_
  refine m_iconst (v := 0) X dL_ticks_1 (by decide) rfl ?_
  refine m_aload_n X dL_ticks_2 rfl rfl ?_
  refine m_iload_n X dL_ticks_3 rfl rfl ?_
  refine m_iload_n X dL_ticks_4 rfl rfl ?_
  refine m_cV2 X dL_ticks_5 lk_L_15 mk_X5_ticks in_X5_ticks se_X5_ticks rfl rfl hC rfl (Nat.le_of_ble_eq_true rfl) (Nat.le_of_ble_eq_true rfl) (Nat.le_of_ble_eq_true rfl) (Nat.le_of_ble_eq_true rfl) (Nat.le_of_ble_eq_true rfl) rfl ?_
  refine m_i2l X dL_ticks_8 rfl ?_
  refine m_last X dL_ticks_9 rfl (vp_in_nI (n := 0) (by decide) (by decide)) rfl ?_
  refine m_goto (tgt := 17) X dL_ticks_10 (by decide) rfl ?_
  refine m_iconst (v := 0) X dL_ticks_17 (by decide) rfl ?_
  exact m_iret X dL_ticks_18 rfl rfl (Nat.le_of_ble_eq_true rfl) (Nat.le_of_ble_eq_true rfl) rfl
theorem w_ticks_x1 {v v9 w : m_V} {a a9 b : m_R} {x x9 z : Int64} {lq : Int32} {f : Nat → Int64} {p0 p1 : Int32} (hC : m_Ctr Mx_X5_ticks [.ref 0, .int p0, .int p1] (hL v a x w b z lq [m_la 1 f]) (.inr ("java/lang/IllegalArgumentException", (hL v a x w b z lq [m_la 1 f])))) : m_CtrN M_L_ticks H_L_ticks [.ref 0, .int p0, .int p1, .ref 31] (hL v a x w b z lq [m_la 1 f]) (.inl (some (.int 1), (hL v a x w b z lq [m_la 1 f]))) := by
  refine m_introN (by decide +kernel) (Nat.le_of_ble_eq_true rfl) (fun X hN => ?_)
  refine m_aload_n X dL_ticks_0 rfl rfl ?_
  refine m_iconst (v := 0) X dL_ticks_1 (by decide) rfl ?_
  refine m_aload_n X dL_ticks_2 rfl rfl ?_
  refine m_iload_n X dL_ticks_3 rfl rfl ?_
  refine m_iload_n X dL_ticks_4 rfl rfl ?_
  refine m_thV_x (M := Mx_X5_ticks) X dL_ticks_5 ll_L_15 mkx_X5_ticks in_X5_ticks se_X5_ticks rfl rfl hC (as := [.int p0, .int p1]) rfl rfl rfl (Nat.le_of_ble_eq_true rfl) (Nat.le_of_ble_eq_true rfl) (Nat.le_of_ble_eq_true rfl) (Nat.le_of_ble_eq_true rfl) (Nat.le_of_ble_eq_true rfl) rfl (fun ad H1 locs1 lsA q9 ce hn hag hP hD hS hLA hce hcv hcl => ?_)
  refine vx_catch (m_ow X) [] ⟨0, 10, 13, 13⟩ [] (m_tb X) (fun z hz => by cases hz) (by decide) (by decide) (m_wd X _ xl_13) (va_Nw.use rfl ((m_ev X).1 _ xk_1)) hce hcv hcl ?_
  exact m_hand (om := .inl (some (.int 1), (hL v a x w b z lq [m_la 1 f]))) X (Or.inr ⟨_, dL_ticks_13, rfl, (Nat.le_of_ble_eq_true rfl)⟩) dL_ticks_15 (by decide) dL_ticks_16 rfl rfl (Nat.le_of_ble_eq_true rfl) (Nat.le_of_ble_eq_true rfl) hn hag hP hD hS hLA
theorem w_zero {v v9 w : m_V} {a a9 b : m_R} {x x9 z : Int64} {lq : Int32} {f : Nat → Int64} {r9 : Int32} (hC : m_Ctr M_X5_zero [.ref 0] (hL v a x w b z lq [m_la 1 f]) (.inl (some (.int r9), (hL v9 a9 x9 w b z lq [m_la 1 f])))) : m_CtrN M_L_zero H_L_zero [.ref 0, .ref 31] (hL v a x w b z lq [m_la 1 f]) (.inl (some (.int 0), (hL v9 a9 x9 w b z lq [m_la 1 (vp_updL f (0 : Int32).toNatClampNeg r9.toInt64)]))) := by
  refine m_introN (by decide +kernel) (Nat.le_of_ble_eq_true rfl) (fun X hN => ?_)
  refine m_aload_n X dL_zero_0 rfl rfl ?_
  refine m_iconst (v := 0) X dL_zero_1 (by decide) rfl ?_
  refine m_aload_n X dL_zero_2 rfl rfl ?_
  refine m_cV0 X dL_zero_3 lk_L_19 mk_X5_zero in_X5_zero se_X5_zero rfl rfl hC rfl (Nat.le_of_ble_eq_true rfl) (Nat.le_of_ble_eq_true rfl) (Nat.le_of_ble_eq_true rfl) (Nat.le_of_ble_eq_true rfl) (Nat.le_of_ble_eq_true rfl) rfl ?_
  refine m_i2l X dL_zero_6 rfl ?_
  refine m_last X dL_zero_7 rfl (vp_in_nI (n := 0) (by decide) (by decide)) rfl ?_
  refine m_goto (tgt := 14) X dL_zero_8 (by decide) rfl ?_
  refine m_iconst (v := 0) X dL_zero_14 (by decide) rfl ?_
  exact m_iret X dL_zero_15 rfl rfl (Nat.le_of_ble_eq_true rfl) (Nat.le_of_ble_eq_true rfl) rfl
theorem w_zero_x1 {v v9 w : m_V} {a a9 b : m_R} {x x9 z : Int64} {lq : Int32} {f : Nat → Int64} (hC : m_Ctr Mx_X5_zero [.ref 0] (hL v a x w b z lq [m_la 1 f]) (.inr ("java/lang/IllegalStateException", (hL v a x w b z lq [m_la 1 f])))) : m_CtrN M_L_zero H_L_zero [.ref 0, .ref 31] (hL v a x w b z lq [m_la 1 f]) (.inl (some (.int 1), (hL v a x w b z lq [m_la 1 f]))) := by
  refine m_introN (by decide +kernel) (Nat.le_of_ble_eq_true rfl) (fun X hN => ?_)
  refine m_aload_n X dL_zero_0 rfl rfl ?_
  refine m_iconst (v := 0) X dL_zero_1 (by decide) rfl ?_
  refine m_aload_n X dL_zero_2 rfl rfl ?_
  refine m_thV_x (M := Mx_X5_zero) X dL_zero_3 ll_L_19 mkx_X5_zero in_X5_zero se_X5_zero rfl rfl hC (as := []) rfl rfl rfl (Nat.le_of_ble_eq_true rfl) (Nat.le_of_ble_eq_true rfl) (Nat.le_of_ble_eq_true rfl) (Nat.le_of_ble_eq_true rfl) (Nat.le_of_ble_eq_true rfl) rfl (fun ad H1 locs1 lsA q9 ce hn hag hP hD hS hLA hce hcv hcl => ?_)
  refine vx_catch (m_ow X) [] ⟨0, 8, 11, 23⟩ [] (m_tb X) (fun z hz => by cases hz) (by decide) (by decide) (m_wd X _ xl_23) (va_Nw.use rfl ((m_ev X).1 _ xk_2)) hce hcv hcl ?_
  exact m_hand (om := .inl (some (.int 1), (hL v a x w b z lq [m_la 1 f]))) X (Or.inl ⟨_, dL_zero_11, rfl, (Nat.le_of_ble_eq_true rfl)⟩) dL_zero_12 (by decide) dL_zero_13 rfl rfl (Nat.le_of_ble_eq_true rfl) (Nat.le_of_ble_eq_true rfl) hn hag hP hD hS hLA
theorem w_setBand {v v9 w : m_V} {a a9 b : m_R} {x x9 z : Int64} {lq : Int32} {f : Nat → Int64} {r9 : Int32} {p0 : Int32} (hC : m_Ctr M_X5_setBand [.ref 0, .int p0] (hL v a x w b z lq [m_la 1 f]) (.inl (some (.int r9), (hL v9 a9 x9 w b z lq [m_la 1 f])))) : m_CtrN M_L_setBand H_L_setBand [.ref 0, .int p0, .ref 31] (hL v a x w b z lq [m_la 1 f]) (.inl (some (.int 0), (hL v9 a9 x9 w b z lq [m_la 1 (vp_updL f (0 : Int32).toNatClampNeg r9.toInt64)]))) := by
  refine m_introN (by decide +kernel) (Nat.le_of_ble_eq_true rfl) (fun X hN => ?_)
  refine m_aload_n X dL_setBand_0 rfl rfl ?_
  refine m_iconst (v := 0) X dL_setBand_1 (by decide) rfl ?_
  refine m_aload_n X dL_setBand_2 rfl rfl ?_
  refine m_iload_n X dL_setBand_3 rfl rfl ?_
  refine m_cV1 X dL_setBand_4 lk_L_25 mk_X5_setBand in_X5_setBand se_X5_setBand rfl rfl hC rfl (Nat.le_of_ble_eq_true rfl) (Nat.le_of_ble_eq_true rfl) (Nat.le_of_ble_eq_true rfl) (Nat.le_of_ble_eq_true rfl) (Nat.le_of_ble_eq_true rfl) rfl ?_
  refine m_i2l X dL_setBand_7 rfl ?_
  refine m_last X dL_setBand_8 rfl (vp_in_nI (n := 0) (by decide) (by decide)) rfl ?_
  refine m_goto (tgt := 15) X dL_setBand_9 (by decide) rfl ?_
  refine m_iconst (v := 0) X dL_setBand_15 (by decide) rfl ?_
  exact m_iret X dL_setBand_16 rfl rfl (Nat.le_of_ble_eq_true rfl) (Nat.le_of_ble_eq_true rfl) rfl
theorem w_setBand_x1 {v v9 w : m_V} {a a9 b : m_R} {x x9 z : Int64} {lq : Int32} {f : Nat → Int64} {p0 : Int32} (hC : m_Ctr Mx_X5_setBand [.ref 0, .int p0] (hL v a x w b z lq [m_la 1 f]) (.inr ("java/lang/IllegalArgumentException", (hL v a x w b z lq [m_la 1 f])))) : m_CtrN M_L_setBand H_L_setBand [.ref 0, .int p0, .ref 31] (hL v a x w b z lq [m_la 1 f]) (.inl (some (.int 1), (hL v a x w b z lq [m_la 1 f]))) := by
  refine m_introN (by decide +kernel) (Nat.le_of_ble_eq_true rfl) (fun X hN => ?_)
  refine m_aload_n X dL_setBand_0 rfl rfl ?_
  refine m_iconst (v := 0) X dL_setBand_1 (by decide) rfl ?_
  refine m_aload_n X dL_setBand_2 rfl rfl ?_
  refine m_iload_n X dL_setBand_3 rfl rfl ?_
  refine m_thV_x (M := Mx_X5_setBand) X dL_setBand_4 ll_L_25 mkx_X5_setBand in_X5_setBand se_X5_setBand rfl rfl hC (as := [.int p0]) rfl rfl rfl (Nat.le_of_ble_eq_true rfl) (Nat.le_of_ble_eq_true rfl) (Nat.le_of_ble_eq_true rfl) (Nat.le_of_ble_eq_true rfl) (Nat.le_of_ble_eq_true rfl) rfl (fun ad H1 locs1 lsA q9 ce hn hag hP hD hS hLA hce hcv hcl => ?_)
  refine vx_catch (m_ow X) [] ⟨0, 9, 12, 13⟩ [] (m_tb X) (fun z hz => by cases hz) (by decide) (by decide) (m_wd X _ xl_13) (va_Nw.use rfl ((m_ev X).1 _ xk_1)) hce hcv hcl ?_
  exact m_hand (om := .inl (some (.int 1), (hL v a x w b z lq [m_la 1 f]))) X (Or.inl ⟨_, dL_setBand_12, rfl, (Nat.le_of_ble_eq_true rfl)⟩) dL_setBand_13 (by decide) dL_setBand_14 rfl rfl (Nat.le_of_ble_eq_true rfl) (Nat.le_of_ble_eq_true rfl) hn hag hP hD hS hLA
theorem w_fill {v v9 w : m_V} {a a9 b : m_R} {x x9 z : Int64} {lq : Int32} {f : Nat → Int64} {r9 : Int32} {p0 p1 : Int32} (hC : m_Ctr M_X5_fill [.ref 0, .int p0, .int p1] (hL v a x w b z lq [m_la 1 f]) (.inl (some (.int r9), (hL v9 a9 x9 w b z lq [m_la 1 f])))) : m_CtrN M_L_fill H_L_fill [.ref 0, .int p0, .int p1, .ref 31] (hL v a x w b z lq [m_la 1 f]) (.inl (some (.int 0), (hL v9 a9 x9 w b z lq [m_la 1 (vp_updL f (0 : Int32).toNatClampNeg r9.toInt64)]))) := by
  refine m_introN (by decide +kernel) (Nat.le_of_ble_eq_true rfl) (fun X hN => ?_)
  refine m_aload_n X dL_fill_0 rfl rfl ?_
  refine m_iconst (v := 0) X dL_fill_1 (by decide) rfl ?_
  refine m_aload_n X dL_fill_2 rfl rfl ?_
  refine m_iload_n X dL_fill_3 rfl rfl ?_
  refine m_iload_n X dL_fill_4 rfl rfl ?_
  refine m_cV2 X dL_fill_5 lk_L_28 mk_X5_fill in_X5_fill se_X5_fill rfl rfl hC rfl (Nat.le_of_ble_eq_true rfl) (Nat.le_of_ble_eq_true rfl) (Nat.le_of_ble_eq_true rfl) (Nat.le_of_ble_eq_true rfl) (Nat.le_of_ble_eq_true rfl) rfl ?_
  refine m_i2l X dL_fill_8 rfl ?_
  refine m_last X dL_fill_9 rfl (vp_in_nI (n := 0) (by decide) (by decide)) rfl ?_
  refine m_goto (tgt := 25) X dL_fill_10 (by decide) rfl ?_
  refine m_iconst (v := 0) X dL_fill_25 (by decide) rfl ?_
  exact m_iret X dL_fill_26 rfl rfl (Nat.le_of_ble_eq_true rfl) (Nat.le_of_ble_eq_true rfl) rfl
theorem w_fill_x1 {v v9 w : m_V} {a a9 b : m_R} {x x9 z : Int64} {lq : Int32} {f : Nat → Int64} {p0 p1 : Int32} (hC : m_Ctr Mx_X5_fill [.ref 0, .int p0, .int p1] (hL v a x w b z lq [m_la 1 f]) (.inr ("java/lang/IndexOutOfBoundsException", (hL v a x w b z lq [m_la 1 f])))) : m_CtrN M_L_fill H_L_fill [.ref 0, .int p0, .int p1, .ref 31] (hL v a x w b z lq [m_la 1 f]) (.inl (some (.int 1), (hL v a x w b z lq [m_la 1 f]))) := by
  refine m_introN (by decide +kernel) (Nat.le_of_ble_eq_true rfl) (fun X hN => ?_)
  refine m_aload_n X dL_fill_0 rfl rfl ?_
  refine m_iconst (v := 0) X dL_fill_1 (by decide) rfl ?_
  refine m_aload_n X dL_fill_2 rfl rfl ?_
  refine m_iload_n X dL_fill_3 rfl rfl ?_
  refine m_iload_n X dL_fill_4 rfl rfl ?_
  refine m_thV_x (M := Mx_X5_fill) X dL_fill_5 ll_L_28 mkx_X5_fill in_X5_fill se_X5_fill rfl rfl hC (as := [.int p0, .int p1]) rfl rfl rfl (Nat.le_of_ble_eq_true rfl) (Nat.le_of_ble_eq_true rfl) (Nat.le_of_ble_eq_true rfl) (Nat.le_of_ble_eq_true rfl) (Nat.le_of_ble_eq_true rfl) rfl (fun ad H1 locs1 lsA q9 ce hn hag hP hD hS hLA hce hcv hcl => ?_)
  refine vx_catch (m_ow X) [] ⟨0, 10, 13, 31⟩ [⟨0, 10, 17, 13⟩, ⟨0, 10, 21, 23⟩] (m_tb X) (fun z hz => by cases hz) (by decide) (by decide) (m_wd X _ xl_31) (va_Nw.use rfl ((m_ev X).1 _ xk_0)) hce hcv hcl ?_
  exact m_hand (om := .inl (some (.int 1), (hL v a x w b z lq [m_la 1 f]))) X (Or.inr ⟨_, dL_fill_13, rfl, (Nat.le_of_ble_eq_true rfl)⟩) dL_fill_15 (by decide) dL_fill_16 rfl rfl (Nat.le_of_ble_eq_true rfl) (Nat.le_of_ble_eq_true rfl) hn hag hP hD hS hLA
theorem w_fill_x2 {v v9 w : m_V} {a a9 b : m_R} {x x9 z : Int64} {lq : Int32} {f : Nat → Int64} {p0 p1 : Int32} (hC : m_Ctr Mx_X5_fill [.ref 0, .int p0, .int p1] (hL v a x w b z lq [m_la 1 f]) (.inr ("java/lang/IllegalArgumentException", (hL v a x w b z lq [m_la 1 f])))) : m_CtrN M_L_fill H_L_fill [.ref 0, .int p0, .int p1, .ref 31] (hL v a x w b z lq [m_la 1 f]) (.inl (some (.int 2), (hL v a x w b z lq [m_la 1 f]))) := by
  refine m_introN (by decide +kernel) (Nat.le_of_ble_eq_true rfl) (fun X hN => ?_)
  refine m_aload_n X dL_fill_0 rfl rfl ?_
  refine m_iconst (v := 0) X dL_fill_1 (by decide) rfl ?_
  refine m_aload_n X dL_fill_2 rfl rfl ?_
  refine m_iload_n X dL_fill_3 rfl rfl ?_
  refine m_iload_n X dL_fill_4 rfl rfl ?_
  refine m_thV_x (M := Mx_X5_fill) X dL_fill_5 ll_L_28 mkx_X5_fill in_X5_fill se_X5_fill rfl rfl hC (as := [.int p0, .int p1]) rfl rfl rfl (Nat.le_of_ble_eq_true rfl) (Nat.le_of_ble_eq_true rfl) (Nat.le_of_ble_eq_true rfl) (Nat.le_of_ble_eq_true rfl) (Nat.le_of_ble_eq_true rfl) rfl (fun ad H1 locs1 lsA q9 ce hn hag hP hD hS hLA hce hcv hcl => ?_)
  refine vx_catch (m_ow X) [⟨0, 10, 13, 31⟩] ⟨0, 10, 17, 13⟩ [⟨0, 10, 21, 23⟩] (m_tb X) (fun z hz => by
    rcases List.mem_cons.mp hz with rfl | hz
    · exact Or.inr ⟨by decide, "java/lang/IndexOutOfBoundsException", m_wd X _ xl_31, hN ("java/lang/IllegalArgumentException", "java/lang/IndexOutOfBoundsException") (by decide)⟩
    · cases hz) (by decide) (by decide) (m_wd X _ xl_13) (va_Nw.use rfl ((m_ev X).1 _ xk_1)) hce hcv hcl ?_
  exact m_hand (om := .inl (some (.int 2), (hL v a x w b z lq [m_la 1 f]))) X (Or.inr ⟨_, dL_fill_17, rfl, (Nat.le_of_ble_eq_true rfl)⟩) dL_fill_19 (by decide) dL_fill_20 rfl rfl (Nat.le_of_ble_eq_true rfl) (Nat.le_of_ble_eq_true rfl) hn hag hP hD hS hLA
theorem w_fill_x3 {v v9 w : m_V} {a a9 b : m_R} {x x9 z : Int64} {lq : Int32} {f : Nat → Int64} {p0 p1 : Int32} (hC : m_Ctr Mx_X5_fill [.ref 0, .int p0, .int p1] (hL v a x w b z lq [m_la 1 f]) (.inr ("java/lang/IllegalStateException", (hL v a x w b z lq [m_la 1 f])))) : m_CtrN M_L_fill H_L_fill [.ref 0, .int p0, .int p1, .ref 31] (hL v a x w b z lq [m_la 1 f]) (.inl (some (.int 3), (hL v a x w b z lq [m_la 1 f]))) := by
  refine m_introN (by decide +kernel) (Nat.le_of_ble_eq_true rfl) (fun X hN => ?_)
  refine m_aload_n X dL_fill_0 rfl rfl ?_
  refine m_iconst (v := 0) X dL_fill_1 (by decide) rfl ?_
  refine m_aload_n X dL_fill_2 rfl rfl ?_
  refine m_iload_n X dL_fill_3 rfl rfl ?_
  refine m_iload_n X dL_fill_4 rfl rfl ?_
  refine m_thV_x (M := Mx_X5_fill) X dL_fill_5 ll_L_28 mkx_X5_fill in_X5_fill se_X5_fill rfl rfl hC (as := [.int p0, .int p1]) rfl rfl rfl (Nat.le_of_ble_eq_true rfl) (Nat.le_of_ble_eq_true rfl) (Nat.le_of_ble_eq_true rfl) (Nat.le_of_ble_eq_true rfl) (Nat.le_of_ble_eq_true rfl) rfl (fun ad H1 locs1 lsA q9 ce hn hag hP hD hS hLA hce hcv hcl => ?_)
  refine vx_catch (m_ow X) [⟨0, 10, 13, 31⟩, ⟨0, 10, 17, 13⟩] ⟨0, 10, 21, 23⟩ [] (m_tb X) (fun z hz => by
    rcases List.mem_cons.mp hz with rfl | hz
    · exact Or.inr ⟨by decide, "java/lang/IndexOutOfBoundsException", m_wd X _ xl_31, hN ("java/lang/IllegalStateException", "java/lang/IndexOutOfBoundsException") (by decide)⟩
    · rcases List.mem_cons.mp hz with rfl | hz
      · exact Or.inr ⟨by decide, "java/lang/IllegalArgumentException", m_wd X _ xl_13, hN ("java/lang/IllegalStateException", "java/lang/IllegalArgumentException") (by decide)⟩
      · cases hz) (by decide) (by decide) (m_wd X _ xl_23) (va_Nw.use rfl ((m_ev X).1 _ xk_2)) hce hcv hcl ?_
  exact m_hand (om := .inl (some (.int 3), (hL v a x w b z lq [m_la 1 f]))) X (Or.inr ⟨_, dL_fill_21, rfl, (Nat.le_of_ble_eq_true rfl)⟩) dL_fill_23 (by decide) dL_fill_24 rfl rfl (Nat.le_of_ble_eq_true rfl) (Nat.le_of_ble_eq_true rfl) hn hag hP hD hS hLA
theorem w_setMargin {v v9 w : m_V} {a a9 b : m_R} {x x9 z : Int64} {lq : Int32} {f : Nat → Int64} {r9 : Int32} {p0 p1 : Int32} (hC : m_Ctr M_X5_setMargin [.ref 0, .int p0, .int p1] (hL v a x w b z lq [m_la 1 f]) (.inl (some (.int r9), (hL v9 a9 x9 w b z lq [m_la 1 f])))) : m_CtrN M_L_setMargin H_L_setMargin [.ref 0, .int p0, .int p1, .ref 31] (hL v a x w b z lq [m_la 1 f]) (.inl (some (.int 0), (hL v9 a9 x9 w b z lq [m_la 1 (vp_updL f (0 : Int32).toNatClampNeg r9.toInt64)]))) := by
  refine m_introN (by decide +kernel) (Nat.le_of_ble_eq_true rfl) (fun X hN => ?_)
  refine m_aload_n X dL_setMargin_0 rfl rfl ?_
  refine m_iconst (v := 0) X dL_setMargin_1 (by decide) rfl ?_
  refine m_aload_n X dL_setMargin_2 rfl rfl ?_
  refine m_iload_n X dL_setMargin_3 rfl rfl ?_
  refine m_iload_n X dL_setMargin_4 rfl rfl ?_
  refine m_cV2 X dL_setMargin_5 lk_L_33 mk_X5_setMargin in_X5_setMargin se_X5_setMargin rfl rfl hC rfl (Nat.le_of_ble_eq_true rfl) (Nat.le_of_ble_eq_true rfl) (Nat.le_of_ble_eq_true rfl) (Nat.le_of_ble_eq_true rfl) (Nat.le_of_ble_eq_true rfl) rfl ?_
  refine m_i2l X dL_setMargin_8 rfl ?_
  refine m_last X dL_setMargin_9 rfl (vp_in_nI (n := 0) (by decide) (by decide)) rfl ?_
  refine m_goto (tgt := 21) X dL_setMargin_10 (by decide) rfl ?_
  refine m_iconst (v := 0) X dL_setMargin_21 (by decide) rfl ?_
  exact m_iret X dL_setMargin_22 rfl rfl (Nat.le_of_ble_eq_true rfl) (Nat.le_of_ble_eq_true rfl) rfl
theorem w_setMargin_x1 {v v9 w : m_V} {a a9 b : m_R} {x x9 z : Int64} {lq : Int32} {f : Nat → Int64} {p0 p1 : Int32} (hC : m_Ctr Mx_X5_setMargin [.ref 0, .int p0, .int p1] (hL v a x w b z lq [m_la 1 f]) (.inr ("java/lang/IndexOutOfBoundsException", (hL v a x w b z lq [m_la 1 f])))) : m_CtrN M_L_setMargin H_L_setMargin [.ref 0, .int p0, .int p1, .ref 31] (hL v a x w b z lq [m_la 1 f]) (.inl (some (.int 1), (hL v a x w b z lq [m_la 1 f]))) := by
  refine m_introN (by decide +kernel) (Nat.le_of_ble_eq_true rfl) (fun X hN => ?_)
  refine m_aload_n X dL_setMargin_0 rfl rfl ?_
  refine m_iconst (v := 0) X dL_setMargin_1 (by decide) rfl ?_
  refine m_aload_n X dL_setMargin_2 rfl rfl ?_
  refine m_iload_n X dL_setMargin_3 rfl rfl ?_
  refine m_iload_n X dL_setMargin_4 rfl rfl ?_
  refine m_thV_x (M := Mx_X5_setMargin) X dL_setMargin_5 ll_L_33 mkx_X5_setMargin in_X5_setMargin se_X5_setMargin rfl rfl hC (as := [.int p0, .int p1]) rfl rfl rfl (Nat.le_of_ble_eq_true rfl) (Nat.le_of_ble_eq_true rfl) (Nat.le_of_ble_eq_true rfl) (Nat.le_of_ble_eq_true rfl) (Nat.le_of_ble_eq_true rfl) rfl (fun ad H1 locs1 lsA q9 ce hn hag hP hD hS hLA hce hcv hcl => ?_)
  refine vx_catch (m_ow X) [] ⟨0, 10, 13, 31⟩ [⟨0, 10, 17, 13⟩] (m_tb X) (fun z hz => by cases hz) (by decide) (by decide) (m_wd X _ xl_31) (va_Nw.use rfl ((m_ev X).1 _ xk_0)) hce hcv hcl ?_
  exact m_hand (om := .inl (some (.int 1), (hL v a x w b z lq [m_la 1 f]))) X (Or.inr ⟨_, dL_setMargin_13, rfl, (Nat.le_of_ble_eq_true rfl)⟩) dL_setMargin_15 (by decide) dL_setMargin_16 rfl rfl (Nat.le_of_ble_eq_true rfl) (Nat.le_of_ble_eq_true rfl) hn hag hP hD hS hLA
theorem w_setMargin_x2 {v v9 w : m_V} {a a9 b : m_R} {x x9 z : Int64} {lq : Int32} {f : Nat → Int64} {p0 p1 : Int32} (hC : m_Ctr Mx_X5_setMargin [.ref 0, .int p0, .int p1] (hL v a x w b z lq [m_la 1 f]) (.inr ("java/lang/IllegalArgumentException", (hL v a x w b z lq [m_la 1 f])))) : m_CtrN M_L_setMargin H_L_setMargin [.ref 0, .int p0, .int p1, .ref 31] (hL v a x w b z lq [m_la 1 f]) (.inl (some (.int 2), (hL v a x w b z lq [m_la 1 f]))) := by
  refine m_introN (by decide +kernel) (Nat.le_of_ble_eq_true rfl) (fun X hN => ?_)
  refine m_aload_n X dL_setMargin_0 rfl rfl ?_
  refine m_iconst (v := 0) X dL_setMargin_1 (by decide) rfl ?_
  refine m_aload_n X dL_setMargin_2 rfl rfl ?_
  refine m_iload_n X dL_setMargin_3 rfl rfl ?_
  refine m_iload_n X dL_setMargin_4 rfl rfl ?_
  refine m_thV_x (M := Mx_X5_setMargin) X dL_setMargin_5 ll_L_33 mkx_X5_setMargin in_X5_setMargin se_X5_setMargin rfl rfl hC (as := [.int p0, .int p1]) rfl rfl rfl (Nat.le_of_ble_eq_true rfl) (Nat.le_of_ble_eq_true rfl) (Nat.le_of_ble_eq_true rfl) (Nat.le_of_ble_eq_true rfl) (Nat.le_of_ble_eq_true rfl) rfl (fun ad H1 locs1 lsA q9 ce hn hag hP hD hS hLA hce hcv hcl => ?_)
  refine vx_catch (m_ow X) [⟨0, 10, 13, 31⟩] ⟨0, 10, 17, 13⟩ [] (m_tb X) (fun z hz => by
    rcases List.mem_cons.mp hz with rfl | hz
    · exact Or.inr ⟨by decide, "java/lang/IndexOutOfBoundsException", m_wd X _ xl_31, hN ("java/lang/IllegalArgumentException", "java/lang/IndexOutOfBoundsException") (by decide)⟩
    · cases hz) (by decide) (by decide) (m_wd X _ xl_13) (va_Nw.use rfl ((m_ev X).1 _ xk_1)) hce hcv hcl ?_
  exact m_hand (om := .inl (some (.int 2), (hL v a x w b z lq [m_la 1 f]))) X (Or.inr ⟨_, dL_setMargin_17, rfl, (Nat.le_of_ble_eq_true rfl)⟩) dL_setMargin_19 (by decide) dL_setMargin_20 rfl rfl (Nat.le_of_ble_eq_true rfl) (Nat.le_of_ble_eq_true rfl) hn hag hP hD hS hLA
theorem w_flight {v v9 w : m_V} {a a9 b : m_R} {x x9 z : Int64} {lq : Int32} {f : Nat → Int64} {r9 : Int32} {p0 : Int32} (hC : m_Ctr M_X5_flight [.ref 0, .int p0] (hL v a x w b z lq [m_la 1 f]) (.inl (some (.int r9), (hL v9 a9 x9 w b z lq [m_la 1 f])))) : m_CtrN M_L_flight H_L_flight [.ref 0, .int p0, .ref 31] (hL v a x w b z lq [m_la 1 f]) (.inl (some (.int 0), (hL v9 a9 x9 w b z lq [m_la 1 (vp_updL f (0 : Int32).toNatClampNeg r9.toInt64)]))) := by
  refine m_introN (by decide +kernel) (Nat.le_of_ble_eq_true rfl) (fun X hN => ?_)
  refine m_aload_n X dL_flight_0 rfl rfl ?_
  refine m_iconst (v := 0) X dL_flight_1 (by decide) rfl ?_
  refine m_aload_n X dL_flight_2 rfl rfl ?_
  refine m_iload_n X dL_flight_3 rfl rfl ?_
  refine m_cV1 X dL_flight_4 lk_L_36 mk_X5_flight in_X5_flight se_X5_flight rfl rfl hC rfl (Nat.le_of_ble_eq_true rfl) (Nat.le_of_ble_eq_true rfl) (Nat.le_of_ble_eq_true rfl) (Nat.le_of_ble_eq_true rfl) (Nat.le_of_ble_eq_true rfl) rfl ?_
  refine m_i2l X dL_flight_7 rfl ?_
  refine m_last X dL_flight_8 rfl (vp_in_nI (n := 0) (by decide) (by decide)) rfl ?_
  refine m_goto (tgt := 15) X dL_flight_9 (by decide) rfl ?_
  refine m_iconst (v := 0) X dL_flight_15 (by decide) rfl ?_
  exact m_iret X dL_flight_16 rfl rfl (Nat.le_of_ble_eq_true rfl) (Nat.le_of_ble_eq_true rfl) rfl
theorem w_flight_x1 {v v9 w : m_V} {a a9 b : m_R} {x x9 z : Int64} {lq : Int32} {f : Nat → Int64} {p0 : Int32} (hC : m_Ctr Mx_X5_flight [.ref 0, .int p0] (hL v a x w b z lq [m_la 1 f]) (.inr ("java/lang/IndexOutOfBoundsException", (hL v a x w b z lq [m_la 1 f])))) : m_CtrN M_L_flight H_L_flight [.ref 0, .int p0, .ref 31] (hL v a x w b z lq [m_la 1 f]) (.inl (some (.int 1), (hL v a x w b z lq [m_la 1 f]))) := by
  refine m_introN (by decide +kernel) (Nat.le_of_ble_eq_true rfl) (fun X hN => ?_)
  refine m_aload_n X dL_flight_0 rfl rfl ?_
  refine m_iconst (v := 0) X dL_flight_1 (by decide) rfl ?_
  refine m_aload_n X dL_flight_2 rfl rfl ?_
  refine m_iload_n X dL_flight_3 rfl rfl ?_
  refine m_thV_x (M := Mx_X5_flight) X dL_flight_4 ll_L_36 mkx_X5_flight in_X5_flight se_X5_flight rfl rfl hC (as := [.int p0]) rfl rfl rfl (Nat.le_of_ble_eq_true rfl) (Nat.le_of_ble_eq_true rfl) (Nat.le_of_ble_eq_true rfl) (Nat.le_of_ble_eq_true rfl) (Nat.le_of_ble_eq_true rfl) rfl (fun ad H1 locs1 lsA q9 ce hn hag hP hD hS hLA hce hcv hcl => ?_)
  refine vx_catch (m_ow X) [] ⟨0, 9, 12, 31⟩ [] (m_tb X) (fun z hz => by cases hz) (by decide) (by decide) (m_wd X _ xl_31) (va_Nw.use rfl ((m_ev X).1 _ xk_0)) hce hcv hcl ?_
  exact m_hand (om := .inl (some (.int 1), (hL v a x w b z lq [m_la 1 f]))) X (Or.inl ⟨_, dL_flight_12, rfl, (Nat.le_of_ble_eq_true rfl)⟩) dL_flight_13 (by decide) dL_flight_14 rfl rfl (Nat.le_of_ble_eq_true rfl) (Nat.le_of_ble_eq_true rfl) hn hag hP hD hS hLA
theorem w_gate {v v9 w : m_V} {a a9 b : m_R} {x x9 z : Int64} {lq : Int32} {f : Nat → Int64} {r9 : Int32} {p0 : Int32} (hC : m_Ctr M_X5_gate [.ref 0, .int p0] (hL v a x w b z lq [m_la 1 f]) (.inl (some (.int r9), (hL v9 a9 x9 w b z lq [m_la 1 f])))) : m_CtrN M_L_gate H_L_gate [.ref 0, .int p0, .ref 31] (hL v a x w b z lq [m_la 1 f]) (.inl (some (.int 0), (hL v9 a9 x9 w b z lq [m_la 1 (vp_updL f (0 : Int32).toNatClampNeg r9.toInt64)]))) := by
  refine m_introN (by decide +kernel) (Nat.le_of_ble_eq_true rfl) (fun X hN => ?_)
  refine m_aload_n X dL_gate_0 rfl rfl ?_
  refine m_iconst (v := 0) X dL_gate_1 (by decide) rfl ?_
  refine m_aload_n X dL_gate_2 rfl rfl ?_
  refine m_iload_n X dL_gate_3 rfl rfl ?_
  refine m_cV1 X dL_gate_4 lk_L_39 mk_X5_gate in_X5_gate se_X5_gate rfl rfl hC rfl (Nat.le_of_ble_eq_true rfl) (Nat.le_of_ble_eq_true rfl) (Nat.le_of_ble_eq_true rfl) (Nat.le_of_ble_eq_true rfl) (Nat.le_of_ble_eq_true rfl) rfl ?_
  refine m_i2l X dL_gate_7 rfl ?_
  refine m_last X dL_gate_8 rfl (vp_in_nI (n := 0) (by decide) (by decide)) rfl ?_
  refine m_goto (tgt := 15) X dL_gate_9 (by decide) rfl ?_
  refine m_iconst (v := 0) X dL_gate_15 (by decide) rfl ?_
  exact m_iret X dL_gate_16 rfl rfl (Nat.le_of_ble_eq_true rfl) (Nat.le_of_ble_eq_true rfl) rfl
theorem w_gate_x1 {v v9 w : m_V} {a a9 b : m_R} {x x9 z : Int64} {lq : Int32} {f : Nat → Int64} {p0 : Int32} (hC : m_Ctr Mx_X5_gate [.ref 0, .int p0] (hL v a x w b z lq [m_la 1 f]) (.inr ("java/lang/IndexOutOfBoundsException", (hL v a x w b z lq [m_la 1 f])))) : m_CtrN M_L_gate H_L_gate [.ref 0, .int p0, .ref 31] (hL v a x w b z lq [m_la 1 f]) (.inl (some (.int 1), (hL v a x w b z lq [m_la 1 f]))) := by
  refine m_introN (by decide +kernel) (Nat.le_of_ble_eq_true rfl) (fun X hN => ?_)
  refine m_aload_n X dL_gate_0 rfl rfl ?_
  refine m_iconst (v := 0) X dL_gate_1 (by decide) rfl ?_
  refine m_aload_n X dL_gate_2 rfl rfl ?_
  refine m_iload_n X dL_gate_3 rfl rfl ?_
  refine m_thV_x (M := Mx_X5_gate) X dL_gate_4 ll_L_39 mkx_X5_gate in_X5_gate se_X5_gate rfl rfl hC (as := [.int p0]) rfl rfl rfl (Nat.le_of_ble_eq_true rfl) (Nat.le_of_ble_eq_true rfl) (Nat.le_of_ble_eq_true rfl) (Nat.le_of_ble_eq_true rfl) (Nat.le_of_ble_eq_true rfl) rfl (fun ad H1 locs1 lsA q9 ce hn hag hP hD hS hLA hce hcv hcl => ?_)
  refine vx_catch (m_ow X) [] ⟨0, 9, 12, 31⟩ [] (m_tb X) (fun z hz => by cases hz) (by decide) (by decide) (m_wd X _ xl_31) (va_Nw.use rfl ((m_ev X).1 _ xk_0)) hce hcv hcl ?_
  exact m_hand (om := .inl (some (.int 1), (hL v a x w b z lq [m_la 1 f]))) X (Or.inl ⟨_, dL_gate_12, rfl, (Nat.le_of_ble_eq_true rfl)⟩) dL_gate_13 (by decide) dL_gate_14 rfl rfl (Nat.le_of_ble_eq_true rfl) (Nat.le_of_ble_eq_true rfl) hn hag hP hD hS hLA
theorem w_stock {v v9 w : m_V} {a a9 b : m_R} {x x9 z : Int64} {lq : Int32} {f : Nat → Int64} {r9 : Int32} {p0 : Int32} (hC : m_Ctr M_X5_stock [.ref 0, .int p0] (hL v a x w b z lq [m_la 1 f]) (.inl (some (.int r9), (hL v9 a9 x9 w b z lq [m_la 1 f])))) : m_CtrN M_L_stock H_L_stock [.ref 0, .int p0, .ref 31] (hL v a x w b z lq [m_la 1 f]) (.inl (some (.int 0), (hL v9 a9 x9 w b z lq [m_la 1 (vp_updL f (0 : Int32).toNatClampNeg r9.toInt64)]))) := by
  refine m_introN (by decide +kernel) (Nat.le_of_ble_eq_true rfl) (fun X hN => ?_)
  refine m_aload_n X dL_stock_0 rfl rfl ?_
  refine m_iconst (v := 0) X dL_stock_1 (by decide) rfl ?_
  refine m_aload_n X dL_stock_2 rfl rfl ?_
  refine m_iload_n X dL_stock_3 rfl rfl ?_
  refine m_cV1 X dL_stock_4 lk_L_42 mk_X5_stock in_X5_stock se_X5_stock rfl rfl hC rfl (Nat.le_of_ble_eq_true rfl) (Nat.le_of_ble_eq_true rfl) (Nat.le_of_ble_eq_true rfl) (Nat.le_of_ble_eq_true rfl) (Nat.le_of_ble_eq_true rfl) rfl ?_
  refine m_i2l X dL_stock_7 rfl ?_
  refine m_last X dL_stock_8 rfl (vp_in_nI (n := 0) (by decide) (by decide)) rfl ?_
  refine m_goto (tgt := 15) X dL_stock_9 (by decide) rfl ?_
  refine m_iconst (v := 0) X dL_stock_15 (by decide) rfl ?_
  exact m_iret X dL_stock_16 rfl rfl (Nat.le_of_ble_eq_true rfl) (Nat.le_of_ble_eq_true rfl) rfl
theorem w_stock_x1 {v v9 w : m_V} {a a9 b : m_R} {x x9 z : Int64} {lq : Int32} {f : Nat → Int64} {p0 : Int32} (hC : m_Ctr Mx_X5_stock [.ref 0, .int p0] (hL v a x w b z lq [m_la 1 f]) (.inr ("java/lang/IndexOutOfBoundsException", (hL v a x w b z lq [m_la 1 f])))) : m_CtrN M_L_stock H_L_stock [.ref 0, .int p0, .ref 31] (hL v a x w b z lq [m_la 1 f]) (.inl (some (.int 1), (hL v a x w b z lq [m_la 1 f]))) := by
  refine m_introN (by decide +kernel) (Nat.le_of_ble_eq_true rfl) (fun X hN => ?_)
  refine m_aload_n X dL_stock_0 rfl rfl ?_
  refine m_iconst (v := 0) X dL_stock_1 (by decide) rfl ?_
  refine m_aload_n X dL_stock_2 rfl rfl ?_
  refine m_iload_n X dL_stock_3 rfl rfl ?_
  refine m_thV_x (M := Mx_X5_stock) X dL_stock_4 ll_L_42 mkx_X5_stock in_X5_stock se_X5_stock rfl rfl hC (as := [.int p0]) rfl rfl rfl (Nat.le_of_ble_eq_true rfl) (Nat.le_of_ble_eq_true rfl) (Nat.le_of_ble_eq_true rfl) (Nat.le_of_ble_eq_true rfl) (Nat.le_of_ble_eq_true rfl) rfl (fun ad H1 locs1 lsA q9 ce hn hag hP hD hS hLA hce hcv hcl => ?_)
  refine vx_catch (m_ow X) [] ⟨0, 9, 12, 31⟩ [] (m_tb X) (fun z hz => by cases hz) (by decide) (by decide) (m_wd X _ xl_31) (va_Nw.use rfl ((m_ev X).1 _ xk_0)) hce hcv hcl ?_
  exact m_hand (om := .inl (some (.int 1), (hL v a x w b z lq [m_la 1 f]))) X (Or.inl ⟨_, dL_stock_12, rfl, (Nat.le_of_ble_eq_true rfl)⟩) dL_stock_13 (by decide) dL_stock_14 rfl rfl (Nat.le_of_ble_eq_true rfl) (Nat.le_of_ble_eq_true rfl) hn hag hP hD hS hLA
theorem w_register {v v9 w : m_V} {a a9 b : m_R} {x x9 z : Int64} {lq : Int32} {f : Nat → Int64} {r9 : Int32} {p0 : Int32} (hC : m_Ctr M_X5_register [.ref 0, .int p0] (hL v a x w b z lq [m_la 1 f]) (.inl (some (.int r9), (hL v9 a9 x9 w b z lq [m_la 1 f])))) : m_CtrN M_L_register H_L_register [.ref 0, .int p0, .ref 31] (hL v a x w b z lq [m_la 1 f]) (.inl (some (.int 0), (hL v9 a9 x9 w b z lq [m_la 1 (vp_updL f (0 : Int32).toNatClampNeg r9.toInt64)]))) := by
  refine m_introN (by decide +kernel) (Nat.le_of_ble_eq_true rfl) (fun X hN => ?_)
  refine m_aload_n X dL_register_0 rfl rfl ?_
  refine m_iconst (v := 0) X dL_register_1 (by decide) rfl ?_
  refine m_aload_n X dL_register_2 rfl rfl ?_
  refine m_iload_n X dL_register_3 rfl rfl ?_
  refine m_cV1 X dL_register_4 lk_L_45 mk_X5_register in_X5_register se_X5_register rfl rfl hC rfl (Nat.le_of_ble_eq_true rfl) (Nat.le_of_ble_eq_true rfl) (Nat.le_of_ble_eq_true rfl) (Nat.le_of_ble_eq_true rfl) (Nat.le_of_ble_eq_true rfl) rfl ?_
  refine m_i2l X dL_register_7 rfl ?_
  refine m_last X dL_register_8 rfl (vp_in_nI (n := 0) (by decide) (by decide)) rfl ?_
  refine m_goto (tgt := 15) X dL_register_9 (by decide) rfl ?_
  refine m_iconst (v := 0) X dL_register_15 (by decide) rfl ?_
  exact m_iret X dL_register_16 rfl rfl (Nat.le_of_ble_eq_true rfl) (Nat.le_of_ble_eq_true rfl) rfl
theorem w_register_x1 {v v9 w : m_V} {a a9 b : m_R} {x x9 z : Int64} {lq : Int32} {f : Nat → Int64} {p0 : Int32} (hC : m_Ctr Mx_X5_register [.ref 0, .int p0] (hL v a x w b z lq [m_la 1 f]) (.inr ("java/lang/IndexOutOfBoundsException", (hL v a x w b z lq [m_la 1 f])))) : m_CtrN M_L_register H_L_register [.ref 0, .int p0, .ref 31] (hL v a x w b z lq [m_la 1 f]) (.inl (some (.int 1), (hL v a x w b z lq [m_la 1 f]))) := by
  refine m_introN (by decide +kernel) (Nat.le_of_ble_eq_true rfl) (fun X hN => ?_)
  refine m_aload_n X dL_register_0 rfl rfl ?_
  refine m_iconst (v := 0) X dL_register_1 (by decide) rfl ?_
  refine m_aload_n X dL_register_2 rfl rfl ?_
  refine m_iload_n X dL_register_3 rfl rfl ?_
  refine m_thV_x (M := Mx_X5_register) X dL_register_4 ll_L_45 mkx_X5_register in_X5_register se_X5_register rfl rfl hC (as := [.int p0]) rfl rfl rfl (Nat.le_of_ble_eq_true rfl) (Nat.le_of_ble_eq_true rfl) (Nat.le_of_ble_eq_true rfl) (Nat.le_of_ble_eq_true rfl) (Nat.le_of_ble_eq_true rfl) rfl (fun ad H1 locs1 lsA q9 ce hn hag hP hD hS hLA hce hcv hcl => ?_)
  refine vx_catch (m_ow X) [] ⟨0, 9, 12, 31⟩ [] (m_tb X) (fun z hz => by cases hz) (by decide) (by decide) (m_wd X _ xl_31) (va_Nw.use rfl ((m_ev X).1 _ xk_0)) hce hcv hcl ?_
  exact m_hand (om := .inl (some (.int 1), (hL v a x w b z lq [m_la 1 f]))) X (Or.inl ⟨_, dL_register_12, rfl, (Nat.le_of_ble_eq_true rfl)⟩) dL_register_13 (by decide) dL_register_14 rfl rfl (Nat.le_of_ble_eq_true rfl) (Nat.le_of_ble_eq_true rfl) hn hag hP hD hS hLA
theorem w_registerByLots {v v9 w : m_V} {a a9 b : m_R} {x x9 z : Int64} {lq : Int32} {f : Nat → Int64} {r9 : Int32} {p0 : Int32} (hC : m_Ctr M_X5_registerByLots [.ref 0, .int p0] (hL v a x w b z lq [m_la 1 f]) (.inl (some (.int r9), (hL v9 a9 x9 w b z lq [m_la 1 f])))) : m_CtrN M_L_registerByLots H_L_registerByLots [.ref 0, .int p0, .ref 31] (hL v a x w b z lq [m_la 1 f]) (.inl (some (.int 0), (hL v9 a9 x9 w b z lq [m_la 1 (vp_updL f (0 : Int32).toNatClampNeg r9.toInt64)]))) := by
  refine m_introN (by decide +kernel) (Nat.le_of_ble_eq_true rfl) (fun X hN => ?_)
  refine m_aload_n X dL_registerByLots_0 rfl rfl ?_
  refine m_iconst (v := 0) X dL_registerByLots_1 (by decide) rfl ?_
  refine m_aload_n X dL_registerByLots_2 rfl rfl ?_
  refine m_iload_n X dL_registerByLots_3 rfl rfl ?_
  refine m_cV1 X dL_registerByLots_4 lk_L_48 mk_X5_registerByLots in_X5_registerByLots se_X5_registerByLots rfl rfl hC rfl (Nat.le_of_ble_eq_true rfl) (Nat.le_of_ble_eq_true rfl) (Nat.le_of_ble_eq_true rfl) (Nat.le_of_ble_eq_true rfl) (Nat.le_of_ble_eq_true rfl) rfl ?_
  refine m_i2l X dL_registerByLots_7 rfl ?_
  refine m_last X dL_registerByLots_8 rfl (vp_in_nI (n := 0) (by decide) (by decide)) rfl ?_
  refine m_goto (tgt := 15) X dL_registerByLots_9 (by decide) rfl ?_
  refine m_iconst (v := 0) X dL_registerByLots_15 (by decide) rfl ?_
  exact m_iret X dL_registerByLots_16 rfl rfl (Nat.le_of_ble_eq_true rfl) (Nat.le_of_ble_eq_true rfl) rfl
theorem w_registerByLots_x1 {v v9 w : m_V} {a a9 b : m_R} {x x9 z : Int64} {lq : Int32} {f : Nat → Int64} {p0 : Int32} (hC : m_Ctr Mx_X5_registerByLots [.ref 0, .int p0] (hL v a x w b z lq [m_la 1 f]) (.inr ("java/lang/IndexOutOfBoundsException", (hL v a x w b z lq [m_la 1 f])))) : m_CtrN M_L_registerByLots H_L_registerByLots [.ref 0, .int p0, .ref 31] (hL v a x w b z lq [m_la 1 f]) (.inl (some (.int 1), (hL v a x w b z lq [m_la 1 f]))) := by
  refine m_introN (by decide +kernel) (Nat.le_of_ble_eq_true rfl) (fun X hN => ?_)
  refine m_aload_n X dL_registerByLots_0 rfl rfl ?_
  refine m_iconst (v := 0) X dL_registerByLots_1 (by decide) rfl ?_
  refine m_aload_n X dL_registerByLots_2 rfl rfl ?_
  refine m_iload_n X dL_registerByLots_3 rfl rfl ?_
  refine m_thV_x (M := Mx_X5_registerByLots) X dL_registerByLots_4 ll_L_48 mkx_X5_registerByLots in_X5_registerByLots se_X5_registerByLots rfl rfl hC (as := [.int p0]) rfl rfl rfl (Nat.le_of_ble_eq_true rfl) (Nat.le_of_ble_eq_true rfl) (Nat.le_of_ble_eq_true rfl) (Nat.le_of_ble_eq_true rfl) (Nat.le_of_ble_eq_true rfl) rfl (fun ad H1 locs1 lsA q9 ce hn hag hP hD hS hLA hce hcv hcl => ?_)
  refine vx_catch (m_ow X) [] ⟨0, 9, 12, 31⟩ [] (m_tb X) (fun z hz => by cases hz) (by decide) (by decide) (m_wd X _ xl_31) (va_Nw.use rfl ((m_ev X).1 _ xk_0)) hce hcv hcl ?_
  exact m_hand (om := .inl (some (.int 1), (hL v a x w b z lq [m_la 1 f]))) X (Or.inl ⟨_, dL_registerByLots_12, rfl, (Nat.le_of_ble_eq_true rfl)⟩) dL_registerByLots_13 (by decide) dL_registerByLots_14 rfl rfl (Nat.le_of_ble_eq_true rfl) (Nat.le_of_ble_eq_true rfl) hn hag hP hD hS hLA
theorem w_leftOf {v v9 w : m_V} {a a9 b : m_R} {x x9 z : Int64} {lq : Int32} {f : Nat → Int64} {r9 : Int32} {p0 : Int32} (hC : m_Ctr M_X5_leftOf [.ref 0, .int p0] (hL v a x w b z lq [m_la 1 f]) (.inl (some (.int r9), (hL v9 a9 x9 w b z lq [m_la 1 f])))) : m_CtrN M_L_leftOf H_L_leftOf [.ref 0, .int p0, .ref 31] (hL v a x w b z lq [m_la 1 f]) (.inl (some (.int 0), (hL v9 a9 x9 w b z lq [m_la 1 (vp_updL f (0 : Int32).toNatClampNeg r9.toInt64)]))) := by
  refine m_introN (by decide +kernel) (Nat.le_of_ble_eq_true rfl) (fun X hN => ?_)
  refine m_aload_n X dL_leftOf_0 rfl rfl ?_
  refine m_iconst (v := 0) X dL_leftOf_1 (by decide) rfl ?_
  refine m_aload_n X dL_leftOf_2 rfl rfl ?_
  refine m_iload_n X dL_leftOf_3 rfl rfl ?_
  refine m_cV1 X dL_leftOf_4 lk_L_51 mk_X5_leftOf in_X5_leftOf se_X5_leftOf rfl rfl hC rfl (Nat.le_of_ble_eq_true rfl) (Nat.le_of_ble_eq_true rfl) (Nat.le_of_ble_eq_true rfl) (Nat.le_of_ble_eq_true rfl) (Nat.le_of_ble_eq_true rfl) rfl ?_
  refine m_i2l X dL_leftOf_7 rfl ?_
  refine m_last X dL_leftOf_8 rfl (vp_in_nI (n := 0) (by decide) (by decide)) rfl ?_
  refine m_goto (tgt := 15) X dL_leftOf_9 (by decide) rfl ?_
  refine m_iconst (v := 0) X dL_leftOf_15 (by decide) rfl ?_
  exact m_iret X dL_leftOf_16 rfl rfl (Nat.le_of_ble_eq_true rfl) (Nat.le_of_ble_eq_true rfl) rfl
theorem w_leftOf_x1 {v v9 w : m_V} {a a9 b : m_R} {x x9 z : Int64} {lq : Int32} {f : Nat → Int64} {p0 : Int32} (hC : m_Ctr Mx_X5_leftOf [.ref 0, .int p0] (hL v a x w b z lq [m_la 1 f]) (.inr ("java/lang/IndexOutOfBoundsException", (hL v a x w b z lq [m_la 1 f])))) : m_CtrN M_L_leftOf H_L_leftOf [.ref 0, .int p0, .ref 31] (hL v a x w b z lq [m_la 1 f]) (.inl (some (.int 1), (hL v a x w b z lq [m_la 1 f]))) := by
  refine m_introN (by decide +kernel) (Nat.le_of_ble_eq_true rfl) (fun X hN => ?_)
  refine m_aload_n X dL_leftOf_0 rfl rfl ?_
  refine m_iconst (v := 0) X dL_leftOf_1 (by decide) rfl ?_
  refine m_aload_n X dL_leftOf_2 rfl rfl ?_
  refine m_iload_n X dL_leftOf_3 rfl rfl ?_
  refine m_thV_x (M := Mx_X5_leftOf) X dL_leftOf_4 ll_L_51 mkx_X5_leftOf in_X5_leftOf se_X5_leftOf rfl rfl hC (as := [.int p0]) rfl rfl rfl (Nat.le_of_ble_eq_true rfl) (Nat.le_of_ble_eq_true rfl) (Nat.le_of_ble_eq_true rfl) (Nat.le_of_ble_eq_true rfl) (Nat.le_of_ble_eq_true rfl) rfl (fun ad H1 locs1 lsA q9 ce hn hag hP hD hS hLA hce hcv hcl => ?_)
  refine vx_catch (m_ow X) [] ⟨0, 9, 12, 31⟩ [] (m_tb X) (fun z hz => by cases hz) (by decide) (by decide) (m_wd X _ xl_31) (va_Nw.use rfl ((m_ev X).1 _ xk_0)) hce hcv hcl ?_
  exact m_hand (om := .inl (some (.int 1), (hL v a x w b z lq [m_la 1 f]))) X (Or.inl ⟨_, dL_leftOf_12, rfl, (Nat.le_of_ble_eq_true rfl)⟩) dL_leftOf_13 (by decide) dL_leftOf_14 rfl rfl (Nat.le_of_ble_eq_true rfl) (Nat.le_of_ble_eq_true rfl) hn hag hP hD hS hLA
theorem w_firstBatch {v v9 w : m_V} {a a9 b : m_R} {x x9 z : Int64} {lq : Int32} {f : Nat → Int64} {r9 : Int32} {p0 : Int32} (hC : m_Ctr M_X5_firstBatch [.ref 0, .int p0] (hL v a x w b z lq [m_la 1 f]) (.inl (some (.int r9), (hL v9 a9 x9 w b z lq [m_la 1 f])))) : m_CtrN M_L_firstBatch H_L_firstBatch [.ref 0, .int p0, .ref 31] (hL v a x w b z lq [m_la 1 f]) (.inl (some (.int 0), (hL v9 a9 x9 w b z lq [m_la 1 (vp_updL f (0 : Int32).toNatClampNeg r9.toInt64)]))) := by
  refine m_introN (by decide +kernel) (Nat.le_of_ble_eq_true rfl) (fun X hN => ?_)
  refine m_aload_n X dL_firstBatch_0 rfl rfl ?_
  refine m_iconst (v := 0) X dL_firstBatch_1 (by decide) rfl ?_
  refine m_aload_n X dL_firstBatch_2 rfl rfl ?_
  refine m_iload_n X dL_firstBatch_3 rfl rfl ?_
  refine m_cV1 X dL_firstBatch_4 lk_L_54 mk_X5_firstBatch in_X5_firstBatch se_X5_firstBatch rfl rfl hC rfl (Nat.le_of_ble_eq_true rfl) (Nat.le_of_ble_eq_true rfl) (Nat.le_of_ble_eq_true rfl) (Nat.le_of_ble_eq_true rfl) (Nat.le_of_ble_eq_true rfl) rfl ?_
  refine m_i2l X dL_firstBatch_7 rfl ?_
  refine m_last X dL_firstBatch_8 rfl (vp_in_nI (n := 0) (by decide) (by decide)) rfl ?_
  refine m_goto (tgt := 15) X dL_firstBatch_9 (by decide) rfl ?_
  refine m_iconst (v := 0) X dL_firstBatch_15 (by decide) rfl ?_
  exact m_iret X dL_firstBatch_16 rfl rfl (Nat.le_of_ble_eq_true rfl) (Nat.le_of_ble_eq_true rfl) rfl
theorem w_firstBatch_x1 {v v9 w : m_V} {a a9 b : m_R} {x x9 z : Int64} {lq : Int32} {f : Nat → Int64} {p0 : Int32} (hC : m_Ctr Mx_X5_firstBatch [.ref 0, .int p0] (hL v a x w b z lq [m_la 1 f]) (.inr ("java/lang/IndexOutOfBoundsException", (hL v a x w b z lq [m_la 1 f])))) : m_CtrN M_L_firstBatch H_L_firstBatch [.ref 0, .int p0, .ref 31] (hL v a x w b z lq [m_la 1 f]) (.inl (some (.int 1), (hL v a x w b z lq [m_la 1 f]))) := by
  refine m_introN (by decide +kernel) (Nat.le_of_ble_eq_true rfl) (fun X hN => ?_)
  refine m_aload_n X dL_firstBatch_0 rfl rfl ?_
  refine m_iconst (v := 0) X dL_firstBatch_1 (by decide) rfl ?_
  refine m_aload_n X dL_firstBatch_2 rfl rfl ?_
  refine m_iload_n X dL_firstBatch_3 rfl rfl ?_
  refine m_thV_x (M := Mx_X5_firstBatch) X dL_firstBatch_4 ll_L_54 mkx_X5_firstBatch in_X5_firstBatch se_X5_firstBatch rfl rfl hC (as := [.int p0]) rfl rfl rfl (Nat.le_of_ble_eq_true rfl) (Nat.le_of_ble_eq_true rfl) (Nat.le_of_ble_eq_true rfl) (Nat.le_of_ble_eq_true rfl) (Nat.le_of_ble_eq_true rfl) rfl (fun ad H1 locs1 lsA q9 ce hn hag hP hD hS hLA hce hcv hcl => ?_)
  refine vx_catch (m_ow X) [] ⟨0, 9, 12, 31⟩ [] (m_tb X) (fun z hz => by cases hz) (by decide) (by decide) (m_wd X _ xl_31) (va_Nw.use rfl ((m_ev X).1 _ xk_0)) hce hcv hcl ?_
  exact m_hand (om := .inl (some (.int 1), (hL v a x w b z lq [m_la 1 f]))) X (Or.inl ⟨_, dL_firstBatch_12, rfl, (Nat.le_of_ble_eq_true rfl)⟩) dL_firstBatch_13 (by decide) dL_firstBatch_14 rfl rfl (Nat.le_of_ble_eq_true rfl) (Nat.le_of_ble_eq_true rfl) hn hag hP hD hS hLA
theorem w_used {v v9 w : m_V} {a a9 b : m_R} {x x9 z : Int64} {lq : Int32} {f : Nat → Int64} {r9 : Int32} {p0 p1 : Int32} (hC : m_Ctr M_X5_used [.ref 0, .int p0, .int p1] (hL v a x w b z lq [m_la 1 f]) (.inl (some (.int r9), (hL v9 a9 x9 w b z lq [m_la 1 f])))) : m_CtrN M_L_used H_L_used [.ref 0, .int p0, .int p1, .ref 31] (hL v a x w b z lq [m_la 1 f]) (.inl (some (.int 0), (hL v9 a9 x9 w b z lq [m_la 1 (vp_updL f (0 : Int32).toNatClampNeg r9.toInt64)]))) := by
  refine m_introN (by decide +kernel) (Nat.le_of_ble_eq_true rfl) (fun X hN => ?_)
  refine m_aload_n X dL_used_0 rfl rfl ?_
  refine m_iconst (v := 0) X dL_used_1 (by decide) rfl ?_
  refine m_aload_n X dL_used_2 rfl rfl ?_
  refine m_iload_n X dL_used_3 rfl rfl ?_
  refine m_iload_n X dL_used_4 rfl rfl ?_
  refine m_cV2 X dL_used_5 lk_L_57 mk_X5_used in_X5_used se_X5_used rfl rfl hC rfl (Nat.le_of_ble_eq_true rfl) (Nat.le_of_ble_eq_true rfl) (Nat.le_of_ble_eq_true rfl) (Nat.le_of_ble_eq_true rfl) (Nat.le_of_ble_eq_true rfl) rfl ?_
  refine m_i2l X dL_used_8 rfl ?_
  refine m_last X dL_used_9 rfl (vp_in_nI (n := 0) (by decide) (by decide)) rfl ?_
  refine m_goto (tgt := 17) X dL_used_10 (by decide) rfl ?_
  refine m_iconst (v := 0) X dL_used_17 (by decide) rfl ?_
  exact m_iret X dL_used_18 rfl rfl (Nat.le_of_ble_eq_true rfl) (Nat.le_of_ble_eq_true rfl) rfl
theorem w_used_x1 {v v9 w : m_V} {a a9 b : m_R} {x x9 z : Int64} {lq : Int32} {f : Nat → Int64} {p0 p1 : Int32} (hC : m_Ctr Mx_X5_used [.ref 0, .int p0, .int p1] (hL v a x w b z lq [m_la 1 f]) (.inr ("java/lang/IndexOutOfBoundsException", (hL v a x w b z lq [m_la 1 f])))) : m_CtrN M_L_used H_L_used [.ref 0, .int p0, .int p1, .ref 31] (hL v a x w b z lq [m_la 1 f]) (.inl (some (.int 1), (hL v a x w b z lq [m_la 1 f]))) := by
  refine m_introN (by decide +kernel) (Nat.le_of_ble_eq_true rfl) (fun X hN => ?_)
  refine m_aload_n X dL_used_0 rfl rfl ?_
  refine m_iconst (v := 0) X dL_used_1 (by decide) rfl ?_
  refine m_aload_n X dL_used_2 rfl rfl ?_
  refine m_iload_n X dL_used_3 rfl rfl ?_
  refine m_iload_n X dL_used_4 rfl rfl ?_
  refine m_thV_x (M := Mx_X5_used) X dL_used_5 ll_L_57 mkx_X5_used in_X5_used se_X5_used rfl rfl hC (as := [.int p0, .int p1]) rfl rfl rfl (Nat.le_of_ble_eq_true rfl) (Nat.le_of_ble_eq_true rfl) (Nat.le_of_ble_eq_true rfl) (Nat.le_of_ble_eq_true rfl) (Nat.le_of_ble_eq_true rfl) rfl (fun ad H1 locs1 lsA q9 ce hn hag hP hD hS hLA hce hcv hcl => ?_)
  refine vx_catch (m_ow X) [] ⟨0, 10, 13, 31⟩ [] (m_tb X) (fun z hz => by cases hz) (by decide) (by decide) (m_wd X _ xl_31) (va_Nw.use rfl ((m_ev X).1 _ xk_0)) hce hcv hcl ?_
  exact m_hand (om := .inl (some (.int 1), (hL v a x w b z lq [m_la 1 f]))) X (Or.inr ⟨_, dL_used_13, rfl, (Nat.le_of_ble_eq_true rfl)⟩) dL_used_15 (by decide) dL_used_16 rfl rfl (Nat.le_of_ble_eq_true rfl) (Nat.le_of_ble_eq_true rfl) hn hag hP hD hS hLA
theorem w_addStep {v v9 w : m_V} {a a9 b : m_R} {x x9 z : Int64} {lq : Int32} {f : Nat → Int64} {r9 : Int32} {p0 p1 p2 : Int32} (hC : m_Ctr M_X5_addStep [.ref 0, .int p0, .int p1, .int p2] (hL v a x w b z lq [m_la 1 f]) (.inl (some (.int r9), (hL v9 a9 x9 w b z lq [m_la 1 f])))) : m_CtrN M_L_addStep H_L_addStep [.ref 0, .int p0, .int p1, .int p2, .ref 31] (hL v a x w b z lq [m_la 1 f]) (.inl (some (.int 0), (hL v9 a9 x9 w b z lq [m_la 1 (vp_updL f (0 : Int32).toNatClampNeg r9.toInt64)]))) := by
  refine m_introN (by decide +kernel) (Nat.le_of_ble_eq_true rfl) (fun X hN => ?_)
  refine m_aload X dL_addStep_0 rfl rfl ?_
  refine m_iconst (v := 0) X dL_addStep_2 (by decide) rfl ?_
  refine m_aload_n X dL_addStep_3 rfl rfl ?_
  refine m_iload_n X dL_addStep_4 rfl rfl ?_
  refine m_iload_n X dL_addStep_5 rfl rfl ?_
  refine m_iload_n X dL_addStep_6 rfl rfl ?_
  refine m_cV3 X dL_addStep_7 lk_L_60 mk_X5_addStep in_X5_addStep se_X5_addStep rfl rfl hC rfl (Nat.le_of_ble_eq_true rfl) (Nat.le_of_ble_eq_true rfl) (Nat.le_of_ble_eq_true rfl) (Nat.le_of_ble_eq_true rfl) (Nat.le_of_ble_eq_true rfl) rfl ?_
  refine m_i2l X dL_addStep_10 rfl ?_
  refine m_last X dL_addStep_11 rfl (vp_in_nI (n := 0) (by decide) (by decide)) rfl ?_
  refine m_goto (tgt := 27) X dL_addStep_12 (by decide) rfl ?_
  refine m_iconst (v := 0) X dL_addStep_27 (by decide) rfl ?_
  exact m_iret X dL_addStep_28 rfl rfl (Nat.le_of_ble_eq_true rfl) (Nat.le_of_ble_eq_true rfl) rfl
theorem w_addStep_x1 {v v9 w : m_V} {a a9 b : m_R} {x x9 z : Int64} {lq : Int32} {f : Nat → Int64} {p0 p1 p2 : Int32} (hC : m_Ctr Mx_X5_addStep [.ref 0, .int p0, .int p1, .int p2] (hL v a x w b z lq [m_la 1 f]) (.inr ("java/lang/IndexOutOfBoundsException", (hL v a x w b z lq [m_la 1 f])))) : m_CtrN M_L_addStep H_L_addStep [.ref 0, .int p0, .int p1, .int p2, .ref 31] (hL v a x w b z lq [m_la 1 f]) (.inl (some (.int 1), (hL v a x w b z lq [m_la 1 f]))) := by
  refine m_introN (by decide +kernel) (Nat.le_of_ble_eq_true rfl) (fun X hN => ?_)
  refine m_aload X dL_addStep_0 rfl rfl ?_
  refine m_iconst (v := 0) X dL_addStep_2 (by decide) rfl ?_
  refine m_aload_n X dL_addStep_3 rfl rfl ?_
  refine m_iload_n X dL_addStep_4 rfl rfl ?_
  refine m_iload_n X dL_addStep_5 rfl rfl ?_
  refine m_iload_n X dL_addStep_6 rfl rfl ?_
  refine m_thV_x (M := Mx_X5_addStep) X dL_addStep_7 ll_L_60 mkx_X5_addStep in_X5_addStep se_X5_addStep rfl rfl hC (as := [.int p0, .int p1, .int p2]) rfl rfl rfl (Nat.le_of_ble_eq_true rfl) (Nat.le_of_ble_eq_true rfl) (Nat.le_of_ble_eq_true rfl) (Nat.le_of_ble_eq_true rfl) (Nat.le_of_ble_eq_true rfl) rfl (fun ad H1 locs1 lsA q9 ce hn hag hP hD hS hLA hce hcv hcl => ?_)
  refine vx_catch (m_ow X) [] ⟨0, 12, 15, 31⟩ [⟨0, 12, 19, 13⟩, ⟨0, 12, 23, 23⟩] (m_tb X) (fun z hz => by cases hz) (by decide) (by decide) (m_wd X _ xl_31) (va_Nw.use rfl ((m_ev X).1 _ xk_0)) hce hcv hcl ?_
  exact m_hand (om := .inl (some (.int 1), (hL v a x w b z lq [m_la 1 f]))) X (Or.inr ⟨_, dL_addStep_15, rfl, (Nat.le_of_ble_eq_true rfl)⟩) dL_addStep_17 (by decide) dL_addStep_18 rfl rfl (Nat.le_of_ble_eq_true rfl) (Nat.le_of_ble_eq_true rfl) hn hag hP hD hS hLA
theorem w_addStep_x2 {v v9 w : m_V} {a a9 b : m_R} {x x9 z : Int64} {lq : Int32} {f : Nat → Int64} {p0 p1 p2 : Int32} (hC : m_Ctr Mx_X5_addStep [.ref 0, .int p0, .int p1, .int p2] (hL v a x w b z lq [m_la 1 f]) (.inr ("java/lang/IllegalArgumentException", (hL v a x w b z lq [m_la 1 f])))) : m_CtrN M_L_addStep H_L_addStep [.ref 0, .int p0, .int p1, .int p2, .ref 31] (hL v a x w b z lq [m_la 1 f]) (.inl (some (.int 2), (hL v a x w b z lq [m_la 1 f]))) := by
  refine m_introN (by decide +kernel) (Nat.le_of_ble_eq_true rfl) (fun X hN => ?_)
  refine m_aload X dL_addStep_0 rfl rfl ?_
  refine m_iconst (v := 0) X dL_addStep_2 (by decide) rfl ?_
  refine m_aload_n X dL_addStep_3 rfl rfl ?_
  refine m_iload_n X dL_addStep_4 rfl rfl ?_
  refine m_iload_n X dL_addStep_5 rfl rfl ?_
  refine m_iload_n X dL_addStep_6 rfl rfl ?_
  refine m_thV_x (M := Mx_X5_addStep) X dL_addStep_7 ll_L_60 mkx_X5_addStep in_X5_addStep se_X5_addStep rfl rfl hC (as := [.int p0, .int p1, .int p2]) rfl rfl rfl (Nat.le_of_ble_eq_true rfl) (Nat.le_of_ble_eq_true rfl) (Nat.le_of_ble_eq_true rfl) (Nat.le_of_ble_eq_true rfl) (Nat.le_of_ble_eq_true rfl) rfl (fun ad H1 locs1 lsA q9 ce hn hag hP hD hS hLA hce hcv hcl => ?_)
  refine vx_catch (m_ow X) [⟨0, 12, 15, 31⟩] ⟨0, 12, 19, 13⟩ [⟨0, 12, 23, 23⟩] (m_tb X) (fun z hz => by
    rcases List.mem_cons.mp hz with rfl | hz
    · exact Or.inr ⟨by decide, "java/lang/IndexOutOfBoundsException", m_wd X _ xl_31, hN ("java/lang/IllegalArgumentException", "java/lang/IndexOutOfBoundsException") (by decide)⟩
    · cases hz) (by decide) (by decide) (m_wd X _ xl_13) (va_Nw.use rfl ((m_ev X).1 _ xk_1)) hce hcv hcl ?_
  exact m_hand (om := .inl (some (.int 2), (hL v a x w b z lq [m_la 1 f]))) X (Or.inr ⟨_, dL_addStep_19, rfl, (Nat.le_of_ble_eq_true rfl)⟩) dL_addStep_21 (by decide) dL_addStep_22 rfl rfl (Nat.le_of_ble_eq_true rfl) (Nat.le_of_ble_eq_true rfl) hn hag hP hD hS hLA
theorem w_addStep_x3 {v v9 w : m_V} {a a9 b : m_R} {x x9 z : Int64} {lq : Int32} {f : Nat → Int64} {p0 p1 p2 : Int32} (hC : m_Ctr Mx_X5_addStep [.ref 0, .int p0, .int p1, .int p2] (hL v a x w b z lq [m_la 1 f]) (.inr ("java/lang/IllegalStateException", (hL v a x w b z lq [m_la 1 f])))) : m_CtrN M_L_addStep H_L_addStep [.ref 0, .int p0, .int p1, .int p2, .ref 31] (hL v a x w b z lq [m_la 1 f]) (.inl (some (.int 3), (hL v a x w b z lq [m_la 1 f]))) := by
  refine m_introN (by decide +kernel) (Nat.le_of_ble_eq_true rfl) (fun X hN => ?_)
  refine m_aload X dL_addStep_0 rfl rfl ?_
  refine m_iconst (v := 0) X dL_addStep_2 (by decide) rfl ?_
  refine m_aload_n X dL_addStep_3 rfl rfl ?_
  refine m_iload_n X dL_addStep_4 rfl rfl ?_
  refine m_iload_n X dL_addStep_5 rfl rfl ?_
  refine m_iload_n X dL_addStep_6 rfl rfl ?_
  refine m_thV_x (M := Mx_X5_addStep) X dL_addStep_7 ll_L_60 mkx_X5_addStep in_X5_addStep se_X5_addStep rfl rfl hC (as := [.int p0, .int p1, .int p2]) rfl rfl rfl (Nat.le_of_ble_eq_true rfl) (Nat.le_of_ble_eq_true rfl) (Nat.le_of_ble_eq_true rfl) (Nat.le_of_ble_eq_true rfl) (Nat.le_of_ble_eq_true rfl) rfl (fun ad H1 locs1 lsA q9 ce hn hag hP hD hS hLA hce hcv hcl => ?_)
  refine vx_catch (m_ow X) [⟨0, 12, 15, 31⟩, ⟨0, 12, 19, 13⟩] ⟨0, 12, 23, 23⟩ [] (m_tb X) (fun z hz => by
    rcases List.mem_cons.mp hz with rfl | hz
    · exact Or.inr ⟨by decide, "java/lang/IndexOutOfBoundsException", m_wd X _ xl_31, hN ("java/lang/IllegalStateException", "java/lang/IndexOutOfBoundsException") (by decide)⟩
    · rcases List.mem_cons.mp hz with rfl | hz
      · exact Or.inr ⟨by decide, "java/lang/IllegalArgumentException", m_wd X _ xl_13, hN ("java/lang/IllegalStateException", "java/lang/IllegalArgumentException") (by decide)⟩
      · cases hz) (by decide) (by decide) (m_wd X _ xl_23) (va_Nw.use rfl ((m_ev X).1 _ xk_2)) hce hcv hcl ?_
  exact m_hand (om := .inl (some (.int 3), (hL v a x w b z lq [m_la 1 f]))) X (Or.inr ⟨_, dL_addStep_23, rfl, (Nat.le_of_ble_eq_true rfl)⟩) dL_addStep_25 (by decide) dL_addStep_26 rfl rfl (Nat.le_of_ble_eq_true rfl) (Nat.le_of_ble_eq_true rfl) hn hag hP hD hS hLA
theorem w_clearRecipe {v v9 w : m_V} {a a9 b : m_R} {x x9 z : Int64} {lq : Int32} {f : Nat → Int64} {r9 : Int32} (hC : m_Ctr M_X5_clearRecipe [.ref 0] (hL v a x w b z lq [m_la 1 f]) (.inl (some (.int r9), (hL v9 a9 x9 w b z lq [m_la 1 f])))) : m_CtrN M_L_clearRecipe H_L_clearRecipe [.ref 0, .ref 31] (hL v a x w b z lq [m_la 1 f]) (.inl (some (.int 0), (hL v9 a9 x9 w b z lq [m_la 1 (vp_updL f (0 : Int32).toNatClampNeg r9.toInt64)]))) := by
  refine m_introN (by decide +kernel) (Nat.le_of_ble_eq_true rfl) (fun X hN => ?_)
  refine m_aload_n X dL_clearRecipe_0 rfl rfl ?_
  refine m_iconst (v := 0) X dL_clearRecipe_1 (by decide) rfl ?_
  refine m_aload_n X dL_clearRecipe_2 rfl rfl ?_
  refine m_cV0 X dL_clearRecipe_3 lk_L_64 mk_X5_clearRecipe in_X5_clearRecipe se_X5_clearRecipe rfl rfl hC rfl (Nat.le_of_ble_eq_true rfl) (Nat.le_of_ble_eq_true rfl) (Nat.le_of_ble_eq_true rfl) (Nat.le_of_ble_eq_true rfl) (Nat.le_of_ble_eq_true rfl) rfl ?_
  refine m_i2l X dL_clearRecipe_6 rfl ?_
  refine m_last X dL_clearRecipe_7 rfl (vp_in_nI (n := 0) (by decide) (by decide)) rfl ?_
  refine m_goto (tgt := 14) X dL_clearRecipe_8 (by decide) rfl ?_
  refine m_iconst (v := 0) X dL_clearRecipe_14 (by decide) rfl ?_
  exact m_iret X dL_clearRecipe_15 rfl rfl (Nat.le_of_ble_eq_true rfl) (Nat.le_of_ble_eq_true rfl) rfl
theorem w_clearRecipe_x1 {v v9 w : m_V} {a a9 b : m_R} {x x9 z : Int64} {lq : Int32} {f : Nat → Int64} (hC : m_Ctr Mx_X5_clearRecipe [.ref 0] (hL v a x w b z lq [m_la 1 f]) (.inr ("java/lang/IllegalStateException", (hL v a x w b z lq [m_la 1 f])))) : m_CtrN M_L_clearRecipe H_L_clearRecipe [.ref 0, .ref 31] (hL v a x w b z lq [m_la 1 f]) (.inl (some (.int 1), (hL v a x w b z lq [m_la 1 f]))) := by
  refine m_introN (by decide +kernel) (Nat.le_of_ble_eq_true rfl) (fun X hN => ?_)
  refine m_aload_n X dL_clearRecipe_0 rfl rfl ?_
  refine m_iconst (v := 0) X dL_clearRecipe_1 (by decide) rfl ?_
  refine m_aload_n X dL_clearRecipe_2 rfl rfl ?_
  refine m_thV_x (M := Mx_X5_clearRecipe) X dL_clearRecipe_3 ll_L_64 mkx_X5_clearRecipe in_X5_clearRecipe se_X5_clearRecipe rfl rfl hC (as := []) rfl rfl rfl (Nat.le_of_ble_eq_true rfl) (Nat.le_of_ble_eq_true rfl) (Nat.le_of_ble_eq_true rfl) (Nat.le_of_ble_eq_true rfl) (Nat.le_of_ble_eq_true rfl) rfl (fun ad H1 locs1 lsA q9 ce hn hag hP hD hS hLA hce hcv hcl => ?_)
  refine vx_catch (m_ow X) [] ⟨0, 8, 11, 23⟩ [] (m_tb X) (fun z hz => by cases hz) (by decide) (by decide) (m_wd X _ xl_23) (va_Nw.use rfl ((m_ev X).1 _ xk_2)) hce hcv hcl ?_
  exact m_hand (om := .inl (some (.int 1), (hL v a x w b z lq [m_la 1 f]))) X (Or.inl ⟨_, dL_clearRecipe_11, rfl, (Nat.le_of_ble_eq_true rfl)⟩) dL_clearRecipe_12 (by decide) dL_clearRecipe_13 rfl rfl (Nat.le_of_ble_eq_true rfl) (Nat.le_of_ble_eq_true rfl) hn hag hP hD hS hLA
theorem w_start {v v9 w : m_V} {a a9 b : m_R} {x x9 z : Int64} {lq : Int32} {f : Nat → Int64} {r9 : Int32} (hC : m_Ctr M_X5_start [.ref 0] (hL v a x w b z lq [m_la 1 f]) (.inl (some (.int r9), (hL v9 a9 x9 w b z lq [m_la 1 f])))) : m_CtrN M_L_start H_L_start [.ref 0, .ref 31] (hL v a x w b z lq [m_la 1 f]) (.inl (some (.int 0), (hL v9 a9 x9 w b z lq [m_la 1 (vp_updL f (0 : Int32).toNatClampNeg r9.toInt64)]))) := by
  refine m_introN (by decide +kernel) (Nat.le_of_ble_eq_true rfl) (fun X hN => ?_)
  refine m_aload_n X dL_start_0 rfl rfl ?_
  refine m_iconst (v := 0) X dL_start_1 (by decide) rfl ?_
  refine m_aload_n X dL_start_2 rfl rfl ?_
  refine m_cV0 X dL_start_3 lk_L_67 mk_X5_start in_X5_start se_X5_start rfl rfl hC rfl (Nat.le_of_ble_eq_true rfl) (Nat.le_of_ble_eq_true rfl) (Nat.le_of_ble_eq_true rfl) (Nat.le_of_ble_eq_true rfl) (Nat.le_of_ble_eq_true rfl) rfl ?_
  refine m_i2l X dL_start_6 rfl ?_
  refine m_last X dL_start_7 rfl (vp_in_nI (n := 0) (by decide) (by decide)) rfl ?_
  refine m_goto (tgt := 14) X dL_start_8 (by decide) rfl ?_
  refine m_iconst (v := 0) X dL_start_14 (by decide) rfl ?_
  exact m_iret X dL_start_15 rfl rfl (Nat.le_of_ble_eq_true rfl) (Nat.le_of_ble_eq_true rfl) rfl
theorem w_start_x1 {v v9 w : m_V} {a a9 b : m_R} {x x9 z : Int64} {lq : Int32} {f : Nat → Int64} (hC : m_Ctr Mx_X5_start [.ref 0] (hL v a x w b z lq [m_la 1 f]) (.inr ("java/lang/IllegalStateException", (hL v a x w b z lq [m_la 1 f])))) : m_CtrN M_L_start H_L_start [.ref 0, .ref 31] (hL v a x w b z lq [m_la 1 f]) (.inl (some (.int 1), (hL v a x w b z lq [m_la 1 f]))) := by
  refine m_introN (by decide +kernel) (Nat.le_of_ble_eq_true rfl) (fun X hN => ?_)
  refine m_aload_n X dL_start_0 rfl rfl ?_
  refine m_iconst (v := 0) X dL_start_1 (by decide) rfl ?_
  refine m_aload_n X dL_start_2 rfl rfl ?_
  refine m_thV_x (M := Mx_X5_start) X dL_start_3 ll_L_67 mkx_X5_start in_X5_start se_X5_start rfl rfl hC (as := []) rfl rfl rfl (Nat.le_of_ble_eq_true rfl) (Nat.le_of_ble_eq_true rfl) (Nat.le_of_ble_eq_true rfl) (Nat.le_of_ble_eq_true rfl) (Nat.le_of_ble_eq_true rfl) rfl (fun ad H1 locs1 lsA q9 ce hn hag hP hD hS hLA hce hcv hcl => ?_)
  refine vx_catch (m_ow X) [] ⟨0, 8, 11, 23⟩ [] (m_tb X) (fun z hz => by cases hz) (by decide) (by decide) (m_wd X _ xl_23) (va_Nw.use rfl ((m_ev X).1 _ xk_2)) hce hcv hcl ?_
  exact m_hand (om := .inl (some (.int 1), (hL v a x w b z lq [m_la 1 f]))) X (Or.inl ⟨_, dL_start_11, rfl, (Nat.le_of_ble_eq_true rfl)⟩) dL_start_12 (by decide) dL_start_13 rfl rfl (Nat.le_of_ble_eq_true rfl) (Nat.le_of_ble_eq_true rfl) hn hag hP hD hS hLA
theorem w_hold {v v9 w : m_V} {a a9 b : m_R} {x x9 z : Int64} {lq : Int32} {f : Nat → Int64} {r9 : Int32} (hC : m_Ctr M_X5_hold [.ref 0] (hL v a x w b z lq [m_la 1 f]) (.inl (some (.int r9), (hL v9 a9 x9 w b z lq [m_la 1 f])))) : m_CtrN M_L_hold H_L_hold [.ref 0, .ref 31] (hL v a x w b z lq [m_la 1 f]) (.inl (some (.int 0), (hL v9 a9 x9 w b z lq [m_la 1 (vp_updL f (0 : Int32).toNatClampNeg r9.toInt64)]))) := by
  refine m_introN (by decide +kernel) (Nat.le_of_ble_eq_true rfl) (fun X hN => ?_)
  refine m_aload_n X dL_hold_0 rfl rfl ?_
  refine m_iconst (v := 0) X dL_hold_1 (by decide) rfl ?_
  refine m_aload_n X dL_hold_2 rfl rfl ?_
  refine m_cV0 X dL_hold_3 lk_L_70 mk_X5_hold in_X5_hold se_X5_hold rfl rfl hC rfl (Nat.le_of_ble_eq_true rfl) (Nat.le_of_ble_eq_true rfl) (Nat.le_of_ble_eq_true rfl) (Nat.le_of_ble_eq_true rfl) (Nat.le_of_ble_eq_true rfl) rfl ?_
  refine m_i2l X dL_hold_6 rfl ?_
  refine m_last X dL_hold_7 rfl (vp_in_nI (n := 0) (by decide) (by decide)) rfl ?_
  refine m_goto (tgt := 14) X dL_hold_8 (by decide) rfl ?_
  refine m_iconst (v := 0) X dL_hold_14 (by decide) rfl ?_
  exact m_iret X dL_hold_15 rfl rfl (Nat.le_of_ble_eq_true rfl) (Nat.le_of_ble_eq_true rfl) rfl
theorem w_hold_x1 {v v9 w : m_V} {a a9 b : m_R} {x x9 z : Int64} {lq : Int32} {f : Nat → Int64} (hC : m_Ctr Mx_X5_hold [.ref 0] (hL v a x w b z lq [m_la 1 f]) (.inr ("java/lang/IllegalStateException", (hL v a x w b z lq [m_la 1 f])))) : m_CtrN M_L_hold H_L_hold [.ref 0, .ref 31] (hL v a x w b z lq [m_la 1 f]) (.inl (some (.int 1), (hL v a x w b z lq [m_la 1 f]))) := by
  refine m_introN (by decide +kernel) (Nat.le_of_ble_eq_true rfl) (fun X hN => ?_)
  refine m_aload_n X dL_hold_0 rfl rfl ?_
  refine m_iconst (v := 0) X dL_hold_1 (by decide) rfl ?_
  refine m_aload_n X dL_hold_2 rfl rfl ?_
  refine m_thV_x (M := Mx_X5_hold) X dL_hold_3 ll_L_70 mkx_X5_hold in_X5_hold se_X5_hold rfl rfl hC (as := []) rfl rfl rfl (Nat.le_of_ble_eq_true rfl) (Nat.le_of_ble_eq_true rfl) (Nat.le_of_ble_eq_true rfl) (Nat.le_of_ble_eq_true rfl) (Nat.le_of_ble_eq_true rfl) rfl (fun ad H1 locs1 lsA q9 ce hn hag hP hD hS hLA hce hcv hcl => ?_)
  refine vx_catch (m_ow X) [] ⟨0, 8, 11, 23⟩ [] (m_tb X) (fun z hz => by cases hz) (by decide) (by decide) (m_wd X _ xl_23) (va_Nw.use rfl ((m_ev X).1 _ xk_2)) hce hcv hcl ?_
  exact m_hand (om := .inl (some (.int 1), (hL v a x w b z lq [m_la 1 f]))) X (Or.inl ⟨_, dL_hold_11, rfl, (Nat.le_of_ble_eq_true rfl)⟩) dL_hold_12 (by decide) dL_hold_13 rfl rfl (Nat.le_of_ble_eq_true rfl) (Nat.le_of_ble_eq_true rfl) hn hag hP hD hS hLA
theorem w_resume {v v9 w : m_V} {a a9 b : m_R} {x x9 z : Int64} {lq : Int32} {f : Nat → Int64} {r9 : Int32} (hC : m_Ctr M_X5_resume [.ref 0] (hL v a x w b z lq [m_la 1 f]) (.inl (some (.int r9), (hL v9 a9 x9 w b z lq [m_la 1 f])))) : m_CtrN M_L_resume H_L_resume [.ref 0, .ref 31] (hL v a x w b z lq [m_la 1 f]) (.inl (some (.int 0), (hL v9 a9 x9 w b z lq [m_la 1 (vp_updL f (0 : Int32).toNatClampNeg r9.toInt64)]))) := by
  refine m_introN (by decide +kernel) (Nat.le_of_ble_eq_true rfl) (fun X hN => ?_)
  refine m_aload_n X dL_resume_0 rfl rfl ?_
  refine m_iconst (v := 0) X dL_resume_1 (by decide) rfl ?_
  refine m_aload_n X dL_resume_2 rfl rfl ?_
  refine m_cV0 X dL_resume_3 lk_L_73 mk_X5_resume in_X5_resume se_X5_resume rfl rfl hC rfl (Nat.le_of_ble_eq_true rfl) (Nat.le_of_ble_eq_true rfl) (Nat.le_of_ble_eq_true rfl) (Nat.le_of_ble_eq_true rfl) (Nat.le_of_ble_eq_true rfl) rfl ?_
  refine m_i2l X dL_resume_6 rfl ?_
  refine m_last X dL_resume_7 rfl (vp_in_nI (n := 0) (by decide) (by decide)) rfl ?_
  refine m_goto (tgt := 14) X dL_resume_8 (by decide) rfl ?_
  refine m_iconst (v := 0) X dL_resume_14 (by decide) rfl ?_
  exact m_iret X dL_resume_15 rfl rfl (Nat.le_of_ble_eq_true rfl) (Nat.le_of_ble_eq_true rfl) rfl
theorem w_resume_x1 {v v9 w : m_V} {a a9 b : m_R} {x x9 z : Int64} {lq : Int32} {f : Nat → Int64} (hC : m_Ctr Mx_X5_resume [.ref 0] (hL v a x w b z lq [m_la 1 f]) (.inr ("java/lang/IllegalStateException", (hL v a x w b z lq [m_la 1 f])))) : m_CtrN M_L_resume H_L_resume [.ref 0, .ref 31] (hL v a x w b z lq [m_la 1 f]) (.inl (some (.int 1), (hL v a x w b z lq [m_la 1 f]))) := by
  refine m_introN (by decide +kernel) (Nat.le_of_ble_eq_true rfl) (fun X hN => ?_)
  refine m_aload_n X dL_resume_0 rfl rfl ?_
  refine m_iconst (v := 0) X dL_resume_1 (by decide) rfl ?_
  refine m_aload_n X dL_resume_2 rfl rfl ?_
  refine m_thV_x (M := Mx_X5_resume) X dL_resume_3 ll_L_73 mkx_X5_resume in_X5_resume se_X5_resume rfl rfl hC (as := []) rfl rfl rfl (Nat.le_of_ble_eq_true rfl) (Nat.le_of_ble_eq_true rfl) (Nat.le_of_ble_eq_true rfl) (Nat.le_of_ble_eq_true rfl) (Nat.le_of_ble_eq_true rfl) rfl (fun ad H1 locs1 lsA q9 ce hn hag hP hD hS hLA hce hcv hcl => ?_)
  refine vx_catch (m_ow X) [] ⟨0, 8, 11, 23⟩ [] (m_tb X) (fun z hz => by cases hz) (by decide) (by decide) (m_wd X _ xl_23) (va_Nw.use rfl ((m_ev X).1 _ xk_2)) hce hcv hcl ?_
  exact m_hand (om := .inl (some (.int 1), (hL v a x w b z lq [m_la 1 f]))) X (Or.inl ⟨_, dL_resume_11, rfl, (Nat.le_of_ble_eq_true rfl)⟩) dL_resume_12 (by decide) dL_resume_13 rfl rfl (Nat.le_of_ble_eq_true rfl) (Nat.le_of_ble_eq_true rfl) hn hag hP hD hS hLA
theorem w_abort {v v9 w : m_V} {a a9 b : m_R} {x x9 z : Int64} {lq : Int32} {f : Nat → Int64} {r9 : Int32} (hC : m_Ctr M_X5_abort [.ref 0] (hL v a x w b z lq [m_la 1 f]) (.inl (some (.int r9), (hL v9 a9 x9 w b z lq [m_la 1 f])))) : m_CtrN M_L_abort H_L_abort [.ref 0, .ref 31] (hL v a x w b z lq [m_la 1 f]) (.inl (some (.int 0), (hL v9 a9 x9 w b z lq [m_la 1 (vp_updL f (0 : Int32).toNatClampNeg r9.toInt64)]))) := by
  refine m_introN (by decide +kernel) (Nat.le_of_ble_eq_true rfl) (fun X hN => ?_)
  refine m_aload_n X dL_abort_0 rfl rfl ?_
  refine m_iconst (v := 0) X dL_abort_1 (by decide) rfl ?_
  refine m_aload_n X dL_abort_2 rfl rfl ?_
  refine m_cV0 X dL_abort_3 lk_L_76 mk_X5_abort in_X5_abort se_X5_abort rfl rfl hC rfl (Nat.le_of_ble_eq_true rfl) (Nat.le_of_ble_eq_true rfl) (Nat.le_of_ble_eq_true rfl) (Nat.le_of_ble_eq_true rfl) (Nat.le_of_ble_eq_true rfl) rfl ?_
  refine m_i2l X dL_abort_6 rfl ?_
  refine m_last X dL_abort_7 rfl (vp_in_nI (n := 0) (by decide) (by decide)) rfl ?_
  refine m_goto (tgt := 14) X dL_abort_8 (by decide) rfl ?_
  refine m_iconst (v := 0) X dL_abort_14 (by decide) rfl ?_
  exact m_iret X dL_abort_15 rfl rfl (Nat.le_of_ble_eq_true rfl) (Nat.le_of_ble_eq_true rfl) rfl
theorem w_abort_x1 {v v9 w : m_V} {a a9 b : m_R} {x x9 z : Int64} {lq : Int32} {f : Nat → Int64} (hC : m_Ctr Mx_X5_abort [.ref 0] (hL v a x w b z lq [m_la 1 f]) (.inr ("java/lang/IllegalStateException", (hL v a x w b z lq [m_la 1 f])))) : m_CtrN M_L_abort H_L_abort [.ref 0, .ref 31] (hL v a x w b z lq [m_la 1 f]) (.inl (some (.int 1), (hL v a x w b z lq [m_la 1 f]))) := by
  refine m_introN (by decide +kernel) (Nat.le_of_ble_eq_true rfl) (fun X hN => ?_)
  refine m_aload_n X dL_abort_0 rfl rfl ?_
  refine m_iconst (v := 0) X dL_abort_1 (by decide) rfl ?_
  refine m_aload_n X dL_abort_2 rfl rfl ?_
  refine m_thV_x (M := Mx_X5_abort) X dL_abort_3 ll_L_76 mkx_X5_abort in_X5_abort se_X5_abort rfl rfl hC (as := []) rfl rfl rfl (Nat.le_of_ble_eq_true rfl) (Nat.le_of_ble_eq_true rfl) (Nat.le_of_ble_eq_true rfl) (Nat.le_of_ble_eq_true rfl) (Nat.le_of_ble_eq_true rfl) rfl (fun ad H1 locs1 lsA q9 ce hn hag hP hD hS hLA hce hcv hcl => ?_)
  refine vx_catch (m_ow X) [] ⟨0, 8, 11, 23⟩ [] (m_tb X) (fun z hz => by cases hz) (by decide) (by decide) (m_wd X _ xl_23) (va_Nw.use rfl ((m_ev X).1 _ xk_2)) hce hcv hcl ?_
  exact m_hand (om := .inl (some (.int 1), (hL v a x w b z lq [m_la 1 f]))) X (Or.inl ⟨_, dL_abort_11, rfl, (Nat.le_of_ble_eq_true rfl)⟩) dL_abort_12 (by decide) dL_abort_13 rfl rfl (Nat.le_of_ble_eq_true rfl) (Nat.le_of_ble_eq_true rfl) hn hag hP hD hS hLA
theorem w_belt {v v9 w : m_V} {a a9 b : m_R} {x x9 z : Int64} {lq : Int32} {f : Nat → Int64} {r9 : Int64} {p0 p1 p2 : Int32} (hC : m_Ctr M_X5_belt [.ref 0, .int p0, .int p1, .int p2] (hL v a x w b z lq [m_la 1 f]) (.inl (some (.long r9), (hL v9 a9 x9 w b z lq [m_la 1 f])))) : m_CtrN M_L_belt H_L_belt [.ref 0, .int p0, .int p1, .int p2, .ref 31] (hL v a x w b z lq [m_la 1 f]) (.inl (some (.int 0), (hL v9 a9 x9 w b z lq [m_la 1 (vp_updL f (0 : Int32).toNatClampNeg r9)]))) := by
  refine m_introN (by decide +kernel) (Nat.le_of_ble_eq_true rfl) (fun X hN => ?_)
  refine m_aload X dL_belt_0 rfl rfl ?_
  refine m_iconst (v := 0) X dL_belt_2 (by decide) rfl ?_
  refine m_aload_n X dL_belt_3 rfl rfl ?_
  refine m_iload_n X dL_belt_4 rfl rfl ?_
  refine m_iload_n X dL_belt_5 rfl rfl ?_
  refine m_iload_n X dL_belt_6 rfl rfl ?_
  refine m_cV3 X dL_belt_7 lk_L_79 mk_X5_belt in_X5_belt se_X5_belt rfl rfl hC rfl (Nat.le_of_ble_eq_true rfl) (Nat.le_of_ble_eq_true rfl) (Nat.le_of_ble_eq_true rfl) (Nat.le_of_ble_eq_true rfl) (Nat.le_of_ble_eq_true rfl) rfl ?_
  refine m_last X dL_belt_10 rfl (vp_in_nI (n := 0) (by decide) (by decide)) rfl ?_
  refine m_goto (tgt := 18) X dL_belt_11 (by decide) rfl ?_
  refine m_iconst (v := 0) X dL_belt_18 (by decide) rfl ?_
  exact m_iret X dL_belt_19 rfl rfl (Nat.le_of_ble_eq_true rfl) (Nat.le_of_ble_eq_true rfl) rfl
theorem w_belt_x1 {v v9 w : m_V} {a a9 b : m_R} {x x9 z : Int64} {lq : Int32} {f : Nat → Int64} {p0 p1 p2 : Int32} (hC : m_Ctr Mx_X5_belt [.ref 0, .int p0, .int p1, .int p2] (hL v a x w b z lq [m_la 1 f]) (.inr ("java/lang/IllegalArgumentException", (hL v a x w b z lq [m_la 1 f])))) : m_CtrN M_L_belt H_L_belt [.ref 0, .int p0, .int p1, .int p2, .ref 31] (hL v a x w b z lq [m_la 1 f]) (.inl (some (.int 1), (hL v a x w b z lq [m_la 1 f]))) := by
  refine m_introN (by decide +kernel) (Nat.le_of_ble_eq_true rfl) (fun X hN => ?_)
  refine m_aload X dL_belt_0 rfl rfl ?_
  refine m_iconst (v := 0) X dL_belt_2 (by decide) rfl ?_
  refine m_aload_n X dL_belt_3 rfl rfl ?_
  refine m_iload_n X dL_belt_4 rfl rfl ?_
  refine m_iload_n X dL_belt_5 rfl rfl ?_
  refine m_iload_n X dL_belt_6 rfl rfl ?_
  refine m_thV_x (M := Mx_X5_belt) X dL_belt_7 ll_L_79 mkx_X5_belt in_X5_belt se_X5_belt rfl rfl hC (as := [.int p0, .int p1, .int p2]) rfl rfl rfl (Nat.le_of_ble_eq_true rfl) (Nat.le_of_ble_eq_true rfl) (Nat.le_of_ble_eq_true rfl) (Nat.le_of_ble_eq_true rfl) (Nat.le_of_ble_eq_true rfl) rfl (fun ad H1 locs1 lsA q9 ce hn hag hP hD hS hLA hce hcv hcl => ?_)
  refine vx_catch (m_ow X) [] ⟨0, 11, 14, 13⟩ [] (m_tb X) (fun z hz => by cases hz) (by decide) (by decide) (m_wd X _ xl_13) (va_Nw.use rfl ((m_ev X).1 _ xk_1)) hce hcv hcl ?_
  exact m_hand (om := .inl (some (.int 1), (hL v a x w b z lq [m_la 1 f]))) X (Or.inr ⟨_, dL_belt_14, rfl, (Nat.le_of_ble_eq_true rfl)⟩) dL_belt_16 (by decide) dL_belt_17 rfl rfl (Nat.le_of_ble_eq_true rfl) (Nat.le_of_ble_eq_true rfl) hn hag hP hD hS hLA
end MW

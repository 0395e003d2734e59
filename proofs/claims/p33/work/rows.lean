section
-- ===== PART A: goes FIRST, ahead of the names: the tables' words, and 'selects' of the private methods out of them =====
/-- a private method of a class that the tables say can be made, by its rows of tables_1 -/
def lw_okq (q : MethodName × Nat) : Prop := (q.1.cls ≠ "java/lang/invoke/MethodHandle" ∧ q.1.cls ≠ "java/lang/invoke/VarHandle") ∧ Cond.instantiable q.1.cls q.2 ∈ tables_1 ∧ Cond.privateMethod q.1 ∈ tables_1 ∧ Cond.instanceMethod q.1 ∈ tables_1
theorem lw_p0 : lw_okq (⟨"java/lang/Throwable", "fillInStackTrace", "(I)Ljava/lang/Throwable;"⟩, 6) := ⟨⟨by decide +kernel, by decide +kernel⟩, List.mem_of_getElem? (i := 282) (by decide +kernel), List.mem_of_getElem? (i := 280) (by decide +kernel), List.mem_of_getElem? (i := 281) (by decide +kernel)⟩
theorem lw_p1 : lw_okq (⟨"BatchDoser$Dosing", "enter", "(I)V"⟩, 16) := ⟨⟨by decide +kernel, by decide +kernel⟩, List.mem_of_getElem? (i := 32) (by decide +kernel), List.mem_of_getElem? (i := 393) (by decide +kernel), List.mem_of_getElem? (i := 394) (by decide +kernel)⟩
theorem lw_p2 : lw_okq (⟨"BatchDoser$Dosing", "finishStep", "()V"⟩, 16) := ⟨⟨by decide +kernel, by decide +kernel⟩, List.mem_of_getElem? (i := 32) (by decide +kernel), List.mem_of_getElem? (i := 420) (by decide +kernel), List.mem_of_getElem? (i := 421) (by decide +kernel)⟩
theorem lw_p3 : lw_okq (⟨"BatchDoser$Dosing", "bookNet", "()I"⟩, 16) := ⟨⟨by decide +kernel, by decide +kernel⟩, List.mem_of_getElem? (i := 32) (by decide +kernel), List.mem_of_getElem? (i := 424) (by decide +kernel), List.mem_of_getElem? (i := 425) (by decide +kernel)⟩
theorem lw_p4 : lw_okq (⟨"BatchDoser$Dosing", "stepBin", "()I"⟩, 16) := ⟨⟨by decide +kernel, by decide +kernel⟩, List.mem_of_getElem? (i := 32) (by decide +kernel), List.mem_of_getElem? (i := 439) (by decide +kernel), List.mem_of_getElem? (i := 440) (by decide +kernel)⟩
theorem lw_p5 : lw_okq (⟨"BatchDoser$Dosing", "beginStep", "(I)V"⟩, 16) := ⟨⟨by decide +kernel, by decide +kernel⟩, List.mem_of_getElem? (i := 32) (by decide +kernel), List.mem_of_getElem? (i := 461) (by decide +kernel), List.mem_of_getElem? (i := 462) (by decide +kernel)⟩
theorem lw_p6 : lw_okq (⟨"BatchDoser$Dosing", "tareStep", "()V"⟩, 16) := ⟨⟨by decide +kernel, by decide +kernel⟩, List.mem_of_getElem? (i := 32) (by decide +kernel), List.mem_of_getElem? (i := 540) (by decide +kernel), List.mem_of_getElem? (i := 541) (by decide +kernel)⟩
theorem lw_p7 : lw_okq (⟨"BatchDoser$Dosing", "target", "()I"⟩, 16) := ⟨⟨by decide +kernel, by decide +kernel⟩, List.mem_of_getElem? (i := 32) (by decide +kernel), List.mem_of_getElem? (i := 546) (by decide +kernel), List.mem_of_getElem? (i := 547) (by decide +kernel)⟩
theorem lw_p8 : lw_okq (⟨"BatchDoser$Dosing", "feed", "()V"⟩, 16) := ⟨⟨by decide +kernel, by decide +kernel⟩, List.mem_of_getElem? (i := 32) (by decide +kernel), List.mem_of_getElem? (i := 550) (by decide +kernel), List.mem_of_getElem? (i := 551) (by decide +kernel)⟩
theorem lw_p9 : lw_okq (⟨"BatchDoser$Dosing", "weigh", "()V"⟩, 16) := ⟨⟨by decide +kernel, by decide +kernel⟩, List.mem_of_getElem? (i := 32) (by decide +kernel), List.mem_of_getElem? (i := 555) (by decide +kernel), List.mem_of_getElem? (i := 556) (by decide +kernel)⟩
theorem lw_p10 : lw_okq (⟨"BatchDoser$Dosing", "jog", "()V"⟩, 16) := ⟨⟨by decide +kernel, by decide +kernel⟩, List.mem_of_getElem? (i := 32) (by decide +kernel), List.mem_of_getElem? (i := 570) (by decide +kernel), List.mem_of_getElem? (i := 571) (by decide +kernel)⟩
theorem lw_p11 : lw_okq (⟨"BatchDoser", "needLot", "(I)V"⟩, 6) := ⟨⟨by decide +kernel, by decide +kernel⟩, List.mem_of_getElem? (i := 24) (by decide +kernel), List.mem_of_getElem? (i := 655) (by decide +kernel), List.mem_of_getElem? (i := 656) (by decide +kernel)⟩
theorem lw_p12 : lw_okq (⟨"BatchDoser", "needBatch", "(I)V"⟩, 6) := ⟨⟨by decide +kernel, by decide +kernel⟩, List.mem_of_getElem? (i := 24) (by decide +kernel), List.mem_of_getElem? (i := 676) (by decide +kernel), List.mem_of_getElem? (i := 677) (by decide +kernel)⟩
def lw_privs_1 : List (MethodName × Nat) := [(⟨"java/lang/Throwable", "fillInStackTrace", "(I)Ljava/lang/Throwable;"⟩, 6), (⟨"BatchDoser$Dosing", "enter", "(I)V"⟩, 16), (⟨"BatchDoser$Dosing", "finishStep", "()V"⟩, 16), (⟨"BatchDoser$Dosing", "bookNet", "()I"⟩, 16), (⟨"BatchDoser$Dosing", "stepBin", "()I"⟩, 16), (⟨"BatchDoser$Dosing", "beginStep", "(I)V"⟩, 16), (⟨"BatchDoser$Dosing", "tareStep", "()V"⟩, 16), (⟨"BatchDoser$Dosing", "target", "()I"⟩, 16), (⟨"BatchDoser$Dosing", "feed", "()V"⟩, 16), (⟨"BatchDoser$Dosing", "weigh", "()V"⟩, 16), (⟨"BatchDoser$Dosing", "jog", "()V"⟩, 16), (⟨"BatchDoser", "needLot", "(I)V"⟩, 6), (⟨"BatchDoser", "needBatch", "(I)V"⟩, 6)]
theorem lw_r1 : ∀ q ∈ lw_privs_1, lw_okq q := List.forall_mem_cons.mpr ⟨lw_p0, List.forall_mem_cons.mpr ⟨lw_p1, List.forall_mem_cons.mpr ⟨lw_p2, List.forall_mem_cons.mpr ⟨lw_p3, List.forall_mem_cons.mpr ⟨lw_p4, List.forall_mem_cons.mpr ⟨lw_p5, List.forall_mem_cons.mpr ⟨lw_p6, List.forall_mem_cons.mpr ⟨lw_p7, List.forall_mem_cons.mpr ⟨lw_p8, List.forall_mem_cons.mpr ⟨lw_p9, List.forall_mem_cons.mpr ⟨lw_p10, List.forall_mem_cons.mpr ⟨lw_p11, List.forall_mem_cons.mpr ⟨lw_p12, fun _ h => absurd h List.not_mem_nil⟩⟩⟩⟩⟩⟩⟩⟩⟩⟩⟩⟩⟩
def lw_privs : List (MethodName × Nat) := lw_privs_1
def lw_tbl : List Cond := k2_sels lw_privs ++ tables_1
theorem lw_privs_ok : ∀ q ∈ lw_privs, lw_okq q := lw_r1
-- ===== end of PART A; then your names; then what follows =====
end
section
/-! ===== BEGIN words of one list among another's, by their places ===== -/
theorem goodIn_r {big : List Cond} (ws : List Cond) (ps : List Nat) (hp : ws = ps.filterMap (fun i => big[i]?)) (h : ws.all goodWord = true) : GoodIn big ws := by
  intro w hw
  have h1 := List.all_eq_true.mp h w hw
  rw [hp] at hw
  obtain ⟨i, -, hi⟩ := List.mem_filterMap.mp hw
  have hm : w ∈ big := by first | exact List.mem_of_getElem? hi | exact List.getElem?_mem hi
  exact ⟨hm, good_of_word h1⟩
theorem goodIn_app {big a b : List Cond} (ha : GoodIn big a) (hb : GoodIn big b) : GoodIn big (a ++ b) := fun w h => (List.mem_append.mp h).elim (ha w) (hb w)
theorem goodIn_ca {big a b : List Cond} {c : Cond} (ha : GoodIn big (c :: a)) (hb : GoodIn big b) : GoodIn big (c :: (a ++ b)) := fun w h => (List.mem_cons.mp h).elim (fun e => ha w (List.mem_cons.mpr (Or.inl e))) (fun h => (List.mem_append.mp h).elim (fun h => ha w (List.mem_cons.mpr (Or.inr h))) (hb w))
theorem goodIn_sub {big ws : List Cond} (hm : ∀ w ∈ ws, w ∈ big) (h : ws.all goodWord = true) : GoodIn big ws := fun w hw => ⟨hm w hw, good_of_word (List.all_eq_true.mp h w hw)⟩
/-! ===== END ===== -/

/-! ===== BEGIN exceptions that leave a method, and their catching by the caller (launches without stack traces) ===== -/
section VXA
/-! The laws vx_back, vx_callV, vx_callS, vx_callSW, vx_throw0, vx_throwS follow proofs of the library, with one case more: JvmDerived/Free/Laws.lean (Back.of_free), Shelf42/LK1.lean (callV, callS), Shelf/KitTraced.lean (throwNew0V, throwNewS). -/
/-- where a method has thrown q: the class by its name, the cell, what was written, the world -/
def vx_T (XC : String → State → State → Prop) (st : State) (q : Addr) (t : State) (mc ms : Nat) (free : Addr → Prop) : Prop :=
  ∃ (E : String) (ce : Cell) (L : List Loc), XC E st t ∧ t.heap[q]? = some ce ∧ ce.vm = .none ∧ st.vm.findClass E = some ce.cls ∧ st.WarmedH t.vm ∧ st.sameButNew ({ t with vm := st.vm } : State) L mc ms ∧ ∀ z ∈ L, free z.base
def vx_Q (Qc : Array Value → State → Outcome → State → Prop) (XC : String → State → State → Prop) (mc ms : Nat) (free : Addr → Prop) : Array Value → State → Outcome → State → Prop := fun a st o t =>
  (Qc a st o t ∧ ∃ L, FrameEnd st o t L mc ms ∧ ∀ q ∈ L, free q.base) ∨ ∃ q, o = .threw q ∧ vx_T XC st q t mc ms free
/-- a callee that returns or throws -/
def vx_Met (l : Launch) (y : MethodName) (ws : List Cond) (rm : Room) (Pc : Array Value → State → Prop) (Qc : Array Value → State → Outcome → State → Prop) (XC : String → State → State → Prop) (mc ms : Nat) (free : Addr → Prop) : Prop :=
  MetFree l y (headSpec ws rm) Pc (fun _ _ _ _ _ => True) (vx_Q Qc XC mc ms free)
def vx_Post (XC : String → State → State → Prop) (mc ms : Nat) (free : Addr → Prop) : Pt → Array Value → Addr → Pt → Prop := fun A a q B =>
  ∃ (g : JFrame) (mk : MethodId) (t : State) (L : List Loc) (E : String) (ce : Cell), B.U.heap = t.heap ∧ B.U.vm = t.vm ∧ XC E (A.U.calling g mk a) t ∧ t.heap[q]? = some ce ∧ ce.vm = .none ∧ A.U.vm.findClass E = some ce.cls ∧ B.locs = A.locs ++ L ∧ (∀ z ∈ L, free z.base) ∧ B.cells = A.cells + mc ∧ B.slots = A.slots + ms
def vx_Back (l : Launch) (R : Room) (p : Program) (e : Env) (below : List Frame) (s : State) (sargs : Array Value) (y : MethodName) (len W9 : Nat)
    (Pre : Pt → Array Value → Prop) (Post : Pt → Array Value → Option Value → Pt → Prop) (PostX : Pt → Array Value → Addr → Pt → Prop) : Prop :=
  ∀ (m : MethodId) (meth : Method) (c : Code) (A : Pt) (g : JFrame) (ig : Instr) (mk : MethodId) (a : Array Value),
    Stand p l e R s m sargs below meth c A.U A.locs A.cells A.slots → g.method = m → g.locals.size = c.maxLocals → decode c.code g.pc = .ok (ig, len) →
    2 * g.monitorRoom + (g.stack.map fun v => v.category).sum ≤ W9 → A.U.methodNamed? y = some mk → Pre A a →
    (∃ (v : Option Value) (B : Pt), Stand p l e R s m sargs below meth c B.U B.locs B.cells B.slots ∧ Post A a v B ∧
      Steps p.tables e below (doInvoke e (A.U.setTop g) [] mk a).1 (B.U.setTop { g with pc := g.pc + len, stack := v.toList ++ g.stack })) ∨
    (∃ (q : Addr) (B : Pt), Stand p l e R s m sargs below meth c B.U B.locs B.cells B.slots ∧ PostX A a q B ∧
      Steps p.tables e below (doInvoke e (A.U.setTop g) [] mk a).1 ((B.U.setTop g).pushFrame (.throwing q)))
section Payer
variable {l : Launch} {R : Room} {p : Program} {e : Env} {below : List Frame} {s : State} {sargs : Array Value} {y : MethodName} {len W9 : Nat}
theorem vx_back {ws : List Cond} {rm : Room} {Pc : Array Value → State → Prop} {Qc : Array Value → State → Outcome → State → Prop} {XC : String → State → State → Prop} {mc ms : Nat} {free : Addr → Prop} {bytes : ByteArray} {maxL : Nat} {ret : Option FieldType}
    (hM : vx_Met l y ws rm Pc Qc XC mc ms free) (hblind : FrameBlind Pc) (hrc : rm.cells = mc) (hrs : rm.slots = ms)
    (hframes : rm.frames + 1 ≤ R.frames) (hlocals : W9 + (maxL + 11) + rm.locals ≤ R.locals)
    (hws : ∀ w ∈ ws, ∀ a' U, s.WarmedH U.vm → w.before a' U = true) (hcode : Cond.code y bytes maxL ret ∈ ws) (hinit : ∀ a' U, s.WarmedH U.vm → (Cond.initialized y.cls).before a' U = true) :
    vx_Back l R p e below s sargs y len W9 (PreOf R mc ms Pc) (PostOf Qc mc ms free) (vx_Post XC mc ms free) := by
  intro m meth c A g ig mk a X hg hsize hdg hW hn hp
  have h1 : (headSpec ws rm).pre.before a A.U = true := atoms_intro fun w hw => hws w hw _ _ X.warmed
  have h2 : (Cond.code y bytes maxL ret).before a A.U = true := hws _ hcode _ _ X.warmed
  have h3 : (Cond.initialized y.cls).before a A.U = true := hinit _ _ X.warmed
  have h4 : A.cells + (headSpec ws rm).room.cells ≤ R.cells := by rw [show (headSpec ws rm).room.cells = mc from hrc]; exact hp.1
  have h5 : A.slots + (headSpec ws rm).room.slots ≤ R.slots := by rw [show (headSpec ws rm).room.slots = ms from hrs]; exact hp.2.1
  have hPc : Pc a (A.U.calling g mk a) := hblind _ _ _ _ hp.2.2
  obtain ⟨U, Ls, c0, s0⟩ := A
  dsimp only [Pt.U, Pt.locs, Pt.cells, Pt.slots] at h1 h2 h3 h4 h5 X hn hPc ⊢
  obtain ⟨methY, cY, hmY, hcY, -, hlY, -, -, -, -⟩ := Cond.code_spec hn h2
  obtain ⟨kY, hkY, -⟩ := className_of_methodNamed hn
  have hinitY : kY.init = .initialized := Cond.initialized_spec (findClass_of_methodNamed hn) hkY h3
  have h : At U g.method c below := by rw [hg]; exact X.here
  have hlocals9 : W9 + (maxL + 11) + (headSpec ws rm).room.locals ≤ R.locals := hlocals
  have happ : (headSpec ws rm).appliesLoose y e.platform (U.calling g mk a) = true :=
    Spec.appliesLoose_calling (g := g) h hdg hn hkY hinitY
      (X.room_calling (g := g) (R' := (headSpec ws rm).room) hsize hmY hcY hframes (by rw [hlY]; omega) h4 h5) h1
  obtain ⟨mid, hmid⟩ := h.above
  have hfr : (U.setTop g).frames = (.java g :: mid) ++ below := by rw [State.frames_setTop' g h.top, hmid]; rfl
  obtain ⟨o, s₂, hsteps, -, hend, hq⟩ := Steps.callFree hM p X.admits X.cas X.clock (acts := []) hfr happ hPc trivial
  have hq' : vx_Q Qc XC mc ms free a (U.calling g mk a) o s₂ := hq
  rw [State.frames_setTop' g h.top] at hend
  obtain ⟨g₀, hg0⟩ := Option.isSome_iff_exists.mp h.top
  obtain ⟨r, hr⟩ := State.topJava?_eq_some.mp hg0
  have hr' : (({ U with heap := s₂.heap, slotsUsed := s₂.slotsUsed } : State).setVm s₂.vm).frames = .java g₀ :: r := hr
  rcases hq' with ⟨hqc, L, hfe, hL⟩ | ⟨q, rfl, E, ce, L, hx, hce, hcv, hcl, hW₂, hsm, hL⟩
  · obtain ⟨⟨v, rfl⟩, hW₂, e2, q2, q3, q4, q5, q6⟩ := id hfe
    have e3 : s₂ = ({ (U.calling g mk a).setFrames s₂.frames with heap := s₂.heap, slotsUsed := s₂.slotsUsed } : State).setVm s₂.vm := by
      have : s₂ = ({ s₂ with vm := (U.calling g mk a).vm } : State).setVm s₂.vm := rfl
      rw [e2] at this
      exact this
    obtain ⟨c₂, i₂, len₂, hc₂, hd₂, hf₂⟩ := hend
    have hW' : U.WarmedH s₂.vm := hW₂
    have hcc : c₂ = c := by
      have h1 : s₂.code? g.method = U.code? g.method := by
        rw [State.code?_eq, State.code?_eq, hW'.alike.method?]
      exact Option.some.inj (hc₂.symm.trans (h1.trans h.code))
    subst hcc
    have hlen : len₂ = len := by rw [hdg] at hd₂; cases hd₂; rfl
    subst hlen
    have hs₂ : s₂ = (({ U with heap := s₂.heap, slotsUsed := s₂.slotsUsed } : State).setVm s₂.vm).setTop { g with pc := g.pc + len₂, stack := v.toList ++ g.stack } := by
      refine e3.trans ?_
      rw [hf₂, State.calling_eq h.top, State.setFrames_setFrames, State.setTop_of_frames _ hr', hr]
      rfl
    have hsame : U.sameButNew ({ U with heap := s₂.heap, slotsUsed := s₂.slotsUsed } : State) L mc ms := by
      refine ⟨?_, q2, q3, q4, q5, q6⟩
      obtain ⟨t, ht, -⟩ := State.frames_cons hr
      show ({ U with heap := s₂.heap, slotsUsed := s₂.slotsUsed } : State) = { U.setFrames U.frames with heap := s₂.heap, slotsUsed := s₂.slotsUsed }
      rw [State.setFrames_self ht]
    subst hg
    refine Or.inl ⟨v, ⟨(({ U with heap := s₂.heap, slotsUsed := s₂.slotsUsed } : State).setVm s₂.vm), Ls ++ L, c0 + mc, s0 + ms⟩,
      ⟨X.admits, X.cas, X.clock, X.frames, X.room, X.hears, X.method, X.code, (X.here.setHeapUsed s₂.heap s₂.slotsUsed).setVm hW'.alike, X.tail, State.WarmedH.trans X.warmed hW', X.limits, X.bytes, X.same.trans (hsame.setVm s.vm)⟩,
      ⟨g, mk, s₂, L, rfl, rfl, hqc, rfl, hL, rfl, rfl⟩, ?_⟩
    show Steps p.tables e below _ ((({ U with heap := s₂.heap, slotsUsed := s₂.slotsUsed } : State).setVm s₂.vm).setTop { g with pc := g.pc + len₂, stack := v.toList ++ g.stack })
    rw [← hs₂]
    exact hsteps
  · obtain ⟨e2, q2, q3, q4, q5, q6⟩ := id hsm
    have e3 : s₂ = ({ (U.calling g mk a).setFrames s₂.frames with heap := s₂.heap, slotsUsed := s₂.slotsUsed } : State).setVm s₂.vm := by
      have : s₂ = ({ s₂ with vm := (U.calling g mk a).vm } : State).setVm s₂.vm := rfl
      rw [e2] at this
      exact this
    have hf₂ : s₂.frames = .throwing q :: .java g :: U.frames.tail := hend
    have hW' : U.WarmedH s₂.vm := hW₂
    have hs₂ : s₂ = ((({ U with heap := s₂.heap, slotsUsed := s₂.slotsUsed } : State).setVm s₂.vm).setTop g).pushFrame (.throwing q) := by
      refine e3.trans ?_
      rw [hf₂, State.calling_eq h.top, State.setFrames_setFrames, State.pushFrame, State.frames_setTop _ hr', State.setTop_of_frames _ hr', State.setFrames_setFrames, hr]
      rfl
    have hsame : U.sameButNew ({ U with heap := s₂.heap, slotsUsed := s₂.slotsUsed } : State) L mc ms := by
      refine ⟨?_, q2, q3, q4, q5, q6⟩
      obtain ⟨t, ht, -⟩ := State.frames_cons hr
      show ({ U with heap := s₂.heap, slotsUsed := s₂.slotsUsed } : State) = { U.setFrames U.frames with heap := s₂.heap, slotsUsed := s₂.slotsUsed }
      rw [State.setFrames_self ht]
    subst hg
    refine Or.inr ⟨q, ⟨(({ U with heap := s₂.heap, slotsUsed := s₂.slotsUsed } : State).setVm s₂.vm), Ls ++ L, c0 + mc, s0 + ms⟩,
      ⟨X.admits, X.cas, X.clock, X.frames, X.room, X.hears, X.method, X.code, (X.here.setHeapUsed s₂.heap s₂.slotsUsed).setVm hW'.alike, X.tail, State.WarmedH.trans X.warmed hW', X.limits, X.bytes, X.same.trans (hsame.setVm s.vm)⟩,
      ⟨g, mk, s₂, L, E, ce, rfl, rfl, hx, hce, hcv, hcl, rfl, hL, rfl, rfl⟩, ?_⟩
    show Steps p.tables e below _ (((({ U with heap := s₂.heap, slotsUsed := s₂.slotsUsed } : State).setVm s₂.vm).setTop g).pushFrame (.throwing q))
    rw [← hs₂]
    exact hsteps
end Payer
section Calls
variable {p : Program} {l : Launch} {e : Env} {R : Room} {s : State} {m : MethodId} {args : Array Value} {below : List Frame} {meth : Method} {c : Code} {T : State} {locs : List Loc} {cells slots : Nat}
theorem vx_callV (X : Stand p l e R s m args below meth c T locs cells slots) (hexec : p.tables.exec = Jvm.exec) {own C : String} {index : Nat} {y : MethodName} {bytes : ByteArray} {maxL : Nat} {ret : Option FieldType}
    (hown : s.vm.findClass own = some m.cls) (hlink : (Cond.methodLink own index y).before args s = true) (hinst : (Cond.instanceMethod y).before args s = true) (hsel : (Cond.selects C y y).before args s = true)
    (hcode : (Cond.code y bytes maxL ret).before args s = true) (hy : y.cls ≠ "java/lang/invoke/MethodHandle" ∧ y.cls ≠ "java/lang/invoke/VarHandle")
    {W9 : Nat} {Pre : Pt → Array Value → Prop} {Post : Pt → Array Value → Option Value → Pt → Prop} {PostX : Pt → Array Value → Addr → Pt → Prop} (hK : vx_Back l R p e below s args y 3 W9 Pre Post PostX)
    {b : Addr} {cellB : Cell} (hcell : T.heap[b]? = some cellB) (hobj : cellB.vm.isStatics = false) (hcls : s.vm.findClass C = some cellB.cls)
    {g : JFrame} (hg : g.method = m) (hsize : g.locals.size = c.maxLocals) {argsL rest : List Value} (hlen : ∀ sig, parseMethodDescriptor y.desc = some sig → argsL.length = sig.parameters.length)
    (hstack : g.stack = argsL.reverse ++ .ref b :: rest) (hW : 2 * g.monitorRoom + (rest.map fun v => v.category).sum ≤ W9) (hdg : decode c.code g.pc = .ok (.invokevirtual index, 3))
    (hpre : ∀ vm₁, s.WarmedH vm₁ → Pre ⟨T.setVm vm₁, locs, cells, slots⟩ (Value.ref b :: argsL).toArray) :
    (∃ (v : Option Value) (vm₁ : Vm) (B : Pt), s.WarmedH vm₁ ∧ Stand p l e R s m args below meth c B.U B.locs B.cells B.slots ∧ Post ⟨T.setVm vm₁, locs, cells, slots⟩ (Value.ref b :: argsL).toArray v B ∧
      ∀ target, Steps p.tables e below (B.U.setTop { g with pc := g.pc + 3, stack := v.toList ++ rest }) target → Steps p.tables e below (T.setTop g) target) ∨
    (∃ (q : Addr) (vm₁ : Vm) (B : Pt), s.WarmedH vm₁ ∧ Stand p l e R s m args below meth c B.U B.locs B.cells B.slots ∧ PostX ⟨T.setVm vm₁, locs, cells, slots⟩ (Value.ref b :: argsL).toArray q B ∧
      Steps p.tables e below (T.setTop g) ((B.U.setTop { g with stack := rest }).pushFrame (.throwing q))) := by
  obtain ⟨mk, methM, hnamed, hmethM, hstM, habM⟩ := Cond.instanceMethod_spec hinst
  obtain ⟨methM', cM, hmethM', -, -, -, -, -, -, hsigM⟩ := Cond.code_spec hnamed hcode
  cases hmethM.symm.trans hmethM'
  obtain ⟨c2, r2, m2, q1, q2, q3, q4, kP, hkP, hkPi⟩ := Cond.selects_spec hsel
  cases hcls.symm.trans q1
  cases (State.methodFound?_of_named hnamed hy).symm.trans q2
  cases hnamed.symm.trans q3
  have hselP : selectMethod e.platform s.vm cellB.cls mk = .method mk := by rw [Launch.admits_selectMethod X.admits]; exact q4
  obtain ⟨vm₁, X₁, hstep₁⟩ := X.invokevirtual hexec hown hlink hnamed hmethM hstM hkP hkPi hy (a := b) (cell := cellB) hcell
    (fun z h => by rw [h] at hobj; cases hobj) hselP hmethM habM hkP hkPi (g := g) hg (argsL := argsL) (rest := rest) (hlen _ hsigM) hstack hdg
  rcases hK m meth c ⟨T.setVm vm₁, locs, cells, slots⟩ { g with stack := rest } (.invokevirtual index) mk (Value.ref b :: argsL).toArray X₁ hg hsize hdg hW (X₁.named hnamed) (hpre vm₁ X₁.warmed) with ⟨v, B, X', hpost, hsteps⟩ | ⟨q, B, X', hpost, hsteps⟩
  · exact Or.inl ⟨v, vm₁, B, X₁.warmed, X', hpost, fun target h => hstep₁ _ fun acts => by rw [doInvoke_state]; exact hsteps.trans h⟩
  · exact Or.inr ⟨q, vm₁, B, X₁.warmed, X', hpost, hstep₁ _ fun acts => by rw [doInvoke_state]; exact hsteps⟩
theorem vx_callS (X : Stand p l e R s m args below meth c T locs cells slots) (hexec : p.tables.exec = Jvm.exec) {own : String} {index : Nat} {y : MethodName} {bytes : ByteArray} {maxL : Nat} {ret : Option FieldType}
    (hown : s.vm.findClass own = some m.cls) (hlink : (Cond.methodLink own index y).before args s = true) (hstat : (Cond.static y).before args s = true) (hinit : (Cond.initialized y.cls).before args s = true)
    (hcode : (Cond.code y bytes maxL ret).before args s = true) (hy : y.cls ≠ "java/lang/invoke/MethodHandle" ∧ y.cls ≠ "java/lang/invoke/VarHandle")
    {W9 : Nat} {Pre : Pt → Array Value → Prop} {Post : Pt → Array Value → Option Value → Pt → Prop} {PostX : Pt → Array Value → Addr → Pt → Prop} (hK : vx_Back l R p e below s args y 3 W9 Pre Post PostX)
    {g : JFrame} (hg : g.method = m) (hsize : g.locals.size = c.maxLocals) {argsL rest : List Value} (hlen : ∀ sig, parseMethodDescriptor y.desc = some sig → argsL.length = sig.parameters.length)
    (hstack : g.stack = argsL.reverse ++ rest) (hW : 2 * g.monitorRoom + (rest.map fun v => v.category).sum ≤ W9) (hdg : decode c.code g.pc = .ok (.invokestatic index, 3))
    (hpre : ∀ vm₁, s.WarmedH vm₁ → Pre ⟨T.setVm vm₁, locs, cells, slots⟩ argsL.toArray) :
    (∃ (v : Option Value) (vm₁ : Vm) (B : Pt), s.WarmedH vm₁ ∧ Stand p l e R s m args below meth c B.U B.locs B.cells B.slots ∧ Post ⟨T.setVm vm₁, locs, cells, slots⟩ argsL.toArray v B ∧
      ∀ target, Steps p.tables e below (B.U.setTop { g with pc := g.pc + 3, stack := v.toList ++ rest }) target → Steps p.tables e below (T.setTop g) target) ∨
    (∃ (q : Addr) (vm₁ : Vm) (B : Pt), s.WarmedH vm₁ ∧ Stand p l e R s m args below meth c B.U B.locs B.cells B.slots ∧ PostX ⟨T.setVm vm₁, locs, cells, slots⟩ argsL.toArray q B ∧
      Steps p.tables e below (T.setTop g) ((B.U.setTop { g with stack := rest }).pushFrame (.throwing q))) := by
  obtain ⟨mk, hnamed⟩ := Cond.code_named hcode
  obtain ⟨methM, cM, hmethM, -, -, -, -, -, -, hsigM⟩ := Cond.code_spec hnamed hcode
  have hstatic : methM.isStatic = true := Cond.static_spec hnamed hmethM hstat
  obtain ⟨kP, hkP, -⟩ := className_of_methodNamed hnamed
  have hinitP : kP.init = .initialized := Cond.initialized_spec (findClass_of_methodNamed hnamed) hkP hinit
  obtain ⟨vm₁, X₁, hstep₁⟩ := X.invokestatic hexec hown hlink hnamed hmethM hstatic hkP hinitP hy (g := g) hg (argsL := argsL) (rest := rest) (hlen _ hsigM) hstack hdg
  rcases hK m meth c ⟨T.setVm vm₁, locs, cells, slots⟩ { g with stack := rest } (.invokestatic index) mk argsL.toArray X₁ hg hsize hdg hW (X₁.named hnamed) (hpre vm₁ X₁.warmed) with ⟨v, B, X', hpost, hsteps⟩ | ⟨q, B, X', hpost, hsteps⟩
  · exact Or.inl ⟨v, vm₁, B, X₁.warmed, X', hpost, fun target h => hstep₁ _ fun acts => by rw [doInvoke_state]; exact hsteps.trans h⟩
  · exact Or.inr ⟨q, vm₁, B, X₁.warmed, X', hpost, hstep₁ _ fun acts => by rw [doInvoke_state]; exact hsteps⟩
end Calls
theorem vx_cls {s : State} {T : State} {vm₁ : Vm} {E : String} {k : ClassId} (hW : s.WarmedH vm₁) (h : (T.setVm vm₁).vm.findClass E = some k) : s.vm.findClass E = some k := by
  have h1 : vm₁.findClass E = some k := h
  rw [hW.alike.findClass] at h1
  exact h1
/-- the method's frame g, with q thrown over it -/
def vx_W (p : Program) (l : Launch) (e : Env) (R : Room) (s : State) (m : MethodId) (args : Array Value) (below : List Frame) (meth : Method) (c : Code) (H : Heap) (locs : List Loc) (cells slots : Nat) (Q : State → Prop) (g : JFrame) (q : Addr) : Prop :=
  ∀ T : State, T.heap = H → Stand p l e R s m args below meth c T locs cells slots → ∃ t, Steps p.tables e below ((T.setTop g).pushFrame (.throwing q)) t ∧ Q t
def vx_Run (p : Program) (l : Launch) (e : Env) (R : Room) (s : State) (m : MethodId) (args : Array Value) (below : List Frame) (meth : Method) (c : Code) (H : Heap) (locs : List Loc) (cells slots mc ms : Nat) (g : JFrame) (rest : List Value) (Qa : State → Outcome → State → Prop) (XC : String → State → State → Prop) (free : Addr → Prop) : Prop :=
  ∀ T : State, T.heap = H → Stand p l e R s m args below meth c T locs cells slots →
    (∃ (v : Option Value) (st₀ t T' : State) (L : List Loc), st₀.heap = H ∧ Stand p l e R s m args below meth c T' (locs ++ L) (cells + mc) (slots + ms) ∧ (∀ q ∈ L, free q.base) ∧ T'.heap = t.heap ∧ T'.vm = t.vm ∧ Qa st₀ (.returned v) t ∧
      Goes p e below T g T' { g with pc := g.pc + 3, stack := v.toList ++ rest }) ∨
    (∃ (q : Addr) (st₀ t T' : State) (L : List Loc) (E : String) (ce : Cell), st₀.heap = H ∧ Stand p l e R s m args below meth c T' (locs ++ L) (cells + mc) (slots + ms) ∧ (∀ z ∈ L, free z.base) ∧ T'.heap = t.heap ∧ T'.vm = t.vm ∧ XC E st₀ t ∧ t.heap[q]? = some ce ∧ ce.vm = .none ∧ s.vm.findClass E = some ce.cls ∧
      Steps p.tables e below (T.setTop g) ((T'.setTop { g with stack := rest }).pushFrame (.throwing q)))
def vx_X {S : Type} (px : S → Prop) (B : String → S → State → Prop) (A : Nat → Prop) : String → State → State → Prop := fun E st t => ∃ u : S, px u ∧ B E u t ∧ va_F A st t
section Runs
variable {p : Program} {l : Launch} {e : Env} {R : Room} {s : State} {m : MethodId} {args : Array Value} {below : List Frame} {meth : Method} {c : Code} {H : Heap} {locs : List Loc} {cells slots : Nat}
variable {y : MethodName} {bytes cc : ByteArray} {maxL nL mc ms n index : Nat} {ret : Option FieldType} {ws : List Cond} {rm : Room} {Pc : Array Value → State → Prop} {Qc : Array Value → State → Outcome → State → Prop} {XC : String → State → State → Prop} {free : Addr → Prop} {Ts : List Cond} {own C : String} {b : Addr} {As rest : List Value} {g : JFrame}
theorem vx_callBack (cb : CallB R s args own index y bytes maxL ret ws rm mc ms n) (hM : vx_Met l y ws rm Pc Qc XC mc ms free) (hbl : FrameBlind Pc) : vx_Back l R p e below s args y 3 8 (PreOf R mc ms Pc) (PostOf Qc mc ms free) (vx_Post XC mc ms free) := by
  obtain ⟨hrc, hrs, hfr, hlo, hws, hcw, -, hini, -⟩ := cb
  exact vx_back (bytes := bytes) (maxL := maxL) (ret := ret) hM hbl hrc hrs hfr hlo hws hcw (fun a' U hW => word_at hW (Or.inl (by first | rfl | simp [Cond.onTables, Cond.keeps, Cond.steady])) hini)
theorem vx_runV (S : CallFix p m c cc nL s args Ts own) (hM : vx_Met l y ws rm Pc Qc XC mc ms free) (cw : CallW R s args own C index y bytes maxL ret ws rm mc ms n) (hp : PreV s H C b Pc As)
    (hg : g.method = m) (hn : As.length = n) (hsize : g.locals.size = nL) (hstack : g.stack = As.reverse ++ .ref b :: rest) (hW : 2 * g.monitorRoom + (rest.map fun v => v.category).sum ≤ 8) (hdg : decode cc g.pc = .ok (.invokevirtual index, 3)) (hf : cells + mc ≤ R.cells ∧ slots + ms ≤ R.slots) :
    vx_Run p l e R s m args below meth c H locs cells slots mc ms g rest (Qc (Value.ref b :: As).toArray) XC free := by
  have hK : vx_Back l R p e below s args y 3 8 (PreOf R mc ms Pc) (PostOf Qc mc ms free) (vx_Post XC mc ms free) := vx_callBack cw.1 hM hp.1
  obtain ⟨⟨-, -, -, -, -, -, hcode, -, hy, hlen, hl⟩, hin, hse⟩ := cw
  obtain ⟨hx, hb, hml, ho, -⟩ := S
  obtain ⟨-, ⟨cellB, hcB, hoB, hclB⟩, hPc⟩ := hp
  intro T hT X
  rcases vx_callV X hx (C := C) (bytes := bytes) (maxL := maxL) (ret := ret) ho hl hin hse hcode hy hK (by rw [hT]; exact hcB) hoB hclB hg (hsize.trans hml.symm) (argsL := As) (rest := rest) (fun sig h => hn.trans (hlen sig h)) hstack hW (by rw [hb]; exact hdg)
    (fun vm₁ hW₁ => ⟨hf.1, hf.2, hPc (T.setVm vm₁) hT hW₁⟩) with ⟨v, vm₁, ⟨U', l2, c2, s2⟩, hW₁, X', ⟨g', mk, t, L, e1, e2, hq, h1, hL, h2, h3⟩, st⟩ | ⟨q, vm₁, ⟨U', l2, c2, s2⟩, hW₁, X', ⟨g', mk, t, L, E, ce, e1, e2, hq, hce, hcv, hcl, h1, hL, h2, h3⟩, st⟩
  · dsimp only [Pt.U, Pt.locs, Pt.cells, Pt.slots] at X' e1 e2 h1 h2 h3 st
    subst h1; subst h2; subst h3
    exact Or.inl ⟨v, (T.setVm vm₁).calling g' mk (Value.ref b :: As).toArray, t, U', L, hT, X', hL, e1, e2, hq, st⟩
  · dsimp only [Pt.U, Pt.locs, Pt.cells, Pt.slots] at X' e1 e2 h1 h2 h3 st hcl
    subst h1; subst h2; subst h3
    exact Or.inr ⟨q, (T.setVm vm₁).calling g' mk (Value.ref b :: As).toArray, t, U', L, E, ce, hT, X', hL, e1, e2, hq, hce, hcv, vx_cls hW₁ hcl, st⟩
theorem vx_runS (S : CallFix p m c cc nL s args Ts own) (hM : vx_Met l y ws rm Pc Qc XC mc ms free) (cw : CallB R s args own index y bytes maxL ret ws rm mc ms n ∧ (Cond.static y).before args s = true) (hp : PreS s H Pc As)
    (hg : g.method = m) (hn : As.length = n) (hsize : g.locals.size = nL) (hstack : g.stack = As.reverse ++ rest) (hW : 2 * g.monitorRoom + (rest.map fun v => v.category).sum ≤ 8) (hdg : decode cc g.pc = .ok (.invokestatic index, 3)) (hf : cells + mc ≤ R.cells ∧ slots + ms ≤ R.slots) :
    vx_Run p l e R s m args below meth c H locs cells slots mc ms g rest (Qc As.toArray) XC free := by
  have hK : vx_Back l R p e below s args y 3 8 (PreOf R mc ms Pc) (PostOf Qc mc ms free) (vx_Post XC mc ms free) := vx_callBack cw.1 hM hp.1
  obtain ⟨⟨-, -, -, -, -, -, hcode, hini, hy, hlen, hl⟩, hstt⟩ := cw
  obtain ⟨hx, hb, hml, ho, -⟩ := S
  intro T hT X
  rcases vx_callS X hx (bytes := bytes) (maxL := maxL) (ret := ret) ho hl hstt hini hcode hy hK hg (hsize.trans hml.symm) (argsL := As) (rest := rest) (fun sig h => hn.trans (hlen sig h)) hstack hW (by rw [hb]; exact hdg)
    (fun vm₁ hW₁ => ⟨hf.1, hf.2, hp.2 (T.setVm vm₁) hT hW₁⟩) with ⟨v, vm₁, ⟨U', l2, c2, s2⟩, hW₁, X', ⟨g', mk, t, L, e1, e2, hq, h1, hL, h2, h3⟩, st⟩ | ⟨q, vm₁, ⟨U', l2, c2, s2⟩, hW₁, X', ⟨g', mk, t, L, E, ce, e1, e2, hq, hce, hcv, hcl, h1, hL, h2, h3⟩, st⟩
  · dsimp only [Pt.U, Pt.locs, Pt.cells, Pt.slots] at X' e1 e2 h1 h2 h3 st
    subst h1; subst h2; subst h3
    exact Or.inl ⟨v, (T.setVm vm₁).calling g' mk As.toArray, t, U', L, hT, X', hL, e1, e2, hq, st⟩
  · dsimp only [Pt.U, Pt.locs, Pt.cells, Pt.slots] at X' e1 e2 h1 h2 h3 st hcl
    subst h1; subst h2; subst h3
    exact Or.inr ⟨q, (T.setVm vm₁).calling g' mk As.toArray, t, U', L, E, ce, hT, X', hL, e1, e2, hq, hce, hcv, vx_cls hW₁ hcl, st⟩
end Runs
section Rows
variable {p : Program} {l : Launch} {e : Env} {R : Room} {s : State} {m : MethodId} {args : Array Value} {below : List Frame} {meth : Method} {c : Code} {H : Heap} {locs : List Loc} {cells slots : Nat} {Q : State → Prop}
variable {mc ms : Nat} {free : Addr → Prop} {A0 A1 : Nat → Prop} {H0 : Heap} {a : Array Value} {pc : Nat} {ls : Array Slot} {st0 rest : List Value}
theorem vx_keep {st₀ t T' : State} {L : List Loc} (h0 : st₀.heap = H) (e1 : T'.heap = t.heap) (hS : va_S A0 H0 H locs) (hA : ∀ q, q < H.size → A1 q → A0 q) (hf : ∀ q, free q → A0 q) (hL : ∀ q ∈ L, free q.base) (hF : va_F A1 st₀ t) :
    H.size ≤ T'.heap.size ∧ (∀ q : Nat, q < H.size → ¬ A1 q → T'.heap[q]? = H[q]?) ∧ va_S A0 H0 T'.heap (locs ++ L) := by
  obtain ⟨hz, hk⟩ := hF
  rw [h0] at hz hk
  exact ⟨by rw [e1]; exact hz, fun q h1 h2 => by rw [e1]; exact hk q h1 h2,
    ⟨Nat.le_trans hS.1 (by rw [e1]; exact hz), fun q h1 h2 => by rw [e1, hk q (Nat.lt_of_lt_of_le h1 hS.1) (fun z => h2 (hA q (Nat.lt_of_lt_of_le h1 hS.1) z))]; exact hS.2.1 q h1 h2, fun q hq => by
      rcases List.mem_append.mp hq with h | h
      · exact hS.2.2 q h
      · exact hf _ (hL q h)⟩⟩
theorem vx_calli {S SX : Type} {post : Int32 → S → Prop} {px : SX → Prop} {B : S → State → Prop} {BX : String → SX → State → Prop} {AX : Nat → Prop} (hr : vx_Run p l e R s m args below meth c H locs cells slots mc ms (F0 m pc ls st0) rest (va_Qi post B A1 a) (vx_X px BX AX) free) (hS : va_S A0 H0 H locs) (hA : ∀ q, q < H.size → A1 q → A0 q) (hf : ∀ q, free q → A0 q) (hAX : ∀ q, q < H.size → AX q → A0 q)
    (kx : ∀ (E : String) (ce : Cell) (q9 : Addr) (u : SX) (t : State) (H1 : Heap) (locs1 : List Loc), t.heap = H1 → s.vm.Alike t.vm → px u → BX E u t → H.size ≤ H1.size → (∀ q : Nat, q < H.size → ¬ AX q → H1[q]? = H[q]?) → va_S A0 H0 H1 locs1 → H1[q9]? = some ce → ce.vm = .none → s.vm.findClass E = some ce.cls → vx_W p l e R s m args below meth c H1 locs1 (cells + mc) (slots + ms) Q (F0 m pc ls rest) q9)
    (kk : ∀ (r : Int32) (u : S) (t : State) (H1 : Heap) (locs1 : List Loc), t.heap = H1 → s.vm.Alike t.vm → post r u → B u t → H.size ≤ H1.size → (∀ q : Nat, q < H.size → ¬ A1 q → H1[q]? = H[q]?) → va_S A0 H0 H1 locs1 → W p l e R s m args below meth c H1 locs1 (cells + mc) (slots + ms) Q (F0 m (pc + 3) ls (.int r :: rest))) : W p l e R s m args below meth c H locs cells slots Q (F0 m pc ls st0) := by
  intro T hT X
  rcases hr T hT X with ⟨v, st₀, t, T', L, h0, X', hL, e1, e2, ⟨⟨r, u, hv, hp, hb⟩, hF⟩, st⟩ | ⟨q, st₀, t, T', L, E, ce, h0, X', hL, e1, e2, ⟨u, hp, hb, hF⟩, hce, hcv, hcl, st⟩
  · cases hv
    obtain ⟨k1, k2, k3⟩ := vx_keep h0 e1 hS hA hf hL hF
    obtain ⟨t2, a1, b1⟩ := kk r u t T'.heap (locs ++ L) e1.symm (by rw [← e2]; exact X'.warmed.alike) hp hb k1 k2 k3 T' rfl X'
    exact ⟨t2, st t2 a1, b1⟩
  · obtain ⟨k1, k2, k3⟩ := vx_keep h0 e1 hS hAX hf hL hF
    obtain ⟨t2, a1, b1⟩ := kx E ce q u t T'.heap (locs ++ L) e1.symm (by rw [← e2]; exact X'.warmed.alike) hp hb k1 k2 k3 (by rw [e1]; exact hce) hcv hcl T' rfl X'
    exact ⟨t2, st.trans a1, b1⟩
theorem vx_calll {S SX : Type} {post : Int64 → S → Prop} {px : SX → Prop} {B : S → State → Prop} {BX : String → SX → State → Prop} {AX : Nat → Prop} (hr : vx_Run p l e R s m args below meth c H locs cells slots mc ms (F0 m pc ls st0) rest (va_Ql post B A1 a) (vx_X px BX AX) free) (hS : va_S A0 H0 H locs) (hA : ∀ q, q < H.size → A1 q → A0 q) (hf : ∀ q, free q → A0 q) (hAX : ∀ q, q < H.size → AX q → A0 q)
    (kx : ∀ (E : String) (ce : Cell) (q9 : Addr) (u : SX) (t : State) (H1 : Heap) (locs1 : List Loc), t.heap = H1 → s.vm.Alike t.vm → px u → BX E u t → H.size ≤ H1.size → (∀ q : Nat, q < H.size → ¬ AX q → H1[q]? = H[q]?) → va_S A0 H0 H1 locs1 → H1[q9]? = some ce → ce.vm = .none → s.vm.findClass E = some ce.cls → vx_W p l e R s m args below meth c H1 locs1 (cells + mc) (slots + ms) Q (F0 m pc ls rest) q9)
    (kk : ∀ (r : Int64) (u : S) (t : State) (H1 : Heap) (locs1 : List Loc), t.heap = H1 → s.vm.Alike t.vm → post r u → B u t → H.size ≤ H1.size → (∀ q : Nat, q < H.size → ¬ A1 q → H1[q]? = H[q]?) → va_S A0 H0 H1 locs1 → W p l e R s m args below meth c H1 locs1 (cells + mc) (slots + ms) Q (F0 m (pc + 3) ls (.long r :: rest))) : W p l e R s m args below meth c H locs cells slots Q (F0 m pc ls st0) := by
  intro T hT X
  rcases hr T hT X with ⟨v, st₀, t, T', L, h0, X', hL, e1, e2, ⟨⟨r, u, hv, hp, hb⟩, hF⟩, st⟩ | ⟨q, st₀, t, T', L, E, ce, h0, X', hL, e1, e2, ⟨u, hp, hb, hF⟩, hce, hcv, hcl, st⟩
  · cases hv
    obtain ⟨k1, k2, k3⟩ := vx_keep h0 e1 hS hA hf hL hF
    obtain ⟨t2, a1, b1⟩ := kk r u t T'.heap (locs ++ L) e1.symm (by rw [← e2]; exact X'.warmed.alike) hp hb k1 k2 k3 T' rfl X'
    exact ⟨t2, st t2 a1, b1⟩
  · obtain ⟨k1, k2, k3⟩ := vx_keep h0 e1 hS hAX hf hL hF
    obtain ⟨t2, a1, b1⟩ := kx E ce q u t T'.heap (locs ++ L) e1.symm (by rw [← e2]; exact X'.warmed.alike) hp hb k1 k2 k3 (by rw [e1]; exact hce) hcv hcl T' rfl X'
    exact ⟨t2, st.trans a1, b1⟩
theorem vx_callf {S SX : Type} {post : UInt32 → S → Prop} {px : SX → Prop} {B : S → State → Prop} {BX : String → SX → State → Prop} {AX : Nat → Prop} (hr : vx_Run p l e R s m args below meth c H locs cells slots mc ms (F0 m pc ls st0) rest (va_Qf post B A1 a) (vx_X px BX AX) free) (hS : va_S A0 H0 H locs) (hA : ∀ q, q < H.size → A1 q → A0 q) (hf : ∀ q, free q → A0 q) (hAX : ∀ q, q < H.size → AX q → A0 q)
    (kx : ∀ (E : String) (ce : Cell) (q9 : Addr) (u : SX) (t : State) (H1 : Heap) (locs1 : List Loc), t.heap = H1 → s.vm.Alike t.vm → px u → BX E u t → H.size ≤ H1.size → (∀ q : Nat, q < H.size → ¬ AX q → H1[q]? = H[q]?) → va_S A0 H0 H1 locs1 → H1[q9]? = some ce → ce.vm = .none → s.vm.findClass E = some ce.cls → vx_W p l e R s m args below meth c H1 locs1 (cells + mc) (slots + ms) Q (F0 m pc ls rest) q9)
    (kk : ∀ (r : UInt32) (u : S) (t : State) (H1 : Heap) (locs1 : List Loc), t.heap = H1 → s.vm.Alike t.vm → post r u → B u t → H.size ≤ H1.size → (∀ q : Nat, q < H.size → ¬ A1 q → H1[q]? = H[q]?) → va_S A0 H0 H1 locs1 → W p l e R s m args below meth c H1 locs1 (cells + mc) (slots + ms) Q (F0 m (pc + 3) ls (.float r :: rest))) : W p l e R s m args below meth c H locs cells slots Q (F0 m pc ls st0) := by
  intro T hT X
  rcases hr T hT X with ⟨v, st₀, t, T', L, h0, X', hL, e1, e2, ⟨⟨r, u, hv, hp, hb⟩, hF⟩, st⟩ | ⟨q, st₀, t, T', L, E, ce, h0, X', hL, e1, e2, ⟨u, hp, hb, hF⟩, hce, hcv, hcl, st⟩
  · cases hv
    obtain ⟨k1, k2, k3⟩ := vx_keep h0 e1 hS hA hf hL hF
    obtain ⟨t2, a1, b1⟩ := kk r u t T'.heap (locs ++ L) e1.symm (by rw [← e2]; exact X'.warmed.alike) hp hb k1 k2 k3 T' rfl X'
    exact ⟨t2, st t2 a1, b1⟩
  · obtain ⟨k1, k2, k3⟩ := vx_keep h0 e1 hS hAX hf hL hF
    obtain ⟨t2, a1, b1⟩ := kx E ce q u t T'.heap (locs ++ L) e1.symm (by rw [← e2]; exact X'.warmed.alike) hp hb k1 k2 k3 (by rw [e1]; exact hce) hcv hcl T' rfl X'
    exact ⟨t2, st.trans a1, b1⟩
theorem vx_calld {S SX : Type} {post : UInt64 → S → Prop} {px : SX → Prop} {B : S → State → Prop} {BX : String → SX → State → Prop} {AX : Nat → Prop} (hr : vx_Run p l e R s m args below meth c H locs cells slots mc ms (F0 m pc ls st0) rest (va_Qd post B A1 a) (vx_X px BX AX) free) (hS : va_S A0 H0 H locs) (hA : ∀ q, q < H.size → A1 q → A0 q) (hf : ∀ q, free q → A0 q) (hAX : ∀ q, q < H.size → AX q → A0 q)
    (kx : ∀ (E : String) (ce : Cell) (q9 : Addr) (u : SX) (t : State) (H1 : Heap) (locs1 : List Loc), t.heap = H1 → s.vm.Alike t.vm → px u → BX E u t → H.size ≤ H1.size → (∀ q : Nat, q < H.size → ¬ AX q → H1[q]? = H[q]?) → va_S A0 H0 H1 locs1 → H1[q9]? = some ce → ce.vm = .none → s.vm.findClass E = some ce.cls → vx_W p l e R s m args below meth c H1 locs1 (cells + mc) (slots + ms) Q (F0 m pc ls rest) q9)
    (kk : ∀ (r : UInt64) (u : S) (t : State) (H1 : Heap) (locs1 : List Loc), t.heap = H1 → s.vm.Alike t.vm → post r u → B u t → H.size ≤ H1.size → (∀ q : Nat, q < H.size → ¬ A1 q → H1[q]? = H[q]?) → va_S A0 H0 H1 locs1 → W p l e R s m args below meth c H1 locs1 (cells + mc) (slots + ms) Q (F0 m (pc + 3) ls (.double r :: rest))) : W p l e R s m args below meth c H locs cells slots Q (F0 m pc ls st0) := by
  intro T hT X
  rcases hr T hT X with ⟨v, st₀, t, T', L, h0, X', hL, e1, e2, ⟨⟨r, u, hv, hp, hb⟩, hF⟩, st⟩ | ⟨q, st₀, t, T', L, E, ce, h0, X', hL, e1, e2, ⟨u, hp, hb, hF⟩, hce, hcv, hcl, st⟩
  · cases hv
    obtain ⟨k1, k2, k3⟩ := vx_keep h0 e1 hS hA hf hL hF
    obtain ⟨t2, a1, b1⟩ := kk r u t T'.heap (locs ++ L) e1.symm (by rw [← e2]; exact X'.warmed.alike) hp hb k1 k2 k3 T' rfl X'
    exact ⟨t2, st t2 a1, b1⟩
  · obtain ⟨k1, k2, k3⟩ := vx_keep h0 e1 hS hAX hf hL hF
    obtain ⟨t2, a1, b1⟩ := kx E ce q u t T'.heap (locs ++ L) e1.symm (by rw [← e2]; exact X'.warmed.alike) hp hb k1 k2 k3 (by rw [e1]; exact hce) hcv hcl T' rfl X'
    exact ⟨t2, st.trans a1, b1⟩
theorem vx_callv {S SX : Type} {post : S → Prop} {px : SX → Prop} {B : S → State → Prop} {BX : String → SX → State → Prop} {AX : Nat → Prop} (hr : vx_Run p l e R s m args below meth c H locs cells slots mc ms (F0 m pc ls st0) rest (va_Qv post B A1 a) (vx_X px BX AX) free) (hS : va_S A0 H0 H locs) (hA : ∀ q, q < H.size → A1 q → A0 q) (hf : ∀ q, free q → A0 q) (hAX : ∀ q, q < H.size → AX q → A0 q)
    (kx : ∀ (E : String) (ce : Cell) (q9 : Addr) (u : SX) (t : State) (H1 : Heap) (locs1 : List Loc), t.heap = H1 → s.vm.Alike t.vm → px u → BX E u t → H.size ≤ H1.size → (∀ q : Nat, q < H.size → ¬ AX q → H1[q]? = H[q]?) → va_S A0 H0 H1 locs1 → H1[q9]? = some ce → ce.vm = .none → s.vm.findClass E = some ce.cls → vx_W p l e R s m args below meth c H1 locs1 (cells + mc) (slots + ms) Q (F0 m pc ls rest) q9)
    (kk : ∀ (u : S) (t : State) (H1 : Heap) (locs1 : List Loc), t.heap = H1 → s.vm.Alike t.vm → post u → B u t → H.size ≤ H1.size → (∀ q : Nat, q < H.size → ¬ A1 q → H1[q]? = H[q]?) → va_S A0 H0 H1 locs1 → W p l e R s m args below meth c H1 locs1 (cells + mc) (slots + ms) Q (F0 m (pc + 3) ls (rest))) : W p l e R s m args below meth c H locs cells slots Q (F0 m pc ls st0) := by
  intro T hT X
  rcases hr T hT X with ⟨v, st₀, t, T', L, h0, X', hL, e1, e2, ⟨⟨u, hv, hp, hb⟩, hF⟩, st⟩ | ⟨q, st₀, t, T', L, E, ce, h0, X', hL, e1, e2, ⟨u, hp, hb, hF⟩, hce, hcv, hcl, st⟩
  · cases hv
    obtain ⟨k1, k2, k3⟩ := vx_keep h0 e1 hS hA hf hL hF
    obtain ⟨t2, a1, b1⟩ := kk u t T'.heap (locs ++ L) e1.symm (by rw [← e2]; exact X'.warmed.alike) hp hb k1 k2 k3 T' rfl X'
    exact ⟨t2, st t2 a1, b1⟩
  · obtain ⟨k1, k2, k3⟩ := vx_keep h0 e1 hS hAX hf hL hF
    obtain ⟨t2, a1, b1⟩ := kx E ce q u t T'.heap (locs ++ L) e1.symm (by rw [← e2]; exact X'.warmed.alike) hp hb k1 k2 k3 (by rw [e1]; exact hce) hcv hcl T' rfl X'
    exact ⟨t2, st.trans a1, b1⟩
/-- caught by the row x of this method's table; the rows ahead don't take it -/
theorem vx_catch {own name : String} {E : String} {ce : Cell} {q : Addr} (hown : s.vm.findClass own = some m.cls) (pre : List ExceptionTableEntry) (x : ExceptionTableEntry) (suf : List ExceptionTableEntry) (hsplit : c.exceptionTable.toList = pre ++ x :: suf)
    (hpass : ∀ z ∈ pre, covers z pc = false ∨ (z.catchType ≠ 0 ∧ ∃ nm : String, (Cond.classLink own z.catchType nm).before args s = true ∧ va_Nc E nm s)) (hx : covers x pc = true) (h0 : x.catchType ≠ 0)
    (hlink : (Cond.classLink own x.catchType name).before args s = true) (hcast : (Cond.castable E name).before args s = true) (hcell : H[q]? = some ce) (hv : ce.vm = .none) (hcl : s.vm.findClass E = some ce.cls)
    (kk : W p l e R s m args below meth c H locs cells slots Q (F0 m x.handlerPc ls [.ref q])) : vx_W p l e R s m args below meth c H locs cells slots Q (F0 m pc ls rest) q := by
  intro T hT X
  have hpl : e.platform.magicAccessors = ({} : Platform).magicAccessors := by rw [X.admits.platform]
  obtain ⟨c3, c4, hc3, hc4, hasg⟩ := Cond.castable_spec hcast
  cases Option.some.inj (hc3.symm.trans hcl)
  obtain ⟨c5, hc5, hcl5⟩ := Cond.classLink_spec hown hlink e.platform hpl
  cases Option.some.inj (hc4.symm.trans hc5)
  obtain ⟨vm', X', st⟩ := X.thenCaughtThrough q (g := F0 m pc ls rest) rfl (Steps.refl _) (by rw [hT]; exact hcell) (by rw [hv]; rfl) (by obtain ⟨k9, h9, -⟩ := Vm.findClass_spec hcl; exact ⟨k9, h9⟩) pre x suf hsplit
    (fun z hz => by
      rcases hpass z hz with h | ⟨hz0, nm, hl1, hn1⟩
      · exact Or.inl h
      · obtain ⟨c6, hc6, hcl6⟩ := Cond.classLink_spec hown hl1 e.platform hpl
        obtain ⟨a8, b8, h1, h2, h3⟩ := hn1
        cases Option.some.inj (h1.symm.trans hcl)
        cases Option.some.inj (h2.symm.trans hc6)
        exact Or.inr ⟨hz0, _, hcl6, h3⟩) hx (Or.inr ⟨h0, c4, hcl5, hasg⟩)
  obtain ⟨t, a1, b1⟩ := kk (T.setVm vm') hT X'
  exact ⟨t, st.trans a1, b1⟩
end Rows
section Ends
variable {p : Program} {l : Launch} {e : Env} {R : Room} {s : State} {m : MethodId} {args : Array Value} {below : List Frame} {meth : Method} {c : Code} {H : Heap} {locs : List Loc} {cells slots : Nat} {Q : State → Prop}
variable {mc ms : Nat} {free : Addr → Prop} {A0 A1 : Nat → Prop} {H0 : Heap} {a : Array Value} {ls : Array Slot} {st0 rest : List Value}
variable {Qc : Array Value → State → Outcome → State → Prop} {XC : String → State → State → Prop}
/-- what a body that may throw owes at its end -/
def vx_MQ (below : List Frame) (Qc : Array Value → State → Outcome → State → Prop) (XC : String → State → State → Prop) (a : Array Value) (s : State) (mc ms : Nat) (free : Addr → Prop) : State → Prop := fun t =>
  ∃ o, t.status = .running ∧ Ended t below o ∧ vx_Q Qc XC mc ms free a s o t
theorem vx_ret {g : JFrame} {mc ms : Nat} (k : W p l e R s m args below meth c H locs cells slots (MQ below Qc args s mc ms free) g) : W p l e R s m args below meth c H locs cells slots (vx_MQ below Qc XC args s mc ms free) g := by
  intro T hT X
  obtain ⟨t, a1, o, b1, b2, b3, b4⟩ := k T hT X
  exact ⟨t, a1, o, b1, b2, Or.inl ⟨b3, b4⟩⟩
/-- not caught here: it goes on to the caller -/
theorem vx_widen {g : JFrame} {q : Addr} {k n : Nat} (h1 : cells ≤ k) (h2 : slots ≤ n) (kk : vx_W p l e R s m args below meth c H locs k n Q g q) : vx_W p l e R s m args below meth c H locs cells slots Q g q := fun T hT X => kk T hT (stand_widen X h1 h2)
theorem vx_out {pc : Nat} {E : String} {ce : Cell} {q : Addr} {mc ms : Nat} (hout : ∀ x ∈ c.exceptionTable.toList, covers x pc = false) (hlocks : meth.locks = false) (hcell : H[q]? = some ce) (hv : ce.vm = .none) (hcl : s.vm.findClass E = some ce.cls)
    (hx : ∀ t : State, t.heap = H → s.vm.Alike t.vm → XC E s t) (hf : ∀ z ∈ locs, free z.base) (hc : cells ≤ mc) (hs : slots ≤ ms) :
    vx_W p l e R s m args below meth c H locs cells slots (vx_MQ below Qc XC args s mc ms free) (F0 m pc ls rest) q := by
  intro T hT X
  obtain ⟨st1, hrun, hend, hW, hsm⟩ := X.leaveThrown q (g := F0 m pc ls rest) rfl rfl rfl hout hlocks
  have hcell9 : (T.setFrames (.throwing q :: below)).heap[q]? = some ce := by
    show T.heap[q]? = some ce
    rw [hT]; exact hcell
  exact ⟨_, st1, .threw q, hrun, hend, Or.inr ⟨q, rfl, E, ce, locs, hx _ hT hW.alike, hcell9, hv, hcl, hW, hsm.mono hc hs, hf⟩⟩
theorem vx_frame {U : State} {k n : Nat} (h : s.sameButNew ({ U with vm := s.vm } : State) locs k n) : s.heap.size ≤ U.heap.size ∧ ∀ q : Nat, q < s.heap.size → (∀ z ∈ locs, z.base ≠ q) → U.heap[q]? = s.heap[q]? := by
  obtain ⟨-, h2, -, -, -, h6⟩ := h
  refine ⟨h2, fun q hq hz => ?_⟩
  obtain ⟨c9, e1, e2, e3, e4⟩ := h6 q _ (Array.getElem?_eq_getElem hq)
  have hs : c9.slots = (s.heap[q]).slots := Array.ext_getElem? fun i => e4 i fun hm => hz _ hm rfl
  have h9 : c9 = s.heap[q] := by
    rw [hs] at e2
    exact e2
  have e5 : U.heap[q]? = some c9 := e1
  rw [e5, h9, Array.getElem?_eq_getElem hq]
/-- the words of a throw but the four that speak of the heap -/
def vx_no (w : Cond) : Bool := decide (w ≠ .isRef (.static Bundle.tN "UNASSIGNED_STACK" Bundle.steD)) && decide (w ≠ .isRef (.static Bundle.tN "SUPPRESSED_SENTINEL" Bundle.listD)) && decide (w ≠ .laysStatic Bundle.tN "UNASSIGNED_STACK" Bundle.steD) && decide (w ≠ .laysStatic Bundle.tN "SUPPRESSED_SENTINEL" Bundle.listD)
def vx_at0 (own : String) (ic : Nat) (X : String) (names : List String) : List Cond := (Bundle.ownAtoms0 own ic X names).filter vx_no
def vx_atS (own : String) (ic : Nat) (X : String) (names : List String) : List Cond := (Bundle.ownAtoms own ic X names).filter vx_no
/-- a word that the tables alone decide, or a good one -/
def vx_ot (w : Cond) : Bool := w.onTables || goodWord w
theorem vx_ot_at {args a' : Array Value} {s U : State} {w : Cond} (hW : s.WarmedH U.vm) (hvm : s.vm = U.vm) (hg : vx_ot w = true) (h : w.before args s = true) : w.before a' U = true := by
  simp only [vx_ot, Bool.or_eq_true] at hg
  rcases hg with hg | hg
  · exact va_tabs hg hvm h
  · exact word_at hW (good_of_word hg) h
/-- a list's words: the good ones out of the method's own list, the others by premises of their own -/
theorem vx_hat {args : Array Value} {s : State} {L B : List Cond} (h1 : ∀ w ∈ L.filter goodWord, w.before args s = true) (h2 : ∀ w ∈ L.filter (fun w => !goodWord w), w ∈ B) (h3 : ∀ w ∈ B, w.before args s = true) : ∀ w ∈ L, w.before args s = true := by
  intro w hw
  by_cases g : goodWord w = true
  · exact h1 w (List.mem_filter.mpr ⟨hw, g⟩)
  · refine h3 w (h2 w (List.mem_filter.mpr ⟨hw, ?_⟩))
    show (!goodWord w) = true
    cases hgw : goodWord w
    · rfl
    · exact absurd hgw g
theorem vx_c {args : Array Value} {s : State} {w : Cond} {B : List Cond} (h : w.before args s = true) (t : ∀ w ∈ B, w.before args s = true) : ∀ w' ∈ w :: B, w'.before args s = true := fun w' h' => (List.mem_cons.mp h').elim (fun e => by rw [e]; exact h) (t w')
theorem vx_n {args : Array Value} {s : State} : ∀ w ∈ ([] : List Cond), w.before args s = true := fun _ h => nomatch h
theorem vx_own {args : Array Value} {s : State} {L : List Cond} (h1 : ∀ w ∈ L.filter vx_no, w.before args s = true)
    (hU : (Cond.isRef (.static Bundle.tN "UNASSIGNED_STACK" Bundle.steD)).before args s = true) (hN : (Cond.isRef (.static Bundle.tN "SUPPRESSED_SENTINEL" Bundle.listD)).before args s = true)
    (lU : (Cond.laysStatic Bundle.tN "UNASSIGNED_STACK" Bundle.steD).before args s = true) (lN : (Cond.laysStatic Bundle.tN "SUPPRESSED_SENTINEL" Bundle.listD).before args s = true) : ∀ w ∈ L, w.before args s = true := by
  intro w hw
  by_cases e1 : w = .isRef (.static Bundle.tN "UNASSIGNED_STACK" Bundle.steD)
  · rw [e1]; exact hU
  · by_cases e2 : w = .isRef (.static Bundle.tN "SUPPRESSED_SENTINEL" Bundle.listD)
    · rw [e2]; exact hN
    · by_cases e3 : w = .laysStatic Bundle.tN "UNASSIGNED_STACK" Bundle.steD
      · rw [e3]; exact lU
      · by_cases e4 : w = .laysStatic Bundle.tN "SUPPRESSED_SENTINEL" Bundle.listD
        · rw [e4]; exact lN
        · exact h1 w (List.mem_filter.mpr ⟨hw, by unfold vx_no; rw [decide_eq_true e1, decide_eq_true e2, decide_eq_true e3, decide_eq_true e4]; rfl⟩)
/-- where a static field lies, its class's statics cell in H -/
def vx_L (C n d : String) (A : Nat → Prop) (U : State) (H : Heap) : Prop := ∃ (c : ClassId) (k : Class) (i : Nat) (f : Field) (a : Nat) (cell : Cell), U.vm.findClass C = some c ∧ U.fieldFound? C n d = some (c, k, i, f) ∧ f.isStatic = true ∧ k.statics = some a ∧ H[a]? = some cell ∧ cell.vm.isStatics = true ∧ cell.cls = c ∧ f.slot < cell.slots.size ∧ k.staticTypes[f.slot]? = some f.type ∧ ¬ A a
theorem vx_L.moved {C n d : String} {A : Nat → Prop} {u U : State} {H : Heap} (hvm : u.vm.Alike U.vm) (h : vx_L C n d A u H) : vx_L C n d A U H := by
  obtain ⟨c, k, i, f, a, cell, h1, h2, h3, h4, h5, h6, h7, h8, h9, h10⟩ := h
  obtain ⟨k', hi', he⟩ := State.fieldFound?_setVm hvm h2
  exact ⟨c, k', i, f, a, cell, by rw [hvm.findClass]; exact h1, hi', h3, by rw [he]; exact h4, h5, h6, h7, h8, by rw [he]; exact h9, h10⟩
theorem vx_L.kept {C n d : String} {A : Nat → Prop} {U : State} {H H1 : Heap} (h : vx_L C n d A U H) (hq : ∀ a : Nat, a < H.size → ¬ A a → H1[a]? = H[a]?) : vx_L C n d A U H1 := by
  obtain ⟨c, k, i, f, a, cell, h1, h2, h3, h4, h5, h6, h7, h8, h9, h10⟩ := h
  exact ⟨c, k, i, f, a, cell, h1, h2, h3, h4, by rw [hq a (Array.getElem?_eq_some_iff.mp h5).1 h10]; exact h5, h6, h7, h8, h9, h10⟩
theorem vx_L.narrow {C n d : String} {A B : Nat → Prop} {U : State} {H : Heap} (h : vx_L C n d A U H) (hAB : ∀ q, B q → A q) : vx_L C n d B U H := by
  obtain ⟨c, k, i, f, a, cell, h1, h2, h3, h4, h5, h6, h7, h8, h9, h10⟩ := h
  exact ⟨c, k, i, f, a, cell, h1, h2, h3, h4, h5, h6, h7, h8, h9, fun z => h10 (hAB _ z)⟩
theorem vx_L.word {C n d : String} {A : Nat → Prop} {s : State} {args : Array Value} (h : vx_L C n d A s s.heap) : (Cond.laysStatic C n d).before args s = true := by
  obtain ⟨c, k, i, f, a, cell, h1, h2, h3, h4, h5, h6, h7, h8, h9, -⟩ := h
  show (Cond.laysStatic C n d).holds args s none s [] = true
  exact Cond.laysStatic_of h1 h2 h3 h4 h5 h6 h7 h8 h9
/-- .. and what it holds: null or some reference -/
def vx_Zq (C n d : String) (A : Nat → Prop) (U : State) (H : Heap) : Prop := va_Zq C n d A U H ∧ vx_L C n d A U H
theorem vx_Zq.moved {C n d : String} {A : Nat → Prop} {u U : State} {H : Heap} (hvm : u.vm.Alike U.vm) (h : vx_Zq C n d A u H) : vx_Zq C n d A U H := ⟨va_Zq.moved hvm h.1, vx_L.moved hvm h.2⟩
theorem vx_Zq.kept {C n d : String} {A : Nat → Prop} {U : State} {H H1 : Heap} (h : vx_Zq C n d A U H) (hq : ∀ a : Nat, a < H.size → ¬ A a → H1[a]? = H[a]?) : vx_Zq C n d A U H1 := ⟨va_Zq.kept h.1 hq, vx_L.kept h.2 hq⟩
theorem vx_Zq.narrow {C n d : String} {A B : Nat → Prop} {U : State} {H : Heap} (h : vx_Zq C n d A U H) (hAB : ∀ q, B q → A q) : vx_Zq C n d B U H := ⟨va_Zq.narrow h.1 hAB, vx_L.narrow h.2 hAB⟩
theorem vx_Zqof {args : Array Value} {s : State} {C n d : String} {A : Nat → Prop} (hl : (Cond.laysStatic C n d).before args s = true) (hini : (Cond.initialized C).before args s = true) (h : (Cond.isRef (.static C n d)).before args s = true) (hA : ∀ a : Nat, a < s.heap.size → ¬ A a) : vx_Zq C n d A s s.heap := by
  refine ⟨va_Zqof hl hini h hA, ?_⟩
  obtain ⟨c, k, i, f, a, cell, h1, h2, h3, h4, h5, h6, h7, h8, h9⟩ := Cond.laysStatic_spec hl
  exact ⟨c, k, i, f, a, cell, h1, h2, h3, h4, h5, h6, h7, h8, h9, hA a (Array.getElem?_eq_some_iff.mp h5).1⟩
theorem vx_isRef {C n d : String} {v : Value} {A : Nat → Prop} {s : State} {args : Array Value} (h : va_Z C n d v A s s.heap) (hv : v.isRef = true) : (Cond.isRef (.static C n d)).before args s = true := by
  obtain ⟨cf, kf, fi, f, a, cell, h1, h2, h3, h4, h5, h6, h7, -⟩ := h
  have he : (Term.static C n d).eval args s none [] s = some v := by
    simp [Term.eval, State.fieldNamed?, h1, h2, h4, h5, h6, h7]
  simp only [Cond.before, Cond.holds, Cond.value, he]
  cases v <;> simp_all [Value.isRef]
theorem vx_isRefq {C n d : String} {A : Nat → Prop} {s : State} {args : Array Value} (h : va_Zq C n d A s s.heap) : (Cond.isRef (.static C n d)).before args s = true := by
  rcases h with h | ⟨t, h⟩
  · exact vx_isRef h rfl
  · exact vx_isRef h rfl
/-- the same frame, seen from here: as if the method were called anew in this heap -/
theorem vx_rebase {T : State} (X : Stand p l e R s m args below meth c T locs cells slots) {R' : Room} (hf : R'.frames ≤ R.frames) (hl : R'.locals ≤ R.locals) (hc : cells + R'.cells ≤ R.cells) (hs : slots + R'.slots ≤ R.slots) :
    Stand p l e R' ((T.setVm s.vm).setFrames (.invoking m args :: below)) m args below meth c T [] 0 0 := by
  have htop : (T.setVm s.vm).topJava?.isSome := X.here.top
  have hF : ((T.setVm s.vm).setFrames (.invoking m args :: below)).frames = .invoking m args :: below := State.frames_setFrames _ (State.cur_lt_of_top htop)
  obtain ⟨g₀, hg0⟩ := Option.isSome_iff_exists.mp htop
  obtain ⟨r, hr⟩ := State.topJava?_eq_some.mp hg0
  have hl9 : e.platform.stackLimits (T.setVm s.vm).me = e.platform.stackLimits s.me := X.limits
  have hb9 : (T.setVm s.vm).me.stackBytes = s.me.stackBytes := X.bytes
  refine ⟨X.admits, X.cas, X.clock, hF, ?_, X.hears, X.method, X.code, X.here, X.tail, X.warmed, ?_, ?_, ?_⟩
  · have h := X.room
    have hU : ((T.setVm s.vm).setFrames (.invoking m args :: below)).localsInUse = s.localsInUse := by
      rw [State.localsInUse_invoking hF (meth := meth) (c := c) X.method X.code, State.localsInUse_invoking X.frames X.method X.code]
    simp only [State.hasRoom, Bool.and_eq_true, decide_eq_true_eq] at h ⊢
    obtain ⟨⟨⟨⟨h1, h2, h3, h4, h5, h6⟩, h7⟩, h8⟩, h9⟩ := h
    rw [X.frames, List.length_cons] at h2 h3
    have q1 := X.heapSize
    have q2 := X.used
    simp only [hF, hU, List.length_cons, State.stackLimits_setFrames, State.stackBytes_setFrames, hl9, hb9]
    refine ⟨⟨⟨⟨by omega, by omega, by omega, by omega, by omega, h6⟩, ?_⟩, ?_⟩, X.book⟩
    · show T.heap.size + R'.cells ≤ e.platform.maxCells
      omega
    · show T.slotsUsed + R'.slots ≤ e.platform.maxSlots
      omega
  · rw [State.stackLimits_setFrames]; rfl
  · rw [State.stackBytes_setFrames]; rfl
  · refine ⟨?_, Nat.le_refl _, Nat.le_refl _, ?_, ?_, fun a c9 h9 => ⟨c9, h9, rfl, rfl, fun _ _ => rfl⟩⟩
    · obtain ⟨t, ht, -⟩ := State.frames_cons hr
      show T.setVm s.vm = { ((T.setVm s.vm).setFrames (.invoking m args :: below)).setFrames (T.setVm s.vm).frames with heap := T.heap, slotsUsed := T.slotsUsed }
      rw [State.setFrames_setFrames, State.setFrames_self ht]
      rfl
    · show T.slotsUsed = T.slotsUsed + ((T.heap.toList.drop T.heap.size).map (·.slots.size)).sum
      rw [List.drop_eq_nil_of_le (Nat.le_of_eq Array.length_toList)]
      rfl
    · show ((T.heap.toList.drop T.heap.size).map (·.slots.size)).sum ≤ 0
      rw [List.drop_eq_nil_of_le (Nat.le_of_eq Array.length_toList)]
      exact Nat.le_refl _
/-- 'throw new E()': new; dup; invokespecial; athrow -/
theorem vx_throw0 {cc : ByteArray} {pc : Nat} (hexec : p.tables.exec = Jvm.exec) (hb : c.code = cc) (hl : l.stackTraces = false) {own cls : String} {names : List String} {ik ic mc ms : Nat} {A : Nat → Prop}
    (hown : s.vm.findClass own = some m.cls) (hcls : Bundle.fit cls = true) (hnames : ∀ n ∈ names, Bundle.fit n = true)
    (hk : (Cond.classLink own ik cls).before args s = true) (hini : (Cond.initialized cls).before args s = true) (hat : ∀ w ∈ vx_at0 own ic cls names, w.before args s = true)
    (hgood : ∀ w ∈ Cond.classLink own ik cls :: Cond.initialized cls :: vx_at0 own ic cls names, vx_ot w = true)
    (hU : vx_Zq Bundle.tN "UNASSIGNED_STACK" Bundle.steD A s s.heap) (hN : vx_Zq Bundle.tN "SUPPRESSED_SENTINEL" Bundle.listD A s s.heap) (hS : va_S A s.heap H locs) (hsize : ls.size = c.maxLocals)
    (d0 : decode cc pc = .ok (.new ik, 3)) (d3 : decode cc (pc + 3) = .ok (.dup, 1)) (d4 : decode cc (pc + 4) = .ok (.invokespecial ic, 3)) (d7 : decode cc (pc + 7) = .ok (.athrow, 1))
    (hout : ∀ x ∈ c.exceptionTable.toList, covers x (pc + 7) = false)
    (hRframes : names.length + 3 < R.frames) (hRlocals : (rest.map fun v => v.category).sum + (13 * (names.length + 1) + 42) ≤ R.locals) (hRcells : cells + 1 ≤ R.cells) (hRslots : slots + 6 ≤ R.slots) (hlocks : meth.locks = false)
    (hx : ∀ t : State, s.vm.Alike t.vm → H.size ≤ t.heap.size → (∀ q : Nat, q < H.size → t.heap[q]? = H[q]?) → XC cls s t)
    (hf : ∀ z ∈ locs, free z.base) (hc : cells + 1 ≤ mc) (hs : slots + 6 ≤ ms) :
    W p l e R s m args below meth c H locs cells slots (vx_MQ below Qc XC args s mc ms free) (F0 m pc ls rest) := by
  intro T hT X
  have htr : e.platform.stackTraces = false := (show e.platform.stackTraces = l.stackTraces by rw [X.admits.platform]).trans hl
  have Y := vx_rebase X (R' := { frames := R.frames, locals := R.locals, cells := 1, slots := 6 }) (Nat.le_refl _) (Nat.le_refl _) hRcells hRslots
  obtain ⟨s', hA⟩ : ∃ z, z = (T.setVm s.vm).setFrames (.invoking m args :: below) := ⟨_, rfl⟩
  rw [← hA] at Y
  have hvm : s'.vm = s.vm := by rw [hA]; rfl
  have hhp : s'.heap = H := by rw [hA]; exact hT
  have hW0 : s.WarmedH s'.vm := by rw [hvm]; exact State.WarmedH.refl s
  have hat' : ∀ w ∈ vx_at0 own ic cls names, w.before args s' = true := fun w hw => vx_ot_at hW0 hvm.symm (hgood w (List.mem_cons_of_mem _ (List.mem_cons_of_mem _ hw))) (hat w hw)
  have hk' : (Cond.classLink own ik cls).before args s' = true := vx_ot_at hW0 hvm.symm (hgood _ List.mem_cons_self) hk
  have hini' : (Cond.initialized cls).before args s' = true := vx_ot_at hW0 hvm.symm (hgood _ (List.mem_cons_of_mem _ List.mem_cons_self)) hini
  have hU' : vx_Zq Bundle.tN "UNASSIGNED_STACK" Bundle.steD A s' s'.heap := by rw [hhp]; exact vx_Zq.moved hW0.alike (hU.kept hS.2.1)
  have hN' : vx_Zq Bundle.tN "SUPPRESSED_SENTINEL" Bundle.listD A s' s'.heap := by rw [hhp]; exact vx_Zq.moved hW0.alike (hN.kept hS.2.1)
  have h : ∀ w ∈ Bundle.ownAtoms0 own ic cls names, w.before args s' = true := vx_own hat' (vx_isRefq hU'.1) (vx_isRefq hN'.1) hU'.2.word hN'.2.word
  have hown' : s'.vm.findClass own = some m.cls := by rw [hvm]; exact hown
  have hins : (Cond.instantiable cls 6).before args s' = true := h _ (by simp [Bundle.ownAtoms0])
  obtain ⟨vm₁, cX, kX, hfX, hkX, -, -, X₁, st1⟩ := Y.newCold hexec (own := own) (C := cls) (index := ik) (n := 6) hown' hk' hins hini'
    (g := F0 m pc ls rest) rfl (by rw [hb]; exact d0) (Nat.le_refl _) (Nat.le_refl _)
  generalize hT1 : (T.setVm vm₁).pushCell { cls := cX, slots := kX.instanceTypes.map defaultValue, vm := .none } = T1 at X₁ st1
  have hcat : (Value.ref T.heap.size).category = 1 := rfl
  have hcellA : T1.heap[T.heap.size]? = some (freshCell cX kX) := by rw [← hT1]; exact State.heap_pushCell_size _ _
  have d3' : decode c.code (pc + 3) = .ok (.dup, 1) := by rw [hb]; exact d3
  obtain ⟨U, hsteps, hrun, hend, hW, hsame, ce, hce, hO⟩ := X₁.ctorThrow0 hexec htr (own := own) (cls := cls) (names := names) (ic := ic) hown' hcls hnames h (fun x hx => nomatch hx) hfX hkX hcellA (by rw [hhp, hT]; exact Nat.le_refl _)
    (g := { method := m, pc := pc + 4, locals := ls, stack := .ref T.heap.size :: .ref T.heap.size :: rest, locked := none }) rfl hsize rfl rfl (rest := rest) rfl
    (by rw [hb]; exact d4) (by rw [hb]; exact d7) hout hRframes (by simp only [List.map_cons, List.sum_cons, hcat]; omega) hlocks
  obtain ⟨f1, f2⟩ := vx_frame hsame
  rw [hhp] at f1 f2
  have hWs : s.WarmedH U.vm := State.WarmedH.trans hW0 hW
  have hcl : s.vm.findClass cls = some ce.cls := by
    have h9 := hO.cls
    rw [hvm] at h9
    exact h9
  have hall : s.sameButNew ({ U with vm := s.vm } : State) locs mc ms := by
    subst hA
    obtain ⟨e1, e2⟩ := hsame
    rw [State.setFrames_setFrames] at e1
    have h2 : (T.setVm s.vm).sameButNew ({ U with vm := s.vm } : State) [] (0 + 1) (0 + 6) := ⟨e1, e2⟩
    have h3 := X.same.trans h2
    rw [List.append_nil] at h3
    exact h3.mono hc hs
  refine ⟨U, ?_, .threw T.heap.size, hrun, hend, Or.inr ⟨T.heap.size, rfl, cls, ce, locs, hx U hWs.alike f1 (fun q hq => f2 q hq (fun z hz => nomatch hz)), hce, hO.vm, hcl, hWs, hall, hf⟩⟩
  refine st1 _ ?_
  show Steps p.tables e below (T1.setTop { method := m, pc := pc + 3, locals := ls, stack := .ref T.heap.size :: rest, locked := none }) _
  jvm_step X₁.here [X₁.here.top, hexec, d3', Value.category]
  exact hsteps
/-- 'throw new E("text")': new; dup; ldc; invokespecial; athrow -/
theorem vx_throwS {cc : ByteArray} {pc : Nat} (hexec : p.tables.exec = Jvm.exec) (hb : c.code = cc) (hl : l.stackTraces = false) {own cls text : String} {names : List String} {ik is ic mc ms sa : Nat} {A : Nat → Prop}
    (hown : s.vm.findClass own = some m.cls) (hcls : Bundle.fit cls = true) (hnames : ∀ n ∈ names, Bundle.fit n = true)
    (hk : (Cond.classLink own ik cls).before args s = true) (hini : (Cond.initialized cls).before args s = true) (hstr : vk_R own is text sa s) (hat : ∀ w ∈ vx_atS own ic cls names, w.before args s = true)
    (hgood : ∀ w ∈ Cond.classLink own ik cls :: Cond.initialized cls :: vx_atS own ic cls names, vx_ot w = true)
    (hU : vx_Zq Bundle.tN "UNASSIGNED_STACK" Bundle.steD A s s.heap) (hN : vx_Zq Bundle.tN "SUPPRESSED_SENTINEL" Bundle.listD A s s.heap) (hS : va_S A s.heap H locs) (hsize : ls.size = c.maxLocals)
    (d0 : decode cc pc = .ok (.new ik, 3)) (d3 : decode cc (pc + 3) = .ok (.dup, 1)) (d4 : decode cc (pc + 4) = .ok (.ldc is, 2)) (d6 : decode cc (pc + 6) = .ok (.invokespecial ic, 3)) (d9 : decode cc (pc + 9) = .ok (.athrow, 1))
    (hout : ∀ x ∈ c.exceptionTable.toList, covers x (pc + 9) = false)
    (hRframes : names.length + 3 < R.frames) (hRlocals : (rest.map fun v => v.category).sum + (13 * (names.length + 1) + 43) ≤ R.locals) (hRcells : cells + 1 ≤ R.cells) (hRslots : slots + 6 ≤ R.slots) (hlocks : meth.locks = false)
    (hx : ∀ t : State, s.vm.Alike t.vm → H.size ≤ t.heap.size → (∀ q : Nat, q < H.size → t.heap[q]? = H[q]?) → XC cls s t)
    (hf : ∀ z ∈ locs, free z.base) (hc : cells + 1 ≤ mc) (hs : slots + 6 ≤ ms) :
    W p l e R s m args below meth c H locs cells slots (vx_MQ below Qc XC args s mc ms free) (F0 m pc ls rest) := by
  intro T hT X
  have htr : e.platform.stackTraces = false := (show e.platform.stackTraces = l.stackTraces by rw [X.admits.platform]).trans hl
  have Y := vx_rebase X (R' := { frames := R.frames, locals := R.locals, cells := 1, slots := 6 }) (Nat.le_refl _) (Nat.le_refl _) hRcells hRslots
  obtain ⟨s', hA⟩ : ∃ z, z = (T.setVm s.vm).setFrames (.invoking m args :: below) := ⟨_, rfl⟩
  rw [← hA] at Y
  have hvm : s'.vm = s.vm := by rw [hA]; rfl
  have hhp : s'.heap = H := by rw [hA]; exact hT
  have hW0 : s.WarmedH s'.vm := by rw [hvm]; exact State.WarmedH.refl s
  have hat' : ∀ w ∈ vx_atS own ic cls names, w.before args s' = true := fun w hw => vx_ot_at hW0 hvm.symm (hgood w (List.mem_cons_of_mem _ (List.mem_cons_of_mem _ hw))) (hat w hw)
  have hk' : (Cond.classLink own ik cls).before args s' = true := vx_ot_at hW0 hvm.symm (hgood _ List.mem_cons_self) hk
  have hini' : (Cond.initialized cls).before args s' = true := vx_ot_at hW0 hvm.symm (hgood _ (List.mem_cons_of_mem _ List.mem_cons_self)) hini
  have hU' : vx_Zq Bundle.tN "UNASSIGNED_STACK" Bundle.steD A s' s'.heap := by rw [hhp]; exact vx_Zq.moved hW0.alike (hU.kept hS.2.1)
  have hN' : vx_Zq Bundle.tN "SUPPRESSED_SENTINEL" Bundle.listD A s' s'.heap := by rw [hhp]; exact vx_Zq.moved hW0.alike (hN.kept hS.2.1)
  have h : ∀ w ∈ Bundle.ownAtoms own ic cls names, w.before args s' = true := vx_own hat' (vx_isRefq hU'.1) (vx_isRefq hN'.1) hU'.2.word hN'.2.word
  have hown' : s'.vm.findClass own = some m.cls := by rw [hvm]; exact hown
  have hins : (Cond.instantiable cls 6).before args s' = true := h _ (by simp [Bundle.ownAtoms])
  obtain ⟨vm₁, cX, kX, hfX, hkX, -, -, X₁, st1⟩ := Y.newCold hexec (own := own) (C := cls) (index := ik) (n := 6) hown' hk' hins hini'
    (g := F0 m pc ls rest) rfl (by rw [hb]; exact d0) (Nat.le_refl _) (Nat.le_refl _)
  generalize hT1 : (T.setVm vm₁).pushCell { cls := cX, slots := kX.instanceTypes.map defaultValue, vm := .none } = T1 at X₁ st1
  have hcat : (Value.ref T.heap.size).category = 1 := rfl
  have hcellA : T1.heap[T.heap.size]? = some (freshCell cX kX) := by rw [← hT1]; exact State.heap_pushCell_size _ _
  have d3' : decode c.code (pc + 3) = .ok (.dup, 1) := by rw [hb]; exact d3
  have d4' : decode c.code (pc + 4) = .ok (.ldc is, 2) := by rw [hb]; exact d4
  have hstr' : vk_R own is text sa s' := vk_R.warm hW0 hstr
  obtain ⟨U, hsteps, hrun, hend, hW, hsame, ce, hce, hO⟩ := X₁.ctorThrowS hexec htr (own := own) (cls := cls) (names := names) (ic := ic) hown' hcls hnames h (fun x hx => nomatch hx) hfX hkX hcellA (by rw [hhp, hT]; exact Nat.le_refl _) (msg := .ref sa) rfl
    (g := { method := m, pc := pc + 6, locals := ls, stack := .ref sa :: .ref T.heap.size :: .ref T.heap.size :: rest, locked := none }) rfl hsize rfl rfl (rest := rest) rfl
    (by rw [hb]; exact d6) (by rw [hb]; exact d9) hout hRframes (by simp only [List.map_cons, List.sum_cons, hcat]; omega) hlocks
  obtain ⟨f1, f2⟩ := vx_frame hsame
  rw [hhp] at f1 f2
  have hWs : s.WarmedH U.vm := State.WarmedH.trans hW0 hW
  have hcl : s.vm.findClass cls = some ce.cls := by
    have h9 := hO.cls
    rw [hvm] at h9
    exact h9
  have hall : s.sameButNew ({ U with vm := s.vm } : State) locs mc ms := by
    subst hA
    obtain ⟨e1, e2⟩ := hsame
    rw [State.setFrames_setFrames] at e1
    have h2 : (T.setVm s.vm).sameButNew ({ U with vm := s.vm } : State) [] (0 + 1) (0 + 6) := ⟨e1, e2⟩
    have h3 := X.same.trans h2
    rw [List.append_nil] at h3
    exact h3.mono hc hs
  refine ⟨U, ?_, .threw T.heap.size, hrun, hend, Or.inr ⟨T.heap.size, rfl, cls, ce, locs, hx U hWs.alike f1 (fun q hq => f2 q hq (fun z hz => nomatch hz)), hce, hO.vm, hcl, hWs, hall, hf⟩⟩
  refine st1 _ ?_
  show Steps p.tables e below (T1.setTop { method := m, pc := pc + 3, locals := ls, stack := .ref T.heap.size :: rest, locked := none }) _
  jvm_step X₁.here [X₁.here.top, hexec, d3', Value.category]
  exact X₁.ldcString hexec (own := own) (text := text) (index := is) (a := sa) hown' hstr'.1 hstr'.2
    (g := { method := m, pc := pc + 4, locals := ls, stack := .ref T.heap.size :: .ref T.heap.size :: rest, locked := none }) rfl d4' _ hsteps
/-- 'throw new E("text")', the text by a wide index -/
theorem vx_throwSW {cc : ByteArray} {pc : Nat} (hexec : p.tables.exec = Jvm.exec) (hb : c.code = cc) (hl : l.stackTraces = false) {own cls text : String} {names : List String} {ik is ic mc ms sa : Nat} {A : Nat → Prop}
    (hown : s.vm.findClass own = some m.cls) (hcls : Bundle.fit cls = true) (hnames : ∀ n ∈ names, Bundle.fit n = true)
    (hk : (Cond.classLink own ik cls).before args s = true) (hini : (Cond.initialized cls).before args s = true) (hstr : vk_R own is text sa s) (hat : ∀ w ∈ vx_atS own ic cls names, w.before args s = true)
    (hgood : ∀ w ∈ Cond.classLink own ik cls :: Cond.initialized cls :: vx_atS own ic cls names, vx_ot w = true)
    (hU : vx_Zq Bundle.tN "UNASSIGNED_STACK" Bundle.steD A s s.heap) (hN : vx_Zq Bundle.tN "SUPPRESSED_SENTINEL" Bundle.listD A s s.heap) (hS : va_S A s.heap H locs) (hsize : ls.size = c.maxLocals)
    (d0 : decode cc pc = .ok (.new ik, 3)) (d3 : decode cc (pc + 3) = .ok (.dup, 1)) (d4 : decode cc (pc + 4) = .ok (.ldc_w is, 3)) (d7 : decode cc (pc + 7) = .ok (.invokespecial ic, 3)) (d10 : decode cc (pc + 10) = .ok (.athrow, 1))
    (hout : ∀ x ∈ c.exceptionTable.toList, covers x (pc + 10) = false)
    (hRframes : names.length + 3 < R.frames) (hRlocals : (rest.map fun v => v.category).sum + (13 * (names.length + 1) + 43) ≤ R.locals) (hRcells : cells + 1 ≤ R.cells) (hRslots : slots + 6 ≤ R.slots) (hlocks : meth.locks = false)
    (hx : ∀ t : State, s.vm.Alike t.vm → H.size ≤ t.heap.size → (∀ q : Nat, q < H.size → t.heap[q]? = H[q]?) → XC cls s t)
    (hf : ∀ z ∈ locs, free z.base) (hc : cells + 1 ≤ mc) (hs : slots + 6 ≤ ms) :
    W p l e R s m args below meth c H locs cells slots (vx_MQ below Qc XC args s mc ms free) (F0 m pc ls rest) := by
  intro T hT X
  have htr : e.platform.stackTraces = false := (show e.platform.stackTraces = l.stackTraces by rw [X.admits.platform]).trans hl
  have Y := vx_rebase X (R' := { frames := R.frames, locals := R.locals, cells := 1, slots := 6 }) (Nat.le_refl _) (Nat.le_refl _) hRcells hRslots
  obtain ⟨s', hA⟩ : ∃ z, z = (T.setVm s.vm).setFrames (.invoking m args :: below) := ⟨_, rfl⟩
  rw [← hA] at Y
  have hvm : s'.vm = s.vm := by rw [hA]; rfl
  have hhp : s'.heap = H := by rw [hA]; exact hT
  have hW0 : s.WarmedH s'.vm := by rw [hvm]; exact State.WarmedH.refl s
  have hat' : ∀ w ∈ vx_atS own ic cls names, w.before args s' = true := fun w hw => vx_ot_at hW0 hvm.symm (hgood w (List.mem_cons_of_mem _ (List.mem_cons_of_mem _ hw))) (hat w hw)
  have hk' : (Cond.classLink own ik cls).before args s' = true := vx_ot_at hW0 hvm.symm (hgood _ List.mem_cons_self) hk
  have hini' : (Cond.initialized cls).before args s' = true := vx_ot_at hW0 hvm.symm (hgood _ (List.mem_cons_of_mem _ List.mem_cons_self)) hini
  have hU' : vx_Zq Bundle.tN "UNASSIGNED_STACK" Bundle.steD A s' s'.heap := by rw [hhp]; exact vx_Zq.moved hW0.alike (hU.kept hS.2.1)
  have hN' : vx_Zq Bundle.tN "SUPPRESSED_SENTINEL" Bundle.listD A s' s'.heap := by rw [hhp]; exact vx_Zq.moved hW0.alike (hN.kept hS.2.1)
  have h : ∀ w ∈ Bundle.ownAtoms own ic cls names, w.before args s' = true := vx_own hat' (vx_isRefq hU'.1) (vx_isRefq hN'.1) hU'.2.word hN'.2.word
  have hown' : s'.vm.findClass own = some m.cls := by rw [hvm]; exact hown
  have hins : (Cond.instantiable cls 6).before args s' = true := h _ (by simp [Bundle.ownAtoms])
  obtain ⟨vm₁, cX, kX, hfX, hkX, -, -, X₁, st1⟩ := Y.newCold hexec (own := own) (C := cls) (index := ik) (n := 6) hown' hk' hins hini'
    (g := F0 m pc ls rest) rfl (by rw [hb]; exact d0) (Nat.le_refl _) (Nat.le_refl _)
  generalize hT1 : (T.setVm vm₁).pushCell { cls := cX, slots := kX.instanceTypes.map defaultValue, vm := .none } = T1 at X₁ st1
  have hcat : (Value.ref T.heap.size).category = 1 := rfl
  have hcellA : T1.heap[T.heap.size]? = some (freshCell cX kX) := by rw [← hT1]; exact State.heap_pushCell_size _ _
  have d3' : decode c.code (pc + 3) = .ok (.dup, 1) := by rw [hb]; exact d3
  have d4' : decode c.code (pc + 4) = .ok (.ldc_w is, 3) := by rw [hb]; exact d4
  have hstr' : vk_R own is text sa s' := vk_R.warm hW0 hstr
  obtain ⟨U, hsteps, hrun, hend, hW, hsame, ce, hce, hO⟩ := X₁.ctorThrowS hexec htr (own := own) (cls := cls) (names := names) (ic := ic) hown' hcls hnames h (fun x hx => nomatch hx) hfX hkX hcellA (by rw [hhp, hT]; exact Nat.le_refl _) (msg := .ref sa) rfl
    (g := { method := m, pc := pc + 7, locals := ls, stack := .ref sa :: .ref T.heap.size :: .ref T.heap.size :: rest, locked := none }) rfl hsize rfl rfl (rest := rest) rfl
    (by rw [hb]; exact d7) (by rw [hb]; exact d10) hout hRframes (by simp only [List.map_cons, List.sum_cons, hcat]; omega) hlocks
  obtain ⟨f1, f2⟩ := vx_frame hsame
  rw [hhp] at f1 f2
  have hWs : s.WarmedH U.vm := State.WarmedH.trans hW0 hW
  have hcl : s.vm.findClass cls = some ce.cls := by
    have h9 := hO.cls
    rw [hvm] at h9
    exact h9
  have hall : s.sameButNew ({ U with vm := s.vm } : State) locs mc ms := by
    subst hA
    obtain ⟨e1, e2⟩ := hsame
    rw [State.setFrames_setFrames] at e1
    have h2 : (T.setVm s.vm).sameButNew ({ U with vm := s.vm } : State) [] (0 + 1) (0 + 6) := ⟨e1, e2⟩
    have h3 := X.same.trans h2
    rw [List.append_nil] at h3
    exact h3.mono hc hs
  refine ⟨U, ?_, .threw T.heap.size, hrun, hend, Or.inr ⟨T.heap.size, rfl, cls, ce, locs, hx U hWs.alike f1 (fun q hq => f2 q hq (fun z hz => nomatch hz)), hce, hO.vm, hcl, hWs, hall, hf⟩⟩
  refine st1 _ ?_
  show Steps p.tables e below (T1.setTop { method := m, pc := pc + 3, locals := ls, stack := .ref T.heap.size :: rest, locked := none }) _
  jvm_step X₁.here [X₁.here.top, hexec, d3', Value.category]
  exact X₁.ldcStringW hexec (own := own) (text := text) (index := is) (a := sa) hown' hstr'.1 hstr'.2
    (g := { method := m, pc := pc + 4, locals := ls, stack := .ref T.heap.size :: .ref T.heap.size :: rest, locked := none }) rfl d4' _ hsteps
end Ends
section Bodies
variable {l : Launch}
theorem vx_ofW {y : MethodName} {ws ws' : List Cond} {rm : Room} {Pc : Array Value → State → Prop} {Qc : Array Value → State → Outcome → State → Prop} {XC : String → State → State → Prop} {mc ms : Nat} {free : Addr → Prop} {cc : ByteArray} {maxL : Nat} {ret : Option FieldType}
    (hy : plainName y.cls = true) (hw : ws = Cond.code y cc maxL ret :: ws')
    (body : ∀ p e s m args below meth c s₁, BodyLoose p l y (headSpec ws rm) cc maxL ret e s m args below meth c s₁ → c.maxLocals = maxL → (∀ x ∈ c.exceptionTable.toList, False) → Pc args s →
      W p l e (headSpec ws rm).room s m args below meth c s.heap [] 0 0 (vx_MQ below Qc XC args s mc ms free) (entryFrame m args maxL)) : vx_Met l y ws rm Pc Qc XC mc ms free := by
  refine MetFree.of_bodyS (code := cc) (maxLocals := maxL) (ret := ret) hy ?_ ?_
  · intro args s m h hn
    obtain ⟨meth, c, h1, h2, h3, h4, h5, h6, -, -⟩ := Cond.code_spec hn (atoms_spec (ws := ws) h _ (by rw [hw]; exact List.mem_cons_self))
    exact ⟨meth, c, h1, h2, h3, h4, h5, h6⟩
  · intro p e s m args below meth c s₁ B hml hP _
    have hh0 : s₁.heap = s.heap := by rw [B.state]; rfl
    have ht : ∀ x ∈ c.exceptionTable.toList, False := by
      obtain ⟨meth9, c9, h1, h2, -, -, -, -, h7, -⟩ := Cond.code_spec B.named (atoms_spec (ws := ws) B.pre _ (by rw [hw]; exact List.mem_cons_self))
      cases Option.some.inj (h1.symm.trans B.method)
      cases Option.some.inj (h2.symm.trans (Stand.of_body B).code)
      intro x hx
      rw [Array.isEmpty_iff.mp h7] at hx
      cases hx
    obtain ⟨t, a1, o, b1, b2, b3⟩ := body p e s m args below meth c s₁ B hml ht hP s₁ hh0 (Stand.of_body B)
    exact ⟨t, o, a1, b1, b2, b3⟩
/-- the table of a body with handlers -/
theorem vx_table {p : Program} {x y : MethodName} {S : Spec} {cc bytes : ByteArray} {maxL maxL' : Nat} {ret ret' : Option FieldType} {e : Env} {s s₁ : State} {m : MethodId} {args : Array Value} {below : List Frame} {meth : Method} {c : Code} {hh : List (Nat × Nat × Nat × Nat)}
    (B : BodyLoose p l y S cc maxL ret e s m args below meth c s₁) (h : (Cond.codeWith y bytes maxL' ret' hh).before args s = true) : c.exceptionTable.toList = tableOf hh := by
  obtain ⟨m9, meth9, c9, hn9, h1, h2, -, -, h6, -⟩ := Cond.codeWith_spec h
  cases Option.some.inj (hn9.symm.trans B.named)
  cases Option.some.inj (h1.symm.trans B.method)
  cases Option.some.inj (h2.symm.trans (Stand.of_body B).code)
  rw [← h6, table_eq]
end Bodies
end VXA
/-! ===== END ===== -/
/-! ===== BEGIN a static call of a method with an exception table ===== -/
section VXS
variable {p : Program} {l : Launch} {e : Env} {R : Room} {s : State} {m : MethodId} {args : Array Value} {below : List Frame} {meth : Method} {c : Code} {T : State} {H : Heap} {locs : List Loc} {cells slots : Nat}
abbrev vx_CSW (R : Room) (s : State) (args : Array Value) (own : String) (index : Nat) (y : MethodName) (bytes : ByteArray) (maxL : Nat) (ret : Option FieldType) (hh : List (Nat × Nat × Nat × Nat)) (ws : List Cond) (rm : Room) (mc ms n : Nat) : Prop :=
  (rm.cells = mc ∧ rm.slots = ms ∧ rm.frames + 1 ≤ R.frames ∧ 8 + (maxL + 11) + rm.locals ≤ R.locals ∧ (∀ w ∈ ws, ∀ (a' : Array Value) (U : State), s.WarmedH U.vm → w.before a' U = true) ∧ Cond.codeWith y bytes maxL ret hh ∈ ws) ∧
  (Cond.codeWith y bytes maxL ret hh).before args s = true ∧ (Cond.initialized y.cls).before args s = true ∧ (y.cls ≠ "java/lang/invoke/MethodHandle" ∧ y.cls ≠ "java/lang/invoke/VarHandle") ∧
  (∀ sig, parseMethodDescriptor y.desc = some sig → n = sig.parameters.length) ∧ (Cond.methodLink own index y).before args s = true ∧ (Cond.static y).before args s = true
theorem vx_cwSW {own : String} {index maxL mc ms : Nat} {y : MethodName} {bytes : ByteArray} {ret : Option FieldType} {hh : List (Nat × Nat × Nat × Nat)} {Ts ws ws' : List Cond} {rm : Room} (n : Nat) (ht : ∀ w ∈ Ts, w.before args s = true) (hT : GoodIn Ts (va_wsS own index y ws)) (hw : ws = Cond.codeWith y bytes maxL ret hh :: ws') (hrc : rm.cells = mc) (hrs : rm.slots = ms)
    (hd : y.cls ≠ "java/lang/invoke/MethodHandle" ∧ y.cls ≠ "java/lang/invoke/VarHandle" ∧ (parseMethodDescriptor y.desc).map (fun d => d.parameters.length) = some n) (hR : rm.frames + 1 ≤ R.frames ∧ 8 + (maxL + 11) + rm.locals ≤ R.locals) :
    vx_CSW R s args own index y bytes maxL ret hh ws rm mc ms n := by
  have ok : ∀ w ∈ va_wsS own index y ws, w.before args s = true := fun w h => ht w (hT w h).1
  have hG : GoodIn Ts ws := fun w h => hT w (by unfold va_wsS; exact List.mem_append_right _ h)
  have hc : Cond.codeWith y bytes maxL ret hh ∈ ws := by rw [hw]; exact List.mem_cons_self
  refine ⟨⟨hrc, hrs, hR.1, hR.2, pay_in ht hG, hc⟩, ht _ (hG _ hc).1, ok _ (by simp [va_wsS]), ⟨hd.1, hd.2.1⟩, fun sig h => ?_, ok _ (by simp [va_wsS]), ok _ (by simp [va_wsS])⟩
  have h2 := hd.2.2
  rw [h] at h2
  exact (Option.some.inj h2).symm
theorem vx_callSW (X : Stand p l e R s m args below meth c T locs cells slots) (hexec : p.tables.exec = Jvm.exec) {own : String} {index : Nat} {y : MethodName} {bytes : ByteArray} {maxL : Nat} {ret : Option FieldType} {hh : List (Nat × Nat × Nat × Nat)}
    (hown : s.vm.findClass own = some m.cls) (hlink : (Cond.methodLink own index y).before args s = true) (hstat : (Cond.static y).before args s = true) (hinit : (Cond.initialized y.cls).before args s = true)
    (hcode : (Cond.codeWith y bytes maxL ret hh).before args s = true) (hy : y.cls ≠ "java/lang/invoke/MethodHandle" ∧ y.cls ≠ "java/lang/invoke/VarHandle")
    {W9 : Nat} {Pre : Pt → Array Value → Prop} {Post : Pt → Array Value → Option Value → Pt → Prop} (hK : Back l R p e below s args y 3 W9 Pre Post)
    {g : JFrame} (hg : g.method = m) (hsize : g.locals.size = c.maxLocals) {argsL rest : List Value} (hlen : ∀ sig, parseMethodDescriptor y.desc = some sig → argsL.length = sig.parameters.length)
    (hstack : g.stack = argsL.reverse ++ rest) (hW : 2 * g.monitorRoom + (rest.map fun v => v.category).sum ≤ W9) (hdg : decode c.code g.pc = .ok (.invokestatic index, 3))
    (hpre : ∀ vm₁, s.WarmedH vm₁ → Pre ⟨T.setVm vm₁, locs, cells, slots⟩ argsL.toArray) :
    ∃ (v : Option Value) (vm₁ : Vm) (B : Pt), s.WarmedH vm₁ ∧ Stand p l e R s m args below meth c B.U B.locs B.cells B.slots ∧ Post ⟨T.setVm vm₁, locs, cells, slots⟩ argsL.toArray v B ∧
      ∀ target, Steps p.tables e below (B.U.setTop { g with pc := g.pc + 3, stack := v.toList ++ rest }) target → Steps p.tables e below (T.setTop g) target := by
  obtain ⟨mk, methM, cM, hnamed, hmethM, -, -, -, -, -, -, hsigM⟩ := Cond.codeWith_spec hcode
  have hstatic : methM.isStatic = true := Cond.static_spec hnamed hmethM hstat
  obtain ⟨kP, hkP, -⟩ := className_of_methodNamed hnamed
  have hinitP : kP.init = .initialized := Cond.initialized_spec (findClass_of_methodNamed hnamed) hkP hinit
  obtain ⟨vm₁, X₁, hstep₁⟩ := X.invokestatic hexec hown hlink hnamed hmethM hstatic hkP hinitP hy (g := g) hg (argsL := argsL) (rest := rest) (hlen _ hsigM) hstack hdg
  obtain ⟨v, B, X', hpost, hsteps⟩ := hK m meth c ⟨T.setVm vm₁, locs, cells, slots⟩ { g with stack := rest } (.invokestatic index) mk argsL.toArray X₁ hg hsize hdg hW (X₁.named hnamed) (hpre vm₁ X₁.warmed)
  exact ⟨v, vm₁, B, X₁.warmed, X', hpost, fun target h => hstep₁ _ fun acts => by rw [doInvoke_state]; exact hsteps.trans h⟩
theorem vx_runSW {y : MethodName} {bytes cc : ByteArray} {maxL nL mc ms n index : Nat} {ret : Option FieldType} {hh : List (Nat × Nat × Nat × Nat)} {ws : List Cond} {rm : Room} {Pc : Array Value → State → Prop} {Qc : Array Value → State → Outcome → State → Prop} {free : Addr → Prop} {Ts : List Cond} {own : String} {As rest : List Value} {g : JFrame}
    (S : CallFix p m c cc nL s args Ts own) (hM : Met l y ws rm Pc Qc mc ms free) (cw : vx_CSW R s args own index y bytes maxL ret hh ws rm mc ms n) (hp : PreS s H Pc As)
    (hg : g.method = m) (hn : As.length = n) (hsize : g.locals.size = nL) (hstack : g.stack = As.reverse ++ rest) (hW : 2 * g.monitorRoom + (rest.map fun v => v.category).sum ≤ 8) (hdg : decode cc g.pc = .ok (.invokestatic index, 3)) (hf : cells + mc ≤ R.cells ∧ slots + ms ≤ R.slots) :
    va_Run p l e R s m args below meth c H locs cells slots mc ms g rest (Qc As.toArray) (free) := by
  obtain ⟨⟨hrc, hrs, hfr, hlo, hws, hcw⟩, hcode, hini, hy, hlen, hl, hstt⟩ := cw
  have hK : Back l R p e below s args y 3 8 (PreOf R mc ms Pc) (PostOf Qc mc ms free) := va_backW (hh := hh) (bytes := bytes) (maxL := maxL) (ret := ret) hM hp.1 hrc hrs hfr hlo hws hcw (fun a' U hW => word_at hW (Or.inl (by first | rfl | simp [Cond.onTables, Cond.keeps, Cond.steady])) hini)
  obtain ⟨hx, hb, hml, ho, -⟩ := S
  intro T hT X
  obtain ⟨v, vm₁, ⟨U', l2, c2, s2⟩, hW₁, X', ⟨g', mk, t, L, e1, e2, hq, h1, hL, h2, h3⟩, st⟩ := vx_callSW X hx (hh := hh) (bytes := bytes) (maxL := maxL) (ret := ret) ho hl hstt hini hcode hy hK hg (hsize.trans hml.symm) (argsL := As) (rest := rest) (fun sig h => hn.trans (hlen sig h)) hstack hW (by rw [hb]; exact hdg)
    (fun vm₁ hW₁ => ⟨hf.1, hf.2, hp.2 (T.setVm vm₁) hT hW₁⟩)
  dsimp only [Pt.U, Pt.locs, Pt.cells, Pt.slots] at X' e1 e2 h1 h2 h3 st
  subst h1; subst h2; subst h3
  exact ⟨v, (T.setVm vm₁).calling g' mk As.toArray, t, U', L, hT, X', hL, e1, e2, hq, st⟩
/-- not caught here, past rows that name other classes: it goes on to the caller -/
theorem vx_outP {p : Program} {l : Launch} {e : Env} {R : Room} {s : State} {m : MethodId} {args : Array Value} {below : List Frame} {meth : Method} {c : Code} {H : Heap} {locs : List Loc} {cells slots : Nat} {free : Addr → Prop} {ls : Array Slot} {rest : List Value} {Qc : Array Value → State → Outcome → State → Prop} {XC : String → State → State → Prop}
    {pc : Nat} {own E : String} {ce : Cell} {q : Addr} {mc ms : Nat} (hown : s.vm.findClass own = some m.cls) (hlocks : meth.locks = false)
    (hpass : ∀ z ∈ c.exceptionTable.toList, covers z pc = false ∨ (z.catchType ≠ 0 ∧ ∃ nm : String, (Cond.classLink own z.catchType nm).before args s = true ∧ va_Nc E nm s)) (hcell : H[q]? = some ce) (hv : ce.vm = .none) (hcl : s.vm.findClass E = some ce.cls)
    (hx : ∀ t : State, t.heap = H → s.vm.Alike t.vm → XC E s t) (hf : ∀ z ∈ locs, free z.base) (hc : cells ≤ mc) (hs : slots ≤ ms) :
    vx_W p l e R s m args below meth c H locs cells slots (vx_MQ below Qc XC args s mc ms free) (F0 m pc ls rest) q := by
  intro T hT X
  have hpl : e.platform.magicAccessors = ({} : Platform).magicAccessors := by rw [X.admits.platform]
  obtain ⟨vm', hW', X', st⟩ := X.outThrough hlocks q (g := F0 m pc ls rest) rfl rfl rfl (cell := ce) (by rw [hT]; exact hcell) (by rw [hv]; rfl)
    (by obtain ⟨k9, h9, -⟩ := Vm.findClass_spec hcl; exact ⟨k9, h9⟩) (fun z hz => by
      rcases hpass z hz with h | ⟨hz0, nm, hl1, hn1⟩
      · exact Or.inl h
      · obtain ⟨c6, hc6, hcl6⟩ := Cond.classLink_spec hown hl1 e.platform hpl
        obtain ⟨a8, b8, h1, h2, h3⟩ := hn1
        cases Option.some.inj (h1.symm.trans hcl)
        cases Option.some.inj (h2.symm.trans hc6)
        exact Or.inr ⟨hz0, _, hcl6, h3⟩)
  obtain ⟨g₀, hfr⟩ := X'.frames_eq
  have hcell9 : ((T.setVm vm').setFrames (.throwing q :: below)).heap[q]? = some ce := by
    show T.heap[q]? = some ce
    rw [hT]; exact hcell
  have hend : Ended ((T.setVm vm').setFrames (.throwing q :: below)) below (.threw q) := State.frames_setFrames _ (State.cur_lt_of_frames hfr)
  refine ⟨(T.setVm vm').setFrames (.throwing q :: below), ?_, .threw q, X'.here.running, hend, Or.inr ⟨q, rfl, E, ce, locs, hx _ hT (X'.ends _).1.alike, hcell9, hv, hcl, (X'.ends _).1, (X'.ends _).2.mono hc hs, hf⟩⟩
  rw [X.pushThrowing_eq]
  exact st
/-- a thing of a world lies in the heap -/
theorem vx_lt {D : va_G} {cl : List vw_C} {ws : va_W} {H1 : Heap} (h : va_P D cl ws H1) {k : Nat} {q : Nat × va_E} (hk : ws[k]? = some q) : q.1 < H1.size := (h k q hk).lt
end VXS
/-! ===== END ===== -/
/-! ===== BEGIN methods with a table of their own: called by a name, returning or throwing ===== -/
section VXH
/-! vx_backW, vx_callVX, vx_callSX, vx_callVW, vx_runVW, vx_runVX, vx_runSX, vx_ofWH follow the same proofs as their sisters above (Free/Laws.lean, Shelf42/LK1.lean); vx_outP calls Shelf42/NT130.lean (outThrough). -/
section
variable {l : Launch} {R : Room} {p : Program} {e : Env} {below : List Frame} {s : State} {sargs : Array Value} {y : MethodName} {len W9 : Nat}
theorem vx_backW {ws : List Cond} {rm : Room} {Pc : Array Value → State → Prop} {Qc : Array Value → State → Outcome → State → Prop} {XC : String → State → State → Prop} {mc ms : Nat} {free : Addr → Prop} {bytes : ByteArray} {maxL : Nat} {ret : Option FieldType} {hh : List (Nat × Nat × Nat × Nat)}
    (hM : vx_Met l y ws rm Pc Qc XC mc ms free) (hblind : FrameBlind Pc) (hrc : rm.cells = mc) (hrs : rm.slots = ms)
    (hframes : rm.frames + 1 ≤ R.frames) (hlocals : W9 + (maxL + 11) + rm.locals ≤ R.locals)
    (hws : ∀ w ∈ ws, ∀ a' U, s.WarmedH U.vm → w.before a' U = true) (hcode : Cond.codeWith y bytes maxL ret hh ∈ ws) (hinit : ∀ a' U, s.WarmedH U.vm → (Cond.initialized y.cls).before a' U = true) :
    vx_Back l R p e below s sargs y len W9 (PreOf R mc ms Pc) (PostOf Qc mc ms free) (vx_Post XC mc ms free) := by
  intro m meth c A g ig mk a X hg hsize hdg hW hn hp
  have h1 : (headSpec ws rm).pre.before a A.U = true := atoms_intro fun w hw => hws w hw _ _ X.warmed
  have h2 : (Cond.codeWith y bytes maxL ret hh).before a A.U = true := hws _ hcode _ _ X.warmed
  have h3 : (Cond.initialized y.cls).before a A.U = true := hinit _ _ X.warmed
  have h4 : A.cells + (headSpec ws rm).room.cells ≤ R.cells := by rw [show (headSpec ws rm).room.cells = mc from hrc]; exact hp.1
  have h5 : A.slots + (headSpec ws rm).room.slots ≤ R.slots := by rw [show (headSpec ws rm).room.slots = ms from hrs]; exact hp.2.1
  have hPc : Pc a (A.U.calling g mk a) := hblind _ _ _ _ hp.2.2
  obtain ⟨U, Ls, c0, s0⟩ := A
  dsimp only [Pt.U, Pt.locs, Pt.cells, Pt.slots] at h1 h2 h3 h4 h5 X hn hPc ⊢
  obtain ⟨m9, methY, cY, hn9, hmY, hcY, -, hlY, -⟩ := Cond.codeWith_spec h2
  cases Option.some.inj (hn9.symm.trans hn)
  obtain ⟨kY, hkY, -⟩ := className_of_methodNamed hn
  have hinitY : kY.init = .initialized := Cond.initialized_spec (findClass_of_methodNamed hn) hkY h3
  have h : At U g.method c below := by rw [hg]; exact X.here
  have hlocals9 : W9 + (maxL + 11) + (headSpec ws rm).room.locals ≤ R.locals := hlocals
  have happ : (headSpec ws rm).appliesLoose y e.platform (U.calling g mk a) = true :=
    Spec.appliesLoose_calling (g := g) h hdg hn hkY hinitY
      (X.room_calling (g := g) (R' := (headSpec ws rm).room) hsize hmY hcY hframes (by rw [hlY]; omega) h4 h5) h1
  obtain ⟨mid, hmid⟩ := h.above
  have hfr : (U.setTop g).frames = (.java g :: mid) ++ below := by rw [State.frames_setTop' g h.top, hmid]; rfl
  obtain ⟨o, s₂, hsteps, -, hend, hq⟩ := Steps.callFree hM p X.admits X.cas X.clock (acts := []) hfr happ hPc trivial
  have hq' : vx_Q Qc XC mc ms free a (U.calling g mk a) o s₂ := hq
  rw [State.frames_setTop' g h.top] at hend
  obtain ⟨g₀, hg0⟩ := Option.isSome_iff_exists.mp h.top
  obtain ⟨r, hr⟩ := State.topJava?_eq_some.mp hg0
  have hr' : (({ U with heap := s₂.heap, slotsUsed := s₂.slotsUsed } : State).setVm s₂.vm).frames = .java g₀ :: r := hr
  rcases hq' with ⟨hqc, L, hfe, hL⟩ | ⟨q, rfl, E, ce, L, hx, hce, hcv, hcl, hW₂, hsm, hL⟩
  · obtain ⟨⟨v, rfl⟩, hW₂, e2, q2, q3, q4, q5, q6⟩ := id hfe
    have e3 : s₂ = ({ (U.calling g mk a).setFrames s₂.frames with heap := s₂.heap, slotsUsed := s₂.slotsUsed } : State).setVm s₂.vm := by
      have : s₂ = ({ s₂ with vm := (U.calling g mk a).vm } : State).setVm s₂.vm := rfl
      rw [e2] at this
      exact this
    obtain ⟨c₂, i₂, len₂, hc₂, hd₂, hf₂⟩ := hend
    have hW' : U.WarmedH s₂.vm := hW₂
    have hcc : c₂ = c := by
      have h1 : s₂.code? g.method = U.code? g.method := by
        rw [State.code?_eq, State.code?_eq, hW'.alike.method?]
      exact Option.some.inj (hc₂.symm.trans (h1.trans h.code))
    subst hcc
    have hlen : len₂ = len := by rw [hdg] at hd₂; cases hd₂; rfl
    subst hlen
    have hs₂ : s₂ = (({ U with heap := s₂.heap, slotsUsed := s₂.slotsUsed } : State).setVm s₂.vm).setTop { g with pc := g.pc + len₂, stack := v.toList ++ g.stack } := by
      refine e3.trans ?_
      rw [hf₂, State.calling_eq h.top, State.setFrames_setFrames, State.setTop_of_frames _ hr', hr]
      rfl
    have hsame : U.sameButNew ({ U with heap := s₂.heap, slotsUsed := s₂.slotsUsed } : State) L mc ms := by
      refine ⟨?_, q2, q3, q4, q5, q6⟩
      obtain ⟨t, ht, -⟩ := State.frames_cons hr
      show ({ U with heap := s₂.heap, slotsUsed := s₂.slotsUsed } : State) = { U.setFrames U.frames with heap := s₂.heap, slotsUsed := s₂.slotsUsed }
      rw [State.setFrames_self ht]
    subst hg
    refine Or.inl ⟨v, ⟨(({ U with heap := s₂.heap, slotsUsed := s₂.slotsUsed } : State).setVm s₂.vm), Ls ++ L, c0 + mc, s0 + ms⟩,
      ⟨X.admits, X.cas, X.clock, X.frames, X.room, X.hears, X.method, X.code, (X.here.setHeapUsed s₂.heap s₂.slotsUsed).setVm hW'.alike, X.tail, State.WarmedH.trans X.warmed hW', X.limits, X.bytes, X.same.trans (hsame.setVm s.vm)⟩,
      ⟨g, mk, s₂, L, rfl, rfl, hqc, rfl, hL, rfl, rfl⟩, ?_⟩
    show Steps p.tables e below _ ((({ U with heap := s₂.heap, slotsUsed := s₂.slotsUsed } : State).setVm s₂.vm).setTop { g with pc := g.pc + len₂, stack := v.toList ++ g.stack })
    rw [← hs₂]
    exact hsteps
  · obtain ⟨e2, q2, q3, q4, q5, q6⟩ := id hsm
    have e3 : s₂ = ({ (U.calling g mk a).setFrames s₂.frames with heap := s₂.heap, slotsUsed := s₂.slotsUsed } : State).setVm s₂.vm := by
      have : s₂ = ({ s₂ with vm := (U.calling g mk a).vm } : State).setVm s₂.vm := rfl
      rw [e2] at this
      exact this
    have hf₂ : s₂.frames = .throwing q :: .java g :: U.frames.tail := hend
    have hW' : U.WarmedH s₂.vm := hW₂
    have hs₂ : s₂ = ((({ U with heap := s₂.heap, slotsUsed := s₂.slotsUsed } : State).setVm s₂.vm).setTop g).pushFrame (.throwing q) := by
      refine e3.trans ?_
      rw [hf₂, State.calling_eq h.top, State.setFrames_setFrames, State.pushFrame, State.frames_setTop _ hr', State.setTop_of_frames _ hr', State.setFrames_setFrames, hr]
      rfl
    have hsame : U.sameButNew ({ U with heap := s₂.heap, slotsUsed := s₂.slotsUsed } : State) L mc ms := by
      refine ⟨?_, q2, q3, q4, q5, q6⟩
      obtain ⟨t, ht, -⟩ := State.frames_cons hr
      show ({ U with heap := s₂.heap, slotsUsed := s₂.slotsUsed } : State) = { U.setFrames U.frames with heap := s₂.heap, slotsUsed := s₂.slotsUsed }
      rw [State.setFrames_self ht]
    subst hg
    refine Or.inr ⟨q, ⟨(({ U with heap := s₂.heap, slotsUsed := s₂.slotsUsed } : State).setVm s₂.vm), Ls ++ L, c0 + mc, s0 + ms⟩,
      ⟨X.admits, X.cas, X.clock, X.frames, X.room, X.hears, X.method, X.code, (X.here.setHeapUsed s₂.heap s₂.slotsUsed).setVm hW'.alike, X.tail, State.WarmedH.trans X.warmed hW', X.limits, X.bytes, X.same.trans (hsame.setVm s.vm)⟩,
      ⟨g, mk, s₂, L, E, ce, rfl, rfl, hx, hce, hcv, hcl, rfl, hL, rfl, rfl⟩, ?_⟩
    show Steps p.tables e below _ (((({ U with heap := s₂.heap, slotsUsed := s₂.slotsUsed } : State).setVm s₂.vm).setTop g).pushFrame (.throwing q))
    rw [← hs₂]
    exact hsteps
end
variable {p : Program} {l : Launch} {e : Env} {R : Room} {s : State} {m : MethodId} {args : Array Value} {below : List Frame} {meth : Method} {c : Code} {T : State} {H : Heap} {locs : List Loc} {cells slots : Nat}
theorem vx_callVX (X : Stand p l e R s m args below meth c T locs cells slots) (hexec : p.tables.exec = Jvm.exec) {own C : String} {index : Nat} {y : MethodName} {bytes : ByteArray} {maxL : Nat} {ret : Option FieldType} {hh : List (Nat × Nat × Nat × Nat)}
    (hown : s.vm.findClass own = some m.cls) (hlink : (Cond.methodLink own index y).before args s = true) (hinst : (Cond.instanceMethod y).before args s = true) (hsel : (Cond.selects C y y).before args s = true)
    (hcode : (Cond.codeWith y bytes maxL ret hh).before args s = true) (hy : y.cls ≠ "java/lang/invoke/MethodHandle" ∧ y.cls ≠ "java/lang/invoke/VarHandle")
    {W9 : Nat} {Pre : Pt → Array Value → Prop} {Post : Pt → Array Value → Option Value → Pt → Prop} {PostX : Pt → Array Value → Addr → Pt → Prop} (hK : vx_Back l R p e below s args y 3 W9 Pre Post PostX)
    {b : Addr} {cellB : Cell} (hcell : T.heap[b]? = some cellB) (hobj : cellB.vm.isStatics = false) (hcls : s.vm.findClass C = some cellB.cls)
    {g : JFrame} (hg : g.method = m) (hsize : g.locals.size = c.maxLocals) {argsL rest : List Value} (hlen : ∀ sig, parseMethodDescriptor y.desc = some sig → argsL.length = sig.parameters.length)
    (hstack : g.stack = argsL.reverse ++ .ref b :: rest) (hW : 2 * g.monitorRoom + (rest.map fun v => v.category).sum ≤ W9) (hdg : decode c.code g.pc = .ok (.invokevirtual index, 3))
    (hpre : ∀ vm₁, s.WarmedH vm₁ → Pre ⟨T.setVm vm₁, locs, cells, slots⟩ (Value.ref b :: argsL).toArray) :
    (∃ (v : Option Value) (vm₁ : Vm) (B : Pt), s.WarmedH vm₁ ∧ Stand p l e R s m args below meth c B.U B.locs B.cells B.slots ∧ Post ⟨T.setVm vm₁, locs, cells, slots⟩ (Value.ref b :: argsL).toArray v B ∧
      ∀ target, Steps p.tables e below (B.U.setTop { g with pc := g.pc + 3, stack := v.toList ++ rest }) target → Steps p.tables e below (T.setTop g) target) ∨
    (∃ (q : Addr) (vm₁ : Vm) (B : Pt), s.WarmedH vm₁ ∧ Stand p l e R s m args below meth c B.U B.locs B.cells B.slots ∧ PostX ⟨T.setVm vm₁, locs, cells, slots⟩ (Value.ref b :: argsL).toArray q B ∧
      Steps p.tables e below (T.setTop g) ((B.U.setTop { g with stack := rest }).pushFrame (.throwing q))) := by
  obtain ⟨mk, methM, hnamed, hmethM, hstM, habM⟩ := Cond.instanceMethod_spec hinst
  obtain ⟨m8, methM', cM, hn8, hmethM', -, -, -, -, -, -, hsigM⟩ := Cond.codeWith_spec hcode
  cases Option.some.inj (hn8.symm.trans hnamed)
  cases hmethM.symm.trans hmethM'
  obtain ⟨c2, r2, m2, q1, q2, q3, q4, kP, hkP, hkPi⟩ := Cond.selects_spec hsel
  cases hcls.symm.trans q1
  cases (State.methodFound?_of_named hnamed hy).symm.trans q2
  cases hnamed.symm.trans q3
  have hselP : selectMethod e.platform s.vm cellB.cls mk = .method mk := by rw [Launch.admits_selectMethod X.admits]; exact q4
  obtain ⟨vm₁, X₁, hstep₁⟩ := X.invokevirtual hexec hown hlink hnamed hmethM hstM hkP hkPi hy (a := b) (cell := cellB) hcell
    (fun z h => by rw [h] at hobj; cases hobj) hselP hmethM habM hkP hkPi (g := g) hg (argsL := argsL) (rest := rest) (hlen _ hsigM) hstack hdg
  rcases hK m meth c ⟨T.setVm vm₁, locs, cells, slots⟩ { g with stack := rest } (.invokevirtual index) mk (Value.ref b :: argsL).toArray X₁ hg hsize hdg hW (X₁.named hnamed) (hpre vm₁ X₁.warmed) with ⟨v, B, X', hpost, hsteps⟩ | ⟨q, B, X', hpost, hsteps⟩
  · exact Or.inl ⟨v, vm₁, B, X₁.warmed, X', hpost, fun target h => hstep₁ _ fun acts => by rw [doInvoke_state]; exact hsteps.trans h⟩
  · exact Or.inr ⟨q, vm₁, B, X₁.warmed, X', hpost, hstep₁ _ fun acts => by rw [doInvoke_state]; exact hsteps⟩
theorem vx_callSX (X : Stand p l e R s m args below meth c T locs cells slots) (hexec : p.tables.exec = Jvm.exec) {own : String} {index : Nat} {y : MethodName} {bytes : ByteArray} {maxL : Nat} {ret : Option FieldType} {hh : List (Nat × Nat × Nat × Nat)}
    (hown : s.vm.findClass own = some m.cls) (hlink : (Cond.methodLink own index y).before args s = true) (hstat : (Cond.static y).before args s = true) (hinit : (Cond.initialized y.cls).before args s = true)
    (hcode : (Cond.codeWith y bytes maxL ret hh).before args s = true) (hy : y.cls ≠ "java/lang/invoke/MethodHandle" ∧ y.cls ≠ "java/lang/invoke/VarHandle")
    {W9 : Nat} {Pre : Pt → Array Value → Prop} {Post : Pt → Array Value → Option Value → Pt → Prop} {PostX : Pt → Array Value → Addr → Pt → Prop} (hK : vx_Back l R p e below s args y 3 W9 Pre Post PostX)
    {g : JFrame} (hg : g.method = m) (hsize : g.locals.size = c.maxLocals) {argsL rest : List Value} (hlen : ∀ sig, parseMethodDescriptor y.desc = some sig → argsL.length = sig.parameters.length)
    (hstack : g.stack = argsL.reverse ++ rest) (hW : 2 * g.monitorRoom + (rest.map fun v => v.category).sum ≤ W9) (hdg : decode c.code g.pc = .ok (.invokestatic index, 3))
    (hpre : ∀ vm₁, s.WarmedH vm₁ → Pre ⟨T.setVm vm₁, locs, cells, slots⟩ argsL.toArray) :
    (∃ (v : Option Value) (vm₁ : Vm) (B : Pt), s.WarmedH vm₁ ∧ Stand p l e R s m args below meth c B.U B.locs B.cells B.slots ∧ Post ⟨T.setVm vm₁, locs, cells, slots⟩ argsL.toArray v B ∧
      ∀ target, Steps p.tables e below (B.U.setTop { g with pc := g.pc + 3, stack := v.toList ++ rest }) target → Steps p.tables e below (T.setTop g) target) ∨
    (∃ (q : Addr) (vm₁ : Vm) (B : Pt), s.WarmedH vm₁ ∧ Stand p l e R s m args below meth c B.U B.locs B.cells B.slots ∧ PostX ⟨T.setVm vm₁, locs, cells, slots⟩ argsL.toArray q B ∧
      Steps p.tables e below (T.setTop g) ((B.U.setTop { g with stack := rest }).pushFrame (.throwing q))) := by
  obtain ⟨mk, methM, cM, hnamed, hmethM, -, -, -, -, -, -, hsigM⟩ := Cond.codeWith_spec hcode
  have hstatic : methM.isStatic = true := Cond.static_spec hnamed hmethM hstat
  obtain ⟨kP, hkP, -⟩ := className_of_methodNamed hnamed
  have hinitP : kP.init = .initialized := Cond.initialized_spec (findClass_of_methodNamed hnamed) hkP hinit
  obtain ⟨vm₁, X₁, hstep₁⟩ := X.invokestatic hexec hown hlink hnamed hmethM hstatic hkP hinitP hy (g := g) hg (argsL := argsL) (rest := rest) (hlen _ hsigM) hstack hdg
  rcases hK m meth c ⟨T.setVm vm₁, locs, cells, slots⟩ { g with stack := rest } (.invokestatic index) mk argsL.toArray X₁ hg hsize hdg hW (X₁.named hnamed) (hpre vm₁ X₁.warmed) with ⟨v, B, X', hpost, hsteps⟩ | ⟨q, B, X', hpost, hsteps⟩
  · exact Or.inl ⟨v, vm₁, B, X₁.warmed, X', hpost, fun target h => hstep₁ _ fun acts => by rw [doInvoke_state]; exact hsteps.trans h⟩
  · exact Or.inr ⟨q, vm₁, B, X₁.warmed, X', hpost, hstep₁ _ fun acts => by rw [doInvoke_state]; exact hsteps⟩
theorem vx_callVW (X : Stand p l e R s m args below meth c T locs cells slots) (hexec : p.tables.exec = Jvm.exec) {own C : String} {index : Nat} {y : MethodName} {bytes : ByteArray} {maxL : Nat} {ret : Option FieldType} {hh : List (Nat × Nat × Nat × Nat)}
    (hown : s.vm.findClass own = some m.cls) (hlink : (Cond.methodLink own index y).before args s = true) (hinst : (Cond.instanceMethod y).before args s = true) (hsel : (Cond.selects C y y).before args s = true)
    (hcode : (Cond.codeWith y bytes maxL ret hh).before args s = true) (hy : y.cls ≠ "java/lang/invoke/MethodHandle" ∧ y.cls ≠ "java/lang/invoke/VarHandle")
    {W9 : Nat} {Pre : Pt → Array Value → Prop} {Post : Pt → Array Value → Option Value → Pt → Prop} (hK : Back l R p e below s args y 3 W9 Pre Post)
    {b : Addr} {cellB : Cell} (hcell : T.heap[b]? = some cellB) (hobj : cellB.vm.isStatics = false) (hcls : s.vm.findClass C = some cellB.cls)
    {g : JFrame} (hg : g.method = m) (hsize : g.locals.size = c.maxLocals) {argsL rest : List Value} (hlen : ∀ sig, parseMethodDescriptor y.desc = some sig → argsL.length = sig.parameters.length)
    (hstack : g.stack = argsL.reverse ++ .ref b :: rest) (hW : 2 * g.monitorRoom + (rest.map fun v => v.category).sum ≤ W9) (hdg : decode c.code g.pc = .ok (.invokevirtual index, 3))
    (hpre : ∀ vm₁, s.WarmedH vm₁ → Pre ⟨T.setVm vm₁, locs, cells, slots⟩ (Value.ref b :: argsL).toArray) :
    ∃ (v : Option Value) (vm₁ : Vm) (B : Pt), s.WarmedH vm₁ ∧ Stand p l e R s m args below meth c B.U B.locs B.cells B.slots ∧ Post ⟨T.setVm vm₁, locs, cells, slots⟩ (Value.ref b :: argsL).toArray v B ∧
      ∀ target, Steps p.tables e below (B.U.setTop { g with pc := g.pc + 3, stack := v.toList ++ rest }) target → Steps p.tables e below (T.setTop g) target := by
  obtain ⟨mk, methM, hnamed, hmethM, hstM, habM⟩ := Cond.instanceMethod_spec hinst
  obtain ⟨m8, methM', cM, hn8, hmethM', -, -, -, -, -, -, hsigM⟩ := Cond.codeWith_spec hcode
  cases Option.some.inj (hn8.symm.trans hnamed)
  cases hmethM.symm.trans hmethM'
  obtain ⟨c2, r2, m2, q1, q2, q3, q4, kP, hkP, hkPi⟩ := Cond.selects_spec hsel
  cases hcls.symm.trans q1
  cases (State.methodFound?_of_named hnamed hy).symm.trans q2
  cases hnamed.symm.trans q3
  have hselP : selectMethod e.platform s.vm cellB.cls mk = .method mk := by rw [Launch.admits_selectMethod X.admits]; exact q4
  obtain ⟨vm₁, X₁, hstep₁⟩ := X.invokevirtual hexec hown hlink hnamed hmethM hstM hkP hkPi hy (a := b) (cell := cellB) hcell
    (fun z h => by rw [h] at hobj; cases hobj) hselP hmethM habM hkP hkPi (g := g) hg (argsL := argsL) (rest := rest) (hlen _ hsigM) hstack hdg
  obtain ⟨v, B, X', hpost, hsteps⟩ := hK m meth c ⟨T.setVm vm₁, locs, cells, slots⟩ { g with stack := rest } (.invokevirtual index) mk (Value.ref b :: argsL).toArray X₁ hg hsize hdg hW (X₁.named hnamed) (hpre vm₁ X₁.warmed)
  exact ⟨v, vm₁, B, X₁.warmed, X', hpost, fun target h => hstep₁ _ fun acts => by rw [doInvoke_state]; exact hsteps.trans h⟩
abbrev vx_CVW (R : Room) (s : State) (args : Array Value) (own C : String) (index : Nat) (y : MethodName) (bytes : ByteArray) (maxL : Nat) (ret : Option FieldType) (hh : List (Nat × Nat × Nat × Nat)) (ws : List Cond) (rm : Room) (mc ms n : Nat) : Prop :=
  (rm.cells = mc ∧ rm.slots = ms ∧ rm.frames + 1 ≤ R.frames ∧ 8 + (maxL + 11) + rm.locals ≤ R.locals ∧ (∀ w ∈ ws, ∀ (a' : Array Value) (U : State), s.WarmedH U.vm → w.before a' U = true) ∧ Cond.codeWith y bytes maxL ret hh ∈ ws) ∧
  (Cond.codeWith y bytes maxL ret hh).before args s = true ∧ (Cond.initialized y.cls).before args s = true ∧ (y.cls ≠ "java/lang/invoke/MethodHandle" ∧ y.cls ≠ "java/lang/invoke/VarHandle") ∧
  (∀ sig, parseMethodDescriptor y.desc = some sig → n = sig.parameters.length) ∧ (Cond.methodLink own index y).before args s = true ∧ (Cond.instanceMethod y).before args s = true ∧ (Cond.selects C y y).before args s = true
theorem vx_cwVW {own C : String} {index maxL mc ms : Nat} {y : MethodName} {bytes : ByteArray} {ret : Option FieldType} {hh : List (Nat × Nat × Nat × Nat)} {Ts ws ws' : List Cond} {rm : Room} (n : Nat) (ht : ∀ w ∈ Ts, w.before args s = true) (hT : GoodIn Ts (wsV own index C y ws)) (hw : ws = Cond.codeWith y bytes maxL ret hh :: ws') (hrc : rm.cells = mc) (hrs : rm.slots = ms)
    (hd : y.cls = C ∧ y.cls ≠ "java/lang/invoke/MethodHandle" ∧ y.cls ≠ "java/lang/invoke/VarHandle" ∧ (parseMethodDescriptor y.desc).map (fun d => d.parameters.length) = some n) (hR : rm.frames + 1 ≤ R.frames ∧ 8 + (maxL + 11) + rm.locals ≤ R.locals) :
    vx_CVW R s args own C index y bytes maxL ret hh ws rm mc ms n := by
  obtain ⟨hC, hd⟩ := hd
  subst hC
  have ok : ∀ w ∈ wsV own index y.cls y ws, w.before args s = true := fun w h => ht w (hT w h).1
  have hG : GoodIn Ts ws := fun w h => hT w (by unfold wsV; exact List.mem_append_right _ h)
  have hc : Cond.codeWith y bytes maxL ret hh ∈ ws := by rw [hw]; exact List.mem_cons_self
  refine ⟨⟨hrc, hrs, hR.1, hR.2, pay_in ht hG, hc⟩, ht _ (hG _ hc).1, ok _ (by simp [wsV]), ⟨hd.1, hd.2.1⟩, fun sig h => ?_, ok _ (by simp [wsV]), ok _ (by simp [wsV]), ok _ (by simp [wsV])⟩
  have h2 := hd.2.2
  rw [h] at h2
  exact (Option.some.inj h2).symm
theorem vx_runVW {y : MethodName} {bytes cc : ByteArray} {maxL nL mc ms n index : Nat} {ret : Option FieldType} {hh : List (Nat × Nat × Nat × Nat)} {ws : List Cond} {rm : Room} {Pc : Array Value → State → Prop} {Qc : Array Value → State → Outcome → State → Prop} {free : Addr → Prop} {Ts : List Cond} {own C : String} {b : Addr} {As rest : List Value} {g : JFrame}
    (S : CallFix p m c cc nL s args Ts own) (hM : Met l y ws rm Pc Qc mc ms free) (cw : vx_CVW R s args own C index y bytes maxL ret hh ws rm mc ms n) (hp : PreV s H C b Pc As)
    (hg : g.method = m) (hn : As.length = n) (hsize : g.locals.size = nL) (hstack : g.stack = As.reverse ++ .ref b :: rest) (hW : 2 * g.monitorRoom + (rest.map fun v => v.category).sum ≤ 8) (hdg : decode cc g.pc = .ok (.invokevirtual index, 3)) (hf : cells + mc ≤ R.cells ∧ slots + ms ≤ R.slots) :
    va_Run p l e R s m args below meth c H locs cells slots mc ms g rest (Qc (Value.ref b :: As).toArray) free := by
  obtain ⟨⟨hrc, hrs, hfr, hlo, hws, hcw⟩, hcode, hini, hy, hlen, hl, hin, hse⟩ := cw
  have hK : Back l R p e below s args y 3 8 (PreOf R mc ms Pc) (PostOf Qc mc ms free) := va_backW (hh := hh) (bytes := bytes) (maxL := maxL) (ret := ret) hM hp.1 hrc hrs hfr hlo hws hcw (fun a' U hW => word_at hW (Or.inl (by first | rfl | simp [Cond.onTables, Cond.keeps, Cond.steady])) hini)
  obtain ⟨hx, hb, hml, ho, -⟩ := S
  obtain ⟨-, ⟨cellB, hcB, hoB, hclB⟩, hPc⟩ := hp
  intro T hT X
  obtain ⟨v, vm₁, ⟨U', l2, c2, s2⟩, hW₁, X', ⟨g', mk, t, L, e1, e2, hq, h1, hL, h2, h3⟩, st⟩ := vx_callVW X hx (C := C) (hh := hh) (bytes := bytes) (maxL := maxL) (ret := ret) ho hl hin hse hcode hy hK (by rw [hT]; exact hcB) hoB hclB hg (hsize.trans hml.symm) (argsL := As) (rest := rest) (fun sig h => hn.trans (hlen sig h)) hstack hW (by rw [hb]; exact hdg)
    (fun vm₁ hW₁ => ⟨hf.1, hf.2, hPc (T.setVm vm₁) hT hW₁⟩)
  dsimp only [Pt.U, Pt.locs, Pt.cells, Pt.slots] at X' e1 e2 h1 h2 h3 st
  subst h1; subst h2; subst h3
  exact ⟨v, (T.setVm vm₁).calling g' mk (Value.ref b :: As).toArray, t, U', L, hT, X', hL, e1, e2, hq, st⟩
section
variable {y : MethodName} {bytes cc : ByteArray} {maxL nL mc ms n index : Nat} {ret : Option FieldType} {ws : List Cond} {rm : Room} {Pc : Array Value → State → Prop} {Qc : Array Value → State → Outcome → State → Prop} {XC : String → State → State → Prop} {free : Addr → Prop} {Ts : List Cond} {own C : String} {b : Addr} {As rest : List Value} {g : JFrame}
theorem vx_runVX {hh : List (Nat × Nat × Nat × Nat)} (S : CallFix p m c cc nL s args Ts own) (hM : vx_Met l y ws rm Pc Qc XC mc ms free) (cw : vx_CVW R s args own C index y bytes maxL ret hh ws rm mc ms n) (hp : PreV s H C b Pc As)
    (hg : g.method = m) (hn : As.length = n) (hsize : g.locals.size = nL) (hstack : g.stack = As.reverse ++ .ref b :: rest) (hW : 2 * g.monitorRoom + (rest.map fun v => v.category).sum ≤ 8) (hdg : decode cc g.pc = .ok (.invokevirtual index, 3)) (hf : cells + mc ≤ R.cells ∧ slots + ms ≤ R.slots) :
    vx_Run p l e R s m args below meth c H locs cells slots mc ms g rest (Qc (Value.ref b :: As).toArray) XC free := by
  obtain ⟨⟨hrc, hrs, hfr, hlo, hws, hcw⟩, hcode, hini, hy, hlen, hl, hin, hse⟩ := cw
  have hK : vx_Back l R p e below s args y 3 8 (PreOf R mc ms Pc) (PostOf Qc mc ms free) (vx_Post XC mc ms free) := vx_backW (hh := hh) (bytes := bytes) (maxL := maxL) (ret := ret) hM hp.1 hrc hrs hfr hlo hws hcw (fun a' U hW => word_at hW (Or.inl (by first | rfl | simp [Cond.onTables, Cond.keeps, Cond.steady])) hini)
  obtain ⟨hx, hb, hml, ho, -⟩ := S
  obtain ⟨-, ⟨cellB, hcB, hoB, hclB⟩, hPc⟩ := hp
  intro T hT X
  rcases vx_callVX X hx (C := C) (hh := hh) (bytes := bytes) (maxL := maxL) (ret := ret) ho hl hin hse hcode hy hK (by rw [hT]; exact hcB) hoB hclB hg (hsize.trans hml.symm) (argsL := As) (rest := rest) (fun sig h => hn.trans (hlen sig h)) hstack hW (by rw [hb]; exact hdg)
    (fun vm₁ hW₁ => ⟨hf.1, hf.2, hPc (T.setVm vm₁) hT hW₁⟩) with ⟨v, vm₁, ⟨U', l2, c2, s2⟩, hW₁, X', ⟨g', mk, t, L, e1, e2, hq, h1, hL, h2, h3⟩, st⟩ | ⟨q, vm₁, ⟨U', l2, c2, s2⟩, hW₁, X', ⟨g', mk, t, L, E, ce, e1, e2, hq, hce, hcv, hcl, h1, hL, h2, h3⟩, st⟩
  · dsimp only [Pt.U, Pt.locs, Pt.cells, Pt.slots] at X' e1 e2 h1 h2 h3 st
    subst h1; subst h2; subst h3
    exact Or.inl ⟨v, (T.setVm vm₁).calling g' mk (Value.ref b :: As).toArray, t, U', L, hT, X', hL, e1, e2, hq, st⟩
  · dsimp only [Pt.U, Pt.locs, Pt.cells, Pt.slots] at X' e1 e2 h1 h2 h3 st hcl
    subst h1; subst h2; subst h3
    exact Or.inr ⟨q, (T.setVm vm₁).calling g' mk (Value.ref b :: As).toArray, t, U', L, E, ce, hT, X', hL, e1, e2, hq, hce, hcv, vx_cls hW₁ hcl, st⟩
theorem vx_runSX {hh : List (Nat × Nat × Nat × Nat)} (S : CallFix p m c cc nL s args Ts own) (hM : vx_Met l y ws rm Pc Qc XC mc ms free) (cw : vx_CSW R s args own index y bytes maxL ret hh ws rm mc ms n) (hp : PreS s H Pc As)
    (hg : g.method = m) (hn : As.length = n) (hsize : g.locals.size = nL) (hstack : g.stack = As.reverse ++ rest) (hW : 2 * g.monitorRoom + (rest.map fun v => v.category).sum ≤ 8) (hdg : decode cc g.pc = .ok (.invokestatic index, 3)) (hf : cells + mc ≤ R.cells ∧ slots + ms ≤ R.slots) :
    vx_Run p l e R s m args below meth c H locs cells slots mc ms g rest (Qc As.toArray) XC free := by
  obtain ⟨⟨hrc, hrs, hfr, hlo, hws, hcw⟩, hcode, hini, hy, hlen, hl, hstt⟩ := cw
  have hK : vx_Back l R p e below s args y 3 8 (PreOf R mc ms Pc) (PostOf Qc mc ms free) (vx_Post XC mc ms free) := vx_backW (hh := hh) (bytes := bytes) (maxL := maxL) (ret := ret) hM hp.1 hrc hrs hfr hlo hws hcw (fun a' U hW => word_at hW (Or.inl (by first | rfl | simp [Cond.onTables, Cond.keeps, Cond.steady])) hini)
  obtain ⟨hx, hb, hml, ho, -⟩ := S
  intro T hT X
  rcases vx_callSX X hx (hh := hh) (bytes := bytes) (maxL := maxL) (ret := ret) ho hl hstt hini hcode hy hK hg (hsize.trans hml.symm) (argsL := As) (rest := rest) (fun sig h => hn.trans (hlen sig h)) hstack hW (by rw [hb]; exact hdg)
    (fun vm₁ hW₁ => ⟨hf.1, hf.2, hp.2 (T.setVm vm₁) hT hW₁⟩) with ⟨v, vm₁, ⟨U', l2, c2, s2⟩, hW₁, X', ⟨g', mk, t, L, e1, e2, hq, h1, hL, h2, h3⟩, st⟩ | ⟨q, vm₁, ⟨U', l2, c2, s2⟩, hW₁, X', ⟨g', mk, t, L, E, ce, e1, e2, hq, hce, hcv, hcl, h1, hL, h2, h3⟩, st⟩
  · dsimp only [Pt.U, Pt.locs, Pt.cells, Pt.slots] at X' e1 e2 h1 h2 h3 st
    subst h1; subst h2; subst h3
    exact Or.inl ⟨v, (T.setVm vm₁).calling g' mk As.toArray, t, U', L, hT, X', hL, e1, e2, hq, st⟩
  · dsimp only [Pt.U, Pt.locs, Pt.cells, Pt.slots] at X' e1 e2 h1 h2 h3 st hcl
    subst h1; subst h2; subst h3
    exact Or.inr ⟨q, (T.setVm vm₁).calling g' mk As.toArray, t, U', L, E, ce, hT, X', hL, e1, e2, hq, hce, hcv, vx_cls hW₁ hcl, st⟩
end
end VXH
theorem vx_ofWH {l : Launch} {y : MethodName} {ws ws' : List Cond} {rm : Room} {Pc : Array Value → State → Prop} {Qc : Array Value → State → Outcome → State → Prop} {XC : String → State → State → Prop} {mc ms : Nat} {free : Addr → Prop} {cc : ByteArray} {maxL : Nat} {ret : Option FieldType} {hh : List (Nat × Nat × Nat × Nat)}
    (hy : plainName y.cls = true) (hw : ws = Cond.codeWith y cc maxL ret hh :: ws')
    (body : ∀ p e s m args below meth c s₁, BodyLoose p l y (headSpec ws rm) cc maxL ret e s m args below meth c s₁ → c.maxLocals = maxL → Pc args s →
      W p l e (headSpec ws rm).room s m args below meth c s.heap [] 0 0 (vx_MQ below Qc XC args s mc ms free) (entryFrame m args maxL)) : vx_Met l y ws rm Pc Qc XC mc ms free := by
  refine MetFree.of_bodyS (code := cc) (maxLocals := maxL) (ret := ret) hy ?_ ?_
  · intro args s m h hn
    obtain ⟨m9, meth, c, hn9, h1, h2, h3, h4, -, h5, h6, -⟩ := Cond.codeWith_spec (atoms_spec (ws := ws) h _ (by rw [hw]; exact List.mem_cons_self))
    cases hn.symm.trans hn9
    exact ⟨meth, c, h1, h2, h3, h4, h5, h6⟩
  · intro p e s m args below meth c s₁ B hml hP _
    have hh0 : s₁.heap = s.heap := by rw [B.state]; rfl
    obtain ⟨t, a1, o, b1, b2, b3⟩ := body p e s m args below meth c s₁ B hml hP s₁ hh0 (Stand.of_body B)
    exact ⟨t, o, a1, b1, b2, b3⟩
/-! ===== END ===== -/
end
section
/-! ===== BEGIN printed: names, fields, word lists, decode rows ===== -/
def RX0 : String := "BatchDoser$Bins"
def TX0 : u_T := fun k => match k with
  | 0 => ("BatchDoser$Bins", "margins", "[I", true)
  | 1 => ("BatchDoser$Bins", "flights", "[I", true)
  | 2 => ("BatchDoser$Bins", "registers", "[I", true)
  | _ => ("BatchDoser$Bins", "untraced", "[I", true)
def tyX0 : Nat → FieldType := fun k => match k with
  | 0 => .array .int
  | 1 => .array .int
  | 2 => .array .int
  | _ => .array .int
abbrev wsX00 : List Cond := u_ws RX0 TX0 4
theorem nmX0 : ∀ a, a < 4 → ∀ b, b < 4 → a ≠ b → (TX0 a).2.1 ≠ (TX0 b).2.1 := by decide +kernel
theorem tyX0_ok : ∀ k, k < 4 → parseFieldDescriptor (TX0 k).2.2.1 = some (tyX0 k) := by decide +kernel
abbrev cX0_init : ByteArray := prog_2_method_1_code
def yX0_init : MethodName := ⟨RX0, "<init>", "()V"⟩
abbrev cX0_learn : ByteArray := prog_2_method_2_code
def yX0_learn : MethodName := ⟨RX0, "learn", "(II)V"⟩
def RX1 : String := "BatchDoser$Dosing"
def TX1 : u_T := fun k => match k with
  | 0 => ("BatchDoser$Dosing", "scale", "LBatchDoser$Scale;", true)
  | 1 => ("BatchDoser$Dosing", "bins", "LBatchDoser$Bins;", true)
  | 2 => ("BatchDoser$Dosing", "lots", "LBatchDoser$Lots;", true)
  | 3 => ("BatchDoser$Dosing", "recipe", "LBatchDoser$Recipe;", true)
  | 4 => ("BatchDoser$Dosing", "state", "I", false)
  | 5 => ("BatchDoser$Dosing", "alarm", "I", false)
  | 6 => ("BatchDoser$Dosing", "heldState", "I", false)
  | 7 => ("BatchDoser$Dosing", "stateTicks", "I", false)
  | 8 => ("BatchDoser$Dosing", "idleTicks", "I", false)
  | 9 => ("BatchDoser$Dosing", "step", "I", false)
  | 10 => ("BatchDoser$Dosing", "jogs", "I", false)
  | 11 => ("BatchDoser$Dosing", "greatestNet", "I", false)
  | 12 => ("BatchDoser$Dosing", "isTared", "Z", false)
  | 13 => ("BatchDoser$Dosing", "isWeighed", "Z", false)
  | 14 => ("BatchDoser$Dosing", "started", "I", false)
  | _ => ("BatchDoser$Dosing", "finished", "I", false)
def tyX1 : Nat → FieldType := fun k => match k with
  | 0 => .object "BatchDoser$Scale"
  | 1 => .object "BatchDoser$Bins"
  | 2 => .object "BatchDoser$Lots"
  | 3 => .object "BatchDoser$Recipe"
  | 4 => .int
  | 5 => .int
  | 6 => .int
  | 7 => .int
  | 8 => .int
  | 9 => .int
  | 10 => .int
  | 11 => .int
  | 12 => .boolean
  | 13 => .boolean
  | 14 => .int
  | _ => .int
abbrev wsX10 : List Cond := u_ws RX1 TX1 16
theorem nmX1 : ∀ a, a < 16 → ∀ b, b < 16 → a ≠ b → (TX1 a).2.1 ≠ (TX1 b).2.1 := by decide +kernel
theorem tyX1_ok : ∀ k, k < 16 → parseFieldDescriptor (TX1 k).2.2.1 = some (tyX1 k) := by decide +kernel
abbrev cX1_init : ByteArray := prog_3_method_1_code
def yX1_init : MethodName := ⟨RX1, "<init>", "()V"⟩
abbrev cX1_bring : ByteArray := prog_3_method_2_code
def yX1_bring : MethodName := ⟨RX1, "bring", "(I)V"⟩
abbrev cX1_gateOf : ByteArray := prog_3_method_3_code
def yX1_gateOf : MethodName := ⟨RX1, "gateOf", "(I)I"⟩
abbrev cX1_startBatch : ByteArray := prog_3_method_4_code
def yX1_startBatch : MethodName := ⟨RX1, "startBatch", "()I"⟩
abbrev cX1_halt : ByteArray := prog_3_method_5_code
def yX1_halt : MethodName := ⟨RX1, "halt", "(I)V"⟩
abbrev cX1_goOn : ByteArray := prog_3_method_6_code
def yX1_goOn : MethodName := ⟨RX1, "goOn", "()V"⟩
abbrev cX1_breakOff : ByteArray := prog_3_method_7_code
def yX1_breakOff : MethodName := ⟨RX1, "breakOff", "()I"⟩
abbrev cX1_tareStep : ByteArray := prog_3_method_8_code
def yX1_tareStep : MethodName := ⟨RX1, "tareStep", "()V"⟩
abbrev cX1_feed : ByteArray := prog_3_method_9_code
def yX1_feed : MethodName := ⟨RX1, "feed", "()V"⟩
abbrev cX1_weigh : ByteArray := prog_3_method_10_code
def yX1_weigh : MethodName := ⟨RX1, "weigh", "()V"⟩
abbrev cX1_jog : ByteArray := prog_3_method_11_code
def yX1_jog : MethodName := ⟨RX1, "jog", "()V"⟩
abbrev cX1_finishStep : ByteArray := prog_3_method_12_code
def yX1_finishStep : MethodName := ⟨RX1, "finishStep", "()V"⟩
abbrev cX1_beginStep : ByteArray := prog_3_method_13_code
def yX1_beginStep : MethodName := ⟨RX1, "beginStep", "(I)V"⟩
abbrev cX1_enter : ByteArray := prog_3_method_14_code
def yX1_enter : MethodName := ⟨RX1, "enter", "(I)V"⟩
abbrev cX1_bookNet : ByteArray := prog_3_method_15_code
def yX1_bookNet : MethodName := ⟨RX1, "bookNet", "()I"⟩
abbrev cX1_stepBin : ByteArray := prog_3_method_16_code
def yX1_stepBin : MethodName := ⟨RX1, "stepBin", "()I"⟩
abbrev cX1_target : ByteArray := prog_3_method_17_code
def yX1_target : MethodName := ⟨RX1, "target", "()I"⟩
def RX2 : String := "BatchDoser$Lots"
def TX2 : u_T := fun k => match k with
  | 0 => ("BatchDoser$Lots", "binOf", "[I", true)
  | 1 => ("BatchDoser$Lots", "filled", "[I", true)
  | 2 => ("BatchDoser$Lots", "left", "[I", true)
  | 3 => ("BatchDoser$Lots", "usage", "[I", true)
  | _ => ("BatchDoser$Lots", "count", "I", false)
def tyX2 : Nat → FieldType := fun k => match k with
  | 0 => .array .int
  | 1 => .array .int
  | 2 => .array .int
  | 3 => .array .int
  | _ => .int
abbrev wsX20 : List Cond := u_ws RX2 TX2 5
theorem nmX2 : ∀ a, a < 5 → ∀ b, b < 5 → a ≠ b → (TX2 a).2.1 ≠ (TX2 b).2.1 := by decide +kernel
theorem tyX2_ok : ∀ k, k < 5 → parseFieldDescriptor (TX2 k).2.2.1 = some (tyX2 k) := by decide +kernel
abbrev cX2_init : ByteArray := prog_4_method_1_code
def yX2_init : MethodName := ⟨RX2, "<init>", "()V"⟩
abbrev cX2_store : ByteArray := prog_4_method_2_code
def yX2_store : MethodName := ⟨RX2, "store", "(II)I"⟩
abbrev cX2_takeOut : ByteArray := prog_4_method_3_code
def yX2_takeOut : MethodName := ⟨RX2, "takeOut", "(III)I"⟩
abbrev cX2_leftIn : ByteArray := prog_4_method_4_code
def yX2_leftIn : MethodName := ⟨RX2, "leftIn", "(I)I"⟩
abbrev cX2_goneFrom : ByteArray := prog_4_method_5_code
def yX2_goneFrom : MethodName := ⟨RX2, "goneFrom", "(I)I"⟩
abbrev cX2_usedFor : ByteArray := prog_4_method_6_code
def yX2_usedFor : MethodName := ⟨RX2, "usedFor", "(II)I"⟩
abbrev cX2_firstBatchOf : ByteArray := prog_4_method_7_code
def yX2_firstBatchOf : MethodName := ⟨RX2, "firstBatchOf", "(II)I"⟩
abbrev cX2_place : ByteArray := prog_4_method_8_code
def yX2_place : MethodName := ⟨RX2, "place", "(II)I"⟩
def RX3 : String := "BatchDoser$Recipe"
def TX3 : u_T := fun k => match k with
  | 0 => ("BatchDoser$Recipe", "stepBins", "[I", true)
  | 1 => ("BatchDoser$Recipe", "targets", "[I", true)
  | 2 => ("BatchDoser$Recipe", "tolerances", "[I", true)
  | _ => ("BatchDoser$Recipe", "count", "I", false)
def tyX3 : Nat → FieldType := fun k => match k with
  | 0 => .array .int
  | 1 => .array .int
  | 2 => .array .int
  | _ => .int
abbrev wsX30 : List Cond := u_ws RX3 TX3 4
theorem nmX3 : ∀ a, a < 4 → ∀ b, b < 4 → a ≠ b → (TX3 a).2.1 ≠ (TX3 b).2.1 := by decide +kernel
theorem tyX3_ok : ∀ k, k < 4 → parseFieldDescriptor (TX3 k).2.2.1 = some (tyX3 k) := by decide +kernel
abbrev cX3_init : ByteArray := prog_5_method_1_code
def yX3_init : MethodName := ⟨RX3, "<init>", "()V"⟩
abbrev cX3_append : ByteArray := prog_5_method_2_code
def yX3_append : MethodName := ⟨RX3, "append", "(III)V"⟩
def RX4 : String := "BatchDoser$Scale"
def TX4 : u_T := fun k => match k with
  | 0 => ("BatchDoser$Scale", "zeroPoint", "I", false)
  | 1 => ("BatchDoser$Scale", "tare", "I", false)
  | 2 => ("BatchDoser$Scale", "width", "I", false)
  | 3 => ("BatchDoser$Scale", "arrived", "I", false)
  | 4 => ("BatchDoser$Scale", "latest", "I", false)
  | 5 => ("BatchDoser$Scale", "second", "I", false)
  | 6 => ("BatchDoser$Scale", "third", "I", false)
  | _ => ("BatchDoser$Scale", "fourth", "I", false)
def tyX4 : Nat → FieldType := fun k => match k with
  | 0 => .int
  | 1 => .int
  | 2 => .int
  | 3 => .int
  | 4 => .int
  | 5 => .int
  | 6 => .int
  | _ => .int
abbrev wsX40 : List Cond := u_ws RX4 TX4 8
theorem nmX4 : ∀ a, a < 8 → ∀ b, b < 8 → a ≠ b → (TX4 a).2.1 ≠ (TX4 b).2.1 := by decide +kernel
theorem tyX4_ok : ∀ k, k < 8 → parseFieldDescriptor (TX4 k).2.2.1 = some (tyX4 k) := by decide +kernel
abbrev cX4_init : ByteArray := prog_6_method_1_code
def yX4_init : MethodName := ⟨RX4, "<init>", "()V"⟩
abbrev cX4_take : ByteArray := prog_6_method_2_code
def yX4_take : MethodName := ⟨RX4, "take", "(I)V"⟩
abbrev cX4_isCalm : ByteArray := prog_6_method_3_code
def yX4_isCalm : MethodName := ⟨RX4, "isCalm", "()Z"⟩
abbrev cX4_grossNow : ByteArray := prog_6_method_4_code
def yX4_grossNow : MethodName := ⟨RX4, "grossNow", "()I"⟩
abbrev cX4_netNow : ByteArray := prog_6_method_5_code
def yX4_netNow : MethodName := ⟨RX4, "netNow", "()I"⟩
abbrev cX4_trackZero : ByteArray := prog_6_method_6_code
def yX4_trackZero : MethodName := ⟨RX4, "trackZero", "()V"⟩
def RX5 : String := "BatchDoser"
def TX5 : u_T := fun k => match k with
  | 0 => ("BatchDoser", "dosing", "LBatchDoser$Dosing;", true)
  | 1 => ("BatchDoser", "scale", "LBatchDoser$Scale;", true)
  | 2 => ("BatchDoser", "bins", "LBatchDoser$Bins;", true)
  | 3 => ("BatchDoser", "lots", "LBatchDoser$Lots;", true)
  | 4 => ("BatchDoser", "recipe", "LBatchDoser$Recipe;", true)
  | _ => ("BatchDoser", "carriedThousandths", "J", false)
def tyX5 : Nat → FieldType := fun k => match k with
  | 0 => .object "BatchDoser$Dosing"
  | 1 => .object "BatchDoser$Scale"
  | 2 => .object "BatchDoser$Bins"
  | 3 => .object "BatchDoser$Lots"
  | 4 => .object "BatchDoser$Recipe"
  | _ => .long
abbrev wsX50 : List Cond := u_ws RX5 TX5 6
theorem nmX5 : ∀ a, a < 6 → ∀ b, b < 6 → a ≠ b → (TX5 a).2.1 ≠ (TX5 b).2.1 := by decide +kernel
theorem tyX5_ok : ∀ k, k < 6 → parseFieldDescriptor (TX5 k).2.2.1 = some (tyX5 k) := by decide +kernel
abbrev cX5_init : ByteArray := prog_1_method_1_code
def yX5_init : MethodName := ⟨RX5, "<init>", "()V"⟩
abbrev cX5_tick : ByteArray := prog_1_method_2_code
def yX5_tick : MethodName := ⟨RX5, "tick", "(I)I"⟩
abbrev cX5_ticks : ByteArray := prog_1_method_3_code
def yX5_ticks : MethodName := ⟨RX5, "ticks", "(II)I"⟩
abbrev cX5_zero : ByteArray := prog_1_method_4_code
def yX5_zero : MethodName := ⟨RX5, "zero", "()I"⟩
abbrev cX5_setBand : ByteArray := prog_1_method_5_code
def yX5_setBand : MethodName := ⟨RX5, "setBand", "(I)I"⟩
abbrev cX5_gross : ByteArray := prog_1_method_6_code
def yX5_gross : MethodName := ⟨RX5, "gross", "()I"⟩
abbrev cX5_net : ByteArray := prog_1_method_7_code
def yX5_net : MethodName := ⟨RX5, "net", "()I"⟩
abbrev cX5_isSettled : ByteArray := prog_1_method_8_code
def yX5_isSettled : MethodName := ⟨RX5, "isSettled", "()Z"⟩
abbrev cX5_fill : ByteArray := prog_1_method_9_code
def yX5_fill : MethodName := ⟨RX5, "fill", "(II)I"⟩
abbrev cX5_setMargin : ByteArray := prog_1_method_10_code
def yX5_setMargin : MethodName := ⟨RX5, "setMargin", "(II)I"⟩
abbrev cX5_flight : ByteArray := prog_1_method_11_code
def yX5_flight : MethodName := ⟨RX5, "flight", "(I)I"⟩
abbrev cX5_gate : ByteArray := prog_1_method_12_code
def yX5_gate : MethodName := ⟨RX5, "gate", "(I)I"⟩
abbrev cX5_stock : ByteArray := prog_1_method_13_code
def yX5_stock : MethodName := ⟨RX5, "stock", "(I)I"⟩
abbrev cX5_register : ByteArray := prog_1_method_14_code
def yX5_register : MethodName := ⟨RX5, "register", "(I)I"⟩
abbrev cX5_registerByLots : ByteArray := prog_1_method_15_code
def yX5_registerByLots : MethodName := ⟨RX5, "registerByLots", "(I)I"⟩
abbrev cX5_leftOf : ByteArray := prog_1_method_16_code
def yX5_leftOf : MethodName := ⟨RX5, "leftOf", "(I)I"⟩
abbrev cX5_firstBatch : ByteArray := prog_1_method_17_code
def yX5_firstBatch : MethodName := ⟨RX5, "firstBatch", "(I)I"⟩
abbrev cX5_used : ByteArray := prog_1_method_18_code
def yX5_used : MethodName := ⟨RX5, "used", "(II)I"⟩
abbrev cX5_addStep : ByteArray := prog_1_method_19_code
def yX5_addStep : MethodName := ⟨RX5, "addStep", "(III)I"⟩
abbrev cX5_start : ByteArray := prog_1_method_21_code
def yX5_start : MethodName := ⟨RX5, "start", "()I"⟩
abbrev cX5_hold : ByteArray := prog_1_method_22_code
def yX5_hold : MethodName := ⟨RX5, "hold", "()I"⟩
abbrev cX5_resume : ByteArray := prog_1_method_23_code
def yX5_resume : MethodName := ⟨RX5, "resume", "()I"⟩
abbrev cX5_abort : ByteArray := prog_1_method_24_code
def yX5_abort : MethodName := ⟨RX5, "abort", "()I"⟩
abbrev cX5_state : ByteArray := prog_1_method_25_code
def yX5_state : MethodName := ⟨RX5, "state", "()I"⟩
abbrev cX5_alarm : ByteArray := prog_1_method_26_code
def yX5_alarm : MethodName := ⟨RX5, "alarm", "()I"⟩
abbrev cX5_step : ByteArray := prog_1_method_27_code
def yX5_step : MethodName := ⟨RX5, "step", "()I"⟩
abbrev cX5_jogs : ByteArray := prog_1_method_28_code
def yX5_jogs : MethodName := ⟨RX5, "jogs", "()I"⟩
abbrev cX5_batches : ByteArray := prog_1_method_29_code
def yX5_batches : MethodName := ⟨RX5, "batches", "()I"⟩
abbrev cX5_done : ByteArray := prog_1_method_30_code
def yX5_done : MethodName := ⟨RX5, "done", "()I"⟩
abbrev cX5_belt : ByteArray := prog_1_method_31_code
def yX5_belt : MethodName := ⟨RX5, "belt", "(III)J"⟩
abbrev cX5_needLot : ByteArray := prog_1_method_32_code
def yX5_needLot : MethodName := ⟨RX5, "needLot", "(I)V"⟩
abbrev cX5_needBatch : ByteArray := prog_1_method_33_code
def yX5_needBatch : MethodName := ⟨RX5, "needBatch", "(I)V"⟩
abbrev cX5_needBin : ByteArray := prog_1_method_34_code
def yX5_needBin : MethodName := ⟨RX5, "needBin", "(I)V"⟩
abbrev cX5_needReading : ByteArray := prog_1_method_35_code
def yX5_needReading : MethodName := ⟨RX5, "needReading", "(I)V"⟩
abbrev cX5_needArgument : ByteArray := prog_1_method_36_code
def yX5_needArgument : MethodName := ⟨RX5, "needArgument", "(Z)V"⟩
abbrev cX5_needState : ByteArray := prog_1_method_37_code
def yX5_needState : MethodName := ⟨RX5, "needState", "(Z)V"⟩
abbrev cX5_isWithin : ByteArray := prog_1_method_38_code
def yX5_isWithin : MethodName := ⟨RX5, "isWithin", "(III)Z"⟩
abbrev cX5_at : ByteArray := prog_1_method_39_code
def yX5_at : MethodName := ⟨RX5, "at", "([II)I"⟩
abbrev cX5_put : ByteArray := prog_1_method_40_code
def yX5_put : MethodName := ⟨RX5, "put", "([III)V"⟩
abbrev cX5_increase : ByteArray := prog_1_method_41_code
def yX5_increase : MethodName := ⟨RX5, "increase", "([III)V"⟩
def RX6 : String := "BatchDoserModel"
def TX6 : u_T := fun k => match k with
  | _ => ("", "", "", false)
def tyX6 : Nat → FieldType := fun k => match k with
  | _ => .int
abbrev wsX60 : List Cond := u_ws RX6 TX6 0
theorem nmX6 : ∀ a, a < 0 → ∀ b, b < 0 → a ≠ b → (TX6 a).2.1 ≠ (TX6 b).2.1 := by decide +kernel
theorem tyX6_ok : ∀ k, k < 0 → parseFieldDescriptor (TX6 k).2.2.1 = some (tyX6 k) := by decide +kernel
def RJ9 : String := "java/lang/Math"
def TJ9 : u_T := fun k => match k with
  | _ => ("", "", "", false)
def tyJ9 : Nat → FieldType := fun k => match k with
  | _ => .int
abbrev wsJ90 : List Cond := u_ws RJ9 TJ9 0
theorem nmJ9 : ∀ a, a < 0 → ∀ b, b < 0 → a ≠ b → (TJ9 a).2.1 ≠ (TJ9 b).2.1 := by decide +kernel
theorem tyJ9_ok : ∀ k, k < 0 → parseFieldDescriptor (TJ9 k).2.2.1 = some (tyJ9 k) := by decide +kernel
abbrev cJ9_floorDiv_7cf53 : ByteArray := prog_13_method_47_code
def yJ9_floorDiv_7cf53 : MethodName := ⟨RJ9, "floorDiv", "(II)I"⟩
abbrev cJ9_max_7cf53 : ByteArray := prog_13_method_65_code
def yJ9_max_7cf53 : MethodName := ⟨RJ9, "max", "(II)I"⟩
abbrev cJ9_min_7cf53 : ByteArray := prog_13_method_69_code
def yJ9_min_7cf53 : MethodName := ⟨RJ9, "min", "(II)I"⟩
def RJ0 : String := "java/lang/String"
def TJ0 : u_T := fun k => match k with
  | _ => ("", "", "", false)
def tyJ0 : Nat → FieldType := fun k => match k with
  | _ => .int
abbrev wsJ00 : List Cond := u_ws RJ0 TJ0 0
theorem nmJ0 : ∀ a, a < 0 → ∀ b, b < 0 → a ≠ b → (TJ0 a).2.1 ≠ (TJ0 b).2.1 := by decide +kernel
theorem tyJ0_ok : ∀ k, k < 0 → parseFieldDescriptor (TJ0 k).2.2.1 = some (tyJ0 k) := by decide +kernel
def RL : String := "BatchDoserLaw"
abbrev cL_from : ByteArray := method_2_code
def yL_from : MethodName := ⟨RL, "from", "([III)I"⟩
abbrev cL_isSettled : ByteArray := method_3_code
def yL_isSettled : MethodName := ⟨RL, "isSettled", "([I)Z"⟩
abbrev cL_net : ByteArray := method_4_code
def yL_net : MethodName := ⟨RL, "net", "([I)I"⟩
abbrev cL_turn : ByteArray := method_5_code
def yL_turn : MethodName := ⟨RL, "turn", "([II)V"⟩
abbrev cL_stop : ByteArray := method_6_code
def yL_stop : MethodName := ⟨RL, "stop", "([II)V"⟩
abbrev cL_book : ByteArray := method_7_code
def yL_book : MethodName := ⟨RL, "book", "([I[I[I[I[I[II)I"⟩
abbrev cL_next : ByteArray := method_8_code
def yL_next : MethodName := ⟨RL, "next", "([II)V"⟩
abbrev cL_end : ByteArray := method_9_code
def yL_end : MethodName := ⟨RL, "end", "([I[I[I[I[I[II)V"⟩
abbrev cL_weigh : ByteArray := method_10_code
def yL_weigh : MethodName := ⟨RL, "weigh", "([I[I[I[I[I[II)V"⟩
abbrev cL_bring : ByteArray := method_11_code
def yL_bring : MethodName := ⟨RL, "bring", "([I[I[I[I[I[III)V"⟩
abbrev cL_isTold : ByteArray := method_12_code
def yL_isTold : MethodName := ⟨RL, "isTold", "(LBatchDoser;[I[I[I[I[I[II)Z"⟩
abbrev cL_resumed : ByteArray := method_13_code
def yL_resumed : MethodName := ⟨RL, "resumed", "(LBatchDoser;)I"⟩
abbrev cL_held : ByteArray := method_14_code
def yL_held : MethodName := ⟨RL, "held", "(LBatchDoser;)I"⟩
abbrev cL_aborted : ByteArray := method_15_code
def yL_aborted : MethodName := ⟨RL, "aborted", "(LBatchDoser;)I"⟩
abbrev cL_started : ByteArray := method_16_code
def yL_started : MethodName := ⟨RL, "started", "(LBatchDoser;)I"⟩
abbrev cL_zeroed : ByteArray := method_17_code
def yL_zeroed : MethodName := ⟨RL, "zeroed", "(LBatchDoser;)I"⟩
abbrev cL_acts : ByteArray := method_18_code
def yL_acts : MethodName := ⟨RL, "acts", "(LBatchDoser;[I[I[I[I[I[IIII)Z"⟩
abbrev cL_holds : ByteArray := method_19_code
def yL_holds : MethodName := ⟨RL, "holds", "([I)Z"⟩
abbrev cL_isHeld : ByteArray := method_20_code
def yL_isHeld : MethodName := ⟨RL, "isHeld", "([I)Z"⟩
abbrev cL_law : ByteArray := code
def yL_law : MethodName := ⟨RL, "law", "([I)Z"⟩
end
section
/-! the claim's own tables for the mini machine -/
abbrev m_cl : List vw_C := [(RX0, TX0, 4), (RX1, TX1, 16), (RX2, TX2, 5), (RX3, TX3, 4), (RX4, TX4, 8), (RX5, TX5, 6)]
def m_str : List (String × Nat × String) := [("BatchDoser", 193, "no such bin"), ("BatchDoser", 197, "out of range"), ("BatchDoser", 202, "not now"), ("BatchDoser", 186, "no such lot"), ("BatchDoser", 191, "no such batch")]
theorem m_mat0 : Cond.initialized "java/lang/Math" ∈ lw_tbl := List.mem_append_right _ (List.mem_of_getElem? (i := 13) (by decide +kernel))
theorem m_max10 : Cond.static Lib.Math.max.name ∈ lw_tbl := List.mem_append_right _ (List.mem_of_getElem? (i := 436) (by decide +kernel))
theorem m_max20 : Cond.code Lib.Math.max.name Lib.Math.max.code 2 (some .int) ∈ lw_tbl := List.mem_append_right _ (List.mem_of_getElem? (i := 437) (by decide +kernel))
theorem m_min10 : Cond.static Lib.Math.min.name ∈ lw_tbl := List.mem_append_right _ (List.mem_of_getElem? (i := 451) (by decide +kernel))
theorem m_min20 : Cond.code Lib.Math.min.name Lib.Math.min.code 2 (some .int) ∈ lw_tbl := List.mem_append_right _ (List.mem_of_getElem? (i := 452) (by decide +kernel))
theorem m_obj10 : Cond.instanceMethod Lib.objectInit ∈ lw_tbl := List.mem_append_right _ (List.mem_of_getElem? (i := 29) (by decide +kernel))
theorem m_obj20 : Cond.code Lib.objectInit ⟨#[0xb1]⟩ 1 none ∈ lw_tbl := List.mem_append_right _ (List.mem_of_getElem? (i := 30) (by decide +kernel))
theorem m_inX0 : ∀ w ∈ u_ws RX0 TX0 4, w ∈ lw_tbl := by decide +kernel
theorem m_igX0 : ∀ w ∈ u_ws RX0 TX0 4, goodWord w = true := by decide +kernel
theorem m_inX1 : ∀ w ∈ u_ws RX1 TX1 16, w ∈ lw_tbl := by decide +kernel
theorem m_igX1 : ∀ w ∈ u_ws RX1 TX1 16, goodWord w = true := by decide +kernel
theorem m_inX2 : ∀ w ∈ u_ws RX2 TX2 5, w ∈ lw_tbl := by decide +kernel
theorem m_igX2 : ∀ w ∈ u_ws RX2 TX2 5, goodWord w = true := by decide +kernel
theorem m_inX3 : ∀ w ∈ u_ws RX3 TX3 4, w ∈ lw_tbl := by decide +kernel
theorem m_igX3 : ∀ w ∈ u_ws RX3 TX3 4, goodWord w = true := by decide +kernel
theorem m_inX4 : ∀ w ∈ u_ws RX4 TX4 8, w ∈ lw_tbl := by decide +kernel
theorem m_igX4 : ∀ w ∈ u_ws RX4 TX4 8, goodWord w = true := by decide +kernel
theorem m_inX5 : ∀ w ∈ u_ws RX5 TX5 6, w ∈ lw_tbl := by decide +kernel
theorem m_igX5 : ∀ w ∈ u_ws RX5 TX5 6, goodWord w = true := by decide +kernel
end
section
section MI
/-! ===== the mini machine: objects and arrays have numbers, references are numbers; the kit's rows over it ===== -/
def m_isN : Cond → Bool
  | .fieldLinkNest .. => true
  | .methodLinkNest .. => true
  | .castable .. => true
  | .declares .. => true
  | _ => false
def m_ws : List Cond := lw_tbl.filter goodWord
def m_nw : List Cond := lw_tbl.filter m_isN
theorem m_ws_in {w : Cond} (h : w ∈ lw_tbl) (g : goodWord w = true) : w ∈ m_ws := List.mem_filter.mpr ⟨h, g⟩
theorem m_nw_in {w : Cond} (h : w ∈ lw_tbl) (g : m_isN w = true) : w ∈ m_nw := List.mem_filter.mpr ⟨h, g⟩
theorem m_ws_good {w : Cond} (h : w ∈ m_ws) : goodWord w = true := (List.mem_filter.mp h).2
theorem m_nw_is {w : Cond} (h : w ∈ m_nw) : m_isN w = true := (List.mem_filter.mp h).2
theorem m_isN_on {w : Cond} (h : m_isN w = true) : w.onTables = true := by
  cases w <;> first | rfl | (simp [m_isN] at h; done)
theorem m_Nw_warm {w : Cond} (hN : m_isN w = true) {s U : State} (hW : s.WarmedH U.vm) (h : va_Nw w s) : va_Nw w U := by
  cases w <;> first
    | (simp [m_isN] at hN; done)
    | exact va_Nw.warmF hW h
    | exact va_Nw.warmM hW h
    | exact va_Nw.warmD hW h
    | exact va_tabs rfl (rfl : (s.setVm U.vm).vm = U.vm) (by rw [Cond.castable_setVm hW.alike]; exact h)
theorem m_mat : Cond.initialized "java/lang/Math" ∈ m_ws := m_ws_in m_mat0 rfl
theorem m_max1 : Cond.static Lib.Math.max.name ∈ m_ws := m_ws_in m_max10 rfl
theorem m_max2 : Cond.code Lib.Math.max.name Lib.Math.max.code 2 (some .int) ∈ m_ws := m_ws_in m_max20 rfl
theorem m_min1 : Cond.static Lib.Math.min.name ∈ m_ws := m_ws_in m_min10 rfl
theorem m_min2 : Cond.code Lib.Math.min.name Lib.Math.min.code 2 (some .int) ∈ m_ws := m_ws_in m_min20 rfl
theorem m_obj1 : Cond.instanceMethod Lib.objectInit ∈ m_ws := m_ws_in m_obj10 rfl
theorem m_obj2 : Cond.code Lib.objectInit ⟨#[0xb1]⟩ 1 none ∈ m_ws := m_ws_in m_obj20 rfl
theorem m_cl_ok : ∀ (ci : Nat) (C : String) (T : u_T) (N : Nat), m_cl[ci]? = some (C, T, N) → (∀ w ∈ u_ws C T N, w ∈ m_ws) ∧ ∃ ty0 : Nat → FieldType, (∀ k, k < N → parseFieldDescriptor (T k).2.2.1 = some (ty0 k)) ∧ ∀ a, a < N → ∀ b, b < N → a ≠ b → (T a).2.1 ≠ (T b).2.1 := by
  intro ci C T N h
  match ci, h with
  | 0, h => cases h; exact ⟨fun w hw => m_ws_in (m_inX0 w hw) (m_igX0 w hw), tyX0, tyX0_ok, nmX0⟩
  | 1, h => cases h; exact ⟨fun w hw => m_ws_in (m_inX1 w hw) (m_igX1 w hw), tyX1, tyX1_ok, nmX1⟩
  | 2, h => cases h; exact ⟨fun w hw => m_ws_in (m_inX2 w hw) (m_igX2 w hw), tyX2, tyX2_ok, nmX2⟩
  | 3, h => cases h; exact ⟨fun w hw => m_ws_in (m_inX3 w hw) (m_igX3 w hw), tyX3, tyX3_ok, nmX3⟩
  | 4, h => cases h; exact ⟨fun w hw => m_ws_in (m_inX4 w hw) (m_igX4 w hw), tyX4, tyX4_ok, nmX4⟩
  | 5, h => cases h; exact ⟨fun w hw => m_ws_in (m_inX5 w hw) (m_igX5 w hw), tyX5, tyX5_ok, nmX5⟩
  | k + 6, h => cases h
/-- what a start gives beside the good words: the nest mates' words, the texts, two statics -/
def m_Env (A : Nat → Prop) (sa : Nat → Nat) (U : State) (H : Heap) : Prop :=
  (∀ w ∈ m_nw, va_Nw w U) ∧ (∀ (k : Nat) (q : String × Nat × String), m_str[k]? = some q → vk_R q.1 q.2.1 q.2.2 (sa k) U) ∧ vx_Zq Bundle.tN "UNASSIGNED_STACK" Bundle.steD A U H ∧ vx_Zq Bundle.tN "SUPPRESSED_SENTINEL" Bundle.listD A U H
theorem m_Env_same {A : Nat → Prop} {sa : Nat → Nat} {u U : State} {H : Heap} (h : u.vm = U.vm) (hE : m_Env A sa u H) : m_Env A sa U H :=
  ⟨fun w hw => va_Nw.same (m_isN_on (m_nw_is hw)) h (hE.1 w hw), fun k q hq => vk_R.same h.symm (hE.2.1 k q hq), vx_Zq.moved (by rw [← h]; exact Vm.Alike.refl _) hE.2.2.1, vx_Zq.moved (by rw [← h]; exact Vm.Alike.refl _) hE.2.2.2⟩
/-- the callee's: warmed, another heap, fewer cells that may change -/
theorem m_Env_for {A B : Nat → Prop} {sa : Nat → Nat} {s U : State} {H : Heap} {locs : List Loc} (hE : m_Env A sa s s.heap) (hS : va_S A s.heap H locs) (hW : s.WarmedH U.vm) (hAB : ∀ q, B q → A q) : m_Env B sa U H :=
  ⟨fun w hw => m_Nw_warm (m_nw_is hw) hW (hE.1 w hw), fun k q hq => vk_R.warm hW (hE.2.1 k q hq), (vx_Zq.moved hW.alike (hE.2.2.1.kept hS.2.1)).narrow hAB, (vx_Zq.moved hW.alike (hE.2.2.2.kept hS.2.1)).narrow hAB⟩
abbrev m_E : Type := vp_A ⊕ (Nat × List Value)
abbrev m_H : Type := List m_E
abbrev m_ia (n : Nat) (f : Nat → Int32) : m_E := .inl (n, .inl f)
abbrev m_la (n : Nat) (f : Nat → Int64) : m_E := .inl (n, .inr (.inl f))
abbrev m_ob (ci : Nat) (fs : List Value) : m_E := .inr (ci, fs)
def m_v (ad : Nat → Nat) : Value → Value
  | .ref q => .ref (ad q)
  | v => v
theorem m_v_cat (ad : Nat → Nat) (v : Value) : (m_v ad v).category = v.category := by cases v <;> rfl
theorem m_v_cats (ad : Nat → Nat) (l : List Value) : ((l.map (m_v ad)).map fun v => v.category) = l.map fun v => v.category := by
  rw [List.map_map]; exact List.map_congr_left fun v _ => m_v_cat ad v
def m_kc (cI cL : ClassId) (a : vp_A) : ClassId := match a.2 with
  | .inl _ => cI
  | _ => cL
def m_c (cI cL : ClassId) (ad : Nat → Nat) : m_E → va_E
  | .inl a => .inl (m_kc cI cL a, a)
  | .inr o => .inr (o.1, o.2.map (m_v ad))
def m_w (cI cL : ClassId) (ad : Nat → Nat) (h : m_H) : va_W := h.mapIdx (fun i c => (ad i, m_c cI cL ad c))
theorem m_w_get {cI cL : ClassId} {ad : Nat → Nat} {h : m_H} (i : Nat) : (m_w cI cL ad h)[i]? = (h[i]?).map (fun c => (ad i, m_c cI cL ad c)) := by simp [m_w]
theorem m_w_at {cI cL : ClassId} {ad : Nat → Nat} {h : m_H} {i : Nat} {c : m_E} (hi : h[i]? = some c) : (m_w cI cL ad h)[i]? = some (ad i, m_c cI cL ad c) := by rw [m_w_get, hi]; rfl
theorem m_w_set {cI cL : ClassId} {ad : Nat → Nat} {h : m_H} (i : Nat) (c : m_E) : (m_w cI cL ad h).set i (ad i, m_c cI cL ad c) = m_w cI cL ad (h.set i c) := by
  apply List.ext_getElem?
  intro j
  rw [m_w_get, List.getElem?_set, List.getElem?_set, m_w_get]
  have hlen : (m_w cI cL ad h).length = h.length := by simp [m_w]
  by_cases hij : i = j
  · subst hij
    simp only [if_true, hlen]
    by_cases hl : i < h.length <;> simp [hl]
  · simp only [if_neg hij]
theorem m_w_app {cI cL : ClassId} {ad : Nat → Nat} {h : m_H} (c : m_E) : m_w cI cL ad (h ++ [c]) = m_w cI cL ad h ++ [(ad h.length, m_c cI cL ad c)] := by
  simp [m_w, List.mapIdx_append]
theorem m_w_in {cI cL : ClassId} {ad : Nat → Nat} {h : m_H} {k : Nat} {q : Nat × va_E} (hk : (m_w cI cL ad h)[k]? = some q) : ∃ c, h[k]? = some c ∧ q = (ad k, m_c cI cL ad c) := by
  rw [m_w_get] at hk
  cases hc : h[k]? with
  | none => rw [hc] at hk; cases hk
  | some c => rw [hc] at hk; exact ⟨c, rfl, (Option.some.inj hk).symm⟩
def m_tys (cI _cL : ClassId) : List (ClassId × FieldType) := [(cI, .int)]
/-- references stay below a number -/
def m_rv (n : Nat) : Value → Bool
  | .ref q => decide (q < n)
  | _ => true
def m_rc (n : Nat) : m_E → Bool
  | .inl _ => true
  | .inr o => o.2.all (m_rv n)
def m_rb (n : Nat) (ls : List (Nat × Value)) (st : List Value) : Bool := ls.all (fun q => m_rv n q.2) && st.all (m_rv n)
theorem m_v_same {n : Nat} {ad ad' : Nat → Nat} (hag : ∀ i, i < n → ad' i = ad i) {v : Value} (hv : m_rv n v = true) : m_v ad' v = m_v ad v := by
  cases v <;> first | rfl | (simp only [m_rv, decide_eq_true_eq] at hv; simp only [m_v]; rw [hag _ hv])
theorem m_st_same {n : Nat} {ad ad' : Nat → Nat} (hag : ∀ i, i < n → ad' i = ad i) {st : List Value} (hv : st.all (m_rv n) = true) : st.map (m_v ad') = st.map (m_v ad) :=
  List.map_congr_left fun v h => m_v_same hag (List.all_eq_true.mp hv v h)
theorem m_ls_same {n : Nat} {ad ad' : Nat → Nat} (hag : ∀ i, i < n → ad' i = ad i) {ls : List (Nat × Value)} (hv : ls.all (fun q => m_rv n q.2) = true) : ls.map (fun q => (q.1, m_v ad' q.2)) = ls.map (fun q => (q.1, m_v ad q.2)) :=
  List.map_congr_left fun q h => by rw [m_v_same hag (List.all_eq_true.mp hv q h)]
theorem m_w_same {cI cL : ClassId} {n : Nat} {ad ad' : Nat → Nat} (hag : ∀ i, i < n → ad' i = ad i) {h : m_H} (hn : h.length ≤ n) (hv : h.all (m_rc n) = true) : m_w cI cL ad' h = m_w cI cL ad h := by
  apply List.ext_getElem?
  intro j
  rw [m_w_get, m_w_get]
  cases hc : h[j]? with
  | none => rfl
  | some c =>
    have hj : j < n := Nat.lt_of_lt_of_le (List.getElem?_eq_some_iff.mp hc).1 hn
    have hrc := List.all_eq_true.mp hv c (List.mem_of_getElem? hc)
    simp only [Option.map_some, hag j hj]
    cases c with
    | inl a => rfl
    | inr o =>
      simp only [m_rc] at hrc
      simp only [m_c, m_st_same hag hrc]
def m_get (ls : List (Nat × Value)) (i : Nat) : Option Value := (ls.find? (fun q => q.1 == i)).map Prod.snd
def m_put (ls : List (Nat × Value)) (i : Nat) (v : Value) : List (Nat × Value) := (i, v) :: ls.filter (fun q => !(q.1 == i) && !(q.1 + 1 == i && q.2.category == 2))
def m_put2 (ls : List (Nat × Value)) (i : Nat) (v : Value) : List (Nat × Value) := (i, v) :: ls.filter (fun q => !(q.1 == i) && (!(q.1 == i + 1) && !(q.1 + 1 == i && q.2.category == 2)))
theorem m_get_mem {ls : List (Nat × Value)} {i : Nat} {v : Value} (h : m_get ls i = some v) : (i, v) ∈ ls := by
  unfold m_get at h
  cases hf : ls.find? (fun q => q.1 == i) with
  | none => rw [hf] at h; cases h
  | some q =>
    rw [hf] at h
    have h1 := List.find?_some hf
    have h2 := List.mem_of_find?_eq_some hf
    cases h
    have : q.1 = i := by simpa using h1
    rw [← this]; exact h2
theorem m_get_at {ls : List (Nat × Value)} {i nL : Nat} {v : Value} {ad : Nat → Nat} {lsA : Array Slot} (hL : lv_has lsA nL (ls.map (fun q => (q.1, m_v ad q.2)))) (h : m_get ls i = some v) : lsA[i]? = some (.val (m_v ad v)) :=
  hL.2.2 (i, m_v ad v) (List.mem_map.mpr ⟨(i, v), m_get_mem h, rfl⟩)
theorem m_put_map {ls : List (Nat × Value)} {i : Nat} {v : Value} {ad : Nat → Nat} : (i, m_v ad v) :: (ls.map (fun q => (q.1, m_v ad q.2))).filter (fun q => !(q.1 == i) && !(q.1 + 1 == i && q.2.category == 2)) = (m_put ls i v).map (fun q => (q.1, m_v ad q.2)) := by
  simp only [m_put, List.map_cons, List.filter_map]
  congr 2
  apply List.filter_congr
  intro q _
  simp only [Function.comp, m_v_cat]
theorem m_put2_map {ls : List (Nat × Value)} {i : Nat} {v : Value} {ad : Nat → Nat} : (i, m_v ad v) :: (ls.map (fun q => (q.1, m_v ad q.2))).filter (fun q => !(q.1 == i) && (!(q.1 == i + 1) && !(q.1 + 1 == i && q.2.category == 2))) = (m_put2 ls i v).map (fun q => (q.1, m_v ad q.2)) := by
  simp only [m_put2, List.map_cons, List.filter_map]
  congr 2
  apply List.filter_congr
  intro q _
  simp only [Function.comp, m_v_cat]
theorem m_lsl (ad : Nat → Nat) (vs : List Value) : (lg_sl (vs.map (m_v ad))).length = (lg_sl vs).length := by
  induction vs with
  | nil => rfl
  | cons v t ih =>
    simp only [lg_sl, List.map_cons, List.flatMap_cons, List.length_append] at ih ⊢
    rw [ih, m_v_cat]
    by_cases hc : v.category = 2 <;> simp [hc]
theorem m_largs (ad : Nat → Nat) (vs : List Value) : ∀ i, lv_args i (vs.map (m_v ad)) = (lv_args i vs).map (fun q => (q.1, m_v ad q.2)) := by
  induction vs with
  | nil => intro i; rfl
  | cons v t ih =>
    intro i
    simp only [List.map_cons, lv_args, m_v_cat, ih]
/-- a method's standing facts -/
def m_At (D : va_G) (cI cL : ClassId) (sa : Nat → Nat) (y : MethodName) (cc : ByteArray) (nL : Nat) (ret : Option FieldType) (A : Nat → Prop) (TB : List ExceptionTableEntry) (p : Program) (l : Launch) (s : State) (m : MethodId) (args : Array Value) (meth : Method) (c : Code) : Prop :=
  p.tables.exec = Jvm.exec ∧ c.code = cc ∧ c.maxLocals = nL ∧ meth.sig.returnType = ret ∧ meth.locks = false ∧ meth.name = y.name ∧ s.vm.findClass y.cls = some m.cls ∧ (∀ w ∈ m_ws, w.before args s = true) ∧ va_K D m_cl (m_tys cI cL) s ∧ m_Env A sa s s.heap ∧ (∀ q, s.heap.size ≤ q → A q) ∧ l.stackTraces = false ∧ c.exceptionTable.toList = TB
/-- from this point, with this mini heap, the goal is reached -/
def m_Go (D : va_G) (cI cL : ClassId) (ad0 : Nat → Nat) (n0 nL : Nat) (A : Nat → Prop) (p : Program) (l : Launch) (e : Env) (R : Room) (s : State) (m : MethodId) (args : Array Value) (below : List Frame) (meth : Method) (c : Code) (Q : State → Prop) (pc : Nat) (ls : List (Nat × Value)) (st : List Value) (h : m_H) (cu su : Nat) : Prop :=
  ∀ (ad : Nat → Nat) (H : Heap) (locs : List Loc) (lsA : Array Slot), n0 ≤ h.length → (∀ i, (i < n0 ∨ h.length ≤ i) → ad i = ad0 i) → va_P D m_cl (m_w cI cL ad h) H → va_D A (m_w cI cL ad h) → va_S A s.heap H locs → lv_has lsA nL (ls.map (fun q => (q.1, m_v ad q.2))) →
    W p l e R s m args below meth c H locs cu su Q (F0 m pc lsA (st.map (m_v ad)))
variable {D : va_G} {cI cL : ClassId} {sa : Nat → Nat} {y : MethodName} {cc : ByteArray} {nL : Nat} {ret : Option FieldType} {A : Nat → Prop} {TB : List ExceptionTableEntry} {p : Program} {l : Launch} {e : Env} {R : Room} {s : State} {m : MethodId} {args : Array Value} {below : List Frame} {meth : Method} {c : Code} {Q : State → Prop} {ad0 : Nat → Nat} {n0 pc pc0 : Nat} {ls : List (Nat × Value)} {st : List Value} {h : m_H} {cu su : Nat}
theorem m_ex (X : m_At D cI cL sa y cc nL ret A TB p l s m args meth c) : p.tables.exec = Jvm.exec := X.1
theorem m_cb (X : m_At D cI cL sa y cc nL ret A TB p l s m args meth c) : c.code = cc := X.2.1
theorem m_ml (X : m_At D cI cL sa y cc nL ret A TB p l s m args meth c) : c.maxLocals = nL := X.2.2.1
theorem m_rt (X : m_At D cI cL sa y cc nL ret A TB p l s m args meth c) : meth.sig.returnType = ret := X.2.2.2.1
theorem m_lk (X : m_At D cI cL sa y cc nL ret A TB p l s m args meth c) : meth.locks = false := X.2.2.2.2.1
theorem m_nm (X : m_At D cI cL sa y cc nL ret A TB p l s m args meth c) : meth.name = y.name := X.2.2.2.2.2.1
theorem m_ow (X : m_At D cI cL sa y cc nL ret A TB p l s m args meth c) : s.vm.findClass y.cls = some m.cls := X.2.2.2.2.2.2.1
theorem m_wd (X : m_At D cI cL sa y cc nL ret A TB p l s m args meth c) : ∀ w ∈ m_ws, w.before args s = true := X.2.2.2.2.2.2.2.1
theorem m_kn (X : m_At D cI cL sa y cc nL ret A TB p l s m args meth c) : va_K D m_cl (m_tys cI cL) s := X.2.2.2.2.2.2.2.2.1
theorem m_ev (X : m_At D cI cL sa y cc nL ret A TB p l s m args meth c) : m_Env A sa s s.heap := X.2.2.2.2.2.2.2.2.2.1
theorem m_up (X : m_At D cI cL sa y cc nL ret A TB p l s m args meth c) : ∀ q, s.heap.size ≤ q → A q := X.2.2.2.2.2.2.2.2.2.2.1
theorem m_nt (X : m_At D cI cL sa y cc nL ret A TB p l s m args meth c) : l.stackTraces = false := X.2.2.2.2.2.2.2.2.2.2.2.1
theorem m_tb (X : m_At D cI cL sa y cc nL ret A TB p l s m args meth c) : c.exceptionTable.toList = TB := X.2.2.2.2.2.2.2.2.2.2.2.2
theorem m_iload {i : Nat} {x : Int32} (X : m_At D cI cL sa y cc nL ret A TB p l s m args meth c) (hd : decode cc pc0 = .ok (.iload i, 2)) (hl : m_get ls i = some (.int x)) (hp : pc = pc0) (kk : m_Go D cI cL ad0 n0 nL A p l e R s m args below meth c Q (pc0 + 2) ls (.int x :: st) h cu su) : m_Go D cI cL ad0 n0 nL A p l e R s m args below meth c Q pc ls (st) h cu su := by
  subst hp
  intro ad H locs lsA hn hag hP hD hS hL
  exact lv_iload (m_ex X) (m_cb X) hd (m_get_at hL hl) (kk ad H locs lsA hn hag hP hD hS hL)
theorem m_iload_n {k : Fin 4} {x : Int32} (X : m_At D cI cL sa y cc nL ret A TB p l s m args meth c) (hd : decode cc pc0 = .ok (.iload_n k, 1)) (hl : m_get ls (k : Nat) = some (.int x)) (hp : pc = pc0) (kk : m_Go D cI cL ad0 n0 nL A p l e R s m args below meth c Q (pc0 + 1) ls (.int x :: st) h cu su) : m_Go D cI cL ad0 n0 nL A p l e R s m args below meth c Q pc ls (st) h cu su := by
  subst hp
  intro ad H locs lsA hn hag hP hD hS hL
  exact lv_iload_n (m_ex X) (m_cb X) hd rfl (m_get_at hL hl) (kk ad H locs lsA hn hag hP hD hS hL)
theorem m_lload {i : Nat} {x : Int64} (X : m_At D cI cL sa y cc nL ret A TB p l s m args meth c) (hd : decode cc pc0 = .ok (.lload i, 2)) (hl : m_get ls i = some (.long x)) (hp : pc = pc0) (kk : m_Go D cI cL ad0 n0 nL A p l e R s m args below meth c Q (pc0 + 2) ls (.long x :: st) h cu su) : m_Go D cI cL ad0 n0 nL A p l e R s m args below meth c Q pc ls (st) h cu su := by
  subst hp
  intro ad H locs lsA hn hag hP hD hS hL
  exact lv_lload (m_ex X) (m_cb X) hd (m_get_at hL hl) (kk ad H locs lsA hn hag hP hD hS hL)
theorem m_lload_n {k : Fin 4} {x : Int64} (X : m_At D cI cL sa y cc nL ret A TB p l s m args meth c) (hd : decode cc pc0 = .ok (.lload_n k, 1)) (hl : m_get ls (k : Nat) = some (.long x)) (hp : pc = pc0) (kk : m_Go D cI cL ad0 n0 nL A p l e R s m args below meth c Q (pc0 + 1) ls (.long x :: st) h cu su) : m_Go D cI cL ad0 n0 nL A p l e R s m args below meth c Q pc ls (st) h cu su := by
  subst hp
  intro ad H locs lsA hn hag hP hD hS hL
  exact lv_lload_n (m_ex X) (m_cb X) hd rfl (m_get_at hL hl) (kk ad H locs lsA hn hag hP hD hS hL)
theorem m_aload {i x : Nat} (X : m_At D cI cL sa y cc nL ret A TB p l s m args meth c) (hd : decode cc pc0 = .ok (.aload i, 2)) (hl : m_get ls i = some (.ref x)) (hp : pc = pc0) (kk : m_Go D cI cL ad0 n0 nL A p l e R s m args below meth c Q (pc0 + 2) ls (.ref x :: st) h cu su) : m_Go D cI cL ad0 n0 nL A p l e R s m args below meth c Q pc ls (st) h cu su := by
  subst hp
  intro ad H locs lsA hn hag hP hD hS hL
  exact lv_aload (m_ex X) (m_cb X) hd (m_get_at hL hl) (kk ad H locs lsA hn hag hP hD hS hL)
theorem m_aload_n {k : Fin 4} {x : Nat} (X : m_At D cI cL sa y cc nL ret A TB p l s m args meth c) (hd : decode cc pc0 = .ok (.aload_n k, 1)) (hl : m_get ls (k : Nat) = some (.ref x)) (hp : pc = pc0) (kk : m_Go D cI cL ad0 n0 nL A p l e R s m args below meth c Q (pc0 + 1) ls (.ref x :: st) h cu su) : m_Go D cI cL ad0 n0 nL A p l e R s m args below meth c Q pc ls (st) h cu su := by
  subst hp
  intro ad H locs lsA hn hag hP hD hS hL
  exact lv_aload_n (m_ex X) (m_cb X) hd rfl (m_get_at hL hl) (kk ad H locs lsA hn hag hP hD hS hL)
theorem m_iconst {n : Int} {v : Int32} (X : m_At D cI cL sa y cc nL ret A TB p l s m args meth c) (hd : decode cc pc0 = .ok (.iconst n, 1)) (hv : Int32.ofInt n = v) (hp : pc = pc0) (kk : m_Go D cI cL ad0 n0 nL A p l e R s m args below meth c Q (pc0 + 1) ls (.int v :: st) h cu su) : m_Go D cI cL ad0 n0 nL A p l e R s m args below meth c Q pc ls (st) h cu su := by
  subst hp
  intro ad H locs lsA hn hag hP hD hS hL
  exact lv_iconst (m_ex X) (m_cb X) hd hv (kk ad H locs lsA hn hag hP hD hS hL)
theorem m_bipush {n : Int} {v : Int32} (X : m_At D cI cL sa y cc nL ret A TB p l s m args meth c) (hd : decode cc pc0 = .ok (.bipush n, 2)) (hv : (Int8.ofInt n).toInt32 = v) (hp : pc = pc0) (kk : m_Go D cI cL ad0 n0 nL A p l e R s m args below meth c Q (pc0 + 2) ls (.int v :: st) h cu su) : m_Go D cI cL ad0 n0 nL A p l e R s m args below meth c Q pc ls (st) h cu su := by
  subst hp
  intro ad H locs lsA hn hag hP hD hS hL
  exact lv_bipush (m_ex X) (m_cb X) hd hv (kk ad H locs lsA hn hag hP hD hS hL)
theorem m_sipush {n : Int} {v : Int32} (X : m_At D cI cL sa y cc nL ret A TB p l s m args meth c) (hd : decode cc pc0 = .ok (.sipush n, 3)) (hv : (Int16.ofInt n).toInt32 = v) (hp : pc = pc0) (kk : m_Go D cI cL ad0 n0 nL A p l e R s m args below meth c Q (pc0 + 3) ls (.int v :: st) h cu su) : m_Go D cI cL ad0 n0 nL A p l e R s m args below meth c Q pc ls (st) h cu su := by
  subst hp
  intro ad H locs lsA hn hag hP hD hS hL
  exact lv_sipush (m_ex X) (m_cb X) hd hv (kk ad H locs lsA hn hag hP hD hS hL)
theorem m_lconst {n : Fin 2} {v : Int64} (X : m_At D cI cL sa y cc nL ret A TB p l s m args meth c) (hd : decode cc pc0 = .ok (.lconst n, 1)) (hv : Int64.ofNat (n : Nat) = v) (hp : pc = pc0) (kk : m_Go D cI cL ad0 n0 nL A p l e R s m args below meth c Q (pc0 + 1) ls (.long v :: st) h cu su) : m_Go D cI cL ad0 n0 nL A p l e R s m args below meth c Q pc ls (st) h cu su := by
  subst hp
  intro ad H locs lsA hn hag hP hD hS hL
  exact lv_lconst (m_ex X) (m_cb X) hd hv (kk ad H locs lsA hn hag hP hD hS hL)
theorem m_ldc {k : Nat} {v : Int32} (X : m_At D cI cL sa y cc nL ret A TB p l s m args meth c) (hd : decode cc pc0 = .ok (.ldc k, 2)) (hw : Cond.constant y.cls k v ∈ m_ws) (hp : pc = pc0) (kk : m_Go D cI cL ad0 n0 nL A p l e R s m args below meth c Q (pc0 + 2) ls (.int v :: st) h cu su) : m_Go D cI cL ad0 n0 nL A p l e R s m args below meth c Q pc ls st h cu su := by
  subst hp
  intro ad H locs lsA hn hag hP hD hS hL
  exact lv_ldc (m_ex X) (m_cb X) (m_ow X) (m_wd X _ hw) hd (kk ad H locs lsA hn hag hP hD hS hL)
theorem m_ldc2 {k : Nat} {v : Int64} (X : m_At D cI cL sa y cc nL ret A TB p l s m args meth c) (hd : decode cc pc0 = .ok (.ldc2_w k, 3)) (hw : Cond.constantLong y.cls k v ∈ m_ws) (hp : pc = pc0) (kk : m_Go D cI cL ad0 n0 nL A p l e R s m args below meth c Q (pc0 + 3) ls (.long v :: st) h cu su) : m_Go D cI cL ad0 n0 nL A p l e R s m args below meth c Q pc ls st h cu su := by
  subst hp
  intro ad H locs lsA hn hag hP hD hS hL
  exact lv_ldc2 (m_ex X) (m_cb X) (m_ow X) (m_wd X _ hw) hd (kk ad H locs lsA hn hag hP hD hS hL)
theorem m_iadd {x z : Int32} (X : m_At D cI cL sa y cc nL ret A TB p l s m args meth c) (hd : decode cc pc0 = .ok (.iadd, 1))  (hp : pc = pc0) (kk : m_Go D cI cL ad0 n0 nL A p l e R s m args below meth c Q (pc0 + 1) ls (.int (x + z) :: st) h cu su) : m_Go D cI cL ad0 n0 nL A p l e R s m args below meth c Q pc ls (.int z :: .int x :: st) h cu su := by
  subst hp
  intro ad H locs lsA hn hag hP hD hS hL
  exact lv_iadd (m_ex X) (m_cb X) hd  (kk ad H locs lsA hn hag hP hD hS hL)
theorem m_isub {x z : Int32} (X : m_At D cI cL sa y cc nL ret A TB p l s m args meth c) (hd : decode cc pc0 = .ok (.isub, 1))  (hp : pc = pc0) (kk : m_Go D cI cL ad0 n0 nL A p l e R s m args below meth c Q (pc0 + 1) ls (.int (x - z) :: st) h cu su) : m_Go D cI cL ad0 n0 nL A p l e R s m args below meth c Q pc ls (.int z :: .int x :: st) h cu su := by
  subst hp
  intro ad H locs lsA hn hag hP hD hS hL
  exact lv_isub (m_ex X) (m_cb X) hd  (kk ad H locs lsA hn hag hP hD hS hL)
theorem m_imul {x z : Int32} (X : m_At D cI cL sa y cc nL ret A TB p l s m args meth c) (hd : decode cc pc0 = .ok (.imul, 1))  (hp : pc = pc0) (kk : m_Go D cI cL ad0 n0 nL A p l e R s m args below meth c Q (pc0 + 1) ls (.int (x * z) :: st) h cu su) : m_Go D cI cL ad0 n0 nL A p l e R s m args below meth c Q pc ls (.int z :: .int x :: st) h cu su := by
  subst hp
  intro ad H locs lsA hn hag hP hD hS hL
  exact lv_imul (m_ex X) (m_cb X) hd  (kk ad H locs lsA hn hag hP hD hS hL)
theorem m_iand {x z : Int32} (X : m_At D cI cL sa y cc nL ret A TB p l s m args meth c) (hd : decode cc pc0 = .ok (.iand, 1))  (hp : pc = pc0) (kk : m_Go D cI cL ad0 n0 nL A p l e R s m args below meth c Q (pc0 + 1) ls (.int (x &&& z) :: st) h cu su) : m_Go D cI cL ad0 n0 nL A p l e R s m args below meth c Q pc ls (.int z :: .int x :: st) h cu su := by
  subst hp
  intro ad H locs lsA hn hag hP hD hS hL
  exact lv_iand (m_ex X) (m_cb X) hd  (kk ad H locs lsA hn hag hP hD hS hL)
theorem m_ixor {x z : Int32} (X : m_At D cI cL sa y cc nL ret A TB p l s m args meth c) (hd : decode cc pc0 = .ok (.ixor, 1))  (hp : pc = pc0) (kk : m_Go D cI cL ad0 n0 nL A p l e R s m args below meth c Q (pc0 + 1) ls (.int (x ^^^ z) :: st) h cu su) : m_Go D cI cL ad0 n0 nL A p l e R s m args below meth c Q pc ls (.int z :: .int x :: st) h cu su := by
  subst hp
  intro ad H locs lsA hn hag hP hD hS hL
  exact lv_ixor (m_ex X) (m_cb X) hd  (kk ad H locs lsA hn hag hP hD hS hL)
theorem m_idiv {x z : Int32} (X : m_At D cI cL sa y cc nL ret A TB p l s m args meth c) (hd : decode cc pc0 = .ok (.idiv, 1)) (hz : ¬ z = 0) (hp : pc = pc0) (kk : m_Go D cI cL ad0 n0 nL A p l e R s m args below meth c Q (pc0 + 1) ls (.int (x / z) :: st) h cu su) : m_Go D cI cL ad0 n0 nL A p l e R s m args below meth c Q pc ls (.int z :: .int x :: st) h cu su := by
  subst hp
  intro ad H locs lsA hn hag hP hD hS hL
  exact lv_idiv (m_ex X) (m_cb X) hd hz (kk ad H locs lsA hn hag hP hD hS hL)
theorem m_irem {x z : Int32} (X : m_At D cI cL sa y cc nL ret A TB p l s m args meth c) (hd : decode cc pc0 = .ok (.irem, 1)) (hz : ¬ z = 0) (hp : pc = pc0) (kk : m_Go D cI cL ad0 n0 nL A p l e R s m args below meth c Q (pc0 + 1) ls (.int (x - x / z * z) :: st) h cu su) : m_Go D cI cL ad0 n0 nL A p l e R s m args below meth c Q pc ls (.int z :: .int x :: st) h cu su := by
  subst hp
  intro ad H locs lsA hn hag hP hD hS hL
  exact lv_irem (m_ex X) (m_cb X) hd hz (kk ad H locs lsA hn hag hP hD hS hL)
theorem m_ineg {x : Int32} (X : m_At D cI cL sa y cc nL ret A TB p l s m args meth c) (hd : decode cc pc0 = .ok (.ineg, 1))  (hp : pc = pc0) (kk : m_Go D cI cL ad0 n0 nL A p l e R s m args below meth c Q (pc0 + 1) ls (.int (-x) :: st) h cu su) : m_Go D cI cL ad0 n0 nL A p l e R s m args below meth c Q pc ls (.int x :: st) h cu su := by
  subst hp
  intro ad H locs lsA hn hag hP hD hS hL
  exact lv_ineg (m_ex X) (m_cb X) hd  (kk ad H locs lsA hn hag hP hD hS hL)
theorem m_ladd {x z : Int64} (X : m_At D cI cL sa y cc nL ret A TB p l s m args meth c) (hd : decode cc pc0 = .ok (.ladd, 1))  (hp : pc = pc0) (kk : m_Go D cI cL ad0 n0 nL A p l e R s m args below meth c Q (pc0 + 1) ls (.long (x + z) :: st) h cu su) : m_Go D cI cL ad0 n0 nL A p l e R s m args below meth c Q pc ls (.long z :: .long x :: st) h cu su := by
  subst hp
  intro ad H locs lsA hn hag hP hD hS hL
  exact lv_ladd (m_ex X) (m_cb X) hd  (kk ad H locs lsA hn hag hP hD hS hL)
theorem m_lmul {x z : Int64} (X : m_At D cI cL sa y cc nL ret A TB p l s m args meth c) (hd : decode cc pc0 = .ok (.lmul, 1))  (hp : pc = pc0) (kk : m_Go D cI cL ad0 n0 nL A p l e R s m args below meth c Q (pc0 + 1) ls (.long (x * z) :: st) h cu su) : m_Go D cI cL ad0 n0 nL A p l e R s m args below meth c Q pc ls (.long z :: .long x :: st) h cu su := by
  subst hp
  intro ad H locs lsA hn hag hP hD hS hL
  exact lv_lmul (m_ex X) (m_cb X) hd  (kk ad H locs lsA hn hag hP hD hS hL)
theorem m_ldiv {x z : Int64} (X : m_At D cI cL sa y cc nL ret A TB p l s m args meth c) (hd : decode cc pc0 = .ok (.ldiv, 1)) (hz : ¬ z = 0) (hp : pc = pc0) (kk : m_Go D cI cL ad0 n0 nL A p l e R s m args below meth c Q (pc0 + 1) ls (.long (x / z) :: st) h cu su) : m_Go D cI cL ad0 n0 nL A p l e R s m args below meth c Q pc ls (.long z :: .long x :: st) h cu su := by
  subst hp
  intro ad H locs lsA hn hag hP hD hS hL
  exact lv_ldiv (m_ex X) (m_cb X) hd hz (kk ad H locs lsA hn hag hP hD hS hL)
theorem m_i2l {x : Int32} (X : m_At D cI cL sa y cc nL ret A TB p l s m args meth c) (hd : decode cc pc0 = .ok (.i2l, 1))  (hp : pc = pc0) (kk : m_Go D cI cL ad0 n0 nL A p l e R s m args below meth c Q (pc0 + 1) ls (.long x.toInt64 :: st) h cu su) : m_Go D cI cL ad0 n0 nL A p l e R s m args below meth c Q pc ls (.int x :: st) h cu su := by
  subst hp
  intro ad H locs lsA hn hag hP hD hS hL
  exact lv_i2l (m_ex X) (m_cb X) hd rfl (kk ad H locs lsA hn hag hP hD hS hL)
theorem m_lcmp {x z : Int64} (X : m_At D cI cL sa y cc nL ret A TB p l s m args meth c) (hd : decode cc pc0 = .ok (.lcmp, 1)) (hp : pc = pc0) (kk : m_Go D cI cL ad0 n0 nL A p l e R s m args below meth c Q (pc0 + 1) ls (.int (lg_cmp x z) :: st) h cu su) : m_Go D cI cL ad0 n0 nL A p l e R s m args below meth c Q pc ls (.long z :: .long x :: st) h cu su := by
  subst hp
  intro ad H locs lsA hn hag hP hD hS hL
  exact W.lcmp (m_ex X) (m_cb X) hd (kk ad H locs lsA hn hag hP hD hS hL)
theorem m_dup {v : Value} (X : m_At D cI cL sa y cc nL ret A TB p l s m args meth c) (hd : decode cc pc0 = .ok (.dup, 1)) (hv : v.category = 1) (hp : pc = pc0) (kk : m_Go D cI cL ad0 n0 nL A p l e R s m args below meth c Q (pc0 + 1) ls (v :: v :: st) h cu su) : m_Go D cI cL ad0 n0 nL A p l e R s m args below meth c Q pc ls (v :: st) h cu su := by
  subst hp
  intro ad H locs lsA hn hag hP hD hS hL
  exact lv_dup (m_ex X) (m_cb X) hd ((m_v_cat ad v).trans hv) (kk ad H locs lsA hn hag hP hD hS hL)
theorem m_pop {v : Value} (X : m_At D cI cL sa y cc nL ret A TB p l s m args meth c) (hd : decode cc pc0 = .ok (.pop, 1)) (hv : v.category = 1) (hp : pc = pc0) (kk : m_Go D cI cL ad0 n0 nL A p l e R s m args below meth c Q (pc0 + 1) ls (st) h cu su) : m_Go D cI cL ad0 n0 nL A p l e R s m args below meth c Q pc ls (v :: st) h cu su := by
  subst hp
  intro ad H locs lsA hn hag hP hD hS hL
  exact lv_pop (m_ex X) (m_cb X) hd ((m_v_cat ad v).trans hv) (kk ad H locs lsA hn hag hP hD hS hL)
theorem m_dup2 {v u : Value} (X : m_At D cI cL sa y cc nL ret A TB p l s m args meth c) (hd : decode cc pc0 = .ok (.dup2, 1)) (hv : v.category = 1) (hu : u.category = 1) (hp : pc = pc0) (kk : m_Go D cI cL ad0 n0 nL A p l e R s m args below meth c Q (pc0 + 1) ls (v :: u :: v :: u :: st) h cu su) : m_Go D cI cL ad0 n0 nL A p l e R s m args below meth c Q pc ls (v :: u :: st) h cu su := by
  subst hp
  intro ad H locs lsA hn hag hP hD hS hL
  exact lv_dup2_11 (m_ex X) (m_cb X) hd ((m_v_cat ad v).trans hv) ((m_v_cat ad u).trans hu) (kk ad H locs lsA hn hag hP hD hS hL)
theorem m_istore {i : Nat} {x : Int32} (X : m_At D cI cL sa y cc nL ret A TB p l s m args meth c) (hd : decode cc pc0 = .ok (.istore i, 2)) (hi : i < nL) (hp : pc = pc0) (kk : m_Go D cI cL ad0 n0 nL A p l e R s m args below meth c Q (pc0 + 2) (m_put ls i (.int x)) st h cu su) : m_Go D cI cL ad0 n0 nL A p l e R s m args below meth c Q pc ls (.int x :: st) h cu su := by
  subst hp
  intro ad H locs lsA hn hag hP hD hS hL
  exact lv_istore (m_ex X) (m_cb X) hd  hL hi (m_put_map (v := .int x)) (fun ls' hL' => kk ad H locs ls' hn hag hP hD hS hL')
theorem m_istore_n {k : Fin 4} {x : Int32} (X : m_At D cI cL sa y cc nL ret A TB p l s m args meth c) (hd : decode cc pc0 = .ok (.istore_n k, 1)) (hi : (k : Nat) < nL) (hp : pc = pc0) (kk : m_Go D cI cL ad0 n0 nL A p l e R s m args below meth c Q (pc0 + 1) (m_put ls (k : Nat) (.int x)) st h cu su) : m_Go D cI cL ad0 n0 nL A p l e R s m args below meth c Q pc ls (.int x :: st) h cu su := by
  subst hp
  intro ad H locs lsA hn hag hP hD hS hL
  exact lv_istore_n (m_ex X) (m_cb X) hd rfl hL hi (m_put_map (v := .int x)) (fun ls' hL' => kk ad H locs ls' hn hag hP hD hS hL')
theorem m_lstore {i : Nat} {x : Int64} (X : m_At D cI cL sa y cc nL ret A TB p l s m args meth c) (hd : decode cc pc0 = .ok (.lstore i, 2)) (hi : i + 1 < nL) (hp : pc = pc0) (kk : m_Go D cI cL ad0 n0 nL A p l e R s m args below meth c Q (pc0 + 2) (m_put2 ls i (.long x)) st h cu su) : m_Go D cI cL ad0 n0 nL A p l e R s m args below meth c Q pc ls (.long x :: st) h cu su := by
  subst hp
  intro ad H locs lsA hn hag hP hD hS hL
  exact lv_lstore (m_ex X) (m_cb X) hd  hL hi (m_put2_map (v := .long x)) (fun ls' hL' => kk ad H locs ls' hn hag hP hD hS hL')
theorem m_lstore_n {k : Fin 4} {x : Int64} (X : m_At D cI cL sa y cc nL ret A TB p l s m args meth c) (hd : decode cc pc0 = .ok (.lstore_n k, 1)) (hi : (k : Nat) + 1 < nL) (hp : pc = pc0) (kk : m_Go D cI cL ad0 n0 nL A p l e R s m args below meth c Q (pc0 + 1) (m_put2 ls (k : Nat) (.long x)) st h cu su) : m_Go D cI cL ad0 n0 nL A p l e R s m args below meth c Q pc ls (.long x :: st) h cu su := by
  subst hp
  intro ad H locs lsA hn hag hP hD hS hL
  exact lv_lstore_n (m_ex X) (m_cb X) hd rfl hL hi (m_put2_map (v := .long x)) (fun ls' hL' => kk ad H locs ls' hn hag hP hD hS hL')
theorem m_astore {i x : Nat} (X : m_At D cI cL sa y cc nL ret A TB p l s m args meth c) (hd : decode cc pc0 = .ok (.astore i, 2)) (hi : i < nL) (hp : pc = pc0) (kk : m_Go D cI cL ad0 n0 nL A p l e R s m args below meth c Q (pc0 + 2) (m_put ls i (.ref x)) st h cu su) : m_Go D cI cL ad0 n0 nL A p l e R s m args below meth c Q pc ls (.ref x :: st) h cu su := by
  subst hp
  intro ad H locs lsA hn hag hP hD hS hL
  exact lv_astore (m_ex X) (m_cb X) hd  hL hi (m_put_map (v := .ref x)) (fun ls' hL' => kk ad H locs ls' hn hag hP hD hS hL')
theorem m_astore_n {k : Fin 4} {x : Nat} (X : m_At D cI cL sa y cc nL ret A TB p l s m args meth c) (hd : decode cc pc0 = .ok (.astore_n k, 1)) (hi : (k : Nat) < nL) (hp : pc = pc0) (kk : m_Go D cI cL ad0 n0 nL A p l e R s m args below meth c Q (pc0 + 1) (m_put ls (k : Nat) (.ref x)) st h cu su) : m_Go D cI cL ad0 n0 nL A p l e R s m args below meth c Q pc ls (.ref x :: st) h cu su := by
  subst hp
  intro ad H locs lsA hn hag hP hD hS hL
  exact lv_astore_n (m_ex X) (m_cb X) hd rfl hL hi (m_put_map (v := .ref x)) (fun ls' hL' => kk ad H locs ls' hn hag hP hD hS hL')
theorem m_iinc {i : Nat} {n : Int} {x : Int32} (X : m_At D cI cL sa y cc nL ret A TB p l s m args meth c) (hd : decode cc pc0 = .ok (.iinc i n, 3)) (hl : m_get ls i = some (.int x)) (hi : i < nL) (hp : pc = pc0) (kk : m_Go D cI cL ad0 n0 nL A p l e R s m args below meth c Q (pc0 + 3) (m_put ls i (.int (x + Int32.ofInt n))) st h cu su) : m_Go D cI cL ad0 n0 nL A p l e R s m args below meth c Q pc ls st h cu su := by
  subst hp
  intro ad H locs lsA hn hag hP hD hS hL
  have hm : (i, m_v ad (.int x)) ∈ ls.map (fun q => (q.1, m_v ad q.2)) := List.mem_map.mpr ⟨(i, .int x), m_get_mem hl, rfl⟩
  obtain ⟨k, hk⟩ := List.mem_iff_getElem?.mp hm
  exact lv_iinc (m_ex X) (m_cb X) hd hL (k := k) hk rfl hi (m_put_map (v := .int (x + Int32.ofInt n))) (fun ls' hL' => kk ad H locs ls' hn hag hP hD hS hL')
theorem m_if_eq {x : Int32} {off : Int} {tgt : Nat} (X : m_At D cI cL sa y cc nL ret A TB p l s m args meth c) (hd : decode cc pc0 = .ok (.ifCond .eq off, 3)) (ht : (pc0 : Int) + off = (tgt : Int)) (hp : pc = pc0) (kt : x = 0 → m_Go D cI cL ad0 n0 nL A p l e R s m args below meth c Q tgt ls st h cu su) (kf : ¬ x = 0 → m_Go D cI cL ad0 n0 nL A p l e R s m args below meth c Q (pc0 + 3) ls st h cu su) : m_Go D cI cL ad0 n0 nL A p l e R s m args below meth c Q pc ls (.int x :: st) h cu su := by
  subst hp
  intro ad H locs lsA hn hag hP hD hS hL
  exact lv_if_eq (m_ex X) (m_cb X) hd ht (fun q => kt q ad H locs lsA hn hag hP hD hS hL) (fun q => kf q ad H locs lsA hn hag hP hD hS hL)
theorem m_icmp_eq {x z : Int32} {off : Int} {tgt : Nat} (X : m_At D cI cL sa y cc nL ret A TB p l s m args meth c) (hd : decode cc pc0 = .ok (.if_icmp .eq off, 3)) (ht : (pc0 : Int) + off = (tgt : Int)) (hp : pc = pc0) (kt : x = z → m_Go D cI cL ad0 n0 nL A p l e R s m args below meth c Q tgt ls st h cu su) (kf : ¬ x = z → m_Go D cI cL ad0 n0 nL A p l e R s m args below meth c Q (pc0 + 3) ls st h cu su) : m_Go D cI cL ad0 n0 nL A p l e R s m args below meth c Q pc ls (.int z :: .int x :: st) h cu su := by
  subst hp
  intro ad H locs lsA hn hag hP hD hS hL
  exact lv_icmp_eq (m_ex X) (m_cb X) hd ht (fun q => kt q ad H locs lsA hn hag hP hD hS hL) (fun q => kf q ad H locs lsA hn hag hP hD hS hL)
theorem m_if_ne {x : Int32} {off : Int} {tgt : Nat} (X : m_At D cI cL sa y cc nL ret A TB p l s m args meth c) (hd : decode cc pc0 = .ok (.ifCond .ne off, 3)) (ht : (pc0 : Int) + off = (tgt : Int)) (hp : pc = pc0) (kt : ¬ x = 0 → m_Go D cI cL ad0 n0 nL A p l e R s m args below meth c Q tgt ls st h cu su) (kf : x = 0 → m_Go D cI cL ad0 n0 nL A p l e R s m args below meth c Q (pc0 + 3) ls st h cu su) : m_Go D cI cL ad0 n0 nL A p l e R s m args below meth c Q pc ls (.int x :: st) h cu su := by
  subst hp
  intro ad H locs lsA hn hag hP hD hS hL
  exact lv_if_ne (m_ex X) (m_cb X) hd ht (fun q => kt q ad H locs lsA hn hag hP hD hS hL) (fun q => kf q ad H locs lsA hn hag hP hD hS hL)
theorem m_icmp_ne {x z : Int32} {off : Int} {tgt : Nat} (X : m_At D cI cL sa y cc nL ret A TB p l s m args meth c) (hd : decode cc pc0 = .ok (.if_icmp .ne off, 3)) (ht : (pc0 : Int) + off = (tgt : Int)) (hp : pc = pc0) (kt : ¬ x = z → m_Go D cI cL ad0 n0 nL A p l e R s m args below meth c Q tgt ls st h cu su) (kf : x = z → m_Go D cI cL ad0 n0 nL A p l e R s m args below meth c Q (pc0 + 3) ls st h cu su) : m_Go D cI cL ad0 n0 nL A p l e R s m args below meth c Q pc ls (.int z :: .int x :: st) h cu su := by
  subst hp
  intro ad H locs lsA hn hag hP hD hS hL
  exact lv_icmp_ne (m_ex X) (m_cb X) hd ht (fun q => kt q ad H locs lsA hn hag hP hD hS hL) (fun q => kf q ad H locs lsA hn hag hP hD hS hL)
theorem m_if_lt {x : Int32} {off : Int} {tgt : Nat} (X : m_At D cI cL sa y cc nL ret A TB p l s m args meth c) (hd : decode cc pc0 = .ok (.ifCond .lt off, 3)) (ht : (pc0 : Int) + off = (tgt : Int)) (hp : pc = pc0) (kt : x < 0 → m_Go D cI cL ad0 n0 nL A p l e R s m args below meth c Q tgt ls st h cu su) (kf : ¬ x < 0 → m_Go D cI cL ad0 n0 nL A p l e R s m args below meth c Q (pc0 + 3) ls st h cu su) : m_Go D cI cL ad0 n0 nL A p l e R s m args below meth c Q pc ls (.int x :: st) h cu su := by
  subst hp
  intro ad H locs lsA hn hag hP hD hS hL
  exact lv_if_lt (m_ex X) (m_cb X) hd ht (fun q => kt q ad H locs lsA hn hag hP hD hS hL) (fun q => kf q ad H locs lsA hn hag hP hD hS hL)
theorem m_icmp_lt {x z : Int32} {off : Int} {tgt : Nat} (X : m_At D cI cL sa y cc nL ret A TB p l s m args meth c) (hd : decode cc pc0 = .ok (.if_icmp .lt off, 3)) (ht : (pc0 : Int) + off = (tgt : Int)) (hp : pc = pc0) (kt : x < z → m_Go D cI cL ad0 n0 nL A p l e R s m args below meth c Q tgt ls st h cu su) (kf : ¬ x < z → m_Go D cI cL ad0 n0 nL A p l e R s m args below meth c Q (pc0 + 3) ls st h cu su) : m_Go D cI cL ad0 n0 nL A p l e R s m args below meth c Q pc ls (.int z :: .int x :: st) h cu su := by
  subst hp
  intro ad H locs lsA hn hag hP hD hS hL
  exact lv_icmp_lt (m_ex X) (m_cb X) hd ht (fun q => kt q ad H locs lsA hn hag hP hD hS hL) (fun q => kf q ad H locs lsA hn hag hP hD hS hL)
theorem m_if_ge {x : Int32} {off : Int} {tgt : Nat} (X : m_At D cI cL sa y cc nL ret A TB p l s m args meth c) (hd : decode cc pc0 = .ok (.ifCond .ge off, 3)) (ht : (pc0 : Int) + off = (tgt : Int)) (hp : pc = pc0) (kt : 0 ≤ x → m_Go D cI cL ad0 n0 nL A p l e R s m args below meth c Q tgt ls st h cu su) (kf : ¬ 0 ≤ x → m_Go D cI cL ad0 n0 nL A p l e R s m args below meth c Q (pc0 + 3) ls st h cu su) : m_Go D cI cL ad0 n0 nL A p l e R s m args below meth c Q pc ls (.int x :: st) h cu su := by
  subst hp
  intro ad H locs lsA hn hag hP hD hS hL
  exact lv_if_ge (m_ex X) (m_cb X) hd ht (fun q => kt q ad H locs lsA hn hag hP hD hS hL) (fun q => kf q ad H locs lsA hn hag hP hD hS hL)
theorem m_icmp_ge {x z : Int32} {off : Int} {tgt : Nat} (X : m_At D cI cL sa y cc nL ret A TB p l s m args meth c) (hd : decode cc pc0 = .ok (.if_icmp .ge off, 3)) (ht : (pc0 : Int) + off = (tgt : Int)) (hp : pc = pc0) (kt : z ≤ x → m_Go D cI cL ad0 n0 nL A p l e R s m args below meth c Q tgt ls st h cu su) (kf : ¬ z ≤ x → m_Go D cI cL ad0 n0 nL A p l e R s m args below meth c Q (pc0 + 3) ls st h cu su) : m_Go D cI cL ad0 n0 nL A p l e R s m args below meth c Q pc ls (.int z :: .int x :: st) h cu su := by
  subst hp
  intro ad H locs lsA hn hag hP hD hS hL
  exact lv_icmp_ge (m_ex X) (m_cb X) hd ht (fun q => kt q ad H locs lsA hn hag hP hD hS hL) (fun q => kf q ad H locs lsA hn hag hP hD hS hL)
theorem m_if_gt {x : Int32} {off : Int} {tgt : Nat} (X : m_At D cI cL sa y cc nL ret A TB p l s m args meth c) (hd : decode cc pc0 = .ok (.ifCond .gt off, 3)) (ht : (pc0 : Int) + off = (tgt : Int)) (hp : pc = pc0) (kt : 0 < x → m_Go D cI cL ad0 n0 nL A p l e R s m args below meth c Q tgt ls st h cu su) (kf : ¬ 0 < x → m_Go D cI cL ad0 n0 nL A p l e R s m args below meth c Q (pc0 + 3) ls st h cu su) : m_Go D cI cL ad0 n0 nL A p l e R s m args below meth c Q pc ls (.int x :: st) h cu su := by
  subst hp
  intro ad H locs lsA hn hag hP hD hS hL
  exact lv_if_gt (m_ex X) (m_cb X) hd ht (fun q => kt q ad H locs lsA hn hag hP hD hS hL) (fun q => kf q ad H locs lsA hn hag hP hD hS hL)
theorem m_icmp_gt {x z : Int32} {off : Int} {tgt : Nat} (X : m_At D cI cL sa y cc nL ret A TB p l s m args meth c) (hd : decode cc pc0 = .ok (.if_icmp .gt off, 3)) (ht : (pc0 : Int) + off = (tgt : Int)) (hp : pc = pc0) (kt : z < x → m_Go D cI cL ad0 n0 nL A p l e R s m args below meth c Q tgt ls st h cu su) (kf : ¬ z < x → m_Go D cI cL ad0 n0 nL A p l e R s m args below meth c Q (pc0 + 3) ls st h cu su) : m_Go D cI cL ad0 n0 nL A p l e R s m args below meth c Q pc ls (.int z :: .int x :: st) h cu su := by
  subst hp
  intro ad H locs lsA hn hag hP hD hS hL
  exact lv_icmp_gt (m_ex X) (m_cb X) hd ht (fun q => kt q ad H locs lsA hn hag hP hD hS hL) (fun q => kf q ad H locs lsA hn hag hP hD hS hL)
theorem m_if_le {x : Int32} {off : Int} {tgt : Nat} (X : m_At D cI cL sa y cc nL ret A TB p l s m args meth c) (hd : decode cc pc0 = .ok (.ifCond .le off, 3)) (ht : (pc0 : Int) + off = (tgt : Int)) (hp : pc = pc0) (kt : x ≤ 0 → m_Go D cI cL ad0 n0 nL A p l e R s m args below meth c Q tgt ls st h cu su) (kf : ¬ x ≤ 0 → m_Go D cI cL ad0 n0 nL A p l e R s m args below meth c Q (pc0 + 3) ls st h cu su) : m_Go D cI cL ad0 n0 nL A p l e R s m args below meth c Q pc ls (.int x :: st) h cu su := by
  subst hp
  intro ad H locs lsA hn hag hP hD hS hL
  exact lv_if_le (m_ex X) (m_cb X) hd ht (fun q => kt q ad H locs lsA hn hag hP hD hS hL) (fun q => kf q ad H locs lsA hn hag hP hD hS hL)
theorem m_icmp_le {x z : Int32} {off : Int} {tgt : Nat} (X : m_At D cI cL sa y cc nL ret A TB p l s m args meth c) (hd : decode cc pc0 = .ok (.if_icmp .le off, 3)) (ht : (pc0 : Int) + off = (tgt : Int)) (hp : pc = pc0) (kt : x ≤ z → m_Go D cI cL ad0 n0 nL A p l e R s m args below meth c Q tgt ls st h cu su) (kf : ¬ x ≤ z → m_Go D cI cL ad0 n0 nL A p l e R s m args below meth c Q (pc0 + 3) ls st h cu su) : m_Go D cI cL ad0 n0 nL A p l e R s m args below meth c Q pc ls (.int z :: .int x :: st) h cu su := by
  subst hp
  intro ad H locs lsA hn hag hP hD hS hL
  exact lv_icmp_le (m_ex X) (m_cb X) hd ht (fun q => kt q ad H locs lsA hn hag hP hD hS hL) (fun q => kf q ad H locs lsA hn hag hP hD hS hL)
theorem m_goto {off : Int} {tgt : Nat} (X : m_At D cI cL sa y cc nL ret A TB p l s m args meth c) (hd : decode cc pc0 = .ok (.goto off, 3)) (ht : (pc0 : Int) + off = (tgt : Int)) (hp : pc = pc0) (kk : m_Go D cI cL ad0 n0 nL A p l e R s m args below meth c Q tgt ls st h cu su) : m_Go D cI cL ad0 n0 nL A p l e R s m args below meth c Q pc ls st h cu su := by
  subst hp
  intro ad H locs lsA hn hag hP hD hS hL
  exact lv_goto (m_ex X) (m_cb X) hd ht (kk ad H locs lsA hn hag hP hD hS hL)
theorem m_tabOut {dflt lo hi : Int} {offs : Array Int} {len : Nat} {x : Int32} {tgt : Nat} (X : m_At D cI cL sa y cc nL ret A TB p l s m args meth c) (hd : decode cc pc0 = .ok (.tableswitch dflt lo hi offs, len)) (hx : x.toInt < lo ∨ hi < x.toInt) (ht : (pc0 : Int) + dflt = (tgt : Int)) (hp : pc = pc0) (kk : m_Go D cI cL ad0 n0 nL A p l e R s m args below meth c Q tgt ls st h cu su) : m_Go D cI cL ad0 n0 nL A p l e R s m args below meth c Q pc ls (.int x :: st) h cu su := by
  subst hp
  intro ad H locs lsA hn hag hP hD hS hL
  exact lv_tableOut (m_ex X) (m_cb X) hd hx ht (kk ad H locs lsA hn hag hP hD hS hL)
theorem m_tabIn {dflt lo hi off : Int} {offs : Array Int} {len : Nat} {x : Int32} {tgt : Nat} (X : m_At D cI cL sa y cc nL ret A TB p l s m args meth c) (hd : decode cc pc0 = .ok (.tableswitch dflt lo hi offs, len)) (h1 : ¬ x.toInt < lo) (h2 : ¬ hi < x.toInt) (ho : offs[(x.toInt - lo).toNat]? = some off) (ht : (pc0 : Int) + off = (tgt : Int)) (hp : pc = pc0) (kk : m_Go D cI cL ad0 n0 nL A p l e R s m args below meth c Q tgt ls st h cu su) : m_Go D cI cL ad0 n0 nL A p l e R s m args below meth c Q pc ls (.int x :: st) h cu su := by
  subst hp
  intro ad H locs lsA hn hag hP hD hS hL
  exact lv_tableIn (m_ex X) (m_cb X) hd h1 h2 ho ht (kk ad H locs lsA hn hag hP hD hS hL)
theorem m_hp {h1 : m_H} (hh : h = h1) (kk : m_Go D cI cL ad0 n0 nL A p l e R s m args below meth c Q pc ls st h1 cu su) : m_Go D cI cL ad0 n0 nL A p l e R s m args below meth c Q pc ls st h cu su := hh ▸ kk
theorem m_sp {st1 : List Value} (hh : st = st1) (kk : m_Go D cI cL ad0 n0 nL A p l e R s m args below meth c Q pc ls st1 h cu su) : m_Go D cI cL ad0 n0 nL A p l e R s m args below meth c Q pc ls st h cu su := hh ▸ kk
theorem m_lp {l1 : List (Nat × Value)} (ks : List Nat) (hh : lv_pick ls ks = l1) (kk : m_Go D cI cL ad0 n0 nL A p l e R s m args below meth c Q pc l1 st h cu su) : m_Go D cI cL ad0 n0 nL A p l e R s m args below meth c Q pc ls st h cu su := by
  intro ad H locs lsA hn hag hP hD hS hL
  refine kk ad H locs lsA hn hag hP hD hS (lv_sub hL ks ?_)
  rw [← hh]
  unfold lv_pick
  rw [List.map_filterMap]
  congr 1
  funext k
  rw [List.getElem?_map]
theorem m_wid {cu1 su1 : Nat} (h1 : cu ≤ cu1) (h2 : su ≤ su1) (kk : m_Go D cI cL ad0 n0 nL A p l e R s m args below meth c Q pc ls st h cu1 su1) : m_Go D cI cL ad0 n0 nL A p l e R s m args below meth c Q pc ls st h cu su := fun ad H locs lsA hn hag hP hD hS hL => W.widen h1 h2 (kk ad H locs lsA hn hag hP hD hS hL)
/-- the field link 'idx' of class own names field j of the mini class ci -/
def m_FL (own : String) (idx ci j : Nat) : Prop := ∃ (C : String) (T : u_T) (N : Nat), m_cl[ci]? = some (C, T, N) ∧ j < N ∧ (Cond.fieldLink own idx (T j).1 (T j).2.1 (T j).2.2.1 ∈ m_ws ∨ ∃ host, Cond.fieldLinkNest own idx (T j).1 (T j).2.1 (T j).2.2.1 host ∈ m_nw)
/-- .. and it isn't final, of type ty -/
def m_FP (ci j : Nat) (ty : FieldType) : Prop := ∃ (C : String) (T : u_T) (N : Nat), m_cl[ci]? = some (C, T, N) ∧ (T j).2.2.2 = false ∧ parseFieldDescriptor (T j).2.2.1 = some ty
def m_FF (own : String) (ci j : Nat) (ty : FieldType) : Prop := ∃ (C : String) (T : u_T) (N : Nat), m_cl[ci]? = some (C, T, N) ∧ (T j).2.2.2 = true ∧ (T j).1 = own ∧ parseFieldDescriptor (T j).2.2.1 = some ty
theorem m_getf {idx ci j q : Nat} {fs : List Value} {v : Value} (X : m_At D cI cL sa y cc nL ret A TB p l s m args meth c) (hd : decode cc pc0 = .ok (.getfield idx, 3)) (hf : m_FL y.cls idx ci j) (hq : h[q]? = some (m_ob ci fs)) (hv : fs[j]? = some v) (hp : pc = pc0) (kk : m_Go D cI cL ad0 n0 nL A p l e R s m args below meth c Q (pc0 + 3) ls (v :: st) h cu su) : m_Go D cI cL ad0 n0 nL A p l e R s m args below meth c Q pc ls (.ref q :: st) h cu su := by
  subst hp
  intro ad H locs lsA hn hag hP hD hS hL
  obtain ⟨C, T, N, hc, hj, hw⟩ := hf
  have hv' : (fs.map (m_v ad))[j]? = some (m_v ad v) := by rw [List.getElem?_map, hv]; rfl
  have hin := (m_cl_ok ci C T N hc).1
  rcases hw with hw | ⟨host, hw⟩
  · exact va_get (m_ex X) (m_cb X) (m_wd X) hin (m_ow X) (m_kn X) hP q (m_w_at hq) hc j hj (m_wd X _ hw) (fun _ h9 => h9) hv' hd (kk ad H locs lsA hn hag hP hD hS hL)
  · exact va_getN (m_ex X) (m_cb X) (m_wd X) hin (m_ow X) (m_kn X) hP q (m_w_at hq) hc j hj (va_Nw.use (m_isN_on (m_nw_is hw)) ((m_ev X).1 _ hw)) (fun _ h9 => h9) hv' hd (kk ad H locs lsA hn hag hP hD hS hL)
theorem m_putf {idx ci j q : Nat} {fs : List Value} {v : Value} {ty : FieldType} (X : m_At D cI cL sa y cc nL ret A TB p l s m args meth c) (hd : decode cc pc0 = .ok (.putfield idx, 3)) (hf : m_FL y.cls idx ci j) (hg : m_FP ci j ty) (hq : h[q]? = some (m_ob ci fs)) (hj2 : j < fs.length) (hn9 : ∀ ad : Nat → Nat, narrow ty (m_v ad v) = m_v ad v) (hn8 : ∀ ad : Nat → Nat, fits ty (m_v ad v) = true) (hp : pc = pc0) (kk : m_Go D cI cL ad0 n0 nL A p l e R s m args below meth c Q (pc0 + 3) ls st (h.set q (m_ob ci (fs.set j v))) cu su) : m_Go D cI cL ad0 n0 nL A p l e R s m args below meth c Q pc ls (v :: .ref q :: st) h cu su := by
  subst hp
  intro ad H locs lsA hn hag hP hD hS hL
  obtain ⟨C, T, N, hc, hj, hw⟩ := hf
  obtain ⟨C', T', N', hc', hfin, hty⟩ := hg
  cases Option.some.inj (hc.symm.trans hc')
  obtain ⟨hin, ty0, hty0, hnm⟩ := m_cl_ok ci C T N hc
  have hset : ∀ (H1 : Heap) (locs1 : List Loc), va_P D m_cl ((m_w cI cL ad h).set q (ad q, .inr (ci, (fs.map (m_v ad)).set j (m_v ad v)))) H1 → va_D A ((m_w cI cL ad h).set q (ad q, .inr (ci, (fs.map (m_v ad)).set j (m_v ad v)))) → va_S A s.heap H1 locs1 → W p l e R s m args below meth c H1 locs1 cu su Q (F0 m (pc + 3) lsA (st.map (m_v ad))) := by
    intro H1 locs1 hP1 hD1 hS1
    have e1 : (m_w cI cL ad h).set q (ad q, .inr (ci, (fs.map (m_v ad)).set j (m_v ad v))) = m_w cI cL ad (h.set q (m_ob ci (fs.set j v))) := by
      rw [← m_w_set]; simp only [m_c, List.map_set]
    rw [e1] at hP1 hD1
    exact kk ad H1 locs1 lsA (by rw [List.length_set]; exact hn) (by rw [List.length_set]; exact hag) hP1 hD1 hS1 hL
  have hl2 : j < (fs.map (m_v ad)).length := by rw [List.length_map]; exact hj2
  rcases hw with hw | ⟨host, hw⟩
  · exact va_put (m_ex X) (m_cb X) (m_wd X) hin ty0 hty0 hnm (m_ow X) (m_kn X) hP hD hS q (m_w_at hq) hc j hj (m_wd X _ hw) (fun _ h9 => h9) hfin hty (hn9 ad) (hn8 ad) hl2 hd hset
  · exact va_putN (m_ex X) (m_cb X) (m_wd X) hin ty0 hty0 hnm (m_ow X) (m_kn X) hP hD hS q (m_w_at hq) hc j hj (va_Nw.use (m_isN_on (m_nw_is hw)) ((m_ev X).1 _ hw)) (fun _ h9 => h9) hfin hty (hn9 ad) (hn8 ad) hl2 hd hset
theorem m_putF {idx ci j q : Nat} {fs : List Value} {v : Value} {ty : FieldType} (X : m_At D cI cL sa y cc nL ret A TB p l s m args meth c) (hd : decode cc pc0 = .ok (.putfield idx, 3)) (hf : m_FL y.cls idx ci j) (hg : m_FF y.cls ci j ty) (hi : y.name = "<init>") (hw0 : ∀ (C : String) (T : u_T) (N : Nat), m_cl[ci]? = some (C, T, N) → Cond.fieldLink y.cls idx (T j).1 (T j).2.1 (T j).2.2.1 ∈ m_ws) (hq : h[q]? = some (m_ob ci fs)) (hj2 : j < fs.length) (hn9 : ∀ ad : Nat → Nat, narrow ty (m_v ad v) = m_v ad v) (hn8 : ∀ ad : Nat → Nat, fits ty (m_v ad v) = true) (hp : pc = pc0) (kk : m_Go D cI cL ad0 n0 nL A p l e R s m args below meth c Q (pc0 + 3) ls st (h.set q (m_ob ci (fs.set j v))) cu su) : m_Go D cI cL ad0 n0 nL A p l e R s m args below meth c Q pc ls (v :: .ref q :: st) h cu su := by
  subst hp
  intro ad H locs lsA hn hag hP hD hS hL
  obtain ⟨C, T, N, hc, hj, hw⟩ := hf
  obtain ⟨C', T', N', hc', hfin, hdecl, hty⟩ := hg
  cases Option.some.inj (hc.symm.trans hc')
  obtain ⟨hin, ty0, hty0, hnm⟩ := m_cl_ok ci C T N hc
  have hset : ∀ (H1 : Heap) (locs1 : List Loc), va_P D m_cl ((m_w cI cL ad h).set q (ad q, .inr (ci, (fs.map (m_v ad)).set j (m_v ad v)))) H1 → va_D A ((m_w cI cL ad h).set q (ad q, .inr (ci, (fs.map (m_v ad)).set j (m_v ad v)))) → va_S A s.heap H1 locs1 → W p l e R s m args below meth c H1 locs1 cu su Q (F0 m (pc + 3) lsA (st.map (m_v ad))) := by
    intro H1 locs1 hP1 hD1 hS1
    have e1 : (m_w cI cL ad h).set q (ad q, .inr (ci, (fs.map (m_v ad)).set j (m_v ad v))) = m_w cI cL ad (h.set q (m_ob ci (fs.set j v))) := by
      rw [← m_w_set]; simp only [m_c, List.map_set]
    rw [e1] at hP1 hD1
    exact kk ad H1 locs1 lsA (by rw [List.length_set]; exact hn) (by rw [List.length_set]; exact hag) hP1 hD1 hS1 hL
  exact va_putF (m_ex X) (m_cb X) (m_wd X) hin ty0 hty0 hnm (m_ow X) (m_kn X) hP hD hS q (m_w_at hq) hc j hj (m_wd X _ (hw0 C T N hc)) (fun _ h9 => h9) hfin ((m_nm X).trans hi) hdecl hty (hn9 ad) (hn8 ad) (by rw [List.length_map]; exact hj2) hd hset
/-! arrays -/
theorem m_iald {q n : Nat} {f : Nat → Int32} {i : Int32} (X : m_At D cI cL sa y cc nL ret A TB p l s m args meth c) (hd : decode cc pc0 = .ok (.iaload, 1)) (hq : h[q]? = some (m_ia n f)) (hi : vp_in i n) (hp : pc = pc0) (kk : m_Go D cI cL ad0 n0 nL A p l e R s m args below meth c Q (pc0 + 1) ls (.int (f i.toNatClampNeg) :: st) h cu su) : m_Go D cI cL ad0 n0 nL A p l e R s m args below meth c Q pc ls (.int i :: .ref q :: st) h cu su := by
  subst hp
  intro ad H locs lsA hn hag hP hD hS hL
  exact va_iald (m_ex X) (m_cb X) (m_kn X) hP q 0 (m_w_at hq) rfl hi hd (kk ad H locs lsA hn hag hP hD hS hL)
theorem m_alen {q n : Nat} {f : Nat → Int32} (X : m_At D cI cL sa y cc nL ret A TB p l s m args meth c) (hd : decode cc pc0 = .ok (.arraylength, 1)) (hq : h[q]? = some (m_ia n f)) (hp : pc = pc0) (kk : m_Go D cI cL ad0 n0 nL A p l e R s m args below meth c Q (pc0 + 1) ls (.int (Int32.ofNat n) :: st) h cu su) : m_Go D cI cL ad0 n0 nL A p l e R s m args below meth c Q pc ls (.ref q :: st) h cu su := by
  subst hp
  intro ad H locs lsA hn hag hP hD hS hL
  exact va_alen (m_ex X) (m_cb X) (m_kn X) hP q 0 (m_w_at hq) rfl rfl hd (kk ad H locs lsA hn hag hP hD hS hL)
theorem m_iast {q n : Nat} {f : Nat → Int32} {i x : Int32} (X : m_At D cI cL sa y cc nL ret A TB p l s m args meth c) (hd : decode cc pc0 = .ok (.iastore, 1)) (hq : h[q]? = some (m_ia n f)) (hi : vp_in i n) (hp : pc = pc0) (kk : m_Go D cI cL ad0 n0 nL A p l e R s m args below meth c Q (pc0 + 1) ls st (h.set q (m_ia n (upd f i.toNatClampNeg x))) cu su) : m_Go D cI cL ad0 n0 nL A p l e R s m args below meth c Q pc ls (.int x :: .int i :: .ref q :: st) h cu su := by
  subst hp
  intro ad H locs lsA hn hag hP hD hS hL
  refine va_iast (m_ex X) (m_cb X) (m_kn X) hP hD hS q 0 (m_w_at hq) rfl hi hd (fun H1 locs1 hP1 hD1 hS1 => ?_)
  have e1 : (m_w cI cL ad h).set q (ad q, .inl (cI, n, .inl (upd f i.toNatClampNeg x))) = m_w cI cL ad (h.set q (m_ia n (upd f i.toNatClampNeg x))) := by rw [← m_w_set]; rfl
  have hP2 : va_P D m_cl ((m_w cI cL ad h).set q (ad q, .inl (cI, n, .inl (upd f i.toNatClampNeg x)))) H1 := hP1
  have hD2 : va_D A ((m_w cI cL ad h).set q (ad q, .inl (cI, n, .inl (upd f i.toNatClampNeg x)))) := hD1
  rw [e1] at hP2 hD2
  exact kk ad H1 locs1 lsA (by rw [List.length_set]; exact hn) (by rw [List.length_set]; exact hag) hP2 hD2 hS1 hL
/-! Math -/
theorem m_mmax {k : Nat} {x z : Int32} (X : m_At D cI cL sa y cc nL ret A TB p l s m args meth c) (hd : decode cc pc0 = .ok (.invokestatic k, 3)) (hw : Cond.methodLink y.cls k Lib.Math.max.name ∈ m_ws) (hfr : 1 ≤ R.frames) (hlo : (st.map fun v => v.category).sum + 13 ≤ R.locals) (hc : cu ≤ R.cells) (hs : su ≤ R.slots) (hp : pc = pc0) (kk : m_Go D cI cL ad0 n0 nL A p l e R s m args below meth c Q (pc0 + 3) ls (.int (if x < z then z else x) :: st) h cu su) : m_Go D cI cL ad0 n0 nL A p l e R s m args below meth c Q pc ls (.int z :: .int x :: st) h cu su := by
  subst hp
  intro ad H locs lsA hn hag hP hD hS hL
  exact va_mmax (m_ex X) (m_cb X) ((m_ml X).trans hL.1.symm) (m_ow X) (m_wd X _ hw) (m_wd X _ m_max1) (m_wd X _ m_mat) (m_wd X _ m_max2) hfr (by rw [m_v_cats]; exact hlo) hc hs hd (kk ad H locs lsA hn hag hP hD hS hL)
theorem m_mmin {k : Nat} {x z : Int32} (X : m_At D cI cL sa y cc nL ret A TB p l s m args meth c) (hd : decode cc pc0 = .ok (.invokestatic k, 3)) (hw : Cond.methodLink y.cls k Lib.Math.min.name ∈ m_ws) (hfr : 1 ≤ R.frames) (hlo : (st.map fun v => v.category).sum + 13 ≤ R.locals) (hc : cu ≤ R.cells) (hs : su ≤ R.slots) (hp : pc = pc0) (kk : m_Go D cI cL ad0 n0 nL A p l e R s m args below meth c Q (pc0 + 3) ls (.int (if z < x then z else x) :: st) h cu su) : m_Go D cI cL ad0 n0 nL A p l e R s m args below meth c Q pc ls (.int z :: .int x :: st) h cu su := by
  subst hp
  intro ad H locs lsA hn hag hP hD hS hL
  exact va_mmin (m_ex X) (m_cb X) ((m_ml X).trans hL.1.symm) (m_ow X) (m_wd X _ hw) (m_wd X _ m_min1) (m_wd X _ m_mat) (m_wd X _ m_min2) hfr (by rw [m_v_cats]; exact hlo) hc hs hd (kk ad H locs lsA hn hag hP hD hS hL)
theorem m_obI {k q : Nat} (X : m_At D cI cL sa y cc nL ret A TB p l s m args meth c) (hd : decode cc pc0 = .ok (.invokespecial k, 3)) (hw : Cond.methodLink y.cls k Lib.objectInit ∈ m_ws) (hfr : 1 ≤ R.frames) (hlo : (st.map fun v => v.category).sum + 12 ≤ R.locals) (hp : pc = pc0) (kk : m_Go D cI cL ad0 n0 nL A p l e R s m args below meth c Q (pc0 + 3) ls st h cu su) : m_Go D cI cL ad0 n0 nL A p l e R s m args below meth c Q pc ls (.ref q :: st) h cu su := by
  subst hp
  intro ad H locs lsA hn hag hP hD hS hL
  have hlo9 : ((st.map (m_v ad)).map fun v => v.category).sum + 12 ≤ R.locals := by rw [m_v_cats]; exact hlo
  exact W.objInit (m_ex X) (m_cb X) (m_ow X) (m_wd X _ hw) (m_wd X _ m_obj1) (m_wd X _ m_obj2) rfl (by show lsA.size = c.maxLocals; rw [m_ml X]; exact hL.1) rfl hd hfr (by
    have e9 : 2 * (F0 m pc lsA (List.map (m_v ad) (.ref q :: st))).monitorRoom = 0 := by first | rfl | simp [JFrame.monitorRoom]
    rw [e9]; omega) (kk ad H locs lsA hn hag hP hD hS hL)
/-! new things -/
theorem m_upd_ag {n : Nat} {ad : Nat → Nat} {q : Nat} : ∀ i, i < n → (fun j => if j = n then q else ad j) i = ad i := fun i hi => if_neg (Nat.ne_of_lt hi)
theorem m_new {k ci N : Nat} {C : String} {T : u_T} {fs : List Value} (X : m_At D cI cL sa y cc nL ret A TB p l s m args meth c) (hd : decode cc pc0 = .ok (.new k, 3)) (hcl : m_cl[ci]? = some (C, T, N)) (h1 : Cond.classLink y.cls k C ∈ m_ws) (h2 : Cond.instantiable C N ∈ m_ws) (h3 : Cond.initialized C ∈ m_ws) (ty : Nat → FieldType) (hty : ∀ k, k < N → parseFieldDescriptor (T k).2.2.1 = some (ty k)) (hfs : ∀ j, j < N → defaultValue (ty j) = vp_V fs j) (hnr : fs.all (m_rv 0) = true) (hrb : m_rb h.length ls st = true) (hrh : h.all (m_rc h.length) = true) (hcc : cu + 1 ≤ R.cells) (hss : su + N ≤ R.slots) (hp : pc = pc0) (kk : m_Go D cI cL ad0 n0 nL A p l e R s m args below meth c Q (pc0 + 3) ls (.ref h.length :: st) (h ++ [m_ob ci fs]) (cu + 1) (su + N)) : m_Go D cI cL ad0 n0 nL A p l e R s m args below meth c Q pc ls st h cu su := by
  subst hp
  intro ad H locs lsA hn hag hP hD hS hL
  simp only [m_rb, Bool.and_eq_true] at hrb
  refine va_new (fs := fs) (m_ex X) (m_cb X) (m_wd X) (m_cl_ok ci C T N hcl).1 ty hty (m_ow X) (m_wd X _ h1) (m_wd X _ h2) (m_wd X _ h3) (m_kn X) hP hD hS (m_up X) hcl hfs hcc hss hd (fun q H1 hP1 hD1 hS1 => ?_)
  have ha := m_upd_ag (n := h.length) (ad := ad) (q := q)
  have e0 : fs.map (m_v (fun j => if j = h.length then q else ad j)) = fs := by
    have : fs.map (m_v (fun j => if j = h.length then q else ad j)) = fs.map id := List.map_congr_left fun v hv => by
      have := List.all_eq_true.mp hnr v hv
      cases v <;> first | rfl | (simp [m_rv] at this; done)
    rw [this, List.map_id]
  have e1 : m_w cI cL (fun j => if j = h.length then q else ad j) (h ++ [m_ob ci fs]) = m_w cI cL ad h ++ [(q, .inr (ci, fs))] := by
    rw [m_w_app, m_w_same ha (Nat.le_refl _) hrh]; simp only [m_c, e0, if_true]
  have k9 := kk (fun j => if j = h.length then q else ad j) H1 locs lsA (by rw [List.length_append]; omega) (fun i hi => by
    rw [List.length_append, List.length_singleton] at hi
    have hne : i ≠ h.length := by omega
    rw [if_neg hne]; exact hag i (by omega)) (by rw [e1]; exact hP1) (by rw [e1]; exact hD1) hS1 (by rw [m_ls_same ha hrb.1]; exact hL)
  rw [List.map_cons, m_st_same ha hrb.2] at k9
  have e2 : m_v (fun j => if j = h.length then q else ad j) (.ref h.length) = .ref q := by simp [m_v]
  rw [e2] at k9
  exact k9
theorem m_newa {at9 : ArrayType} {ty : FieldType} {n : Int32} {N : Nat} {a0 : vp_A} (X : m_At D cI cL sa y cc nL ret A TB p l s m args meth c) (hd : decode cc pc0 = .ok (.newarray at9, 2)) (hw : Cond.arrayClass (newarray.typeOf at9) ∈ m_ws) (hty : newarray.typeOf at9 = ty) (hk : ty = .int ∧ ∃ f, a0.2 = .inl f) (ha : ∀ cA : ClassId, vp_cell cA a0 = arrV cA N (fun _ => defaultValue ty)) (hn0 : ¬ n < 0) (hN : n.toNatClampNeg = N) (hby : N * componentBytes ty ≤ 536870912) (hrb : m_rb h.length ls st = true) (hrh : h.all (m_rc h.length) = true) (hcc : cu + 1 ≤ R.cells) (hss : su + N ≤ R.slots) (hp : pc = pc0) (kk : m_Go D cI cL ad0 n0 nL A p l e R s m args below meth c Q (pc0 + 2) ls (.ref h.length :: st) (h ++ [.inl a0]) (cu + 1) (su + N)) : m_Go D cI cL ad0 n0 nL A p l e R s m args below meth c Q pc ls (.int n :: st) h cu su := by
  subst hp
  intro ad H locs lsA hn hag hP hD hS hL
  simp only [m_rb, Bool.and_eq_true] at hrb
  refine va_newa (m_ex X) (m_cb X) (m_wd X _ hw) hty (m_kn X) hP hD hS (m_up X) ha hn0 hN hby hcc hss hd (fun q cA H1 hK1 hP1 hD1 hS1 => ?_)
  have hcA : cA = m_kc cI cL a0 := by
    have h9 := (hK1.2 1 (cA, ty) rfl).2
    obtain ⟨rfl, f, hf⟩ := hk
    have h8 := ((m_kn X).2 0 (cI, .int) rfl).2
    simp only [m_kc, hf]
    exact Option.some.inj (Eq.trans (Eq.symm h9) h8)
  subst hcA
  have ha := m_upd_ag (n := h.length) (ad := ad) (q := q)
  have e1 : m_w cI cL (fun j => if j = h.length then q else ad j) (h ++ [.inl a0]) = m_w cI cL ad h ++ [(q, .inl (m_kc cI cL a0, a0))] := by
    rw [m_w_app, m_w_same ha (Nat.le_refl _) hrh]; simp only [m_c, if_true]
  have k9 := kk (fun j => if j = h.length then q else ad j) H1 locs lsA (by rw [List.length_append]; omega) (fun i hi => by
    rw [List.length_append, List.length_singleton] at hi
    have hne : i ≠ h.length := by omega
    rw [if_neg hne]; exact hag i (by omega)) (by rw [e1]; exact hP1) (by rw [e1]; exact hD1) hS1 (by rw [m_ls_same ha hrb.1]; exact hL)
  rw [List.map_cons, m_st_same ha hrb.2] at k9
  have e2 : m_v (fun j => if j = h.length then q else ad j) (.ref h.length) = .ref q := by simp [m_v]
  rw [e2] at k9
  exact k9
end MI
end
section
section MC
/-! ===== contracts: the whole mini heap in, an outcome and the whole mini heap out ===== -/
/-- a method: name, bytes, locals, return, rank (how deep its calls go), cells and slots that it may make -/
abbrev m_M : Type := MethodName × ByteArray × Nat × Option FieldType × Nat × Nat × Nat
abbrev m_My (M : m_M) : MethodName := M.1
abbrev m_Mb (M : m_M) : ByteArray := M.2.1
abbrev m_Ml (M : m_M) : Nat := M.2.2.1
abbrev m_Mr (M : m_M) : Option FieldType := M.2.2.2.1
abbrev m_Mk (M : m_M) : Nat := M.2.2.2.2.1
abbrev m_Mc (M : m_M) : Nat := M.2.2.2.2.2.1
abbrev m_Ms (M : m_M) : Nat := M.2.2.2.2.2.2
def m_rm (M : m_M) : Room := { frames := m_Mk M, cells := m_Mc M, slots := m_Ms M, locals := 32 * m_Mk M }
def m_Ws (M : m_M) : List Cond := Cond.code (m_My M) (m_Mb M) (m_Ml M) (m_Mr M) :: m_ws
def m_WsH (M : m_M) (hh : List (Nat × Nat × Nat × Nat)) : List Cond := Cond.codeWith (m_My M) (m_Mb M) (m_Ml M) (m_Mr M) hh :: m_ws
/-- returned with a value, or thrown -/
abbrev m_Om : Type := (Option Value × m_H) ⊕ (String × m_H)
def m_Q (D : va_G) (cI cL : ClassId) (ad : Nat → Nat) (n0 : Nat) (A : Nat → Prop) (om : m_Om) : Array Value → State → Outcome → State → Prop := fun _ st oc t =>
  ∃ (v : Option Value) (hf : m_H) (ad' : Nat → Nat), om = .inl (v, hf) ∧ oc = .returned (v.map (m_v ad')) ∧ n0 ≤ hf.length ∧ (∀ i, (i < n0 ∨ hf.length ≤ i) → ad' i = ad i) ∧ va_P D m_cl (m_w cI cL ad' hf) t.heap ∧ va_D A (m_w cI cL ad' hf) ∧ va_F A st t
def m_XC (D : va_G) (cI cL : ClassId) (ad : Nat → Nat) (n0 : Nat) (A : Nat → Prop) (om : m_Om) : String → State → State → Prop := fun E st t =>
  ∃ (hf : m_H) (ad' : Nat → Nat), om = .inr (E, hf) ∧ n0 ≤ hf.length ∧ (∀ i, (i < n0 ∨ hf.length ≤ i) → ad' i = ad i) ∧ va_P D m_cl (m_w cI cL ad' hf) t.heap ∧ va_D A (m_w cI cL ad' hf) ∧ va_F A st t
def m_Pre (D : va_G) (cI cL : ClassId) (sa ad : Nat → Nat) (h : m_H) (sz : Nat) (as : List Value) : Array Value → State → Prop := va_Pc (as.map (m_v ad)) (fun U => U.heap.size = sz ∧ va_P D m_cl (m_w cI cL ad h) U.heap ∧ va_D (fun _ => True) (m_w cI cL ad h) ∧ va_K D m_cl (m_tys cI cL) U ∧ m_Env (va_A (m_w cI cL ad h) sz) sa U U.heap)
abbrev m_VQ (D : va_G) (cI cL : ClassId) (ad : Nat → Nat) (n0 : Nat) (A : Nat → Prop) (om : m_Om) (below : List Frame) (args : Array Value) (s : State) (mc ms : Nat) : State → Prop := vx_MQ below (m_Q D cI cL ad n0 A om) (m_XC D cI cL ad n0 A om) args s mc ms A
def m_Ctr (M : m_M) (as : List Value) (h : m_H) (om : m_Om) : Prop := ∀ (l : Launch) (D : va_G) (cI cL : ClassId) (sa ad : Nat → Nat) (sz : Nat), l.stackTraces = false →
  vx_Met l (m_My M) (m_Ws M) (m_rm M) (m_Pre D cI cL sa ad h sz as) (m_Q D cI cL ad h.length (va_A (m_w cI cL ad h) sz) om) (m_XC D cI cL ad h.length (va_A (m_w cI cL ad h) sz) om) (m_Mc M) (m_Ms M) (va_A (m_w cI cL ad h) sz)
def m_CtrH (M : m_M) (hh : List (Nat × Nat × Nat × Nat)) (as : List Value) (h : m_H) (om : m_Om) : Prop := ∀ (l : Launch) (D : va_G) (cI cL : ClassId) (sa ad : Nat → Nat) (sz : Nat), l.stackTraces = false →
  vx_Met l (m_My M) (m_WsH M hh) (m_rm M) (m_Pre D cI cL sa ad h sz as) (m_Q D cI cL ad h.length (va_A (m_w cI cL ad h) sz) om) (m_XC D cI cL ad h.length (va_A (m_w cI cL ad h) sz) om) (m_Mc M) (m_Ms M) (va_A (m_w cI cL ad h) sz)
theorem m_blind {D : va_G} {cI cL : ClassId} {sa ad : Nat → Nat} {h : m_H} {sz : Nat} {as : List Value} : FrameBlind (m_Pre D cI cL sa ad h sz as) := fun a U g mk q => by
  obtain ⟨q0, q1, q2, q3, q4, q5⟩ := q
  exact ⟨q0, q1, q2, q3, va_K.moved (u := U) (U := U.calling g mk a) (Vm.Alike.refl U.vm) q4, m_Env_same (u := U) (U := U.calling g mk a) rfl q5⟩
/-- a method's body: walk it from its entry -/
theorem m_intro {M : m_M} {as : List Value} {h : m_H} {om : m_Om} (hy : plainName (m_My M).cls = true) (hsz : (lg_sl as).length ≤ m_Ml M)
    (body : ∀ {D : va_G} {cI cL : ClassId} {sa : Nat → Nat} {A : Nat → Prop} {p : Program} {l : Launch} {e : Env} {s : State} {m : MethodId} {args : Array Value} {below : List Frame} {meth : Method} {c : Code} {ad : Nat → Nat}, m_At D cI cL sa (m_My M) (m_Mb M) (m_Ml M) (m_Mr M) A [] p l s m args meth c →
      m_Go D cI cL ad h.length (m_Ml M) A p l e (m_rm M) s m args below meth c (m_VQ D cI cL ad h.length A om below args s (m_Mc M) (m_Ms M)) 0 (lv_args 0 as) [] h 0 0) : m_Ctr M as h om := by
  intro l D cI cL sa ad sz hl
  refine vx_ofW (cc := m_Mb M) (maxL := m_Ml M) (ret := m_Mr M) hy rfl ?_
  intro p e s m args below meth c s₁ B hml ht hv
  obtain ⟨rfl, hsz9, hP, hD0, hK, hE⟩ := hv
  subst hsz9
  have hD := hD0.self (sz := s.heap.size)
  have hts := atoms_spec (ws := m_Ws M) B.pre
  have X : m_At D cI cL sa (m_My M) (m_Mb M) (m_Ml M) (m_Mr M) (va_A (m_w cI cL ad h) s.heap.size) [] p l s m (as.map (m_v ad)).toArray meth c :=
    ⟨B.exec, B.bytes, hml, B.returns, B.notSynchronized, (name_of_methodNamed B.named B.method).1, findClass_of_methodNamed B.named, fun w hw => hts w (List.mem_cons_of_mem _ hw), hK, hE, fun q hq => Or.inr hq, hl, List.eq_nil_iff_forall_not_mem.mpr ht⟩
  have hl9 := lv_entry (as.map (m_v ad)) (n := m_Ml M) (by rw [m_lsl]; exact hsz)
  rw [m_largs] at hl9
  rw [lg_entry_eq]
  exact body X ad s.heap [] _ (Nat.le_refl _) (fun _ _ => rfl) hP hD va_S.rf hl9
theorem m_introH {M : m_M} {hh : List (Nat × Nat × Nat × Nat)} {as : List Value} {h : m_H} {om : m_Om} (hy : plainName (m_My M).cls = true) (hsz : (lg_sl as).length ≤ m_Ml M)
    (body : ∀ {D : va_G} {cI cL : ClassId} {sa : Nat → Nat} {A : Nat → Prop} {p : Program} {l : Launch} {e : Env} {s : State} {m : MethodId} {args : Array Value} {below : List Frame} {meth : Method} {c : Code} {ad : Nat → Nat}, m_At D cI cL sa (m_My M) (m_Mb M) (m_Ml M) (m_Mr M) A (tableOf hh) p l s m args meth c →
      m_Go D cI cL ad h.length (m_Ml M) A p l e (m_rm M) s m args below meth c (m_VQ D cI cL ad h.length A om below args s (m_Mc M) (m_Ms M)) 0 (lv_args 0 as) [] h 0 0) : m_CtrH M hh as h om := by
  intro l D cI cL sa ad sz hl
  refine vx_ofWH (cc := m_Mb M) (maxL := m_Ml M) (ret := m_Mr M) (hh := hh) hy rfl ?_
  intro p e s m args below meth c s₁ B hml hv
  obtain ⟨rfl, hsz9, hP, hD0, hK, hE⟩ := hv
  subst hsz9
  have hD := hD0.self (sz := s.heap.size)
  have hts := atoms_spec (ws := m_WsH M hh) B.pre
  have X : m_At D cI cL sa (m_My M) (m_Mb M) (m_Ml M) (m_Mr M) (va_A (m_w cI cL ad h) s.heap.size) (tableOf hh) p l s m (as.map (m_v ad)).toArray meth c :=
    ⟨B.exec, B.bytes, hml, B.returns, B.notSynchronized, (name_of_methodNamed B.named B.method).1, findClass_of_methodNamed B.named, fun w hw => hts w (List.mem_cons_of_mem _ hw), hK, hE, fun q hq => Or.inr hq, hl, vx_table (x := m_My M) B (hts _ List.mem_cons_self)⟩
  have hl9 := lv_entry (as.map (m_v ad)) (n := m_Ml M) (by rw [m_lsl]; exact hsz)
  rw [m_largs] at hl9
  rw [lg_entry_eq]
  exact body X ad s.heap [] _ (Nat.le_refl _) (fun _ _ => rfl) hP hD va_S.rf hl9
theorem m_met {M : m_M} {as : List Value} {h h' : m_H} {v : Option Value} (hC : m_Ctr M as h (.inl (v, h'))) (l : Launch) (D : va_G) (cI cL : ClassId) (sa ad : Nat → Nat) (sz : Nat) (hl : l.stackTraces = false) :
    Met l (m_My M) (m_Ws M) (m_rm M) (m_Pre D cI cL sa ad h sz as) (m_Q D cI cL ad h.length (va_A (m_w cI cL ad h) sz) (.inl (v, h'))) (m_Mc M) (m_Ms M) (va_A (m_w cI cL ad h) sz) :=
  MetFree.mono (hC l D cI cL sa ad sz hl) (fun _ _ h => h) (fun _ _ _ _ _ h => h) (fun a st o t _ hq => by
    rcases hq with ⟨h1, L, h2, h3⟩ | ⟨q, ho, E, ce, L, hx, -⟩
    · exact ⟨h1, L, h2, h3⟩
    · obtain ⟨hf, ad', he, -⟩ := hx
      cases he)
theorem m_metH {M : m_M} {hh : List (Nat × Nat × Nat × Nat)} {as : List Value} {h h' : m_H} {v : Option Value} (hC : m_CtrH M hh as h (.inl (v, h'))) (l : Launch) (D : va_G) (cI cL : ClassId) (sa ad : Nat → Nat) (sz : Nat) (hl : l.stackTraces = false) :
    Met l (m_My M) (m_WsH M hh) (m_rm M) (m_Pre D cI cL sa ad h sz as) (m_Q D cI cL ad h.length (va_A (m_w cI cL ad h) sz) (.inl (v, h'))) (m_Mc M) (m_Ms M) (va_A (m_w cI cL ad h) sz) :=
  MetFree.mono (hC l D cI cL sa ad sz hl) (fun _ _ h => h) (fun _ _ _ _ _ h => h) (fun a st o t _ hq => by
    rcases hq with ⟨h1, L, h2, h3⟩ | ⟨q, ho, E, ce, L, hx, -⟩
    · exact ⟨h1, L, h2, h3⟩
    · obtain ⟨hf, ad', he, -⟩ := hx
      cases he)
/-- what is known of a method by name -/
def m_MK (M : m_M) (n : Nat) : Prop := Cond.code (m_My M) (m_Mb M) (m_Ml M) (m_Mr M) ∈ m_ws ∧ Cond.initialized (m_My M).cls ∈ m_ws ∧ ((m_My M).cls ≠ "java/lang/invoke/MethodHandle" ∧ (m_My M).cls ≠ "java/lang/invoke/VarHandle" ∧ (parseMethodDescriptor (m_My M).desc).map (fun d => d.parameters.length) = some n)
def m_MKH (M : m_M) (hh : List (Nat × Nat × Nat × Nat)) (n : Nat) : Prop := Cond.codeWith (m_My M) (m_Mb M) (m_Ml M) (m_Mr M) hh ∈ m_ws ∧ Cond.initialized (m_My M).cls ∈ m_ws ∧ ((m_My M).cls ≠ "java/lang/invoke/MethodHandle" ∧ (m_My M).cls ≠ "java/lang/invoke/VarHandle" ∧ (parseMethodDescriptor (m_My M).desc).map (fun d => d.parameters.length) = some n)
def m_LK (own : String) (k : Nat) (M : m_M) : Prop := Cond.methodLink own k (m_My M) ∈ m_ws ∨ ∃ host, Cond.methodLinkNest own k (m_My M) host ∈ m_nw
theorem m_good {M : m_M} {n : Nat} (hK : m_MK M n) : GoodIn m_ws (m_Ws M) := fun w hw => by
  rcases List.mem_cons.mp hw with rfl | hw
  · exact ⟨hK.1, good_of_word (m_ws_good hK.1)⟩
  · exact ⟨hw, good_of_word (m_ws_good hw)⟩
variable {D : va_G} {cI cL : ClassId} {sa : Nat → Nat} {y : MethodName} {cc : ByteArray} {nL : Nat} {ret : Option FieldType} {A : Nat → Prop} {TB : List ExceptionTableEntry} {p : Program} {l : Launch} {e : Env} {R : Room} {s : State} {m : MethodId} {args : Array Value} {below : List Frame} {meth : Method} {c : Code} {Q : State → Prop} {ad0 : Nat → Nat} {n0 pc pc0 : Nat} {ls : List (Nat × Value)} {st : List Value} {h : m_H} {cu su : Nat} {om : m_Om} {mc ms : Nat}
theorem m_AB {ws : va_W} {H : Heap} {locs : List Loc} (X : m_At D cI cL sa y cc nL ret A TB p l s m args meth c) (hD : va_D A ws) (hS : va_S A s.heap H locs) : ∀ q, va_A ws H.size q → A q := by
  rintro q (⟨k, e9, hk⟩ | hq)
  · exact hD.2 k (q, e9) hk
  · exact m_up X q (Nat.le_trans hS.1 hq)
theorem m_pre {ad : Nat → Nat} {H : Heap} {locs : List Loc} {as : List Value} (X : m_At D cI cL sa y cc nL ret A TB p l s m args meth c) (hP : va_P D m_cl (m_w cI cL ad h) H) (hD : va_D A (m_w cI cL ad h)) (hS : va_S A s.heap H locs) : ∀ U : State, U.heap = H → s.WarmedH U.vm → m_Pre D cI cL sa ad h H.size as (as.map (m_v ad)).toArray U := by
  intro U hU hW
  refine ⟨rfl, by rw [hU], by rw [hU]; exact hP, hD.weaken (fun _ _ _ _ => trivial), va_K.moved hW.alike (m_kn X), ?_⟩
  rw [hU]
  exact m_Env_for (m_ev X) hS hW (m_AB X hD hS)
theorem m_fix (X : m_At D cI cL sa y cc nL ret A TB p l s m args meth c) : CallFix p m c cc nL s args m_ws y.cls := ⟨m_ex X, m_cb X, m_ml X, m_ow X, m_wd X⟩
theorem m_ag {ad ad' : Nat → Nat} {n : Nat} (h0 : ∀ i, (i < n ∨ n ≤ i) → ad' i = ad i) : ad' = ad := funext fun i => h0 i (Nat.lt_or_ge i n)
theorem m_optmap {ad : Nat → Nat} {v : Option Value} {rest : List Value} : (v.map (m_v ad)).toList ++ rest.map (m_v ad) = (v.toList ++ rest).map (m_v ad) := by cases v <;> rfl
/-- behind a call that makes nothing -/
theorem m_after {h' : m_H} {v : Option Value} {rest stA : List Value} {ad : Nat → Nat} {H : Heap} {locs : List Loc} {lsA : Array Slot} {mc2 ms2 : Nat} {a2 : Array Value} (X : m_At D cI cL sa y cc nL ret A TB p l s m args meth c)
    (hr : va_Run p l e R s m args below meth c H locs cu su mc2 ms2 (F0 m pc lsA stA) (rest.map (m_v ad)) (m_Q D cI cL ad h.length (va_A (m_w cI cL ad h) H.size) (.inl (v, h')) a2) (va_A (m_w cI cL ad h) H.size)) (hlen : h'.length = h.length)
    (hn : n0 ≤ h.length) (hag : ∀ i, (i < n0 ∨ h.length ≤ i) → ad i = ad0 i) (hD : va_D A (m_w cI cL ad h)) (hS : va_S A s.heap H locs) (hL : lv_has lsA nL (ls.map (fun q => (q.1, m_v ad q.2))))
    (kk : m_Go D cI cL ad0 n0 nL A p l e R s m args below meth c Q (pc + 3) ls (v.toList ++ rest) h' (cu + mc2) (su + ms2)) : W p l e R s m args below meth c H locs cu su Q (F0 m pc lsA stA) := by
  intro T hT XX
  obtain ⟨v9, st₀, t, T', L, h0, X', hL', e1, e2, ⟨vv, hf, ad', he, hoc, hn', hag', hP', hD', hF⟩, st9⟩ := hr T hT XX
  cases he
  have had : ad' = ad := m_ag (n := h.length) (fun i hi => hag' i (by rw [hlen]; exact hi))
  subst had
  cases hoc
  have hAB := m_AB X hD hS
  obtain ⟨k1, k2, k3⟩ := vx_keep h0 e1 hS (fun q _ hq => hAB q hq) hAB hL' hF
  obtain ⟨t2, a1, b1⟩ := kk ad' T'.heap (locs ++ L) lsA (by rw [hlen]; exact hn) (by rw [hlen]; exact hag) (by rw [e1]; exact hP') (hD'.weaken (fun _ q _ hq => hAB q.1 hq)) k3 hL T' rfl X'
  refine ⟨t2, st9 t2 ?_, b1⟩
  rw [m_optmap]
  exact a1
/-- behind a call that may make things -/
theorem m_afterA {h' : m_H} {v : Option Value} {rest stA : List Value} {ad : Nat → Nat} {H : Heap} {locs : List Loc} {lsA : Array Slot} {mc2 ms2 : Nat} {a2 : Array Value} (X : m_At D cI cL sa y cc nL ret A TB p l s m args meth c)
    (hr : va_Run p l e R s m args below meth c H locs cu su mc2 ms2 (F0 m pc lsA stA) (rest.map (m_v ad)) (m_Q D cI cL ad h.length (va_A (m_w cI cL ad h) H.size) (.inl (v, h')) a2) (va_A (m_w cI cL ad h) H.size)) (hlen : h.length ≤ h'.length) (hrb : m_rb h.length ls rest = true)
    (hn : n0 ≤ h.length) (hag : ∀ i, (i < n0 ∨ h.length ≤ i) → ad i = ad0 i) (hD : va_D A (m_w cI cL ad h)) (hS : va_S A s.heap H locs) (hL : lv_has lsA nL (ls.map (fun q => (q.1, m_v ad q.2))))
    (kk : m_Go D cI cL ad0 n0 nL A p l e R s m args below meth c Q (pc + 3) ls (v.toList ++ rest) h' (cu + mc2) (su + ms2)) : W p l e R s m args below meth c H locs cu su Q (F0 m pc lsA stA) := by
  simp only [m_rb, Bool.and_eq_true] at hrb
  intro T hT XX
  obtain ⟨v9, st₀, t, T', L, h0, X', hL', e1, e2, ⟨vv, hf, ad', he, hoc, hn', hag', hP', hD', hF⟩, st9⟩ := hr T hT XX
  cases he
  cases hoc
  have ha : ∀ i, i < h.length → ad' i = ad i := fun i hi => hag' i (Or.inl hi)
  have hAB := m_AB X hD hS
  obtain ⟨k1, k2, k3⟩ := vx_keep h0 e1 hS (fun q _ hq => hAB q hq) hAB hL' hF
  obtain ⟨t2, a1, b1⟩ := kk ad' T'.heap (locs ++ L) lsA (by omega) (fun i hi => (hag' i (by omega)).trans (hag i (by omega))) (by rw [e1]; exact hP') (hD'.weaken (fun _ q _ hq => hAB q.1 hq)) k3 (by rw [m_ls_same ha hrb.1]; exact hL) T' rfl X'
  refine ⟨t2, st9 t2 ?_, b1⟩
  rw [← m_st_same ha hrb.2, m_optmap]
  exact a1
/-! ends -/
theorem m_iret {x : Int32} (X : m_At D cI cL sa y cc nL ret A TB p l s m args meth c) (hd : decode cc pc0 = .ok (.ireturn, 1)) (hr : ret = some .int) (ho : om = .inl (some (.int x), h)) (hc : cu ≤ mc) (hs : su ≤ ms) (hp : pc = pc0) : m_Go D cI cL ad0 n0 nL A p l e R s m args below meth c (m_VQ D cI cL ad0 n0 A om below args s mc ms) pc ls [.int x] h cu su := by
  subst hp
  intro ad H locs lsA hn hag hP hD hS hL
  exact W.widen hc hs (vx_ret (W.iret (m_ex X) (m_cb X) ((m_rt X).trans hr) (fun t ht hW => ⟨_, h, ad, ho, rfl, hn, hag, by rw [ht]; exact hP, hD, hS.F ht⟩) hS.2.2 hd (m_lk X)))
theorem m_zret {x : Int32} {ty : FieldType} (X : m_At D cI cL sa y cc nL ret A TB p l s m args meth c) (hd : decode cc pc0 = .ok (.ireturn, 1)) (hr : ret = some ty) (hx : narrow ty (.int x) = .int x) (ho : om = .inl (some (.int x), h)) (hc : cu ≤ mc) (hs : su ≤ ms) (hp : pc = pc0) : m_Go D cI cL ad0 n0 nL A p l e R s m args below meth c (m_VQ D cI cL ad0 n0 A om below args s mc ms) pc ls [.int x] h cu su := by
  subst hp
  intro ad H locs lsA hn hag hP hD hS hL
  exact W.widen hc hs (vx_ret (W.zret (m_ex X) (m_cb X) ((m_rt X).trans hr) hx (fun t ht hW => ⟨_, h, ad, ho, rfl, hn, hag, by rw [ht]; exact hP, hD, hS.F ht⟩) hS.2.2 hd (m_lk X)))
theorem m_lret {x : Int64} (X : m_At D cI cL sa y cc nL ret A TB p l s m args meth c) (hd : decode cc pc0 = .ok (.lreturn, 1)) (hr : ret = some .long) (ho : om = .inl (some (.long x), h)) (hc : cu ≤ mc) (hs : su ≤ ms) (hp : pc = pc0) : m_Go D cI cL ad0 n0 nL A p l e R s m args below meth c (m_VQ D cI cL ad0 n0 A om below args s mc ms) pc ls [.long x] h cu su := by
  subst hp
  intro ad H locs lsA hn hag hP hD hS hL
  exact W.widen hc hs (vx_ret (W.lret (m_ex X) (m_cb X) ((m_rt X).trans hr) (fun t ht hW => ⟨_, h, ad, ho, rfl, hn, hag, by rw [ht]; exact hP, hD, hS.F ht⟩) hS.2.2 hd (m_lk X)))
theorem m_vret (X : m_At D cI cL sa y cc nL ret A TB p l s m args meth c) (hd : decode cc pc0 = .ok (.return_, 1)) (hr : ret = none) (ho : om = .inl (none, h)) (hc : cu ≤ mc) (hs : su ≤ ms) (hp : pc = pc0) : m_Go D cI cL ad0 n0 nL A p l e R s m args below meth c (m_VQ D cI cL ad0 n0 A om below args s mc ms) pc ls [] h cu su := by
  subst hp
  intro ad H locs lsA hn hag hP hD hS hL
  exact W.widen hc hs (vx_ret (W.vret (m_ex X) (m_cb X) ((m_rt X).trans hr) (fun t ht hW => ⟨_, h, ad, ho, rfl, hn, hag, by rw [ht]; exact hP, hD, hS.F ht⟩) hS.2.2 hd (m_lk X)))

theorem m_callS {M : m_M} {h' : m_H} {v : Option Value} {rest : List Value} {k n : Nat} {as : List Value} (X : m_At D cI cL sa y cc nL ret A TB p l s m args meth c) (hd : decode cc pc0 = .ok (.invokestatic k, 3)) (hk : m_LK y.cls k M) (hK : m_MK M n) (hst : Cond.static (m_My M) ∈ m_ws) (hC : m_Ctr M as h (.inl (v, h'))) (hs9 : st = as.reverse ++ rest) (hn9 : as.length = n) (hlen : h'.length = h.length) (hro : (rest.map fun v => v.category).sum ≤ 8) (hrk : m_Mk M + 1 ≤ R.frames) (hrl : 8 + (m_Ml M + 11) + 32 * m_Mk M ≤ R.locals) (hcc : cu + m_Mc M ≤ R.cells) (hss : su + m_Ms M ≤ R.slots) (hp : pc = pc0)
    (kk : m_Go D cI cL ad0 n0 nL A p l e R s m args below meth c Q (pc0 + 3) ls (v.toList ++ rest) h' (cu + m_Mc M) (su + m_Ms M)) : m_Go D cI cL ad0 n0 nL A p l e R s m args below meth c Q pc ls st h cu su := by
  subst hp
  subst hs9
  intro ad H locs lsA hn hag hP hD hS hL
  have hM := m_met hC l D cI cL sa ad H.size (m_nt X)
  have hpre : PreS s H (m_Pre D cI cL sa ad h H.size as) (as.map (m_v ad)) := ⟨m_blind, m_pre X hP hD hS⟩
  refine (fun hr => m_after X hr hlen hn hag hD hS hL kk) (?_ : va_Run p l e R s m args below meth c H locs cu su _ _ (F0 m pc lsA (((as.reverse ++ rest) : List Value).map (m_v ad))) (rest.map (m_v ad)) (m_Q D cI cL ad h.length (va_A (m_w cI cL ad h) H.size) (.inl (v, h')) (as.map (m_v ad)).toArray) (va_A (m_w cI cL ad h) H.size))
  rcases hk with hk | ⟨host, hk⟩
  · exact va_runS (m_fix X) hM ⟨callB_of n (m_wd X) (m_good hK) rfl rfl rfl (m_wd X _ hK.2.1) (m_wd X _ hk) hK.2.2 ⟨hrk, hrl⟩, m_wd X _ hst⟩ hpre rfl (by rw [List.length_map]; exact hn9) hL.1 (by simp [List.map_append, List.map_reverse]) (lv_room (by rw [m_v_cats]; exact hro)) hd ⟨hcc, hss⟩
  · exact va_runSN (m_fix X) hM ⟨va_cnB n (m_wd X) (m_good hK) rfl rfl rfl ((m_ev X).1 _ hk) (m_wd X _ hK.2.1) hK.2.2 ⟨hrk, hrl⟩, m_wd X _ hst, trivial⟩ hpre rfl (by rw [List.length_map]; exact hn9) hL.1 (by simp [List.map_append, List.map_reverse]) (lv_room (by rw [m_v_cats]; exact hro)) hd ⟨hcc, hss⟩
theorem m_callV {M : m_M} {h' : m_H} {v : Option Value} {rest : List Value} {k n : Nat} {as : List Value} {q : Nat} {ci : Nat} {fs : List Value} (X : m_At D cI cL sa y cc nL ret A TB p l s m args meth c) (hd : decode cc pc0 = .ok (.invokevirtual k, 3)) (hk : m_LK y.cls k M) (hK : m_MK M n) (hin : Cond.instanceMethod (m_My M) ∈ m_ws) (hse : Cond.selects (m_My M).cls (m_My M) (m_My M) ∈ m_ws) (hq : h[q]? = some (m_ob ci fs)) (hci : (m_cl[ci]?).map Prod.fst = some (m_My M).cls) (hC : m_Ctr M (.ref q :: as) h (.inl (v, h'))) (hs9 : st = as.reverse ++ .ref q :: rest) (hn9 : as.length = n) (hlen : h'.length = h.length) (hro : (rest.map fun v => v.category).sum ≤ 8) (hrk : m_Mk M + 1 ≤ R.frames) (hrl : 8 + (m_Ml M + 11) + 32 * m_Mk M ≤ R.locals) (hcc : cu + m_Mc M ≤ R.cells) (hss : su + m_Ms M ≤ R.slots) (hp : pc = pc0)
    (kk : m_Go D cI cL ad0 n0 nL A p l e R s m args below meth c Q (pc0 + 3) ls (v.toList ++ rest) h' (cu + m_Mc M) (su + m_Ms M)) : m_Go D cI cL ad0 n0 nL A p l e R s m args below meth c Q pc ls st h cu su := by
  subst hp
  subst hs9
  intro ad H locs lsA hn hag hP hD hS hL
  have hM := m_met hC l D cI cL sa ad H.size (m_nt X)
  have hrec : ∃ cell : Cell, H[ad q]? = some cell ∧ cell.vm.isStatics = false ∧ s.vm.findClass (m_My M).cls = some cell.cls := by
    cases hcx : m_cl[ci]? with
    | none => rw [hcx] at hci; cases hci
    | some cq =>
      rw [hcx] at hci
      have e9 : cq.1 = (m_My M).cls := Option.some.inj hci
      rw [← e9]
      exact va_recv (m_kn X) hP hcx (m_w_at hq)
  have hpre : PreV s H (m_My M).cls (ad q) (m_Pre D cI cL sa ad h H.size (.ref q :: as)) (as.map (m_v ad)) := ⟨m_blind, hrec, m_pre (as := .ref q :: as) X hP hD hS⟩
  refine (fun hr => m_after X hr hlen hn hag hD hS hL kk) (?_ : va_Run p l e R s m args below meth c H locs cu su _ _ (F0 m pc lsA (((as.reverse ++ .ref q :: rest) : List Value).map (m_v ad))) (rest.map (m_v ad)) (m_Q D cI cL ad h.length (va_A (m_w cI cL ad h) H.size) (.inl (v, h')) (Value.ref (ad q) :: as.map (m_v ad)).toArray) (va_A (m_w cI cL ad h) H.size))
  rcases hk with hk | ⟨host, hk⟩
  · exact va_runV (m_fix X) hM ⟨callB_of n (m_wd X) (m_good hK) rfl rfl rfl (m_wd X _ hK.2.1) (m_wd X _ hk) hK.2.2 ⟨hrk, hrl⟩, m_wd X _ hin, m_wd X _ hse⟩ hpre rfl (by rw [List.length_map]; exact hn9) hL.1 (by simp [List.map_append, List.map_reverse, m_v]) (lv_room (by rw [m_v_cats]; exact hro)) hd ⟨hcc, hss⟩
  · exact va_runVN (m_fix X) hM ⟨va_cnB n (m_wd X) (m_good hK) rfl rfl rfl ((m_ev X).1 _ hk) (m_wd X _ hK.2.1) hK.2.2 ⟨hrk, hrl⟩, m_wd X _ hin, m_wd X _ hse⟩ hpre rfl (by rw [List.length_map]; exact hn9) hL.1 (by simp [List.map_append, List.map_reverse, m_v]) (lv_room (by rw [m_v_cats]; exact hro)) hd ⟨hcc, hss⟩
theorem m_callI {M : m_M} {h' : m_H} {v : Option Value} {rest : List Value} {k n : Nat} {as : List Value} {q : Nat} (X : m_At D cI cL sa y cc nL ret A TB p l s m args meth c) (hd : decode cc pc0 = .ok (.invokespecial k, 3)) (hk : m_LK y.cls k M) (hK : m_MK M n) (hin : Cond.instanceMethod (m_My M) ∈ m_ws) (hini : (m_My M).name = "<init>") (hrn : m_Mr M = none) (hC : m_Ctr M (.ref q :: as) h (.inl (v, h'))) (hs9 : st = as.reverse ++ .ref q :: rest) (hn9 : as.length = n) (hlen : h.length ≤ h'.length) (hrb : m_rb h.length ls rest = true) (hro : (rest.map fun v => v.category).sum ≤ 8) (hrk : m_Mk M + 1 ≤ R.frames) (hrl : 8 + (m_Ml M + 11) + 32 * m_Mk M ≤ R.locals) (hcc : cu + m_Mc M ≤ R.cells) (hss : su + m_Ms M ≤ R.slots) (hp : pc = pc0)
    (kk : m_Go D cI cL ad0 n0 nL A p l e R s m args below meth c Q (pc0 + 3) ls (v.toList ++ rest) h' (cu + m_Mc M) (su + m_Ms M)) : m_Go D cI cL ad0 n0 nL A p l e R s m args below meth c Q pc ls st h cu su := by
  subst hp
  subst hs9
  intro ad H locs lsA hn hag hP hD hS hL
  have hM := m_met hC l D cI cL sa ad H.size (m_nt X)
  have hpre : PreS s H (m_Pre D cI cL sa ad h H.size (.ref q :: as)) (.ref (ad q) :: as.map (m_v ad)) := ⟨m_blind, m_pre (as := .ref q :: as) X hP hD hS⟩
  obtain ⟨My, Mb, Ml, Mr, Mk, Mc, Ms⟩ := M
  cases hrn
  refine (fun hr => m_afterA X hr hlen hrb hn hag hD hS hL kk) (?_ : va_Run p l e R s m args below meth c H locs cu su _ _ (F0 m pc lsA (((as.reverse ++ .ref q :: rest) : List Value).map (m_v ad))) (rest.map (m_v ad)) (m_Q D cI cL ad h.length (va_A (m_w cI cL ad h) H.size) (.inl (v, h')) (Value.ref (ad q) :: as.map (m_v ad)).toArray) (va_A (m_w cI cL ad h) H.size))
  rcases hk with hk | ⟨host, hk⟩
  · exact va_runI (m_fix X) hM ⟨callB_of n (m_wd X) (m_good hK) rfl rfl rfl (m_wd X _ hK.2.1) (m_wd X _ hk) hK.2.2 ⟨hrk, hrl⟩, hini, m_wd X _ hin⟩ hpre rfl (by rw [List.length_map]; exact hn9) hL.1 (by simp [List.map_append, List.map_reverse, m_v]) (lv_room (by rw [m_v_cats]; exact hro)) hd ⟨hcc, hss⟩
  · exact va_runIN (m_fix X) hM ⟨va_cnB n (m_wd X) (m_good hK) rfl rfl rfl ((m_ev X).1 _ hk) (m_wd X _ hK.2.1) hK.2.2 ⟨hrk, hrl⟩, hini, m_wd X _ hin⟩ hpre rfl (by rw [List.length_map]; exact hn9) hL.1 (by simp [List.map_append, List.map_reverse, m_v]) (lv_room (by rw [m_v_cats]; exact hro)) hd ⟨hcc, hss⟩
theorem m_callH {M : m_M} {hh : List (Nat × Nat × Nat × Nat)} {h' : m_H} {v : Option Value} {rest : List Value} {k n : Nat} {as : List Value} (X : m_At D cI cL sa y cc nL ret A TB p l s m args meth c) (hd : decode cc pc0 = .ok (.invokestatic k, 3)) (hk : Cond.methodLink y.cls k (m_My M) ∈ m_ws) (hK : m_MKH M hh n) (hst : Cond.static (m_My M) ∈ m_ws) (hC : m_CtrH M hh as h (.inl (v, h'))) (hs9 : st = as.reverse ++ rest) (hn9 : as.length = n) (hlen : h'.length = h.length) (hro : (rest.map fun v => v.category).sum ≤ 8) (hrk : m_Mk M + 1 ≤ R.frames) (hrl : 8 + (m_Ml M + 11) + 32 * m_Mk M ≤ R.locals) (hcc : cu + m_Mc M ≤ R.cells) (hss : su + m_Ms M ≤ R.slots) (hp : pc = pc0)
    (kk : m_Go D cI cL ad0 n0 nL A p l e R s m args below meth c Q (pc0 + 3) ls (v.toList ++ rest) h' (cu + m_Mc M) (su + m_Ms M)) : m_Go D cI cL ad0 n0 nL A p l e R s m args below meth c Q pc ls st h cu su := by
  subst hp
  subst hs9
  intro ad H locs lsA hn hag hP hD hS hL
  have hM := m_metH hC l D cI cL sa ad H.size (m_nt X)
  have hpre : PreS s H (m_Pre D cI cL sa ad h H.size as) (as.map (m_v ad)) := ⟨m_blind, m_pre X hP hD hS⟩
  have hG : GoodIn m_ws (m_WsH M hh) := fun w hw => by
    rcases List.mem_cons.mp hw with rfl | hw
    · exact ⟨hK.1, good_of_word (m_ws_good hK.1)⟩
    · exact ⟨hw, good_of_word (m_ws_good hw)⟩
  refine (fun hr => m_after X hr hlen hn hag hD hS hL kk) (?_ : va_Run p l e R s m args below meth c H locs cu su _ _ (F0 m pc lsA (((as.reverse ++ rest) : List Value).map (m_v ad))) (rest.map (m_v ad)) (m_Q D cI cL ad h.length (va_A (m_w cI cL ad h) H.size) (.inl (v, h')) (as.map (m_v ad)).toArray) (va_A (m_w cI cL ad h) H.size))
  refine vx_runSW (hh := hh) (bytes := m_Mb M) (maxL := m_Ml M) (ret := m_Mr M) (n := n) (m_fix X) hM ⟨⟨rfl, rfl, hrk, hrl, pay_in (m_wd X) hG, List.mem_cons_self⟩, m_wd X _ hK.1, m_wd X _ hK.2.1, ⟨hK.2.2.1, hK.2.2.2.1⟩, fun sig h9 => ?_, m_wd X _ hk, m_wd X _ hst⟩ hpre rfl (by rw [List.length_map]; exact hn9) hL.1 (by simp [List.map_append, List.map_reverse]) (lv_room (by rw [m_v_cats]; exact hro)) hd ⟨hcc, hss⟩
  have h2 := hK.2.2.2.2
  rw [h9] at h2
  exact (Option.some.inj h2).symm
theorem m_thS_x {M : m_M} {h' : m_H} {E : String} {rest : List Value} {k n : Nat} {as : List Value} (X : m_At D cI cL sa y cc nL ret A TB p l s m args meth c) (hd : decode cc pc0 = .ok (.invokestatic k, 3)) (hk : Cond.methodLink y.cls k (m_My M) ∈ m_ws) (hK : m_MK M n) (hst : Cond.static (m_My M) ∈ m_ws) (hC : m_Ctr M as h (.inr (E, h'))) (hs9 : st = as.reverse ++ rest) (hn9 : as.length = n) (hlen : h'.length = h.length) (hro : (rest.map fun v => v.category).sum ≤ 8) (hrk : m_Mk M + 1 ≤ R.frames) (hrl : 8 + (m_Ml M + 11) + 32 * m_Mk M ≤ R.locals) (hcc : cu + m_Mc M ≤ R.cells) (hss : su + m_Ms M ≤ R.slots) (hp : pc = pc0)
    (kx : ∀ (ad : Nat → Nat) (H1 : Heap) (locs1 : List Loc) (lsA : Array Slot) (q9 : Addr) (ce : Cell), n0 ≤ h'.length → (∀ i, (i < n0 ∨ h'.length ≤ i) → ad i = ad0 i) → va_P D m_cl (m_w cI cL ad h') H1 → va_D A (m_w cI cL ad h') → va_S A s.heap H1 locs1 → lv_has lsA nL (ls.map (fun q => (q.1, m_v ad q.2))) → H1[q9]? = some ce → ce.vm = .none → s.vm.findClass E = some ce.cls → vx_W p l e R s m args below meth c H1 locs1 (cu + m_Mc M) (su + m_Ms M) Q (F0 m pc0 lsA (rest.map (m_v ad))) q9) : m_Go D cI cL ad0 n0 nL A p l e R s m args below meth c Q pc ls st h cu su := by
  subst hp
  subst hs9
  intro ad H locs lsA hn hag hP hD hS hL
  have hM := hC l D cI cL sa ad H.size (m_nt X)
  have hpre : PreS s H (m_Pre D cI cL sa ad h H.size as) (as.map (m_v ad)) := ⟨m_blind, m_pre X hP hD hS⟩
  have hr : vx_Run p l e R s m args below meth c H locs cu su _ _ (F0 m pc lsA (((as.reverse ++ rest) : List Value).map (m_v ad))) (rest.map (m_v ad)) _ _ _ := vx_runS (m_fix X) hM ⟨callB_of n (m_wd X) (m_good hK) rfl rfl rfl (m_wd X _ hK.2.1) (m_wd X _ hk) hK.2.2 ⟨hrk, hrl⟩, m_wd X _ hst⟩ hpre rfl (by rw [List.length_map]; exact hn9) hL.1 (by simp [List.map_append, List.map_reverse]) (lv_room (by rw [m_v_cats]; exact hro)) hd ⟨hcc, hss⟩
  intro T hT XX
  rcases hr T hT XX with ⟨v9, st₀, t, T', L, h0, X', hL', e1, e2, ⟨vv, hf, ad', he, -⟩, -⟩ | ⟨q9, st₀, t, T', L, E9, ce, h0, X', hL', e1, e2, ⟨hf, ad', he, hn', hag', hP', hD', hF⟩, hce, hcv, hcl, st9⟩
  · cases he
  · cases he
    have had : ad' = ad := m_ag (n := h.length) (fun i hi => hag' i (by rw [hlen]; exact hi))
    subst had
    have hAB := m_AB X hD hS
    obtain ⟨k1, k2, k3⟩ := vx_keep h0 e1 hS (fun q _ hq => hAB q hq) hAB hL' hF
    obtain ⟨t2, a1, b1⟩ := kx ad' T'.heap (locs ++ L) lsA q9 ce (by rw [hlen]; exact hn) (by rw [hlen]; exact hag) (by rw [e1]; exact hP') (hD'.weaken (fun _ q _ hq => hAB q.1 hq)) k3 hL (by rw [e1]; exact hce) hcv hcl T' rfl X'
    exact ⟨t2, st9.trans a1, b1⟩
theorem m_thrS {M : m_M} {h' : m_H} {E : String} {rest : List Value} {k n : Nat} {as : List Value} (X : m_At D cI cL sa y cc nL ret A TB p l s m args meth c) (hd : decode cc pc0 = .ok (.invokestatic k, 3)) (hk : Cond.methodLink y.cls k (m_My M) ∈ m_ws) (hK : m_MK M n) (hst : Cond.static (m_My M) ∈ m_ws) (hC : m_Ctr M as h (.inr (E, h'))) (hs9 : st = as.reverse ++ rest) (hn9 : as.length = n) (hlen : h'.length = h.length) (hro : (rest.map fun v => v.category).sum ≤ 8) (hrk : m_Mk M + 1 ≤ R.frames) (hrl : 8 + (m_Ml M + 11) + 32 * m_Mk M ≤ R.locals) (hcc : cu + m_Mc M ≤ R.cells) (hss : su + m_Ms M ≤ R.slots) (hp : pc = pc0) (htb : TB = []) (ho : om = .inr (E, h')) (hmc : cu + m_Mc M ≤ mc) (hms : su + m_Ms M ≤ ms) : m_Go D cI cL ad0 n0 nL A p l e R s m args below meth c (m_VQ D cI cL ad0 n0 A om below args s mc ms) pc ls st h cu su := by
  refine m_thS_x X hd hk hK hst hC hs9 hn9 hlen hro hrk hrl hcc hss hp (fun ad H1 locs1 lsA q9 ce hn hag hP hD hS hL hce hcv hcl => ?_)
  refine vx_widen hmc hms (vx_out (fun x hx => ?_) (m_lk X) hce hcv hcl (fun t ht hal => ⟨h', ad, ho, hn, hag, by rw [ht]; exact hP, hD, hS.F ht⟩) hS.2.2 (Nat.le_refl _) (Nat.le_refl _))
  rw [m_tb X, htb] at hx
  cases hx
theorem m_thV_x {M : m_M} {h' : m_H} {E : String} {rest : List Value} {k n : Nat} {as : List Value} {q : Nat} {ci : Nat} {fs : List Value} (X : m_At D cI cL sa y cc nL ret A TB p l s m args meth c) (hd : decode cc pc0 = .ok (.invokevirtual k, 3)) (hk : Cond.methodLink y.cls k (m_My M) ∈ m_ws) (hK : m_MK M n) (hin : Cond.instanceMethod (m_My M) ∈ m_ws) (hse : Cond.selects (m_My M).cls (m_My M) (m_My M) ∈ m_ws) (hq : h[q]? = some (m_ob ci fs)) (hci : (m_cl[ci]?).map Prod.fst = some (m_My M).cls) (hC : m_Ctr M (.ref q :: as) h (.inr (E, h'))) (hs9 : st = as.reverse ++ .ref q :: rest) (hn9 : as.length = n) (hlen : h'.length = h.length) (hro : (rest.map fun v => v.category).sum ≤ 8) (hrk : m_Mk M + 1 ≤ R.frames) (hrl : 8 + (m_Ml M + 11) + 32 * m_Mk M ≤ R.locals) (hcc : cu + m_Mc M ≤ R.cells) (hss : su + m_Ms M ≤ R.slots) (hp : pc = pc0)
    (kx : ∀ (ad : Nat → Nat) (H1 : Heap) (locs1 : List Loc) (lsA : Array Slot) (q9 : Addr) (ce : Cell), n0 ≤ h'.length → (∀ i, (i < n0 ∨ h'.length ≤ i) → ad i = ad0 i) → va_P D m_cl (m_w cI cL ad h') H1 → va_D A (m_w cI cL ad h') → va_S A s.heap H1 locs1 → lv_has lsA nL (ls.map (fun q => (q.1, m_v ad q.2))) → H1[q9]? = some ce → ce.vm = .none → s.vm.findClass E = some ce.cls → vx_W p l e R s m args below meth c H1 locs1 (cu + m_Mc M) (su + m_Ms M) Q (F0 m pc0 lsA (rest.map (m_v ad))) q9) : m_Go D cI cL ad0 n0 nL A p l e R s m args below meth c Q pc ls st h cu su := by
  subst hp
  subst hs9
  intro ad H locs lsA hn hag hP hD hS hL
  have hM := hC l D cI cL sa ad H.size (m_nt X)
  have hrec : ∃ cell : Cell, H[ad q]? = some cell ∧ cell.vm.isStatics = false ∧ s.vm.findClass (m_My M).cls = some cell.cls := by
    cases hcx : m_cl[ci]? with
    | none => rw [hcx] at hci; cases hci
    | some cq =>
      rw [hcx] at hci
      have e9 : cq.1 = (m_My M).cls := Option.some.inj hci
      rw [← e9]
      exact va_recv (m_kn X) hP hcx (m_w_at hq)
  have hpre : PreV s H (m_My M).cls (ad q) (m_Pre D cI cL sa ad h H.size (.ref q :: as)) (as.map (m_v ad)) := ⟨m_blind, hrec, m_pre (as := .ref q :: as) X hP hD hS⟩
  have hr : vx_Run p l e R s m args below meth c H locs cu su _ _ (F0 m pc lsA (((as.reverse ++ .ref q :: rest) : List Value).map (m_v ad))) (rest.map (m_v ad)) _ _ _ := vx_runV (m_fix X) hM ⟨callB_of n (m_wd X) (m_good hK) rfl rfl rfl (m_wd X _ hK.2.1) (m_wd X _ hk) hK.2.2 ⟨hrk, hrl⟩, m_wd X _ hin, m_wd X _ hse⟩ hpre rfl (by rw [List.length_map]; exact hn9) hL.1 (by simp [List.map_append, List.map_reverse, m_v]) (lv_room (by rw [m_v_cats]; exact hro)) hd ⟨hcc, hss⟩
  intro T hT XX
  rcases hr T hT XX with ⟨v9, st₀, t, T', L, h0, X', hL', e1, e2, ⟨vv, hf, ad', he, -⟩, -⟩ | ⟨q9, st₀, t, T', L, E9, ce, h0, X', hL', e1, e2, ⟨hf, ad', he, hn', hag', hP', hD', hF⟩, hce, hcv, hcl, st9⟩
  · cases he
  · cases he
    have had : ad' = ad := m_ag (n := h.length) (fun i hi => hag' i (by rw [hlen]; exact hi))
    subst had
    have hAB := m_AB X hD hS
    obtain ⟨k1, k2, k3⟩ := vx_keep h0 e1 hS (fun q _ hq => hAB q hq) hAB hL' hF
    obtain ⟨t2, a1, b1⟩ := kx ad' T'.heap (locs ++ L) lsA q9 ce (by rw [hlen]; exact hn) (by rw [hlen]; exact hag) (by rw [e1]; exact hP') (hD'.weaken (fun _ q _ hq => hAB q.1 hq)) k3 hL (by rw [e1]; exact hce) hcv hcl T' rfl X'
    exact ⟨t2, st9.trans a1, b1⟩
theorem m_thrV {M : m_M} {h' : m_H} {E : String} {rest : List Value} {k n : Nat} {as : List Value} {q : Nat} {ci : Nat} {fs : List Value} (X : m_At D cI cL sa y cc nL ret A TB p l s m args meth c) (hd : decode cc pc0 = .ok (.invokevirtual k, 3)) (hk : Cond.methodLink y.cls k (m_My M) ∈ m_ws) (hK : m_MK M n) (hin : Cond.instanceMethod (m_My M) ∈ m_ws) (hse : Cond.selects (m_My M).cls (m_My M) (m_My M) ∈ m_ws) (hq : h[q]? = some (m_ob ci fs)) (hci : (m_cl[ci]?).map Prod.fst = some (m_My M).cls) (hC : m_Ctr M (.ref q :: as) h (.inr (E, h'))) (hs9 : st = as.reverse ++ .ref q :: rest) (hn9 : as.length = n) (hlen : h'.length = h.length) (hro : (rest.map fun v => v.category).sum ≤ 8) (hrk : m_Mk M + 1 ≤ R.frames) (hrl : 8 + (m_Ml M + 11) + 32 * m_Mk M ≤ R.locals) (hcc : cu + m_Mc M ≤ R.cells) (hss : su + m_Ms M ≤ R.slots) (hp : pc = pc0) (htb : TB = []) (ho : om = .inr (E, h')) (hmc : cu + m_Mc M ≤ mc) (hms : su + m_Ms M ≤ ms) : m_Go D cI cL ad0 n0 nL A p l e R s m args below meth c (m_VQ D cI cL ad0 n0 A om below args s mc ms) pc ls st h cu su := by
  refine m_thV_x X hd hk hK hin hse hq hci hC hs9 hn9 hlen hro hrk hrl hcc hss hp (fun ad H1 locs1 lsA q9 ce hn hag hP hD hS hL hce hcv hcl => ?_)
  refine vx_widen hmc hms (vx_out (fun x hx => ?_) (m_lk X) hce hcv hcl (fun t ht hal => ⟨h', ad, ho, hn, hag, by rw [ht]; exact hP, hD, hS.F ht⟩) hS.2.2 (Nat.le_refl _) (Nat.le_refl _))
  rw [m_tb X, htb] at hx
  cases hx
theorem m_throw {ik is ic j : Nat} {E text : String} {names : List String} (X : m_At D cI cL sa y cc nL ret A TB p l s m args meth c) (d0 : decode cc pc0 = .ok (.new ik, 3)) (d3 : decode cc (pc0 + 3) = .ok (.dup, 1)) (d4 : decode cc (pc0 + 4) = .ok (.ldc is, 2)) (d6 : decode cc (pc0 + 6) = .ok (.invokespecial ic, 3)) (d9 : decode cc (pc0 + 9) = .ok (.athrow, 1))
    (hE : Bundle.fit E = true) (hnm : ∀ n ∈ names, Bundle.fit n = true) (h1 : Cond.classLink y.cls ik E ∈ m_ws) (h2 : Cond.initialized E ∈ m_ws) (hj : m_str[j]? = some (y.cls, is, text)) (hat : ∀ w ∈ vx_atS y.cls ic E names, w ∈ m_ws ∨ w ∈ m_nw) (htb : TB = [])
    (hfr : names.length + 3 < R.frames) (hlo : (st.map fun v => v.category).sum + (13 * (names.length + 1) + 43) ≤ R.locals) (hcc : cu + 1 ≤ R.cells) (hss : su + 6 ≤ R.slots) (ho : om = .inr (E, h)) (hmc : cu + 1 ≤ mc) (hms : su + 6 ≤ ms) (hp : pc = pc0) : m_Go D cI cL ad0 n0 nL A p l e R s m args below meth c (m_VQ D cI cL ad0 n0 A om below args s mc ms) pc ls st h cu su := by
  subst hp
  intro ad H locs lsA hn hag hP hD hS hL
  have hw : ∀ w ∈ vx_atS y.cls ic E names, w.before args s = true := fun w hw => by
    rcases hat w hw with h9 | h9
    · exact m_wd X _ h9
    · exact va_Nw.use (m_isN_on (m_nw_is h9)) ((m_ev X).1 _ h9)
  have hg : ∀ w ∈ Cond.classLink y.cls ik E :: Cond.initialized E :: vx_atS y.cls ic E names, vx_ot w = true := fun w hw => by
    have g1 : w ∈ m_ws ∨ w ∈ m_nw := by
      rcases List.mem_cons.mp hw with rfl | hw
      · exact Or.inl h1
      · rcases List.mem_cons.mp hw with rfl | hw
        · exact Or.inl h2
        · exact hat w hw
    unfold vx_ot
    rcases g1 with g | g
    · rw [m_ws_good g, Bool.or_true]
    · rw [m_isN_on (m_nw_is g), Bool.true_or]
  exact vx_throwS (A := A) (m_ex X) (m_cb X) (m_nt X) (m_ow X) hE hnm (m_wd X _ h1) (m_wd X _ h2) ((m_ev X).2.1 j _ hj) hw hg (m_ev X).2.2.1 (m_ev X).2.2.2 hS (hL.1.trans (m_ml X).symm) d0 d3 d4 d6 d9 (fun x hx => by rw [m_tb X, htb] at hx; cases hx) hfr (by rw [m_v_cats]; exact hlo) hcc hss (m_lk X)
    (fun t hal hz hk => ⟨h, ad, ho, hn, hag, fun k q hkq => (hP k q hkq).kept (hk q.1 (hP k q hkq).lt), hD, ⟨Nat.le_trans hS.1 hz, fun q h1 h2 => (hk q (Nat.lt_of_lt_of_le h1 hS.1)).trans (hS.2.1 q h1 h2)⟩⟩) hS.2.2 hmc hms
end MC
end
section
theorem dX0_init_0 : decode cX0_init 0 = .ok (.aload_n 0, 1) := by decide +kernel
theorem dX0_init_1 : decode cX0_init 1 = .ok (.invokespecial 3, 3) := by decide +kernel
theorem dX0_init_4 : decode cX0_init 4 = .ok (.aload_n 0, 1) := by decide +kernel
theorem dX0_init_5 : decode cX0_init 5 = .ok (.iconst 4, 1) := by decide +kernel
theorem dX0_init_6 : decode cX0_init 6 = .ok (.newarray .int, 2) := by decide +kernel
theorem dX0_init_8 : decode cX0_init 8 = .ok (.putfield 9, 3) := by decide +kernel
theorem dX0_init_11 : decode cX0_init 11 = .ok (.aload_n 0, 1) := by decide +kernel
theorem dX0_init_12 : decode cX0_init 12 = .ok (.iconst 4, 1) := by decide +kernel
theorem dX0_init_13 : decode cX0_init 13 = .ok (.newarray .int, 2) := by decide +kernel
theorem dX0_init_15 : decode cX0_init 15 = .ok (.putfield 15, 3) := by decide +kernel
theorem dX0_init_18 : decode cX0_init 18 = .ok (.aload_n 0, 1) := by decide +kernel
theorem dX0_init_19 : decode cX0_init 19 = .ok (.iconst 4, 1) := by decide +kernel
theorem dX0_init_20 : decode cX0_init 20 = .ok (.newarray .int, 2) := by decide +kernel
theorem dX0_init_22 : decode cX0_init 22 = .ok (.putfield 18, 3) := by decide +kernel
theorem dX0_init_25 : decode cX0_init 25 = .ok (.aload_n 0, 1) := by decide +kernel
theorem dX0_init_26 : decode cX0_init 26 = .ok (.iconst 4, 1) := by decide +kernel
theorem dX0_init_27 : decode cX0_init 27 = .ok (.newarray .int, 2) := by decide +kernel
theorem dX0_init_29 : decode cX0_init 29 = .ok (.putfield 21, 3) := by decide +kernel
theorem dX0_init_32 : decode cX0_init 32 = .ok (.iconst 0, 1) := by decide +kernel
theorem dX0_init_33 : decode cX0_init 33 = .ok (.istore_n 1, 1) := by decide +kernel
theorem dX0_init_34 : decode cX0_init 34 = .ok (.iload_n 1, 1) := by decide +kernel
theorem dX0_init_35 : decode cX0_init 35 = .ok (.iconst 4, 1) := by decide +kernel
theorem dX0_init_36 : decode cX0_init 36 = .ok (.if_icmp .ge 25, 3) := by decide +kernel
theorem dX0_init_39 : decode cX0_init 39 = .ok (.aload_n 0, 1) := by decide +kernel
theorem dX0_init_40 : decode cX0_init 40 = .ok (.getfield 9, 3) := by decide +kernel
theorem dX0_init_43 : decode cX0_init 43 = .ok (.iload_n 1, 1) := by decide +kernel
theorem dX0_init_44 : decode cX0_init 44 = .ok (.bipush 50, 2) := by decide +kernel
theorem dX0_init_46 : decode cX0_init 46 = .ok (.iastore, 1) := by decide +kernel
theorem dX0_init_47 : decode cX0_init 47 = .ok (.aload_n 0, 1) := by decide +kernel
theorem dX0_init_48 : decode cX0_init 48 = .ok (.getfield 15, 3) := by decide +kernel
theorem dX0_init_51 : decode cX0_init 51 = .ok (.iload_n 1, 1) := by decide +kernel
theorem dX0_init_52 : decode cX0_init 52 = .ok (.bipush 20, 2) := by decide +kernel
theorem dX0_init_54 : decode cX0_init 54 = .ok (.iastore, 1) := by decide +kernel
theorem dX0_init_55 : decode cX0_init 55 = .ok (.iinc 1 1, 3) := by decide +kernel
theorem dX0_init_58 : decode cX0_init 58 = .ok (.goto (-24), 3) := by decide +kernel
theorem dX0_init_61 : decode cX0_init 61 = .ok (.return_, 1) := by decide +kernel
theorem dX0_learn_0 : decode cX0_learn 0 = .ok (.aload_n 0, 1) := by decide +kernel
theorem dX0_learn_1 : decode cX0_learn 1 = .ok (.getfield 15, 3) := by decide +kernel
theorem dX0_learn_4 : decode cX0_learn 4 = .ok (.iload_n 1, 1) := by decide +kernel
theorem dX0_learn_5 : decode cX0_learn 5 = .ok (.invokestatic 24, 3) := by decide +kernel
theorem dX0_learn_8 : decode cX0_learn 8 = .ok (.iload_n 2, 1) := by decide +kernel
theorem dX0_learn_9 : decode cX0_learn 9 = .ok (.iconst 4, 1) := by decide +kernel
theorem dX0_learn_10 : decode cX0_learn 10 = .ok (.invokestatic 28, 3) := by decide +kernel
theorem dX0_learn_13 : decode cX0_learn 13 = .ok (.iadd, 1) := by decide +kernel
theorem dX0_learn_14 : decode cX0_learn 14 = .ok (.istore_n 3, 1) := by decide +kernel
theorem dX0_learn_15 : decode cX0_learn 15 = .ok (.aload_n 0, 1) := by decide +kernel
theorem dX0_learn_16 : decode cX0_learn 16 = .ok (.getfield 15, 3) := by decide +kernel
theorem dX0_learn_19 : decode cX0_learn 19 = .ok (.iload_n 1, 1) := by decide +kernel
theorem dX0_learn_20 : decode cX0_learn 20 = .ok (.iconst 0, 1) := by decide +kernel
theorem dX0_learn_21 : decode cX0_learn 21 = .ok (.sipush 500, 3) := by decide +kernel
theorem dX0_learn_24 : decode cX0_learn 24 = .ok (.iload_n 3, 1) := by decide +kernel
theorem dX0_learn_25 : decode cX0_learn 25 = .ok (.invokestatic 34, 3) := by decide +kernel
theorem dX0_learn_28 : decode cX0_learn 28 = .ok (.invokestatic 37, 3) := by decide +kernel
theorem dX0_learn_31 : decode cX0_learn 31 = .ok (.invokestatic 40, 3) := by decide +kernel
theorem dX0_learn_34 : decode cX0_learn 34 = .ok (.return_, 1) := by decide +kernel
theorem dX1_init_0 : decode cX1_init 0 = .ok (.aload_n 0, 1) := by decide +kernel
theorem dX1_init_1 : decode cX1_init 1 = .ok (.invokespecial 3, 3) := by decide +kernel
theorem dX1_init_4 : decode cX1_init 4 = .ok (.aload_n 0, 1) := by decide +kernel
theorem dX1_init_5 : decode cX1_init 5 = .ok (.new 9, 3) := by decide +kernel
theorem dX1_init_8 : decode cX1_init 8 = .ok (.dup, 1) := by decide +kernel
theorem dX1_init_9 : decode cX1_init 9 = .ok (.invokespecial 11, 3) := by decide +kernel
theorem dX1_init_12 : decode cX1_init 12 = .ok (.putfield 12, 3) := by decide +kernel
theorem dX1_init_15 : decode cX1_init 15 = .ok (.aload_n 0, 1) := by decide +kernel
theorem dX1_init_16 : decode cX1_init 16 = .ok (.new 18, 3) := by decide +kernel
theorem dX1_init_19 : decode cX1_init 19 = .ok (.dup, 1) := by decide +kernel
theorem dX1_init_20 : decode cX1_init 20 = .ok (.invokespecial 20, 3) := by decide +kernel
theorem dX1_init_23 : decode cX1_init 23 = .ok (.putfield 21, 3) := by decide +kernel
theorem dX1_init_26 : decode cX1_init 26 = .ok (.aload_n 0, 1) := by decide +kernel
theorem dX1_init_27 : decode cX1_init 27 = .ok (.new 25, 3) := by decide +kernel
theorem dX1_init_30 : decode cX1_init 30 = .ok (.dup, 1) := by decide +kernel
theorem dX1_init_31 : decode cX1_init 31 = .ok (.invokespecial 27, 3) := by decide +kernel
theorem dX1_init_34 : decode cX1_init 34 = .ok (.putfield 28, 3) := by decide +kernel
theorem dX1_init_37 : decode cX1_init 37 = .ok (.aload_n 0, 1) := by decide +kernel
theorem dX1_init_38 : decode cX1_init 38 = .ok (.new 32, 3) := by decide +kernel
theorem dX1_init_41 : decode cX1_init 41 = .ok (.dup, 1) := by decide +kernel
theorem dX1_init_42 : decode cX1_init 42 = .ok (.invokespecial 34, 3) := by decide +kernel
theorem dX1_init_45 : decode cX1_init 45 = .ok (.putfield 35, 3) := by decide +kernel
theorem dX1_init_48 : decode cX1_init 48 = .ok (.aload_n 0, 1) := by decide +kernel
theorem dX1_init_49 : decode cX1_init 49 = .ok (.iconst 0, 1) := by decide +kernel
theorem dX1_init_50 : decode cX1_init 50 = .ok (.putfield 39, 3) := by decide +kernel
theorem dX1_init_53 : decode cX1_init 53 = .ok (.aload_n 0, 1) := by decide +kernel
theorem dX1_init_54 : decode cX1_init 54 = .ok (.iconst 0, 1) := by decide +kernel
theorem dX1_init_55 : decode cX1_init 55 = .ok (.putfield 43, 3) := by decide +kernel
theorem dX1_init_58 : decode cX1_init 58 = .ok (.aload_n 0, 1) := by decide +kernel
theorem dX1_init_59 : decode cX1_init 59 = .ok (.iconst 0, 1) := by decide +kernel
theorem dX1_init_60 : decode cX1_init 60 = .ok (.putfield 46, 3) := by decide +kernel
theorem dX1_init_63 : decode cX1_init 63 = .ok (.return_, 1) := by decide +kernel
theorem dX1_bring_0 : decode cX1_bring 0 = .ok (.aload_n 0, 1) := by decide +kernel
theorem dX1_bring_1 : decode cX1_bring 1 = .ok (.getfield 12, 3) := by decide +kernel
theorem dX1_bring_4 : decode cX1_bring 4 = .ok (.iload_n 1, 1) := by decide +kernel
theorem dX1_bring_5 : decode cX1_bring 5 = .ok (.invokevirtual 49, 3) := by decide +kernel
theorem dX1_bring_8 : decode cX1_bring 8 = .ok (.aload_n 0, 1) := by decide +kernel
theorem dX1_bring_9 : decode cX1_bring 9 = .ok (.dup, 1) := by decide +kernel
theorem dX1_bring_10 : decode cX1_bring 10 = .ok (.getfield 53, 3) := by decide +kernel
theorem dX1_bring_13 : decode cX1_bring 13 = .ok (.iconst 1, 1) := by decide +kernel
theorem dX1_bring_14 : decode cX1_bring 14 = .ok (.iadd, 1) := by decide +kernel
theorem dX1_bring_15 : decode cX1_bring 15 = .ok (.putfield 53, 3) := by decide +kernel
theorem dX1_bring_18 : decode cX1_bring 18 = .ok (.aload_n 0, 1) := by decide +kernel
theorem dX1_bring_19 : decode cX1_bring 19 = .ok (.getfield 39, 3) := by decide +kernel
theorem dX1_bring_22 : decode cX1_bring 22 = .ok (.tableswitch 103 0 5 #[38, 48, 55, 55, 62, 87], 38) := by decide +kernel
theorem dX1_bring_60 : decode cX1_bring 60 = .ok (.aload_n 0, 1) := by decide +kernel
theorem dX1_bring_61 : decode cX1_bring 61 = .ok (.getfield 12, 3) := by decide +kernel
theorem dX1_bring_64 : decode cX1_bring 64 = .ok (.invokevirtual 56, 3) := by decide +kernel
theorem dX1_bring_67 : decode cX1_bring 67 = .ok (.goto 58, 3) := by decide +kernel
theorem dX1_bring_70 : decode cX1_bring 70 = .ok (.aload_n 0, 1) := by decide +kernel
theorem dX1_bring_71 : decode cX1_bring 71 = .ok (.invokevirtual 59, 3) := by decide +kernel
theorem dX1_bring_74 : decode cX1_bring 74 = .ok (.goto 51, 3) := by decide +kernel
theorem dX1_bring_77 : decode cX1_bring 77 = .ok (.aload_n 0, 1) := by decide +kernel
theorem dX1_bring_78 : decode cX1_bring 78 = .ok (.invokevirtual 62, 3) := by decide +kernel
theorem dX1_bring_81 : decode cX1_bring 81 = .ok (.goto 44, 3) := by decide +kernel
theorem dX1_bring_84 : decode cX1_bring 84 = .ok (.aload_n 0, 1) := by decide +kernel
theorem dX1_bring_85 : decode cX1_bring 85 = .ok (.getfield 53, 3) := by decide +kernel
theorem dX1_bring_88 : decode cX1_bring 88 = .ok (.iconst 4, 1) := by decide +kernel
theorem dX1_bring_89 : decode cX1_bring 89 = .ok (.if_icmp .lt 36, 3) := by decide +kernel
theorem dX1_bring_92 : decode cX1_bring 92 = .ok (.aload_n 0, 1) := by decide +kernel
theorem dX1_bring_93 : decode cX1_bring 93 = .ok (.getfield 12, 3) := by decide +kernel
theorem dX1_bring_96 : decode cX1_bring 96 = .ok (.invokevirtual 65, 3) := by decide +kernel
theorem dX1_bring_99 : decode cX1_bring 99 = .ok (.ifCond .eq 26, 3) := by decide +kernel
theorem dX1_bring_102 : decode cX1_bring 102 = .ok (.aload_n 0, 1) := by decide +kernel
theorem dX1_bring_103 : decode cX1_bring 103 = .ok (.invokevirtual 69, 3) := by decide +kernel
theorem dX1_bring_106 : decode cX1_bring 106 = .ok (.goto 19, 3) := by decide +kernel
theorem dX1_bring_109 : decode cX1_bring 109 = .ok (.aload_n 0, 1) := by decide +kernel
theorem dX1_bring_110 : decode cX1_bring 110 = .ok (.getfield 53, 3) := by decide +kernel
theorem dX1_bring_113 : decode cX1_bring 113 = .ok (.iconst 2, 1) := by decide +kernel
theorem dX1_bring_114 : decode cX1_bring 114 = .ok (.if_icmp .lt 11, 3) := by decide +kernel
theorem dX1_bring_117 : decode cX1_bring 117 = .ok (.aload_n 0, 1) := by decide +kernel
theorem dX1_bring_118 : decode cX1_bring 118 = .ok (.iconst 4, 1) := by decide +kernel
theorem dX1_bring_119 : decode cX1_bring 119 = .ok (.invokevirtual 72, 3) := by decide +kernel
theorem dX1_bring_122 : decode cX1_bring 122 = .ok (.goto 3, 3) := by decide +kernel
theorem dX1_bring_125 : decode cX1_bring 125 = .ok (.return_, 1) := by decide +kernel
theorem dX1_gateOf_0 : decode cX1_gateOf 0 = .ok (.aload_n 0, 1) := by decide +kernel
theorem dX1_gateOf_1 : decode cX1_gateOf 1 = .ok (.invokevirtual 75, 3) := by decide +kernel
theorem dX1_gateOf_4 : decode cX1_gateOf 4 = .ok (.iload_n 1, 1) := by decide +kernel
theorem dX1_gateOf_5 : decode cX1_gateOf 5 = .ok (.if_icmp .eq 5, 3) := by decide +kernel
theorem dX1_gateOf_8 : decode cX1_gateOf 8 = .ok (.iconst 0, 1) := by decide +kernel
theorem dX1_gateOf_9 : decode cX1_gateOf 9 = .ok (.ireturn, 1) := by decide +kernel
theorem dX1_gateOf_10 : decode cX1_gateOf 10 = .ok (.aload_n 0, 1) := by decide +kernel
theorem dX1_gateOf_11 : decode cX1_gateOf 11 = .ok (.getfield 39, 3) := by decide +kernel
theorem dX1_gateOf_14 : decode cX1_gateOf 14 = .ok (.iconst 2, 1) := by decide +kernel
theorem dX1_gateOf_15 : decode cX1_gateOf 15 = .ok (.if_icmp .ne 5, 3) := by decide +kernel
theorem dX1_gateOf_18 : decode cX1_gateOf 18 = .ok (.iconst 2, 1) := by decide +kernel
theorem dX1_gateOf_19 : decode cX1_gateOf 19 = .ok (.ireturn, 1) := by decide +kernel
theorem dX1_gateOf_20 : decode cX1_gateOf 20 = .ok (.aload_n 0, 1) := by decide +kernel
theorem dX1_gateOf_21 : decode cX1_gateOf 21 = .ok (.getfield 39, 3) := by decide +kernel
theorem dX1_gateOf_24 : decode cX1_gateOf 24 = .ok (.iconst 3, 1) := by decide +kernel
theorem dX1_gateOf_25 : decode cX1_gateOf 25 = .ok (.if_icmp .eq 11, 3) := by decide +kernel
theorem dX1_gateOf_28 : decode cX1_gateOf 28 = .ok (.aload_n 0, 1) := by decide +kernel
theorem dX1_gateOf_29 : decode cX1_gateOf 29 = .ok (.getfield 39, 3) := by decide +kernel
theorem dX1_gateOf_32 : decode cX1_gateOf 32 = .ok (.iconst 5, 1) := by decide +kernel
theorem dX1_gateOf_33 : decode cX1_gateOf 33 = .ok (.if_icmp .ne 7, 3) := by decide +kernel
theorem dX1_gateOf_36 : decode cX1_gateOf 36 = .ok (.iconst 1, 1) := by decide +kernel
theorem dX1_gateOf_37 : decode cX1_gateOf 37 = .ok (.goto 4, 3) := by decide +kernel
theorem dX1_gateOf_40 : decode cX1_gateOf 40 = .ok (.iconst 0, 1) := by decide +kernel
theorem dX1_gateOf_41 : decode cX1_gateOf 41 = .ok (.ireturn, 1) := by decide +kernel
theorem dX1_startBatch_0 : decode cX1_startBatch 0 = .ok (.aload_n 0, 1) := by decide +kernel
theorem dX1_startBatch_1 : decode cX1_startBatch 1 = .ok (.getfield 79, 3) := by decide +kernel
theorem dX1_startBatch_4 : decode cX1_startBatch 4 = .ok (.istore_n 1, 1) := by decide +kernel
theorem dX1_startBatch_5 : decode cX1_startBatch 5 = .ok (.aload_n 0, 1) := by decide +kernel
theorem dX1_startBatch_6 : decode cX1_startBatch 6 = .ok (.dup, 1) := by decide +kernel
theorem dX1_startBatch_7 : decode cX1_startBatch 7 = .ok (.getfield 79, 3) := by decide +kernel
theorem dX1_startBatch_10 : decode cX1_startBatch 10 = .ok (.iconst 1, 1) := by decide +kernel
theorem dX1_startBatch_11 : decode cX1_startBatch 11 = .ok (.iadd, 1) := by decide +kernel
theorem dX1_startBatch_12 : decode cX1_startBatch 12 = .ok (.putfield 79, 3) := by decide +kernel
theorem dX1_startBatch_15 : decode cX1_startBatch 15 = .ok (.aload_n 0, 1) := by decide +kernel
theorem dX1_startBatch_16 : decode cX1_startBatch 16 = .ok (.iconst 0, 1) := by decide +kernel
theorem dX1_startBatch_17 : decode cX1_startBatch 17 = .ok (.invokevirtual 82, 3) := by decide +kernel
theorem dX1_startBatch_20 : decode cX1_startBatch 20 = .ok (.iload_n 1, 1) := by decide +kernel
theorem dX1_startBatch_21 : decode cX1_startBatch 21 = .ok (.ireturn, 1) := by decide +kernel
theorem dX1_halt_0 : decode cX1_halt 0 = .ok (.aload_n 0, 1) := by decide +kernel
theorem dX1_halt_1 : decode cX1_halt 1 = .ok (.aload_n 0, 1) := by decide +kernel
theorem dX1_halt_2 : decode cX1_halt 2 = .ok (.getfield 39, 3) := by decide +kernel
theorem dX1_halt_5 : decode cX1_halt 5 = .ok (.putfield 46, 3) := by decide +kernel
theorem dX1_halt_8 : decode cX1_halt 8 = .ok (.aload_n 0, 1) := by decide +kernel
theorem dX1_halt_9 : decode cX1_halt 9 = .ok (.bipush 6, 2) := by decide +kernel
theorem dX1_halt_11 : decode cX1_halt 11 = .ok (.invokevirtual 72, 3) := by decide +kernel
theorem dX1_halt_14 : decode cX1_halt 14 = .ok (.aload_n 0, 1) := by decide +kernel
theorem dX1_halt_15 : decode cX1_halt 15 = .ok (.iload_n 1, 1) := by decide +kernel
theorem dX1_halt_16 : decode cX1_halt 16 = .ok (.putfield 43, 3) := by decide +kernel
theorem dX1_halt_19 : decode cX1_halt 19 = .ok (.return_, 1) := by decide +kernel
theorem dX1_goOn_0 : decode cX1_goOn 0 = .ok (.aload_n 0, 1) := by decide +kernel
theorem dX1_goOn_1 : decode cX1_goOn 1 = .ok (.getfield 43, 3) := by decide +kernel
theorem dX1_goOn_4 : decode cX1_goOn 4 = .ok (.iconst 1, 1) := by decide +kernel
theorem dX1_goOn_5 : decode cX1_goOn 5 = .ok (.if_icmp .eq 11, 3) := by decide +kernel
theorem dX1_goOn_8 : decode cX1_goOn 8 = .ok (.aload_n 0, 1) := by decide +kernel
theorem dX1_goOn_9 : decode cX1_goOn 9 = .ok (.getfield 43, 3) := by decide +kernel
theorem dX1_goOn_12 : decode cX1_goOn 12 = .ok (.iconst 2, 1) := by decide +kernel
theorem dX1_goOn_13 : decode cX1_goOn 13 = .ok (.if_icmp .ne 10, 3) := by decide +kernel
theorem dX1_goOn_16 : decode cX1_goOn 16 = .ok (.aload_n 0, 1) := by decide +kernel
theorem dX1_goOn_17 : decode cX1_goOn 17 = .ok (.invokevirtual 85, 3) := by decide +kernel
theorem dX1_goOn_20 : decode cX1_goOn 20 = .ok (.goto 16, 3) := by decide +kernel
theorem dX1_goOn_23 : decode cX1_goOn 23 = .ok (.aload_n 0, 1) := by decide +kernel
theorem dX1_goOn_24 : decode cX1_goOn 24 = .ok (.iconst 0, 1) := by decide +kernel
theorem dX1_goOn_25 : decode cX1_goOn 25 = .ok (.putfield 88, 3) := by decide +kernel
theorem dX1_goOn_28 : decode cX1_goOn 28 = .ok (.aload_n 0, 1) := by decide +kernel
theorem dX1_goOn_29 : decode cX1_goOn 29 = .ok (.aload_n 0, 1) := by decide +kernel
theorem dX1_goOn_30 : decode cX1_goOn 30 = .ok (.getfield 46, 3) := by decide +kernel
theorem dX1_goOn_33 : decode cX1_goOn 33 = .ok (.invokevirtual 72, 3) := by decide +kernel
theorem dX1_goOn_36 : decode cX1_goOn 36 = .ok (.return_, 1) := by decide +kernel
theorem dX1_breakOff_0 : decode cX1_breakOff 0 = .ok (.aload_n 0, 1) := by decide +kernel
theorem dX1_breakOff_1 : decode cX1_breakOff 1 = .ok (.getfield 91, 3) := by decide +kernel
theorem dX1_breakOff_4 : decode cX1_breakOff 4 = .ok (.ifCond .eq 10, 3) := by decide +kernel
theorem dX1_breakOff_7 : decode cX1_breakOff 7 = .ok (.aload_n 0, 1) := by decide +kernel
theorem dX1_breakOff_8 : decode cX1_breakOff 8 = .ok (.invokevirtual 95, 3) := by decide +kernel
theorem dX1_breakOff_11 : decode cX1_breakOff 11 = .ok (.goto 4, 3) := by decide +kernel
theorem dX1_breakOff_14 : decode cX1_breakOff 14 = .ok (.iconst 0, 1) := by decide +kernel
theorem dX1_breakOff_15 : decode cX1_breakOff 15 = .ok (.istore_n 1, 1) := by decide +kernel
theorem dX1_breakOff_16 : decode cX1_breakOff 16 = .ok (.aload_n 0, 1) := by decide +kernel
theorem dX1_breakOff_17 : decode cX1_breakOff 17 = .ok (.iconst 0, 1) := by decide +kernel
theorem dX1_breakOff_18 : decode cX1_breakOff 18 = .ok (.invokevirtual 72, 3) := by decide +kernel
theorem dX1_breakOff_21 : decode cX1_breakOff 21 = .ok (.iload_n 1, 1) := by decide +kernel
theorem dX1_breakOff_22 : decode cX1_breakOff 22 = .ok (.ireturn, 1) := by decide +kernel
theorem dX1_tareStep_0 : decode cX1_tareStep 0 = .ok (.aload_n 0, 1) := by decide +kernel
theorem dX1_tareStep_1 : decode cX1_tareStep 1 = .ok (.getfield 12, 3) := by decide +kernel
theorem dX1_tareStep_4 : decode cX1_tareStep 4 = .ok (.invokevirtual 65, 3) := by decide +kernel
theorem dX1_tareStep_7 : decode cX1_tareStep 7 = .ok (.ifCond .eq 52, 3) := by decide +kernel
theorem dX1_tareStep_10 : decode cX1_tareStep 10 = .ok (.aload_n 0, 1) := by decide +kernel
theorem dX1_tareStep_11 : decode cX1_tareStep 11 = .ok (.getfield 12, 3) := by decide +kernel
theorem dX1_tareStep_14 : decode cX1_tareStep 14 = .ok (.aload_n 0, 1) := by decide +kernel
theorem dX1_tareStep_15 : decode cX1_tareStep 15 = .ok (.getfield 12, 3) := by decide +kernel
theorem dX1_tareStep_18 : decode cX1_tareStep 18 = .ok (.invokevirtual 98, 3) := by decide +kernel
theorem dX1_tareStep_21 : decode cX1_tareStep 21 = .ok (.putfield 101, 3) := by decide +kernel
theorem dX1_tareStep_24 : decode cX1_tareStep 24 = .ok (.aload_n 0, 1) := by decide +kernel
theorem dX1_tareStep_25 : decode cX1_tareStep 25 = .ok (.iconst 1, 1) := by decide +kernel
theorem dX1_tareStep_26 : decode cX1_tareStep 26 = .ok (.putfield 91, 3) := by decide +kernel
theorem dX1_tareStep_29 : decode cX1_tareStep 29 = .ok (.aload_n 0, 1) := by decide +kernel
theorem dX1_tareStep_30 : decode cX1_tareStep 30 = .ok (.aload_n 0, 1) := by decide +kernel
theorem dX1_tareStep_31 : decode cX1_tareStep 31 = .ok (.invokevirtual 104, 3) := by decide +kernel
theorem dX1_tareStep_34 : decode cX1_tareStep 34 = .ok (.aload_n 0, 1) := by decide +kernel
theorem dX1_tareStep_35 : decode cX1_tareStep 35 = .ok (.getfield 21, 3) := by decide +kernel
theorem dX1_tareStep_38 : decode cX1_tareStep 38 = .ok (.getfield 107, 3) := by decide +kernel
theorem dX1_tareStep_41 : decode cX1_tareStep 41 = .ok (.aload_n 0, 1) := by decide +kernel
theorem dX1_tareStep_42 : decode cX1_tareStep 42 = .ok (.invokevirtual 75, 3) := by decide +kernel
theorem dX1_tareStep_45 : decode cX1_tareStep 45 = .ok (.invokestatic 111, 3) := by decide +kernel
theorem dX1_tareStep_48 : decode cX1_tareStep 48 = .ok (.if_icmp .le 7, 3) := by decide +kernel
theorem dX1_tareStep_51 : decode cX1_tareStep 51 = .ok (.iconst 2, 1) := by decide +kernel
theorem dX1_tareStep_52 : decode cX1_tareStep 52 = .ok (.goto 4, 3) := by decide +kernel
theorem dX1_tareStep_55 : decode cX1_tareStep 55 = .ok (.iconst 3, 1) := by decide +kernel
theorem dX1_tareStep_56 : decode cX1_tareStep 56 = .ok (.invokevirtual 72, 3) := by decide +kernel
theorem dX1_tareStep_59 : decode cX1_tareStep 59 = .ok (.return_, 1) := by decide +kernel
theorem dX1_feed_0 : decode cX1_feed 0 = .ok (.aload_n 0, 1) := by decide +kernel
theorem dX1_feed_1 : decode cX1_feed 1 = .ok (.getfield 12, 3) := by decide +kernel
theorem dX1_feed_4 : decode cX1_feed 4 = .ok (.invokevirtual 115, 3) := by decide +kernel
theorem dX1_feed_7 : decode cX1_feed 7 = .ok (.istore_n 1, 1) := by decide +kernel
theorem dX1_feed_8 : decode cX1_feed 8 = .ok (.iload_n 1, 1) := by decide +kernel
theorem dX1_feed_9 : decode cX1_feed 9 = .ok (.aload_n 0, 1) := by decide +kernel
theorem dX1_feed_10 : decode cX1_feed 10 = .ok (.getfield 118, 3) := by decide +kernel
theorem dX1_feed_13 : decode cX1_feed 13 = .ok (.if_icmp .le 16, 3) := by decide +kernel
theorem dX1_feed_16 : decode cX1_feed 16 = .ok (.aload_n 0, 1) := by decide +kernel
theorem dX1_feed_17 : decode cX1_feed 17 = .ok (.iload_n 1, 1) := by decide +kernel
theorem dX1_feed_18 : decode cX1_feed 18 = .ok (.putfield 118, 3) := by decide +kernel
theorem dX1_feed_21 : decode cX1_feed 21 = .ok (.aload_n 0, 1) := by decide +kernel
theorem dX1_feed_22 : decode cX1_feed 22 = .ok (.iconst 0, 1) := by decide +kernel
theorem dX1_feed_23 : decode cX1_feed 23 = .ok (.putfield 88, 3) := by decide +kernel
theorem dX1_feed_26 : decode cX1_feed 26 = .ok (.goto 13, 3) := by decide +kernel
theorem dX1_feed_29 : decode cX1_feed 29 = .ok (.aload_n 0, 1) := by decide +kernel
theorem dX1_feed_30 : decode cX1_feed 30 = .ok (.dup, 1) := by decide +kernel
theorem dX1_feed_31 : decode cX1_feed 31 = .ok (.getfield 88, 3) := by decide +kernel
theorem dX1_feed_34 : decode cX1_feed 34 = .ok (.iconst 1, 1) := by decide +kernel
theorem dX1_feed_35 : decode cX1_feed 35 = .ok (.iadd, 1) := by decide +kernel
theorem dX1_feed_36 : decode cX1_feed 36 = .ok (.putfield 88, 3) := by decide +kernel
theorem dX1_feed_39 : decode cX1_feed 39 = .ok (.aload_n 0, 1) := by decide +kernel
theorem dX1_feed_40 : decode cX1_feed 40 = .ok (.getfield 39, 3) := by decide +kernel
theorem dX1_feed_43 : decode cX1_feed 43 = .ok (.iconst 2, 1) := by decide +kernel
theorem dX1_feed_44 : decode cX1_feed 44 = .ok (.if_icmp .ne 13, 3) := by decide +kernel
theorem dX1_feed_47 : decode cX1_feed 47 = .ok (.aload_n 0, 1) := by decide +kernel
theorem dX1_feed_48 : decode cX1_feed 48 = .ok (.getfield 21, 3) := by decide +kernel
theorem dX1_feed_51 : decode cX1_feed 51 = .ok (.getfield 107, 3) := by decide +kernel
theorem dX1_feed_54 : decode cX1_feed 54 = .ok (.goto 10, 3) := by decide +kernel
theorem dX1_feed_57 : decode cX1_feed 57 = .ok (.aload_n 0, 1) := by decide +kernel
theorem dX1_feed_58 : decode cX1_feed 58 = .ok (.getfield 21, 3) := by decide +kernel
theorem dX1_feed_61 : decode cX1_feed 61 = .ok (.getfield 121, 3) := by decide +kernel
theorem dX1_feed_64 : decode cX1_feed 64 = .ok (.astore_n 2, 1) := by decide +kernel
theorem dX1_feed_65 : decode cX1_feed 65 = .ok (.iload_n 1, 1) := by decide +kernel
theorem dX1_feed_66 : decode cX1_feed 66 = .ok (.aload_n 0, 1) := by decide +kernel
theorem dX1_feed_67 : decode cX1_feed 67 = .ok (.invokevirtual 104, 3) := by decide +kernel
theorem dX1_feed_70 : decode cX1_feed 70 = .ok (.aload_n 2, 1) := by decide +kernel
theorem dX1_feed_71 : decode cX1_feed 71 = .ok (.aload_n 0, 1) := by decide +kernel
theorem dX1_feed_72 : decode cX1_feed 72 = .ok (.invokevirtual 75, 3) := by decide +kernel
theorem dX1_feed_75 : decode cX1_feed 75 = .ok (.invokestatic 111, 3) := by decide +kernel
theorem dX1_feed_78 : decode cX1_feed 78 = .ok (.isub, 1) := by decide +kernel
theorem dX1_feed_79 : decode cX1_feed 79 = .ok (.if_icmp .lt 23, 3) := by decide +kernel
theorem dX1_feed_82 : decode cX1_feed 82 = .ok (.aload_n 0, 1) := by decide +kernel
theorem dX1_feed_83 : decode cX1_feed 83 = .ok (.aload_n 0, 1) := by decide +kernel
theorem dX1_feed_84 : decode cX1_feed 84 = .ok (.getfield 39, 3) := by decide +kernel
theorem dX1_feed_87 : decode cX1_feed 87 = .ok (.iconst 2, 1) := by decide +kernel
theorem dX1_feed_88 : decode cX1_feed 88 = .ok (.if_icmp .ne 7, 3) := by decide +kernel
theorem dX1_feed_91 : decode cX1_feed 91 = .ok (.iconst 3, 1) := by decide +kernel
theorem dX1_feed_92 : decode cX1_feed 92 = .ok (.goto 4, 3) := by decide +kernel
theorem dX1_feed_95 : decode cX1_feed 95 = .ok (.iconst 4, 1) := by decide +kernel
theorem dX1_feed_96 : decode cX1_feed 96 = .ok (.invokevirtual 72, 3) := by decide +kernel
theorem dX1_feed_99 : decode cX1_feed 99 = .ok (.goto 17, 3) := by decide +kernel
theorem dX1_feed_102 : decode cX1_feed 102 = .ok (.aload_n 0, 1) := by decide +kernel
theorem dX1_feed_103 : decode cX1_feed 103 = .ok (.getfield 88, 3) := by decide +kernel
theorem dX1_feed_106 : decode cX1_feed 106 = .ok (.bipush 20, 2) := by decide +kernel
theorem dX1_feed_108 : decode cX1_feed 108 = .ok (.if_icmp .lt 8, 3) := by decide +kernel
theorem dX1_feed_111 : decode cX1_feed 111 = .ok (.aload_n 0, 1) := by decide +kernel
theorem dX1_feed_112 : decode cX1_feed 112 = .ok (.iconst 3, 1) := by decide +kernel
theorem dX1_feed_113 : decode cX1_feed 113 = .ok (.invokevirtual 124, 3) := by decide +kernel
theorem dX1_feed_116 : decode cX1_feed 116 = .ok (.return_, 1) := by decide +kernel
theorem dX1_weigh_0 : decode cX1_weigh 0 = .ok (.aload_n 0, 1) := by decide +kernel
theorem dX1_weigh_1 : decode cX1_weigh 1 = .ok (.getfield 12, 3) := by decide +kernel
theorem dX1_weigh_4 : decode cX1_weigh 4 = .ok (.invokevirtual 115, 3) := by decide +kernel
theorem dX1_weigh_7 : decode cX1_weigh 7 = .ok (.aload_n 0, 1) := by decide +kernel
theorem dX1_weigh_8 : decode cX1_weigh 8 = .ok (.invokevirtual 104, 3) := by decide +kernel
theorem dX1_weigh_11 : decode cX1_weigh 11 = .ok (.isub, 1) := by decide +kernel
theorem dX1_weigh_12 : decode cX1_weigh 12 = .ok (.istore_n 1, 1) := by decide +kernel
theorem dX1_weigh_13 : decode cX1_weigh 13 = .ok (.aload_n 0, 1) := by decide +kernel
theorem dX1_weigh_14 : decode cX1_weigh 14 = .ok (.getfield 35, 3) := by decide +kernel
theorem dX1_weigh_17 : decode cX1_weigh 17 = .ok (.getfield 127, 3) := by decide +kernel
theorem dX1_weigh_20 : decode cX1_weigh 20 = .ok (.aload_n 0, 1) := by decide +kernel
theorem dX1_weigh_21 : decode cX1_weigh 21 = .ok (.getfield 130, 3) := by decide +kernel
theorem dX1_weigh_24 : decode cX1_weigh 24 = .ok (.invokestatic 111, 3) := by decide +kernel
theorem dX1_weigh_27 : decode cX1_weigh 27 = .ok (.istore_n 2, 1) := by decide +kernel
theorem dX1_weigh_28 : decode cX1_weigh 28 = .ok (.aload_n 0, 1) := by decide +kernel
theorem dX1_weigh_29 : decode cX1_weigh 29 = .ok (.getfield 133, 3) := by decide +kernel
theorem dX1_weigh_32 : decode cX1_weigh 32 = .ok (.ifCond .ne 20, 3) := by decide +kernel
theorem dX1_weigh_35 : decode cX1_weigh 35 = .ok (.aload_n 0, 1) := by decide +kernel
theorem dX1_weigh_36 : decode cX1_weigh 36 = .ok (.iconst 1, 1) := by decide +kernel
theorem dX1_weigh_37 : decode cX1_weigh 37 = .ok (.putfield 133, 3) := by decide +kernel
theorem dX1_weigh_40 : decode cX1_weigh 40 = .ok (.aload_n 0, 1) := by decide +kernel
theorem dX1_weigh_41 : decode cX1_weigh 41 = .ok (.getfield 21, 3) := by decide +kernel
theorem dX1_weigh_44 : decode cX1_weigh 44 = .ok (.aload_n 0, 1) := by decide +kernel
theorem dX1_weigh_45 : decode cX1_weigh 45 = .ok (.invokevirtual 75, 3) := by decide +kernel
theorem dX1_weigh_48 : decode cX1_weigh 48 = .ok (.iload_n 1, 1) := by decide +kernel
theorem dX1_weigh_49 : decode cX1_weigh 49 = .ok (.invokevirtual 136, 3) := by decide +kernel
theorem dX1_weigh_52 : decode cX1_weigh 52 = .ok (.iload_n 1, 1) := by decide +kernel
theorem dX1_weigh_53 : decode cX1_weigh 53 = .ok (.iload_n 2, 1) := by decide +kernel
theorem dX1_weigh_54 : decode cX1_weigh 54 = .ok (.ineg, 1) := by decide +kernel
theorem dX1_weigh_55 : decode cX1_weigh 55 = .ok (.if_icmp .ge 10, 3) := by decide +kernel
theorem dX1_weigh_58 : decode cX1_weigh 58 = .ok (.aload_n 0, 1) := by decide +kernel
theorem dX1_weigh_59 : decode cX1_weigh 59 = .ok (.invokevirtual 140, 3) := by decide +kernel
theorem dX1_weigh_62 : decode cX1_weigh 62 = .ok (.goto 20, 3) := by decide +kernel
theorem dX1_weigh_65 : decode cX1_weigh 65 = .ok (.iload_n 1, 1) := by decide +kernel
theorem dX1_weigh_66 : decode cX1_weigh 66 = .ok (.iload_n 2, 1) := by decide +kernel
theorem dX1_weigh_67 : decode cX1_weigh 67 = .ok (.if_icmp .le 11, 3) := by decide +kernel
theorem dX1_weigh_70 : decode cX1_weigh 70 = .ok (.aload_n 0, 1) := by decide +kernel
theorem dX1_weigh_71 : decode cX1_weigh 71 = .ok (.iconst 2, 1) := by decide +kernel
theorem dX1_weigh_72 : decode cX1_weigh 72 = .ok (.invokevirtual 124, 3) := by decide +kernel
theorem dX1_weigh_75 : decode cX1_weigh 75 = .ok (.goto 7, 3) := by decide +kernel
theorem dX1_weigh_78 : decode cX1_weigh 78 = .ok (.aload_n 0, 1) := by decide +kernel
theorem dX1_weigh_79 : decode cX1_weigh 79 = .ok (.invokevirtual 85, 3) := by decide +kernel
theorem dX1_weigh_82 : decode cX1_weigh 82 = .ok (.return_, 1) := by decide +kernel
theorem dX1_jog_0 : decode cX1_jog 0 = .ok (.aload_n 0, 1) := by decide +kernel
theorem dX1_jog_1 : decode cX1_jog 1 = .ok (.getfield 143, 3) := by decide +kernel
theorem dX1_jog_4 : decode cX1_jog 4 = .ok (.iconst 5, 1) := by decide +kernel
theorem dX1_jog_5 : decode cX1_jog 5 = .ok (.if_icmp .ge 21, 3) := by decide +kernel
theorem dX1_jog_8 : decode cX1_jog 8 = .ok (.aload_n 0, 1) := by decide +kernel
theorem dX1_jog_9 : decode cX1_jog 9 = .ok (.dup, 1) := by decide +kernel
theorem dX1_jog_10 : decode cX1_jog 10 = .ok (.getfield 143, 3) := by decide +kernel
theorem dX1_jog_13 : decode cX1_jog 13 = .ok (.iconst 1, 1) := by decide +kernel
theorem dX1_jog_14 : decode cX1_jog 14 = .ok (.iadd, 1) := by decide +kernel
theorem dX1_jog_15 : decode cX1_jog 15 = .ok (.putfield 143, 3) := by decide +kernel
theorem dX1_jog_18 : decode cX1_jog 18 = .ok (.aload_n 0, 1) := by decide +kernel
theorem dX1_jog_19 : decode cX1_jog 19 = .ok (.iconst 5, 1) := by decide +kernel
theorem dX1_jog_20 : decode cX1_jog 20 = .ok (.invokevirtual 72, 3) := by decide +kernel
theorem dX1_jog_23 : decode cX1_jog 23 = .ok (.goto 8, 3) := by decide +kernel
theorem dX1_jog_26 : decode cX1_jog 26 = .ok (.aload_n 0, 1) := by decide +kernel
theorem dX1_jog_27 : decode cX1_jog 27 = .ok (.iconst 1, 1) := by decide +kernel
theorem dX1_jog_28 : decode cX1_jog 28 = .ok (.invokevirtual 124, 3) := by decide +kernel
theorem dX1_jog_31 : decode cX1_jog 31 = .ok (.return_, 1) := by decide +kernel
theorem dX1_finishStep_0 : decode cX1_finishStep 0 = .ok (.aload_n 0, 1) := by decide +kernel
theorem dX1_finishStep_1 : decode cX1_finishStep 1 = .ok (.invokevirtual 95, 3) := by decide +kernel
theorem dX1_finishStep_4 : decode cX1_finishStep 4 = .ok (.pop, 1) := by decide +kernel
theorem dX1_finishStep_5 : decode cX1_finishStep 5 = .ok (.aload_n 0, 1) := by decide +kernel
theorem dX1_finishStep_6 : decode cX1_finishStep 6 = .ok (.getfield 130, 3) := by decide +kernel
theorem dX1_finishStep_9 : decode cX1_finishStep 9 = .ok (.iconst 1, 1) := by decide +kernel
theorem dX1_finishStep_10 : decode cX1_finishStep 10 = .ok (.iadd, 1) := by decide +kernel
theorem dX1_finishStep_11 : decode cX1_finishStep 11 = .ok (.aload_n 0, 1) := by decide +kernel
theorem dX1_finishStep_12 : decode cX1_finishStep 12 = .ok (.getfield 35, 3) := by decide +kernel
theorem dX1_finishStep_15 : decode cX1_finishStep 15 = .ok (.getfield 146, 3) := by decide +kernel
theorem dX1_finishStep_18 : decode cX1_finishStep 18 = .ok (.if_icmp .ge 16, 3) := by decide +kernel
theorem dX1_finishStep_21 : decode cX1_finishStep 21 = .ok (.aload_n 0, 1) := by decide +kernel
theorem dX1_finishStep_22 : decode cX1_finishStep 22 = .ok (.aload_n 0, 1) := by decide +kernel
theorem dX1_finishStep_23 : decode cX1_finishStep 23 = .ok (.getfield 130, 3) := by decide +kernel
theorem dX1_finishStep_26 : decode cX1_finishStep 26 = .ok (.iconst 1, 1) := by decide +kernel
theorem dX1_finishStep_27 : decode cX1_finishStep 27 = .ok (.iadd, 1) := by decide +kernel
theorem dX1_finishStep_28 : decode cX1_finishStep 28 = .ok (.invokevirtual 82, 3) := by decide +kernel
theorem dX1_finishStep_31 : decode cX1_finishStep 31 = .ok (.goto 18, 3) := by decide +kernel
theorem dX1_finishStep_34 : decode cX1_finishStep 34 = .ok (.aload_n 0, 1) := by decide +kernel
theorem dX1_finishStep_35 : decode cX1_finishStep 35 = .ok (.dup, 1) := by decide +kernel
theorem dX1_finishStep_36 : decode cX1_finishStep 36 = .ok (.getfield 149, 3) := by decide +kernel
theorem dX1_finishStep_39 : decode cX1_finishStep 39 = .ok (.iconst 1, 1) := by decide +kernel
theorem dX1_finishStep_40 : decode cX1_finishStep 40 = .ok (.iadd, 1) := by decide +kernel
theorem dX1_finishStep_41 : decode cX1_finishStep 41 = .ok (.putfield 149, 3) := by decide +kernel
theorem dX1_finishStep_44 : decode cX1_finishStep 44 = .ok (.aload_n 0, 1) := by decide +kernel
theorem dX1_finishStep_45 : decode cX1_finishStep 45 = .ok (.iconst 0, 1) := by decide +kernel
theorem dX1_finishStep_46 : decode cX1_finishStep 46 = .ok (.invokevirtual 72, 3) := by decide +kernel
theorem dX1_finishStep_49 : decode cX1_finishStep 49 = .ok (.return_, 1) := by decide +kernel
theorem dX1_beginStep_0 : decode cX1_beginStep 0 = .ok (.aload_n 0, 1) := by decide +kernel
theorem dX1_beginStep_1 : decode cX1_beginStep 1 = .ok (.iload_n 1, 1) := by decide +kernel
theorem dX1_beginStep_2 : decode cX1_beginStep 2 = .ok (.putfield 130, 3) := by decide +kernel
theorem dX1_beginStep_5 : decode cX1_beginStep 5 = .ok (.aload_n 0, 1) := by decide +kernel
theorem dX1_beginStep_6 : decode cX1_beginStep 6 = .ok (.iconst 0, 1) := by decide +kernel
theorem dX1_beginStep_7 : decode cX1_beginStep 7 = .ok (.putfield 143, 3) := by decide +kernel
theorem dX1_beginStep_10 : decode cX1_beginStep 10 = .ok (.aload_n 0, 1) := by decide +kernel
theorem dX1_beginStep_11 : decode cX1_beginStep 11 = .ok (.iconst 0, 1) := by decide +kernel
theorem dX1_beginStep_12 : decode cX1_beginStep 12 = .ok (.putfield 88, 3) := by decide +kernel
theorem dX1_beginStep_15 : decode cX1_beginStep 15 = .ok (.aload_n 0, 1) := by decide +kernel
theorem dX1_beginStep_16 : decode cX1_beginStep 16 = .ok (.iconst 0, 1) := by decide +kernel
theorem dX1_beginStep_17 : decode cX1_beginStep 17 = .ok (.putfield 118, 3) := by decide +kernel
theorem dX1_beginStep_20 : decode cX1_beginStep 20 = .ok (.aload_n 0, 1) := by decide +kernel
theorem dX1_beginStep_21 : decode cX1_beginStep 21 = .ok (.iconst 0, 1) := by decide +kernel
theorem dX1_beginStep_22 : decode cX1_beginStep 22 = .ok (.putfield 91, 3) := by decide +kernel
theorem dX1_beginStep_25 : decode cX1_beginStep 25 = .ok (.aload_n 0, 1) := by decide +kernel
theorem dX1_beginStep_26 : decode cX1_beginStep 26 = .ok (.iconst 0, 1) := by decide +kernel
theorem dX1_beginStep_27 : decode cX1_beginStep 27 = .ok (.putfield 133, 3) := by decide +kernel
theorem dX1_beginStep_30 : decode cX1_beginStep 30 = .ok (.aload_n 0, 1) := by decide +kernel
theorem dX1_beginStep_31 : decode cX1_beginStep 31 = .ok (.iconst 1, 1) := by decide +kernel
theorem dX1_beginStep_32 : decode cX1_beginStep 32 = .ok (.invokevirtual 72, 3) := by decide +kernel
theorem dX1_beginStep_35 : decode cX1_beginStep 35 = .ok (.return_, 1) := by decide +kernel
theorem dX1_enter_0 : decode cX1_enter 0 = .ok (.aload_n 0, 1) := by decide +kernel
theorem dX1_enter_1 : decode cX1_enter 1 = .ok (.iload_n 1, 1) := by decide +kernel
theorem dX1_enter_2 : decode cX1_enter 2 = .ok (.putfield 39, 3) := by decide +kernel
theorem dX1_enter_5 : decode cX1_enter 5 = .ok (.aload_n 0, 1) := by decide +kernel
theorem dX1_enter_6 : decode cX1_enter 6 = .ok (.iconst 0, 1) := by decide +kernel
theorem dX1_enter_7 : decode cX1_enter 7 = .ok (.putfield 53, 3) := by decide +kernel
theorem dX1_enter_10 : decode cX1_enter 10 = .ok (.aload_n 0, 1) := by decide +kernel
theorem dX1_enter_11 : decode cX1_enter 11 = .ok (.iconst 0, 1) := by decide +kernel
theorem dX1_enter_12 : decode cX1_enter 12 = .ok (.putfield 43, 3) := by decide +kernel
theorem dX1_enter_15 : decode cX1_enter 15 = .ok (.return_, 1) := by decide +kernel
theorem dX1_bookNet_0 : decode cX1_bookNet 0 = .ok (.iconst 0, 1) := by decide +kernel
theorem dX1_bookNet_1 : decode cX1_bookNet 1 = .ok (.aload_n 0, 1) := by decide +kernel
theorem dX1_bookNet_2 : decode cX1_bookNet 2 = .ok (.getfield 12, 3) := by decide +kernel
theorem dX1_bookNet_5 : decode cX1_bookNet 5 = .ok (.invokevirtual 115, 3) := by decide +kernel
theorem dX1_bookNet_8 : decode cX1_bookNet 8 = .ok (.invokestatic 152, 3) := by decide +kernel
theorem dX1_bookNet_11 : decode cX1_bookNet 11 = .ok (.istore_n 1, 1) := by decide +kernel
theorem dX1_bookNet_12 : decode cX1_bookNet 12 = .ok (.aload_n 0, 1) := by decide +kernel
theorem dX1_bookNet_13 : decode cX1_bookNet 13 = .ok (.invokevirtual 75, 3) := by decide +kernel
theorem dX1_bookNet_16 : decode cX1_bookNet 16 = .ok (.istore_n 2, 1) := by decide +kernel
theorem dX1_bookNet_17 : decode cX1_bookNet 17 = .ok (.aload_n 0, 1) := by decide +kernel
theorem dX1_bookNet_18 : decode cX1_bookNet 18 = .ok (.getfield 28, 3) := by decide +kernel
theorem dX1_bookNet_21 : decode cX1_bookNet 21 = .ok (.iload_n 2, 1) := by decide +kernel
theorem dX1_bookNet_22 : decode cX1_bookNet 22 = .ok (.iload_n 1, 1) := by decide +kernel
theorem dX1_bookNet_23 : decode cX1_bookNet 23 = .ok (.aload_n 0, 1) := by decide +kernel
theorem dX1_bookNet_24 : decode cX1_bookNet 24 = .ok (.getfield 79, 3) := by decide +kernel
theorem dX1_bookNet_27 : decode cX1_bookNet 27 = .ok (.iconst 1, 1) := by decide +kernel
theorem dX1_bookNet_28 : decode cX1_bookNet 28 = .ok (.isub, 1) := by decide +kernel
theorem dX1_bookNet_29 : decode cX1_bookNet 29 = .ok (.invokevirtual 158, 3) := by decide +kernel
theorem dX1_bookNet_32 : decode cX1_bookNet 32 = .ok (.istore_n 3, 1) := by decide +kernel
theorem dX1_bookNet_33 : decode cX1_bookNet 33 = .ok (.aload_n 0, 1) := by decide +kernel
theorem dX1_bookNet_34 : decode cX1_bookNet 34 = .ok (.getfield 21, 3) := by decide +kernel
theorem dX1_bookNet_37 : decode cX1_bookNet 37 = .ok (.getfield 162, 3) := by decide +kernel
theorem dX1_bookNet_40 : decode cX1_bookNet 40 = .ok (.iload_n 2, 1) := by decide +kernel
theorem dX1_bookNet_41 : decode cX1_bookNet 41 = .ok (.iload_n 1, 1) := by decide +kernel
theorem dX1_bookNet_42 : decode cX1_bookNet 42 = .ok (.invokestatic 165, 3) := by decide +kernel
theorem dX1_bookNet_45 : decode cX1_bookNet 45 = .ok (.aload_n 0, 1) := by decide +kernel
theorem dX1_bookNet_46 : decode cX1_bookNet 46 = .ok (.getfield 21, 3) := by decide +kernel
theorem dX1_bookNet_49 : decode cX1_bookNet 49 = .ok (.getfield 169, 3) := by decide +kernel
theorem dX1_bookNet_52 : decode cX1_bookNet 52 = .ok (.iload_n 2, 1) := by decide +kernel
theorem dX1_bookNet_53 : decode cX1_bookNet 53 = .ok (.iload_n 1, 1) := by decide +kernel
theorem dX1_bookNet_54 : decode cX1_bookNet 54 = .ok (.iload_n 3, 1) := by decide +kernel
theorem dX1_bookNet_55 : decode cX1_bookNet 55 = .ok (.isub, 1) := by decide +kernel
theorem dX1_bookNet_56 : decode cX1_bookNet 56 = .ok (.invokestatic 165, 3) := by decide +kernel
theorem dX1_bookNet_59 : decode cX1_bookNet 59 = .ok (.iload_n 1, 1) := by decide +kernel
theorem dX1_bookNet_60 : decode cX1_bookNet 60 = .ok (.ireturn, 1) := by decide +kernel
theorem dX1_stepBin_0 : decode cX1_stepBin 0 = .ok (.aload_n 0, 1) := by decide +kernel
theorem dX1_stepBin_1 : decode cX1_stepBin 1 = .ok (.getfield 35, 3) := by decide +kernel
theorem dX1_stepBin_4 : decode cX1_stepBin 4 = .ok (.getfield 172, 3) := by decide +kernel
theorem dX1_stepBin_7 : decode cX1_stepBin 7 = .ok (.aload_n 0, 1) := by decide +kernel
theorem dX1_stepBin_8 : decode cX1_stepBin 8 = .ok (.getfield 130, 3) := by decide +kernel
theorem dX1_stepBin_11 : decode cX1_stepBin 11 = .ok (.invokestatic 111, 3) := by decide +kernel
theorem dX1_stepBin_14 : decode cX1_stepBin 14 = .ok (.ireturn, 1) := by decide +kernel
theorem dX1_target_0 : decode cX1_target 0 = .ok (.aload_n 0, 1) := by decide +kernel
theorem dX1_target_1 : decode cX1_target 1 = .ok (.getfield 35, 3) := by decide +kernel
theorem dX1_target_4 : decode cX1_target 4 = .ok (.getfield 175, 3) := by decide +kernel
theorem dX1_target_7 : decode cX1_target 7 = .ok (.aload_n 0, 1) := by decide +kernel
theorem dX1_target_8 : decode cX1_target 8 = .ok (.getfield 130, 3) := by decide +kernel
theorem dX1_target_11 : decode cX1_target 11 = .ok (.invokestatic 111, 3) := by decide +kernel
theorem dX1_target_14 : decode cX1_target 14 = .ok (.ireturn, 1) := by decide +kernel
theorem dX2_init_0 : decode cX2_init 0 = .ok (.aload_n 0, 1) := by decide +kernel
theorem dX2_init_1 : decode cX2_init 1 = .ok (.invokespecial 3, 3) := by decide +kernel
theorem dX2_init_4 : decode cX2_init 4 = .ok (.aload_n 0, 1) := by decide +kernel
theorem dX2_init_5 : decode cX2_init 5 = .ok (.bipush 30, 2) := by decide +kernel
theorem dX2_init_7 : decode cX2_init 7 = .ok (.newarray .int, 2) := by decide +kernel
theorem dX2_init_9 : decode cX2_init 9 = .ok (.putfield 9, 3) := by decide +kernel
theorem dX2_init_12 : decode cX2_init 12 = .ok (.aload_n 0, 1) := by decide +kernel
theorem dX2_init_13 : decode cX2_init 13 = .ok (.bipush 30, 2) := by decide +kernel
theorem dX2_init_15 : decode cX2_init 15 = .ok (.newarray .int, 2) := by decide +kernel
theorem dX2_init_17 : decode cX2_init 17 = .ok (.putfield 15, 3) := by decide +kernel
theorem dX2_init_20 : decode cX2_init 20 = .ok (.aload_n 0, 1) := by decide +kernel
theorem dX2_init_21 : decode cX2_init 21 = .ok (.bipush 30, 2) := by decide +kernel
theorem dX2_init_23 : decode cX2_init 23 = .ok (.newarray .int, 2) := by decide +kernel
theorem dX2_init_25 : decode cX2_init 25 = .ok (.putfield 18, 3) := by decide +kernel
theorem dX2_init_28 : decode cX2_init 28 = .ok (.aload_n 0, 1) := by decide +kernel
theorem dX2_init_29 : decode cX2_init 29 = .ok (.sipush 600, 3) := by decide +kernel
theorem dX2_init_32 : decode cX2_init 32 = .ok (.newarray .int, 2) := by decide +kernel
theorem dX2_init_34 : decode cX2_init 34 = .ok (.putfield 21, 3) := by decide +kernel
theorem dX2_init_37 : decode cX2_init 37 = .ok (.return_, 1) := by decide +kernel
theorem dX2_store_0 : decode cX2_store 0 = .ok (.aload_n 0, 1) := by decide +kernel
theorem dX2_store_1 : decode cX2_store 1 = .ok (.getfield 24, 3) := by decide +kernel
theorem dX2_store_4 : decode cX2_store 4 = .ok (.istore_n 3, 1) := by decide +kernel
theorem dX2_store_5 : decode cX2_store 5 = .ok (.aload_n 0, 1) := by decide +kernel
theorem dX2_store_6 : decode cX2_store 6 = .ok (.getfield 9, 3) := by decide +kernel
theorem dX2_store_9 : decode cX2_store 9 = .ok (.iload_n 3, 1) := by decide +kernel
theorem dX2_store_10 : decode cX2_store 10 = .ok (.iload_n 1, 1) := by decide +kernel
theorem dX2_store_11 : decode cX2_store 11 = .ok (.invokestatic 28, 3) := by decide +kernel
theorem dX2_store_14 : decode cX2_store 14 = .ok (.aload_n 0, 1) := by decide +kernel
theorem dX2_store_15 : decode cX2_store 15 = .ok (.getfield 15, 3) := by decide +kernel
theorem dX2_store_18 : decode cX2_store 18 = .ok (.iload_n 3, 1) := by decide +kernel
theorem dX2_store_19 : decode cX2_store 19 = .ok (.iload_n 2, 1) := by decide +kernel
theorem dX2_store_20 : decode cX2_store 20 = .ok (.invokestatic 28, 3) := by decide +kernel
theorem dX2_store_23 : decode cX2_store 23 = .ok (.aload_n 0, 1) := by decide +kernel
theorem dX2_store_24 : decode cX2_store 24 = .ok (.getfield 18, 3) := by decide +kernel
theorem dX2_store_27 : decode cX2_store 27 = .ok (.iload_n 3, 1) := by decide +kernel
theorem dX2_store_28 : decode cX2_store 28 = .ok (.iload_n 2, 1) := by decide +kernel
theorem dX2_store_29 : decode cX2_store 29 = .ok (.invokestatic 28, 3) := by decide +kernel
theorem dX2_store_32 : decode cX2_store 32 = .ok (.aload_n 0, 1) := by decide +kernel
theorem dX2_store_33 : decode cX2_store 33 = .ok (.dup, 1) := by decide +kernel
theorem dX2_store_34 : decode cX2_store 34 = .ok (.getfield 24, 3) := by decide +kernel
theorem dX2_store_37 : decode cX2_store 37 = .ok (.iconst 1, 1) := by decide +kernel
theorem dX2_store_38 : decode cX2_store 38 = .ok (.iadd, 1) := by decide +kernel
theorem dX2_store_39 : decode cX2_store 39 = .ok (.putfield 24, 3) := by decide +kernel
theorem dX2_store_42 : decode cX2_store 42 = .ok (.iload_n 3, 1) := by decide +kernel
theorem dX2_store_43 : decode cX2_store 43 = .ok (.ireturn, 1) := by decide +kernel
theorem dX2_takeOut_0 : decode cX2_takeOut 0 = .ok (.iload_n 2, 1) := by decide +kernel
theorem dX2_takeOut_1 : decode cX2_takeOut 1 = .ok (.istore 4, 2) := by decide +kernel
theorem dX2_takeOut_3 : decode cX2_takeOut 3 = .ok (.iconst 0, 1) := by decide +kernel
theorem dX2_takeOut_4 : decode cX2_takeOut 4 = .ok (.istore 5, 2) := by decide +kernel
theorem dX2_takeOut_6 : decode cX2_takeOut 6 = .ok (.iload 5, 2) := by decide +kernel
theorem dX2_takeOut_8 : decode cX2_takeOut 8 = .ok (.aload_n 0, 1) := by decide +kernel
theorem dX2_takeOut_9 : decode cX2_takeOut 9 = .ok (.getfield 24, 3) := by decide +kernel
theorem dX2_takeOut_12 : decode cX2_takeOut 12 = .ok (.if_icmp .ge 72, 3) := by decide +kernel
theorem dX2_takeOut_15 : decode cX2_takeOut 15 = .ok (.aload_n 0, 1) := by decide +kernel
theorem dX2_takeOut_16 : decode cX2_takeOut 16 = .ok (.getfield 9, 3) := by decide +kernel
theorem dX2_takeOut_19 : decode cX2_takeOut 19 = .ok (.iload 5, 2) := by decide +kernel
theorem dX2_takeOut_21 : decode cX2_takeOut 21 = .ok (.invokestatic 32, 3) := by decide +kernel
theorem dX2_takeOut_24 : decode cX2_takeOut 24 = .ok (.iload_n 1, 1) := by decide +kernel
theorem dX2_takeOut_25 : decode cX2_takeOut 25 = .ok (.if_icmp .ne 53, 3) := by decide +kernel
theorem dX2_takeOut_28 : decode cX2_takeOut 28 = .ok (.iload 4, 2) := by decide +kernel
theorem dX2_takeOut_30 : decode cX2_takeOut 30 = .ok (.aload_n 0, 1) := by decide +kernel
theorem dX2_takeOut_31 : decode cX2_takeOut 31 = .ok (.getfield 18, 3) := by decide +kernel
theorem dX2_takeOut_34 : decode cX2_takeOut 34 = .ok (.iload 5, 2) := by decide +kernel
theorem dX2_takeOut_36 : decode cX2_takeOut 36 = .ok (.invokestatic 32, 3) := by decide +kernel
theorem dX2_takeOut_39 : decode cX2_takeOut 39 = .ok (.invokestatic 36, 3) := by decide +kernel
theorem dX2_takeOut_42 : decode cX2_takeOut 42 = .ok (.istore 6, 2) := by decide +kernel
theorem dX2_takeOut_44 : decode cX2_takeOut 44 = .ok (.aload_n 0, 1) := by decide +kernel
theorem dX2_takeOut_45 : decode cX2_takeOut 45 = .ok (.getfield 18, 3) := by decide +kernel
theorem dX2_takeOut_48 : decode cX2_takeOut 48 = .ok (.iload 5, 2) := by decide +kernel
theorem dX2_takeOut_50 : decode cX2_takeOut 50 = .ok (.iload 6, 2) := by decide +kernel
theorem dX2_takeOut_52 : decode cX2_takeOut 52 = .ok (.ineg, 1) := by decide +kernel
theorem dX2_takeOut_53 : decode cX2_takeOut 53 = .ok (.invokestatic 42, 3) := by decide +kernel
theorem dX2_takeOut_56 : decode cX2_takeOut 56 = .ok (.aload_n 0, 1) := by decide +kernel
theorem dX2_takeOut_57 : decode cX2_takeOut 57 = .ok (.getfield 21, 3) := by decide +kernel
theorem dX2_takeOut_60 : decode cX2_takeOut 60 = .ok (.iload 5, 2) := by decide +kernel
theorem dX2_takeOut_62 : decode cX2_takeOut 62 = .ok (.iload_n 3, 1) := by decide +kernel
theorem dX2_takeOut_63 : decode cX2_takeOut 63 = .ok (.invokestatic 45, 3) := by decide +kernel
theorem dX2_takeOut_66 : decode cX2_takeOut 66 = .ok (.iload 6, 2) := by decide +kernel
theorem dX2_takeOut_68 : decode cX2_takeOut 68 = .ok (.invokestatic 42, 3) := by decide +kernel
theorem dX2_takeOut_71 : decode cX2_takeOut 71 = .ok (.iload 4, 2) := by decide +kernel
theorem dX2_takeOut_73 : decode cX2_takeOut 73 = .ok (.iload 6, 2) := by decide +kernel
theorem dX2_takeOut_75 : decode cX2_takeOut 75 = .ok (.isub, 1) := by decide +kernel
theorem dX2_takeOut_76 : decode cX2_takeOut 76 = .ok (.istore 4, 2) := by decide +kernel
theorem dX2_takeOut_78 : decode cX2_takeOut 78 = .ok (.iinc 5 1, 3) := by decide +kernel
theorem dX2_takeOut_81 : decode cX2_takeOut 81 = .ok (.goto (-75), 3) := by decide +kernel
theorem dX2_takeOut_84 : decode cX2_takeOut 84 = .ok (.iload_n 2, 1) := by decide +kernel
theorem dX2_takeOut_85 : decode cX2_takeOut 85 = .ok (.iload 4, 2) := by decide +kernel
theorem dX2_takeOut_87 : decode cX2_takeOut 87 = .ok (.isub, 1) := by decide +kernel
theorem dX2_takeOut_88 : decode cX2_takeOut 88 = .ok (.ireturn, 1) := by decide +kernel
theorem dX2_leftIn_0 : decode cX2_leftIn 0 = .ok (.iconst 0, 1) := by decide +kernel
theorem dX2_leftIn_1 : decode cX2_leftIn 1 = .ok (.istore_n 2, 1) := by decide +kernel
theorem dX2_leftIn_2 : decode cX2_leftIn 2 = .ok (.iconst 0, 1) := by decide +kernel
theorem dX2_leftIn_3 : decode cX2_leftIn 3 = .ok (.istore_n 3, 1) := by decide +kernel
theorem dX2_leftIn_4 : decode cX2_leftIn 4 = .ok (.iload_n 3, 1) := by decide +kernel
theorem dX2_leftIn_5 : decode cX2_leftIn 5 = .ok (.aload_n 0, 1) := by decide +kernel
theorem dX2_leftIn_6 : decode cX2_leftIn 6 = .ok (.getfield 24, 3) := by decide +kernel
theorem dX2_leftIn_9 : decode cX2_leftIn 9 = .ok (.if_icmp .ge 36, 3) := by decide +kernel
theorem dX2_leftIn_12 : decode cX2_leftIn 12 = .ok (.iload_n 2, 1) := by decide +kernel
theorem dX2_leftIn_13 : decode cX2_leftIn 13 = .ok (.aload_n 0, 1) := by decide +kernel
theorem dX2_leftIn_14 : decode cX2_leftIn 14 = .ok (.getfield 9, 3) := by decide +kernel
theorem dX2_leftIn_17 : decode cX2_leftIn 17 = .ok (.iload_n 3, 1) := by decide +kernel
theorem dX2_leftIn_18 : decode cX2_leftIn 18 = .ok (.invokestatic 32, 3) := by decide +kernel
theorem dX2_leftIn_21 : decode cX2_leftIn 21 = .ok (.iload_n 1, 1) := by decide +kernel
theorem dX2_leftIn_22 : decode cX2_leftIn 22 = .ok (.if_icmp .ne 14, 3) := by decide +kernel
theorem dX2_leftIn_25 : decode cX2_leftIn 25 = .ok (.aload_n 0, 1) := by decide +kernel
theorem dX2_leftIn_26 : decode cX2_leftIn 26 = .ok (.getfield 18, 3) := by decide +kernel
theorem dX2_leftIn_29 : decode cX2_leftIn 29 = .ok (.iload_n 3, 1) := by decide +kernel
theorem dX2_leftIn_30 : decode cX2_leftIn 30 = .ok (.invokestatic 32, 3) := by decide +kernel
theorem dX2_leftIn_33 : decode cX2_leftIn 33 = .ok (.goto 4, 3) := by decide +kernel
theorem dX2_leftIn_36 : decode cX2_leftIn 36 = .ok (.iconst 0, 1) := by decide +kernel
theorem dX2_leftIn_37 : decode cX2_leftIn 37 = .ok (.iadd, 1) := by decide +kernel
theorem dX2_leftIn_38 : decode cX2_leftIn 38 = .ok (.istore_n 2, 1) := by decide +kernel
theorem dX2_leftIn_39 : decode cX2_leftIn 39 = .ok (.iinc 3 1, 3) := by decide +kernel
theorem dX2_leftIn_42 : decode cX2_leftIn 42 = .ok (.goto (-38), 3) := by decide +kernel
theorem dX2_leftIn_45 : decode cX2_leftIn 45 = .ok (.iload_n 2, 1) := by decide +kernel
theorem dX2_leftIn_46 : decode cX2_leftIn 46 = .ok (.ireturn, 1) := by decide +kernel
theorem dX2_goneFrom_0 : decode cX2_goneFrom 0 = .ok (.iconst 0, 1) := by decide +kernel
theorem dX2_goneFrom_1 : decode cX2_goneFrom 1 = .ok (.istore_n 2, 1) := by decide +kernel
theorem dX2_goneFrom_2 : decode cX2_goneFrom 2 = .ok (.iconst 0, 1) := by decide +kernel
theorem dX2_goneFrom_3 : decode cX2_goneFrom 3 = .ok (.istore_n 3, 1) := by decide +kernel
theorem dX2_goneFrom_4 : decode cX2_goneFrom 4 = .ok (.iload_n 3, 1) := by decide +kernel
theorem dX2_goneFrom_5 : decode cX2_goneFrom 5 = .ok (.aload_n 0, 1) := by decide +kernel
theorem dX2_goneFrom_6 : decode cX2_goneFrom 6 = .ok (.getfield 24, 3) := by decide +kernel
theorem dX2_goneFrom_9 : decode cX2_goneFrom 9 = .ok (.if_icmp .ge 45, 3) := by decide +kernel
theorem dX2_goneFrom_12 : decode cX2_goneFrom 12 = .ok (.iload_n 2, 1) := by decide +kernel
theorem dX2_goneFrom_13 : decode cX2_goneFrom 13 = .ok (.aload_n 0, 1) := by decide +kernel
theorem dX2_goneFrom_14 : decode cX2_goneFrom 14 = .ok (.getfield 9, 3) := by decide +kernel
theorem dX2_goneFrom_17 : decode cX2_goneFrom 17 = .ok (.iload_n 3, 1) := by decide +kernel
theorem dX2_goneFrom_18 : decode cX2_goneFrom 18 = .ok (.invokestatic 32, 3) := by decide +kernel
theorem dX2_goneFrom_21 : decode cX2_goneFrom 21 = .ok (.iload_n 1, 1) := by decide +kernel
theorem dX2_goneFrom_22 : decode cX2_goneFrom 22 = .ok (.if_icmp .ne 23, 3) := by decide +kernel
theorem dX2_goneFrom_25 : decode cX2_goneFrom 25 = .ok (.aload_n 0, 1) := by decide +kernel
theorem dX2_goneFrom_26 : decode cX2_goneFrom 26 = .ok (.getfield 15, 3) := by decide +kernel
theorem dX2_goneFrom_29 : decode cX2_goneFrom 29 = .ok (.iload_n 3, 1) := by decide +kernel
theorem dX2_goneFrom_30 : decode cX2_goneFrom 30 = .ok (.invokestatic 32, 3) := by decide +kernel
theorem dX2_goneFrom_33 : decode cX2_goneFrom 33 = .ok (.aload_n 0, 1) := by decide +kernel
theorem dX2_goneFrom_34 : decode cX2_goneFrom 34 = .ok (.getfield 18, 3) := by decide +kernel
theorem dX2_goneFrom_37 : decode cX2_goneFrom 37 = .ok (.iload_n 3, 1) := by decide +kernel
theorem dX2_goneFrom_38 : decode cX2_goneFrom 38 = .ok (.invokestatic 32, 3) := by decide +kernel
theorem dX2_goneFrom_41 : decode cX2_goneFrom 41 = .ok (.isub, 1) := by decide +kernel
theorem dX2_goneFrom_42 : decode cX2_goneFrom 42 = .ok (.goto 4, 3) := by decide +kernel
theorem dX2_goneFrom_45 : decode cX2_goneFrom 45 = .ok (.iconst 0, 1) := by decide +kernel
theorem dX2_goneFrom_46 : decode cX2_goneFrom 46 = .ok (.iadd, 1) := by decide +kernel
theorem dX2_goneFrom_47 : decode cX2_goneFrom 47 = .ok (.istore_n 2, 1) := by decide +kernel
theorem dX2_goneFrom_48 : decode cX2_goneFrom 48 = .ok (.iinc 3 1, 3) := by decide +kernel
theorem dX2_goneFrom_51 : decode cX2_goneFrom 51 = .ok (.goto (-47), 3) := by decide +kernel
theorem dX2_goneFrom_54 : decode cX2_goneFrom 54 = .ok (.iload_n 2, 1) := by decide +kernel
theorem dX2_goneFrom_55 : decode cX2_goneFrom 55 = .ok (.ireturn, 1) := by decide +kernel
theorem dX2_usedFor_0 : decode cX2_usedFor 0 = .ok (.aload_n 0, 1) := by decide +kernel
theorem dX2_usedFor_1 : decode cX2_usedFor 1 = .ok (.getfield 21, 3) := by decide +kernel
theorem dX2_usedFor_4 : decode cX2_usedFor 4 = .ok (.iload_n 1, 1) := by decide +kernel
theorem dX2_usedFor_5 : decode cX2_usedFor 5 = .ok (.iload_n 2, 1) := by decide +kernel
theorem dX2_usedFor_6 : decode cX2_usedFor 6 = .ok (.invokestatic 45, 3) := by decide +kernel
theorem dX2_usedFor_9 : decode cX2_usedFor 9 = .ok (.invokestatic 32, 3) := by decide +kernel
theorem dX2_usedFor_12 : decode cX2_usedFor 12 = .ok (.ireturn, 1) := by decide +kernel
theorem dX2_firstBatchOf_0 : decode cX2_firstBatchOf 0 = .ok (.iconst 0, 1) := by decide +kernel
theorem dX2_firstBatchOf_1 : decode cX2_firstBatchOf 1 = .ok (.istore_n 3, 1) := by decide +kernel
theorem dX2_firstBatchOf_2 : decode cX2_firstBatchOf 2 = .ok (.iload_n 3, 1) := by decide +kernel
theorem dX2_firstBatchOf_3 : decode cX2_firstBatchOf 3 = .ok (.iload_n 2, 1) := by decide +kernel
theorem dX2_firstBatchOf_4 : decode cX2_firstBatchOf 4 = .ok (.if_icmp .ge 20, 3) := by decide +kernel
theorem dX2_firstBatchOf_7 : decode cX2_firstBatchOf 7 = .ok (.aload_n 0, 1) := by decide +kernel
theorem dX2_firstBatchOf_8 : decode cX2_firstBatchOf 8 = .ok (.iload_n 1, 1) := by decide +kernel
theorem dX2_firstBatchOf_9 : decode cX2_firstBatchOf 9 = .ok (.iload_n 3, 1) := by decide +kernel
theorem dX2_firstBatchOf_10 : decode cX2_firstBatchOf 10 = .ok (.invokevirtual 48, 3) := by decide +kernel
theorem dX2_firstBatchOf_13 : decode cX2_firstBatchOf 13 = .ok (.ifCond .le 5, 3) := by decide +kernel
theorem dX2_firstBatchOf_16 : decode cX2_firstBatchOf 16 = .ok (.iload_n 3, 1) := by decide +kernel
theorem dX2_firstBatchOf_17 : decode cX2_firstBatchOf 17 = .ok (.ireturn, 1) := by decide +kernel
theorem dX2_firstBatchOf_18 : decode cX2_firstBatchOf 18 = .ok (.iinc 3 1, 3) := by decide +kernel
theorem dX2_firstBatchOf_21 : decode cX2_firstBatchOf 21 = .ok (.goto (-19), 3) := by decide +kernel
theorem dX2_firstBatchOf_24 : decode cX2_firstBatchOf 24 = .ok (.iconst (-1), 1) := by decide +kernel
theorem dX2_firstBatchOf_25 : decode cX2_firstBatchOf 25 = .ok (.ireturn, 1) := by decide +kernel
theorem dX2_place_0 : decode cX2_place 0 = .ok (.iload_n 0, 1) := by decide +kernel
theorem dX2_place_1 : decode cX2_place 1 = .ok (.bipush 20, 2) := by decide +kernel
theorem dX2_place_3 : decode cX2_place 3 = .ok (.imul, 1) := by decide +kernel
theorem dX2_place_4 : decode cX2_place 4 = .ok (.iload_n 1, 1) := by decide +kernel
theorem dX2_place_5 : decode cX2_place 5 = .ok (.iadd, 1) := by decide +kernel
theorem dX2_place_6 : decode cX2_place 6 = .ok (.ireturn, 1) := by decide +kernel
theorem dX3_init_0 : decode cX3_init 0 = .ok (.aload_n 0, 1) := by decide +kernel
theorem dX3_init_1 : decode cX3_init 1 = .ok (.invokespecial 3, 3) := by decide +kernel
theorem dX3_init_4 : decode cX3_init 4 = .ok (.aload_n 0, 1) := by decide +kernel
theorem dX3_init_5 : decode cX3_init 5 = .ok (.bipush 6, 2) := by decide +kernel
theorem dX3_init_7 : decode cX3_init 7 = .ok (.newarray .int, 2) := by decide +kernel
theorem dX3_init_9 : decode cX3_init 9 = .ok (.putfield 9, 3) := by decide +kernel
theorem dX3_init_12 : decode cX3_init 12 = .ok (.aload_n 0, 1) := by decide +kernel
theorem dX3_init_13 : decode cX3_init 13 = .ok (.bipush 6, 2) := by decide +kernel
theorem dX3_init_15 : decode cX3_init 15 = .ok (.newarray .int, 2) := by decide +kernel
theorem dX3_init_17 : decode cX3_init 17 = .ok (.putfield 15, 3) := by decide +kernel
theorem dX3_init_20 : decode cX3_init 20 = .ok (.aload_n 0, 1) := by decide +kernel
theorem dX3_init_21 : decode cX3_init 21 = .ok (.bipush 6, 2) := by decide +kernel
theorem dX3_init_23 : decode cX3_init 23 = .ok (.newarray .int, 2) := by decide +kernel
theorem dX3_init_25 : decode cX3_init 25 = .ok (.putfield 18, 3) := by decide +kernel
theorem dX3_init_28 : decode cX3_init 28 = .ok (.return_, 1) := by decide +kernel
theorem dX3_append_0 : decode cX3_append 0 = .ok (.aload_n 0, 1) := by decide +kernel
theorem dX3_append_1 : decode cX3_append 1 = .ok (.getfield 9, 3) := by decide +kernel
theorem dX3_append_4 : decode cX3_append 4 = .ok (.aload_n 0, 1) := by decide +kernel
theorem dX3_append_5 : decode cX3_append 5 = .ok (.getfield 21, 3) := by decide +kernel
theorem dX3_append_8 : decode cX3_append 8 = .ok (.iload_n 1, 1) := by decide +kernel
theorem dX3_append_9 : decode cX3_append 9 = .ok (.invokestatic 25, 3) := by decide +kernel
theorem dX3_append_12 : decode cX3_append 12 = .ok (.aload_n 0, 1) := by decide +kernel
theorem dX3_append_13 : decode cX3_append 13 = .ok (.getfield 15, 3) := by decide +kernel
theorem dX3_append_16 : decode cX3_append 16 = .ok (.aload_n 0, 1) := by decide +kernel
theorem dX3_append_17 : decode cX3_append 17 = .ok (.getfield 21, 3) := by decide +kernel
theorem dX3_append_20 : decode cX3_append 20 = .ok (.iload_n 2, 1) := by decide +kernel
theorem dX3_append_21 : decode cX3_append 21 = .ok (.invokestatic 25, 3) := by decide +kernel
theorem dX3_append_24 : decode cX3_append 24 = .ok (.aload_n 0, 1) := by decide +kernel
theorem dX3_append_25 : decode cX3_append 25 = .ok (.getfield 18, 3) := by decide +kernel
theorem dX3_append_28 : decode cX3_append 28 = .ok (.aload_n 0, 1) := by decide +kernel
theorem dX3_append_29 : decode cX3_append 29 = .ok (.getfield 21, 3) := by decide +kernel
theorem dX3_append_32 : decode cX3_append 32 = .ok (.iload_n 3, 1) := by decide +kernel
theorem dX3_append_33 : decode cX3_append 33 = .ok (.invokestatic 25, 3) := by decide +kernel
theorem dX3_append_36 : decode cX3_append 36 = .ok (.aload_n 0, 1) := by decide +kernel
theorem dX3_append_37 : decode cX3_append 37 = .ok (.dup, 1) := by decide +kernel
theorem dX3_append_38 : decode cX3_append 38 = .ok (.getfield 21, 3) := by decide +kernel
theorem dX3_append_41 : decode cX3_append 41 = .ok (.iconst 1, 1) := by decide +kernel
theorem dX3_append_42 : decode cX3_append 42 = .ok (.iadd, 1) := by decide +kernel
theorem dX3_append_43 : decode cX3_append 43 = .ok (.putfield 21, 3) := by decide +kernel
theorem dX3_append_46 : decode cX3_append 46 = .ok (.return_, 1) := by decide +kernel
theorem dX4_init_0 : decode cX4_init 0 = .ok (.aload_n 0, 1) := by decide +kernel
theorem dX4_init_1 : decode cX4_init 1 = .ok (.invokespecial 3, 3) := by decide +kernel
theorem dX4_init_4 : decode cX4_init 4 = .ok (.aload_n 0, 1) := by decide +kernel
theorem dX4_init_5 : decode cX4_init 5 = .ok (.iconst 3, 1) := by decide +kernel
theorem dX4_init_6 : decode cX4_init 6 = .ok (.putfield 9, 3) := by decide +kernel
theorem dX4_init_9 : decode cX4_init 9 = .ok (.return_, 1) := by decide +kernel
theorem dX4_take_0 : decode cX4_take 0 = .ok (.aload_n 0, 1) := by decide +kernel
theorem dX4_take_1 : decode cX4_take 1 = .ok (.aload_n 0, 1) := by decide +kernel
theorem dX4_take_2 : decode cX4_take 2 = .ok (.getfield 15, 3) := by decide +kernel
theorem dX4_take_5 : decode cX4_take 5 = .ok (.putfield 18, 3) := by decide +kernel
theorem dX4_take_8 : decode cX4_take 8 = .ok (.aload_n 0, 1) := by decide +kernel
theorem dX4_take_9 : decode cX4_take 9 = .ok (.aload_n 0, 1) := by decide +kernel
theorem dX4_take_10 : decode cX4_take 10 = .ok (.getfield 21, 3) := by decide +kernel
theorem dX4_take_13 : decode cX4_take 13 = .ok (.putfield 15, 3) := by decide +kernel
theorem dX4_take_16 : decode cX4_take 16 = .ok (.aload_n 0, 1) := by decide +kernel
theorem dX4_take_17 : decode cX4_take 17 = .ok (.aload_n 0, 1) := by decide +kernel
theorem dX4_take_18 : decode cX4_take 18 = .ok (.getfield 24, 3) := by decide +kernel
theorem dX4_take_21 : decode cX4_take 21 = .ok (.putfield 21, 3) := by decide +kernel
theorem dX4_take_24 : decode cX4_take 24 = .ok (.aload_n 0, 1) := by decide +kernel
theorem dX4_take_25 : decode cX4_take 25 = .ok (.iload_n 1, 1) := by decide +kernel
theorem dX4_take_26 : decode cX4_take 26 = .ok (.putfield 24, 3) := by decide +kernel
theorem dX4_take_29 : decode cX4_take 29 = .ok (.aload_n 0, 1) := by decide +kernel
theorem dX4_take_30 : decode cX4_take 30 = .ok (.getfield 27, 3) := by decide +kernel
theorem dX4_take_33 : decode cX4_take 33 = .ok (.iconst 4, 1) := by decide +kernel
theorem dX4_take_34 : decode cX4_take 34 = .ok (.if_icmp .ge 13, 3) := by decide +kernel
theorem dX4_take_37 : decode cX4_take 37 = .ok (.aload_n 0, 1) := by decide +kernel
theorem dX4_take_38 : decode cX4_take 38 = .ok (.dup, 1) := by decide +kernel
theorem dX4_take_39 : decode cX4_take 39 = .ok (.getfield 27, 3) := by decide +kernel
theorem dX4_take_42 : decode cX4_take 42 = .ok (.iconst 1, 1) := by decide +kernel
theorem dX4_take_43 : decode cX4_take 43 = .ok (.iadd, 1) := by decide +kernel
theorem dX4_take_44 : decode cX4_take 44 = .ok (.putfield 27, 3) := by decide +kernel
theorem dX4_take_47 : decode cX4_take 47 = .ok (.return_, 1) := by decide +kernel
theorem dX4_isCalm_0 : decode cX4_isCalm 0 = .ok (.aload_n 0, 1) := by decide +kernel
theorem dX4_isCalm_1 : decode cX4_isCalm 1 = .ok (.getfield 24, 3) := by decide +kernel
theorem dX4_isCalm_4 : decode cX4_isCalm 4 = .ok (.aload_n 0, 1) := by decide +kernel
theorem dX4_isCalm_5 : decode cX4_isCalm 5 = .ok (.getfield 21, 3) := by decide +kernel
theorem dX4_isCalm_8 : decode cX4_isCalm 8 = .ok (.invokestatic 30, 3) := by decide +kernel
theorem dX4_isCalm_11 : decode cX4_isCalm 11 = .ok (.aload_n 0, 1) := by decide +kernel
theorem dX4_isCalm_12 : decode cX4_isCalm 12 = .ok (.getfield 15, 3) := by decide +kernel
theorem dX4_isCalm_15 : decode cX4_isCalm 15 = .ok (.aload_n 0, 1) := by decide +kernel
theorem dX4_isCalm_16 : decode cX4_isCalm 16 = .ok (.getfield 18, 3) := by decide +kernel
theorem dX4_isCalm_19 : decode cX4_isCalm 19 = .ok (.invokestatic 30, 3) := by decide +kernel
theorem dX4_isCalm_22 : decode cX4_isCalm 22 = .ok (.invokestatic 30, 3) := by decide +kernel
theorem dX4_isCalm_25 : decode cX4_isCalm 25 = .ok (.istore_n 1, 1) := by decide +kernel
theorem dX4_isCalm_26 : decode cX4_isCalm 26 = .ok (.aload_n 0, 1) := by decide +kernel
theorem dX4_isCalm_27 : decode cX4_isCalm 27 = .ok (.getfield 24, 3) := by decide +kernel
theorem dX4_isCalm_30 : decode cX4_isCalm 30 = .ok (.aload_n 0, 1) := by decide +kernel
theorem dX4_isCalm_31 : decode cX4_isCalm 31 = .ok (.getfield 21, 3) := by decide +kernel
theorem dX4_isCalm_34 : decode cX4_isCalm 34 = .ok (.invokestatic 36, 3) := by decide +kernel
theorem dX4_isCalm_37 : decode cX4_isCalm 37 = .ok (.aload_n 0, 1) := by decide +kernel
theorem dX4_isCalm_38 : decode cX4_isCalm 38 = .ok (.getfield 15, 3) := by decide +kernel
theorem dX4_isCalm_41 : decode cX4_isCalm 41 = .ok (.aload_n 0, 1) := by decide +kernel
theorem dX4_isCalm_42 : decode cX4_isCalm 42 = .ok (.getfield 18, 3) := by decide +kernel
theorem dX4_isCalm_45 : decode cX4_isCalm 45 = .ok (.invokestatic 36, 3) := by decide +kernel
theorem dX4_isCalm_48 : decode cX4_isCalm 48 = .ok (.invokestatic 36, 3) := by decide +kernel
theorem dX4_isCalm_51 : decode cX4_isCalm 51 = .ok (.istore_n 2, 1) := by decide +kernel
theorem dX4_isCalm_52 : decode cX4_isCalm 52 = .ok (.aload_n 0, 1) := by decide +kernel
theorem dX4_isCalm_53 : decode cX4_isCalm 53 = .ok (.getfield 27, 3) := by decide +kernel
theorem dX4_isCalm_56 : decode cX4_isCalm 56 = .ok (.iconst 4, 1) := by decide +kernel
theorem dX4_isCalm_57 : decode cX4_isCalm 57 = .ok (.if_icmp .lt 17, 3) := by decide +kernel
theorem dX4_isCalm_60 : decode cX4_isCalm 60 = .ok (.iload_n 1, 1) := by decide +kernel
theorem dX4_isCalm_61 : decode cX4_isCalm 61 = .ok (.iload_n 2, 1) := by decide +kernel
theorem dX4_isCalm_62 : decode cX4_isCalm 62 = .ok (.isub, 1) := by decide +kernel
theorem dX4_isCalm_63 : decode cX4_isCalm 63 = .ok (.aload_n 0, 1) := by decide +kernel
theorem dX4_isCalm_64 : decode cX4_isCalm 64 = .ok (.getfield 9, 3) := by decide +kernel
theorem dX4_isCalm_67 : decode cX4_isCalm 67 = .ok (.if_icmp .gt 7, 3) := by decide +kernel
theorem dX4_isCalm_70 : decode cX4_isCalm 70 = .ok (.iconst 1, 1) := by decide +kernel
theorem dX4_isCalm_71 : decode cX4_isCalm 71 = .ok (.goto 4, 3) := by decide +kernel
theorem dX4_isCalm_74 : decode cX4_isCalm 74 = .ok (.iconst 0, 1) := by decide +kernel
theorem dX4_isCalm_75 : decode cX4_isCalm 75 = .ok (.ireturn, 1) := by decide +kernel
theorem dX4_grossNow_0 : decode cX4_grossNow 0 = .ok (.aload_n 0, 1) := by decide +kernel
theorem dX4_grossNow_1 : decode cX4_grossNow 1 = .ok (.getfield 24, 3) := by decide +kernel
theorem dX4_grossNow_4 : decode cX4_grossNow 4 = .ok (.aload_n 0, 1) := by decide +kernel
theorem dX4_grossNow_5 : decode cX4_grossNow 5 = .ok (.getfield 39, 3) := by decide +kernel
theorem dX4_grossNow_8 : decode cX4_grossNow 8 = .ok (.isub, 1) := by decide +kernel
theorem dX4_grossNow_9 : decode cX4_grossNow 9 = .ok (.ireturn, 1) := by decide +kernel
theorem dX4_netNow_0 : decode cX4_netNow 0 = .ok (.aload_n 0, 1) := by decide +kernel
theorem dX4_netNow_1 : decode cX4_netNow 1 = .ok (.invokevirtual 42, 3) := by decide +kernel
theorem dX4_netNow_4 : decode cX4_netNow 4 = .ok (.aload_n 0, 1) := by decide +kernel
theorem dX4_netNow_5 : decode cX4_netNow 5 = .ok (.getfield 46, 3) := by decide +kernel
theorem dX4_netNow_8 : decode cX4_netNow 8 = .ok (.isub, 1) := by decide +kernel
theorem dX4_netNow_9 : decode cX4_netNow 9 = .ok (.ireturn, 1) := by decide +kernel
theorem dX4_trackZero_0 : decode cX4_trackZero 0 = .ok (.aload_n 0, 1) := by decide +kernel
theorem dX4_trackZero_1 : decode cX4_trackZero 1 = .ok (.invokevirtual 42, 3) := by decide +kernel
theorem dX4_trackZero_4 : decode cX4_trackZero 4 = .ok (.istore_n 1, 1) := by decide +kernel
theorem dX4_trackZero_5 : decode cX4_trackZero 5 = .ok (.iload_n 1, 1) := by decide +kernel
theorem dX4_trackZero_6 : decode cX4_trackZero 6 = .ok (.ifCond .eq 21, 3) := by decide +kernel
theorem dX4_trackZero_9 : decode cX4_trackZero 9 = .ok (.iload_n 1, 1) := by decide +kernel
theorem dX4_trackZero_10 : decode cX4_trackZero 10 = .ok (.bipush (-10), 2) := by decide +kernel
theorem dX4_trackZero_12 : decode cX4_trackZero 12 = .ok (.bipush 10, 2) := by decide +kernel
theorem dX4_trackZero_14 : decode cX4_trackZero 14 = .ok (.invokestatic 49, 3) := by decide +kernel
theorem dX4_trackZero_17 : decode cX4_trackZero 17 = .ok (.ifCond .eq 10, 3) := by decide +kernel
theorem dX4_trackZero_20 : decode cX4_trackZero 20 = .ok (.aload_n 0, 1) := by decide +kernel
theorem dX4_trackZero_21 : decode cX4_trackZero 21 = .ok (.invokevirtual 53, 3) := by decide +kernel
theorem dX4_trackZero_24 : decode cX4_trackZero 24 = .ok (.ifCond .ne 4, 3) := by decide +kernel
theorem dX4_trackZero_27 : decode cX4_trackZero 27 = .ok (.return_, 1) := by decide +kernel
theorem dX4_trackZero_28 : decode cX4_trackZero 28 = .ok (.aload_n 0, 1) := by decide +kernel
theorem dX4_trackZero_29 : decode cX4_trackZero 29 = .ok (.getfield 39, 3) := by decide +kernel
theorem dX4_trackZero_32 : decode cX4_trackZero 32 = .ok (.iload_n 1, 1) := by decide +kernel
theorem dX4_trackZero_33 : decode cX4_trackZero 33 = .ok (.ifCond .le 7, 3) := by decide +kernel
theorem dX4_trackZero_36 : decode cX4_trackZero 36 = .ok (.iconst 1, 1) := by decide +kernel
theorem dX4_trackZero_37 : decode cX4_trackZero 37 = .ok (.goto 4, 3) := by decide +kernel
theorem dX4_trackZero_40 : decode cX4_trackZero 40 = .ok (.iconst (-1), 1) := by decide +kernel
theorem dX4_trackZero_41 : decode cX4_trackZero 41 = .ok (.iadd, 1) := by decide +kernel
theorem dX4_trackZero_42 : decode cX4_trackZero 42 = .ok (.istore_n 2, 1) := by decide +kernel
theorem dX4_trackZero_43 : decode cX4_trackZero 43 = .ok (.iload_n 2, 1) := by decide +kernel
theorem dX4_trackZero_44 : decode cX4_trackZero 44 = .ok (.sipush (-500), 3) := by decide +kernel
theorem dX4_trackZero_47 : decode cX4_trackZero 47 = .ok (.sipush 500, 3) := by decide +kernel
theorem dX4_trackZero_50 : decode cX4_trackZero 50 = .ok (.invokestatic 49, 3) := by decide +kernel
theorem dX4_trackZero_53 : decode cX4_trackZero 53 = .ok (.ifCond .eq 8, 3) := by decide +kernel
theorem dX4_trackZero_56 : decode cX4_trackZero 56 = .ok (.aload_n 0, 1) := by decide +kernel
theorem dX4_trackZero_57 : decode cX4_trackZero 57 = .ok (.iload_n 2, 1) := by decide +kernel
theorem dX4_trackZero_58 : decode cX4_trackZero 58 = .ok (.putfield 39, 3) := by decide +kernel
theorem dX4_trackZero_61 : decode cX4_trackZero 61 = .ok (.return_, 1) := by decide +kernel
theorem dX5_init_0 : decode cX5_init 0 = .ok (.aload_n 0, 1) := by decide +kernel
theorem dX5_init_1 : decode cX5_init 1 = .ok (.invokespecial 1, 3) := by decide +kernel
theorem dX5_init_4 : decode cX5_init 4 = .ok (.aload_n 0, 1) := by decide +kernel
theorem dX5_init_5 : decode cX5_init 5 = .ok (.new 7, 3) := by decide +kernel
theorem dX5_init_8 : decode cX5_init 8 = .ok (.dup, 1) := by decide +kernel
theorem dX5_init_9 : decode cX5_init 9 = .ok (.invokespecial 9, 3) := by decide +kernel
theorem dX5_init_12 : decode cX5_init 12 = .ok (.putfield 10, 3) := by decide +kernel
theorem dX5_init_15 : decode cX5_init 15 = .ok (.aload_n 0, 1) := by decide +kernel
theorem dX5_init_16 : decode cX5_init 16 = .ok (.aload_n 0, 1) := by decide +kernel
theorem dX5_init_17 : decode cX5_init 17 = .ok (.getfield 10, 3) := by decide +kernel
theorem dX5_init_20 : decode cX5_init 20 = .ok (.getfield 16, 3) := by decide +kernel
theorem dX5_init_23 : decode cX5_init 23 = .ok (.putfield 20, 3) := by decide +kernel
theorem dX5_init_26 : decode cX5_init 26 = .ok (.aload_n 0, 1) := by decide +kernel
theorem dX5_init_27 : decode cX5_init 27 = .ok (.aload_n 0, 1) := by decide +kernel
theorem dX5_init_28 : decode cX5_init 28 = .ok (.getfield 10, 3) := by decide +kernel
theorem dX5_init_31 : decode cX5_init 31 = .ok (.getfield 21, 3) := by decide +kernel
theorem dX5_init_34 : decode cX5_init 34 = .ok (.putfield 25, 3) := by decide +kernel
theorem dX5_init_37 : decode cX5_init 37 = .ok (.aload_n 0, 1) := by decide +kernel
theorem dX5_init_38 : decode cX5_init 38 = .ok (.aload_n 0, 1) := by decide +kernel
theorem dX5_init_39 : decode cX5_init 39 = .ok (.getfield 10, 3) := by decide +kernel
theorem dX5_init_42 : decode cX5_init 42 = .ok (.getfield 26, 3) := by decide +kernel
theorem dX5_init_45 : decode cX5_init 45 = .ok (.putfield 30, 3) := by decide +kernel
theorem dX5_init_48 : decode cX5_init 48 = .ok (.aload_n 0, 1) := by decide +kernel
theorem dX5_init_49 : decode cX5_init 49 = .ok (.aload_n 0, 1) := by decide +kernel
theorem dX5_init_50 : decode cX5_init 50 = .ok (.getfield 10, 3) := by decide +kernel
theorem dX5_init_53 : decode cX5_init 53 = .ok (.getfield 31, 3) := by decide +kernel
theorem dX5_init_56 : decode cX5_init 56 = .ok (.putfield 35, 3) := by decide +kernel
theorem dX5_init_59 : decode cX5_init 59 = .ok (.return_, 1) := by decide +kernel
theorem dX5_tick_0 : decode cX5_tick 0 = .ok (.iload_n 1, 1) := by decide +kernel
theorem dX5_tick_1 : decode cX5_tick 1 = .ok (.invokestatic 36, 3) := by decide +kernel
theorem dX5_tick_4 : decode cX5_tick 4 = .ok (.aload_n 0, 1) := by decide +kernel
theorem dX5_tick_5 : decode cX5_tick 5 = .ok (.getfield 10, 3) := by decide +kernel
theorem dX5_tick_8 : decode cX5_tick 8 = .ok (.iload_n 1, 1) := by decide +kernel
theorem dX5_tick_9 : decode cX5_tick 9 = .ok (.invokevirtual 40, 3) := by decide +kernel
theorem dX5_tick_12 : decode cX5_tick 12 = .ok (.aload_n 0, 1) := by decide +kernel
theorem dX5_tick_13 : decode cX5_tick 13 = .ok (.getfield 10, 3) := by decide +kernel
theorem dX5_tick_16 : decode cX5_tick 16 = .ok (.getfield 43, 3) := by decide +kernel
theorem dX5_tick_19 : decode cX5_tick 19 = .ok (.ireturn, 1) := by decide +kernel
theorem dX5_ticks_0 : decode cX5_ticks 0 = .ok (.iload_n 1, 1) := by decide +kernel
theorem dX5_ticks_1 : decode cX5_ticks 1 = .ok (.invokestatic 36, 3) := by decide +kernel
theorem dX5_ticks_4 : decode cX5_ticks 4 = .ok (.iload_n 2, 1) := by decide +kernel
theorem dX5_ticks_5 : decode cX5_ticks 5 = .ok (.iconst 1, 1) := by decide +kernel
theorem dX5_ticks_6 : decode cX5_ticks 6 = .ok (.bipush 50, 2) := by decide +kernel
theorem dX5_ticks_8 : decode cX5_ticks 8 = .ok (.invokestatic 47, 3) := by decide +kernel
theorem dX5_ticks_11 : decode cX5_ticks 11 = .ok (.invokestatic 51, 3) := by decide +kernel
theorem dX5_ticks_14 : decode cX5_ticks 14 = .ok (.iconst 0, 1) := by decide +kernel
theorem dX5_ticks_15 : decode cX5_ticks 15 = .ok (.istore_n 3, 1) := by decide +kernel
theorem dX5_ticks_16 : decode cX5_ticks 16 = .ok (.iload_n 3, 1) := by decide +kernel
theorem dX5_ticks_17 : decode cX5_ticks 17 = .ok (.iload_n 2, 1) := by decide +kernel
theorem dX5_ticks_18 : decode cX5_ticks 18 = .ok (.if_icmp .ge 17, 3) := by decide +kernel
theorem dX5_ticks_21 : decode cX5_ticks 21 = .ok (.aload_n 0, 1) := by decide +kernel
theorem dX5_ticks_22 : decode cX5_ticks 22 = .ok (.getfield 10, 3) := by decide +kernel
theorem dX5_ticks_25 : decode cX5_ticks 25 = .ok (.iload_n 1, 1) := by decide +kernel
theorem dX5_ticks_26 : decode cX5_ticks 26 = .ok (.invokevirtual 40, 3) := by decide +kernel
theorem dX5_ticks_29 : decode cX5_ticks 29 = .ok (.iinc 3 1, 3) := by decide +kernel
theorem dX5_ticks_32 : decode cX5_ticks 32 = .ok (.goto (-16), 3) := by decide +kernel
theorem dX5_ticks_35 : decode cX5_ticks 35 = .ok (.aload_n 0, 1) := by decide +kernel
theorem dX5_ticks_36 : decode cX5_ticks 36 = .ok (.getfield 10, 3) := by decide +kernel
theorem dX5_ticks_39 : decode cX5_ticks 39 = .ok (.getfield 43, 3) := by decide +kernel
theorem dX5_ticks_42 : decode cX5_ticks 42 = .ok (.ireturn, 1) := by decide +kernel
theorem dX5_zero_0 : decode cX5_zero 0 = .ok (.aload_n 0, 1) := by decide +kernel
theorem dX5_zero_1 : decode cX5_zero 1 = .ok (.getfield 10, 3) := by decide +kernel
theorem dX5_zero_4 : decode cX5_zero 4 = .ok (.getfield 43, 3) := by decide +kernel
theorem dX5_zero_7 : decode cX5_zero 7 = .ok (.ifCond .ne 17, 3) := by decide +kernel
theorem dX5_zero_10 : decode cX5_zero 10 = .ok (.aload_n 0, 1) := by decide +kernel
theorem dX5_zero_11 : decode cX5_zero 11 = .ok (.getfield 20, 3) := by decide +kernel
theorem dX5_zero_14 : decode cX5_zero 14 = .ok (.invokevirtual 55, 3) := by decide +kernel
theorem dX5_zero_17 : decode cX5_zero 17 = .ok (.ifCond .eq 7, 3) := by decide +kernel
theorem dX5_zero_20 : decode cX5_zero 20 = .ok (.iconst 1, 1) := by decide +kernel
theorem dX5_zero_21 : decode cX5_zero 21 = .ok (.goto 4, 3) := by decide +kernel
theorem dX5_zero_24 : decode cX5_zero 24 = .ok (.iconst 0, 1) := by decide +kernel
theorem dX5_zero_25 : decode cX5_zero 25 = .ok (.invokestatic 61, 3) := by decide +kernel
theorem dX5_zero_28 : decode cX5_zero 28 = .ok (.aload_n 0, 1) := by decide +kernel
theorem dX5_zero_29 : decode cX5_zero 29 = .ok (.getfield 20, 3) := by decide +kernel
theorem dX5_zero_32 : decode cX5_zero 32 = .ok (.getfield 64, 3) := by decide +kernel
theorem dX5_zero_35 : decode cX5_zero 35 = .ok (.sipush (-500), 3) := by decide +kernel
theorem dX5_zero_38 : decode cX5_zero 38 = .ok (.sipush 500, 3) := by decide +kernel
theorem dX5_zero_41 : decode cX5_zero 41 = .ok (.invokestatic 47, 3) := by decide +kernel
theorem dX5_zero_44 : decode cX5_zero 44 = .ok (.invokestatic 61, 3) := by decide +kernel
theorem dX5_zero_47 : decode cX5_zero 47 = .ok (.aload_n 0, 1) := by decide +kernel
theorem dX5_zero_48 : decode cX5_zero 48 = .ok (.getfield 20, 3) := by decide +kernel
theorem dX5_zero_51 : decode cX5_zero 51 = .ok (.getfield 67, 3) := by decide +kernel
theorem dX5_zero_54 : decode cX5_zero 54 = .ok (.istore_n 1, 1) := by decide +kernel
theorem dX5_zero_55 : decode cX5_zero 55 = .ok (.aload_n 0, 1) := by decide +kernel
theorem dX5_zero_56 : decode cX5_zero 56 = .ok (.getfield 20, 3) := by decide +kernel
theorem dX5_zero_59 : decode cX5_zero 59 = .ok (.aload_n 0, 1) := by decide +kernel
theorem dX5_zero_60 : decode cX5_zero 60 = .ok (.getfield 20, 3) := by decide +kernel
theorem dX5_zero_63 : decode cX5_zero 63 = .ok (.getfield 64, 3) := by decide +kernel
theorem dX5_zero_66 : decode cX5_zero 66 = .ok (.putfield 67, 3) := by decide +kernel
theorem dX5_zero_69 : decode cX5_zero 69 = .ok (.iload_n 1, 1) := by decide +kernel
theorem dX5_zero_70 : decode cX5_zero 70 = .ok (.ireturn, 1) := by decide +kernel
theorem dX5_setBand_0 : decode cX5_setBand 0 = .ok (.iload_n 1, 1) := by decide +kernel
theorem dX5_setBand_1 : decode cX5_setBand 1 = .ok (.iconst 0, 1) := by decide +kernel
theorem dX5_setBand_2 : decode cX5_setBand 2 = .ok (.bipush 50, 2) := by decide +kernel
theorem dX5_setBand_4 : decode cX5_setBand 4 = .ok (.invokestatic 47, 3) := by decide +kernel
theorem dX5_setBand_7 : decode cX5_setBand 7 = .ok (.invokestatic 51, 3) := by decide +kernel
theorem dX5_setBand_10 : decode cX5_setBand 10 = .ok (.aload_n 0, 1) := by decide +kernel
theorem dX5_setBand_11 : decode cX5_setBand 11 = .ok (.getfield 20, 3) := by decide +kernel
theorem dX5_setBand_14 : decode cX5_setBand 14 = .ok (.getfield 70, 3) := by decide +kernel
theorem dX5_setBand_17 : decode cX5_setBand 17 = .ok (.istore_n 2, 1) := by decide +kernel
theorem dX5_setBand_18 : decode cX5_setBand 18 = .ok (.aload_n 0, 1) := by decide +kernel
theorem dX5_setBand_19 : decode cX5_setBand 19 = .ok (.getfield 20, 3) := by decide +kernel
theorem dX5_setBand_22 : decode cX5_setBand 22 = .ok (.iload_n 1, 1) := by decide +kernel
theorem dX5_setBand_23 : decode cX5_setBand 23 = .ok (.putfield 70, 3) := by decide +kernel
theorem dX5_setBand_26 : decode cX5_setBand 26 = .ok (.iload_n 2, 1) := by decide +kernel
theorem dX5_setBand_27 : decode cX5_setBand 27 = .ok (.ireturn, 1) := by decide +kernel
theorem dX5_gross_0 : decode cX5_gross 0 = .ok (.aload_n 0, 1) := by decide +kernel
theorem dX5_gross_1 : decode cX5_gross 1 = .ok (.getfield 20, 3) := by decide +kernel
theorem dX5_gross_4 : decode cX5_gross 4 = .ok (.invokevirtual 73, 3) := by decide +kernel
theorem dX5_gross_7 : decode cX5_gross 7 = .ok (.ireturn, 1) := by decide +kernel
theorem dX5_net_0 : decode cX5_net 0 = .ok (.aload_n 0, 1) := by decide +kernel
theorem dX5_net_1 : decode cX5_net 1 = .ok (.getfield 20, 3) := by decide +kernel
theorem dX5_net_4 : decode cX5_net 4 = .ok (.invokevirtual 77, 3) := by decide +kernel
theorem dX5_net_7 : decode cX5_net 7 = .ok (.ireturn, 1) := by decide +kernel
theorem dX5_isSettled_0 : decode cX5_isSettled 0 = .ok (.aload_n 0, 1) := by decide +kernel
theorem dX5_isSettled_1 : decode cX5_isSettled 1 = .ok (.getfield 20, 3) := by decide +kernel
theorem dX5_isSettled_4 : decode cX5_isSettled 4 = .ok (.invokevirtual 55, 3) := by decide +kernel
theorem dX5_isSettled_7 : decode cX5_isSettled 7 = .ok (.ireturn, 1) := by decide +kernel
theorem dX5_fill_0 : decode cX5_fill 0 = .ok (.iload_n 1, 1) := by decide +kernel
theorem dX5_fill_1 : decode cX5_fill 1 = .ok (.invokestatic 80, 3) := by decide +kernel
theorem dX5_fill_4 : decode cX5_fill 4 = .ok (.iload_n 2, 1) := by decide +kernel
theorem dX5_fill_5 : decode cX5_fill 5 = .ok (.iconst 1, 1) := by decide +kernel
theorem dX5_fill_6 : decode cX5_fill 6 = .ok (.ldc 83, 2) := by decide +kernel
theorem dX5_fill_8 : decode cX5_fill 8 = .ok (.invokestatic 47, 3) := by decide +kernel
theorem dX5_fill_11 : decode cX5_fill 11 = .ok (.invokestatic 51, 3) := by decide +kernel
theorem dX5_fill_14 : decode cX5_fill 14 = .ok (.aload_n 0, 1) := by decide +kernel
theorem dX5_fill_15 : decode cX5_fill 15 = .ok (.getfield 30, 3) := by decide +kernel
theorem dX5_fill_18 : decode cX5_fill 18 = .ok (.getfield 84, 3) := by decide +kernel
theorem dX5_fill_21 : decode cX5_fill 21 = .ok (.bipush 30, 2) := by decide +kernel
theorem dX5_fill_23 : decode cX5_fill 23 = .ok (.if_icmp .ge 7, 3) := by decide +kernel
theorem dX5_fill_26 : decode cX5_fill 26 = .ok (.iconst 1, 1) := by decide +kernel
theorem dX5_fill_27 : decode cX5_fill 27 = .ok (.goto 4, 3) := by decide +kernel
theorem dX5_fill_30 : decode cX5_fill 30 = .ok (.iconst 0, 1) := by decide +kernel
theorem dX5_fill_31 : decode cX5_fill 31 = .ok (.invokestatic 61, 3) := by decide +kernel
theorem dX5_fill_34 : decode cX5_fill 34 = .ok (.aload_n 0, 1) := by decide +kernel
theorem dX5_fill_35 : decode cX5_fill 35 = .ok (.getfield 30, 3) := by decide +kernel
theorem dX5_fill_38 : decode cX5_fill 38 = .ok (.iload_n 1, 1) := by decide +kernel
theorem dX5_fill_39 : decode cX5_fill 39 = .ok (.iload_n 2, 1) := by decide +kernel
theorem dX5_fill_40 : decode cX5_fill 40 = .ok (.invokevirtual 89, 3) := by decide +kernel
theorem dX5_fill_43 : decode cX5_fill 43 = .ok (.ireturn, 1) := by decide +kernel
theorem dX5_setMargin_0 : decode cX5_setMargin 0 = .ok (.iload_n 1, 1) := by decide +kernel
theorem dX5_setMargin_1 : decode cX5_setMargin 1 = .ok (.invokestatic 80, 3) := by decide +kernel
theorem dX5_setMargin_4 : decode cX5_setMargin 4 = .ok (.iload_n 2, 1) := by decide +kernel
theorem dX5_setMargin_5 : decode cX5_setMargin 5 = .ok (.iconst 0, 1) := by decide +kernel
theorem dX5_setMargin_6 : decode cX5_setMargin 6 = .ok (.sipush 1000, 3) := by decide +kernel
theorem dX5_setMargin_9 : decode cX5_setMargin 9 = .ok (.invokestatic 47, 3) := by decide +kernel
theorem dX5_setMargin_12 : decode cX5_setMargin 12 = .ok (.invokestatic 51, 3) := by decide +kernel
theorem dX5_setMargin_15 : decode cX5_setMargin 15 = .ok (.aload_n 0, 1) := by decide +kernel
theorem dX5_setMargin_16 : decode cX5_setMargin 16 = .ok (.getfield 25, 3) := by decide +kernel
theorem dX5_setMargin_19 : decode cX5_setMargin 19 = .ok (.getfield 93, 3) := by decide +kernel
theorem dX5_setMargin_22 : decode cX5_setMargin 22 = .ok (.iload_n 1, 1) := by decide +kernel
theorem dX5_setMargin_23 : decode cX5_setMargin 23 = .ok (.invokestatic 99, 3) := by decide +kernel
theorem dX5_setMargin_26 : decode cX5_setMargin 26 = .ok (.istore_n 3, 1) := by decide +kernel
theorem dX5_setMargin_27 : decode cX5_setMargin 27 = .ok (.aload_n 0, 1) := by decide +kernel
theorem dX5_setMargin_28 : decode cX5_setMargin 28 = .ok (.getfield 25, 3) := by decide +kernel
theorem dX5_setMargin_31 : decode cX5_setMargin 31 = .ok (.getfield 93, 3) := by decide +kernel
theorem dX5_setMargin_34 : decode cX5_setMargin 34 = .ok (.iload_n 1, 1) := by decide +kernel
theorem dX5_setMargin_35 : decode cX5_setMargin 35 = .ok (.iload_n 2, 1) := by decide +kernel
theorem dX5_setMargin_36 : decode cX5_setMargin 36 = .ok (.invokestatic 103, 3) := by decide +kernel
theorem dX5_setMargin_39 : decode cX5_setMargin 39 = .ok (.iload_n 3, 1) := by decide +kernel
theorem dX5_setMargin_40 : decode cX5_setMargin 40 = .ok (.ireturn, 1) := by decide +kernel
theorem dX5_flight_0 : decode cX5_flight 0 = .ok (.iload_n 1, 1) := by decide +kernel
theorem dX5_flight_1 : decode cX5_flight 1 = .ok (.invokestatic 80, 3) := by decide +kernel
theorem dX5_flight_4 : decode cX5_flight 4 = .ok (.aload_n 0, 1) := by decide +kernel
theorem dX5_flight_5 : decode cX5_flight 5 = .ok (.getfield 25, 3) := by decide +kernel
theorem dX5_flight_8 : decode cX5_flight 8 = .ok (.getfield 107, 3) := by decide +kernel
theorem dX5_flight_11 : decode cX5_flight 11 = .ok (.iload_n 1, 1) := by decide +kernel
theorem dX5_flight_12 : decode cX5_flight 12 = .ok (.invokestatic 99, 3) := by decide +kernel
theorem dX5_flight_15 : decode cX5_flight 15 = .ok (.ireturn, 1) := by decide +kernel
theorem dX5_gate_0 : decode cX5_gate 0 = .ok (.iload_n 1, 1) := by decide +kernel
theorem dX5_gate_1 : decode cX5_gate 1 = .ok (.invokestatic 80, 3) := by decide +kernel
theorem dX5_gate_4 : decode cX5_gate 4 = .ok (.aload_n 0, 1) := by decide +kernel
theorem dX5_gate_5 : decode cX5_gate 5 = .ok (.getfield 10, 3) := by decide +kernel
theorem dX5_gate_8 : decode cX5_gate 8 = .ok (.iload_n 1, 1) := by decide +kernel
theorem dX5_gate_9 : decode cX5_gate 9 = .ok (.invokevirtual 110, 3) := by decide +kernel
theorem dX5_gate_12 : decode cX5_gate 12 = .ok (.ireturn, 1) := by decide +kernel
theorem dX5_stock_0 : decode cX5_stock 0 = .ok (.iload_n 1, 1) := by decide +kernel
theorem dX5_stock_1 : decode cX5_stock 1 = .ok (.invokestatic 80, 3) := by decide +kernel
theorem dX5_stock_4 : decode cX5_stock 4 = .ok (.aload_n 0, 1) := by decide +kernel
theorem dX5_stock_5 : decode cX5_stock 5 = .ok (.getfield 30, 3) := by decide +kernel
theorem dX5_stock_8 : decode cX5_stock 8 = .ok (.iload_n 1, 1) := by decide +kernel
theorem dX5_stock_9 : decode cX5_stock 9 = .ok (.invokevirtual 114, 3) := by decide +kernel
theorem dX5_stock_12 : decode cX5_stock 12 = .ok (.ireturn, 1) := by decide +kernel
theorem dX5_register_0 : decode cX5_register 0 = .ok (.iload_n 1, 1) := by decide +kernel
theorem dX5_register_1 : decode cX5_register 1 = .ok (.invokestatic 80, 3) := by decide +kernel
theorem dX5_register_4 : decode cX5_register 4 = .ok (.aload_n 0, 1) := by decide +kernel
theorem dX5_register_5 : decode cX5_register 5 = .ok (.getfield 25, 3) := by decide +kernel
theorem dX5_register_8 : decode cX5_register 8 = .ok (.getfield 117, 3) := by decide +kernel
theorem dX5_register_11 : decode cX5_register 11 = .ok (.iload_n 1, 1) := by decide +kernel
theorem dX5_register_12 : decode cX5_register 12 = .ok (.invokestatic 99, 3) := by decide +kernel
theorem dX5_register_15 : decode cX5_register 15 = .ok (.ireturn, 1) := by decide +kernel
theorem dX5_registerByLots_0 : decode cX5_registerByLots 0 = .ok (.iload_n 1, 1) := by decide +kernel
theorem dX5_registerByLots_1 : decode cX5_registerByLots 1 = .ok (.invokestatic 80, 3) := by decide +kernel
theorem dX5_registerByLots_4 : decode cX5_registerByLots 4 = .ok (.aload_n 0, 1) := by decide +kernel
theorem dX5_registerByLots_5 : decode cX5_registerByLots 5 = .ok (.getfield 30, 3) := by decide +kernel
theorem dX5_registerByLots_8 : decode cX5_registerByLots 8 = .ok (.iload_n 1, 1) := by decide +kernel
theorem dX5_registerByLots_9 : decode cX5_registerByLots 9 = .ok (.invokevirtual 120, 3) := by decide +kernel
theorem dX5_registerByLots_12 : decode cX5_registerByLots 12 = .ok (.aload_n 0, 1) := by decide +kernel
theorem dX5_registerByLots_13 : decode cX5_registerByLots 13 = .ok (.getfield 25, 3) := by decide +kernel
theorem dX5_registerByLots_16 : decode cX5_registerByLots 16 = .ok (.getfield 123, 3) := by decide +kernel
theorem dX5_registerByLots_19 : decode cX5_registerByLots 19 = .ok (.iload_n 1, 1) := by decide +kernel
theorem dX5_registerByLots_20 : decode cX5_registerByLots 20 = .ok (.invokestatic 99, 3) := by decide +kernel
theorem dX5_registerByLots_23 : decode cX5_registerByLots 23 = .ok (.iadd, 1) := by decide +kernel
theorem dX5_registerByLots_24 : decode cX5_registerByLots 24 = .ok (.ireturn, 1) := by decide +kernel
theorem dX5_leftOf_0 : decode cX5_leftOf 0 = .ok (.aload_n 0, 1) := by decide +kernel
theorem dX5_leftOf_1 : decode cX5_leftOf 1 = .ok (.iload_n 1, 1) := by decide +kernel
theorem dX5_leftOf_2 : decode cX5_leftOf 2 = .ok (.invokevirtual 126, 3) := by decide +kernel
theorem dX5_leftOf_5 : decode cX5_leftOf 5 = .ok (.aload_n 0, 1) := by decide +kernel
theorem dX5_leftOf_6 : decode cX5_leftOf 6 = .ok (.getfield 30, 3) := by decide +kernel
theorem dX5_leftOf_9 : decode cX5_leftOf 9 = .ok (.getfield 129, 3) := by decide +kernel
theorem dX5_leftOf_12 : decode cX5_leftOf 12 = .ok (.iload_n 1, 1) := by decide +kernel
theorem dX5_leftOf_13 : decode cX5_leftOf 13 = .ok (.invokestatic 99, 3) := by decide +kernel
theorem dX5_leftOf_16 : decode cX5_leftOf 16 = .ok (.ireturn, 1) := by decide +kernel
theorem dX5_firstBatch_0 : decode cX5_firstBatch 0 = .ok (.aload_n 0, 1) := by decide +kernel
theorem dX5_firstBatch_1 : decode cX5_firstBatch 1 = .ok (.iload_n 1, 1) := by decide +kernel
theorem dX5_firstBatch_2 : decode cX5_firstBatch 2 = .ok (.invokevirtual 126, 3) := by decide +kernel
theorem dX5_firstBatch_5 : decode cX5_firstBatch 5 = .ok (.aload_n 0, 1) := by decide +kernel
theorem dX5_firstBatch_6 : decode cX5_firstBatch 6 = .ok (.getfield 30, 3) := by decide +kernel
theorem dX5_firstBatch_9 : decode cX5_firstBatch 9 = .ok (.iload_n 1, 1) := by decide +kernel
theorem dX5_firstBatch_10 : decode cX5_firstBatch 10 = .ok (.aload_n 0, 1) := by decide +kernel
theorem dX5_firstBatch_11 : decode cX5_firstBatch 11 = .ok (.getfield 10, 3) := by decide +kernel
theorem dX5_firstBatch_14 : decode cX5_firstBatch 14 = .ok (.getfield 132, 3) := by decide +kernel
theorem dX5_firstBatch_17 : decode cX5_firstBatch 17 = .ok (.invokevirtual 135, 3) := by decide +kernel
theorem dX5_firstBatch_20 : decode cX5_firstBatch 20 = .ok (.ireturn, 1) := by decide +kernel
theorem dX5_used_0 : decode cX5_used 0 = .ok (.aload_n 0, 1) := by decide +kernel
theorem dX5_used_1 : decode cX5_used 1 = .ok (.iload_n 1, 1) := by decide +kernel
theorem dX5_used_2 : decode cX5_used 2 = .ok (.invokevirtual 126, 3) := by decide +kernel
theorem dX5_used_5 : decode cX5_used 5 = .ok (.aload_n 0, 1) := by decide +kernel
theorem dX5_used_6 : decode cX5_used 6 = .ok (.iload_n 2, 1) := by decide +kernel
theorem dX5_used_7 : decode cX5_used 7 = .ok (.invokevirtual 138, 3) := by decide +kernel
theorem dX5_used_10 : decode cX5_used 10 = .ok (.aload_n 0, 1) := by decide +kernel
theorem dX5_used_11 : decode cX5_used 11 = .ok (.getfield 30, 3) := by decide +kernel
theorem dX5_used_14 : decode cX5_used 14 = .ok (.iload_n 1, 1) := by decide +kernel
theorem dX5_used_15 : decode cX5_used 15 = .ok (.iload_n 2, 1) := by decide +kernel
theorem dX5_used_16 : decode cX5_used 16 = .ok (.invokevirtual 141, 3) := by decide +kernel
theorem dX5_used_19 : decode cX5_used 19 = .ok (.ireturn, 1) := by decide +kernel
theorem dX5_addStep_0 : decode cX5_addStep 0 = .ok (.iload_n 1, 1) := by decide +kernel
theorem dX5_addStep_1 : decode cX5_addStep 1 = .ok (.invokestatic 80, 3) := by decide +kernel
theorem dX5_addStep_4 : decode cX5_addStep 4 = .ok (.iload_n 2, 1) := by decide +kernel
theorem dX5_addStep_5 : decode cX5_addStep 5 = .ok (.iconst 1, 1) := by decide +kernel
theorem dX5_addStep_6 : decode cX5_addStep 6 = .ok (.sipush 10000, 3) := by decide +kernel
theorem dX5_addStep_9 : decode cX5_addStep 9 = .ok (.invokestatic 47, 3) := by decide +kernel
theorem dX5_addStep_12 : decode cX5_addStep 12 = .ok (.ifCond .eq 18, 3) := by decide +kernel
theorem dX5_addStep_15 : decode cX5_addStep 15 = .ok (.iload_n 3, 1) := by decide +kernel
theorem dX5_addStep_16 : decode cX5_addStep 16 = .ok (.iconst 0, 1) := by decide +kernel
theorem dX5_addStep_17 : decode cX5_addStep 17 = .ok (.sipush 1000, 3) := by decide +kernel
theorem dX5_addStep_20 : decode cX5_addStep 20 = .ok (.invokestatic 47, 3) := by decide +kernel
theorem dX5_addStep_23 : decode cX5_addStep 23 = .ok (.ifCond .eq 7, 3) := by decide +kernel
theorem dX5_addStep_26 : decode cX5_addStep 26 = .ok (.iconst 1, 1) := by decide +kernel
theorem dX5_addStep_27 : decode cX5_addStep 27 = .ok (.goto 4, 3) := by decide +kernel
theorem dX5_addStep_30 : decode cX5_addStep 30 = .ok (.iconst 0, 1) := by decide +kernel
theorem dX5_addStep_31 : decode cX5_addStep 31 = .ok (.invokestatic 51, 3) := by decide +kernel
theorem dX5_addStep_34 : decode cX5_addStep 34 = .ok (.aload_n 0, 1) := by decide +kernel
theorem dX5_addStep_35 : decode cX5_addStep 35 = .ok (.getfield 10, 3) := by decide +kernel
theorem dX5_addStep_38 : decode cX5_addStep 38 = .ok (.getfield 43, 3) := by decide +kernel
theorem dX5_addStep_41 : decode cX5_addStep 41 = .ok (.ifCond .ne 19, 3) := by decide +kernel
theorem dX5_addStep_44 : decode cX5_addStep 44 = .ok (.aload_n 0, 1) := by decide +kernel
theorem dX5_addStep_45 : decode cX5_addStep 45 = .ok (.getfield 35, 3) := by decide +kernel
theorem dX5_addStep_48 : decode cX5_addStep 48 = .ok (.getfield 144, 3) := by decide +kernel
theorem dX5_addStep_51 : decode cX5_addStep 51 = .ok (.bipush 6, 2) := by decide +kernel
theorem dX5_addStep_53 : decode cX5_addStep 53 = .ok (.if_icmp .ge 7, 3) := by decide +kernel
theorem dX5_addStep_56 : decode cX5_addStep 56 = .ok (.iconst 1, 1) := by decide +kernel
theorem dX5_addStep_57 : decode cX5_addStep 57 = .ok (.goto 4, 3) := by decide +kernel
theorem dX5_addStep_60 : decode cX5_addStep 60 = .ok (.iconst 0, 1) := by decide +kernel
theorem dX5_addStep_61 : decode cX5_addStep 61 = .ok (.invokestatic 61, 3) := by decide +kernel
theorem dX5_addStep_64 : decode cX5_addStep 64 = .ok (.aload_n 0, 1) := by decide +kernel
theorem dX5_addStep_65 : decode cX5_addStep 65 = .ok (.getfield 35, 3) := by decide +kernel
theorem dX5_addStep_68 : decode cX5_addStep 68 = .ok (.iload_n 1, 1) := by decide +kernel
theorem dX5_addStep_69 : decode cX5_addStep 69 = .ok (.iload_n 2, 1) := by decide +kernel
theorem dX5_addStep_70 : decode cX5_addStep 70 = .ok (.iload_n 3, 1) := by decide +kernel
theorem dX5_addStep_71 : decode cX5_addStep 71 = .ok (.invokevirtual 147, 3) := by decide +kernel
theorem dX5_addStep_74 : decode cX5_addStep 74 = .ok (.aload_n 0, 1) := by decide +kernel
theorem dX5_addStep_75 : decode cX5_addStep 75 = .ok (.getfield 35, 3) := by decide +kernel
theorem dX5_addStep_78 : decode cX5_addStep 78 = .ok (.getfield 144, 3) := by decide +kernel
theorem dX5_addStep_81 : decode cX5_addStep 81 = .ok (.ireturn, 1) := by decide +kernel
theorem dX5_start_0 : decode cX5_start 0 = .ok (.aload_n 0, 1) := by decide +kernel
theorem dX5_start_1 : decode cX5_start 1 = .ok (.getfield 10, 3) := by decide +kernel
theorem dX5_start_4 : decode cX5_start 4 = .ok (.getfield 43, 3) := by decide +kernel
theorem dX5_start_7 : decode cX5_start 7 = .ok (.ifCond .ne 29, 3) := by decide +kernel
theorem dX5_start_10 : decode cX5_start 10 = .ok (.aload_n 0, 1) := by decide +kernel
theorem dX5_start_11 : decode cX5_start 11 = .ok (.getfield 35, 3) := by decide +kernel
theorem dX5_start_14 : decode cX5_start 14 = .ok (.getfield 144, 3) := by decide +kernel
theorem dX5_start_17 : decode cX5_start 17 = .ok (.ifCond .le 19, 3) := by decide +kernel
theorem dX5_start_20 : decode cX5_start 20 = .ok (.aload_n 0, 1) := by decide +kernel
theorem dX5_start_21 : decode cX5_start 21 = .ok (.getfield 10, 3) := by decide +kernel
theorem dX5_start_24 : decode cX5_start 24 = .ok (.getfield 132, 3) := by decide +kernel
theorem dX5_start_27 : decode cX5_start 27 = .ok (.bipush 20, 2) := by decide +kernel
theorem dX5_start_29 : decode cX5_start 29 = .ok (.if_icmp .ge 7, 3) := by decide +kernel
theorem dX5_start_32 : decode cX5_start 32 = .ok (.iconst 1, 1) := by decide +kernel
theorem dX5_start_33 : decode cX5_start 33 = .ok (.goto 4, 3) := by decide +kernel
theorem dX5_start_36 : decode cX5_start 36 = .ok (.iconst 0, 1) := by decide +kernel
theorem dX5_start_37 : decode cX5_start 37 = .ok (.invokestatic 61, 3) := by decide +kernel
theorem dX5_start_40 : decode cX5_start 40 = .ok (.aload_n 0, 1) := by decide +kernel
theorem dX5_start_41 : decode cX5_start 41 = .ok (.getfield 10, 3) := by decide +kernel
theorem dX5_start_44 : decode cX5_start 44 = .ok (.invokevirtual 151, 3) := by decide +kernel
theorem dX5_start_47 : decode cX5_start 47 = .ok (.ireturn, 1) := by decide +kernel
theorem dX5_hold_0 : decode cX5_hold 0 = .ok (.aload_n 0, 1) := by decide +kernel
theorem dX5_hold_1 : decode cX5_hold 1 = .ok (.getfield 10, 3) := by decide +kernel
theorem dX5_hold_4 : decode cX5_hold 4 = .ok (.getfield 43, 3) := by decide +kernel
theorem dX5_hold_7 : decode cX5_hold 7 = .ok (.ifCond .eq 19, 3) := by decide +kernel
theorem dX5_hold_10 : decode cX5_hold 10 = .ok (.aload_n 0, 1) := by decide +kernel
theorem dX5_hold_11 : decode cX5_hold 11 = .ok (.getfield 10, 3) := by decide +kernel
theorem dX5_hold_14 : decode cX5_hold 14 = .ok (.getfield 43, 3) := by decide +kernel
theorem dX5_hold_17 : decode cX5_hold 17 = .ok (.bipush 6, 2) := by decide +kernel
theorem dX5_hold_19 : decode cX5_hold 19 = .ok (.if_icmp .eq 7, 3) := by decide +kernel
theorem dX5_hold_22 : decode cX5_hold 22 = .ok (.iconst 1, 1) := by decide +kernel
theorem dX5_hold_23 : decode cX5_hold 23 = .ok (.goto 4, 3) := by decide +kernel
theorem dX5_hold_26 : decode cX5_hold 26 = .ok (.iconst 0, 1) := by decide +kernel
theorem dX5_hold_27 : decode cX5_hold 27 = .ok (.invokestatic 61, 3) := by decide +kernel
theorem dX5_hold_30 : decode cX5_hold 30 = .ok (.aload_n 0, 1) := by decide +kernel
theorem dX5_hold_31 : decode cX5_hold 31 = .ok (.getfield 10, 3) := by decide +kernel
theorem dX5_hold_34 : decode cX5_hold 34 = .ok (.iconst 0, 1) := by decide +kernel
theorem dX5_hold_35 : decode cX5_hold 35 = .ok (.invokevirtual 154, 3) := by decide +kernel
theorem dX5_hold_38 : decode cX5_hold 38 = .ok (.aload_n 0, 1) := by decide +kernel
theorem dX5_hold_39 : decode cX5_hold 39 = .ok (.getfield 10, 3) := by decide +kernel
theorem dX5_hold_42 : decode cX5_hold 42 = .ok (.getfield 157, 3) := by decide +kernel
theorem dX5_hold_45 : decode cX5_hold 45 = .ok (.ireturn, 1) := by decide +kernel
theorem dX5_resume_0 : decode cX5_resume 0 = .ok (.aload_n 0, 1) := by decide +kernel
theorem dX5_resume_1 : decode cX5_resume 1 = .ok (.getfield 10, 3) := by decide +kernel
theorem dX5_resume_4 : decode cX5_resume 4 = .ok (.getfield 43, 3) := by decide +kernel
theorem dX5_resume_7 : decode cX5_resume 7 = .ok (.bipush 6, 2) := by decide +kernel
theorem dX5_resume_9 : decode cX5_resume 9 = .ok (.if_icmp .ne 7, 3) := by decide +kernel
theorem dX5_resume_12 : decode cX5_resume 12 = .ok (.iconst 1, 1) := by decide +kernel
theorem dX5_resume_13 : decode cX5_resume 13 = .ok (.goto 4, 3) := by decide +kernel
theorem dX5_resume_16 : decode cX5_resume 16 = .ok (.iconst 0, 1) := by decide +kernel
theorem dX5_resume_17 : decode cX5_resume 17 = .ok (.invokestatic 61, 3) := by decide +kernel
theorem dX5_resume_20 : decode cX5_resume 20 = .ok (.aload_n 0, 1) := by decide +kernel
theorem dX5_resume_21 : decode cX5_resume 21 = .ok (.getfield 10, 3) := by decide +kernel
theorem dX5_resume_24 : decode cX5_resume 24 = .ok (.invokevirtual 160, 3) := by decide +kernel
theorem dX5_resume_27 : decode cX5_resume 27 = .ok (.aload_n 0, 1) := by decide +kernel
theorem dX5_resume_28 : decode cX5_resume 28 = .ok (.getfield 10, 3) := by decide +kernel
theorem dX5_resume_31 : decode cX5_resume 31 = .ok (.getfield 43, 3) := by decide +kernel
theorem dX5_resume_34 : decode cX5_resume 34 = .ok (.ireturn, 1) := by decide +kernel
theorem dX5_abort_0 : decode cX5_abort 0 = .ok (.aload_n 0, 1) := by decide +kernel
theorem dX5_abort_1 : decode cX5_abort 1 = .ok (.getfield 10, 3) := by decide +kernel
theorem dX5_abort_4 : decode cX5_abort 4 = .ok (.getfield 43, 3) := by decide +kernel
theorem dX5_abort_7 : decode cX5_abort 7 = .ok (.ifCond .eq 7, 3) := by decide +kernel
theorem dX5_abort_10 : decode cX5_abort 10 = .ok (.iconst 1, 1) := by decide +kernel
theorem dX5_abort_11 : decode cX5_abort 11 = .ok (.goto 4, 3) := by decide +kernel
theorem dX5_abort_14 : decode cX5_abort 14 = .ok (.iconst 0, 1) := by decide +kernel
theorem dX5_abort_15 : decode cX5_abort 15 = .ok (.invokestatic 61, 3) := by decide +kernel
theorem dX5_abort_18 : decode cX5_abort 18 = .ok (.aload_n 0, 1) := by decide +kernel
theorem dX5_abort_19 : decode cX5_abort 19 = .ok (.getfield 10, 3) := by decide +kernel
theorem dX5_abort_22 : decode cX5_abort 22 = .ok (.invokevirtual 163, 3) := by decide +kernel
theorem dX5_abort_25 : decode cX5_abort 25 = .ok (.ireturn, 1) := by decide +kernel
theorem dX5_state_0 : decode cX5_state 0 = .ok (.aload_n 0, 1) := by decide +kernel
theorem dX5_state_1 : decode cX5_state 1 = .ok (.getfield 10, 3) := by decide +kernel
theorem dX5_state_4 : decode cX5_state 4 = .ok (.getfield 43, 3) := by decide +kernel
theorem dX5_state_7 : decode cX5_state 7 = .ok (.ireturn, 1) := by decide +kernel
theorem dX5_alarm_0 : decode cX5_alarm 0 = .ok (.aload_n 0, 1) := by decide +kernel
theorem dX5_alarm_1 : decode cX5_alarm 1 = .ok (.getfield 10, 3) := by decide +kernel
theorem dX5_alarm_4 : decode cX5_alarm 4 = .ok (.getfield 166, 3) := by decide +kernel
theorem dX5_alarm_7 : decode cX5_alarm 7 = .ok (.ireturn, 1) := by decide +kernel
theorem dX5_step_0 : decode cX5_step 0 = .ok (.aload_n 0, 1) := by decide +kernel
theorem dX5_step_1 : decode cX5_step 1 = .ok (.getfield 10, 3) := by decide +kernel
theorem dX5_step_4 : decode cX5_step 4 = .ok (.getfield 43, 3) := by decide +kernel
theorem dX5_step_7 : decode cX5_step 7 = .ok (.ifCond .ne 7, 3) := by decide +kernel
theorem dX5_step_10 : decode cX5_step 10 = .ok (.iconst (-1), 1) := by decide +kernel
theorem dX5_step_11 : decode cX5_step 11 = .ok (.goto 10, 3) := by decide +kernel
theorem dX5_step_14 : decode cX5_step 14 = .ok (.aload_n 0, 1) := by decide +kernel
theorem dX5_step_15 : decode cX5_step 15 = .ok (.getfield 10, 3) := by decide +kernel
theorem dX5_step_18 : decode cX5_step 18 = .ok (.getfield 169, 3) := by decide +kernel
theorem dX5_step_21 : decode cX5_step 21 = .ok (.ireturn, 1) := by decide +kernel
theorem dX5_jogs_0 : decode cX5_jogs 0 = .ok (.aload_n 0, 1) := by decide +kernel
theorem dX5_jogs_1 : decode cX5_jogs 1 = .ok (.getfield 10, 3) := by decide +kernel
theorem dX5_jogs_4 : decode cX5_jogs 4 = .ok (.getfield 43, 3) := by decide +kernel
theorem dX5_jogs_7 : decode cX5_jogs 7 = .ok (.ifCond .ne 7, 3) := by decide +kernel
theorem dX5_jogs_10 : decode cX5_jogs 10 = .ok (.iconst 0, 1) := by decide +kernel
theorem dX5_jogs_11 : decode cX5_jogs 11 = .ok (.goto 10, 3) := by decide +kernel
theorem dX5_jogs_14 : decode cX5_jogs 14 = .ok (.aload_n 0, 1) := by decide +kernel
theorem dX5_jogs_15 : decode cX5_jogs 15 = .ok (.getfield 10, 3) := by decide +kernel
theorem dX5_jogs_18 : decode cX5_jogs 18 = .ok (.getfield 172, 3) := by decide +kernel
theorem dX5_jogs_21 : decode cX5_jogs 21 = .ok (.ireturn, 1) := by decide +kernel
theorem dX5_batches_0 : decode cX5_batches 0 = .ok (.aload_n 0, 1) := by decide +kernel
theorem dX5_batches_1 : decode cX5_batches 1 = .ok (.getfield 10, 3) := by decide +kernel
theorem dX5_batches_4 : decode cX5_batches 4 = .ok (.getfield 132, 3) := by decide +kernel
theorem dX5_batches_7 : decode cX5_batches 7 = .ok (.ireturn, 1) := by decide +kernel
theorem dX5_done_0 : decode cX5_done 0 = .ok (.aload_n 0, 1) := by decide +kernel
theorem dX5_done_1 : decode cX5_done 1 = .ok (.getfield 10, 3) := by decide +kernel
theorem dX5_done_4 : decode cX5_done 4 = .ok (.getfield 175, 3) := by decide +kernel
theorem dX5_done_7 : decode cX5_done 7 = .ok (.ireturn, 1) := by decide +kernel
theorem dX5_belt_0 : decode cX5_belt 0 = .ok (.iload_n 1, 1) := by decide +kernel
theorem dX5_belt_1 : decode cX5_belt 1 = .ok (.iconst 0, 1) := by decide +kernel
theorem dX5_belt_2 : decode cX5_belt 2 = .ok (.sipush 10000, 3) := by decide +kernel
theorem dX5_belt_5 : decode cX5_belt 5 = .ok (.invokestatic 47, 3) := by decide +kernel
theorem dX5_belt_8 : decode cX5_belt 8 = .ok (.ifCond .eq 18, 3) := by decide +kernel
theorem dX5_belt_11 : decode cX5_belt 11 = .ok (.iload_n 2, 1) := by decide +kernel
theorem dX5_belt_12 : decode cX5_belt 12 = .ok (.iconst 0, 1) := by decide +kernel
theorem dX5_belt_13 : decode cX5_belt 13 = .ok (.sipush 1000, 3) := by decide +kernel
theorem dX5_belt_16 : decode cX5_belt 16 = .ok (.invokestatic 47, 3) := by decide +kernel
theorem dX5_belt_19 : decode cX5_belt 19 = .ok (.ifCond .eq 7, 3) := by decide +kernel
theorem dX5_belt_22 : decode cX5_belt 22 = .ok (.iconst 1, 1) := by decide +kernel
theorem dX5_belt_23 : decode cX5_belt 23 = .ok (.goto 4, 3) := by decide +kernel
theorem dX5_belt_26 : decode cX5_belt 26 = .ok (.iconst 0, 1) := by decide +kernel
theorem dX5_belt_27 : decode cX5_belt 27 = .ok (.invokestatic 51, 3) := by decide +kernel
theorem dX5_belt_30 : decode cX5_belt 30 = .ok (.iload_n 3, 1) := by decide +kernel
theorem dX5_belt_31 : decode cX5_belt 31 = .ok (.iconst 1, 1) := by decide +kernel
theorem dX5_belt_32 : decode cX5_belt 32 = .ok (.bipush 100, 2) := by decide +kernel
theorem dX5_belt_34 : decode cX5_belt 34 = .ok (.invokestatic 47, 3) := by decide +kernel
theorem dX5_belt_37 : decode cX5_belt 37 = .ok (.invokestatic 51, 3) := by decide +kernel
theorem dX5_belt_40 : decode cX5_belt 40 = .ok (.aload_n 0, 1) := by decide +kernel
theorem dX5_belt_41 : decode cX5_belt 41 = .ok (.dup, 1) := by decide +kernel
theorem dX5_belt_42 : decode cX5_belt 42 = .ok (.getfield 178, 3) := by decide +kernel
theorem dX5_belt_45 : decode cX5_belt 45 = .ok (.iload_n 1, 1) := by decide +kernel
theorem dX5_belt_46 : decode cX5_belt 46 = .ok (.i2l, 1) := by decide +kernel
theorem dX5_belt_47 : decode cX5_belt 47 = .ok (.iload_n 2, 1) := by decide +kernel
theorem dX5_belt_48 : decode cX5_belt 48 = .ok (.i2l, 1) := by decide +kernel
theorem dX5_belt_49 : decode cX5_belt 49 = .ok (.lmul, 1) := by decide +kernel
theorem dX5_belt_50 : decode cX5_belt 50 = .ok (.iload_n 3, 1) := by decide +kernel
theorem dX5_belt_51 : decode cX5_belt 51 = .ok (.i2l, 1) := by decide +kernel
theorem dX5_belt_52 : decode cX5_belt 52 = .ok (.lmul, 1) := by decide +kernel
theorem dX5_belt_53 : decode cX5_belt 53 = .ok (.ladd, 1) := by decide +kernel
theorem dX5_belt_54 : decode cX5_belt 54 = .ok (.putfield 178, 3) := by decide +kernel
theorem dX5_belt_57 : decode cX5_belt 57 = .ok (.aload_n 0, 1) := by decide +kernel
theorem dX5_belt_58 : decode cX5_belt 58 = .ok (.getfield 178, 3) := by decide +kernel
theorem dX5_belt_61 : decode cX5_belt 61 = .ok (.ldc2_w 182, 3) := by decide +kernel
theorem dX5_belt_64 : decode cX5_belt 64 = .ok (.ldiv, 1) := by decide +kernel
theorem dX5_belt_65 : decode cX5_belt 65 = .ok (.lreturn, 1) := by decide +kernel
theorem dX5_needLot_0 : decode cX5_needLot 0 = .ok (.iload_n 1, 1) := by decide +kernel
theorem dX5_needLot_1 : decode cX5_needLot 1 = .ok (.iconst 0, 1) := by decide +kernel
theorem dX5_needLot_2 : decode cX5_needLot 2 = .ok (.aload_n 0, 1) := by decide +kernel
theorem dX5_needLot_3 : decode cX5_needLot 3 = .ok (.getfield 30, 3) := by decide +kernel
theorem dX5_needLot_6 : decode cX5_needLot 6 = .ok (.getfield 84, 3) := by decide +kernel
theorem dX5_needLot_9 : decode cX5_needLot 9 = .ok (.iconst 1, 1) := by decide +kernel
theorem dX5_needLot_10 : decode cX5_needLot 10 = .ok (.isub, 1) := by decide +kernel
theorem dX5_needLot_11 : decode cX5_needLot 11 = .ok (.invokestatic 47, 3) := by decide +kernel
theorem dX5_needLot_14 : decode cX5_needLot 14 = .ok (.ifCond .ne 13, 3) := by decide +kernel
theorem dX5_needLot_17 : decode cX5_needLot 17 = .ok (.new 184, 3) := by decide +kernel
theorem dX5_needLot_20 : decode cX5_needLot 20 = .ok (.dup, 1) := by decide +kernel
theorem dX5_needLot_21 : decode cX5_needLot 21 = .ok (.ldc 186, 2) := by decide +kernel
theorem dX5_needLot_23 : decode cX5_needLot 23 = .ok (.invokespecial 188, 3) := by decide +kernel
theorem dX5_needLot_26 : decode cX5_needLot 26 = .ok (.athrow, 1) := by decide +kernel
theorem dX5_needLot_27 : decode cX5_needLot 27 = .ok (.return_, 1) := by decide +kernel
theorem dX5_needBatch_0 : decode cX5_needBatch 0 = .ok (.iload_n 1, 1) := by decide +kernel
theorem dX5_needBatch_1 : decode cX5_needBatch 1 = .ok (.iconst 0, 1) := by decide +kernel
theorem dX5_needBatch_2 : decode cX5_needBatch 2 = .ok (.aload_n 0, 1) := by decide +kernel
theorem dX5_needBatch_3 : decode cX5_needBatch 3 = .ok (.getfield 10, 3) := by decide +kernel
theorem dX5_needBatch_6 : decode cX5_needBatch 6 = .ok (.getfield 132, 3) := by decide +kernel
theorem dX5_needBatch_9 : decode cX5_needBatch 9 = .ok (.iconst 1, 1) := by decide +kernel
theorem dX5_needBatch_10 : decode cX5_needBatch 10 = .ok (.isub, 1) := by decide +kernel
theorem dX5_needBatch_11 : decode cX5_needBatch 11 = .ok (.invokestatic 47, 3) := by decide +kernel
theorem dX5_needBatch_14 : decode cX5_needBatch 14 = .ok (.ifCond .ne 13, 3) := by decide +kernel
theorem dX5_needBatch_17 : decode cX5_needBatch 17 = .ok (.new 184, 3) := by decide +kernel
theorem dX5_needBatch_20 : decode cX5_needBatch 20 = .ok (.dup, 1) := by decide +kernel
theorem dX5_needBatch_21 : decode cX5_needBatch 21 = .ok (.ldc 191, 2) := by decide +kernel
theorem dX5_needBatch_23 : decode cX5_needBatch 23 = .ok (.invokespecial 188, 3) := by decide +kernel
theorem dX5_needBatch_26 : decode cX5_needBatch 26 = .ok (.athrow, 1) := by decide +kernel
theorem dX5_needBatch_27 : decode cX5_needBatch 27 = .ok (.return_, 1) := by decide +kernel
theorem dX5_needBin_0 : decode cX5_needBin 0 = .ok (.iload_n 0, 1) := by decide +kernel
theorem dX5_needBin_1 : decode cX5_needBin 1 = .ok (.iconst 0, 1) := by decide +kernel
theorem dX5_needBin_2 : decode cX5_needBin 2 = .ok (.iconst 3, 1) := by decide +kernel
theorem dX5_needBin_3 : decode cX5_needBin 3 = .ok (.invokestatic 47, 3) := by decide +kernel
theorem dX5_needBin_6 : decode cX5_needBin 6 = .ok (.ifCond .ne 13, 3) := by decide +kernel
theorem dX5_needBin_9 : decode cX5_needBin 9 = .ok (.new 184, 3) := by decide +kernel
theorem dX5_needBin_12 : decode cX5_needBin 12 = .ok (.dup, 1) := by decide +kernel
theorem dX5_needBin_13 : decode cX5_needBin 13 = .ok (.ldc 193, 2) := by decide +kernel
theorem dX5_needBin_15 : decode cX5_needBin 15 = .ok (.invokespecial 188, 3) := by decide +kernel
theorem dX5_needBin_18 : decode cX5_needBin 18 = .ok (.athrow, 1) := by decide +kernel
theorem dX5_needBin_19 : decode cX5_needBin 19 = .ok (.return_, 1) := by decide +kernel
theorem dX5_needReading_0 : decode cX5_needReading 0 = .ok (.iload_n 0, 1) := by decide +kernel
theorem dX5_needReading_1 : decode cX5_needReading 1 = .ok (.sipush (-1000), 3) := by decide +kernel
theorem dX5_needReading_4 : decode cX5_needReading 4 = .ok (.ldc 83, 2) := by decide +kernel
theorem dX5_needReading_6 : decode cX5_needReading 6 = .ok (.invokestatic 47, 3) := by decide +kernel
theorem dX5_needReading_9 : decode cX5_needReading 9 = .ok (.invokestatic 51, 3) := by decide +kernel
theorem dX5_needReading_12 : decode cX5_needReading 12 = .ok (.return_, 1) := by decide +kernel
theorem dX5_needArgument_0 : decode cX5_needArgument 0 = .ok (.iload_n 0, 1) := by decide +kernel
theorem dX5_needArgument_1 : decode cX5_needArgument 1 = .ok (.ifCond .ne 13, 3) := by decide +kernel
theorem dX5_needArgument_4 : decode cX5_needArgument 4 = .ok (.new 195, 3) := by decide +kernel
theorem dX5_needArgument_7 : decode cX5_needArgument 7 = .ok (.dup, 1) := by decide +kernel
theorem dX5_needArgument_8 : decode cX5_needArgument 8 = .ok (.ldc 197, 2) := by decide +kernel
theorem dX5_needArgument_10 : decode cX5_needArgument 10 = .ok (.invokespecial 199, 3) := by decide +kernel
theorem dX5_needArgument_13 : decode cX5_needArgument 13 = .ok (.athrow, 1) := by decide +kernel
theorem dX5_needArgument_14 : decode cX5_needArgument 14 = .ok (.return_, 1) := by decide +kernel
theorem dX5_needState_0 : decode cX5_needState 0 = .ok (.iload_n 0, 1) := by decide +kernel
theorem dX5_needState_1 : decode cX5_needState 1 = .ok (.ifCond .ne 13, 3) := by decide +kernel
theorem dX5_needState_4 : decode cX5_needState 4 = .ok (.new 200, 3) := by decide +kernel
theorem dX5_needState_7 : decode cX5_needState 7 = .ok (.dup, 1) := by decide +kernel
theorem dX5_needState_8 : decode cX5_needState 8 = .ok (.ldc 202, 2) := by decide +kernel
theorem dX5_needState_10 : decode cX5_needState 10 = .ok (.invokespecial 204, 3) := by decide +kernel
theorem dX5_needState_13 : decode cX5_needState 13 = .ok (.athrow, 1) := by decide +kernel
theorem dX5_needState_14 : decode cX5_needState 14 = .ok (.return_, 1) := by decide +kernel
theorem dX5_isWithin_0 : decode cX5_isWithin 0 = .ok (.iload_n 0, 1) := by decide +kernel
theorem dX5_isWithin_1 : decode cX5_isWithin 1 = .ok (.iload_n 1, 1) := by decide +kernel
theorem dX5_isWithin_2 : decode cX5_isWithin 2 = .ok (.if_icmp .lt 12, 3) := by decide +kernel
theorem dX5_isWithin_5 : decode cX5_isWithin 5 = .ok (.iload_n 0, 1) := by decide +kernel
theorem dX5_isWithin_6 : decode cX5_isWithin 6 = .ok (.iload_n 2, 1) := by decide +kernel
theorem dX5_isWithin_7 : decode cX5_isWithin 7 = .ok (.if_icmp .gt 7, 3) := by decide +kernel
theorem dX5_isWithin_10 : decode cX5_isWithin 10 = .ok (.iconst 1, 1) := by decide +kernel
theorem dX5_isWithin_11 : decode cX5_isWithin 11 = .ok (.goto 4, 3) := by decide +kernel
theorem dX5_isWithin_14 : decode cX5_isWithin 14 = .ok (.iconst 0, 1) := by decide +kernel
theorem dX5_isWithin_15 : decode cX5_isWithin 15 = .ok (.ireturn, 1) := by decide +kernel
theorem dX5_at_0 : decode cX5_at 0 = .ok (.iload_n 1, 1) := by decide +kernel
theorem dX5_at_1 : decode cX5_at 1 = .ok (.ifCond .lt 15, 3) := by decide +kernel
theorem dX5_at_4 : decode cX5_at 4 = .ok (.iload_n 1, 1) := by decide +kernel
theorem dX5_at_5 : decode cX5_at 5 = .ok (.aload_n 0, 1) := by decide +kernel
theorem dX5_at_6 : decode cX5_at 6 = .ok (.arraylength, 1) := by decide +kernel
theorem dX5_at_7 : decode cX5_at 7 = .ok (.if_icmp .ge 9, 3) := by decide +kernel
theorem dX5_at_10 : decode cX5_at 10 = .ok (.aload_n 0, 1) := by decide +kernel
theorem dX5_at_11 : decode cX5_at 11 = .ok (.iload_n 1, 1) := by decide +kernel
theorem dX5_at_12 : decode cX5_at 12 = .ok (.iaload, 1) := by decide +kernel
theorem dX5_at_13 : decode cX5_at 13 = .ok (.goto 4, 3) := by decide +kernel
theorem dX5_at_16 : decode cX5_at 16 = .ok (.iconst 0, 1) := by decide +kernel
theorem dX5_at_17 : decode cX5_at 17 = .ok (.ireturn, 1) := by decide +kernel
theorem dX5_put_0 : decode cX5_put 0 = .ok (.iload_n 1, 1) := by decide +kernel
theorem dX5_put_1 : decode cX5_put 1 = .ok (.ifCond .lt 13, 3) := by decide +kernel
theorem dX5_put_4 : decode cX5_put 4 = .ok (.iload_n 1, 1) := by decide +kernel
theorem dX5_put_5 : decode cX5_put 5 = .ok (.aload_n 0, 1) := by decide +kernel
theorem dX5_put_6 : decode cX5_put 6 = .ok (.arraylength, 1) := by decide +kernel
theorem dX5_put_7 : decode cX5_put 7 = .ok (.if_icmp .ge 7, 3) := by decide +kernel
theorem dX5_put_10 : decode cX5_put 10 = .ok (.aload_n 0, 1) := by decide +kernel
theorem dX5_put_11 : decode cX5_put 11 = .ok (.iload_n 1, 1) := by decide +kernel
theorem dX5_put_12 : decode cX5_put 12 = .ok (.iload_n 2, 1) := by decide +kernel
theorem dX5_put_13 : decode cX5_put 13 = .ok (.iastore, 1) := by decide +kernel
theorem dX5_put_14 : decode cX5_put 14 = .ok (.return_, 1) := by decide +kernel
theorem dX5_increase_0 : decode cX5_increase 0 = .ok (.iload_n 1, 1) := by decide +kernel
theorem dX5_increase_1 : decode cX5_increase 1 = .ok (.ifCond .lt 16, 3) := by decide +kernel
theorem dX5_increase_4 : decode cX5_increase 4 = .ok (.iload_n 1, 1) := by decide +kernel
theorem dX5_increase_5 : decode cX5_increase 5 = .ok (.aload_n 0, 1) := by decide +kernel
theorem dX5_increase_6 : decode cX5_increase 6 = .ok (.arraylength, 1) := by decide +kernel
theorem dX5_increase_7 : decode cX5_increase 7 = .ok (.if_icmp .ge 10, 3) := by decide +kernel
theorem dX5_increase_10 : decode cX5_increase 10 = .ok (.aload_n 0, 1) := by decide +kernel
theorem dX5_increase_11 : decode cX5_increase 11 = .ok (.iload_n 1, 1) := by decide +kernel
theorem dX5_increase_12 : decode cX5_increase 12 = .ok (.dup2, 1) := by decide +kernel
theorem dX5_increase_13 : decode cX5_increase 13 = .ok (.iaload, 1) := by decide +kernel
theorem dX5_increase_14 : decode cX5_increase 14 = .ok (.iload_n 2, 1) := by decide +kernel
theorem dX5_increase_15 : decode cX5_increase 15 = .ok (.iadd, 1) := by decide +kernel
theorem dX5_increase_16 : decode cX5_increase 16 = .ok (.iastore, 1) := by decide +kernel
theorem dX5_increase_17 : decode cX5_increase 17 = .ok (.return_, 1) := by decide +kernel
theorem dJ9_floorDiv_7cf53_0 : decode cJ9_floorDiv_7cf53 0 = .ok (.iload_n 0, 1) := by decide +kernel
theorem dJ9_floorDiv_7cf53_1 : decode cJ9_floorDiv_7cf53 1 = .ok (.iload_n 1, 1) := by decide +kernel
theorem dJ9_floorDiv_7cf53_2 : decode cJ9_floorDiv_7cf53 2 = .ok (.idiv, 1) := by decide +kernel
theorem dJ9_floorDiv_7cf53_3 : decode cJ9_floorDiv_7cf53 3 = .ok (.istore_n 2, 1) := by decide +kernel
theorem dJ9_floorDiv_7cf53_4 : decode cJ9_floorDiv_7cf53 4 = .ok (.iload_n 0, 1) := by decide +kernel
theorem dJ9_floorDiv_7cf53_5 : decode cJ9_floorDiv_7cf53 5 = .ok (.iload_n 1, 1) := by decide +kernel
theorem dJ9_floorDiv_7cf53_6 : decode cJ9_floorDiv_7cf53 6 = .ok (.ixor, 1) := by decide +kernel
theorem dJ9_floorDiv_7cf53_7 : decode cJ9_floorDiv_7cf53 7 = .ok (.ifCond .ge 14, 3) := by decide +kernel
theorem dJ9_floorDiv_7cf53_10 : decode cJ9_floorDiv_7cf53 10 = .ok (.iload_n 2, 1) := by decide +kernel
theorem dJ9_floorDiv_7cf53_11 : decode cJ9_floorDiv_7cf53 11 = .ok (.iload_n 1, 1) := by decide +kernel
theorem dJ9_floorDiv_7cf53_12 : decode cJ9_floorDiv_7cf53 12 = .ok (.imul, 1) := by decide +kernel
theorem dJ9_floorDiv_7cf53_13 : decode cJ9_floorDiv_7cf53 13 = .ok (.iload_n 0, 1) := by decide +kernel
theorem dJ9_floorDiv_7cf53_14 : decode cJ9_floorDiv_7cf53 14 = .ok (.if_icmp .eq 7, 3) := by decide +kernel
theorem dJ9_floorDiv_7cf53_17 : decode cJ9_floorDiv_7cf53 17 = .ok (.iload_n 2, 1) := by decide +kernel
theorem dJ9_floorDiv_7cf53_18 : decode cJ9_floorDiv_7cf53 18 = .ok (.iconst 1, 1) := by decide +kernel
theorem dJ9_floorDiv_7cf53_19 : decode cJ9_floorDiv_7cf53 19 = .ok (.isub, 1) := by decide +kernel
theorem dJ9_floorDiv_7cf53_20 : decode cJ9_floorDiv_7cf53 20 = .ok (.ireturn, 1) := by decide +kernel
theorem dJ9_floorDiv_7cf53_21 : decode cJ9_floorDiv_7cf53 21 = .ok (.iload_n 2, 1) := by decide +kernel
theorem dJ9_floorDiv_7cf53_22 : decode cJ9_floorDiv_7cf53 22 = .ok (.ireturn, 1) := by decide +kernel
theorem dJ9_max_7cf53_0 : decode cJ9_max_7cf53 0 = .ok (.iload_n 0, 1) := by decide +kernel
theorem dJ9_max_7cf53_1 : decode cJ9_max_7cf53 1 = .ok (.iload_n 1, 1) := by decide +kernel
theorem dJ9_max_7cf53_2 : decode cJ9_max_7cf53 2 = .ok (.if_icmp .lt 7, 3) := by decide +kernel
theorem dJ9_max_7cf53_5 : decode cJ9_max_7cf53 5 = .ok (.iload_n 0, 1) := by decide +kernel
theorem dJ9_max_7cf53_6 : decode cJ9_max_7cf53 6 = .ok (.goto 4, 3) := by decide +kernel
theorem dJ9_max_7cf53_9 : decode cJ9_max_7cf53 9 = .ok (.iload_n 1, 1) := by decide +kernel
theorem dJ9_max_7cf53_10 : decode cJ9_max_7cf53 10 = .ok (.ireturn, 1) := by decide +kernel
theorem dJ9_min_7cf53_0 : decode cJ9_min_7cf53 0 = .ok (.iload_n 0, 1) := by decide +kernel
theorem dJ9_min_7cf53_1 : decode cJ9_min_7cf53 1 = .ok (.iload_n 1, 1) := by decide +kernel
theorem dJ9_min_7cf53_2 : decode cJ9_min_7cf53 2 = .ok (.if_icmp .gt 7, 3) := by decide +kernel
theorem dJ9_min_7cf53_5 : decode cJ9_min_7cf53 5 = .ok (.iload_n 0, 1) := by decide +kernel
theorem dJ9_min_7cf53_6 : decode cJ9_min_7cf53 6 = .ok (.goto 4, 3) := by decide +kernel
theorem dJ9_min_7cf53_9 : decode cJ9_min_7cf53 9 = .ok (.iload_n 1, 1) := by decide +kernel
theorem dJ9_min_7cf53_10 : decode cJ9_min_7cf53 10 = .ok (.ireturn, 1) := by decide +kernel
end
section
theorem dL_from_0 : decode cL_from 0 = .ok (.aload_n 0, 1) := by decide +kernel
theorem dL_from_1 : decode cL_from 1 = .ok (.arraylength, 1) := by decide +kernel
theorem dL_from_2 : decode cL_from 2 = .ok (.ifCond .ne 13, 3) := by decide +kernel
theorem dL_from_5 : decode cL_from 5 = .ok (.bipush 89, 2) := by decide +kernel
theorem dL_from_7 : decode cL_from 7 = .ok (.iload_n 1, 1) := by decide +kernel
theorem dL_from_8 : decode cL_from 8 = .ok (.imul, 1) := by decide +kernel
theorem dL_from_9 : decode cL_from 9 = .ok (.bipush 67, 2) := by decide +kernel
theorem dL_from_11 : decode cL_from 11 = .ok (.iadd, 1) := by decide +kernel
theorem dL_from_12 : decode cL_from 12 = .ok (.goto 14, 3) := by decide +kernel
theorem dL_from_15 : decode cL_from 15 = .ok (.aload_n 0, 1) := by decide +kernel
theorem dL_from_16 : decode cL_from 16 = .ok (.iload_n 1, 1) := by decide +kernel
theorem dL_from_17 : decode cL_from 17 = .ok (.aload_n 0, 1) := by decide +kernel
theorem dL_from_18 : decode cL_from 18 = .ok (.arraylength, 1) := by decide +kernel
theorem dL_from_19 : decode cL_from 19 = .ok (.irem, 1) := by decide +kernel
theorem dL_from_20 : decode cL_from 20 = .ok (.iaload, 1) := by decide +kernel
theorem dL_from_21 : decode cL_from 21 = .ok (.ldc 7, 2) := by decide +kernel
theorem dL_from_23 : decode cL_from 23 = .ok (.iload_n 1, 1) := by decide +kernel
theorem dL_from_24 : decode cL_from 24 = .ok (.imul, 1) := by decide +kernel
theorem dL_from_25 : decode cL_from 25 = .ok (.ixor, 1) := by decide +kernel
theorem dL_from_26 : decode cL_from 26 = .ok (.istore_n 3, 1) := by decide +kernel
theorem dL_from_27 : decode cL_from 27 = .ok (.iload_n 3, 1) := by decide +kernel
theorem dL_from_28 : decode cL_from 28 = .ok (.ldc 8, 2) := by decide +kernel
theorem dL_from_30 : decode cL_from 30 = .ok (.iand, 1) := by decide +kernel
theorem dL_from_31 : decode cL_from 31 = .ok (.iload_n 2, 1) := by decide +kernel
theorem dL_from_32 : decode cL_from 32 = .ok (.irem, 1) := by decide +kernel
theorem dL_from_33 : decode cL_from 33 = .ok (.ireturn, 1) := by decide +kernel
theorem dL_isSettled_0 : decode cL_isSettled 0 = .ok (.iconst 0, 1) := by decide +kernel
theorem dL_isSettled_1 : decode cL_isSettled 1 = .ok (.istore_n 1, 1) := by decide +kernel
theorem dL_isSettled_2 : decode cL_isSettled 2 = .ok (.iconst 0, 1) := by decide +kernel
theorem dL_isSettled_3 : decode cL_isSettled 3 = .ok (.istore_n 2, 1) := by decide +kernel
theorem dL_isSettled_4 : decode cL_isSettled 4 = .ok (.iload_n 2, 1) := by decide +kernel
theorem dL_isSettled_5 : decode cL_isSettled 5 = .ok (.bipush 16, 2) := by decide +kernel
theorem dL_isSettled_7 : decode cL_isSettled 7 = .ok (.if_icmp .ge 32, 3) := by decide +kernel
theorem dL_isSettled_10 : decode cL_isSettled 10 = .ok (.aload_n 0, 1) := by decide +kernel
theorem dL_isSettled_11 : decode cL_isSettled 11 = .ok (.iload_n 2, 1) := by decide +kernel
theorem dL_isSettled_12 : decode cL_isSettled 12 = .ok (.iconst 4, 1) := by decide +kernel
theorem dL_isSettled_13 : decode cL_isSettled 13 = .ok (.idiv, 1) := by decide +kernel
theorem dL_isSettled_14 : decode cL_isSettled 14 = .ok (.iaload, 1) := by decide +kernel
theorem dL_isSettled_15 : decode cL_isSettled 15 = .ok (.aload_n 0, 1) := by decide +kernel
theorem dL_isSettled_16 : decode cL_isSettled 16 = .ok (.iload_n 2, 1) := by decide +kernel
theorem dL_isSettled_17 : decode cL_isSettled 17 = .ok (.iconst 4, 1) := by decide +kernel
theorem dL_isSettled_18 : decode cL_isSettled 18 = .ok (.irem, 1) := by decide +kernel
theorem dL_isSettled_19 : decode cL_isSettled 19 = .ok (.iaload, 1) := by decide +kernel
theorem dL_isSettled_20 : decode cL_isSettled 20 = .ok (.isub, 1) := by decide +kernel
theorem dL_isSettled_21 : decode cL_isSettled 21 = .ok (.istore_n 3, 1) := by decide +kernel
theorem dL_isSettled_22 : decode cL_isSettled 22 = .ok (.iload_n 3, 1) := by decide +kernel
theorem dL_isSettled_23 : decode cL_isSettled 23 = .ok (.iload_n 1, 1) := by decide +kernel
theorem dL_isSettled_24 : decode cL_isSettled 24 = .ok (.if_icmp .le 7, 3) := by decide +kernel
theorem dL_isSettled_27 : decode cL_isSettled 27 = .ok (.iload_n 3, 1) := by decide +kernel
theorem dL_isSettled_28 : decode cL_isSettled 28 = .ok (.goto 4, 3) := by decide +kernel
theorem dL_isSettled_31 : decode cL_isSettled 31 = .ok (.iload_n 1, 1) := by decide +kernel
theorem dL_isSettled_32 : decode cL_isSettled 32 = .ok (.istore_n 1, 1) := by decide +kernel
theorem dL_isSettled_33 : decode cL_isSettled 33 = .ok (.iinc 2 1, 3) := by decide +kernel
theorem dL_isSettled_36 : decode cL_isSettled 36 = .ok (.goto (-32), 3) := by decide +kernel
theorem dL_isSettled_39 : decode cL_isSettled 39 = .ok (.aload_n 0, 1) := by decide +kernel
theorem dL_isSettled_40 : decode cL_isSettled 40 = .ok (.iconst 4, 1) := by decide +kernel
theorem dL_isSettled_41 : decode cL_isSettled 41 = .ok (.iaload, 1) := by decide +kernel
theorem dL_isSettled_42 : decode cL_isSettled 42 = .ok (.iconst 3, 1) := by decide +kernel
theorem dL_isSettled_43 : decode cL_isSettled 43 = .ok (.if_icmp .le 15, 3) := by decide +kernel
theorem dL_isSettled_46 : decode cL_isSettled 46 = .ok (.iload_n 1, 1) := by decide +kernel
theorem dL_isSettled_47 : decode cL_isSettled 47 = .ok (.aload_n 0, 1) := by decide +kernel
theorem dL_isSettled_48 : decode cL_isSettled 48 = .ok (.bipush 7, 2) := by decide +kernel
theorem dL_isSettled_50 : decode cL_isSettled 50 = .ok (.iaload, 1) := by decide +kernel
theorem dL_isSettled_51 : decode cL_isSettled 51 = .ok (.if_icmp .gt 7, 3) := by decide +kernel
theorem dL_isSettled_54 : decode cL_isSettled 54 = .ok (.iconst 1, 1) := by decide +kernel
theorem dL_isSettled_55 : decode cL_isSettled 55 = .ok (.goto 4, 3) := by decide +kernel
theorem dL_isSettled_58 : decode cL_isSettled 58 = .ok (.iconst 0, 1) := by decide +kernel
theorem dL_isSettled_59 : decode cL_isSettled 59 = .ok (.ireturn, 1) := by decide +kernel
theorem dL_net_0 : decode cL_net 0 = .ok (.aload_n 0, 1) := by decide +kernel
theorem dL_net_1 : decode cL_net 1 = .ok (.iconst 0, 1) := by decide +kernel
theorem dL_net_2 : decode cL_net 2 = .ok (.iaload, 1) := by decide +kernel
theorem dL_net_3 : decode cL_net 3 = .ok (.aload_n 0, 1) := by decide +kernel
theorem dL_net_4 : decode cL_net 4 = .ok (.iconst 5, 1) := by decide +kernel
theorem dL_net_5 : decode cL_net 5 = .ok (.iaload, 1) := by decide +kernel
theorem dL_net_6 : decode cL_net 6 = .ok (.isub, 1) := by decide +kernel
theorem dL_net_7 : decode cL_net 7 = .ok (.aload_n 0, 1) := by decide +kernel
theorem dL_net_8 : decode cL_net 8 = .ok (.bipush 6, 2) := by decide +kernel
theorem dL_net_10 : decode cL_net 10 = .ok (.iaload, 1) := by decide +kernel
theorem dL_net_11 : decode cL_net 11 = .ok (.isub, 1) := by decide +kernel
theorem dL_net_12 : decode cL_net 12 = .ok (.ireturn, 1) := by decide +kernel
theorem dL_turn_0 : decode cL_turn 0 = .ok (.aload_n 0, 1) := by decide +kernel
theorem dL_turn_1 : decode cL_turn 1 = .ok (.bipush 8, 2) := by decide +kernel
theorem dL_turn_3 : decode cL_turn 3 = .ok (.iload_n 1, 1) := by decide +kernel
theorem dL_turn_4 : decode cL_turn 4 = .ok (.iastore, 1) := by decide +kernel
theorem dL_turn_5 : decode cL_turn 5 = .ok (.aload_n 0, 1) := by decide +kernel
theorem dL_turn_6 : decode cL_turn 6 = .ok (.bipush 12, 2) := by decide +kernel
theorem dL_turn_8 : decode cL_turn 8 = .ok (.aload_n 0, 1) := by decide +kernel
theorem dL_turn_9 : decode cL_turn 9 = .ok (.iconst 4, 1) := by decide +kernel
theorem dL_turn_10 : decode cL_turn 10 = .ok (.iaload, 1) := by decide +kernel
theorem dL_turn_11 : decode cL_turn 11 = .ok (.iastore, 1) := by decide +kernel
theorem dL_turn_12 : decode cL_turn 12 = .ok (.return_, 1) := by decide +kernel
theorem dL_stop_0 : decode cL_stop 0 = .ok (.aload_n 0, 1) := by decide +kernel
theorem dL_stop_1 : decode cL_stop 1 = .ok (.bipush 10, 2) := by decide +kernel
theorem dL_stop_3 : decode cL_stop 3 = .ok (.aload_n 0, 1) := by decide +kernel
theorem dL_stop_4 : decode cL_stop 4 = .ok (.bipush 8, 2) := by decide +kernel
theorem dL_stop_6 : decode cL_stop 6 = .ok (.iaload, 1) := by decide +kernel
theorem dL_stop_7 : decode cL_stop 7 = .ok (.iastore, 1) := by decide +kernel
theorem dL_stop_8 : decode cL_stop 8 = .ok (.aload_n 0, 1) := by decide +kernel
theorem dL_stop_9 : decode cL_stop 9 = .ok (.bipush 9, 2) := by decide +kernel
theorem dL_stop_11 : decode cL_stop 11 = .ok (.iload_n 1, 1) := by decide +kernel
theorem dL_stop_12 : decode cL_stop 12 = .ok (.iastore, 1) := by decide +kernel
theorem dL_stop_13 : decode cL_stop 13 = .ok (.aload_n 0, 1) := by decide +kernel
theorem dL_stop_14 : decode cL_stop 14 = .ok (.bipush 6, 2) := by decide +kernel
theorem dL_stop_16 : decode cL_stop 16 = .ok (.invokestatic 9, 3) := by decide +kernel
theorem dL_stop_19 : decode cL_stop 19 = .ok (.return_, 1) := by decide +kernel
theorem dL_book_0 : decode cL_book 0 = .ok (.aload_n 0, 1) := by decide +kernel
theorem dL_book_1 : decode cL_book 1 = .ok (.invokestatic 15, 3) := by decide +kernel
theorem dL_book_4 : decode cL_book 4 = .ok (.ifCond .le 10, 3) := by decide +kernel
theorem dL_book_7 : decode cL_book 7 = .ok (.aload_n 0, 1) := by decide +kernel
theorem dL_book_8 : decode cL_book 8 = .ok (.invokestatic 15, 3) := by decide +kernel
theorem dL_book_11 : decode cL_book 11 = .ok (.goto 4, 3) := by decide +kernel
theorem dL_book_14 : decode cL_book 14 = .ok (.iconst 0, 1) := by decide +kernel
theorem dL_book_15 : decode cL_book 15 = .ok (.istore 7, 2) := by decide +kernel
theorem dL_book_17 : decode cL_book 17 = .ok (.aload_n 2, 1) := by decide +kernel
theorem dL_book_18 : decode cL_book 18 = .ok (.iconst 3, 1) := by decide +kernel
theorem dL_book_19 : decode cL_book 19 = .ok (.aload_n 0, 1) := by decide +kernel
theorem dL_book_20 : decode cL_book 20 = .ok (.bipush 11, 2) := by decide +kernel
theorem dL_book_22 : decode cL_book 22 = .ok (.iaload, 1) := by decide +kernel
theorem dL_book_23 : decode cL_book 23 = .ok (.imul, 1) := by decide +kernel
theorem dL_book_24 : decode cL_book 24 = .ok (.iaload, 1) := by decide +kernel
theorem dL_book_25 : decode cL_book 25 = .ok (.istore 8, 2) := by decide +kernel
theorem dL_book_27 : decode cL_book 27 = .ok (.iconst 0, 1) := by decide +kernel
theorem dL_book_28 : decode cL_book 28 = .ok (.istore 9, 2) := by decide +kernel
theorem dL_book_30 : decode cL_book 30 = .ok (.aload_n 1, 1) := by decide +kernel
theorem dL_book_31 : decode cL_book 31 = .ok (.iconst 4, 1) := by decide +kernel
theorem dL_book_32 : decode cL_book 32 = .ok (.iload 8, 2) := by decide +kernel
theorem dL_book_34 : decode cL_book 34 = .ok (.imul, 1) := by decide +kernel
theorem dL_book_35 : decode cL_book 35 = .ok (.iconst 2, 1) := by decide +kernel
theorem dL_book_36 : decode cL_book 36 = .ok (.iadd, 1) := by decide +kernel
theorem dL_book_37 : decode cL_book 37 = .ok (.dup2, 1) := by decide +kernel
theorem dL_book_38 : decode cL_book 38 = .ok (.iaload, 1) := by decide +kernel
theorem dL_book_39 : decode cL_book 39 = .ok (.iload 7, 2) := by decide +kernel
theorem dL_book_41 : decode cL_book 41 = .ok (.iadd, 1) := by decide +kernel
theorem dL_book_42 : decode cL_book 42 = .ok (.iastore, 1) := by decide +kernel
theorem dL_book_43 : decode cL_book 43 = .ok (.iconst 0, 1) := by decide +kernel
theorem dL_book_44 : decode cL_book 44 = .ok (.istore 10, 2) := by decide +kernel
theorem dL_book_46 : decode cL_book 46 = .ok (.iload 10, 2) := by decide +kernel
theorem dL_book_48 : decode cL_book 48 = .ok (.iload 6, 2) := by decide +kernel
theorem dL_book_50 : decode cL_book 50 = .ok (.if_icmp .ge 129, 3) := by decide +kernel
theorem dL_book_53 : decode cL_book 53 = .ok (.aload_n 3, 1) := by decide +kernel
theorem dL_book_54 : decode cL_book 54 = .ok (.iconst 3, 1) := by decide +kernel
theorem dL_book_55 : decode cL_book 55 = .ok (.iload 10, 2) := by decide +kernel
theorem dL_book_57 : decode cL_book 57 = .ok (.imul, 1) := by decide +kernel
theorem dL_book_58 : decode cL_book 58 = .ok (.iaload, 1) := by decide +kernel
theorem dL_book_59 : decode cL_book 59 = .ok (.iload 8, 2) := by decide +kernel
theorem dL_book_61 : decode cL_book 61 = .ok (.if_icmp .ne 112, 3) := by decide +kernel
theorem dL_book_64 : decode cL_book 64 = .ok (.iload 7, 2) := by decide +kernel
theorem dL_book_66 : decode cL_book 66 = .ok (.iload 9, 2) := by decide +kernel
theorem dL_book_68 : decode cL_book 68 = .ok (.isub, 1) := by decide +kernel
theorem dL_book_69 : decode cL_book 69 = .ok (.aload_n 3, 1) := by decide +kernel
theorem dL_book_70 : decode cL_book 70 = .ok (.iconst 3, 1) := by decide +kernel
theorem dL_book_71 : decode cL_book 71 = .ok (.iload 10, 2) := by decide +kernel
theorem dL_book_73 : decode cL_book 73 = .ok (.imul, 1) := by decide +kernel
theorem dL_book_74 : decode cL_book 74 = .ok (.iconst 2, 1) := by decide +kernel
theorem dL_book_75 : decode cL_book 75 = .ok (.iadd, 1) := by decide +kernel
theorem dL_book_76 : decode cL_book 76 = .ok (.iaload, 1) := by decide +kernel
theorem dL_book_77 : decode cL_book 77 = .ok (.if_icmp .le 14, 3) := by decide +kernel
theorem dL_book_80 : decode cL_book 80 = .ok (.aload_n 3, 1) := by decide +kernel
theorem dL_book_81 : decode cL_book 81 = .ok (.iconst 3, 1) := by decide +kernel
theorem dL_book_82 : decode cL_book 82 = .ok (.iload 10, 2) := by decide +kernel
theorem dL_book_84 : decode cL_book 84 = .ok (.imul, 1) := by decide +kernel
theorem dL_book_85 : decode cL_book 85 = .ok (.iconst 2, 1) := by decide +kernel
theorem dL_book_86 : decode cL_book 86 = .ok (.iadd, 1) := by decide +kernel
theorem dL_book_87 : decode cL_book 87 = .ok (.iaload, 1) := by decide +kernel
theorem dL_book_88 : decode cL_book 88 = .ok (.goto 8, 3) := by decide +kernel
theorem dL_book_91 : decode cL_book 91 = .ok (.iload 7, 2) := by decide +kernel
theorem dL_book_93 : decode cL_book 93 = .ok (.iload 9, 2) := by decide +kernel
theorem dL_book_95 : decode cL_book 95 = .ok (.isub, 1) := by decide +kernel
theorem dL_book_96 : decode cL_book 96 = .ok (.istore 11, 2) := by decide +kernel
theorem dL_book_98 : decode cL_book 98 = .ok (.aload_n 3, 1) := by decide +kernel
theorem dL_book_99 : decode cL_book 99 = .ok (.iconst 3, 1) := by decide +kernel
theorem dL_book_100 : decode cL_book 100 = .ok (.iload 10, 2) := by decide +kernel
theorem dL_book_102 : decode cL_book 102 = .ok (.imul, 1) := by decide +kernel
theorem dL_book_103 : decode cL_book 103 = .ok (.iconst 2, 1) := by decide +kernel
theorem dL_book_104 : decode cL_book 104 = .ok (.iadd, 1) := by decide +kernel
theorem dL_book_105 : decode cL_book 105 = .ok (.dup2, 1) := by decide +kernel
theorem dL_book_106 : decode cL_book 106 = .ok (.iaload, 1) := by decide +kernel
theorem dL_book_107 : decode cL_book 107 = .ok (.iload 11, 2) := by decide +kernel
theorem dL_book_109 : decode cL_book 109 = .ok (.isub, 1) := by decide +kernel
theorem dL_book_110 : decode cL_book 110 = .ok (.iastore, 1) := by decide +kernel
theorem dL_book_111 : decode cL_book 111 = .ok (.iload 9, 2) := by decide +kernel
theorem dL_book_113 : decode cL_book 113 = .ok (.iload 11, 2) := by decide +kernel
theorem dL_book_115 : decode cL_book 115 = .ok (.iadd, 1) := by decide +kernel
theorem dL_book_116 : decode cL_book 116 = .ok (.istore 9, 2) := by decide +kernel
theorem dL_book_118 : decode cL_book 118 = .ok (.aload 4, 2) := by decide +kernel
theorem dL_book_120 : decode cL_book 120 = .ok (.iload 10, 2) := by decide +kernel
theorem dL_book_122 : decode cL_book 122 = .ok (.iload 11, 2) := by decide +kernel
theorem dL_book_124 : decode cL_book 124 = .ok (.ifCond .le 20, 3) := by decide +kernel
theorem dL_book_127 : decode cL_book 127 = .ok (.aload 4, 2) := by decide +kernel
theorem dL_book_129 : decode cL_book 129 = .ok (.iload 10, 2) := by decide +kernel
theorem dL_book_131 : decode cL_book 131 = .ok (.iaload, 1) := by decide +kernel
theorem dL_book_132 : decode cL_book 132 = .ok (.ifCond .ge 12, 3) := by decide +kernel
theorem dL_book_135 : decode cL_book 135 = .ok (.aload_n 0, 1) := by decide +kernel
theorem dL_book_136 : decode cL_book 136 = .ok (.bipush 19, 2) := by decide +kernel
theorem dL_book_138 : decode cL_book 138 = .ok (.iaload, 1) := by decide +kernel
theorem dL_book_139 : decode cL_book 139 = .ok (.iconst 1, 1) := by decide +kernel
theorem dL_book_140 : decode cL_book 140 = .ok (.isub, 1) := by decide +kernel
theorem dL_book_141 : decode cL_book 141 = .ok (.goto 8, 3) := by decide +kernel
theorem dL_book_144 : decode cL_book 144 = .ok (.aload 4, 2) := by decide +kernel
theorem dL_book_146 : decode cL_book 146 = .ok (.iload 10, 2) := by decide +kernel
theorem dL_book_148 : decode cL_book 148 = .ok (.iaload, 1) := by decide +kernel
theorem dL_book_149 : decode cL_book 149 = .ok (.iastore, 1) := by decide +kernel
theorem dL_book_150 : decode cL_book 150 = .ok (.aload 5, 2) := by decide +kernel
theorem dL_book_152 : decode cL_book 152 = .ok (.bipush 8, 2) := by decide +kernel
theorem dL_book_154 : decode cL_book 154 = .ok (.iload 10, 2) := by decide +kernel
theorem dL_book_156 : decode cL_book 156 = .ok (.imul, 1) := by decide +kernel
theorem dL_book_157 : decode cL_book 157 = .ok (.aload_n 0, 1) := by decide +kernel
theorem dL_book_158 : decode cL_book 158 = .ok (.bipush 19, 2) := by decide +kernel
theorem dL_book_160 : decode cL_book 160 = .ok (.iaload, 1) := by decide +kernel
theorem dL_book_161 : decode cL_book 161 = .ok (.iconst 1, 1) := by decide +kernel
theorem dL_book_162 : decode cL_book 162 = .ok (.isub, 1) := by decide +kernel
theorem dL_book_163 : decode cL_book 163 = .ok (.bipush 8, 2) := by decide +kernel
theorem dL_book_165 : decode cL_book 165 = .ok (.irem, 1) := by decide +kernel
theorem dL_book_166 : decode cL_book 166 = .ok (.iadd, 1) := by decide +kernel
theorem dL_book_167 : decode cL_book 167 = .ok (.dup2, 1) := by decide +kernel
theorem dL_book_168 : decode cL_book 168 = .ok (.iaload, 1) := by decide +kernel
theorem dL_book_169 : decode cL_book 169 = .ok (.iload 11, 2) := by decide +kernel
theorem dL_book_171 : decode cL_book 171 = .ok (.iadd, 1) := by decide +kernel
theorem dL_book_172 : decode cL_book 172 = .ok (.iastore, 1) := by decide +kernel
theorem dL_book_173 : decode cL_book 173 = .ok (.iinc 10 1, 3) := by decide +kernel
theorem dL_book_176 : decode cL_book 176 = .ok (.goto (-130), 3) := by decide +kernel
theorem dL_book_179 : decode cL_book 179 = .ok (.aload_n 1, 1) := by decide +kernel
theorem dL_book_180 : decode cL_book 180 = .ok (.iconst 4, 1) := by decide +kernel
theorem dL_book_181 : decode cL_book 181 = .ok (.iload 8, 2) := by decide +kernel
theorem dL_book_183 : decode cL_book 183 = .ok (.imul, 1) := by decide +kernel
theorem dL_book_184 : decode cL_book 184 = .ok (.iconst 3, 1) := by decide +kernel
theorem dL_book_185 : decode cL_book 185 = .ok (.iadd, 1) := by decide +kernel
theorem dL_book_186 : decode cL_book 186 = .ok (.dup2, 1) := by decide +kernel
theorem dL_book_187 : decode cL_book 187 = .ok (.iaload, 1) := by decide +kernel
theorem dL_book_188 : decode cL_book 188 = .ok (.iload 7, 2) := by decide +kernel
theorem dL_book_190 : decode cL_book 190 = .ok (.iload 9, 2) := by decide +kernel
theorem dL_book_192 : decode cL_book 192 = .ok (.isub, 1) := by decide +kernel
theorem dL_book_193 : decode cL_book 193 = .ok (.iadd, 1) := by decide +kernel
theorem dL_book_194 : decode cL_book 194 = .ok (.iastore, 1) := by decide +kernel
theorem dL_book_195 : decode cL_book 195 = .ok (.iload 7, 2) := by decide +kernel
theorem dL_book_197 : decode cL_book 197 = .ok (.ireturn, 1) := by decide +kernel
theorem dL_next_0 : decode cL_next 0 = .ok (.aload_n 0, 1) := by decide +kernel
theorem dL_next_1 : decode cL_next 1 = .ok (.bipush 11, 2) := by decide +kernel
theorem dL_next_3 : decode cL_next 3 = .ok (.iload_n 1, 1) := by decide +kernel
theorem dL_next_4 : decode cL_next 4 = .ok (.iastore, 1) := by decide +kernel
theorem dL_next_5 : decode cL_next 5 = .ok (.bipush 14, 2) := by decide +kernel
theorem dL_next_7 : decode cL_next 7 = .ok (.istore_n 2, 1) := by decide +kernel
theorem dL_next_8 : decode cL_next 8 = .ok (.iload_n 2, 1) := by decide +kernel
theorem dL_next_9 : decode cL_next 9 = .ok (.bipush 19, 2) := by decide +kernel
theorem dL_next_11 : decode cL_next 11 = .ok (.if_icmp .ge 13, 3) := by decide +kernel
theorem dL_next_14 : decode cL_next 14 = .ok (.aload_n 0, 1) := by decide +kernel
theorem dL_next_15 : decode cL_next 15 = .ok (.iload_n 2, 1) := by decide +kernel
theorem dL_next_16 : decode cL_next 16 = .ok (.iconst 0, 1) := by decide +kernel
theorem dL_next_17 : decode cL_next 17 = .ok (.iastore, 1) := by decide +kernel
theorem dL_next_18 : decode cL_next 18 = .ok (.iinc 2 1, 3) := by decide +kernel
theorem dL_next_21 : decode cL_next 21 = .ok (.goto (-13), 3) := by decide +kernel
theorem dL_next_24 : decode cL_next 24 = .ok (.aload_n 0, 1) := by decide +kernel
theorem dL_next_25 : decode cL_next 25 = .ok (.bipush 13, 2) := by decide +kernel
theorem dL_next_27 : decode cL_next 27 = .ok (.iconst 0, 1) := by decide +kernel
theorem dL_next_28 : decode cL_next 28 = .ok (.iastore, 1) := by decide +kernel
theorem dL_next_29 : decode cL_next 29 = .ok (.aload_n 0, 1) := by decide +kernel
theorem dL_next_30 : decode cL_next 30 = .ok (.bipush 9, 2) := by decide +kernel
theorem dL_next_32 : decode cL_next 32 = .ok (.iconst 0, 1) := by decide +kernel
theorem dL_next_33 : decode cL_next 33 = .ok (.iastore, 1) := by decide +kernel
theorem dL_next_34 : decode cL_next 34 = .ok (.aload_n 0, 1) := by decide +kernel
theorem dL_next_35 : decode cL_next 35 = .ok (.iconst 1, 1) := by decide +kernel
theorem dL_next_36 : decode cL_next 36 = .ok (.invokestatic 9, 3) := by decide +kernel
theorem dL_next_39 : decode cL_next 39 = .ok (.return_, 1) := by decide +kernel
theorem dL_end_0 : decode cL_end 0 = .ok (.aload_n 0, 1) := by decide +kernel
theorem dL_end_1 : decode cL_end 1 = .ok (.aload_n 1, 1) := by decide +kernel
theorem dL_end_2 : decode cL_end 2 = .ok (.aload_n 2, 1) := by decide +kernel
theorem dL_end_3 : decode cL_end 3 = .ok (.aload_n 3, 1) := by decide +kernel
theorem dL_end_4 : decode cL_end 4 = .ok (.aload 4, 2) := by decide +kernel
theorem dL_end_6 : decode cL_end 6 = .ok (.aload 5, 2) := by decide +kernel
theorem dL_end_8 : decode cL_end 8 = .ok (.iload 6, 2) := by decide +kernel
theorem dL_end_10 : decode cL_end 10 = .ok (.invokestatic 19, 3) := by decide +kernel
theorem dL_end_13 : decode cL_end 13 = .ok (.istore 7, 2) := by decide +kernel
theorem dL_end_15 : decode cL_end 15 = .ok (.iload 7, 2) := by decide +kernel
theorem dL_end_17 : decode cL_end 17 = .ok (.ifCond .lt 29, 3) := by decide +kernel
theorem dL_end_20 : decode cL_end 20 = .ok (.aload_n 0, 1) := by decide +kernel
theorem dL_end_21 : decode cL_end 21 = .ok (.bipush 11, 2) := by decide +kernel
theorem dL_end_23 : decode cL_end 23 = .ok (.iaload, 1) := by decide +kernel
theorem dL_end_24 : decode cL_end 24 = .ok (.aload_n 0, 1) := by decide +kernel
theorem dL_end_25 : decode cL_end 25 = .ok (.bipush 21, 2) := by decide +kernel
theorem dL_end_27 : decode cL_end 27 = .ok (.iaload, 1) := by decide +kernel
theorem dL_end_28 : decode cL_end 28 = .ok (.iconst 1, 1) := by decide +kernel
theorem dL_end_29 : decode cL_end 29 = .ok (.isub, 1) := by decide +kernel
theorem dL_end_30 : decode cL_end 30 = .ok (.if_icmp .ge 16, 3) := by decide +kernel
theorem dL_end_33 : decode cL_end 33 = .ok (.aload_n 0, 1) := by decide +kernel
theorem dL_end_34 : decode cL_end 34 = .ok (.aload_n 0, 1) := by decide +kernel
theorem dL_end_35 : decode cL_end 35 = .ok (.bipush 11, 2) := by decide +kernel
theorem dL_end_37 : decode cL_end 37 = .ok (.iaload, 1) := by decide +kernel
theorem dL_end_38 : decode cL_end 38 = .ok (.iconst 1, 1) := by decide +kernel
theorem dL_end_39 : decode cL_end 39 = .ok (.iadd, 1) := by decide +kernel
theorem dL_end_40 : decode cL_end 40 = .ok (.invokestatic 23, 3) := by decide +kernel
theorem dL_end_43 : decode cL_end 43 = .ok (.goto 21, 3) := by decide +kernel
theorem dL_end_46 : decode cL_end 46 = .ok (.aload_n 0, 1) := by decide +kernel
theorem dL_end_47 : decode cL_end 47 = .ok (.bipush 20, 2) := by decide +kernel
theorem dL_end_49 : decode cL_end 49 = .ok (.dup2, 1) := by decide +kernel
theorem dL_end_50 : decode cL_end 50 = .ok (.iaload, 1) := by decide +kernel
theorem dL_end_51 : decode cL_end 51 = .ok (.iconst 1, 1) := by decide +kernel
theorem dL_end_52 : decode cL_end 52 = .ok (.iadd, 1) := by decide +kernel
theorem dL_end_53 : decode cL_end 53 = .ok (.iastore, 1) := by decide +kernel
theorem dL_end_54 : decode cL_end 54 = .ok (.aload_n 0, 1) := by decide +kernel
theorem dL_end_55 : decode cL_end 55 = .ok (.bipush 9, 2) := by decide +kernel
theorem dL_end_57 : decode cL_end 57 = .ok (.iconst 0, 1) := by decide +kernel
theorem dL_end_58 : decode cL_end 58 = .ok (.iastore, 1) := by decide +kernel
theorem dL_end_59 : decode cL_end 59 = .ok (.aload_n 0, 1) := by decide +kernel
theorem dL_end_60 : decode cL_end 60 = .ok (.iconst 0, 1) := by decide +kernel
theorem dL_end_61 : decode cL_end 61 = .ok (.invokestatic 9, 3) := by decide +kernel
theorem dL_end_64 : decode cL_end 64 = .ok (.return_, 1) := by decide +kernel
theorem dL_weigh_0 : decode cL_weigh 0 = .ok (.iconst 3, 1) := by decide +kernel
theorem dL_weigh_1 : decode cL_weigh 1 = .ok (.aload_n 0, 1) := by decide +kernel
theorem dL_weigh_2 : decode cL_weigh 2 = .ok (.bipush 11, 2) := by decide +kernel
theorem dL_weigh_4 : decode cL_weigh 4 = .ok (.iaload, 1) := by decide +kernel
theorem dL_weigh_5 : decode cL_weigh 5 = .ok (.imul, 1) := by decide +kernel
theorem dL_weigh_6 : decode cL_weigh 6 = .ok (.istore 7, 2) := by decide +kernel
theorem dL_weigh_8 : decode cL_weigh 8 = .ok (.aload_n 0, 1) := by decide +kernel
theorem dL_weigh_9 : decode cL_weigh 9 = .ok (.invokestatic 15, 3) := by decide +kernel
theorem dL_weigh_12 : decode cL_weigh 12 = .ok (.aload_n 2, 1) := by decide +kernel
theorem dL_weigh_13 : decode cL_weigh 13 = .ok (.iload 7, 2) := by decide +kernel
theorem dL_weigh_15 : decode cL_weigh 15 = .ok (.iconst 1, 1) := by decide +kernel
theorem dL_weigh_16 : decode cL_weigh 16 = .ok (.iadd, 1) := by decide +kernel
theorem dL_weigh_17 : decode cL_weigh 17 = .ok (.iaload, 1) := by decide +kernel
theorem dL_weigh_18 : decode cL_weigh 18 = .ok (.isub, 1) := by decide +kernel
theorem dL_weigh_19 : decode cL_weigh 19 = .ok (.istore 8, 2) := by decide +kernel
theorem dL_weigh_21 : decode cL_weigh 21 = .ok (.aload_n 0, 1) := by decide +kernel
theorem dL_weigh_22 : decode cL_weigh 22 = .ok (.bipush 17, 2) := by decide +kernel
theorem dL_weigh_24 : decode cL_weigh 24 = .ok (.iaload, 1) := by decide +kernel
theorem dL_weigh_25 : decode cL_weigh 25 = .ok (.ifCond .ne 60, 3) := by decide +kernel
theorem dL_weigh_28 : decode cL_weigh 28 = .ok (.aload_n 1, 1) := by decide +kernel
theorem dL_weigh_29 : decode cL_weigh 29 = .ok (.iconst 4, 1) := by decide +kernel
theorem dL_weigh_30 : decode cL_weigh 30 = .ok (.aload_n 2, 1) := by decide +kernel
theorem dL_weigh_31 : decode cL_weigh 31 = .ok (.iload 7, 2) := by decide +kernel
theorem dL_weigh_33 : decode cL_weigh 33 = .ok (.iaload, 1) := by decide +kernel
theorem dL_weigh_34 : decode cL_weigh 34 = .ok (.imul, 1) := by decide +kernel
theorem dL_weigh_35 : decode cL_weigh 35 = .ok (.iconst 1, 1) := by decide +kernel
theorem dL_weigh_36 : decode cL_weigh 36 = .ok (.iadd, 1) := by decide +kernel
theorem dL_weigh_37 : decode cL_weigh 37 = .ok (.iaload, 1) := by decide +kernel
theorem dL_weigh_38 : decode cL_weigh 38 = .ok (.iload 8, 2) := by decide +kernel
theorem dL_weigh_40 : decode cL_weigh 40 = .ok (.iconst 2, 1) := by decide +kernel
theorem dL_weigh_41 : decode cL_weigh 41 = .ok (.ishr, 1) := by decide +kernel
theorem dL_weigh_42 : decode cL_weigh 42 = .ok (.iadd, 1) := by decide +kernel
theorem dL_weigh_43 : decode cL_weigh 43 = .ok (.istore 9, 2) := by decide +kernel
theorem dL_weigh_45 : decode cL_weigh 45 = .ok (.aload_n 1, 1) := by decide +kernel
theorem dL_weigh_46 : decode cL_weigh 46 = .ok (.iconst 4, 1) := by decide +kernel
theorem dL_weigh_47 : decode cL_weigh 47 = .ok (.aload_n 2, 1) := by decide +kernel
theorem dL_weigh_48 : decode cL_weigh 48 = .ok (.iload 7, 2) := by decide +kernel
theorem dL_weigh_50 : decode cL_weigh 50 = .ok (.iaload, 1) := by decide +kernel
theorem dL_weigh_51 : decode cL_weigh 51 = .ok (.imul, 1) := by decide +kernel
theorem dL_weigh_52 : decode cL_weigh 52 = .ok (.iconst 1, 1) := by decide +kernel
theorem dL_weigh_53 : decode cL_weigh 53 = .ok (.iadd, 1) := by decide +kernel
theorem dL_weigh_54 : decode cL_weigh 54 = .ok (.iload 9, 2) := by decide +kernel
theorem dL_weigh_56 : decode cL_weigh 56 = .ok (.sipush 500, 3) := by decide +kernel
theorem dL_weigh_59 : decode cL_weigh 59 = .ok (.if_icmp .le 9, 3) := by decide +kernel
theorem dL_weigh_62 : decode cL_weigh 62 = .ok (.sipush 500, 3) := by decide +kernel
theorem dL_weigh_65 : decode cL_weigh 65 = .ok (.goto 14, 3) := by decide +kernel
theorem dL_weigh_68 : decode cL_weigh 68 = .ok (.iload 9, 2) := by decide +kernel
theorem dL_weigh_70 : decode cL_weigh 70 = .ok (.ifCond .le 8, 3) := by decide +kernel
theorem dL_weigh_73 : decode cL_weigh 73 = .ok (.iload 9, 2) := by decide +kernel
theorem dL_weigh_75 : decode cL_weigh 75 = .ok (.goto 4, 3) := by decide +kernel
theorem dL_weigh_78 : decode cL_weigh 78 = .ok (.iconst 0, 1) := by decide +kernel
theorem dL_weigh_79 : decode cL_weigh 79 = .ok (.iastore, 1) := by decide +kernel
theorem dL_weigh_80 : decode cL_weigh 80 = .ok (.aload_n 0, 1) := by decide +kernel
theorem dL_weigh_81 : decode cL_weigh 81 = .ok (.bipush 17, 2) := by decide +kernel
theorem dL_weigh_83 : decode cL_weigh 83 = .ok (.iconst 1, 1) := by decide +kernel
theorem dL_weigh_84 : decode cL_weigh 84 = .ok (.iastore, 1) := by decide +kernel
theorem dL_weigh_85 : decode cL_weigh 85 = .ok (.iload 8, 2) := by decide +kernel
theorem dL_weigh_87 : decode cL_weigh 87 = .ok (.aload_n 2, 1) := by decide +kernel
theorem dL_weigh_88 : decode cL_weigh 88 = .ok (.iload 7, 2) := by decide +kernel
theorem dL_weigh_90 : decode cL_weigh 90 = .ok (.iconst 2, 1) := by decide +kernel
theorem dL_weigh_91 : decode cL_weigh 91 = .ok (.iadd, 1) := by decide +kernel
theorem dL_weigh_92 : decode cL_weigh 92 = .ok (.iaload, 1) := by decide +kernel
theorem dL_weigh_93 : decode cL_weigh 93 = .ok (.iadd, 1) := by decide +kernel
theorem dL_weigh_94 : decode cL_weigh 94 = .ok (.ifCond .ge 19, 3) := by decide +kernel
theorem dL_weigh_97 : decode cL_weigh 97 = .ok (.aload_n 0, 1) := by decide +kernel
theorem dL_weigh_98 : decode cL_weigh 98 = .ok (.bipush 15, 2) := by decide +kernel
theorem dL_weigh_100 : decode cL_weigh 100 = .ok (.iaload, 1) := by decide +kernel
theorem dL_weigh_101 : decode cL_weigh 101 = .ok (.iconst 5, 1) := by decide +kernel
theorem dL_weigh_102 : decode cL_weigh 102 = .ok (.if_icmp .ne 11, 3) := by decide +kernel
theorem dL_weigh_105 : decode cL_weigh 105 = .ok (.aload_n 0, 1) := by decide +kernel
theorem dL_weigh_106 : decode cL_weigh 106 = .ok (.iconst 1, 1) := by decide +kernel
theorem dL_weigh_107 : decode cL_weigh 107 = .ok (.invokestatic 26, 3) := by decide +kernel
theorem dL_weigh_110 : decode cL_weigh 110 = .ok (.goto 64, 3) := by decide +kernel
theorem dL_weigh_113 : decode cL_weigh 113 = .ok (.iload 8, 2) := by decide +kernel
theorem dL_weigh_115 : decode cL_weigh 115 = .ok (.aload_n 2, 1) := by decide +kernel
theorem dL_weigh_116 : decode cL_weigh 116 = .ok (.iload 7, 2) := by decide +kernel
theorem dL_weigh_118 : decode cL_weigh 118 = .ok (.iconst 2, 1) := by decide +kernel
theorem dL_weigh_119 : decode cL_weigh 119 = .ok (.iadd, 1) := by decide +kernel
theorem dL_weigh_120 : decode cL_weigh 120 = .ok (.iaload, 1) := by decide +kernel
theorem dL_weigh_121 : decode cL_weigh 121 = .ok (.iadd, 1) := by decide +kernel
theorem dL_weigh_122 : decode cL_weigh 122 = .ok (.ifCond .ge 19, 3) := by decide +kernel
theorem dL_weigh_125 : decode cL_weigh 125 = .ok (.aload_n 0, 1) := by decide +kernel
theorem dL_weigh_126 : decode cL_weigh 126 = .ok (.bipush 15, 2) := by decide +kernel
theorem dL_weigh_128 : decode cL_weigh 128 = .ok (.dup2, 1) := by decide +kernel
theorem dL_weigh_129 : decode cL_weigh 129 = .ok (.iaload, 1) := by decide +kernel
theorem dL_weigh_130 : decode cL_weigh 130 = .ok (.iconst 1, 1) := by decide +kernel
theorem dL_weigh_131 : decode cL_weigh 131 = .ok (.iadd, 1) := by decide +kernel
theorem dL_weigh_132 : decode cL_weigh 132 = .ok (.iastore, 1) := by decide +kernel
theorem dL_weigh_133 : decode cL_weigh 133 = .ok (.aload_n 0, 1) := by decide +kernel
theorem dL_weigh_134 : decode cL_weigh 134 = .ok (.iconst 5, 1) := by decide +kernel
theorem dL_weigh_135 : decode cL_weigh 135 = .ok (.invokestatic 9, 3) := by decide +kernel
theorem dL_weigh_138 : decode cL_weigh 138 = .ok (.goto 36, 3) := by decide +kernel
theorem dL_weigh_141 : decode cL_weigh 141 = .ok (.iload 8, 2) := by decide +kernel
theorem dL_weigh_143 : decode cL_weigh 143 = .ok (.aload_n 2, 1) := by decide +kernel
theorem dL_weigh_144 : decode cL_weigh 144 = .ok (.iload 7, 2) := by decide +kernel
theorem dL_weigh_146 : decode cL_weigh 146 = .ok (.iconst 2, 1) := by decide +kernel
theorem dL_weigh_147 : decode cL_weigh 147 = .ok (.iadd, 1) := by decide +kernel
theorem dL_weigh_148 : decode cL_weigh 148 = .ok (.iaload, 1) := by decide +kernel
theorem dL_weigh_149 : decode cL_weigh 149 = .ok (.isub, 1) := by decide +kernel
theorem dL_weigh_150 : decode cL_weigh 150 = .ok (.ifCond .le 11, 3) := by decide +kernel
theorem dL_weigh_153 : decode cL_weigh 153 = .ok (.aload_n 0, 1) := by decide +kernel
theorem dL_weigh_154 : decode cL_weigh 154 = .ok (.iconst 2, 1) := by decide +kernel
theorem dL_weigh_155 : decode cL_weigh 155 = .ok (.invokestatic 26, 3) := by decide +kernel
theorem dL_weigh_158 : decode cL_weigh 158 = .ok (.goto 16, 3) := by decide +kernel
theorem dL_weigh_161 : decode cL_weigh 161 = .ok (.aload_n 0, 1) := by decide +kernel
theorem dL_weigh_162 : decode cL_weigh 162 = .ok (.aload_n 1, 1) := by decide +kernel
theorem dL_weigh_163 : decode cL_weigh 163 = .ok (.aload_n 2, 1) := by decide +kernel
theorem dL_weigh_164 : decode cL_weigh 164 = .ok (.aload_n 3, 1) := by decide +kernel
theorem dL_weigh_165 : decode cL_weigh 165 = .ok (.aload 4, 2) := by decide +kernel
theorem dL_weigh_167 : decode cL_weigh 167 = .ok (.aload 5, 2) := by decide +kernel
theorem dL_weigh_169 : decode cL_weigh 169 = .ok (.iload 6, 2) := by decide +kernel
theorem dL_weigh_171 : decode cL_weigh 171 = .ok (.invokestatic 29, 3) := by decide +kernel
theorem dL_weigh_174 : decode cL_weigh 174 = .ok (.return_, 1) := by decide +kernel
theorem dL_bring_0 : decode cL_bring 0 = .ok (.iconst 3, 1) := by decide +kernel
theorem dL_bring_1 : decode cL_bring 1 = .ok (.istore 8, 2) := by decide +kernel
theorem dL_bring_3 : decode cL_bring 3 = .ok (.iload 8, 2) := by decide +kernel
theorem dL_bring_5 : decode cL_bring 5 = .ok (.ifCond .le 19, 3) := by decide +kernel
theorem dL_bring_8 : decode cL_bring 8 = .ok (.aload_n 0, 1) := by decide +kernel
theorem dL_bring_9 : decode cL_bring 9 = .ok (.iload 8, 2) := by decide +kernel
theorem dL_bring_11 : decode cL_bring 11 = .ok (.aload_n 0, 1) := by decide +kernel
theorem dL_bring_12 : decode cL_bring 12 = .ok (.iload 8, 2) := by decide +kernel
theorem dL_bring_14 : decode cL_bring 14 = .ok (.iconst 1, 1) := by decide +kernel
theorem dL_bring_15 : decode cL_bring 15 = .ok (.isub, 1) := by decide +kernel
theorem dL_bring_16 : decode cL_bring 16 = .ok (.iaload, 1) := by decide +kernel
theorem dL_bring_17 : decode cL_bring 17 = .ok (.iastore, 1) := by decide +kernel
theorem dL_bring_18 : decode cL_bring 18 = .ok (.iinc 8 (-1), 3) := by decide +kernel
theorem dL_bring_21 : decode cL_bring 21 = .ok (.goto (-18), 3) := by decide +kernel
theorem dL_bring_24 : decode cL_bring 24 = .ok (.aload_n 0, 1) := by decide +kernel
theorem dL_bring_25 : decode cL_bring 25 = .ok (.iconst 0, 1) := by decide +kernel
theorem dL_bring_26 : decode cL_bring 26 = .ok (.iload 7, 2) := by decide +kernel
theorem dL_bring_28 : decode cL_bring 28 = .ok (.iastore, 1) := by decide +kernel
theorem dL_bring_29 : decode cL_bring 29 = .ok (.aload_n 0, 1) := by decide +kernel
theorem dL_bring_30 : decode cL_bring 30 = .ok (.iconst 4, 1) := by decide +kernel
theorem dL_bring_31 : decode cL_bring 31 = .ok (.dup2, 1) := by decide +kernel
theorem dL_bring_32 : decode cL_bring 32 = .ok (.iaload, 1) := by decide +kernel
theorem dL_bring_33 : decode cL_bring 33 = .ok (.iconst 1, 1) := by decide +kernel
theorem dL_bring_34 : decode cL_bring 34 = .ok (.iadd, 1) := by decide +kernel
theorem dL_bring_35 : decode cL_bring 35 = .ok (.iastore, 1) := by decide +kernel
theorem dL_bring_36 : decode cL_bring 36 = .ok (.aload_n 0, 1) := by decide +kernel
theorem dL_bring_37 : decode cL_bring 37 = .ok (.bipush 8, 2) := by decide +kernel
theorem dL_bring_39 : decode cL_bring 39 = .ok (.iaload, 1) := by decide +kernel
theorem dL_bring_40 : decode cL_bring 40 = .ok (.istore 8, 2) := by decide +kernel
theorem dL_bring_42 : decode cL_bring 42 = .ok (.iload 7, 2) := by decide +kernel
theorem dL_bring_44 : decode cL_bring 44 = .ok (.aload_n 0, 1) := by decide +kernel
theorem dL_bring_45 : decode cL_bring 45 = .ok (.iconst 5, 1) := by decide +kernel
theorem dL_bring_46 : decode cL_bring 46 = .ok (.iaload, 1) := by decide +kernel
theorem dL_bring_47 : decode cL_bring 47 = .ok (.isub, 1) := by decide +kernel
theorem dL_bring_48 : decode cL_bring 48 = .ok (.istore 9, 2) := by decide +kernel
theorem dL_bring_50 : decode cL_bring 50 = .ok (.aload_n 0, 1) := by decide +kernel
theorem dL_bring_51 : decode cL_bring 51 = .ok (.iconst 4, 1) := by decide +kernel
theorem dL_bring_52 : decode cL_bring 52 = .ok (.iaload, 1) := by decide +kernel
theorem dL_bring_53 : decode cL_bring 53 = .ok (.aload_n 0, 1) := by decide +kernel
theorem dL_bring_54 : decode cL_bring 54 = .ok (.bipush 12, 2) := by decide +kernel
theorem dL_bring_56 : decode cL_bring 56 = .ok (.iaload, 1) := by decide +kernel
theorem dL_bring_57 : decode cL_bring 57 = .ok (.isub, 1) := by decide +kernel
theorem dL_bring_58 : decode cL_bring 58 = .ok (.istore 10, 2) := by decide +kernel
theorem dL_bring_60 : decode cL_bring 60 = .ok (.iload 8, 2) := by decide +kernel
theorem dL_bring_62 : decode cL_bring 62 = .ok (.ifCond .ne 89, 3) := by decide +kernel
theorem dL_bring_65 : decode cL_bring 65 = .ok (.iload 9, 2) := by decide +kernel
theorem dL_bring_67 : decode cL_bring 67 = .ok (.ifCond .le 11, 3) := by decide +kernel
theorem dL_bring_70 : decode cL_bring 70 = .ok (.aload_n 0, 1) := by decide +kernel
theorem dL_bring_71 : decode cL_bring 71 = .ok (.iconst 5, 1) := by decide +kernel
theorem dL_bring_72 : decode cL_bring 72 = .ok (.iaload, 1) := by decide +kernel
theorem dL_bring_73 : decode cL_bring 73 = .ok (.iconst 1, 1) := by decide +kernel
theorem dL_bring_74 : decode cL_bring 74 = .ok (.iadd, 1) := by decide +kernel
theorem dL_bring_75 : decode cL_bring 75 = .ok (.goto 8, 3) := by decide +kernel
theorem dL_bring_78 : decode cL_bring 78 = .ok (.aload_n 0, 1) := by decide +kernel
theorem dL_bring_79 : decode cL_bring 79 = .ok (.iconst 5, 1) := by decide +kernel
theorem dL_bring_80 : decode cL_bring 80 = .ok (.iaload, 1) := by decide +kernel
theorem dL_bring_81 : decode cL_bring 81 = .ok (.iconst 1, 1) := by decide +kernel
theorem dL_bring_82 : decode cL_bring 82 = .ok (.isub, 1) := by decide +kernel
theorem dL_bring_83 : decode cL_bring 83 = .ok (.istore 11, 2) := by decide +kernel
theorem dL_bring_85 : decode cL_bring 85 = .ok (.aload_n 0, 1) := by decide +kernel
theorem dL_bring_86 : decode cL_bring 86 = .ok (.invokestatic 33, 3) := by decide +kernel
theorem dL_bring_89 : decode cL_bring 89 = .ok (.ifCond .eq 42, 3) := by decide +kernel
theorem dL_bring_92 : decode cL_bring 92 = .ok (.iload 9, 2) := by decide +kernel
theorem dL_bring_94 : decode cL_bring 94 = .ok (.ifCond .eq 37, 3) := by decide +kernel
theorem dL_bring_97 : decode cL_bring 97 = .ok (.iload 9, 2) := by decide +kernel
theorem dL_bring_99 : decode cL_bring 99 = .ok (.bipush 11, 2) := by decide +kernel
theorem dL_bring_101 : decode cL_bring 101 = .ok (.if_icmp .ge 30, 3) := by decide +kernel
theorem dL_bring_104 : decode cL_bring 104 = .ok (.iload 9, 2) := by decide +kernel
theorem dL_bring_106 : decode cL_bring 106 = .ok (.bipush (-11), 2) := by decide +kernel
theorem dL_bring_108 : decode cL_bring 108 = .ok (.if_icmp .le 23, 3) := by decide +kernel
theorem dL_bring_111 : decode cL_bring 111 = .ok (.iload 11, 2) := by decide +kernel
theorem dL_bring_113 : decode cL_bring 113 = .ok (.sipush 501, 3) := by decide +kernel
theorem dL_bring_116 : decode cL_bring 116 = .ok (.if_icmp .ge 15, 3) := by decide +kernel
theorem dL_bring_119 : decode cL_bring 119 = .ok (.iload 11, 2) := by decide +kernel
theorem dL_bring_121 : decode cL_bring 121 = .ok (.sipush (-501), 3) := by decide +kernel
theorem dL_bring_124 : decode cL_bring 124 = .ok (.if_icmp .le 7, 3) := by decide +kernel
theorem dL_bring_127 : decode cL_bring 127 = .ok (.iconst 1, 1) := by decide +kernel
theorem dL_bring_128 : decode cL_bring 128 = .ok (.goto 4, 3) := by decide +kernel
theorem dL_bring_131 : decode cL_bring 131 = .ok (.iconst 0, 1) := by decide +kernel
theorem dL_bring_132 : decode cL_bring 132 = .ok (.istore 12, 2) := by decide +kernel
theorem dL_bring_134 : decode cL_bring 134 = .ok (.aload_n 0, 1) := by decide +kernel
theorem dL_bring_135 : decode cL_bring 135 = .ok (.iconst 5, 1) := by decide +kernel
theorem dL_bring_136 : decode cL_bring 136 = .ok (.iload 12, 2) := by decide +kernel
theorem dL_bring_138 : decode cL_bring 138 = .ok (.ifCond .eq 8, 3) := by decide +kernel
theorem dL_bring_141 : decode cL_bring 141 = .ok (.iload 11, 2) := by decide +kernel
theorem dL_bring_143 : decode cL_bring 143 = .ok (.goto 6, 3) := by decide +kernel
theorem dL_bring_146 : decode cL_bring 146 = .ok (.aload_n 0, 1) := by decide +kernel
theorem dL_bring_147 : decode cL_bring 147 = .ok (.iconst 5, 1) := by decide +kernel
theorem dL_bring_148 : decode cL_bring 148 = .ok (.iaload, 1) := by decide +kernel
theorem dL_bring_149 : decode cL_bring 149 = .ok (.iastore, 1) := by decide +kernel
theorem dL_bring_150 : decode cL_bring 150 = .ok (.return_, 1) := by decide +kernel
theorem dL_bring_151 : decode cL_bring 151 = .ok (.iload 8, 2) := by decide +kernel
theorem dL_bring_153 : decode cL_bring 153 = .ok (.bipush 6, 2) := by decide +kernel
theorem dL_bring_155 : decode cL_bring 155 = .ok (.if_icmp .ne 7, 3) := by decide +kernel
theorem dL_bring_158 : decode cL_bring 158 = .ok (.iconst 0, 1) := by decide +kernel
theorem dL_bring_159 : decode cL_bring 159 = .ok (.goto 13, 3) := by decide +kernel
theorem dL_bring_162 : decode cL_bring 162 = .ok (.iconst 4, 1) := by decide +kernel
theorem dL_bring_163 : decode cL_bring 163 = .ok (.aload_n 2, 1) := by decide +kernel
theorem dL_bring_164 : decode cL_bring 164 = .ok (.iconst 3, 1) := by decide +kernel
theorem dL_bring_165 : decode cL_bring 165 = .ok (.aload_n 0, 1) := by decide +kernel
theorem dL_bring_166 : decode cL_bring 166 = .ok (.bipush 11, 2) := by decide +kernel
theorem dL_bring_168 : decode cL_bring 168 = .ok (.iaload, 1) := by decide +kernel
theorem dL_bring_169 : decode cL_bring 169 = .ok (.imul, 1) := by decide +kernel
theorem dL_bring_170 : decode cL_bring 170 = .ok (.iaload, 1) := by decide +kernel
theorem dL_bring_171 : decode cL_bring 171 = .ok (.imul, 1) := by decide +kernel
theorem dL_bring_172 : decode cL_bring 172 = .ok (.istore 11, 2) := by decide +kernel
theorem dL_bring_174 : decode cL_bring 174 = .ok (.iload 8, 2) := by decide +kernel
theorem dL_bring_176 : decode cL_bring 176 = .ok (.bipush 6, 2) := by decide +kernel
theorem dL_bring_178 : decode cL_bring 178 = .ok (.if_icmp .ne 7, 3) := by decide +kernel
theorem dL_bring_181 : decode cL_bring 181 = .ok (.iconst 0, 1) := by decide +kernel
theorem dL_bring_182 : decode cL_bring 182 = .ok (.goto 13, 3) := by decide +kernel
theorem dL_bring_185 : decode cL_bring 185 = .ok (.aload_n 2, 1) := by decide +kernel
theorem dL_bring_186 : decode cL_bring 186 = .ok (.iconst 3, 1) := by decide +kernel
theorem dL_bring_187 : decode cL_bring 187 = .ok (.aload_n 0, 1) := by decide +kernel
theorem dL_bring_188 : decode cL_bring 188 = .ok (.bipush 11, 2) := by decide +kernel
theorem dL_bring_190 : decode cL_bring 190 = .ok (.iaload, 1) := by decide +kernel
theorem dL_bring_191 : decode cL_bring 191 = .ok (.imul, 1) := by decide +kernel
theorem dL_bring_192 : decode cL_bring 192 = .ok (.iconst 1, 1) := by decide +kernel
theorem dL_bring_193 : decode cL_bring 193 = .ok (.iadd, 1) := by decide +kernel
theorem dL_bring_194 : decode cL_bring 194 = .ok (.iaload, 1) := by decide +kernel
theorem dL_bring_195 : decode cL_bring 195 = .ok (.istore 12, 2) := by decide +kernel
theorem dL_bring_197 : decode cL_bring 197 = .ok (.aload_n 0, 1) := by decide +kernel
theorem dL_bring_198 : decode cL_bring 198 = .ok (.invokestatic 15, 3) := by decide +kernel
theorem dL_bring_201 : decode cL_bring 201 = .ok (.istore 13, 2) := by decide +kernel
theorem dL_bring_203 : decode cL_bring 203 = .ok (.iload 8, 2) := by decide +kernel
theorem dL_bring_205 : decode cL_bring 205 = .ok (.iconst 1, 1) := by decide +kernel
theorem dL_bring_206 : decode cL_bring 206 = .ok (.if_icmp .ne 39, 3) := by decide +kernel
theorem dL_bring_209 : decode cL_bring 209 = .ok (.aload_n 0, 1) := by decide +kernel
theorem dL_bring_210 : decode cL_bring 210 = .ok (.invokestatic 33, 3) := by decide +kernel
theorem dL_bring_213 : decode cL_bring 213 = .ok (.ifCond .eq 32, 3) := by decide +kernel
theorem dL_bring_216 : decode cL_bring 216 = .ok (.aload_n 0, 1) := by decide +kernel
theorem dL_bring_217 : decode cL_bring 217 = .ok (.bipush 6, 2) := by decide +kernel
theorem dL_bring_219 : decode cL_bring 219 = .ok (.iload 9, 2) := by decide +kernel
theorem dL_bring_221 : decode cL_bring 221 = .ok (.iastore, 1) := by decide +kernel
theorem dL_bring_222 : decode cL_bring 222 = .ok (.aload_n 0, 1) := by decide +kernel
theorem dL_bring_223 : decode cL_bring 223 = .ok (.bipush 18, 2) := by decide +kernel
theorem dL_bring_225 : decode cL_bring 225 = .ok (.iconst 1, 1) := by decide +kernel
theorem dL_bring_226 : decode cL_bring 226 = .ok (.iastore, 1) := by decide +kernel
theorem dL_bring_227 : decode cL_bring 227 = .ok (.aload_n 0, 1) := by decide +kernel
theorem dL_bring_228 : decode cL_bring 228 = .ok (.iload 12, 2) := by decide +kernel
theorem dL_bring_230 : decode cL_bring 230 = .ok (.aload_n 1, 1) := by decide +kernel
theorem dL_bring_231 : decode cL_bring 231 = .ok (.iload 11, 2) := by decide +kernel
theorem dL_bring_233 : decode cL_bring 233 = .ok (.iaload, 1) := by decide +kernel
theorem dL_bring_234 : decode cL_bring 234 = .ok (.if_icmp .gt 7, 3) := by decide +kernel
theorem dL_bring_237 : decode cL_bring 237 = .ok (.iconst 3, 1) := by decide +kernel
theorem dL_bring_238 : decode cL_bring 238 = .ok (.goto 4, 3) := by decide +kernel
theorem dL_bring_241 : decode cL_bring 241 = .ok (.iconst 2, 1) := by decide +kernel
theorem dL_bring_242 : decode cL_bring 242 = .ok (.invokestatic 9, 3) := by decide +kernel
theorem dL_bring_245 : decode cL_bring 245 = .ok (.iload 8, 2) := by decide +kernel
theorem dL_bring_247 : decode cL_bring 247 = .ok (.iconst 2, 1) := by decide +kernel
theorem dL_bring_248 : decode cL_bring 248 = .ok (.if_icmp .eq 9, 3) := by decide +kernel
theorem dL_bring_251 : decode cL_bring 251 = .ok (.iload 8, 2) := by decide +kernel
theorem dL_bring_253 : decode cL_bring 253 = .ok (.iconst 3, 1) := by decide +kernel
theorem dL_bring_254 : decode cL_bring 254 = .ok (.if_icmp .ne 125, 3) := by decide +kernel
theorem dL_bring_257 : decode cL_bring 257 = .ok (.aload_n 0, 1) := by decide +kernel
theorem dL_bring_258 : decode cL_bring 258 = .ok (.bipush 14, 2) := by decide +kernel
theorem dL_bring_260 : decode cL_bring 260 = .ok (.dup2, 1) := by decide +kernel
theorem dL_bring_261 : decode cL_bring 261 = .ok (.iaload, 1) := by decide +kernel
theorem dL_bring_262 : decode cL_bring 262 = .ok (.iconst 1, 1) := by decide +kernel
theorem dL_bring_263 : decode cL_bring 263 = .ok (.iadd, 1) := by decide +kernel
theorem dL_bring_264 : decode cL_bring 264 = .ok (.iastore, 1) := by decide +kernel
theorem dL_bring_265 : decode cL_bring 265 = .ok (.iload 13, 2) := by decide +kernel
theorem dL_bring_267 : decode cL_bring 267 = .ok (.aload_n 0, 1) := by decide +kernel
theorem dL_bring_268 : decode cL_bring 268 = .ok (.bipush 16, 2) := by decide +kernel
theorem dL_bring_270 : decode cL_bring 270 = .ok (.iaload, 1) := by decide +kernel
theorem dL_bring_271 : decode cL_bring 271 = .ok (.if_icmp .le 7, 3) := by decide +kernel
theorem dL_bring_274 : decode cL_bring 274 = .ok (.iconst 1, 1) := by decide +kernel
theorem dL_bring_275 : decode cL_bring 275 = .ok (.goto 4, 3) := by decide +kernel
theorem dL_bring_278 : decode cL_bring 278 = .ok (.iconst 0, 1) := by decide +kernel
theorem dL_bring_279 : decode cL_bring 279 = .ok (.istore 14, 2) := by decide +kernel
theorem dL_bring_281 : decode cL_bring 281 = .ok (.aload_n 0, 1) := by decide +kernel
theorem dL_bring_282 : decode cL_bring 282 = .ok (.bipush 16, 2) := by decide +kernel
theorem dL_bring_284 : decode cL_bring 284 = .ok (.iload 14, 2) := by decide +kernel
theorem dL_bring_286 : decode cL_bring 286 = .ok (.ifCond .eq 8, 3) := by decide +kernel
theorem dL_bring_289 : decode cL_bring 289 = .ok (.iload 13, 2) := by decide +kernel
theorem dL_bring_291 : decode cL_bring 291 = .ok (.goto 7, 3) := by decide +kernel
theorem dL_bring_294 : decode cL_bring 294 = .ok (.aload_n 0, 1) := by decide +kernel
theorem dL_bring_295 : decode cL_bring 295 = .ok (.bipush 16, 2) := by decide +kernel
theorem dL_bring_297 : decode cL_bring 297 = .ok (.iaload, 1) := by decide +kernel
theorem dL_bring_298 : decode cL_bring 298 = .ok (.iastore, 1) := by decide +kernel
theorem dL_bring_299 : decode cL_bring 299 = .ok (.aload_n 0, 1) := by decide +kernel
theorem dL_bring_300 : decode cL_bring 300 = .ok (.bipush 13, 2) := by decide +kernel
theorem dL_bring_302 : decode cL_bring 302 = .ok (.iload 14, 2) := by decide +kernel
theorem dL_bring_304 : decode cL_bring 304 = .ok (.ifCond .eq 10, 3) := by decide +kernel
theorem dL_bring_307 : decode cL_bring 307 = .ok (.aload_n 0, 1) := by decide +kernel
theorem dL_bring_308 : decode cL_bring 308 = .ok (.bipush 14, 2) := by decide +kernel
theorem dL_bring_310 : decode cL_bring 310 = .ok (.iaload, 1) := by decide +kernel
theorem dL_bring_311 : decode cL_bring 311 = .ok (.goto 7, 3) := by decide +kernel
theorem dL_bring_314 : decode cL_bring 314 = .ok (.aload_n 0, 1) := by decide +kernel
theorem dL_bring_315 : decode cL_bring 315 = .ok (.bipush 13, 2) := by decide +kernel
theorem dL_bring_317 : decode cL_bring 317 = .ok (.iaload, 1) := by decide +kernel
theorem dL_bring_318 : decode cL_bring 318 = .ok (.iastore, 1) := by decide +kernel
theorem dL_bring_319 : decode cL_bring 319 = .ok (.iload 13, 2) := by decide +kernel
theorem dL_bring_321 : decode cL_bring 321 = .ok (.iload 12, 2) := by decide +kernel
theorem dL_bring_323 : decode cL_bring 323 = .ok (.isub, 1) := by decide +kernel
theorem dL_bring_324 : decode cL_bring 324 = .ok (.aload_n 1, 1) := by decide +kernel
theorem dL_bring_325 : decode cL_bring 325 = .ok (.iload 8, 2) := by decide +kernel
theorem dL_bring_327 : decode cL_bring 327 = .ok (.iconst 2, 1) := by decide +kernel
theorem dL_bring_328 : decode cL_bring 328 = .ok (.if_icmp .ne 8, 3) := by decide +kernel
theorem dL_bring_331 : decode cL_bring 331 = .ok (.iload 11, 2) := by decide +kernel
theorem dL_bring_333 : decode cL_bring 333 = .ok (.goto 7, 3) := by decide +kernel
theorem dL_bring_336 : decode cL_bring 336 = .ok (.iload 11, 2) := by decide +kernel
theorem dL_bring_338 : decode cL_bring 338 = .ok (.iconst 1, 1) := by decide +kernel
theorem dL_bring_339 : decode cL_bring 339 = .ok (.iadd, 1) := by decide +kernel
theorem dL_bring_340 : decode cL_bring 340 = .ok (.iaload, 1) := by decide +kernel
theorem dL_bring_341 : decode cL_bring 341 = .ok (.iadd, 1) := by decide +kernel
theorem dL_bring_342 : decode cL_bring 342 = .ok (.istore 15, 2) := by decide +kernel
theorem dL_bring_344 : decode cL_bring 344 = .ok (.iload 15, 2) := by decide +kernel
theorem dL_bring_346 : decode cL_bring 346 = .ok (.ifCond .lt 14, 3) := by decide +kernel
theorem dL_bring_349 : decode cL_bring 349 = .ok (.aload_n 0, 1) := by decide +kernel
theorem dL_bring_350 : decode cL_bring 350 = .ok (.iload 8, 2) := by decide +kernel
theorem dL_bring_352 : decode cL_bring 352 = .ok (.iconst 1, 1) := by decide +kernel
theorem dL_bring_353 : decode cL_bring 353 = .ok (.iadd, 1) := by decide +kernel
theorem dL_bring_354 : decode cL_bring 354 = .ok (.invokestatic 9, 3) := by decide +kernel
theorem dL_bring_357 : decode cL_bring 357 = .ok (.goto 22, 3) := by decide +kernel
theorem dL_bring_360 : decode cL_bring 360 = .ok (.aload_n 0, 1) := by decide +kernel
theorem dL_bring_361 : decode cL_bring 361 = .ok (.bipush 14, 2) := by decide +kernel
theorem dL_bring_363 : decode cL_bring 363 = .ok (.iaload, 1) := by decide +kernel
theorem dL_bring_364 : decode cL_bring 364 = .ok (.aload_n 0, 1) := by decide +kernel
theorem dL_bring_365 : decode cL_bring 365 = .ok (.bipush 13, 2) := by decide +kernel
theorem dL_bring_367 : decode cL_bring 367 = .ok (.iaload, 1) := by decide +kernel
theorem dL_bring_368 : decode cL_bring 368 = .ok (.isub, 1) := by decide +kernel
theorem dL_bring_369 : decode cL_bring 369 = .ok (.bipush 20, 2) := by decide +kernel
theorem dL_bring_371 : decode cL_bring 371 = .ok (.if_icmp .lt 8, 3) := by decide +kernel
theorem dL_bring_374 : decode cL_bring 374 = .ok (.aload_n 0, 1) := by decide +kernel
theorem dL_bring_375 : decode cL_bring 375 = .ok (.iconst 3, 1) := by decide +kernel
theorem dL_bring_376 : decode cL_bring 376 = .ok (.invokestatic 26, 3) := by decide +kernel
theorem dL_bring_379 : decode cL_bring 379 = .ok (.iload 8, 2) := by decide +kernel
theorem dL_bring_381 : decode cL_bring 381 = .ok (.iconst 4, 1) := by decide +kernel
theorem dL_bring_382 : decode cL_bring 382 = .ok (.if_icmp .ne 29, 3) := by decide +kernel
theorem dL_bring_385 : decode cL_bring 385 = .ok (.iload 10, 2) := by decide +kernel
theorem dL_bring_387 : decode cL_bring 387 = .ok (.iconst 3, 1) := by decide +kernel
theorem dL_bring_388 : decode cL_bring 388 = .ok (.if_icmp .le 23, 3) := by decide +kernel
theorem dL_bring_391 : decode cL_bring 391 = .ok (.aload_n 0, 1) := by decide +kernel
theorem dL_bring_392 : decode cL_bring 392 = .ok (.invokestatic 33, 3) := by decide +kernel
theorem dL_bring_395 : decode cL_bring 395 = .ok (.ifCond .eq 16, 3) := by decide +kernel
theorem dL_bring_398 : decode cL_bring 398 = .ok (.aload_n 0, 1) := by decide +kernel
theorem dL_bring_399 : decode cL_bring 399 = .ok (.aload_n 1, 1) := by decide +kernel
theorem dL_bring_400 : decode cL_bring 400 = .ok (.aload_n 2, 1) := by decide +kernel
theorem dL_bring_401 : decode cL_bring 401 = .ok (.aload_n 3, 1) := by decide +kernel
theorem dL_bring_402 : decode cL_bring 402 = .ok (.aload 4, 2) := by decide +kernel
theorem dL_bring_404 : decode cL_bring 404 = .ok (.aload 5, 2) := by decide +kernel
theorem dL_bring_406 : decode cL_bring 406 = .ok (.iload 6, 2) := by decide +kernel
theorem dL_bring_408 : decode cL_bring 408 = .ok (.invokestatic 37, 3) := by decide +kernel
theorem dL_bring_411 : decode cL_bring 411 = .ok (.iload 8, 2) := by decide +kernel
theorem dL_bring_413 : decode cL_bring 413 = .ok (.iconst 5, 1) := by decide +kernel
theorem dL_bring_414 : decode cL_bring 414 = .ok (.if_icmp .ne 14, 3) := by decide +kernel
theorem dL_bring_417 : decode cL_bring 417 = .ok (.iload 10, 2) := by decide +kernel
theorem dL_bring_419 : decode cL_bring 419 = .ok (.iconst 1, 1) := by decide +kernel
theorem dL_bring_420 : decode cL_bring 420 = .ok (.if_icmp .le 8, 3) := by decide +kernel
theorem dL_bring_423 : decode cL_bring 423 = .ok (.aload_n 0, 1) := by decide +kernel
theorem dL_bring_424 : decode cL_bring 424 = .ok (.iconst 4, 1) := by decide +kernel
theorem dL_bring_425 : decode cL_bring 425 = .ok (.invokestatic 9, 3) := by decide +kernel
theorem dL_bring_428 : decode cL_bring 428 = .ok (.return_, 1) := by decide +kernel
theorem dL_isTold_0 : decode cL_isTold 0 = .ok (.aload_n 0, 1) := by decide +kernel
theorem dL_isTold_1 : decode cL_isTold 1 = .ok (.invokevirtual 40, 3) := by decide +kernel
theorem dL_isTold_4 : decode cL_isTold 4 = .ok (.aload_n 1, 1) := by decide +kernel
theorem dL_isTold_5 : decode cL_isTold 5 = .ok (.iconst 0, 1) := by decide +kernel
theorem dL_isTold_6 : decode cL_isTold 6 = .ok (.iaload, 1) := by decide +kernel
theorem dL_isTold_7 : decode cL_isTold 7 = .ok (.aload_n 1, 1) := by decide +kernel
theorem dL_isTold_8 : decode cL_isTold 8 = .ok (.iconst 5, 1) := by decide +kernel
theorem dL_isTold_9 : decode cL_isTold 9 = .ok (.iaload, 1) := by decide +kernel
theorem dL_isTold_10 : decode cL_isTold 10 = .ok (.isub, 1) := by decide +kernel
theorem dL_isTold_11 : decode cL_isTold 11 = .ok (.if_icmp .ne 130, 3) := by decide +kernel
theorem dL_isTold_14 : decode cL_isTold 14 = .ok (.aload_n 0, 1) := by decide +kernel
theorem dL_isTold_15 : decode cL_isTold 15 = .ok (.invokevirtual 46, 3) := by decide +kernel
theorem dL_isTold_18 : decode cL_isTold 18 = .ok (.aload_n 1, 1) := by decide +kernel
theorem dL_isTold_19 : decode cL_isTold 19 = .ok (.invokestatic 15, 3) := by decide +kernel
theorem dL_isTold_22 : decode cL_isTold 22 = .ok (.if_icmp .ne 119, 3) := by decide +kernel
theorem dL_isTold_25 : decode cL_isTold 25 = .ok (.aload_n 0, 1) := by decide +kernel
theorem dL_isTold_26 : decode cL_isTold 26 = .ok (.invokevirtual 48, 3) := by decide +kernel
theorem dL_isTold_29 : decode cL_isTold 29 = .ok (.aload_n 1, 1) := by decide +kernel
theorem dL_isTold_30 : decode cL_isTold 30 = .ok (.invokestatic 33, 3) := by decide +kernel
theorem dL_isTold_33 : decode cL_isTold 33 = .ok (.if_icmp .ne 108, 3) := by decide +kernel
theorem dL_isTold_36 : decode cL_isTold 36 = .ok (.aload_n 0, 1) := by decide +kernel
theorem dL_isTold_37 : decode cL_isTold 37 = .ok (.invokevirtual 51, 3) := by decide +kernel
theorem dL_isTold_40 : decode cL_isTold 40 = .ok (.aload_n 1, 1) := by decide +kernel
theorem dL_isTold_41 : decode cL_isTold 41 = .ok (.bipush 8, 2) := by decide +kernel
theorem dL_isTold_43 : decode cL_isTold 43 = .ok (.iaload, 1) := by decide +kernel
theorem dL_isTold_44 : decode cL_isTold 44 = .ok (.if_icmp .ne 97, 3) := by decide +kernel
theorem dL_isTold_47 : decode cL_isTold 47 = .ok (.aload_n 0, 1) := by decide +kernel
theorem dL_isTold_48 : decode cL_isTold 48 = .ok (.invokevirtual 54, 3) := by decide +kernel
theorem dL_isTold_51 : decode cL_isTold 51 = .ok (.aload_n 1, 1) := by decide +kernel
theorem dL_isTold_52 : decode cL_isTold 52 = .ok (.bipush 8, 2) := by decide +kernel
theorem dL_isTold_54 : decode cL_isTold 54 = .ok (.iaload, 1) := by decide +kernel
theorem dL_isTold_55 : decode cL_isTold 55 = .ok (.bipush 6, 2) := by decide +kernel
theorem dL_isTold_57 : decode cL_isTold 57 = .ok (.if_icmp .ne 10, 3) := by decide +kernel
theorem dL_isTold_60 : decode cL_isTold 60 = .ok (.aload_n 1, 1) := by decide +kernel
theorem dL_isTold_61 : decode cL_isTold 61 = .ok (.bipush 9, 2) := by decide +kernel
theorem dL_isTold_63 : decode cL_isTold 63 = .ok (.iaload, 1) := by decide +kernel
theorem dL_isTold_64 : decode cL_isTold 64 = .ok (.goto 4, 3) := by decide +kernel
theorem dL_isTold_67 : decode cL_isTold 67 = .ok (.iconst 0, 1) := by decide +kernel
theorem dL_isTold_68 : decode cL_isTold 68 = .ok (.if_icmp .ne 73, 3) := by decide +kernel
theorem dL_isTold_71 : decode cL_isTold 71 = .ok (.aload_n 0, 1) := by decide +kernel
theorem dL_isTold_72 : decode cL_isTold 72 = .ok (.invokevirtual 57, 3) := by decide +kernel
theorem dL_isTold_75 : decode cL_isTold 75 = .ok (.aload_n 1, 1) := by decide +kernel
theorem dL_isTold_76 : decode cL_isTold 76 = .ok (.bipush 8, 2) := by decide +kernel
theorem dL_isTold_78 : decode cL_isTold 78 = .ok (.iaload, 1) := by decide +kernel
theorem dL_isTold_79 : decode cL_isTold 79 = .ok (.ifCond .ne 7, 3) := by decide +kernel
theorem dL_isTold_82 : decode cL_isTold 82 = .ok (.iconst (-1), 1) := by decide +kernel
theorem dL_isTold_83 : decode cL_isTold 83 = .ok (.goto 7, 3) := by decide +kernel
theorem dL_isTold_86 : decode cL_isTold 86 = .ok (.aload_n 1, 1) := by decide +kernel
theorem dL_isTold_87 : decode cL_isTold 87 = .ok (.bipush 11, 2) := by decide +kernel
theorem dL_isTold_89 : decode cL_isTold 89 = .ok (.iaload, 1) := by decide +kernel
theorem dL_isTold_90 : decode cL_isTold 90 = .ok (.if_icmp .ne 51, 3) := by decide +kernel
theorem dL_isTold_93 : decode cL_isTold 93 = .ok (.aload_n 0, 1) := by decide +kernel
theorem dL_isTold_94 : decode cL_isTold 94 = .ok (.invokevirtual 60, 3) := by decide +kernel
theorem dL_isTold_97 : decode cL_isTold 97 = .ok (.aload_n 1, 1) := by decide +kernel
theorem dL_isTold_98 : decode cL_isTold 98 = .ok (.bipush 8, 2) := by decide +kernel
theorem dL_isTold_100 : decode cL_isTold 100 = .ok (.iaload, 1) := by decide +kernel
theorem dL_isTold_101 : decode cL_isTold 101 = .ok (.ifCond .ne 7, 3) := by decide +kernel
theorem dL_isTold_104 : decode cL_isTold 104 = .ok (.iconst 0, 1) := by decide +kernel
theorem dL_isTold_105 : decode cL_isTold 105 = .ok (.goto 7, 3) := by decide +kernel
theorem dL_isTold_108 : decode cL_isTold 108 = .ok (.aload_n 1, 1) := by decide +kernel
theorem dL_isTold_109 : decode cL_isTold 109 = .ok (.bipush 15, 2) := by decide +kernel
theorem dL_isTold_111 : decode cL_isTold 111 = .ok (.iaload, 1) := by decide +kernel
theorem dL_isTold_112 : decode cL_isTold 112 = .ok (.if_icmp .ne 29, 3) := by decide +kernel
theorem dL_isTold_115 : decode cL_isTold 115 = .ok (.aload_n 0, 1) := by decide +kernel
theorem dL_isTold_116 : decode cL_isTold 116 = .ok (.invokevirtual 63, 3) := by decide +kernel
theorem dL_isTold_119 : decode cL_isTold 119 = .ok (.aload_n 1, 1) := by decide +kernel
theorem dL_isTold_120 : decode cL_isTold 120 = .ok (.bipush 19, 2) := by decide +kernel
theorem dL_isTold_122 : decode cL_isTold 122 = .ok (.iaload, 1) := by decide +kernel
theorem dL_isTold_123 : decode cL_isTold 123 = .ok (.if_icmp .ne 18, 3) := by decide +kernel
theorem dL_isTold_126 : decode cL_isTold 126 = .ok (.aload_n 0, 1) := by decide +kernel
theorem dL_isTold_127 : decode cL_isTold 127 = .ok (.invokevirtual 66, 3) := by decide +kernel
theorem dL_isTold_130 : decode cL_isTold 130 = .ok (.aload_n 1, 1) := by decide +kernel
theorem dL_isTold_131 : decode cL_isTold 131 = .ok (.bipush 20, 2) := by decide +kernel
theorem dL_isTold_133 : decode cL_isTold 133 = .ok (.iaload, 1) := by decide +kernel
theorem dL_isTold_134 : decode cL_isTold 134 = .ok (.if_icmp .ne 7, 3) := by decide +kernel
theorem dL_isTold_137 : decode cL_isTold 137 = .ok (.iconst 1, 1) := by decide +kernel
theorem dL_isTold_138 : decode cL_isTold 138 = .ok (.goto 4, 3) := by decide +kernel
theorem dL_isTold_141 : decode cL_isTold 141 = .ok (.iconst 0, 1) := by decide +kernel
theorem dL_isTold_142 : decode cL_isTold 142 = .ok (.istore 8, 2) := by decide +kernel
theorem dL_isTold_144 : decode cL_isTold 144 = .ok (.iconst 0, 1) := by decide +kernel
theorem dL_isTold_145 : decode cL_isTold 145 = .ok (.istore 9, 2) := by decide +kernel
theorem dL_isTold_147 : decode cL_isTold 147 = .ok (.iload 9, 2) := by decide +kernel
theorem dL_isTold_149 : decode cL_isTold 149 = .ok (.iconst 4, 1) := by decide +kernel
theorem dL_isTold_150 : decode cL_isTold 150 = .ok (.if_icmp .ge 202, 3) := by decide +kernel
theorem dL_isTold_153 : decode cL_isTold 153 = .ok (.iload 8, 2) := by decide +kernel
theorem dL_isTold_155 : decode cL_isTold 155 = .ok (.ifCond .eq 197, 3) := by decide +kernel
theorem dL_isTold_158 : decode cL_isTold 158 = .ok (.aload_n 1, 1) := by decide +kernel
theorem dL_isTold_159 : decode cL_isTold 159 = .ok (.bipush 8, 2) := by decide +kernel
theorem dL_isTold_161 : decode cL_isTold 161 = .ok (.iaload, 1) := by decide +kernel
theorem dL_isTold_162 : decode cL_isTold 162 = .ok (.ifCond .eq 16, 3) := by decide +kernel
theorem dL_isTold_165 : decode cL_isTold 165 = .ok (.aload_n 3, 1) := by decide +kernel
theorem dL_isTold_166 : decode cL_isTold 166 = .ok (.iconst 3, 1) := by decide +kernel
theorem dL_isTold_167 : decode cL_isTold 167 = .ok (.aload_n 1, 1) := by decide +kernel
theorem dL_isTold_168 : decode cL_isTold 168 = .ok (.bipush 11, 2) := by decide +kernel
theorem dL_isTold_170 : decode cL_isTold 170 = .ok (.iaload, 1) := by decide +kernel
theorem dL_isTold_171 : decode cL_isTold 171 = .ok (.imul, 1) := by decide +kernel
theorem dL_isTold_172 : decode cL_isTold 172 = .ok (.iaload, 1) := by decide +kernel
theorem dL_isTold_173 : decode cL_isTold 173 = .ok (.iload 9, 2) := by decide +kernel
theorem dL_isTold_175 : decode cL_isTold 175 = .ok (.if_icmp .eq 7, 3) := by decide +kernel
theorem dL_isTold_178 : decode cL_isTold 178 = .ok (.iconst 0, 1) := by decide +kernel
theorem dL_isTold_179 : decode cL_isTold 179 = .ok (.goto 36, 3) := by decide +kernel
theorem dL_isTold_182 : decode cL_isTold 182 = .ok (.aload_n 1, 1) := by decide +kernel
theorem dL_isTold_183 : decode cL_isTold 183 = .ok (.bipush 8, 2) := by decide +kernel
theorem dL_isTold_185 : decode cL_isTold 185 = .ok (.iaload, 1) := by decide +kernel
theorem dL_isTold_186 : decode cL_isTold 186 = .ok (.iconst 2, 1) := by decide +kernel
theorem dL_isTold_187 : decode cL_isTold 187 = .ok (.if_icmp .ne 7, 3) := by decide +kernel
theorem dL_isTold_190 : decode cL_isTold 190 = .ok (.iconst 2, 1) := by decide +kernel
theorem dL_isTold_191 : decode cL_isTold 191 = .ok (.goto 24, 3) := by decide +kernel
theorem dL_isTold_194 : decode cL_isTold 194 = .ok (.aload_n 1, 1) := by decide +kernel
theorem dL_isTold_195 : decode cL_isTold 195 = .ok (.bipush 8, 2) := by decide +kernel
theorem dL_isTold_197 : decode cL_isTold 197 = .ok (.iaload, 1) := by decide +kernel
theorem dL_isTold_198 : decode cL_isTold 198 = .ok (.iconst 3, 1) := by decide +kernel
theorem dL_isTold_199 : decode cL_isTold 199 = .ok (.if_icmp .eq 11, 3) := by decide +kernel
theorem dL_isTold_202 : decode cL_isTold 202 = .ok (.aload_n 1, 1) := by decide +kernel
theorem dL_isTold_203 : decode cL_isTold 203 = .ok (.bipush 8, 2) := by decide +kernel
theorem dL_isTold_205 : decode cL_isTold 205 = .ok (.iaload, 1) := by decide +kernel
theorem dL_isTold_206 : decode cL_isTold 206 = .ok (.iconst 5, 1) := by decide +kernel
theorem dL_isTold_207 : decode cL_isTold 207 = .ok (.if_icmp .ne 7, 3) := by decide +kernel
theorem dL_isTold_210 : decode cL_isTold 210 = .ok (.iconst 1, 1) := by decide +kernel
theorem dL_isTold_211 : decode cL_isTold 211 = .ok (.goto 4, 3) := by decide +kernel
theorem dL_isTold_214 : decode cL_isTold 214 = .ok (.iconst 0, 1) := by decide +kernel
theorem dL_isTold_215 : decode cL_isTold 215 = .ok (.istore 10, 2) := by decide +kernel
theorem dL_isTold_217 : decode cL_isTold 217 = .ok (.iconst 0, 1) := by decide +kernel
theorem dL_isTold_218 : decode cL_isTold 218 = .ok (.istore 11, 2) := by decide +kernel
theorem dL_isTold_220 : decode cL_isTold 220 = .ok (.iconst 0, 1) := by decide +kernel
theorem dL_isTold_221 : decode cL_isTold 221 = .ok (.istore 12, 2) := by decide +kernel
theorem dL_isTold_223 : decode cL_isTold 223 = .ok (.iload 12, 2) := by decide +kernel
theorem dL_isTold_225 : decode cL_isTold 225 = .ok (.iload 7, 2) := by decide +kernel
theorem dL_isTold_227 : decode cL_isTold 227 = .ok (.if_icmp .ge 39, 3) := by decide +kernel
theorem dL_isTold_230 : decode cL_isTold 230 = .ok (.iload 11, 2) := by decide +kernel
theorem dL_isTold_232 : decode cL_isTold 232 = .ok (.aload 4, 2) := by decide +kernel
theorem dL_isTold_234 : decode cL_isTold 234 = .ok (.iconst 3, 1) := by decide +kernel
theorem dL_isTold_235 : decode cL_isTold 235 = .ok (.iload 12, 2) := by decide +kernel
theorem dL_isTold_237 : decode cL_isTold 237 = .ok (.imul, 1) := by decide +kernel
theorem dL_isTold_238 : decode cL_isTold 238 = .ok (.iaload, 1) := by decide +kernel
theorem dL_isTold_239 : decode cL_isTold 239 = .ok (.iload 9, 2) := by decide +kernel
theorem dL_isTold_241 : decode cL_isTold 241 = .ok (.if_icmp .ne 15, 3) := by decide +kernel
theorem dL_isTold_244 : decode cL_isTold 244 = .ok (.aload 4, 2) := by decide +kernel
theorem dL_isTold_246 : decode cL_isTold 246 = .ok (.iconst 3, 1) := by decide +kernel
theorem dL_isTold_247 : decode cL_isTold 247 = .ok (.iload 12, 2) := by decide +kernel
theorem dL_isTold_249 : decode cL_isTold 249 = .ok (.imul, 1) := by decide +kernel
theorem dL_isTold_250 : decode cL_isTold 250 = .ok (.iconst 2, 1) := by decide +kernel
theorem dL_isTold_251 : decode cL_isTold 251 = .ok (.iadd, 1) := by decide +kernel
theorem dL_isTold_252 : decode cL_isTold 252 = .ok (.iaload, 1) := by decide +kernel
theorem dL_isTold_253 : decode cL_isTold 253 = .ok (.goto 4, 3) := by decide +kernel
theorem dL_isTold_256 : decode cL_isTold 256 = .ok (.iconst 0, 1) := by decide +kernel
theorem dL_isTold_257 : decode cL_isTold 257 = .ok (.iadd, 1) := by decide +kernel
theorem dL_isTold_258 : decode cL_isTold 258 = .ok (.istore 11, 2) := by decide +kernel
theorem dL_isTold_260 : decode cL_isTold 260 = .ok (.iinc 12 1, 3) := by decide +kernel
theorem dL_isTold_263 : decode cL_isTold 263 = .ok (.goto (-40), 3) := by decide +kernel
theorem dL_isTold_266 : decode cL_isTold 266 = .ok (.aload_n 0, 1) := by decide +kernel
theorem dL_isTold_267 : decode cL_isTold 267 = .ok (.iload 9, 2) := by decide +kernel
theorem dL_isTold_269 : decode cL_isTold 269 = .ok (.invokevirtual 69, 3) := by decide +kernel
theorem dL_isTold_272 : decode cL_isTold 272 = .ok (.iload 10, 2) := by decide +kernel
theorem dL_isTold_274 : decode cL_isTold 274 = .ok (.if_icmp .ne 69, 3) := by decide +kernel
theorem dL_isTold_277 : decode cL_isTold 277 = .ok (.aload_n 0, 1) := by decide +kernel
theorem dL_isTold_278 : decode cL_isTold 278 = .ok (.iload 9, 2) := by decide +kernel
theorem dL_isTold_280 : decode cL_isTold 280 = .ok (.invokevirtual 73, 3) := by decide +kernel
theorem dL_isTold_283 : decode cL_isTold 283 = .ok (.aload_n 2, 1) := by decide +kernel
theorem dL_isTold_284 : decode cL_isTold 284 = .ok (.iconst 4, 1) := by decide +kernel
theorem dL_isTold_285 : decode cL_isTold 285 = .ok (.iload 9, 2) := by decide +kernel
theorem dL_isTold_287 : decode cL_isTold 287 = .ok (.imul, 1) := by decide +kernel
theorem dL_isTold_288 : decode cL_isTold 288 = .ok (.iconst 1, 1) := by decide +kernel
theorem dL_isTold_289 : decode cL_isTold 289 = .ok (.iadd, 1) := by decide +kernel
theorem dL_isTold_290 : decode cL_isTold 290 = .ok (.iaload, 1) := by decide +kernel
theorem dL_isTold_291 : decode cL_isTold 291 = .ok (.if_icmp .ne 52, 3) := by decide +kernel
theorem dL_isTold_294 : decode cL_isTold 294 = .ok (.aload_n 0, 1) := by decide +kernel
theorem dL_isTold_295 : decode cL_isTold 295 = .ok (.iload 9, 2) := by decide +kernel
theorem dL_isTold_297 : decode cL_isTold 297 = .ok (.invokevirtual 76, 3) := by decide +kernel
theorem dL_isTold_300 : decode cL_isTold 300 = .ok (.aload_n 2, 1) := by decide +kernel
theorem dL_isTold_301 : decode cL_isTold 301 = .ok (.iconst 4, 1) := by decide +kernel
theorem dL_isTold_302 : decode cL_isTold 302 = .ok (.iload 9, 2) := by decide +kernel
theorem dL_isTold_304 : decode cL_isTold 304 = .ok (.imul, 1) := by decide +kernel
theorem dL_isTold_305 : decode cL_isTold 305 = .ok (.iconst 2, 1) := by decide +kernel
theorem dL_isTold_306 : decode cL_isTold 306 = .ok (.iadd, 1) := by decide +kernel
theorem dL_isTold_307 : decode cL_isTold 307 = .ok (.iaload, 1) := by decide +kernel
theorem dL_isTold_308 : decode cL_isTold 308 = .ok (.if_icmp .ne 35, 3) := by decide +kernel
theorem dL_isTold_311 : decode cL_isTold 311 = .ok (.aload_n 0, 1) := by decide +kernel
theorem dL_isTold_312 : decode cL_isTold 312 = .ok (.iload 9, 2) := by decide +kernel
theorem dL_isTold_314 : decode cL_isTold 314 = .ok (.invokevirtual 79, 3) := by decide +kernel
theorem dL_isTold_317 : decode cL_isTold 317 = .ok (.aload_n 2, 1) := by decide +kernel
theorem dL_isTold_318 : decode cL_isTold 318 = .ok (.iconst 4, 1) := by decide +kernel
theorem dL_isTold_319 : decode cL_isTold 319 = .ok (.iload 9, 2) := by decide +kernel
theorem dL_isTold_321 : decode cL_isTold 321 = .ok (.imul, 1) := by decide +kernel
theorem dL_isTold_322 : decode cL_isTold 322 = .ok (.iconst 2, 1) := by decide +kernel
theorem dL_isTold_323 : decode cL_isTold 323 = .ok (.iadd, 1) := by decide +kernel
theorem dL_isTold_324 : decode cL_isTold 324 = .ok (.iaload, 1) := by decide +kernel
theorem dL_isTold_325 : decode cL_isTold 325 = .ok (.if_icmp .ne 18, 3) := by decide +kernel
theorem dL_isTold_328 : decode cL_isTold 328 = .ok (.aload_n 0, 1) := by decide +kernel
theorem dL_isTold_329 : decode cL_isTold 329 = .ok (.iload 9, 2) := by decide +kernel
theorem dL_isTold_331 : decode cL_isTold 331 = .ok (.invokevirtual 82, 3) := by decide +kernel
theorem dL_isTold_334 : decode cL_isTold 334 = .ok (.iload 11, 2) := by decide +kernel
theorem dL_isTold_336 : decode cL_isTold 336 = .ok (.if_icmp .ne 7, 3) := by decide +kernel
theorem dL_isTold_339 : decode cL_isTold 339 = .ok (.iconst 1, 1) := by decide +kernel
theorem dL_isTold_340 : decode cL_isTold 340 = .ok (.goto 4, 3) := by decide +kernel
theorem dL_isTold_343 : decode cL_isTold 343 = .ok (.iconst 0, 1) := by decide +kernel
theorem dL_isTold_344 : decode cL_isTold 344 = .ok (.istore 8, 2) := by decide +kernel
theorem dL_isTold_346 : decode cL_isTold 346 = .ok (.iinc 9 1, 3) := by decide +kernel
theorem dL_isTold_349 : decode cL_isTold 349 = .ok (.goto (-202), 3) := by decide +kernel
theorem dL_isTold_352 : decode cL_isTold 352 = .ok (.iconst 0, 1) := by decide +kernel
theorem dL_isTold_353 : decode cL_isTold 353 = .ok (.istore 9, 2) := by decide +kernel
theorem dL_isTold_355 : decode cL_isTold 355 = .ok (.iload 9, 2) := by decide +kernel
theorem dL_isTold_357 : decode cL_isTold 357 = .ok (.iload 7, 2) := by decide +kernel
theorem dL_isTold_359 : decode cL_isTold 359 = .ok (.if_icmp .ge 133, 3) := by decide +kernel
theorem dL_isTold_362 : decode cL_isTold 362 = .ok (.iload 8, 2) := by decide +kernel
theorem dL_isTold_364 : decode cL_isTold 364 = .ok (.ifCond .eq 128, 3) := by decide +kernel
theorem dL_isTold_367 : decode cL_isTold 367 = .ok (.aload_n 0, 1) := by decide +kernel
theorem dL_isTold_368 : decode cL_isTold 368 = .ok (.iload 9, 2) := by decide +kernel
theorem dL_isTold_370 : decode cL_isTold 370 = .ok (.invokevirtual 85, 3) := by decide +kernel
theorem dL_isTold_373 : decode cL_isTold 373 = .ok (.aload 4, 2) := by decide +kernel
theorem dL_isTold_375 : decode cL_isTold 375 = .ok (.iconst 3, 1) := by decide +kernel
theorem dL_isTold_376 : decode cL_isTold 376 = .ok (.iload 9, 2) := by decide +kernel
theorem dL_isTold_378 : decode cL_isTold 378 = .ok (.imul, 1) := by decide +kernel
theorem dL_isTold_379 : decode cL_isTold 379 = .ok (.iconst 2, 1) := by decide +kernel
theorem dL_isTold_380 : decode cL_isTold 380 = .ok (.iadd, 1) := by decide +kernel
theorem dL_isTold_381 : decode cL_isTold 381 = .ok (.iaload, 1) := by decide +kernel
theorem dL_isTold_382 : decode cL_isTold 382 = .ok (.if_icmp .ne 21, 3) := by decide +kernel
theorem dL_isTold_385 : decode cL_isTold 385 = .ok (.aload_n 0, 1) := by decide +kernel
theorem dL_isTold_386 : decode cL_isTold 386 = .ok (.iload 9, 2) := by decide +kernel
theorem dL_isTold_388 : decode cL_isTold 388 = .ok (.invokevirtual 88, 3) := by decide +kernel
theorem dL_isTold_391 : decode cL_isTold 391 = .ok (.aload 5, 2) := by decide +kernel
theorem dL_isTold_393 : decode cL_isTold 393 = .ok (.iload 9, 2) := by decide +kernel
theorem dL_isTold_395 : decode cL_isTold 395 = .ok (.iaload, 1) := by decide +kernel
theorem dL_isTold_396 : decode cL_isTold 396 = .ok (.if_icmp .ne 7, 3) := by decide +kernel
theorem dL_isTold_399 : decode cL_isTold 399 = .ok (.iconst 1, 1) := by decide +kernel
theorem dL_isTold_400 : decode cL_isTold 400 = .ok (.goto 4, 3) := by decide +kernel
theorem dL_isTold_403 : decode cL_isTold 403 = .ok (.iconst 0, 1) := by decide +kernel
theorem dL_isTold_404 : decode cL_isTold 404 = .ok (.istore 8, 2) := by decide +kernel
theorem dL_isTold_406 : decode cL_isTold 406 = .ok (.aload_n 1, 1) := by decide +kernel
theorem dL_isTold_407 : decode cL_isTold 407 = .ok (.bipush 19, 2) := by decide +kernel
theorem dL_isTold_409 : decode cL_isTold 409 = .ok (.iaload, 1) := by decide +kernel
theorem dL_isTold_410 : decode cL_isTold 410 = .ok (.bipush 8, 2) := by decide +kernel
theorem dL_isTold_412 : decode cL_isTold 412 = .ok (.if_icmp .le 13, 3) := by decide +kernel
theorem dL_isTold_415 : decode cL_isTold 415 = .ok (.aload_n 1, 1) := by decide +kernel
theorem dL_isTold_416 : decode cL_isTold 416 = .ok (.bipush 19, 2) := by decide +kernel
theorem dL_isTold_418 : decode cL_isTold 418 = .ok (.iaload, 1) := by decide +kernel
theorem dL_isTold_419 : decode cL_isTold 419 = .ok (.bipush 8, 2) := by decide +kernel
theorem dL_isTold_421 : decode cL_isTold 421 = .ok (.isub, 1) := by decide +kernel
theorem dL_isTold_422 : decode cL_isTold 422 = .ok (.goto 4, 3) := by decide +kernel
theorem dL_isTold_425 : decode cL_isTold 425 = .ok (.iconst 0, 1) := by decide +kernel
theorem dL_isTold_426 : decode cL_isTold 426 = .ok (.istore 10, 2) := by decide +kernel
theorem dL_isTold_428 : decode cL_isTold 428 = .ok (.iload 10, 2) := by decide +kernel
theorem dL_isTold_430 : decode cL_isTold 430 = .ok (.aload_n 1, 1) := by decide +kernel
theorem dL_isTold_431 : decode cL_isTold 431 = .ok (.bipush 19, 2) := by decide +kernel
theorem dL_isTold_433 : decode cL_isTold 433 = .ok (.iaload, 1) := by decide +kernel
theorem dL_isTold_434 : decode cL_isTold 434 = .ok (.if_icmp .ge 52, 3) := by decide +kernel
theorem dL_isTold_437 : decode cL_isTold 437 = .ok (.iload 8, 2) := by decide +kernel
theorem dL_isTold_439 : decode cL_isTold 439 = .ok (.ifCond .eq 47, 3) := by decide +kernel
theorem dL_isTold_442 : decode cL_isTold 442 = .ok (.aload_n 1, 1) := by decide +kernel
theorem dL_isTold_443 : decode cL_isTold 443 = .ok (.bipush 19, 2) := by decide +kernel
theorem dL_isTold_445 : decode cL_isTold 445 = .ok (.iaload, 1) := by decide +kernel
theorem dL_isTold_446 : decode cL_isTold 446 = .ok (.bipush 8, 2) := by decide +kernel
theorem dL_isTold_448 : decode cL_isTold 448 = .ok (.if_icmp .gt 38, 3) := by decide +kernel
theorem dL_isTold_451 : decode cL_isTold 451 = .ok (.aload_n 0, 1) := by decide +kernel
theorem dL_isTold_452 : decode cL_isTold 452 = .ok (.iload 9, 2) := by decide +kernel
theorem dL_isTold_454 : decode cL_isTold 454 = .ok (.iload 10, 2) := by decide +kernel
theorem dL_isTold_456 : decode cL_isTold 456 = .ok (.invokevirtual 91, 3) := by decide +kernel
theorem dL_isTold_459 : decode cL_isTold 459 = .ok (.aload 6, 2) := by decide +kernel
theorem dL_isTold_461 : decode cL_isTold 461 = .ok (.bipush 8, 2) := by decide +kernel
theorem dL_isTold_463 : decode cL_isTold 463 = .ok (.iload 9, 2) := by decide +kernel
theorem dL_isTold_465 : decode cL_isTold 465 = .ok (.imul, 1) := by decide +kernel
theorem dL_isTold_466 : decode cL_isTold 466 = .ok (.iload 10, 2) := by decide +kernel
theorem dL_isTold_468 : decode cL_isTold 468 = .ok (.iadd, 1) := by decide +kernel
theorem dL_isTold_469 : decode cL_isTold 469 = .ok (.iaload, 1) := by decide +kernel
theorem dL_isTold_470 : decode cL_isTold 470 = .ok (.if_icmp .ne 7, 3) := by decide +kernel
theorem dL_isTold_473 : decode cL_isTold 473 = .ok (.iconst 1, 1) := by decide +kernel
theorem dL_isTold_474 : decode cL_isTold 474 = .ok (.goto 4, 3) := by decide +kernel
theorem dL_isTold_477 : decode cL_isTold 477 = .ok (.iconst 0, 1) := by decide +kernel
theorem dL_isTold_478 : decode cL_isTold 478 = .ok (.istore 8, 2) := by decide +kernel
theorem dL_isTold_480 : decode cL_isTold 480 = .ok (.iinc 10 1, 3) := by decide +kernel
theorem dL_isTold_483 : decode cL_isTold 483 = .ok (.goto (-55), 3) := by decide +kernel
theorem dL_isTold_486 : decode cL_isTold 486 = .ok (.iinc 9 1, 3) := by decide +kernel
theorem dL_isTold_489 : decode cL_isTold 489 = .ok (.goto (-134), 3) := by decide +kernel
theorem dL_isTold_492 : decode cL_isTold 492 = .ok (.iload 8, 2) := by decide +kernel
theorem dL_isTold_494 : decode cL_isTold 494 = .ok (.ireturn, 1) := by decide +kernel
theorem dL_resumed_0 : decode cL_resumed 0 = .ok (.aload_n 0, 1) := by decide +kernel
theorem dL_resumed_1 : decode cL_resumed 1 = .ok (.invokevirtual 95, 3) := by decide +kernel
theorem dL_resumed_4 : decode cL_resumed 4 = .ok (.ireturn, 1) := by decide +kernel
theorem dL_resumed_5 : decode cL_resumed 5 = .ok (.astore_n 1, 1) := by decide +kernel
theorem dL_resumed_6 : decode cL_resumed 6 = .ok (.bipush (-2), 2) := by decide +kernel
theorem dL_resumed_8 : decode cL_resumed 8 = .ok (.ireturn, 1) := by decide +kernel
theorem dL_held_0 : decode cL_held 0 = .ok (.aload_n 0, 1) := by decide +kernel
theorem dL_held_1 : decode cL_held 1 = .ok (.invokevirtual 100, 3) := by decide +kernel
theorem dL_held_4 : decode cL_held 4 = .ok (.ireturn, 1) := by decide +kernel
theorem dL_held_5 : decode cL_held 5 = .ok (.astore_n 1, 1) := by decide +kernel
theorem dL_held_6 : decode cL_held 6 = .ok (.bipush (-2), 2) := by decide +kernel
theorem dL_held_8 : decode cL_held 8 = .ok (.ireturn, 1) := by decide +kernel
theorem dL_aborted_0 : decode cL_aborted 0 = .ok (.aload_n 0, 1) := by decide +kernel
theorem dL_aborted_1 : decode cL_aborted 1 = .ok (.invokevirtual 103, 3) := by decide +kernel
theorem dL_aborted_4 : decode cL_aborted 4 = .ok (.ireturn, 1) := by decide +kernel
theorem dL_aborted_5 : decode cL_aborted 5 = .ok (.astore_n 1, 1) := by decide +kernel
theorem dL_aborted_6 : decode cL_aborted 6 = .ok (.bipush (-2), 2) := by decide +kernel
theorem dL_aborted_8 : decode cL_aborted 8 = .ok (.ireturn, 1) := by decide +kernel
theorem dL_started_0 : decode cL_started 0 = .ok (.aload_n 0, 1) := by decide +kernel
theorem dL_started_1 : decode cL_started 1 = .ok (.invokevirtual 106, 3) := by decide +kernel
theorem dL_started_4 : decode cL_started 4 = .ok (.ireturn, 1) := by decide +kernel
theorem dL_started_5 : decode cL_started 5 = .ok (.astore_n 1, 1) := by decide +kernel
theorem dL_started_6 : decode cL_started 6 = .ok (.bipush (-2), 2) := by decide +kernel
theorem dL_started_8 : decode cL_started 8 = .ok (.ireturn, 1) := by decide +kernel
theorem dL_zeroed_0 : decode cL_zeroed 0 = .ok (.aload_n 0, 1) := by decide +kernel
theorem dL_zeroed_1 : decode cL_zeroed 1 = .ok (.invokevirtual 109, 3) := by decide +kernel
theorem dL_zeroed_4 : decode cL_zeroed 4 = .ok (.ireturn, 1) := by decide +kernel
theorem dL_zeroed_5 : decode cL_zeroed 5 = .ok (.astore_n 1, 1) := by decide +kernel
theorem dL_zeroed_6 : decode cL_zeroed 6 = .ok (.bipush (-2), 2) := by decide +kernel
theorem dL_zeroed_8 : decode cL_zeroed 8 = .ok (.ireturn, 1) := by decide +kernel
theorem dL_acts_0 : decode cL_acts 0 = .ok (.iload 8, 2) := by decide +kernel
theorem dL_acts_2 : decode cL_acts 2 = .ok (.ifCond .ne 67, 3) := by decide +kernel
theorem dL_acts_5 : decode cL_acts 5 = .ok (.aload_n 1, 1) := by decide +kernel
theorem dL_acts_6 : decode cL_acts 6 = .ok (.bipush 8, 2) := by decide +kernel
theorem dL_acts_8 : decode cL_acts 8 = .ok (.iaload, 1) := by decide +kernel
theorem dL_acts_9 : decode cL_acts 9 = .ok (.ifCond .le 16, 3) := by decide +kernel
theorem dL_acts_12 : decode cL_acts 12 = .ok (.aload_n 1, 1) := by decide +kernel
theorem dL_acts_13 : decode cL_acts 13 = .ok (.bipush 8, 2) := by decide +kernel
theorem dL_acts_15 : decode cL_acts 15 = .ok (.iaload, 1) := by decide +kernel
theorem dL_acts_16 : decode cL_acts 16 = .ok (.bipush 6, 2) := by decide +kernel
theorem dL_acts_18 : decode cL_acts 18 = .ok (.if_icmp .ge 7, 3) := by decide +kernel
theorem dL_acts_21 : decode cL_acts 21 = .ok (.iconst 1, 1) := by decide +kernel
theorem dL_acts_22 : decode cL_acts 22 = .ok (.goto 4, 3) := by decide +kernel
theorem dL_acts_25 : decode cL_acts 25 = .ok (.iconst 0, 1) := by decide +kernel
theorem dL_acts_26 : decode cL_acts 26 = .ok (.istore 10, 2) := by decide +kernel
theorem dL_acts_28 : decode cL_acts 28 = .ok (.aload_n 1, 1) := by decide +kernel
theorem dL_acts_29 : decode cL_acts 29 = .ok (.bipush 8, 2) := by decide +kernel
theorem dL_acts_31 : decode cL_acts 31 = .ok (.iaload, 1) := by decide +kernel
theorem dL_acts_32 : decode cL_acts 32 = .ok (.istore 11, 2) := by decide +kernel
theorem dL_acts_34 : decode cL_acts 34 = .ok (.iload 10, 2) := by decide +kernel
theorem dL_acts_36 : decode cL_acts 36 = .ok (.ifCond .eq 8, 3) := by decide +kernel
theorem dL_acts_39 : decode cL_acts 39 = .ok (.aload_n 1, 1) := by decide +kernel
theorem dL_acts_40 : decode cL_acts 40 = .ok (.iconst 0, 1) := by decide +kernel
theorem dL_acts_41 : decode cL_acts 41 = .ok (.invokestatic 26, 3) := by decide +kernel
theorem dL_acts_44 : decode cL_acts 44 = .ok (.aload_n 0, 1) := by decide +kernel
theorem dL_acts_45 : decode cL_acts 45 = .ok (.invokestatic 112, 3) := by decide +kernel
theorem dL_acts_48 : decode cL_acts 48 = .ok (.iload 10, 2) := by decide +kernel
theorem dL_acts_50 : decode cL_acts 50 = .ok (.ifCond .eq 8, 3) := by decide +kernel
theorem dL_acts_53 : decode cL_acts 53 = .ok (.iload 11, 2) := by decide +kernel
theorem dL_acts_55 : decode cL_acts 55 = .ok (.goto 5, 3) := by decide +kernel
theorem dL_acts_58 : decode cL_acts 58 = .ok (.bipush (-2), 2) := by decide +kernel
theorem dL_acts_60 : decode cL_acts 60 = .ok (.if_icmp .ne 7, 3) := by decide +kernel
theorem dL_acts_63 : decode cL_acts 63 = .ok (.iconst 1, 1) := by decide +kernel
theorem dL_acts_64 : decode cL_acts 64 = .ok (.goto 4, 3) := by decide +kernel
theorem dL_acts_67 : decode cL_acts 67 = .ok (.iconst 0, 1) := by decide +kernel
theorem dL_acts_68 : decode cL_acts 68 = .ok (.ireturn, 1) := by decide +kernel
theorem dL_acts_69 : decode cL_acts 69 = .ok (.iload 8, 2) := by decide +kernel
theorem dL_acts_71 : decode cL_acts 71 = .ok (.iconst 1, 1) := by decide +kernel
theorem dL_acts_72 : decode cL_acts 72 = .ok (.if_icmp .ne 110, 3) := by decide +kernel
theorem dL_acts_75 : decode cL_acts 75 = .ok (.aload_n 1, 1) := by decide +kernel
theorem dL_acts_76 : decode cL_acts 76 = .ok (.bipush 8, 2) := by decide +kernel
theorem dL_acts_78 : decode cL_acts 78 = .ok (.iaload, 1) := by decide +kernel
theorem dL_acts_79 : decode cL_acts 79 = .ok (.bipush 6, 2) := by decide +kernel
theorem dL_acts_81 : decode cL_acts 81 = .ok (.if_icmp .ne 7, 3) := by decide +kernel
theorem dL_acts_84 : decode cL_acts 84 = .ok (.iconst 1, 1) := by decide +kernel
theorem dL_acts_85 : decode cL_acts 85 = .ok (.goto 4, 3) := by decide +kernel
theorem dL_acts_88 : decode cL_acts 88 = .ok (.iconst 0, 1) := by decide +kernel
theorem dL_acts_89 : decode cL_acts 89 = .ok (.istore 10, 2) := by decide +kernel
theorem dL_acts_91 : decode cL_acts 91 = .ok (.iload 10, 2) := by decide +kernel
theorem dL_acts_93 : decode cL_acts 93 = .ok (.ifCond .eq 36, 3) := by decide +kernel
theorem dL_acts_96 : decode cL_acts 96 = .ok (.aload_n 1, 1) := by decide +kernel
theorem dL_acts_97 : decode cL_acts 97 = .ok (.bipush 9, 2) := by decide +kernel
theorem dL_acts_99 : decode cL_acts 99 = .ok (.iaload, 1) := by decide +kernel
theorem dL_acts_100 : decode cL_acts 100 = .ok (.iconst 1, 1) := by decide +kernel
theorem dL_acts_101 : decode cL_acts 101 = .ok (.if_icmp .eq 11, 3) := by decide +kernel
theorem dL_acts_104 : decode cL_acts 104 = .ok (.aload_n 1, 1) := by decide +kernel
theorem dL_acts_105 : decode cL_acts 105 = .ok (.bipush 9, 2) := by decide +kernel
theorem dL_acts_107 : decode cL_acts 107 = .ok (.iaload, 1) := by decide +kernel
theorem dL_acts_108 : decode cL_acts 108 = .ok (.iconst 2, 1) := by decide +kernel
theorem dL_acts_109 : decode cL_acts 109 = .ok (.if_icmp .ne 20, 3) := by decide +kernel
theorem dL_acts_112 : decode cL_acts 112 = .ok (.aload_n 1, 1) := by decide +kernel
theorem dL_acts_113 : decode cL_acts 113 = .ok (.aload_n 2, 1) := by decide +kernel
theorem dL_acts_114 : decode cL_acts 114 = .ok (.aload_n 3, 1) := by decide +kernel
theorem dL_acts_115 : decode cL_acts 115 = .ok (.aload 4, 2) := by decide +kernel
theorem dL_acts_117 : decode cL_acts 117 = .ok (.aload 5, 2) := by decide +kernel
theorem dL_acts_119 : decode cL_acts 119 = .ok (.aload 6, 2) := by decide +kernel
theorem dL_acts_121 : decode cL_acts 121 = .ok (.iload 7, 2) := by decide +kernel
theorem dL_acts_123 : decode cL_acts 123 = .ok (.invokestatic 29, 3) := by decide +kernel
theorem dL_acts_126 : decode cL_acts 126 = .ok (.goto 29, 3) := by decide +kernel
theorem dL_acts_129 : decode cL_acts 129 = .ok (.iload 10, 2) := by decide +kernel
theorem dL_acts_131 : decode cL_acts 131 = .ok (.ifCond .eq 24, 3) := by decide +kernel
theorem dL_acts_134 : decode cL_acts 134 = .ok (.aload_n 1, 1) := by decide +kernel
theorem dL_acts_135 : decode cL_acts 135 = .ok (.bipush 9, 2) := by decide +kernel
theorem dL_acts_137 : decode cL_acts 137 = .ok (.iconst 0, 1) := by decide +kernel
theorem dL_acts_138 : decode cL_acts 138 = .ok (.iastore, 1) := by decide +kernel
theorem dL_acts_139 : decode cL_acts 139 = .ok (.aload_n 1, 1) := by decide +kernel
theorem dL_acts_140 : decode cL_acts 140 = .ok (.bipush 13, 2) := by decide +kernel
theorem dL_acts_142 : decode cL_acts 142 = .ok (.aload_n 1, 1) := by decide +kernel
theorem dL_acts_143 : decode cL_acts 143 = .ok (.bipush 14, 2) := by decide +kernel
theorem dL_acts_145 : decode cL_acts 145 = .ok (.iaload, 1) := by decide +kernel
theorem dL_acts_146 : decode cL_acts 146 = .ok (.iastore, 1) := by decide +kernel
theorem dL_acts_147 : decode cL_acts 147 = .ok (.aload_n 1, 1) := by decide +kernel
theorem dL_acts_148 : decode cL_acts 148 = .ok (.aload_n 1, 1) := by decide +kernel
theorem dL_acts_149 : decode cL_acts 149 = .ok (.bipush 10, 2) := by decide +kernel
theorem dL_acts_151 : decode cL_acts 151 = .ok (.iaload, 1) := by decide +kernel
theorem dL_acts_152 : decode cL_acts 152 = .ok (.invokestatic 9, 3) := by decide +kernel
theorem dL_acts_155 : decode cL_acts 155 = .ok (.aload_n 0, 1) := by decide +kernel
theorem dL_acts_156 : decode cL_acts 156 = .ok (.invokestatic 116, 3) := by decide +kernel
theorem dL_acts_159 : decode cL_acts 159 = .ok (.iload 10, 2) := by decide +kernel
theorem dL_acts_161 : decode cL_acts 161 = .ok (.ifCond .eq 10, 3) := by decide +kernel
theorem dL_acts_164 : decode cL_acts 164 = .ok (.aload_n 1, 1) := by decide +kernel
theorem dL_acts_165 : decode cL_acts 165 = .ok (.bipush 8, 2) := by decide +kernel
theorem dL_acts_167 : decode cL_acts 167 = .ok (.iaload, 1) := by decide +kernel
theorem dL_acts_168 : decode cL_acts 168 = .ok (.goto 5, 3) := by decide +kernel
theorem dL_acts_171 : decode cL_acts 171 = .ok (.bipush (-2), 2) := by decide +kernel
theorem dL_acts_173 : decode cL_acts 173 = .ok (.if_icmp .ne 7, 3) := by decide +kernel
theorem dL_acts_176 : decode cL_acts 176 = .ok (.iconst 1, 1) := by decide +kernel
theorem dL_acts_177 : decode cL_acts 177 = .ok (.goto 4, 3) := by decide +kernel
theorem dL_acts_180 : decode cL_acts 180 = .ok (.iconst 0, 1) := by decide +kernel
theorem dL_acts_181 : decode cL_acts 181 = .ok (.ireturn, 1) := by decide +kernel
theorem dL_acts_182 : decode cL_acts 182 = .ok (.iload 8, 2) := by decide +kernel
theorem dL_acts_184 : decode cL_acts 184 = .ok (.iconst 2, 1) := by decide +kernel
theorem dL_acts_185 : decode cL_acts 185 = .ok (.if_icmp .ne 97, 3) := by decide +kernel
theorem dL_acts_188 : decode cL_acts 188 = .ok (.iload 9, 2) := by decide +kernel
theorem dL_acts_190 : decode cL_acts 190 = .ok (.iconst 3, 1) := by decide +kernel
theorem dL_acts_191 : decode cL_acts 191 = .ok (.irem, 1) := by decide +kernel
theorem dL_acts_192 : decode cL_acts 192 = .ok (.ifCond .ne 90, 3) := by decide +kernel
theorem dL_acts_195 : decode cL_acts 195 = .ok (.aload_n 1, 1) := by decide +kernel
theorem dL_acts_196 : decode cL_acts 196 = .ok (.bipush 8, 2) := by decide +kernel
theorem dL_acts_198 : decode cL_acts 198 = .ok (.iaload, 1) := by decide +kernel
theorem dL_acts_199 : decode cL_acts 199 = .ok (.ifCond .eq 7, 3) := by decide +kernel
theorem dL_acts_202 : decode cL_acts 202 = .ok (.iconst 1, 1) := by decide +kernel
theorem dL_acts_203 : decode cL_acts 203 = .ok (.goto 4, 3) := by decide +kernel
theorem dL_acts_206 : decode cL_acts 206 = .ok (.iconst 0, 1) := by decide +kernel
theorem dL_acts_207 : decode cL_acts 207 = .ok (.istore 10, 2) := by decide +kernel
theorem dL_acts_209 : decode cL_acts 209 = .ok (.iload 10, 2) := by decide +kernel
theorem dL_acts_211 : decode cL_acts 211 = .ok (.ifCond .eq 28, 3) := by decide +kernel
theorem dL_acts_214 : decode cL_acts 214 = .ok (.aload_n 1, 1) := by decide +kernel
theorem dL_acts_215 : decode cL_acts 215 = .ok (.bipush 18, 2) := by decide +kernel
theorem dL_acts_217 : decode cL_acts 217 = .ok (.iaload, 1) := by decide +kernel
theorem dL_acts_218 : decode cL_acts 218 = .ok (.iconst 1, 1) := by decide +kernel
theorem dL_acts_219 : decode cL_acts 219 = .ok (.if_icmp .ne 20, 3) := by decide +kernel
theorem dL_acts_222 : decode cL_acts 222 = .ok (.aload_n 1, 1) := by decide +kernel
theorem dL_acts_223 : decode cL_acts 223 = .ok (.aload_n 2, 1) := by decide +kernel
theorem dL_acts_224 : decode cL_acts 224 = .ok (.aload_n 3, 1) := by decide +kernel
theorem dL_acts_225 : decode cL_acts 225 = .ok (.aload 4, 2) := by decide +kernel
theorem dL_acts_227 : decode cL_acts 227 = .ok (.aload 5, 2) := by decide +kernel
theorem dL_acts_229 : decode cL_acts 229 = .ok (.aload 6, 2) := by decide +kernel
theorem dL_acts_231 : decode cL_acts 231 = .ok (.iload 7, 2) := by decide +kernel
theorem dL_acts_233 : decode cL_acts 233 = .ok (.invokestatic 19, 3) := by decide +kernel
theorem dL_acts_236 : decode cL_acts 236 = .ok (.goto 4, 3) := by decide +kernel
theorem dL_acts_239 : decode cL_acts 239 = .ok (.iconst 0, 1) := by decide +kernel
theorem dL_acts_240 : decode cL_acts 240 = .ok (.istore 11, 2) := by decide +kernel
theorem dL_acts_242 : decode cL_acts 242 = .ok (.iload 10, 2) := by decide +kernel
theorem dL_acts_244 : decode cL_acts 244 = .ok (.ifCond .eq 13, 3) := by decide +kernel
theorem dL_acts_247 : decode cL_acts 247 = .ok (.aload_n 1, 1) := by decide +kernel
theorem dL_acts_248 : decode cL_acts 248 = .ok (.bipush 9, 2) := by decide +kernel
theorem dL_acts_250 : decode cL_acts 250 = .ok (.iconst 0, 1) := by decide +kernel
theorem dL_acts_251 : decode cL_acts 251 = .ok (.iastore, 1) := by decide +kernel
theorem dL_acts_252 : decode cL_acts 252 = .ok (.aload_n 1, 1) := by decide +kernel
theorem dL_acts_253 : decode cL_acts 253 = .ok (.iconst 0, 1) := by decide +kernel
theorem dL_acts_254 : decode cL_acts 254 = .ok (.invokestatic 9, 3) := by decide +kernel
theorem dL_acts_257 : decode cL_acts 257 = .ok (.aload_n 0, 1) := by decide +kernel
theorem dL_acts_258 : decode cL_acts 258 = .ok (.invokestatic 119, 3) := by decide +kernel
theorem dL_acts_261 : decode cL_acts 261 = .ok (.iload 10, 2) := by decide +kernel
theorem dL_acts_263 : decode cL_acts 263 = .ok (.ifCond .eq 8, 3) := by decide +kernel
theorem dL_acts_266 : decode cL_acts 266 = .ok (.iload 11, 2) := by decide +kernel
theorem dL_acts_268 : decode cL_acts 268 = .ok (.goto 5, 3) := by decide +kernel
theorem dL_acts_271 : decode cL_acts 271 = .ok (.bipush (-2), 2) := by decide +kernel
theorem dL_acts_273 : decode cL_acts 273 = .ok (.if_icmp .ne 7, 3) := by decide +kernel
theorem dL_acts_276 : decode cL_acts 276 = .ok (.iconst 1, 1) := by decide +kernel
theorem dL_acts_277 : decode cL_acts 277 = .ok (.goto 4, 3) := by decide +kernel
theorem dL_acts_280 : decode cL_acts 280 = .ok (.iconst 0, 1) := by decide +kernel
theorem dL_acts_281 : decode cL_acts 281 = .ok (.ireturn, 1) := by decide +kernel
theorem dL_acts_282 : decode cL_acts 282 = .ok (.iload 8, 2) := by decide +kernel
theorem dL_acts_284 : decode cL_acts 284 = .ok (.iconst 3, 1) := by decide +kernel
theorem dL_acts_285 : decode cL_acts 285 = .ok (.if_icmp .ne 89, 3) := by decide +kernel
theorem dL_acts_288 : decode cL_acts 288 = .ok (.aload_n 1, 1) := by decide +kernel
theorem dL_acts_289 : decode cL_acts 289 = .ok (.bipush 8, 2) := by decide +kernel
theorem dL_acts_291 : decode cL_acts 291 = .ok (.iaload, 1) := by decide +kernel
theorem dL_acts_292 : decode cL_acts 292 = .ok (.ifCond .ne 32, 3) := by decide +kernel
theorem dL_acts_295 : decode cL_acts 295 = .ok (.aload_n 1, 1) := by decide +kernel
theorem dL_acts_296 : decode cL_acts 296 = .ok (.invokestatic 33, 3) := by decide +kernel
theorem dL_acts_299 : decode cL_acts 299 = .ok (.ifCond .eq 25, 3) := by decide +kernel
theorem dL_acts_302 : decode cL_acts 302 = .ok (.aload_n 1, 1) := by decide +kernel
theorem dL_acts_303 : decode cL_acts 303 = .ok (.iconst 0, 1) := by decide +kernel
theorem dL_acts_304 : decode cL_acts 304 = .ok (.iaload, 1) := by decide +kernel
theorem dL_acts_305 : decode cL_acts 305 = .ok (.sipush 501, 3) := by decide +kernel
theorem dL_acts_308 : decode cL_acts 308 = .ok (.if_icmp .ge 16, 3) := by decide +kernel
theorem dL_acts_311 : decode cL_acts 311 = .ok (.aload_n 1, 1) := by decide +kernel
theorem dL_acts_312 : decode cL_acts 312 = .ok (.iconst 0, 1) := by decide +kernel
theorem dL_acts_313 : decode cL_acts 313 = .ok (.iaload, 1) := by decide +kernel
theorem dL_acts_314 : decode cL_acts 314 = .ok (.sipush (-501), 3) := by decide +kernel
theorem dL_acts_317 : decode cL_acts 317 = .ok (.if_icmp .le 7, 3) := by decide +kernel
theorem dL_acts_320 : decode cL_acts 320 = .ok (.iconst 1, 1) := by decide +kernel
theorem dL_acts_321 : decode cL_acts 321 = .ok (.goto 4, 3) := by decide +kernel
theorem dL_acts_324 : decode cL_acts 324 = .ok (.iconst 0, 1) := by decide +kernel
theorem dL_acts_325 : decode cL_acts 325 = .ok (.istore 10, 2) := by decide +kernel
theorem dL_acts_327 : decode cL_acts 327 = .ok (.aload_n 1, 1) := by decide +kernel
theorem dL_acts_328 : decode cL_acts 328 = .ok (.iconst 5, 1) := by decide +kernel
theorem dL_acts_329 : decode cL_acts 329 = .ok (.iaload, 1) := by decide +kernel
theorem dL_acts_330 : decode cL_acts 330 = .ok (.istore 11, 2) := by decide +kernel
theorem dL_acts_332 : decode cL_acts 332 = .ok (.aload_n 1, 1) := by decide +kernel
theorem dL_acts_333 : decode cL_acts 333 = .ok (.iconst 5, 1) := by decide +kernel
theorem dL_acts_334 : decode cL_acts 334 = .ok (.iload 10, 2) := by decide +kernel
theorem dL_acts_336 : decode cL_acts 336 = .ok (.ifCond .eq 9, 3) := by decide +kernel
theorem dL_acts_339 : decode cL_acts 339 = .ok (.aload_n 1, 1) := by decide +kernel
theorem dL_acts_340 : decode cL_acts 340 = .ok (.iconst 0, 1) := by decide +kernel
theorem dL_acts_341 : decode cL_acts 341 = .ok (.iaload, 1) := by decide +kernel
theorem dL_acts_342 : decode cL_acts 342 = .ok (.goto 6, 3) := by decide +kernel
theorem dL_acts_345 : decode cL_acts 345 = .ok (.aload_n 1, 1) := by decide +kernel
theorem dL_acts_346 : decode cL_acts 346 = .ok (.iconst 5, 1) := by decide +kernel
theorem dL_acts_347 : decode cL_acts 347 = .ok (.iaload, 1) := by decide +kernel
theorem dL_acts_348 : decode cL_acts 348 = .ok (.iastore, 1) := by decide +kernel
theorem dL_acts_349 : decode cL_acts 349 = .ok (.aload_n 0, 1) := by decide +kernel
theorem dL_acts_350 : decode cL_acts 350 = .ok (.invokestatic 122, 3) := by decide +kernel
theorem dL_acts_353 : decode cL_acts 353 = .ok (.iload 10, 2) := by decide +kernel
theorem dL_acts_355 : decode cL_acts 355 = .ok (.ifCond .eq 8, 3) := by decide +kernel
theorem dL_acts_358 : decode cL_acts 358 = .ok (.iload 11, 2) := by decide +kernel
theorem dL_acts_360 : decode cL_acts 360 = .ok (.goto 5, 3) := by decide +kernel
theorem dL_acts_363 : decode cL_acts 363 = .ok (.bipush (-2), 2) := by decide +kernel
theorem dL_acts_365 : decode cL_acts 365 = .ok (.if_icmp .ne 7, 3) := by decide +kernel
theorem dL_acts_368 : decode cL_acts 368 = .ok (.iconst 1, 1) := by decide +kernel
theorem dL_acts_369 : decode cL_acts 369 = .ok (.goto 4, 3) := by decide +kernel
theorem dL_acts_372 : decode cL_acts 372 = .ok (.iconst 0, 1) := by decide +kernel
theorem dL_acts_373 : decode cL_acts 373 = .ok (.ireturn, 1) := by decide +kernel
theorem dL_acts_374 : decode cL_acts 374 = .ok (.iload 8, 2) := by decide +kernel
theorem dL_acts_376 : decode cL_acts 376 = .ok (.iconst 4, 1) := by decide +kernel
theorem dL_acts_377 : decode cL_acts 377 = .ok (.if_icmp .ne 38, 3) := by decide +kernel
theorem dL_acts_380 : decode cL_acts 380 = .ok (.aload_n 1, 1) := by decide +kernel
theorem dL_acts_381 : decode cL_acts 381 = .ok (.bipush 7, 2) := by decide +kernel
theorem dL_acts_383 : decode cL_acts 383 = .ok (.iaload, 1) := by decide +kernel
theorem dL_acts_384 : decode cL_acts 384 = .ok (.istore 10, 2) := by decide +kernel
theorem dL_acts_386 : decode cL_acts 386 = .ok (.aload_n 1, 1) := by decide +kernel
theorem dL_acts_387 : decode cL_acts 387 = .ok (.bipush 7, 2) := by decide +kernel
theorem dL_acts_389 : decode cL_acts 389 = .ok (.iload 9, 2) := by decide +kernel
theorem dL_acts_391 : decode cL_acts 391 = .ok (.bipush 7, 2) := by decide +kernel
theorem dL_acts_393 : decode cL_acts 393 = .ok (.irem, 1) := by decide +kernel
theorem dL_acts_394 : decode cL_acts 394 = .ok (.iastore, 1) := by decide +kernel
theorem dL_acts_395 : decode cL_acts 395 = .ok (.aload_n 0, 1) := by decide +kernel
theorem dL_acts_396 : decode cL_acts 396 = .ok (.iload 9, 2) := by decide +kernel
theorem dL_acts_398 : decode cL_acts 398 = .ok (.bipush 7, 2) := by decide +kernel
theorem dL_acts_400 : decode cL_acts 400 = .ok (.irem, 1) := by decide +kernel
theorem dL_acts_401 : decode cL_acts 401 = .ok (.invokevirtual 125, 3) := by decide +kernel
theorem dL_acts_404 : decode cL_acts 404 = .ok (.iload 10, 2) := by decide +kernel
theorem dL_acts_406 : decode cL_acts 406 = .ok (.if_icmp .ne 7, 3) := by decide +kernel
theorem dL_acts_409 : decode cL_acts 409 = .ok (.iconst 1, 1) := by decide +kernel
theorem dL_acts_410 : decode cL_acts 410 = .ok (.goto 4, 3) := by decide +kernel
theorem dL_acts_413 : decode cL_acts 413 = .ok (.iconst 0, 1) := by decide +kernel
theorem dL_acts_414 : decode cL_acts 414 = .ok (.ireturn, 1) := by decide +kernel
theorem dL_acts_415 : decode cL_acts 415 = .ok (.iload 8, 2) := by decide +kernel
theorem dL_acts_417 : decode cL_acts 417 = .ok (.iconst 5, 1) := by decide +kernel
theorem dL_acts_418 : decode cL_acts 418 = .ok (.if_icmp .ne 54, 3) := by decide +kernel
theorem dL_acts_421 : decode cL_acts 421 = .ok (.aload_n 2, 1) := by decide +kernel
theorem dL_acts_422 : decode cL_acts 422 = .ok (.iload 9, 2) := by decide +kernel
theorem dL_acts_424 : decode cL_acts 424 = .ok (.iconst 4, 1) := by decide +kernel
theorem dL_acts_425 : decode cL_acts 425 = .ok (.irem, 1) := by decide +kernel
theorem dL_acts_426 : decode cL_acts 426 = .ok (.iconst 4, 1) := by decide +kernel
theorem dL_acts_427 : decode cL_acts 427 = .ok (.imul, 1) := by decide +kernel
theorem dL_acts_428 : decode cL_acts 428 = .ok (.iaload, 1) := by decide +kernel
theorem dL_acts_429 : decode cL_acts 429 = .ok (.istore 10, 2) := by decide +kernel
theorem dL_acts_431 : decode cL_acts 431 = .ok (.aload_n 2, 1) := by decide +kernel
theorem dL_acts_432 : decode cL_acts 432 = .ok (.iload 9, 2) := by decide +kernel
theorem dL_acts_434 : decode cL_acts 434 = .ok (.iconst 4, 1) := by decide +kernel
theorem dL_acts_435 : decode cL_acts 435 = .ok (.irem, 1) := by decide +kernel
theorem dL_acts_436 : decode cL_acts 436 = .ok (.iconst 4, 1) := by decide +kernel
theorem dL_acts_437 : decode cL_acts 437 = .ok (.imul, 1) := by decide +kernel
theorem dL_acts_438 : decode cL_acts 438 = .ok (.iload 9, 2) := by decide +kernel
theorem dL_acts_440 : decode cL_acts 440 = .ok (.iconst 4, 1) := by decide +kernel
theorem dL_acts_441 : decode cL_acts 441 = .ok (.idiv, 1) := by decide +kernel
theorem dL_acts_442 : decode cL_acts 442 = .ok (.bipush 90, 2) := by decide +kernel
theorem dL_acts_444 : decode cL_acts 444 = .ok (.irem, 1) := by decide +kernel
theorem dL_acts_445 : decode cL_acts 445 = .ok (.iastore, 1) := by decide +kernel
theorem dL_acts_446 : decode cL_acts 446 = .ok (.aload_n 0, 1) := by decide +kernel
theorem dL_acts_447 : decode cL_acts 447 = .ok (.iload 9, 2) := by decide +kernel
theorem dL_acts_449 : decode cL_acts 449 = .ok (.iconst 4, 1) := by decide +kernel
theorem dL_acts_450 : decode cL_acts 450 = .ok (.irem, 1) := by decide +kernel
theorem dL_acts_451 : decode cL_acts 451 = .ok (.iload 9, 2) := by decide +kernel
theorem dL_acts_453 : decode cL_acts 453 = .ok (.iconst 4, 1) := by decide +kernel
theorem dL_acts_454 : decode cL_acts 454 = .ok (.idiv, 1) := by decide +kernel
theorem dL_acts_455 : decode cL_acts 455 = .ok (.bipush 90, 2) := by decide +kernel
theorem dL_acts_457 : decode cL_acts 457 = .ok (.irem, 1) := by decide +kernel
theorem dL_acts_458 : decode cL_acts 458 = .ok (.invokevirtual 128, 3) := by decide +kernel
theorem dL_acts_461 : decode cL_acts 461 = .ok (.iload 10, 2) := by decide +kernel
theorem dL_acts_463 : decode cL_acts 463 = .ok (.if_icmp .ne 7, 3) := by decide +kernel
theorem dL_acts_466 : decode cL_acts 466 = .ok (.iconst 1, 1) := by decide +kernel
theorem dL_acts_467 : decode cL_acts 467 = .ok (.goto 4, 3) := by decide +kernel
theorem dL_acts_470 : decode cL_acts 470 = .ok (.iconst 0, 1) := by decide +kernel
theorem dL_acts_471 : decode cL_acts 471 = .ok (.ireturn, 1) := by decide +kernel
theorem dL_acts_472 : decode cL_acts 472 = .ok (.aload_n 1, 1) := by decide +kernel
theorem dL_acts_473 : decode cL_acts 473 = .ok (.bipush 8, 2) := by decide +kernel
theorem dL_acts_475 : decode cL_acts 475 = .ok (.iaload, 1) := by decide +kernel
theorem dL_acts_476 : decode cL_acts 476 = .ok (.ifCond .ne 23, 3) := by decide +kernel
theorem dL_acts_479 : decode cL_acts 479 = .ok (.aload_n 1, 1) := by decide +kernel
theorem dL_acts_480 : decode cL_acts 480 = .ok (.bipush 21, 2) := by decide +kernel
theorem dL_acts_482 : decode cL_acts 482 = .ok (.iaload, 1) := by decide +kernel
theorem dL_acts_483 : decode cL_acts 483 = .ok (.ifCond .le 16, 3) := by decide +kernel
theorem dL_acts_486 : decode cL_acts 486 = .ok (.aload_n 1, 1) := by decide +kernel
theorem dL_acts_487 : decode cL_acts 487 = .ok (.bipush 19, 2) := by decide +kernel
theorem dL_acts_489 : decode cL_acts 489 = .ok (.iaload, 1) := by decide +kernel
theorem dL_acts_490 : decode cL_acts 490 = .ok (.bipush 20, 2) := by decide +kernel
theorem dL_acts_492 : decode cL_acts 492 = .ok (.if_icmp .ge 7, 3) := by decide +kernel
theorem dL_acts_495 : decode cL_acts 495 = .ok (.iconst 1, 1) := by decide +kernel
theorem dL_acts_496 : decode cL_acts 496 = .ok (.goto 4, 3) := by decide +kernel
theorem dL_acts_499 : decode cL_acts 499 = .ok (.iconst 0, 1) := by decide +kernel
theorem dL_acts_500 : decode cL_acts 500 = .ok (.istore 10, 2) := by decide +kernel
theorem dL_acts_502 : decode cL_acts 502 = .ok (.iload 10, 2) := by decide +kernel
theorem dL_acts_504 : decode cL_acts 504 = .ok (.ifCond .eq 16, 3) := by decide +kernel
theorem dL_acts_507 : decode cL_acts 507 = .ok (.aload_n 1, 1) := by decide +kernel
theorem dL_acts_508 : decode cL_acts 508 = .ok (.bipush 19, 2) := by decide +kernel
theorem dL_acts_510 : decode cL_acts 510 = .ok (.dup2, 1) := by decide +kernel
theorem dL_acts_511 : decode cL_acts 511 = .ok (.iaload, 1) := by decide +kernel
theorem dL_acts_512 : decode cL_acts 512 = .ok (.iconst 1, 1) := by decide +kernel
theorem dL_acts_513 : decode cL_acts 513 = .ok (.iadd, 1) := by decide +kernel
theorem dL_acts_514 : decode cL_acts 514 = .ok (.iastore, 1) := by decide +kernel
theorem dL_acts_515 : decode cL_acts 515 = .ok (.aload_n 1, 1) := by decide +kernel
theorem dL_acts_516 : decode cL_acts 516 = .ok (.iconst 0, 1) := by decide +kernel
theorem dL_acts_517 : decode cL_acts 517 = .ok (.invokestatic 23, 3) := by decide +kernel
theorem dL_acts_520 : decode cL_acts 520 = .ok (.aload_n 0, 1) := by decide +kernel
theorem dL_acts_521 : decode cL_acts 521 = .ok (.invokestatic 131, 3) := by decide +kernel
theorem dL_acts_524 : decode cL_acts 524 = .ok (.iload 10, 2) := by decide +kernel
theorem dL_acts_526 : decode cL_acts 526 = .ok (.ifCond .eq 12, 3) := by decide +kernel
theorem dL_acts_529 : decode cL_acts 529 = .ok (.aload_n 1, 1) := by decide +kernel
theorem dL_acts_530 : decode cL_acts 530 = .ok (.bipush 19, 2) := by decide +kernel
theorem dL_acts_532 : decode cL_acts 532 = .ok (.iaload, 1) := by decide +kernel
theorem dL_acts_533 : decode cL_acts 533 = .ok (.iconst 1, 1) := by decide +kernel
theorem dL_acts_534 : decode cL_acts 534 = .ok (.isub, 1) := by decide +kernel
theorem dL_acts_535 : decode cL_acts 535 = .ok (.goto 5, 3) := by decide +kernel
theorem dL_acts_538 : decode cL_acts 538 = .ok (.bipush (-2), 2) := by decide +kernel
theorem dL_acts_540 : decode cL_acts 540 = .ok (.if_icmp .ne 7, 3) := by decide +kernel
theorem dL_acts_543 : decode cL_acts 543 = .ok (.iconst 1, 1) := by decide +kernel
theorem dL_acts_544 : decode cL_acts 544 = .ok (.goto 4, 3) := by decide +kernel
theorem dL_acts_547 : decode cL_acts 547 = .ok (.iconst 0, 1) := by decide +kernel
theorem dL_acts_548 : decode cL_acts 548 = .ok (.ireturn, 1) := by decide +kernel
theorem dL_holds_0 : decode cL_holds 0 = .ok (.new 41, 3) := by decide +kernel
theorem dL_holds_3 : decode cL_holds 3 = .ok (.dup, 1) := by decide +kernel
theorem dL_holds_4 : decode cL_holds 4 = .ok (.invokespecial 134, 3) := by decide +kernel
theorem dL_holds_7 : decode cL_holds 7 = .ok (.astore_n 1, 1) := by decide +kernel
theorem dL_holds_8 : decode cL_holds 8 = .ok (.bipush 24, 2) := by decide +kernel
theorem dL_holds_10 : decode cL_holds 10 = .ok (.newarray .int, 2) := by decide +kernel
theorem dL_holds_12 : decode cL_holds 12 = .ok (.astore_n 2, 1) := by decide +kernel
theorem dL_holds_13 : decode cL_holds 13 = .ok (.bipush 16, 2) := by decide +kernel
theorem dL_holds_15 : decode cL_holds 15 = .ok (.newarray .int, 2) := by decide +kernel
theorem dL_holds_17 : decode cL_holds 17 = .ok (.astore_n 3, 1) := by decide +kernel
theorem dL_holds_18 : decode cL_holds 18 = .ok (.bipush 18, 2) := by decide +kernel
theorem dL_holds_20 : decode cL_holds 20 = .ok (.newarray .int, 2) := by decide +kernel
theorem dL_holds_22 : decode cL_holds 22 = .ok (.astore 4, 2) := by decide +kernel
theorem dL_holds_24 : decode cL_holds 24 = .ok (.bipush 24, 2) := by decide +kernel
theorem dL_holds_26 : decode cL_holds 26 = .ok (.newarray .int, 2) := by decide +kernel
theorem dL_holds_28 : decode cL_holds 28 = .ok (.astore 5, 2) := by decide +kernel
theorem dL_holds_30 : decode cL_holds 30 = .ok (.bipush 8, 2) := by decide +kernel
theorem dL_holds_32 : decode cL_holds 32 = .ok (.newarray .int, 2) := by decide +kernel
theorem dL_holds_34 : decode cL_holds 34 = .ok (.astore 6, 2) := by decide +kernel
theorem dL_holds_36 : decode cL_holds 36 = .ok (.bipush 64, 2) := by decide +kernel
theorem dL_holds_38 : decode cL_holds 38 = .ok (.newarray .int, 2) := by decide +kernel
theorem dL_holds_40 : decode cL_holds 40 = .ok (.astore 7, 2) := by decide +kernel
theorem dL_holds_42 : decode cL_holds 42 = .ok (.iconst 0, 1) := by decide +kernel
theorem dL_holds_43 : decode cL_holds 43 = .ok (.istore 8, 2) := by decide +kernel
theorem dL_holds_45 : decode cL_holds 45 = .ok (.lconst 0, 1) := by decide +kernel
theorem dL_holds_46 : decode cL_holds 46 = .ok (.lstore 9, 2) := by decide +kernel
theorem dL_holds_48 : decode cL_holds 48 = .ok (.aload_n 0, 1) := by decide +kernel
theorem dL_holds_49 : decode cL_holds 49 = .ok (.iconst 0, 1) := by decide +kernel
theorem dL_holds_50 : decode cL_holds 50 = .ok (.bipush 40, 2) := by decide +kernel
theorem dL_holds_52 : decode cL_holds 52 = .ok (.invokestatic 135, 3) := by decide +kernel
theorem dL_holds_55 : decode cL_holds 55 = .ok (.bipush 10, 2) := by decide +kernel
theorem dL_holds_57 : decode cL_holds 57 = .ok (.isub, 1) := by decide +kernel
theorem dL_holds_58 : decode cL_holds 58 = .ok (.istore 11, 2) := by decide +kernel
theorem dL_holds_60 : decode cL_holds 60 = .ok (.aload_n 2, 1) := by decide +kernel
theorem dL_holds_61 : decode cL_holds 61 = .ok (.bipush 7, 2) := by decide +kernel
theorem dL_holds_63 : decode cL_holds 63 = .ok (.iconst 3, 1) := by decide +kernel
theorem dL_holds_64 : decode cL_holds 64 = .ok (.iastore, 1) := by decide +kernel
theorem dL_holds_65 : decode cL_holds 65 = .ok (.iconst 1, 1) := by decide +kernel
theorem dL_holds_66 : decode cL_holds 66 = .ok (.istore 12, 2) := by decide +kernel
theorem dL_holds_68 : decode cL_holds 68 = .ok (.iconst 0, 1) := by decide +kernel
theorem dL_holds_69 : decode cL_holds 69 = .ok (.istore 13, 2) := by decide +kernel
theorem dL_holds_71 : decode cL_holds 71 = .ok (.iload 13, 2) := by decide +kernel
theorem dL_holds_73 : decode cL_holds 73 = .ok (.iconst 4, 1) := by decide +kernel
theorem dL_holds_74 : decode cL_holds 74 = .ok (.if_icmp .ge 27, 3) := by decide +kernel
theorem dL_holds_77 : decode cL_holds 77 = .ok (.aload_n 3, 1) := by decide +kernel
theorem dL_holds_78 : decode cL_holds 78 = .ok (.iconst 4, 1) := by decide +kernel
theorem dL_holds_79 : decode cL_holds 79 = .ok (.iload 13, 2) := by decide +kernel
theorem dL_holds_81 : decode cL_holds 81 = .ok (.imul, 1) := by decide +kernel
theorem dL_holds_82 : decode cL_holds 82 = .ok (.bipush 50, 2) := by decide +kernel
theorem dL_holds_84 : decode cL_holds 84 = .ok (.iastore, 1) := by decide +kernel
theorem dL_holds_85 : decode cL_holds 85 = .ok (.aload_n 3, 1) := by decide +kernel
theorem dL_holds_86 : decode cL_holds 86 = .ok (.iconst 4, 1) := by decide +kernel
theorem dL_holds_87 : decode cL_holds 87 = .ok (.iload 13, 2) := by decide +kernel
theorem dL_holds_89 : decode cL_holds 89 = .ok (.imul, 1) := by decide +kernel
theorem dL_holds_90 : decode cL_holds 90 = .ok (.iconst 1, 1) := by decide +kernel
theorem dL_holds_91 : decode cL_holds 91 = .ok (.iadd, 1) := by decide +kernel
theorem dL_holds_92 : decode cL_holds 92 = .ok (.bipush 20, 2) := by decide +kernel
theorem dL_holds_94 : decode cL_holds 94 = .ok (.iastore, 1) := by decide +kernel
theorem dL_holds_95 : decode cL_holds 95 = .ok (.iinc 13 1, 3) := by decide +kernel
theorem dL_holds_98 : decode cL_holds 98 = .ok (.goto (-27), 3) := by decide +kernel
theorem dL_holds_101 : decode cL_holds 101 = .ok (.iconst 0, 1) := by decide +kernel
theorem dL_holds_102 : decode cL_holds 102 = .ok (.istore 13, 2) := by decide +kernel
theorem dL_holds_104 : decode cL_holds 104 = .ok (.iload 13, 2) := by decide +kernel
theorem dL_holds_106 : decode cL_holds 106 = .ok (.sipush 240, 3) := by decide +kernel
theorem dL_holds_109 : decode cL_holds 109 = .ok (.if_icmp .ge 658, 3) := by decide +kernel
theorem dL_holds_112 : decode cL_holds 112 = .ok (.iload 12, 2) := by decide +kernel
theorem dL_holds_114 : decode cL_holds 114 = .ok (.ifCond .eq 653, 3) := by decide +kernel
theorem dL_holds_117 : decode cL_holds 117 = .ok (.aload_n 0, 1) := by decide +kernel
theorem dL_holds_118 : decode cL_holds 118 = .ok (.iconst 2, 1) := by decide +kernel
theorem dL_holds_119 : decode cL_holds 119 = .ok (.iload 13, 2) := by decide +kernel
theorem dL_holds_121 : decode cL_holds 121 = .ok (.imul, 1) := by decide +kernel
theorem dL_holds_122 : decode cL_holds 122 = .ok (.iconst 1, 1) := by decide +kernel
theorem dL_holds_123 : decode cL_holds 123 = .ok (.iadd, 1) := by decide +kernel
theorem dL_holds_124 : decode cL_holds 124 = .ok (.bipush 60, 2) := by decide +kernel
theorem dL_holds_126 : decode cL_holds 126 = .ok (.invokestatic 135, 3) := by decide +kernel
theorem dL_holds_129 : decode cL_holds 129 = .ok (.istore 14, 2) := by decide +kernel
theorem dL_holds_131 : decode cL_holds 131 = .ok (.aload_n 0, 1) := by decide +kernel
theorem dL_holds_132 : decode cL_holds 132 = .ok (.iconst 2, 1) := by decide +kernel
theorem dL_holds_133 : decode cL_holds 133 = .ok (.iload 13, 2) := by decide +kernel
theorem dL_holds_135 : decode cL_holds 135 = .ok (.imul, 1) := by decide +kernel
theorem dL_holds_136 : decode cL_holds 136 = .ok (.iconst 2, 1) := by decide +kernel
theorem dL_holds_137 : decode cL_holds 137 = .ok (.iadd, 1) := by decide +kernel
theorem dL_holds_138 : decode cL_holds 138 = .ok (.ldc 139, 2) := by decide +kernel
theorem dL_holds_140 : decode cL_holds 140 = .ok (.invokestatic 135, 3) := by decide +kernel
theorem dL_holds_143 : decode cL_holds 143 = .ok (.istore 15, 2) := by decide +kernel
theorem dL_holds_145 : decode cL_holds 145 = .ok (.iload 14, 2) := by decide +kernel
theorem dL_holds_147 : decode cL_holds 147 = .ok (.bipush 6, 2) := by decide +kernel
theorem dL_holds_149 : decode cL_holds 149 = .ok (.if_icmp .ne 101, 3) := by decide +kernel
theorem dL_holds_152 : decode cL_holds 152 = .ok (.iload 8, 2) := by decide +kernel
theorem dL_holds_154 : decode cL_holds 154 = .ok (.bipush 8, 2) := by decide +kernel
theorem dL_holds_156 : decode cL_holds 156 = .ok (.if_icmp .ge 94, 3) := by decide +kernel
theorem dL_holds_159 : decode cL_holds 159 = .ok (.aload 5, 2) := by decide +kernel
theorem dL_holds_161 : decode cL_holds 161 = .ok (.iconst 3, 1) := by decide +kernel
theorem dL_holds_162 : decode cL_holds 162 = .ok (.iload 8, 2) := by decide +kernel
theorem dL_holds_164 : decode cL_holds 164 = .ok (.imul, 1) := by decide +kernel
theorem dL_holds_165 : decode cL_holds 165 = .ok (.iload 15, 2) := by decide +kernel
theorem dL_holds_167 : decode cL_holds 167 = .ok (.iconst 4, 1) := by decide +kernel
theorem dL_holds_168 : decode cL_holds 168 = .ok (.irem, 1) := by decide +kernel
theorem dL_holds_169 : decode cL_holds 169 = .ok (.iastore, 1) := by decide +kernel
theorem dL_holds_170 : decode cL_holds 170 = .ok (.aload 5, 2) := by decide +kernel
theorem dL_holds_172 : decode cL_holds 172 = .ok (.iconst 3, 1) := by decide +kernel
theorem dL_holds_173 : decode cL_holds 173 = .ok (.iload 8, 2) := by decide +kernel
theorem dL_holds_175 : decode cL_holds 175 = .ok (.imul, 1) := by decide +kernel
theorem dL_holds_176 : decode cL_holds 176 = .ok (.iconst 1, 1) := by decide +kernel
theorem dL_holds_177 : decode cL_holds 177 = .ok (.iadd, 1) := by decide +kernel
theorem dL_holds_178 : decode cL_holds 178 = .ok (.iconst 1, 1) := by decide +kernel
theorem dL_holds_179 : decode cL_holds 179 = .ok (.iload 15, 2) := by decide +kernel
theorem dL_holds_181 : decode cL_holds 181 = .ok (.iconst 4, 1) := by decide +kernel
theorem dL_holds_182 : decode cL_holds 182 = .ok (.idiv, 1) := by decide +kernel
theorem dL_holds_183 : decode cL_holds 183 = .ok (.sipush 400, 3) := by decide +kernel
theorem dL_holds_186 : decode cL_holds 186 = .ok (.irem, 1) := by decide +kernel
theorem dL_holds_187 : decode cL_holds 187 = .ok (.iadd, 1) := by decide +kernel
theorem dL_holds_188 : decode cL_holds 188 = .ok (.iastore, 1) := by decide +kernel
theorem dL_holds_189 : decode cL_holds 189 = .ok (.aload 5, 2) := by decide +kernel
theorem dL_holds_191 : decode cL_holds 191 = .ok (.iconst 3, 1) := by decide +kernel
theorem dL_holds_192 : decode cL_holds 192 = .ok (.iload 8, 2) := by decide +kernel
theorem dL_holds_194 : decode cL_holds 194 = .ok (.imul, 1) := by decide +kernel
theorem dL_holds_195 : decode cL_holds 195 = .ok (.iconst 2, 1) := by decide +kernel
theorem dL_holds_196 : decode cL_holds 196 = .ok (.iadd, 1) := by decide +kernel
theorem dL_holds_197 : decode cL_holds 197 = .ok (.iconst 1, 1) := by decide +kernel
theorem dL_holds_198 : decode cL_holds 198 = .ok (.iload 15, 2) := by decide +kernel
theorem dL_holds_200 : decode cL_holds 200 = .ok (.iconst 4, 1) := by decide +kernel
theorem dL_holds_201 : decode cL_holds 201 = .ok (.idiv, 1) := by decide +kernel
theorem dL_holds_202 : decode cL_holds 202 = .ok (.sipush 400, 3) := by decide +kernel
theorem dL_holds_205 : decode cL_holds 205 = .ok (.irem, 1) := by decide +kernel
theorem dL_holds_206 : decode cL_holds 206 = .ok (.iadd, 1) := by decide +kernel
theorem dL_holds_207 : decode cL_holds 207 = .ok (.iastore, 1) := by decide +kernel
theorem dL_holds_208 : decode cL_holds 208 = .ok (.aload 6, 2) := by decide +kernel
theorem dL_holds_210 : decode cL_holds 210 = .ok (.iload 8, 2) := by decide +kernel
theorem dL_holds_212 : decode cL_holds 212 = .ok (.iconst (-1), 1) := by decide +kernel
theorem dL_holds_213 : decode cL_holds 213 = .ok (.iastore, 1) := by decide +kernel
theorem dL_holds_214 : decode cL_holds 214 = .ok (.aload_n 1, 1) := by decide +kernel
theorem dL_holds_215 : decode cL_holds 215 = .ok (.iload 15, 2) := by decide +kernel
theorem dL_holds_217 : decode cL_holds 217 = .ok (.iconst 4, 1) := by decide +kernel
theorem dL_holds_218 : decode cL_holds 218 = .ok (.irem, 1) := by decide +kernel
theorem dL_holds_219 : decode cL_holds 219 = .ok (.iconst 1, 1) := by decide +kernel
theorem dL_holds_220 : decode cL_holds 220 = .ok (.iload 15, 2) := by decide +kernel
theorem dL_holds_222 : decode cL_holds 222 = .ok (.iconst 4, 1) := by decide +kernel
theorem dL_holds_223 : decode cL_holds 223 = .ok (.idiv, 1) := by decide +kernel
theorem dL_holds_224 : decode cL_holds 224 = .ok (.sipush 400, 3) := by decide +kernel
theorem dL_holds_227 : decode cL_holds 227 = .ok (.irem, 1) := by decide +kernel
theorem dL_holds_228 : decode cL_holds 228 = .ok (.iadd, 1) := by decide +kernel
theorem dL_holds_229 : decode cL_holds 229 = .ok (.invokevirtual 140, 3) := by decide +kernel
theorem dL_holds_232 : decode cL_holds 232 = .ok (.iload 8, 2) := by decide +kernel
theorem dL_holds_234 : decode cL_holds 234 = .ok (.if_icmp .ne 7, 3) := by decide +kernel
theorem dL_holds_237 : decode cL_holds 237 = .ok (.iconst 1, 1) := by decide +kernel
theorem dL_holds_238 : decode cL_holds 238 = .ok (.goto 4, 3) := by decide +kernel
theorem dL_holds_241 : decode cL_holds 241 = .ok (.iconst 0, 1) := by decide +kernel
theorem dL_holds_242 : decode cL_holds 242 = .ok (.istore 12, 2) := by decide +kernel
theorem dL_holds_244 : decode cL_holds 244 = .ok (.iinc 8 1, 3) := by decide +kernel
theorem dL_holds_247 : decode cL_holds 247 = .ok (.goto 483, 3) := by decide +kernel
theorem dL_holds_250 : decode cL_holds 250 = .ok (.iload 14, 2) := by decide +kernel
theorem dL_holds_252 : decode cL_holds 252 = .ok (.bipush 7, 2) := by decide +kernel
theorem dL_holds_254 : decode cL_holds 254 = .ok (.if_icmp .eq 9, 3) := by decide +kernel
theorem dL_holds_257 : decode cL_holds 257 = .ok (.iload 13, 2) := by decide +kernel
theorem dL_holds_259 : decode cL_holds 259 = .ok (.iconst 2, 1) := by decide +kernel
theorem dL_holds_260 : decode cL_holds 260 = .ok (.if_icmp .ge 117, 3) := by decide +kernel
theorem dL_holds_263 : decode cL_holds 263 = .ok (.aload_n 2, 1) := by decide +kernel
theorem dL_holds_264 : decode cL_holds 264 = .ok (.bipush 8, 2) := by decide +kernel
theorem dL_holds_266 : decode cL_holds 266 = .ok (.iaload, 1) := by decide +kernel
theorem dL_holds_267 : decode cL_holds 267 = .ok (.ifCond .ne 110, 3) := by decide +kernel
theorem dL_holds_270 : decode cL_holds 270 = .ok (.aload_n 2, 1) := by decide +kernel
theorem dL_holds_271 : decode cL_holds 271 = .ok (.bipush 21, 2) := by decide +kernel
theorem dL_holds_273 : decode cL_holds 273 = .ok (.iaload, 1) := by decide +kernel
theorem dL_holds_274 : decode cL_holds 274 = .ok (.bipush 6, 2) := by decide +kernel
theorem dL_holds_276 : decode cL_holds 276 = .ok (.if_icmp .ge 101, 3) := by decide +kernel
theorem dL_holds_279 : decode cL_holds 279 = .ok (.iconst 3, 1) := by decide +kernel
theorem dL_holds_280 : decode cL_holds 280 = .ok (.aload_n 2, 1) := by decide +kernel
theorem dL_holds_281 : decode cL_holds 281 = .ok (.bipush 21, 2) := by decide +kernel
theorem dL_holds_283 : decode cL_holds 283 = .ok (.iaload, 1) := by decide +kernel
theorem dL_holds_284 : decode cL_holds 284 = .ok (.imul, 1) := by decide +kernel
theorem dL_holds_285 : decode cL_holds 285 = .ok (.istore 16, 2) := by decide +kernel
theorem dL_holds_287 : decode cL_holds 287 = .ok (.aload 4, 2) := by decide +kernel
theorem dL_holds_289 : decode cL_holds 289 = .ok (.iload 16, 2) := by decide +kernel
theorem dL_holds_291 : decode cL_holds 291 = .ok (.iload 15, 2) := by decide +kernel
theorem dL_holds_293 : decode cL_holds 293 = .ok (.iconst 4, 1) := by decide +kernel
theorem dL_holds_294 : decode cL_holds 294 = .ok (.irem, 1) := by decide +kernel
theorem dL_holds_295 : decode cL_holds 295 = .ok (.iastore, 1) := by decide +kernel
theorem dL_holds_296 : decode cL_holds 296 = .ok (.aload 4, 2) := by decide +kernel
theorem dL_holds_298 : decode cL_holds 298 = .ok (.iload 16, 2) := by decide +kernel
theorem dL_holds_300 : decode cL_holds 300 = .ok (.iconst 1, 1) := by decide +kernel
theorem dL_holds_301 : decode cL_holds 301 = .ok (.iadd, 1) := by decide +kernel
theorem dL_holds_302 : decode cL_holds 302 = .ok (.iconst 1, 1) := by decide +kernel
theorem dL_holds_303 : decode cL_holds 303 = .ok (.iload 15, 2) := by decide +kernel
theorem dL_holds_305 : decode cL_holds 305 = .ok (.iconst 4, 1) := by decide +kernel
theorem dL_holds_306 : decode cL_holds 306 = .ok (.idiv, 1) := by decide +kernel
theorem dL_holds_307 : decode cL_holds 307 = .ok (.sipush 300, 3) := by decide +kernel
theorem dL_holds_310 : decode cL_holds 310 = .ok (.irem, 1) := by decide +kernel
theorem dL_holds_311 : decode cL_holds 311 = .ok (.iadd, 1) := by decide +kernel
theorem dL_holds_312 : decode cL_holds 312 = .ok (.iastore, 1) := by decide +kernel
theorem dL_holds_313 : decode cL_holds 313 = .ok (.aload 4, 2) := by decide +kernel
theorem dL_holds_315 : decode cL_holds 315 = .ok (.iload 16, 2) := by decide +kernel
theorem dL_holds_317 : decode cL_holds 317 = .ok (.iconst 2, 1) := by decide +kernel
theorem dL_holds_318 : decode cL_holds 318 = .ok (.iadd, 1) := by decide +kernel
theorem dL_holds_319 : decode cL_holds 319 = .ok (.iload 15, 2) := by decide +kernel
theorem dL_holds_321 : decode cL_holds 321 = .ok (.sipush 1200, 3) := by decide +kernel
theorem dL_holds_324 : decode cL_holds 324 = .ok (.idiv, 1) := by decide +kernel
theorem dL_holds_325 : decode cL_holds 325 = .ok (.bipush 20, 2) := by decide +kernel
theorem dL_holds_327 : decode cL_holds 327 = .ok (.irem, 1) := by decide +kernel
theorem dL_holds_328 : decode cL_holds 328 = .ok (.iastore, 1) := by decide +kernel
theorem dL_holds_329 : decode cL_holds 329 = .ok (.aload_n 2, 1) := by decide +kernel
theorem dL_holds_330 : decode cL_holds 330 = .ok (.bipush 21, 2) := by decide +kernel
theorem dL_holds_332 : decode cL_holds 332 = .ok (.dup2, 1) := by decide +kernel
theorem dL_holds_333 : decode cL_holds 333 = .ok (.iaload, 1) := by decide +kernel
theorem dL_holds_334 : decode cL_holds 334 = .ok (.iconst 1, 1) := by decide +kernel
theorem dL_holds_335 : decode cL_holds 335 = .ok (.iadd, 1) := by decide +kernel
theorem dL_holds_336 : decode cL_holds 336 = .ok (.iastore, 1) := by decide +kernel
theorem dL_holds_337 : decode cL_holds 337 = .ok (.aload_n 1, 1) := by decide +kernel
theorem dL_holds_338 : decode cL_holds 338 = .ok (.aload 4, 2) := by decide +kernel
theorem dL_holds_340 : decode cL_holds 340 = .ok (.iload 16, 2) := by decide +kernel
theorem dL_holds_342 : decode cL_holds 342 = .ok (.iaload, 1) := by decide +kernel
theorem dL_holds_343 : decode cL_holds 343 = .ok (.aload 4, 2) := by decide +kernel
theorem dL_holds_345 : decode cL_holds 345 = .ok (.iload 16, 2) := by decide +kernel
theorem dL_holds_347 : decode cL_holds 347 = .ok (.iconst 1, 1) := by decide +kernel
theorem dL_holds_348 : decode cL_holds 348 = .ok (.iadd, 1) := by decide +kernel
theorem dL_holds_349 : decode cL_holds 349 = .ok (.iaload, 1) := by decide +kernel
theorem dL_holds_350 : decode cL_holds 350 = .ok (.aload 4, 2) := by decide +kernel
theorem dL_holds_352 : decode cL_holds 352 = .ok (.iload 16, 2) := by decide +kernel
theorem dL_holds_354 : decode cL_holds 354 = .ok (.iconst 2, 1) := by decide +kernel
theorem dL_holds_355 : decode cL_holds 355 = .ok (.iadd, 1) := by decide +kernel
theorem dL_holds_356 : decode cL_holds 356 = .ok (.iaload, 1) := by decide +kernel
theorem dL_holds_357 : decode cL_holds 357 = .ok (.invokevirtual 143, 3) := by decide +kernel
theorem dL_holds_360 : decode cL_holds 360 = .ok (.aload_n 2, 1) := by decide +kernel
theorem dL_holds_361 : decode cL_holds 361 = .ok (.bipush 21, 2) := by decide +kernel
theorem dL_holds_363 : decode cL_holds 363 = .ok (.iaload, 1) := by decide +kernel
theorem dL_holds_364 : decode cL_holds 364 = .ok (.if_icmp .ne 7, 3) := by decide +kernel
theorem dL_holds_367 : decode cL_holds 367 = .ok (.iconst 1, 1) := by decide +kernel
theorem dL_holds_368 : decode cL_holds 368 = .ok (.goto 4, 3) := by decide +kernel
theorem dL_holds_371 : decode cL_holds 371 = .ok (.iconst 0, 1) := by decide +kernel
theorem dL_holds_372 : decode cL_holds 372 = .ok (.istore 12, 2) := by decide +kernel
theorem dL_holds_374 : decode cL_holds 374 = .ok (.goto 356, 3) := by decide +kernel
theorem dL_holds_377 : decode cL_holds 377 = .ok (.iload 14, 2) := by decide +kernel
theorem dL_holds_379 : decode cL_holds 379 = .ok (.bipush 8, 2) := by decide +kernel
theorem dL_holds_381 : decode cL_holds 381 = .ok (.if_icmp .ne 77, 3) := by decide +kernel
theorem dL_holds_384 : decode cL_holds 384 = .ok (.lload 9, 2) := by decide +kernel
theorem dL_holds_386 : decode cL_holds 386 = .ok (.lconst 1, 1) := by decide +kernel
theorem dL_holds_387 : decode cL_holds 387 = .ok (.iload 15, 2) := by decide +kernel
theorem dL_holds_389 : decode cL_holds 389 = .ok (.sipush 10001, 3) := by decide +kernel
theorem dL_holds_392 : decode cL_holds 392 = .ok (.irem, 1) := by decide +kernel
theorem dL_holds_393 : decode cL_holds 393 = .ok (.i2l, 1) := by decide +kernel
theorem dL_holds_394 : decode cL_holds 394 = .ok (.lmul, 1) := by decide +kernel
theorem dL_holds_395 : decode cL_holds 395 = .ok (.iload 15, 2) := by decide +kernel
theorem dL_holds_397 : decode cL_holds 397 = .ok (.sipush 1001, 3) := by decide +kernel
theorem dL_holds_400 : decode cL_holds 400 = .ok (.irem, 1) := by decide +kernel
theorem dL_holds_401 : decode cL_holds 401 = .ok (.i2l, 1) := by decide +kernel
theorem dL_holds_402 : decode cL_holds 402 = .ok (.lmul, 1) := by decide +kernel
theorem dL_holds_403 : decode cL_holds 403 = .ok (.iconst 1, 1) := by decide +kernel
theorem dL_holds_404 : decode cL_holds 404 = .ok (.iload 15, 2) := by decide +kernel
theorem dL_holds_406 : decode cL_holds 406 = .ok (.bipush 100, 2) := by decide +kernel
theorem dL_holds_408 : decode cL_holds 408 = .ok (.irem, 1) := by decide +kernel
theorem dL_holds_409 : decode cL_holds 409 = .ok (.iadd, 1) := by decide +kernel
theorem dL_holds_410 : decode cL_holds 410 = .ok (.i2l, 1) := by decide +kernel
theorem dL_holds_411 : decode cL_holds 411 = .ok (.lmul, 1) := by decide +kernel
theorem dL_holds_412 : decode cL_holds 412 = .ok (.ladd, 1) := by decide +kernel
theorem dL_holds_413 : decode cL_holds 413 = .ok (.lstore 9, 2) := by decide +kernel
theorem dL_holds_415 : decode cL_holds 415 = .ok (.aload_n 1, 1) := by decide +kernel
theorem dL_holds_416 : decode cL_holds 416 = .ok (.iload 15, 2) := by decide +kernel
theorem dL_holds_418 : decode cL_holds 418 = .ok (.sipush 10001, 3) := by decide +kernel
theorem dL_holds_421 : decode cL_holds 421 = .ok (.irem, 1) := by decide +kernel
theorem dL_holds_422 : decode cL_holds 422 = .ok (.iload 15, 2) := by decide +kernel
theorem dL_holds_424 : decode cL_holds 424 = .ok (.sipush 1001, 3) := by decide +kernel
theorem dL_holds_427 : decode cL_holds 427 = .ok (.irem, 1) := by decide +kernel
theorem dL_holds_428 : decode cL_holds 428 = .ok (.iconst 1, 1) := by decide +kernel
theorem dL_holds_429 : decode cL_holds 429 = .ok (.iload 15, 2) := by decide +kernel
theorem dL_holds_431 : decode cL_holds 431 = .ok (.bipush 100, 2) := by decide +kernel
theorem dL_holds_433 : decode cL_holds 433 = .ok (.irem, 1) := by decide +kernel
theorem dL_holds_434 : decode cL_holds 434 = .ok (.iadd, 1) := by decide +kernel
theorem dL_holds_435 : decode cL_holds 435 = .ok (.invokevirtual 147, 3) := by decide +kernel
theorem dL_holds_438 : decode cL_holds 438 = .ok (.lload 9, 2) := by decide +kernel
theorem dL_holds_440 : decode cL_holds 440 = .ok (.ldc2_w 151, 3) := by decide +kernel
theorem dL_holds_443 : decode cL_holds 443 = .ok (.ldiv, 1) := by decide +kernel
theorem dL_holds_444 : decode cL_holds 444 = .ok (.lcmp, 1) := by decide +kernel
theorem dL_holds_445 : decode cL_holds 445 = .ok (.ifCond .ne 7, 3) := by decide +kernel
theorem dL_holds_448 : decode cL_holds 448 = .ok (.iconst 1, 1) := by decide +kernel
theorem dL_holds_449 : decode cL_holds 449 = .ok (.goto 4, 3) := by decide +kernel
theorem dL_holds_452 : decode cL_holds 452 = .ok (.iconst 0, 1) := by decide +kernel
theorem dL_holds_453 : decode cL_holds 453 = .ok (.istore 12, 2) := by decide +kernel
theorem dL_holds_455 : decode cL_holds 455 = .ok (.goto 275, 3) := by decide +kernel
theorem dL_holds_458 : decode cL_holds 458 = .ok (.iload 14, 2) := by decide +kernel
theorem dL_holds_460 : decode cL_holds 460 = .ok (.bipush 6, 2) := by decide +kernel
theorem dL_holds_462 : decode cL_holds 462 = .ok (.if_icmp .lt 17, 3) := by decide +kernel
theorem dL_holds_465 : decode cL_holds 465 = .ok (.iload 14, 2) := by decide +kernel
theorem dL_holds_467 : decode cL_holds 467 = .ok (.bipush 14, 2) := by decide +kernel
theorem dL_holds_469 : decode cL_holds 469 = .ok (.if_icmp .ge 35, 3) := by decide +kernel
theorem dL_holds_472 : decode cL_holds 472 = .ok (.aload_n 2, 1) := by decide +kernel
theorem dL_holds_473 : decode cL_holds 473 = .ok (.bipush 8, 2) := by decide +kernel
theorem dL_holds_475 : decode cL_holds 475 = .ok (.iaload, 1) := by decide +kernel
theorem dL_holds_476 : decode cL_holds 476 = .ok (.ifCond .ne 28, 3) := by decide +kernel
theorem dL_holds_479 : decode cL_holds 479 = .ok (.aload_n 1, 1) := by decide +kernel
theorem dL_holds_480 : decode cL_holds 480 = .ok (.aload_n 2, 1) := by decide +kernel
theorem dL_holds_481 : decode cL_holds 481 = .ok (.aload_n 3, 1) := by decide +kernel
theorem dL_holds_482 : decode cL_holds 482 = .ok (.aload 4, 2) := by decide +kernel
theorem dL_holds_484 : decode cL_holds 484 = .ok (.aload 5, 2) := by decide +kernel
theorem dL_holds_486 : decode cL_holds 486 = .ok (.aload 6, 2) := by decide +kernel
theorem dL_holds_488 : decode cL_holds 488 = .ok (.aload 7, 2) := by decide +kernel
theorem dL_holds_490 : decode cL_holds 490 = .ok (.iload 8, 2) := by decide +kernel
theorem dL_holds_492 : decode cL_holds 492 = .ok (.iload 14, 2) := by decide +kernel
theorem dL_holds_494 : decode cL_holds 494 = .ok (.iload 15, 2) := by decide +kernel
theorem dL_holds_496 : decode cL_holds 496 = .ok (.invokestatic 153, 3) := by decide +kernel
theorem dL_holds_499 : decode cL_holds 499 = .ok (.istore 12, 2) := by decide +kernel
theorem dL_holds_501 : decode cL_holds 501 = .ok (.goto 229, 3) := by decide +kernel
theorem dL_holds_504 : decode cL_holds 504 = .ok (.aload_n 2, 1) := by decide +kernel
theorem dL_holds_505 : decode cL_holds 505 = .ok (.bipush 8, 2) := by decide +kernel
theorem dL_holds_507 : decode cL_holds 507 = .ok (.iaload, 1) := by decide +kernel
theorem dL_holds_508 : decode cL_holds 508 = .ok (.iconst 2, 1) := by decide +kernel
theorem dL_holds_509 : decode cL_holds 509 = .ok (.if_icmp .ne 14, 3) := by decide +kernel
theorem dL_holds_512 : decode cL_holds 512 = .ok (.bipush 9, 2) := by decide +kernel
theorem dL_holds_514 : decode cL_holds 514 = .ok (.iload 15, 2) := by decide +kernel
theorem dL_holds_516 : decode cL_holds 516 = .ok (.bipush 30, 2) := by decide +kernel
theorem dL_holds_518 : decode cL_holds 518 = .ok (.irem, 1) := by decide +kernel
theorem dL_holds_519 : decode cL_holds 519 = .ok (.iadd, 1) := by decide +kernel
theorem dL_holds_520 : decode cL_holds 520 = .ok (.goto 28, 3) := by decide +kernel
theorem dL_holds_523 : decode cL_holds 523 = .ok (.aload_n 2, 1) := by decide +kernel
theorem dL_holds_524 : decode cL_holds 524 = .ok (.bipush 8, 2) := by decide +kernel
theorem dL_holds_526 : decode cL_holds 526 = .ok (.iaload, 1) := by decide +kernel
theorem dL_holds_527 : decode cL_holds 527 = .ok (.iconst 3, 1) := by decide +kernel
theorem dL_holds_528 : decode cL_holds 528 = .ok (.if_icmp .eq 11, 3) := by decide +kernel
theorem dL_holds_531 : decode cL_holds 531 = .ok (.aload_n 2, 1) := by decide +kernel
theorem dL_holds_532 : decode cL_holds 532 = .ok (.bipush 8, 2) := by decide +kernel
theorem dL_holds_534 : decode cL_holds 534 = .ok (.iaload, 1) := by decide +kernel
theorem dL_holds_535 : decode cL_holds 535 = .ok (.iconst 5, 1) := by decide +kernel
theorem dL_holds_536 : decode cL_holds 536 = .ok (.if_icmp .ne 11, 3) := by decide +kernel
theorem dL_holds_539 : decode cL_holds 539 = .ok (.iload 15, 2) := by decide +kernel
theorem dL_holds_541 : decode cL_holds 541 = .ok (.bipush 9, 2) := by decide +kernel
theorem dL_holds_543 : decode cL_holds 543 = .ok (.irem, 1) := by decide +kernel
theorem dL_holds_544 : decode cL_holds 544 = .ok (.goto 4, 3) := by decide +kernel
theorem dL_holds_547 : decode cL_holds 547 = .ok (.iconst 0, 1) := by decide +kernel
theorem dL_holds_548 : decode cL_holds 548 = .ok (.istore 16, 2) := by decide +kernel
theorem dL_holds_550 : decode cL_holds 550 = .ok (.iload 11, 2) := by decide +kernel
theorem dL_holds_552 : decode cL_holds 552 = .ok (.iload 16, 2) := by decide +kernel
theorem dL_holds_554 : decode cL_holds 554 = .ok (.iload 15, 2) := by decide +kernel
theorem dL_holds_556 : decode cL_holds 556 = .ok (.sipush 300, 3) := by decide +kernel
theorem dL_holds_559 : decode cL_holds 559 = .ok (.idiv, 1) := by decide +kernel
theorem dL_holds_560 : decode cL_holds 560 = .ok (.iconst 5, 1) := by decide +kernel
theorem dL_holds_561 : decode cL_holds 561 = .ok (.irem, 1) := by decide +kernel
theorem dL_holds_562 : decode cL_holds 562 = .ok (.ifCond .ne 16, 3) := by decide +kernel
theorem dL_holds_565 : decode cL_holds 565 = .ok (.iload 15, 2) := by decide +kernel
theorem dL_holds_567 : decode cL_holds 567 = .ok (.sipush 1500, 3) := by decide +kernel
theorem dL_holds_570 : decode cL_holds 570 = .ok (.idiv, 1) := by decide +kernel
theorem dL_holds_571 : decode cL_holds 571 = .ok (.iconst 5, 1) := by decide +kernel
theorem dL_holds_572 : decode cL_holds 572 = .ok (.irem, 1) := by decide +kernel
theorem dL_holds_573 : decode cL_holds 573 = .ok (.iconst 2, 1) := by decide +kernel
theorem dL_holds_574 : decode cL_holds 574 = .ok (.isub, 1) := by decide +kernel
theorem dL_holds_575 : decode cL_holds 575 = .ok (.goto 4, 3) := by decide +kernel
theorem dL_holds_578 : decode cL_holds 578 = .ok (.iconst 0, 1) := by decide +kernel
theorem dL_holds_579 : decode cL_holds 579 = .ok (.iadd, 1) := by decide +kernel
theorem dL_holds_580 : decode cL_holds 580 = .ok (.aload_n 2, 1) := by decide +kernel
theorem dL_holds_581 : decode cL_holds 581 = .ok (.bipush 8, 2) := by decide +kernel
theorem dL_holds_583 : decode cL_holds 583 = .ok (.iaload, 1) := by decide +kernel
theorem dL_holds_584 : decode cL_holds 584 = .ok (.ifCond .ne 16, 3) := by decide +kernel
theorem dL_holds_587 : decode cL_holds 587 = .ok (.iload 15, 2) := by decide +kernel
theorem dL_holds_589 : decode cL_holds 589 = .ok (.bipush 50, 2) := by decide +kernel
theorem dL_holds_591 : decode cL_holds 591 = .ok (.irem, 1) := by decide +kernel
theorem dL_holds_592 : decode cL_holds 592 = .ok (.ifCond .ne 8, 3) := by decide +kernel
theorem dL_holds_595 : decode cL_holds 595 = .ok (.iload 11, 2) := by decide +kernel
theorem dL_holds_597 : decode cL_holds 597 = .ok (.goto 4, 3) := by decide +kernel
theorem dL_holds_600 : decode cL_holds 600 = .ok (.iconst 0, 1) := by decide +kernel
theorem dL_holds_601 : decode cL_holds 601 = .ok (.isub, 1) := by decide +kernel
theorem dL_holds_602 : decode cL_holds 602 = .ok (.iadd, 1) := by decide +kernel
theorem dL_holds_603 : decode cL_holds 603 = .ok (.istore 11, 2) := by decide +kernel
theorem dL_holds_605 : decode cL_holds 605 = .ok (.aload_n 2, 1) := by decide +kernel
theorem dL_holds_606 : decode cL_holds 606 = .ok (.bipush 8, 2) := by decide +kernel
theorem dL_holds_608 : decode cL_holds 608 = .ok (.iaload, 1) := by decide +kernel
theorem dL_holds_609 : decode cL_holds 609 = .ok (.iconst 4, 1) := by decide +kernel
theorem dL_holds_610 : decode cL_holds 610 = .ok (.if_icmp .eq 11, 3) := by decide +kernel
theorem dL_holds_613 : decode cL_holds 613 = .ok (.aload_n 2, 1) := by decide +kernel
theorem dL_holds_614 : decode cL_holds 614 = .ok (.bipush 8, 2) := by decide +kernel
theorem dL_holds_616 : decode cL_holds 616 = .ok (.iaload, 1) := by decide +kernel
theorem dL_holds_617 : decode cL_holds 617 = .ok (.iconst 1, 1) := by decide +kernel
theorem dL_holds_618 : decode cL_holds 618 = .ok (.if_icmp .ne 12, 3) := by decide +kernel
theorem dL_holds_621 : decode cL_holds 621 = .ok (.iconst 1, 1) := by decide +kernel
theorem dL_holds_622 : decode cL_holds 622 = .ok (.iload 15, 2) := by decide +kernel
theorem dL_holds_624 : decode cL_holds 624 = .ok (.iconst 4, 1) := by decide +kernel
theorem dL_holds_625 : decode cL_holds 625 = .ok (.irem, 1) := by decide +kernel
theorem dL_holds_626 : decode cL_holds 626 = .ok (.iadd, 1) := by decide +kernel
theorem dL_holds_627 : decode cL_holds 627 = .ok (.goto 31, 3) := by decide +kernel
theorem dL_holds_630 : decode cL_holds 630 = .ok (.iload 14, 2) := by decide +kernel
theorem dL_holds_632 : decode cL_holds 632 = .ok (.bipush 10, 2) := by decide +kernel
theorem dL_holds_634 : decode cL_holds 634 = .ok (.irem, 1) := by decide +kernel
theorem dL_holds_635 : decode cL_holds 635 = .ok (.bipush 9, 2) := by decide +kernel
theorem dL_holds_637 : decode cL_holds 637 = .ok (.if_icmp .ne 20, 3) := by decide +kernel
theorem dL_holds_640 : decode cL_holds 640 = .ok (.iload 15, 2) := by decide +kernel
theorem dL_holds_642 : decode cL_holds 642 = .ok (.iconst 3, 1) := by decide +kernel
theorem dL_holds_643 : decode cL_holds 643 = .ok (.irem, 1) := by decide +kernel
theorem dL_holds_644 : decode cL_holds 644 = .ok (.ifCond .ne 13, 3) := by decide +kernel
theorem dL_holds_647 : decode cL_holds 647 = .ok (.iconst 1, 1) := by decide +kernel
theorem dL_holds_648 : decode cL_holds 648 = .ok (.iload 15, 2) := by decide +kernel
theorem dL_holds_650 : decode cL_holds 650 = .ok (.bipush 24, 2) := by decide +kernel
theorem dL_holds_652 : decode cL_holds 652 = .ok (.irem, 1) := by decide +kernel
theorem dL_holds_653 : decode cL_holds 653 = .ok (.iadd, 1) := by decide +kernel
theorem dL_holds_654 : decode cL_holds 654 = .ok (.goto 4, 3) := by decide +kernel
theorem dL_holds_657 : decode cL_holds 657 = .ok (.iconst 1, 1) := by decide +kernel
theorem dL_holds_658 : decode cL_holds 658 = .ok (.istore 17, 2) := by decide +kernel
theorem dL_holds_660 : decode cL_holds 660 = .ok (.iconst 0, 1) := by decide +kernel
theorem dL_holds_661 : decode cL_holds 661 = .ok (.istore 18, 2) := by decide +kernel
theorem dL_holds_663 : decode cL_holds 663 = .ok (.iload 18, 2) := by decide +kernel
theorem dL_holds_665 : decode cL_holds 665 = .ok (.iload 17, 2) := by decide +kernel
theorem dL_holds_667 : decode cL_holds 667 = .ok (.if_icmp .ge 26, 3) := by decide +kernel
theorem dL_holds_670 : decode cL_holds 670 = .ok (.aload_n 2, 1) := by decide +kernel
theorem dL_holds_671 : decode cL_holds 671 = .ok (.aload_n 3, 1) := by decide +kernel
theorem dL_holds_672 : decode cL_holds 672 = .ok (.aload 4, 2) := by decide +kernel
theorem dL_holds_674 : decode cL_holds 674 = .ok (.aload 5, 2) := by decide +kernel
theorem dL_holds_676 : decode cL_holds 676 = .ok (.aload 6, 2) := by decide +kernel
theorem dL_holds_678 : decode cL_holds 678 = .ok (.aload 7, 2) := by decide +kernel
theorem dL_holds_680 : decode cL_holds 680 = .ok (.iload 8, 2) := by decide +kernel
theorem dL_holds_682 : decode cL_holds 682 = .ok (.iload 11, 2) := by decide +kernel
theorem dL_holds_684 : decode cL_holds 684 = .ok (.invokestatic 157, 3) := by decide +kernel
theorem dL_holds_687 : decode cL_holds 687 = .ok (.iinc 18 1, 3) := by decide +kernel
theorem dL_holds_690 : decode cL_holds 690 = .ok (.goto (-27), 3) := by decide +kernel
theorem dL_holds_693 : decode cL_holds 693 = .ok (.iload 17, 2) := by decide +kernel
theorem dL_holds_695 : decode cL_holds 695 = .ok (.iconst 1, 1) := by decide +kernel
theorem dL_holds_696 : decode cL_holds 696 = .ok (.if_icmp .ne 12, 3) := by decide +kernel
theorem dL_holds_699 : decode cL_holds 699 = .ok (.aload_n 1, 1) := by decide +kernel
theorem dL_holds_700 : decode cL_holds 700 = .ok (.iload 11, 2) := by decide +kernel
theorem dL_holds_702 : decode cL_holds 702 = .ok (.invokevirtual 161, 3) := by decide +kernel
theorem dL_holds_705 : decode cL_holds 705 = .ok (.goto 11, 3) := by decide +kernel
theorem dL_holds_708 : decode cL_holds 708 = .ok (.aload_n 1, 1) := by decide +kernel
theorem dL_holds_709 : decode cL_holds 709 = .ok (.iload 11, 2) := by decide +kernel
theorem dL_holds_711 : decode cL_holds 711 = .ok (.iload 17, 2) := by decide +kernel
theorem dL_holds_713 : decode cL_holds 713 = .ok (.invokevirtual 164, 3) := by decide +kernel
theorem dL_holds_716 : decode cL_holds 716 = .ok (.aload_n 2, 1) := by decide +kernel
theorem dL_holds_717 : decode cL_holds 717 = .ok (.bipush 8, 2) := by decide +kernel
theorem dL_holds_719 : decode cL_holds 719 = .ok (.iaload, 1) := by decide +kernel
theorem dL_holds_720 : decode cL_holds 720 = .ok (.if_icmp .ne 7, 3) := by decide +kernel
theorem dL_holds_723 : decode cL_holds 723 = .ok (.iconst 1, 1) := by decide +kernel
theorem dL_holds_724 : decode cL_holds 724 = .ok (.goto 4, 3) := by decide +kernel
theorem dL_holds_727 : decode cL_holds 727 = .ok (.iconst 0, 1) := by decide +kernel
theorem dL_holds_728 : decode cL_holds 728 = .ok (.istore 12, 2) := by decide +kernel
theorem dL_holds_730 : decode cL_holds 730 = .ok (.iload 12, 2) := by decide +kernel
theorem dL_holds_732 : decode cL_holds 732 = .ok (.ifCond .eq 26, 3) := by decide +kernel
theorem dL_holds_735 : decode cL_holds 735 = .ok (.aload_n 1, 1) := by decide +kernel
theorem dL_holds_736 : decode cL_holds 736 = .ok (.aload_n 2, 1) := by decide +kernel
theorem dL_holds_737 : decode cL_holds 737 = .ok (.aload_n 3, 1) := by decide +kernel
theorem dL_holds_738 : decode cL_holds 738 = .ok (.aload 4, 2) := by decide +kernel
theorem dL_holds_740 : decode cL_holds 740 = .ok (.aload 5, 2) := by decide +kernel
theorem dL_holds_742 : decode cL_holds 742 = .ok (.aload 6, 2) := by decide +kernel
theorem dL_holds_744 : decode cL_holds 744 = .ok (.aload 7, 2) := by decide +kernel
theorem dL_holds_746 : decode cL_holds 746 = .ok (.iload 8, 2) := by decide +kernel
theorem dL_holds_748 : decode cL_holds 748 = .ok (.invokestatic 167, 3) := by decide +kernel
theorem dL_holds_751 : decode cL_holds 751 = .ok (.ifCond .eq 7, 3) := by decide +kernel
theorem dL_holds_754 : decode cL_holds 754 = .ok (.iconst 1, 1) := by decide +kernel
theorem dL_holds_755 : decode cL_holds 755 = .ok (.goto 4, 3) := by decide +kernel
theorem dL_holds_758 : decode cL_holds 758 = .ok (.iconst 0, 1) := by decide +kernel
theorem dL_holds_759 : decode cL_holds 759 = .ok (.istore 12, 2) := by decide +kernel
theorem dL_holds_761 : decode cL_holds 761 = .ok (.iinc 13 1, 3) := by decide +kernel
theorem dL_holds_764 : decode cL_holds 764 = .ok (.goto (-660), 3) := by decide +kernel
theorem dL_holds_767 : decode cL_holds 767 = .ok (.iload 12, 2) := by decide +kernel
theorem dL_holds_769 : decode cL_holds 769 = .ok (.ireturn, 1) := by decide +kernel
theorem dL_isHeld_0 : decode cL_isHeld 0 = .ok (.aload_n 0, 1) := by decide +kernel
theorem dL_isHeld_1 : decode cL_isHeld 1 = .ok (.invokestatic 171, 3) := by decide +kernel
theorem dL_isHeld_4 : decode cL_isHeld 4 = .ok (.ireturn, 1) := by decide +kernel
theorem dL_isHeld_5 : decode cL_isHeld 5 = .ok (.astore_n 1, 1) := by decide +kernel
theorem dL_isHeld_6 : decode cL_isHeld 6 = .ok (.iconst 0, 1) := by decide +kernel
theorem dL_isHeld_7 : decode cL_isHeld 7 = .ok (.ireturn, 1) := by decide +kernel
theorem dL_isHeld_8 : decode cL_isHeld 8 = .ok (.astore_n 1, 1) := by decide +kernel
theorem dL_isHeld_9 : decode cL_isHeld 9 = .ok (.iconst 0, 1) := by decide +kernel
theorem dL_isHeld_10 : decode cL_isHeld 10 = .ok (.ireturn, 1) := by decide +kernel
theorem dL_isHeld_11 : decode cL_isHeld 11 = .ok (.astore_n 1, 1) := by decide +kernel
theorem dL_isHeld_12 : decode cL_isHeld 12 = .ok (.iconst 0, 1) := by decide +kernel
theorem dL_isHeld_13 : decode cL_isHeld 13 = .ok (.ireturn, 1) := by decide +kernel
theorem dL_law_0 : decode cL_law 0 = .ok (.aload_n 0, 1) := by decide +kernel
theorem dL_law_1 : decode cL_law 1 = .ok (.invokestatic 178, 3) := by decide +kernel
theorem dL_law_4 : decode cL_law 4 = .ok (.ireturn, 1) := by decide +kernel
end
section
abbrev M_X0_init : m_M := (yX0_init, cX0_init, 2, none, 1, 4, 16)
theorem mk_X0_init : m_MK M_X0_init 0 := ⟨m_ws_in (List.mem_append_right _ (List.mem_of_getElem? (i := 76) (by decide +kernel))) rfl, m_ws_in (List.mem_append_right _ (List.mem_of_getElem? (i := 4) (by decide +kernel))) rfl, by decide +kernel⟩
theorem in_X0_init : Cond.instanceMethod yX0_init ∈ m_ws := m_ws_in (List.mem_append_right _ (List.mem_of_getElem? (i := 75) (by decide +kernel))) rfl
abbrev M_X0_learn : m_M := (yX0_learn, cX0_learn, 4, none, 1, 0, 0)
theorem mk_X0_learn : m_MK M_X0_learn 2 := ⟨m_ws_in (List.mem_append_right _ (List.mem_of_getElem? (i := 561) (by decide +kernel))) rfl, m_ws_in (List.mem_append_right _ (List.mem_of_getElem? (i := 4) (by decide +kernel))) rfl, by decide +kernel⟩
theorem in_X0_learn : Cond.instanceMethod yX0_learn ∈ m_ws := m_ws_in (List.mem_append_right _ (List.mem_of_getElem? (i := 559) (by decide +kernel))) rfl
theorem se_X0_learn : Cond.selects RX0 yX0_learn yX0_learn ∈ m_ws := m_ws_in (List.mem_append_right _ (List.mem_of_getElem? (i := 560) (by decide +kernel))) rfl
abbrev M_X1_init : m_M := (yX1_init, cX1_init, 1, none, 2, 15, 745)
theorem mk_X1_init : m_MK M_X1_init 0 := ⟨m_ws_in (List.mem_append_right _ (List.mem_of_getElem? (i := 35) (by decide +kernel))) rfl, m_ws_in (List.mem_append_right _ (List.mem_of_getElem? (i := 2) (by decide +kernel))) rfl, by decide +kernel⟩
theorem in_X1_init : Cond.instanceMethod yX1_init ∈ m_ws := m_ws_in (List.mem_append_right _ (List.mem_of_getElem? (i := 34) (by decide +kernel))) rfl
abbrev M_X1_bring : m_M := (yX1_bring, cX1_bring, 2, none, 5, 0, 0)
theorem mk_X1_bring : m_MK M_X1_bring 1 := ⟨m_ws_in (List.mem_append_right _ (List.mem_of_getElem? (i := 528) (by decide +kernel))) rfl, m_ws_in (List.mem_append_right _ (List.mem_of_getElem? (i := 2) (by decide +kernel))) rfl, by decide +kernel⟩
theorem in_X1_bring : Cond.instanceMethod yX1_bring ∈ m_ws := m_ws_in (List.mem_append_right _ (List.mem_of_getElem? (i := 526) (by decide +kernel))) rfl
theorem se_X1_bring : Cond.selects RX1 yX1_bring yX1_bring ∈ m_ws := m_ws_in (List.mem_append_right _ (List.mem_of_getElem? (i := 527) (by decide +kernel))) rfl
abbrev M_X1_gateOf : m_M := (yX1_gateOf, cX1_gateOf, 2, (some .int), 2, 0, 0)
theorem mk_X1_gateOf : m_MK M_X1_gateOf 1 := ⟨m_ws_in (List.mem_append_right _ (List.mem_of_getElem? (i := 625) (by decide +kernel))) rfl, m_ws_in (List.mem_append_right _ (List.mem_of_getElem? (i := 2) (by decide +kernel))) rfl, by decide +kernel⟩
theorem in_X1_gateOf : Cond.instanceMethod yX1_gateOf ∈ m_ws := m_ws_in (List.mem_append_right _ (List.mem_of_getElem? (i := 623) (by decide +kernel))) rfl
theorem se_X1_gateOf : Cond.selects RX1 yX1_gateOf yX1_gateOf ∈ m_ws := m_ws_in (List.mem_append_right _ (List.mem_of_getElem? (i := 624) (by decide +kernel))) rfl
abbrev M_X1_startBatch : m_M := (yX1_startBatch, cX1_startBatch, 2, (some .int), 2, 0, 0)
theorem mk_X1_startBatch : m_MK M_X1_startBatch 0 := ⟨m_ws_in (List.mem_append_right _ (List.mem_of_getElem? (i := 511) (by decide +kernel))) rfl, m_ws_in (List.mem_append_right _ (List.mem_of_getElem? (i := 2) (by decide +kernel))) rfl, by decide +kernel⟩
theorem in_X1_startBatch : Cond.instanceMethod yX1_startBatch ∈ m_ws := m_ws_in (List.mem_append_right _ (List.mem_of_getElem? (i := 509) (by decide +kernel))) rfl
theorem se_X1_startBatch : Cond.selects RX1 yX1_startBatch yX1_startBatch ∈ m_ws := m_ws_in (List.mem_append_right _ (List.mem_of_getElem? (i := 510) (by decide +kernel))) rfl
abbrev M_X1_halt : m_M := (yX1_halt, cX1_halt, 2, none, 1, 0, 0)
theorem mk_X1_halt : m_MK M_X1_halt 1 := ⟨m_ws_in (List.mem_append_right _ (List.mem_of_getElem? (i := 391) (by decide +kernel))) rfl, m_ws_in (List.mem_append_right _ (List.mem_of_getElem? (i := 2) (by decide +kernel))) rfl, by decide +kernel⟩
theorem in_X1_halt : Cond.instanceMethod yX1_halt ∈ m_ws := m_ws_in (List.mem_append_right _ (List.mem_of_getElem? (i := 389) (by decide +kernel))) rfl
theorem se_X1_halt : Cond.selects RX1 yX1_halt yX1_halt ∈ m_ws := m_ws_in (List.mem_append_right _ (List.mem_of_getElem? (i := 390) (by decide +kernel))) rfl
abbrev M_X1_goOn : m_M := (yX1_goOn, cX1_goOn, 1, none, 4, 0, 0)
theorem mk_X1_goOn : m_MK M_X1_goOn 0 := ⟨m_ws_in (List.mem_append_right _ (List.mem_of_getElem? (i := 418) (by decide +kernel))) rfl, m_ws_in (List.mem_append_right _ (List.mem_of_getElem? (i := 2) (by decide +kernel))) rfl, by decide +kernel⟩
theorem in_X1_goOn : Cond.instanceMethod yX1_goOn ∈ m_ws := m_ws_in (List.mem_append_right _ (List.mem_of_getElem? (i := 416) (by decide +kernel))) rfl
theorem se_X1_goOn : Cond.selects RX1 yX1_goOn yX1_goOn ∈ m_ws := m_ws_in (List.mem_append_right _ (List.mem_of_getElem? (i := 417) (by decide +kernel))) rfl
abbrev M_X1_breakOff : m_M := (yX1_breakOff, cX1_breakOff, 2, (some .int), 3, 0, 0)
theorem mk_X1_breakOff : m_MK M_X1_breakOff 0 := ⟨m_ws_in (List.mem_append_right _ (List.mem_of_getElem? (i := 474) (by decide +kernel))) rfl, m_ws_in (List.mem_append_right _ (List.mem_of_getElem? (i := 2) (by decide +kernel))) rfl, by decide +kernel⟩
theorem in_X1_breakOff : Cond.instanceMethod yX1_breakOff ∈ m_ws := m_ws_in (List.mem_append_right _ (List.mem_of_getElem? (i := 472) (by decide +kernel))) rfl
theorem se_X1_breakOff : Cond.selects RX1 yX1_breakOff yX1_breakOff ∈ m_ws := m_ws_in (List.mem_append_right _ (List.mem_of_getElem? (i := 473) (by decide +kernel))) rfl
abbrev M_X1_tareStep : m_M := (yX1_tareStep, cX1_tareStep, 1, none, 2, 0, 0)
theorem mk_X1_tareStep : m_MK M_X1_tareStep 0 := ⟨m_ws_in (List.mem_append_right _ (List.mem_of_getElem? (i := 542) (by decide +kernel))) rfl, m_ws_in (List.mem_append_right _ (List.mem_of_getElem? (i := 2) (by decide +kernel))) rfl, by decide +kernel⟩
theorem in_X1_tareStep : Cond.instanceMethod yX1_tareStep ∈ m_ws := m_ws_in (List.mem_append_right _ (List.mem_of_getElem? (i := 541) (by decide +kernel))) rfl
theorem se_X1_tareStep : Cond.selects RX1 yX1_tareStep yX1_tareStep ∈ m_ws := m_ws_in (List.mem_append_left _ (List.mem_of_getElem? (i := 6) (by decide +kernel))) rfl
abbrev M_X1_feed : m_M := (yX1_feed, cX1_feed, 3, none, 2, 0, 0)
theorem mk_X1_feed : m_MK M_X1_feed 0 := ⟨m_ws_in (List.mem_append_right _ (List.mem_of_getElem? (i := 552) (by decide +kernel))) rfl, m_ws_in (List.mem_append_right _ (List.mem_of_getElem? (i := 2) (by decide +kernel))) rfl, by decide +kernel⟩
theorem in_X1_feed : Cond.instanceMethod yX1_feed ∈ m_ws := m_ws_in (List.mem_append_right _ (List.mem_of_getElem? (i := 551) (by decide +kernel))) rfl
theorem se_X1_feed : Cond.selects RX1 yX1_feed yX1_feed ∈ m_ws := m_ws_in (List.mem_append_left _ (List.mem_of_getElem? (i := 8) (by decide +kernel))) rfl
abbrev M_X1_weigh : m_M := (yX1_weigh, cX1_weigh, 3, none, 4, 0, 0)
theorem mk_X1_weigh : m_MK M_X1_weigh 0 := ⟨m_ws_in (List.mem_append_right _ (List.mem_of_getElem? (i := 557) (by decide +kernel))) rfl, m_ws_in (List.mem_append_right _ (List.mem_of_getElem? (i := 2) (by decide +kernel))) rfl, by decide +kernel⟩
theorem in_X1_weigh : Cond.instanceMethod yX1_weigh ∈ m_ws := m_ws_in (List.mem_append_right _ (List.mem_of_getElem? (i := 556) (by decide +kernel))) rfl
theorem se_X1_weigh : Cond.selects RX1 yX1_weigh yX1_weigh ∈ m_ws := m_ws_in (List.mem_append_left _ (List.mem_of_getElem? (i := 9) (by decide +kernel))) rfl
abbrev M_X1_jog : m_M := (yX1_jog, cX1_jog, 1, none, 2, 0, 0)
theorem mk_X1_jog : m_MK M_X1_jog 0 := ⟨m_ws_in (List.mem_append_right _ (List.mem_of_getElem? (i := 572) (by decide +kernel))) rfl, m_ws_in (List.mem_append_right _ (List.mem_of_getElem? (i := 2) (by decide +kernel))) rfl, by decide +kernel⟩
theorem in_X1_jog : Cond.instanceMethod yX1_jog ∈ m_ws := m_ws_in (List.mem_append_right _ (List.mem_of_getElem? (i := 571) (by decide +kernel))) rfl
theorem se_X1_jog : Cond.selects RX1 yX1_jog yX1_jog ∈ m_ws := m_ws_in (List.mem_append_left _ (List.mem_of_getElem? (i := 10) (by decide +kernel))) rfl
abbrev M_X1_finishStep : m_M := (yX1_finishStep, cX1_finishStep, 1, none, 3, 0, 0)
theorem mk_X1_finishStep : m_MK M_X1_finishStep 0 := ⟨m_ws_in (List.mem_append_right _ (List.mem_of_getElem? (i := 422) (by decide +kernel))) rfl, m_ws_in (List.mem_append_right _ (List.mem_of_getElem? (i := 2) (by decide +kernel))) rfl, by decide +kernel⟩
theorem in_X1_finishStep : Cond.instanceMethod yX1_finishStep ∈ m_ws := m_ws_in (List.mem_append_right _ (List.mem_of_getElem? (i := 421) (by decide +kernel))) rfl
theorem se_X1_finishStep : Cond.selects RX1 yX1_finishStep yX1_finishStep ∈ m_ws := m_ws_in (List.mem_append_left _ (List.mem_of_getElem? (i := 2) (by decide +kernel))) rfl
abbrev M_X1_beginStep : m_M := (yX1_beginStep, cX1_beginStep, 2, none, 1, 0, 0)
theorem mk_X1_beginStep : m_MK M_X1_beginStep 1 := ⟨m_ws_in (List.mem_append_right _ (List.mem_of_getElem? (i := 463) (by decide +kernel))) rfl, m_ws_in (List.mem_append_right _ (List.mem_of_getElem? (i := 2) (by decide +kernel))) rfl, by decide +kernel⟩
theorem in_X1_beginStep : Cond.instanceMethod yX1_beginStep ∈ m_ws := m_ws_in (List.mem_append_right _ (List.mem_of_getElem? (i := 462) (by decide +kernel))) rfl
theorem se_X1_beginStep : Cond.selects RX1 yX1_beginStep yX1_beginStep ∈ m_ws := m_ws_in (List.mem_append_left _ (List.mem_of_getElem? (i := 5) (by decide +kernel))) rfl
abbrev M_X1_enter : m_M := (yX1_enter, cX1_enter, 2, none, 0, 0, 0)
theorem mk_X1_enter : m_MK M_X1_enter 1 := ⟨m_ws_in (List.mem_append_right _ (List.mem_of_getElem? (i := 395) (by decide +kernel))) rfl, m_ws_in (List.mem_append_right _ (List.mem_of_getElem? (i := 2) (by decide +kernel))) rfl, by decide +kernel⟩
theorem in_X1_enter : Cond.instanceMethod yX1_enter ∈ m_ws := m_ws_in (List.mem_append_right _ (List.mem_of_getElem? (i := 394) (by decide +kernel))) rfl
theorem se_X1_enter : Cond.selects RX1 yX1_enter yX1_enter ∈ m_ws := m_ws_in (List.mem_append_left _ (List.mem_of_getElem? (i := 1) (by decide +kernel))) rfl
abbrev M_X1_bookNet : m_M := (yX1_bookNet, cX1_bookNet, 4, (some .int), 2, 0, 0)
theorem mk_X1_bookNet : m_MK M_X1_bookNet 0 := ⟨m_ws_in (List.mem_append_right _ (List.mem_of_getElem? (i := 426) (by decide +kernel))) rfl, m_ws_in (List.mem_append_right _ (List.mem_of_getElem? (i := 2) (by decide +kernel))) rfl, by decide +kernel⟩
theorem in_X1_bookNet : Cond.instanceMethod yX1_bookNet ∈ m_ws := m_ws_in (List.mem_append_right _ (List.mem_of_getElem? (i := 425) (by decide +kernel))) rfl
theorem se_X1_bookNet : Cond.selects RX1 yX1_bookNet yX1_bookNet ∈ m_ws := m_ws_in (List.mem_append_left _ (List.mem_of_getElem? (i := 3) (by decide +kernel))) rfl
abbrev M_X1_stepBin : m_M := (yX1_stepBin, cX1_stepBin, 1, (some .int), 1, 0, 0)
theorem mk_X1_stepBin : m_MK M_X1_stepBin 0 := ⟨m_ws_in (List.mem_append_right _ (List.mem_of_getElem? (i := 441) (by decide +kernel))) rfl, m_ws_in (List.mem_append_right _ (List.mem_of_getElem? (i := 2) (by decide +kernel))) rfl, by decide +kernel⟩
theorem in_X1_stepBin : Cond.instanceMethod yX1_stepBin ∈ m_ws := m_ws_in (List.mem_append_right _ (List.mem_of_getElem? (i := 440) (by decide +kernel))) rfl
theorem se_X1_stepBin : Cond.selects RX1 yX1_stepBin yX1_stepBin ∈ m_ws := m_ws_in (List.mem_append_left _ (List.mem_of_getElem? (i := 4) (by decide +kernel))) rfl
abbrev M_X1_target : m_M := (yX1_target, cX1_target, 1, (some .int), 1, 0, 0)
theorem mk_X1_target : m_MK M_X1_target 0 := ⟨m_ws_in (List.mem_append_right _ (List.mem_of_getElem? (i := 548) (by decide +kernel))) rfl, m_ws_in (List.mem_append_right _ (List.mem_of_getElem? (i := 2) (by decide +kernel))) rfl, by decide +kernel⟩
theorem in_X1_target : Cond.instanceMethod yX1_target ∈ m_ws := m_ws_in (List.mem_append_right _ (List.mem_of_getElem? (i := 547) (by decide +kernel))) rfl
theorem se_X1_target : Cond.selects RX1 yX1_target yX1_target ∈ m_ws := m_ws_in (List.mem_append_left _ (List.mem_of_getElem? (i := 7) (by decide +kernel))) rfl
abbrev M_X2_init : m_M := (yX2_init, cX2_init, 1, none, 1, 4, 690)
theorem mk_X2_init : m_MK M_X2_init 0 := ⟨m_ws_in (List.mem_append_right _ (List.mem_of_getElem? (i := 104) (by decide +kernel))) rfl, m_ws_in (List.mem_append_right _ (List.mem_of_getElem? (i := 5) (by decide +kernel))) rfl, by decide +kernel⟩
theorem in_X2_init : Cond.instanceMethod yX2_init ∈ m_ws := m_ws_in (List.mem_append_right _ (List.mem_of_getElem? (i := 103) (by decide +kernel))) rfl
abbrev M_X2_store : m_M := (yX2_store, cX2_store, 4, (some .int), 1, 0, 0)
theorem mk_X2_store : m_MK M_X2_store 2 := ⟨m_ws_in (List.mem_append_right _ (List.mem_of_getElem? (i := 353) (by decide +kernel))) rfl, m_ws_in (List.mem_append_right _ (List.mem_of_getElem? (i := 5) (by decide +kernel))) rfl, by decide +kernel⟩
theorem in_X2_store : Cond.instanceMethod yX2_store ∈ m_ws := m_ws_in (List.mem_append_right _ (List.mem_of_getElem? (i := 351) (by decide +kernel))) rfl
theorem se_X2_store : Cond.selects RX2 yX2_store yX2_store ∈ m_ws := m_ws_in (List.mem_append_right _ (List.mem_of_getElem? (i := 352) (by decide +kernel))) rfl
abbrev M_X2_takeOut : m_M := (yX2_takeOut, cX2_takeOut, 7, (some .int), 1, 0, 0)
theorem mk_X2_takeOut : m_MK M_X2_takeOut 3 := ⟨m_ws_in (List.mem_append_right _ (List.mem_of_getElem? (i := 448) (by decide +kernel))) rfl, m_ws_in (List.mem_append_right _ (List.mem_of_getElem? (i := 5) (by decide +kernel))) rfl, by decide +kernel⟩
theorem in_X2_takeOut : Cond.instanceMethod yX2_takeOut ∈ m_ws := m_ws_in (List.mem_append_right _ (List.mem_of_getElem? (i := 446) (by decide +kernel))) rfl
theorem se_X2_takeOut : Cond.selects RX2 yX2_takeOut yX2_takeOut ∈ m_ws := m_ws_in (List.mem_append_right _ (List.mem_of_getElem? (i := 447) (by decide +kernel))) rfl
abbrev M_X2_leftIn : m_M := (yX2_leftIn, cX2_leftIn, 4, (some .int), 1, 0, 0)
theorem mk_X2_leftIn : m_MK M_X2_leftIn 1 := ⟨m_ws_in (List.mem_append_right _ (List.mem_of_getElem? (i := 649) (by decide +kernel))) rfl, m_ws_in (List.mem_append_right _ (List.mem_of_getElem? (i := 5) (by decide +kernel))) rfl, by decide +kernel⟩
theorem in_X2_leftIn : Cond.instanceMethod yX2_leftIn ∈ m_ws := m_ws_in (List.mem_append_right _ (List.mem_of_getElem? (i := 647) (by decide +kernel))) rfl
theorem se_X2_leftIn : Cond.selects RX2 yX2_leftIn yX2_leftIn ∈ m_ws := m_ws_in (List.mem_append_right _ (List.mem_of_getElem? (i := 648) (by decide +kernel))) rfl
abbrev M_X2_goneFrom : m_M := (yX2_goneFrom, cX2_goneFrom, 4, (some .int), 1, 0, 0)
theorem mk_X2_goneFrom : m_MK M_X2_goneFrom 1 := ⟨m_ws_in (List.mem_append_right _ (List.mem_of_getElem? (i := 641) (by decide +kernel))) rfl, m_ws_in (List.mem_append_right _ (List.mem_of_getElem? (i := 5) (by decide +kernel))) rfl, by decide +kernel⟩
theorem in_X2_goneFrom : Cond.instanceMethod yX2_goneFrom ∈ m_ws := m_ws_in (List.mem_append_right _ (List.mem_of_getElem? (i := 639) (by decide +kernel))) rfl
theorem se_X2_goneFrom : Cond.selects RX2 yX2_goneFrom yX2_goneFrom ∈ m_ws := m_ws_in (List.mem_append_right _ (List.mem_of_getElem? (i := 640) (by decide +kernel))) rfl
abbrev M_X2_usedFor : m_M := (yX2_usedFor, cX2_usedFor, 3, (some .int), 1, 0, 0)
theorem mk_X2_usedFor : m_MK M_X2_usedFor 2 := ⟨m_ws_in (List.mem_append_right _ (List.mem_of_getElem? (i := 670) (by decide +kernel))) rfl, m_ws_in (List.mem_append_right _ (List.mem_of_getElem? (i := 5) (by decide +kernel))) rfl, by decide +kernel⟩
theorem in_X2_usedFor : Cond.instanceMethod yX2_usedFor ∈ m_ws := m_ws_in (List.mem_append_right _ (List.mem_of_getElem? (i := 668) (by decide +kernel))) rfl
theorem se_X2_usedFor : Cond.selects RX2 yX2_usedFor yX2_usedFor ∈ m_ws := m_ws_in (List.mem_append_right _ (List.mem_of_getElem? (i := 669) (by decide +kernel))) rfl
abbrev M_X2_firstBatchOf : m_M := (yX2_firstBatchOf, cX2_firstBatchOf, 4, (some .int), 2, 0, 0)
theorem mk_X2_firstBatchOf : m_MK M_X2_firstBatchOf 2 := ⟨m_ws_in (List.mem_append_right _ (List.mem_of_getElem? (i := 666) (by decide +kernel))) rfl, m_ws_in (List.mem_append_right _ (List.mem_of_getElem? (i := 5) (by decide +kernel))) rfl, by decide +kernel⟩
theorem in_X2_firstBatchOf : Cond.instanceMethod yX2_firstBatchOf ∈ m_ws := m_ws_in (List.mem_append_right _ (List.mem_of_getElem? (i := 664) (by decide +kernel))) rfl
theorem se_X2_firstBatchOf : Cond.selects RX2 yX2_firstBatchOf yX2_firstBatchOf ∈ m_ws := m_ws_in (List.mem_append_right _ (List.mem_of_getElem? (i := 665) (by decide +kernel))) rfl
abbrev M_X2_place : m_M := (yX2_place, cX2_place, 2, (some .int), 0, 0, 0)
theorem mk_X2_place : m_MK M_X2_place 2 := ⟨m_ws_in (List.mem_append_right _ (List.mem_of_getElem? (i := 458) (by decide +kernel))) rfl, m_ws_in (List.mem_append_right _ (List.mem_of_getElem? (i := 5) (by decide +kernel))) rfl, by decide +kernel⟩
theorem st_X2_place : Cond.static yX2_place ∈ m_ws := m_ws_in (List.mem_append_right _ (List.mem_of_getElem? (i := 457) (by decide +kernel))) rfl
abbrev M_X3_init : m_M := (yX3_init, cX3_init, 1, none, 1, 3, 18)
theorem mk_X3_init : m_MK M_X3_init 0 := ⟨m_ws_in (List.mem_append_right _ (List.mem_of_getElem? (i := 128) (by decide +kernel))) rfl, m_ws_in (List.mem_append_right _ (List.mem_of_getElem? (i := 6) (by decide +kernel))) rfl, by decide +kernel⟩
theorem in_X3_init : Cond.instanceMethod yX3_init ∈ m_ws := m_ws_in (List.mem_append_right _ (List.mem_of_getElem? (i := 127) (by decide +kernel))) rfl
abbrev M_X3_append : m_M := (yX3_append, cX3_append, 4, none, 1, 0, 0)
theorem mk_X3_append : m_MK M_X3_append 3 := ⟨m_ws_in (List.mem_append_right _ (List.mem_of_getElem? (i := 364) (by decide +kernel))) rfl, m_ws_in (List.mem_append_right _ (List.mem_of_getElem? (i := 6) (by decide +kernel))) rfl, by decide +kernel⟩
theorem in_X3_append : Cond.instanceMethod yX3_append ∈ m_ws := m_ws_in (List.mem_append_right _ (List.mem_of_getElem? (i := 362) (by decide +kernel))) rfl
theorem se_X3_append : Cond.selects RX3 yX3_append yX3_append ∈ m_ws := m_ws_in (List.mem_append_right _ (List.mem_of_getElem? (i := 363) (by decide +kernel))) rfl
abbrev M_X4_init : m_M := (yX4_init, cX4_init, 1, none, 1, 0, 0)
theorem mk_X4_init : m_MK M_X4_init 0 := ⟨m_ws_in (List.mem_append_right _ (List.mem_of_getElem? (i := 41) (by decide +kernel))) rfl, m_ws_in (List.mem_append_right _ (List.mem_of_getElem? (i := 3) (by decide +kernel))) rfl, by decide +kernel⟩
theorem in_X4_init : Cond.instanceMethod yX4_init ∈ m_ws := m_ws_in (List.mem_append_right _ (List.mem_of_getElem? (i := 40) (by decide +kernel))) rfl
abbrev M_X4_take : m_M := (yX4_take, cX4_take, 2, none, 0, 0, 0)
theorem mk_X4_take : m_MK M_X4_take 1 := ⟨m_ws_in (List.mem_append_right _ (List.mem_of_getElem? (i := 532) (by decide +kernel))) rfl, m_ws_in (List.mem_append_right _ (List.mem_of_getElem? (i := 3) (by decide +kernel))) rfl, by decide +kernel⟩
theorem in_X4_take : Cond.instanceMethod yX4_take ∈ m_ws := m_ws_in (List.mem_append_right _ (List.mem_of_getElem? (i := 530) (by decide +kernel))) rfl
theorem se_X4_take : Cond.selects RX4 yX4_take yX4_take ∈ m_ws := m_ws_in (List.mem_append_right _ (List.mem_of_getElem? (i := 531) (by decide +kernel))) rfl
abbrev M_X4_isCalm : m_M := (yX4_isCalm, cX4_isCalm, 3, (some .boolean), 1, 0, 0)
theorem mk_X4_isCalm : m_MK M_X4_isCalm 0 := ⟨m_ws_in (List.mem_append_right _ (List.mem_of_getElem? (i := 488) (by decide +kernel))) rfl, m_ws_in (List.mem_append_right _ (List.mem_of_getElem? (i := 3) (by decide +kernel))) rfl, by decide +kernel⟩
theorem in_X4_isCalm : Cond.instanceMethod yX4_isCalm ∈ m_ws := m_ws_in (List.mem_append_right _ (List.mem_of_getElem? (i := 486) (by decide +kernel))) rfl
theorem se_X4_isCalm : Cond.selects RX4 yX4_isCalm yX4_isCalm ∈ m_ws := m_ws_in (List.mem_append_right _ (List.mem_of_getElem? (i := 487) (by decide +kernel))) rfl
abbrev M_X4_grossNow : m_M := (yX4_grossNow, cX4_grossNow, 1, (some .int), 0, 0, 0)
theorem mk_X4_grossNow : m_MK M_X4_grossNow 0 := ⟨m_ws_in (List.mem_append_right _ (List.mem_of_getElem? (i := 434) (by decide +kernel))) rfl, m_ws_in (List.mem_append_right _ (List.mem_of_getElem? (i := 3) (by decide +kernel))) rfl, by decide +kernel⟩
theorem in_X4_grossNow : Cond.instanceMethod yX4_grossNow ∈ m_ws := m_ws_in (List.mem_append_right _ (List.mem_of_getElem? (i := 432) (by decide +kernel))) rfl
theorem se_X4_grossNow : Cond.selects RX4 yX4_grossNow yX4_grossNow ∈ m_ws := m_ws_in (List.mem_append_right _ (List.mem_of_getElem? (i := 433) (by decide +kernel))) rfl
abbrev M_X4_netNow : m_M := (yX4_netNow, cX4_netNow, 1, (some .int), 1, 0, 0)
theorem mk_X4_netNow : m_MK M_X4_netNow 0 := ⟨m_ws_in (List.mem_append_right _ (List.mem_of_getElem? (i := 430) (by decide +kernel))) rfl, m_ws_in (List.mem_append_right _ (List.mem_of_getElem? (i := 3) (by decide +kernel))) rfl, by decide +kernel⟩
theorem in_X4_netNow : Cond.instanceMethod yX4_netNow ∈ m_ws := m_ws_in (List.mem_append_right _ (List.mem_of_getElem? (i := 428) (by decide +kernel))) rfl
theorem se_X4_netNow : Cond.selects RX4 yX4_netNow yX4_netNow ∈ m_ws := m_ws_in (List.mem_append_right _ (List.mem_of_getElem? (i := 429) (by decide +kernel))) rfl
abbrev M_X4_trackZero : m_M := (yX4_trackZero, cX4_trackZero, 3, none, 2, 0, 0)
theorem mk_X4_trackZero : m_MK M_X4_trackZero 0 := ⟨m_ws_in (List.mem_append_right _ (List.mem_of_getElem? (i := 536) (by decide +kernel))) rfl, m_ws_in (List.mem_append_right _ (List.mem_of_getElem? (i := 3) (by decide +kernel))) rfl, by decide +kernel⟩
theorem in_X4_trackZero : Cond.instanceMethod yX4_trackZero ∈ m_ws := m_ws_in (List.mem_append_right _ (List.mem_of_getElem? (i := 534) (by decide +kernel))) rfl
theorem se_X4_trackZero : Cond.selects RX4 yX4_trackZero yX4_trackZero ∈ m_ws := m_ws_in (List.mem_append_right _ (List.mem_of_getElem? (i := 535) (by decide +kernel))) rfl
abbrev M_X5_init : m_M := (yX5_init, cX5_init, 1, none, 3, 16, 761)
theorem mk_X5_init : m_MK M_X5_init 0 := ⟨m_ws_in (List.mem_append_right _ (List.mem_of_getElem? (i := 27) (by decide +kernel))) rfl, m_ws_in (List.mem_append_right _ (List.mem_of_getElem? (i := 1) (by decide +kernel))) rfl, by decide +kernel⟩
theorem in_X5_init : Cond.instanceMethod yX5_init ∈ m_ws := m_ws_in (List.mem_append_right _ (List.mem_of_getElem? (i := 26) (by decide +kernel))) rfl
abbrev M_X5_tick : m_M := (yX5_tick, cX5_tick, 2, (some .int), 8, 0, 0)
theorem mk_X5_tick : m_MK M_X5_tick 1 := ⟨m_ws_in (List.mem_append_right _ (List.mem_of_getElem? (i := 521) (by decide +kernel))) rfl, m_ws_in (List.mem_append_right _ (List.mem_of_getElem? (i := 1) (by decide +kernel))) rfl, by decide +kernel⟩
abbrev Mx_X5_tick : m_M := (yX5_tick, cX5_tick, 2, (some .int), 8, 1, 6)
theorem mkx_X5_tick : m_MK Mx_X5_tick 1 := mk_X5_tick
theorem in_X5_tick : Cond.instanceMethod yX5_tick ∈ m_ws := m_ws_in (List.mem_append_right _ (List.mem_of_getElem? (i := 519) (by decide +kernel))) rfl
theorem se_X5_tick : Cond.selects RX5 yX5_tick yX5_tick ∈ m_ws := m_ws_in (List.mem_append_right _ (List.mem_of_getElem? (i := 520) (by decide +kernel))) rfl
abbrev M_X5_ticks : m_M := (yX5_ticks, cX5_ticks, 4, (some .int), 8, 0, 0)
theorem mk_X5_ticks : m_MK M_X5_ticks 2 := ⟨m_ws_in (List.mem_append_right _ (List.mem_of_getElem? (i := 576) (by decide +kernel))) rfl, m_ws_in (List.mem_append_right _ (List.mem_of_getElem? (i := 1) (by decide +kernel))) rfl, by decide +kernel⟩
abbrev Mx_X5_ticks : m_M := (yX5_ticks, cX5_ticks, 4, (some .int), 8, 1, 6)
theorem mkx_X5_ticks : m_MK Mx_X5_ticks 2 := mk_X5_ticks
theorem in_X5_ticks : Cond.instanceMethod yX5_ticks ∈ m_ws := m_ws_in (List.mem_append_right _ (List.mem_of_getElem? (i := 574) (by decide +kernel))) rfl
theorem se_X5_ticks : Cond.selects RX5 yX5_ticks yX5_ticks ∈ m_ws := m_ws_in (List.mem_append_right _ (List.mem_of_getElem? (i := 575) (by decide +kernel))) rfl
abbrev M_X5_zero : m_M := (yX5_zero, cX5_zero, 2, (some .int), 7, 0, 0)
theorem mk_X5_zero : m_MK M_X5_zero 0 := ⟨m_ws_in (List.mem_append_right _ (List.mem_of_getElem? (i := 484) (by decide +kernel))) rfl, m_ws_in (List.mem_append_right _ (List.mem_of_getElem? (i := 1) (by decide +kernel))) rfl, by decide +kernel⟩
abbrev Mx_X5_zero : m_M := (yX5_zero, cX5_zero, 2, (some .int), 7, 1, 6)
theorem mkx_X5_zero : m_MK Mx_X5_zero 0 := mk_X5_zero
theorem in_X5_zero : Cond.instanceMethod yX5_zero ∈ m_ws := m_ws_in (List.mem_append_right _ (List.mem_of_getElem? (i := 482) (by decide +kernel))) rfl
theorem se_X5_zero : Cond.selects RX5 yX5_zero yX5_zero ∈ m_ws := m_ws_in (List.mem_append_right _ (List.mem_of_getElem? (i := 483) (by decide +kernel))) rfl
abbrev M_X5_setBand : m_M := (yX5_setBand, cX5_setBand, 3, (some .int), 7, 0, 0)
theorem mk_X5_setBand : m_MK M_X5_setBand 1 := ⟨m_ws_in (List.mem_append_right _ (List.mem_of_getElem? (i := 494) (by decide +kernel))) rfl, m_ws_in (List.mem_append_right _ (List.mem_of_getElem? (i := 1) (by decide +kernel))) rfl, by decide +kernel⟩
abbrev Mx_X5_setBand : m_M := (yX5_setBand, cX5_setBand, 3, (some .int), 7, 1, 6)
theorem mkx_X5_setBand : m_MK Mx_X5_setBand 1 := mk_X5_setBand
theorem in_X5_setBand : Cond.instanceMethod yX5_setBand ∈ m_ws := m_ws_in (List.mem_append_right _ (List.mem_of_getElem? (i := 492) (by decide +kernel))) rfl
theorem se_X5_setBand : Cond.selects RX5 yX5_setBand yX5_setBand ∈ m_ws := m_ws_in (List.mem_append_right _ (List.mem_of_getElem? (i := 493) (by decide +kernel))) rfl
abbrev M_X5_gross : m_M := (yX5_gross, cX5_gross, 1, (some .int), 1, 0, 0)
theorem mk_X5_gross : m_MK M_X5_gross 0 := ⟨m_ws_in (List.mem_append_right _ (List.mem_of_getElem? (i := 583) (by decide +kernel))) rfl, m_ws_in (List.mem_append_right _ (List.mem_of_getElem? (i := 1) (by decide +kernel))) rfl, by decide +kernel⟩
theorem in_X5_gross : Cond.instanceMethod yX5_gross ∈ m_ws := m_ws_in (List.mem_append_right _ (List.mem_of_getElem? (i := 581) (by decide +kernel))) rfl
theorem se_X5_gross : Cond.selects RX5 yX5_gross yX5_gross ∈ m_ws := m_ws_in (List.mem_append_right _ (List.mem_of_getElem? (i := 582) (by decide +kernel))) rfl
abbrev M_X5_net : m_M := (yX5_net, cX5_net, 1, (some .int), 2, 0, 0)
theorem mk_X5_net : m_MK M_X5_net 0 := ⟨m_ws_in (List.mem_append_right _ (List.mem_of_getElem? (i := 588) (by decide +kernel))) rfl, m_ws_in (List.mem_append_right _ (List.mem_of_getElem? (i := 1) (by decide +kernel))) rfl, by decide +kernel⟩
theorem in_X5_net : Cond.instanceMethod yX5_net ∈ m_ws := m_ws_in (List.mem_append_right _ (List.mem_of_getElem? (i := 586) (by decide +kernel))) rfl
theorem se_X5_net : Cond.selects RX5 yX5_net yX5_net ∈ m_ws := m_ws_in (List.mem_append_right _ (List.mem_of_getElem? (i := 587) (by decide +kernel))) rfl
abbrev M_X5_isSettled : m_M := (yX5_isSettled, cX5_isSettled, 1, (some .boolean), 2, 0, 0)
theorem mk_X5_isSettled : m_MK M_X5_isSettled 0 := ⟨m_ws_in (List.mem_append_right _ (List.mem_of_getElem? (i := 593) (by decide +kernel))) rfl, m_ws_in (List.mem_append_right _ (List.mem_of_getElem? (i := 1) (by decide +kernel))) rfl, by decide +kernel⟩
theorem in_X5_isSettled : Cond.instanceMethod yX5_isSettled ∈ m_ws := m_ws_in (List.mem_append_right _ (List.mem_of_getElem? (i := 591) (by decide +kernel))) rfl
theorem se_X5_isSettled : Cond.selects RX5 yX5_isSettled yX5_isSettled ∈ m_ws := m_ws_in (List.mem_append_right _ (List.mem_of_getElem? (i := 592) (by decide +kernel))) rfl
abbrev M_X5_fill : m_M := (yX5_fill, cX5_fill, 3, (some .int), 7, 0, 0)
theorem mk_X5_fill : m_MK M_X5_fill 2 := ⟨m_ws_in (List.mem_append_right _ (List.mem_of_getElem? (i := 236) (by decide +kernel))) rfl, m_ws_in (List.mem_append_right _ (List.mem_of_getElem? (i := 1) (by decide +kernel))) rfl, by decide +kernel⟩
abbrev Mx_X5_fill : m_M := (yX5_fill, cX5_fill, 3, (some .int), 7, 1, 6)
theorem mkx_X5_fill : m_MK Mx_X5_fill 2 := mk_X5_fill
theorem in_X5_fill : Cond.instanceMethod yX5_fill ∈ m_ws := m_ws_in (List.mem_append_right _ (List.mem_of_getElem? (i := 234) (by decide +kernel))) rfl
theorem se_X5_fill : Cond.selects RX5 yX5_fill yX5_fill ∈ m_ws := m_ws_in (List.mem_append_right _ (List.mem_of_getElem? (i := 235) (by decide +kernel))) rfl
abbrev M_X5_setMargin : m_M := (yX5_setMargin, cX5_setMargin, 4, (some .int), 7, 0, 0)
theorem mk_X5_setMargin : m_MK M_X5_setMargin 2 := ⟨m_ws_in (List.mem_append_right _ (List.mem_of_getElem? (i := 498) (by decide +kernel))) rfl, m_ws_in (List.mem_append_right _ (List.mem_of_getElem? (i := 1) (by decide +kernel))) rfl, by decide +kernel⟩
abbrev Mx_X5_setMargin : m_M := (yX5_setMargin, cX5_setMargin, 4, (some .int), 7, 1, 6)
theorem mkx_X5_setMargin : m_MK Mx_X5_setMargin 2 := mk_X5_setMargin
theorem in_X5_setMargin : Cond.instanceMethod yX5_setMargin ∈ m_ws := m_ws_in (List.mem_append_right _ (List.mem_of_getElem? (i := 496) (by decide +kernel))) rfl
theorem se_X5_setMargin : Cond.selects RX5 yX5_setMargin yX5_setMargin ∈ m_ws := m_ws_in (List.mem_append_right _ (List.mem_of_getElem? (i := 497) (by decide +kernel))) rfl
abbrev M_X5_flight : m_M := (yX5_flight, cX5_flight, 2, (some .int), 7, 0, 0)
theorem mk_X5_flight : m_MK M_X5_flight 1 := ⟨m_ws_in (List.mem_append_right _ (List.mem_of_getElem? (i := 629) (by decide +kernel))) rfl, m_ws_in (List.mem_append_right _ (List.mem_of_getElem? (i := 1) (by decide +kernel))) rfl, by decide +kernel⟩
abbrev Mx_X5_flight : m_M := (yX5_flight, cX5_flight, 2, (some .int), 7, 1, 6)
theorem mkx_X5_flight : m_MK Mx_X5_flight 1 := mk_X5_flight
theorem in_X5_flight : Cond.instanceMethod yX5_flight ∈ m_ws := m_ws_in (List.mem_append_right _ (List.mem_of_getElem? (i := 627) (by decide +kernel))) rfl
theorem se_X5_flight : Cond.selects RX5 yX5_flight yX5_flight ∈ m_ws := m_ws_in (List.mem_append_right _ (List.mem_of_getElem? (i := 628) (by decide +kernel))) rfl
abbrev M_X5_gate : m_M := (yX5_gate, cX5_gate, 2, (some .int), 7, 0, 0)
theorem mk_X5_gate : m_MK M_X5_gate 1 := ⟨m_ws_in (List.mem_append_right _ (List.mem_of_getElem? (i := 621) (by decide +kernel))) rfl, m_ws_in (List.mem_append_right _ (List.mem_of_getElem? (i := 1) (by decide +kernel))) rfl, by decide +kernel⟩
abbrev Mx_X5_gate : m_M := (yX5_gate, cX5_gate, 2, (some .int), 7, 1, 6)
theorem mkx_X5_gate : m_MK Mx_X5_gate 1 := mk_X5_gate
theorem in_X5_gate : Cond.instanceMethod yX5_gate ∈ m_ws := m_ws_in (List.mem_append_right _ (List.mem_of_getElem? (i := 619) (by decide +kernel))) rfl
theorem se_X5_gate : Cond.selects RX5 yX5_gate yX5_gate ∈ m_ws := m_ws_in (List.mem_append_right _ (List.mem_of_getElem? (i := 620) (by decide +kernel))) rfl
abbrev M_X5_stock : m_M := (yX5_stock, cX5_stock, 2, (some .int), 7, 0, 0)
theorem mk_X5_stock : m_MK M_X5_stock 1 := ⟨m_ws_in (List.mem_append_right _ (List.mem_of_getElem? (i := 645) (by decide +kernel))) rfl, m_ws_in (List.mem_append_right _ (List.mem_of_getElem? (i := 1) (by decide +kernel))) rfl, by decide +kernel⟩
abbrev Mx_X5_stock : m_M := (yX5_stock, cX5_stock, 2, (some .int), 7, 1, 6)
theorem mkx_X5_stock : m_MK Mx_X5_stock 1 := mk_X5_stock
theorem in_X5_stock : Cond.instanceMethod yX5_stock ∈ m_ws := m_ws_in (List.mem_append_right _ (List.mem_of_getElem? (i := 643) (by decide +kernel))) rfl
theorem se_X5_stock : Cond.selects RX5 yX5_stock yX5_stock ∈ m_ws := m_ws_in (List.mem_append_right _ (List.mem_of_getElem? (i := 644) (by decide +kernel))) rfl
abbrev M_X5_register : m_M := (yX5_register, cX5_register, 2, (some .int), 7, 0, 0)
theorem mk_X5_register : m_MK M_X5_register 1 := ⟨m_ws_in (List.mem_append_right _ (List.mem_of_getElem? (i := 633) (by decide +kernel))) rfl, m_ws_in (List.mem_append_right _ (List.mem_of_getElem? (i := 1) (by decide +kernel))) rfl, by decide +kernel⟩
abbrev Mx_X5_register : m_M := (yX5_register, cX5_register, 2, (some .int), 7, 1, 6)
theorem mkx_X5_register : m_MK Mx_X5_register 1 := mk_X5_register
theorem in_X5_register : Cond.instanceMethod yX5_register ∈ m_ws := m_ws_in (List.mem_append_right _ (List.mem_of_getElem? (i := 631) (by decide +kernel))) rfl
theorem se_X5_register : Cond.selects RX5 yX5_register yX5_register ∈ m_ws := m_ws_in (List.mem_append_right _ (List.mem_of_getElem? (i := 632) (by decide +kernel))) rfl
abbrev M_X5_registerByLots : m_M := (yX5_registerByLots, cX5_registerByLots, 2, (some .int), 7, 0, 0)
theorem mk_X5_registerByLots : m_MK M_X5_registerByLots 1 := ⟨m_ws_in (List.mem_append_right _ (List.mem_of_getElem? (i := 637) (by decide +kernel))) rfl, m_ws_in (List.mem_append_right _ (List.mem_of_getElem? (i := 1) (by decide +kernel))) rfl, by decide +kernel⟩
abbrev Mx_X5_registerByLots : m_M := (yX5_registerByLots, cX5_registerByLots, 2, (some .int), 7, 1, 6)
theorem mkx_X5_registerByLots : m_MK Mx_X5_registerByLots 1 := mk_X5_registerByLots
theorem in_X5_registerByLots : Cond.instanceMethod yX5_registerByLots ∈ m_ws := m_ws_in (List.mem_append_right _ (List.mem_of_getElem? (i := 635) (by decide +kernel))) rfl
theorem se_X5_registerByLots : Cond.selects RX5 yX5_registerByLots yX5_registerByLots ∈ m_ws := m_ws_in (List.mem_append_right _ (List.mem_of_getElem? (i := 636) (by decide +kernel))) rfl
abbrev M_X5_leftOf : m_M := (yX5_leftOf, cX5_leftOf, 2, (some .int), 7, 0, 0)
theorem mk_X5_leftOf : m_MK M_X5_leftOf 1 := ⟨m_ws_in (List.mem_append_right _ (List.mem_of_getElem? (i := 653) (by decide +kernel))) rfl, m_ws_in (List.mem_append_right _ (List.mem_of_getElem? (i := 1) (by decide +kernel))) rfl, by decide +kernel⟩
abbrev Mx_X5_leftOf : m_M := (yX5_leftOf, cX5_leftOf, 2, (some .int), 7, 1, 6)
theorem mkx_X5_leftOf : m_MK Mx_X5_leftOf 1 := mk_X5_leftOf
theorem in_X5_leftOf : Cond.instanceMethod yX5_leftOf ∈ m_ws := m_ws_in (List.mem_append_right _ (List.mem_of_getElem? (i := 651) (by decide +kernel))) rfl
theorem se_X5_leftOf : Cond.selects RX5 yX5_leftOf yX5_leftOf ∈ m_ws := m_ws_in (List.mem_append_right _ (List.mem_of_getElem? (i := 652) (by decide +kernel))) rfl
abbrev M_X5_firstBatch : m_M := (yX5_firstBatch, cX5_firstBatch, 2, (some .int), 7, 0, 0)
theorem mk_X5_firstBatch : m_MK M_X5_firstBatch 1 := ⟨m_ws_in (List.mem_append_right _ (List.mem_of_getElem? (i := 662) (by decide +kernel))) rfl, m_ws_in (List.mem_append_right _ (List.mem_of_getElem? (i := 1) (by decide +kernel))) rfl, by decide +kernel⟩
abbrev Mx_X5_firstBatch : m_M := (yX5_firstBatch, cX5_firstBatch, 2, (some .int), 7, 1, 6)
theorem mkx_X5_firstBatch : m_MK Mx_X5_firstBatch 1 := mk_X5_firstBatch
theorem in_X5_firstBatch : Cond.instanceMethod yX5_firstBatch ∈ m_ws := m_ws_in (List.mem_append_right _ (List.mem_of_getElem? (i := 660) (by decide +kernel))) rfl
theorem se_X5_firstBatch : Cond.selects RX5 yX5_firstBatch yX5_firstBatch ∈ m_ws := m_ws_in (List.mem_append_right _ (List.mem_of_getElem? (i := 661) (by decide +kernel))) rfl
abbrev M_X5_used : m_M := (yX5_used, cX5_used, 3, (some .int), 7, 0, 0)
theorem mk_X5_used : m_MK M_X5_used 2 := ⟨m_ws_in (List.mem_append_right _ (List.mem_of_getElem? (i := 674) (by decide +kernel))) rfl, m_ws_in (List.mem_append_right _ (List.mem_of_getElem? (i := 1) (by decide +kernel))) rfl, by decide +kernel⟩
abbrev Mx_X5_used : m_M := (yX5_used, cX5_used, 3, (some .int), 7, 1, 6)
theorem mkx_X5_used : m_MK Mx_X5_used 2 := mk_X5_used
theorem in_X5_used : Cond.instanceMethod yX5_used ∈ m_ws := m_ws_in (List.mem_append_right _ (List.mem_of_getElem? (i := 672) (by decide +kernel))) rfl
theorem se_X5_used : Cond.selects RX5 yX5_used yX5_used ∈ m_ws := m_ws_in (List.mem_append_right _ (List.mem_of_getElem? (i := 673) (by decide +kernel))) rfl
abbrev M_X5_addStep : m_M := (yX5_addStep, cX5_addStep, 4, (some .int), 7, 0, 0)
theorem mk_X5_addStep : m_MK M_X5_addStep 3 := ⟨m_ws_in (List.mem_append_right _ (List.mem_of_getElem? (i := 360) (by decide +kernel))) rfl, m_ws_in (List.mem_append_right _ (List.mem_of_getElem? (i := 1) (by decide +kernel))) rfl, by decide +kernel⟩
abbrev Mx_X5_addStep : m_M := (yX5_addStep, cX5_addStep, 4, (some .int), 7, 1, 6)
theorem mkx_X5_addStep : m_MK Mx_X5_addStep 3 := mk_X5_addStep
theorem in_X5_addStep : Cond.instanceMethod yX5_addStep ∈ m_ws := m_ws_in (List.mem_append_right _ (List.mem_of_getElem? (i := 358) (by decide +kernel))) rfl
theorem se_X5_addStep : Cond.selects RX5 yX5_addStep yX5_addStep ∈ m_ws := m_ws_in (List.mem_append_right _ (List.mem_of_getElem? (i := 359) (by decide +kernel))) rfl
abbrev M_X5_start : m_M := (yX5_start, cX5_start, 1, (some .int), 7, 0, 0)
theorem mk_X5_start : m_MK M_X5_start 0 := ⟨m_ws_in (List.mem_append_right _ (List.mem_of_getElem? (i := 507) (by decide +kernel))) rfl, m_ws_in (List.mem_append_right _ (List.mem_of_getElem? (i := 1) (by decide +kernel))) rfl, by decide +kernel⟩
abbrev Mx_X5_start : m_M := (yX5_start, cX5_start, 1, (some .int), 7, 1, 6)
theorem mkx_X5_start : m_MK Mx_X5_start 0 := mk_X5_start
theorem in_X5_start : Cond.instanceMethod yX5_start ∈ m_ws := m_ws_in (List.mem_append_right _ (List.mem_of_getElem? (i := 505) (by decide +kernel))) rfl
theorem se_X5_start : Cond.selects RX5 yX5_start yX5_start ∈ m_ws := m_ws_in (List.mem_append_right _ (List.mem_of_getElem? (i := 506) (by decide +kernel))) rfl
abbrev M_X5_hold : m_M := (yX5_hold, cX5_hold, 1, (some .int), 7, 0, 0)
theorem mk_X5_hold : m_MK M_X5_hold 0 := ⟨m_ws_in (List.mem_append_right _ (List.mem_of_getElem? (i := 387) (by decide +kernel))) rfl, m_ws_in (List.mem_append_right _ (List.mem_of_getElem? (i := 1) (by decide +kernel))) rfl, by decide +kernel⟩
abbrev Mx_X5_hold : m_M := (yX5_hold, cX5_hold, 1, (some .int), 7, 1, 6)
theorem mkx_X5_hold : m_MK Mx_X5_hold 0 := mk_X5_hold
theorem in_X5_hold : Cond.instanceMethod yX5_hold ∈ m_ws := m_ws_in (List.mem_append_right _ (List.mem_of_getElem? (i := 385) (by decide +kernel))) rfl
theorem se_X5_hold : Cond.selects RX5 yX5_hold yX5_hold ∈ m_ws := m_ws_in (List.mem_append_right _ (List.mem_of_getElem? (i := 386) (by decide +kernel))) rfl
abbrev M_X5_resume : m_M := (yX5_resume, cX5_resume, 1, (some .int), 7, 0, 0)
theorem mk_X5_resume : m_MK M_X5_resume 0 := ⟨m_ws_in (List.mem_append_right _ (List.mem_of_getElem? (i := 414) (by decide +kernel))) rfl, m_ws_in (List.mem_append_right _ (List.mem_of_getElem? (i := 1) (by decide +kernel))) rfl, by decide +kernel⟩
abbrev Mx_X5_resume : m_M := (yX5_resume, cX5_resume, 1, (some .int), 7, 1, 6)
theorem mkx_X5_resume : m_MK Mx_X5_resume 0 := mk_X5_resume
theorem in_X5_resume : Cond.instanceMethod yX5_resume ∈ m_ws := m_ws_in (List.mem_append_right _ (List.mem_of_getElem? (i := 412) (by decide +kernel))) rfl
theorem se_X5_resume : Cond.selects RX5 yX5_resume yX5_resume ∈ m_ws := m_ws_in (List.mem_append_right _ (List.mem_of_getElem? (i := 413) (by decide +kernel))) rfl
abbrev M_X5_abort : m_M := (yX5_abort, cX5_abort, 1, (some .int), 7, 0, 0)
theorem mk_X5_abort : m_MK M_X5_abort 0 := ⟨m_ws_in (List.mem_append_right _ (List.mem_of_getElem? (i := 470) (by decide +kernel))) rfl, m_ws_in (List.mem_append_right _ (List.mem_of_getElem? (i := 1) (by decide +kernel))) rfl, by decide +kernel⟩
abbrev Mx_X5_abort : m_M := (yX5_abort, cX5_abort, 1, (some .int), 7, 1, 6)
theorem mkx_X5_abort : m_MK Mx_X5_abort 0 := mk_X5_abort
theorem in_X5_abort : Cond.instanceMethod yX5_abort ∈ m_ws := m_ws_in (List.mem_append_right _ (List.mem_of_getElem? (i := 468) (by decide +kernel))) rfl
theorem se_X5_abort : Cond.selects RX5 yX5_abort yX5_abort ∈ m_ws := m_ws_in (List.mem_append_right _ (List.mem_of_getElem? (i := 469) (by decide +kernel))) rfl
abbrev M_X5_state : m_M := (yX5_state, cX5_state, 1, (some .int), 0, 0, 0)
theorem mk_X5_state : m_MK M_X5_state 0 := ⟨m_ws_in (List.mem_append_right _ (List.mem_of_getElem? (i := 597) (by decide +kernel))) rfl, m_ws_in (List.mem_append_right _ (List.mem_of_getElem? (i := 1) (by decide +kernel))) rfl, by decide +kernel⟩
theorem in_X5_state : Cond.instanceMethod yX5_state ∈ m_ws := m_ws_in (List.mem_append_right _ (List.mem_of_getElem? (i := 595) (by decide +kernel))) rfl
theorem se_X5_state : Cond.selects RX5 yX5_state yX5_state ∈ m_ws := m_ws_in (List.mem_append_right _ (List.mem_of_getElem? (i := 596) (by decide +kernel))) rfl
abbrev M_X5_alarm : m_M := (yX5_alarm, cX5_alarm, 1, (some .int), 0, 0, 0)
theorem mk_X5_alarm : m_MK M_X5_alarm 0 := ⟨m_ws_in (List.mem_append_right _ (List.mem_of_getElem? (i := 601) (by decide +kernel))) rfl, m_ws_in (List.mem_append_right _ (List.mem_of_getElem? (i := 1) (by decide +kernel))) rfl, by decide +kernel⟩
theorem in_X5_alarm : Cond.instanceMethod yX5_alarm ∈ m_ws := m_ws_in (List.mem_append_right _ (List.mem_of_getElem? (i := 599) (by decide +kernel))) rfl
theorem se_X5_alarm : Cond.selects RX5 yX5_alarm yX5_alarm ∈ m_ws := m_ws_in (List.mem_append_right _ (List.mem_of_getElem? (i := 600) (by decide +kernel))) rfl
abbrev M_X5_step : m_M := (yX5_step, cX5_step, 1, (some .int), 0, 0, 0)
theorem mk_X5_step : m_MK M_X5_step 0 := ⟨m_ws_in (List.mem_append_right _ (List.mem_of_getElem? (i := 605) (by decide +kernel))) rfl, m_ws_in (List.mem_append_right _ (List.mem_of_getElem? (i := 1) (by decide +kernel))) rfl, by decide +kernel⟩
theorem in_X5_step : Cond.instanceMethod yX5_step ∈ m_ws := m_ws_in (List.mem_append_right _ (List.mem_of_getElem? (i := 603) (by decide +kernel))) rfl
theorem se_X5_step : Cond.selects RX5 yX5_step yX5_step ∈ m_ws := m_ws_in (List.mem_append_right _ (List.mem_of_getElem? (i := 604) (by decide +kernel))) rfl
abbrev M_X5_jogs : m_M := (yX5_jogs, cX5_jogs, 1, (some .int), 0, 0, 0)
theorem mk_X5_jogs : m_MK M_X5_jogs 0 := ⟨m_ws_in (List.mem_append_right _ (List.mem_of_getElem? (i := 609) (by decide +kernel))) rfl, m_ws_in (List.mem_append_right _ (List.mem_of_getElem? (i := 1) (by decide +kernel))) rfl, by decide +kernel⟩
theorem in_X5_jogs : Cond.instanceMethod yX5_jogs ∈ m_ws := m_ws_in (List.mem_append_right _ (List.mem_of_getElem? (i := 607) (by decide +kernel))) rfl
theorem se_X5_jogs : Cond.selects RX5 yX5_jogs yX5_jogs ∈ m_ws := m_ws_in (List.mem_append_right _ (List.mem_of_getElem? (i := 608) (by decide +kernel))) rfl
abbrev M_X5_batches : m_M := (yX5_batches, cX5_batches, 1, (some .int), 0, 0, 0)
theorem mk_X5_batches : m_MK M_X5_batches 0 := ⟨m_ws_in (List.mem_append_right _ (List.mem_of_getElem? (i := 613) (by decide +kernel))) rfl, m_ws_in (List.mem_append_right _ (List.mem_of_getElem? (i := 1) (by decide +kernel))) rfl, by decide +kernel⟩
theorem in_X5_batches : Cond.instanceMethod yX5_batches ∈ m_ws := m_ws_in (List.mem_append_right _ (List.mem_of_getElem? (i := 611) (by decide +kernel))) rfl
theorem se_X5_batches : Cond.selects RX5 yX5_batches yX5_batches ∈ m_ws := m_ws_in (List.mem_append_right _ (List.mem_of_getElem? (i := 612) (by decide +kernel))) rfl
abbrev M_X5_done : m_M := (yX5_done, cX5_done, 1, (some .int), 0, 0, 0)
theorem mk_X5_done : m_MK M_X5_done 0 := ⟨m_ws_in (List.mem_append_right _ (List.mem_of_getElem? (i := 617) (by decide +kernel))) rfl, m_ws_in (List.mem_append_right _ (List.mem_of_getElem? (i := 1) (by decide +kernel))) rfl, by decide +kernel⟩
theorem in_X5_done : Cond.instanceMethod yX5_done ∈ m_ws := m_ws_in (List.mem_append_right _ (List.mem_of_getElem? (i := 615) (by decide +kernel))) rfl
theorem se_X5_done : Cond.selects RX5 yX5_done yX5_done ∈ m_ws := m_ws_in (List.mem_append_right _ (List.mem_of_getElem? (i := 616) (by decide +kernel))) rfl
abbrev M_X5_belt : m_M := (yX5_belt, cX5_belt, 4, (some .long), 7, 0, 0)
theorem mk_X5_belt : m_MK M_X5_belt 3 := ⟨m_ws_in (List.mem_append_right _ (List.mem_of_getElem? (i := 369) (by decide +kernel))) rfl, m_ws_in (List.mem_append_right _ (List.mem_of_getElem? (i := 1) (by decide +kernel))) rfl, by decide +kernel⟩
abbrev Mx_X5_belt : m_M := (yX5_belt, cX5_belt, 4, (some .long), 7, 1, 6)
theorem mkx_X5_belt : m_MK Mx_X5_belt 3 := mk_X5_belt
theorem in_X5_belt : Cond.instanceMethod yX5_belt ∈ m_ws := m_ws_in (List.mem_append_right _ (List.mem_of_getElem? (i := 367) (by decide +kernel))) rfl
theorem se_X5_belt : Cond.selects RX5 yX5_belt yX5_belt ∈ m_ws := m_ws_in (List.mem_append_right _ (List.mem_of_getElem? (i := 368) (by decide +kernel))) rfl
abbrev M_X5_needLot : m_M := (yX5_needLot, cX5_needLot, 2, none, 6, 0, 0)
theorem mk_X5_needLot : m_MK M_X5_needLot 1 := ⟨m_ws_in (List.mem_append_right _ (List.mem_of_getElem? (i := 657) (by decide +kernel))) rfl, m_ws_in (List.mem_append_right _ (List.mem_of_getElem? (i := 1) (by decide +kernel))) rfl, by decide +kernel⟩
abbrev Mx_X5_needLot : m_M := (yX5_needLot, cX5_needLot, 2, none, 6, 1, 6)
theorem mkx_X5_needLot : m_MK Mx_X5_needLot 1 := mk_X5_needLot
theorem in_X5_needLot : Cond.instanceMethod yX5_needLot ∈ m_ws := m_ws_in (List.mem_append_right _ (List.mem_of_getElem? (i := 656) (by decide +kernel))) rfl
theorem se_X5_needLot : Cond.selects RX5 yX5_needLot yX5_needLot ∈ m_ws := m_ws_in (List.mem_append_left _ (List.mem_of_getElem? (i := 11) (by decide +kernel))) rfl
abbrev M_X5_needBatch : m_M := (yX5_needBatch, cX5_needBatch, 2, none, 6, 0, 0)
theorem mk_X5_needBatch : m_MK M_X5_needBatch 1 := ⟨m_ws_in (List.mem_append_right _ (List.mem_of_getElem? (i := 678) (by decide +kernel))) rfl, m_ws_in (List.mem_append_right _ (List.mem_of_getElem? (i := 1) (by decide +kernel))) rfl, by decide +kernel⟩
abbrev Mx_X5_needBatch : m_M := (yX5_needBatch, cX5_needBatch, 2, none, 6, 1, 6)
theorem mkx_X5_needBatch : m_MK Mx_X5_needBatch 1 := mk_X5_needBatch
theorem in_X5_needBatch : Cond.instanceMethod yX5_needBatch ∈ m_ws := m_ws_in (List.mem_append_right _ (List.mem_of_getElem? (i := 677) (by decide +kernel))) rfl
theorem se_X5_needBatch : Cond.selects RX5 yX5_needBatch yX5_needBatch ∈ m_ws := m_ws_in (List.mem_append_left _ (List.mem_of_getElem? (i := 12) (by decide +kernel))) rfl
abbrev M_X5_needBin : m_M := (yX5_needBin, cX5_needBin, 1, none, 6, 0, 0)
theorem mk_X5_needBin : m_MK M_X5_needBin 1 := ⟨m_ws_in (List.mem_append_right _ (List.mem_of_getElem? (i := 239) (by decide +kernel))) rfl, m_ws_in (List.mem_append_right _ (List.mem_of_getElem? (i := 1) (by decide +kernel))) rfl, by decide +kernel⟩
abbrev Mx_X5_needBin : m_M := (yX5_needBin, cX5_needBin, 1, none, 6, 1, 6)
theorem mkx_X5_needBin : m_MK Mx_X5_needBin 1 := mk_X5_needBin
theorem st_X5_needBin : Cond.static yX5_needBin ∈ m_ws := m_ws_in (List.mem_append_right _ (List.mem_of_getElem? (i := 238) (by decide +kernel))) rfl
abbrev M_X5_needReading : m_M := (yX5_needReading, cX5_needReading, 1, none, 7, 0, 0)
theorem mk_X5_needReading : m_MK M_X5_needReading 1 := ⟨m_ws_in (List.mem_append_right _ (List.mem_of_getElem? (i := 524) (by decide +kernel))) rfl, m_ws_in (List.mem_append_right _ (List.mem_of_getElem? (i := 1) (by decide +kernel))) rfl, by decide +kernel⟩
abbrev Mx_X5_needReading : m_M := (yX5_needReading, cX5_needReading, 1, none, 7, 1, 6)
theorem mkx_X5_needReading : m_MK Mx_X5_needReading 1 := mk_X5_needReading
theorem st_X5_needReading : Cond.static yX5_needReading ∈ m_ws := m_ws_in (List.mem_append_right _ (List.mem_of_getElem? (i := 523) (by decide +kernel))) rfl
abbrev M_X5_needArgument : m_M := (yX5_needArgument, cX5_needArgument, 1, none, 6, 0, 0)
theorem mk_X5_needArgument : m_MK M_X5_needArgument 1 := ⟨m_ws_in (List.mem_append_right _ (List.mem_of_getElem? (i := 314) (by decide +kernel))) rfl, m_ws_in (List.mem_append_right _ (List.mem_of_getElem? (i := 1) (by decide +kernel))) rfl, by decide +kernel⟩
abbrev Mx_X5_needArgument : m_M := (yX5_needArgument, cX5_needArgument, 1, none, 6, 1, 6)
theorem mkx_X5_needArgument : m_MK Mx_X5_needArgument 1 := mk_X5_needArgument
theorem st_X5_needArgument : Cond.static yX5_needArgument ∈ m_ws := m_ws_in (List.mem_append_right _ (List.mem_of_getElem? (i := 313) (by decide +kernel))) rfl
abbrev M_X5_needState : m_M := (yX5_needState, cX5_needState, 1, none, 6, 0, 0)
theorem mk_X5_needState : m_MK M_X5_needState 1 := ⟨m_ws_in (List.mem_append_right _ (List.mem_of_getElem? (i := 333) (by decide +kernel))) rfl, m_ws_in (List.mem_append_right _ (List.mem_of_getElem? (i := 1) (by decide +kernel))) rfl, by decide +kernel⟩
abbrev Mx_X5_needState : m_M := (yX5_needState, cX5_needState, 1, none, 6, 1, 6)
theorem mkx_X5_needState : m_MK Mx_X5_needState 1 := mk_X5_needState
theorem st_X5_needState : Cond.static yX5_needState ∈ m_ws := m_ws_in (List.mem_append_right _ (List.mem_of_getElem? (i := 332) (by decide +kernel))) rfl
abbrev M_X5_isWithin : m_M := (yX5_isWithin, cX5_isWithin, 3, (some .boolean), 0, 0, 0)
theorem mk_X5_isWithin : m_MK M_X5_isWithin 3 := ⟨m_ws_in (List.mem_append_right _ (List.mem_of_getElem? (i := 242) (by decide +kernel))) rfl, m_ws_in (List.mem_append_right _ (List.mem_of_getElem? (i := 1) (by decide +kernel))) rfl, by decide +kernel⟩
theorem st_X5_isWithin : Cond.static yX5_isWithin ∈ m_ws := m_ws_in (List.mem_append_right _ (List.mem_of_getElem? (i := 241) (by decide +kernel))) rfl
abbrev M_X5_at : m_M := (yX5_at, cX5_at, 2, (some .int), 0, 0, 0)
theorem mk_X5_at : m_MK M_X5_at 2 := ⟨m_ws_in (List.mem_append_right _ (List.mem_of_getElem? (i := 444) (by decide +kernel))) rfl, m_ws_in (List.mem_append_right _ (List.mem_of_getElem? (i := 1) (by decide +kernel))) rfl, by decide +kernel⟩
theorem st_X5_at : Cond.static yX5_at ∈ m_ws := m_ws_in (List.mem_append_right _ (List.mem_of_getElem? (i := 443) (by decide +kernel))) rfl
abbrev M_X5_put : m_M := (yX5_put, cX5_put, 3, none, 0, 0, 0)
theorem mk_X5_put : m_MK M_X5_put 3 := ⟨m_ws_in (List.mem_append_right _ (List.mem_of_getElem? (i := 356) (by decide +kernel))) rfl, m_ws_in (List.mem_append_right _ (List.mem_of_getElem? (i := 1) (by decide +kernel))) rfl, by decide +kernel⟩
theorem st_X5_put : Cond.static yX5_put ∈ m_ws := m_ws_in (List.mem_append_right _ (List.mem_of_getElem? (i := 355) (by decide +kernel))) rfl
abbrev M_X5_increase : m_M := (yX5_increase, cX5_increase, 3, none, 0, 0, 0)
theorem mk_X5_increase : m_MK M_X5_increase 3 := ⟨m_ws_in (List.mem_append_right _ (List.mem_of_getElem? (i := 455) (by decide +kernel))) rfl, m_ws_in (List.mem_append_right _ (List.mem_of_getElem? (i := 1) (by decide +kernel))) rfl, by decide +kernel⟩
theorem st_X5_increase : Cond.static yX5_increase ∈ m_ws := m_ws_in (List.mem_append_right _ (List.mem_of_getElem? (i := 454) (by decide +kernel))) rfl
abbrev M_J9_floorDiv_7cf53 : m_M := (yJ9_floorDiv_7cf53, cJ9_floorDiv_7cf53, 3, (some .int), 0, 0, 0)
theorem mk_J9_floorDiv_7cf53 : m_MK M_J9_floorDiv_7cf53 2 := ⟨m_ws_in (List.mem_append_right _ (List.mem_of_getElem? (i := 565) (by decide +kernel))) rfl, m_ws_in (List.mem_append_right _ (List.mem_of_getElem? (i := 13) (by decide +kernel))) rfl, by decide +kernel⟩
theorem st_J9_floorDiv_7cf53 : Cond.static yJ9_floorDiv_7cf53 ∈ m_ws := m_ws_in (List.mem_append_right _ (List.mem_of_getElem? (i := 564) (by decide +kernel))) rfl
theorem fl_X0_9 : m_FL RX0 9 0 0 := ⟨RX0, TX0, 4, rfl, by decide, Or.inl (m_ws_in (List.mem_append_right _ (List.mem_of_getElem? (i := 78) (by decide +kernel))) rfl)⟩
theorem fw_X0_9 : ∀ (C : String) (T : u_T) (N : Nat), m_cl[0]? = some (C, T, N) → Cond.fieldLink RX0 9 (T 0).1 (T 0).2.1 (T 0).2.2.1 ∈ m_ws := fun C T N h => by cases h; exact m_ws_in (List.mem_append_right _ (List.mem_of_getElem? (i := 78) (by decide +kernel))) rfl
theorem ff_X0_0 : m_FF RX0 0 0 (.array .int) := ⟨RX0, TX0, 4, rfl, rfl, rfl, by decide +kernel⟩
theorem fl_X0_15 : m_FL RX0 15 0 1 := ⟨RX0, TX0, 4, rfl, by decide, Or.inl (m_ws_in (List.mem_append_right _ (List.mem_of_getElem? (i := 81) (by decide +kernel))) rfl)⟩
theorem fw_X0_15 : ∀ (C : String) (T : u_T) (N : Nat), m_cl[0]? = some (C, T, N) → Cond.fieldLink RX0 15 (T 1).1 (T 1).2.1 (T 1).2.2.1 ∈ m_ws := fun C T N h => by cases h; exact m_ws_in (List.mem_append_right _ (List.mem_of_getElem? (i := 81) (by decide +kernel))) rfl
theorem ff_X0_1 : m_FF RX0 0 1 (.array .int) := ⟨RX0, TX0, 4, rfl, rfl, rfl, by decide +kernel⟩
theorem fl_X0_18 : m_FL RX0 18 0 2 := ⟨RX0, TX0, 4, rfl, by decide, Or.inl (m_ws_in (List.mem_append_right _ (List.mem_of_getElem? (i := 84) (by decide +kernel))) rfl)⟩
theorem fw_X0_18 : ∀ (C : String) (T : u_T) (N : Nat), m_cl[0]? = some (C, T, N) → Cond.fieldLink RX0 18 (T 2).1 (T 2).2.1 (T 2).2.2.1 ∈ m_ws := fun C T N h => by cases h; exact m_ws_in (List.mem_append_right _ (List.mem_of_getElem? (i := 84) (by decide +kernel))) rfl
theorem ff_X0_2 : m_FF RX0 0 2 (.array .int) := ⟨RX0, TX0, 4, rfl, rfl, rfl, by decide +kernel⟩
theorem fl_X0_21 : m_FL RX0 21 0 3 := ⟨RX0, TX0, 4, rfl, by decide, Or.inl (m_ws_in (List.mem_append_right _ (List.mem_of_getElem? (i := 87) (by decide +kernel))) rfl)⟩
theorem fw_X0_21 : ∀ (C : String) (T : u_T) (N : Nat), m_cl[0]? = some (C, T, N) → Cond.fieldLink RX0 21 (T 3).1 (T 3).2.1 (T 3).2.2.1 ∈ m_ws := fun C T N h => by cases h; exact m_ws_in (List.mem_append_right _ (List.mem_of_getElem? (i := 87) (by decide +kernel))) rfl
theorem ff_X0_3 : m_FF RX0 0 3 (.array .int) := ⟨RX0, TX0, 4, rfl, rfl, rfl, by decide +kernel⟩
theorem lm_X0_3 : Cond.methodLink RX0 3 Lib.objectInit ∈ m_ws := m_ws_in (List.mem_append_right _ (List.mem_of_getElem? (i := 77) (by decide +kernel))) rfl
theorem lk_X0_24 : m_LK RX0 24 M_X5_at := Or.inr ⟨"BatchDoser", m_nw_in (List.mem_append_right _ (List.mem_of_getElem? (i := 562) (by decide +kernel))) rfl⟩
theorem ll_X0_28 : Cond.methodLink RX0 28 yJ9_floorDiv_7cf53 ∈ m_ws := m_ws_in (List.mem_append_right _ (List.mem_of_getElem? (i := 563) (by decide +kernel))) rfl
theorem lk_X0_28 : m_LK RX0 28 M_J9_floorDiv_7cf53 := Or.inl ll_X0_28
theorem lm_X0_34 : Cond.methodLink RX0 34 Lib.Math.min.name ∈ m_ws := m_ws_in (List.mem_append_right _ (List.mem_of_getElem? (i := 566) (by decide +kernel))) rfl
theorem lm_X0_37 : Cond.methodLink RX0 37 Lib.Math.max.name ∈ m_ws := m_ws_in (List.mem_append_right _ (List.mem_of_getElem? (i := 567) (by decide +kernel))) rfl
theorem lk_X0_40 : m_LK RX0 40 M_X5_put := Or.inr ⟨"BatchDoser", m_nw_in (List.mem_append_right _ (List.mem_of_getElem? (i := 568) (by decide +kernel))) rfl⟩
theorem fl_X1_12 : m_FL RX1 12 1 0 := ⟨RX1, TX1, 16, rfl, by decide, Or.inl (m_ws_in (List.mem_append_right _ (List.mem_of_getElem? (i := 148) (by decide +kernel))) rfl)⟩
theorem fw_X1_12 : ∀ (C : String) (T : u_T) (N : Nat), m_cl[1]? = some (C, T, N) → Cond.fieldLink RX1 12 (T 0).1 (T 0).2.1 (T 0).2.2.1 ∈ m_ws := fun C T N h => by cases h; exact m_ws_in (List.mem_append_right _ (List.mem_of_getElem? (i := 148) (by decide +kernel))) rfl
theorem ff_X1_0 : m_FF RX1 1 0 (.object "BatchDoser$Scale") := ⟨RX1, TX1, 16, rfl, rfl, rfl, by decide +kernel⟩
theorem fl_X1_21 : m_FL RX1 21 1 1 := ⟨RX1, TX1, 16, rfl, by decide, Or.inl (m_ws_in (List.mem_append_right _ (List.mem_of_getElem? (i := 150) (by decide +kernel))) rfl)⟩
theorem fw_X1_21 : ∀ (C : String) (T : u_T) (N : Nat), m_cl[1]? = some (C, T, N) → Cond.fieldLink RX1 21 (T 1).1 (T 1).2.1 (T 1).2.2.1 ∈ m_ws := fun C T N h => by cases h; exact m_ws_in (List.mem_append_right _ (List.mem_of_getElem? (i := 150) (by decide +kernel))) rfl
theorem ff_X1_1 : m_FF RX1 1 1 (.object "BatchDoser$Bins") := ⟨RX1, TX1, 16, rfl, rfl, rfl, by decide +kernel⟩
theorem fl_X1_28 : m_FL RX1 28 1 2 := ⟨RX1, TX1, 16, rfl, by decide, Or.inl (m_ws_in (List.mem_append_right _ (List.mem_of_getElem? (i := 152) (by decide +kernel))) rfl)⟩
theorem fw_X1_28 : ∀ (C : String) (T : u_T) (N : Nat), m_cl[1]? = some (C, T, N) → Cond.fieldLink RX1 28 (T 2).1 (T 2).2.1 (T 2).2.2.1 ∈ m_ws := fun C T N h => by cases h; exact m_ws_in (List.mem_append_right _ (List.mem_of_getElem? (i := 152) (by decide +kernel))) rfl
theorem ff_X1_2 : m_FF RX1 1 2 (.object "BatchDoser$Lots") := ⟨RX1, TX1, 16, rfl, rfl, rfl, by decide +kernel⟩
theorem fl_X1_35 : m_FL RX1 35 1 3 := ⟨RX1, TX1, 16, rfl, by decide, Or.inl (m_ws_in (List.mem_append_right _ (List.mem_of_getElem? (i := 154) (by decide +kernel))) rfl)⟩
theorem fw_X1_35 : ∀ (C : String) (T : u_T) (N : Nat), m_cl[1]? = some (C, T, N) → Cond.fieldLink RX1 35 (T 3).1 (T 3).2.1 (T 3).2.2.1 ∈ m_ws := fun C T N h => by cases h; exact m_ws_in (List.mem_append_right _ (List.mem_of_getElem? (i := 154) (by decide +kernel))) rfl
theorem ff_X1_3 : m_FF RX1 1 3 (.object "BatchDoser$Recipe") := ⟨RX1, TX1, 16, rfl, rfl, rfl, by decide +kernel⟩
theorem fl_X1_39 : m_FL RX1 39 1 4 := ⟨RX1, TX1, 16, rfl, by decide, Or.inl (m_ws_in (List.mem_append_right _ (List.mem_of_getElem? (i := 156) (by decide +kernel))) rfl)⟩
theorem fw_X1_39 : ∀ (C : String) (T : u_T) (N : Nat), m_cl[1]? = some (C, T, N) → Cond.fieldLink RX1 39 (T 4).1 (T 4).2.1 (T 4).2.2.1 ∈ m_ws := fun C T N h => by cases h; exact m_ws_in (List.mem_append_right _ (List.mem_of_getElem? (i := 156) (by decide +kernel))) rfl
theorem fp_X1_4 : m_FP 1 4 (.int) := ⟨RX1, TX1, 16, rfl, rfl, by decide +kernel⟩
theorem fl_X1_43 : m_FL RX1 43 1 5 := ⟨RX1, TX1, 16, rfl, by decide, Or.inl (m_ws_in (List.mem_append_right _ (List.mem_of_getElem? (i := 158) (by decide +kernel))) rfl)⟩
theorem fw_X1_43 : ∀ (C : String) (T : u_T) (N : Nat), m_cl[1]? = some (C, T, N) → Cond.fieldLink RX1 43 (T 5).1 (T 5).2.1 (T 5).2.2.1 ∈ m_ws := fun C T N h => by cases h; exact m_ws_in (List.mem_append_right _ (List.mem_of_getElem? (i := 158) (by decide +kernel))) rfl
theorem fp_X1_5 : m_FP 1 5 (.int) := ⟨RX1, TX1, 16, rfl, rfl, by decide +kernel⟩
theorem fl_X1_46 : m_FL RX1 46 1 6 := ⟨RX1, TX1, 16, rfl, by decide, Or.inl (m_ws_in (List.mem_append_right _ (List.mem_of_getElem? (i := 160) (by decide +kernel))) rfl)⟩
theorem fw_X1_46 : ∀ (C : String) (T : u_T) (N : Nat), m_cl[1]? = some (C, T, N) → Cond.fieldLink RX1 46 (T 6).1 (T 6).2.1 (T 6).2.2.1 ∈ m_ws := fun C T N h => by cases h; exact m_ws_in (List.mem_append_right _ (List.mem_of_getElem? (i := 160) (by decide +kernel))) rfl
theorem fp_X1_6 : m_FP 1 6 (.int) := ⟨RX1, TX1, 16, rfl, rfl, by decide +kernel⟩
theorem lm_X1_3 : Cond.methodLink RX1 3 Lib.objectInit ∈ m_ws := m_ws_in (List.mem_append_right _ (List.mem_of_getElem? (i := 36) (by decide +kernel))) rfl
theorem lk_X1_11 : m_LK RX1 11 M_X4_init := Or.inr ⟨"BatchDoser", m_nw_in (List.mem_append_right _ (List.mem_of_getElem? (i := 39) (by decide +kernel))) rfl⟩
theorem ll_X1_20 : Cond.methodLink RX1 20 yX0_init ∈ m_ws := m_ws_in (List.mem_append_right _ (List.mem_of_getElem? (i := 74) (by decide +kernel))) rfl
theorem lk_X1_20 : m_LK RX1 20 M_X0_init := Or.inl ll_X1_20
theorem lk_X1_27 : m_LK RX1 27 M_X2_init := Or.inr ⟨"BatchDoser", m_nw_in (List.mem_append_right _ (List.mem_of_getElem? (i := 102) (by decide +kernel))) rfl⟩
theorem lk_X1_34 : m_LK RX1 34 M_X3_init := Or.inr ⟨"BatchDoser", m_nw_in (List.mem_append_right _ (List.mem_of_getElem? (i := 126) (by decide +kernel))) rfl⟩
theorem fl_X1_53 : m_FL RX1 53 1 7 := ⟨RX1, TX1, 16, rfl, by decide, Or.inl (m_ws_in (List.mem_append_right _ (List.mem_of_getElem? (i := 162) (by decide +kernel))) rfl)⟩
theorem fw_X1_53 : ∀ (C : String) (T : u_T) (N : Nat), m_cl[1]? = some (C, T, N) → Cond.fieldLink RX1 53 (T 7).1 (T 7).2.1 (T 7).2.2.1 ∈ m_ws := fun C T N h => by cases h; exact m_ws_in (List.mem_append_right _ (List.mem_of_getElem? (i := 162) (by decide +kernel))) rfl
theorem fp_X1_7 : m_FP 1 7 (.int) := ⟨RX1, TX1, 16, rfl, rfl, by decide +kernel⟩
theorem ll_X1_49 : Cond.methodLink RX1 49 yX4_take ∈ m_ws := m_ws_in (List.mem_append_right _ (List.mem_of_getElem? (i := 529) (by decide +kernel))) rfl
theorem lk_X1_49 : m_LK RX1 49 M_X4_take := Or.inl ll_X1_49
theorem ll_X1_56 : Cond.methodLink RX1 56 yX4_trackZero ∈ m_ws := m_ws_in (List.mem_append_right _ (List.mem_of_getElem? (i := 533) (by decide +kernel))) rfl
theorem lk_X1_56 : m_LK RX1 56 M_X4_trackZero := Or.inl ll_X1_56
theorem ll_X1_59 : Cond.methodLink RX1 59 yX1_tareStep ∈ m_ws := m_ws_in (List.mem_append_right _ (List.mem_of_getElem? (i := 539) (by decide +kernel))) rfl
theorem lk_X1_59 : m_LK RX1 59 M_X1_tareStep := Or.inl ll_X1_59
theorem ll_X1_62 : Cond.methodLink RX1 62 yX1_feed ∈ m_ws := m_ws_in (List.mem_append_right _ (List.mem_of_getElem? (i := 549) (by decide +kernel))) rfl
theorem lk_X1_62 : m_LK RX1 62 M_X1_feed := Or.inl ll_X1_62
theorem ll_X1_65 : Cond.methodLink RX1 65 yX4_isCalm ∈ m_ws := m_ws_in (List.mem_append_right _ (List.mem_of_getElem? (i := 543) (by decide +kernel))) rfl
theorem lk_X1_65 : m_LK RX1 65 M_X4_isCalm := Or.inl ll_X1_65
theorem ll_X1_69 : Cond.methodLink RX1 69 yX1_weigh ∈ m_ws := m_ws_in (List.mem_append_right _ (List.mem_of_getElem? (i := 554) (by decide +kernel))) rfl
theorem lk_X1_69 : m_LK RX1 69 M_X1_weigh := Or.inl ll_X1_69
theorem ll_X1_72 : Cond.methodLink RX1 72 yX1_enter ∈ m_ws := m_ws_in (List.mem_append_right _ (List.mem_of_getElem? (i := 392) (by decide +kernel))) rfl
theorem lk_X1_72 : m_LK RX1 72 M_X1_enter := Or.inl ll_X1_72
theorem ll_X1_75 : Cond.methodLink RX1 75 yX1_stepBin ∈ m_ws := m_ws_in (List.mem_append_right _ (List.mem_of_getElem? (i := 438) (by decide +kernel))) rfl
theorem lk_X1_75 : m_LK RX1 75 M_X1_stepBin := Or.inl ll_X1_75
theorem fl_X1_79 : m_FL RX1 79 1 14 := ⟨RX1, TX1, 16, rfl, by decide, Or.inl (m_ws_in (List.mem_append_right _ (List.mem_of_getElem? (i := 171) (by decide +kernel))) rfl)⟩
theorem fw_X1_79 : ∀ (C : String) (T : u_T) (N : Nat), m_cl[1]? = some (C, T, N) → Cond.fieldLink RX1 79 (T 14).1 (T 14).2.1 (T 14).2.2.1 ∈ m_ws := fun C T N h => by cases h; exact m_ws_in (List.mem_append_right _ (List.mem_of_getElem? (i := 171) (by decide +kernel))) rfl
theorem fp_X1_14 : m_FP 1 14 (.int) := ⟨RX1, TX1, 16, rfl, rfl, by decide +kernel⟩
theorem ll_X1_82 : Cond.methodLink RX1 82 yX1_beginStep ∈ m_ws := m_ws_in (List.mem_append_right _ (List.mem_of_getElem? (i := 460) (by decide +kernel))) rfl
theorem lk_X1_82 : m_LK RX1 82 M_X1_beginStep := Or.inl ll_X1_82
theorem fl_X1_88 : m_FL RX1 88 1 8 := ⟨RX1, TX1, 16, rfl, by decide, Or.inl (m_ws_in (List.mem_append_right _ (List.mem_of_getElem? (i := 163) (by decide +kernel))) rfl)⟩
theorem fw_X1_88 : ∀ (C : String) (T : u_T) (N : Nat), m_cl[1]? = some (C, T, N) → Cond.fieldLink RX1 88 (T 8).1 (T 8).2.1 (T 8).2.2.1 ∈ m_ws := fun C T N h => by cases h; exact m_ws_in (List.mem_append_right _ (List.mem_of_getElem? (i := 163) (by decide +kernel))) rfl
theorem fp_X1_8 : m_FP 1 8 (.int) := ⟨RX1, TX1, 16, rfl, rfl, by decide +kernel⟩
theorem ll_X1_85 : Cond.methodLink RX1 85 yX1_finishStep ∈ m_ws := m_ws_in (List.mem_append_right _ (List.mem_of_getElem? (i := 419) (by decide +kernel))) rfl
theorem lk_X1_85 : m_LK RX1 85 M_X1_finishStep := Or.inl ll_X1_85
theorem fl_X1_91 : m_FL RX1 91 1 12 := ⟨RX1, TX1, 16, rfl, by decide, Or.inl (m_ws_in (List.mem_append_right _ (List.mem_of_getElem? (i := 169) (by decide +kernel))) rfl)⟩
theorem fw_X1_91 : ∀ (C : String) (T : u_T) (N : Nat), m_cl[1]? = some (C, T, N) → Cond.fieldLink RX1 91 (T 12).1 (T 12).2.1 (T 12).2.2.1 ∈ m_ws := fun C T N h => by cases h; exact m_ws_in (List.mem_append_right _ (List.mem_of_getElem? (i := 169) (by decide +kernel))) rfl
theorem ll_X1_95 : Cond.methodLink RX1 95 yX1_bookNet ∈ m_ws := m_ws_in (List.mem_append_right _ (List.mem_of_getElem? (i := 423) (by decide +kernel))) rfl
theorem lk_X1_95 : m_LK RX1 95 M_X1_bookNet := Or.inl ll_X1_95
theorem fl_X1_101 : m_FL RX1 101 4 1 := ⟨RX4, TX4, 8, rfl, by decide, Or.inr ⟨"BatchDoser", m_nw_in (List.mem_append_right _ (List.mem_of_getElem? (i := 46) (by decide +kernel))) rfl⟩⟩
theorem fp_X4_1 : m_FP 4 1 (.int) := ⟨RX4, TX4, 8, rfl, rfl, by decide +kernel⟩
theorem fp_X1_12 : m_FP 1 12 (.boolean) := ⟨RX1, TX1, 16, rfl, rfl, by decide +kernel⟩
theorem fl_X1_107 : m_FL RX1 107 0 0 := ⟨RX0, TX0, 4, rfl, by decide, Or.inr ⟨"BatchDoser", m_nw_in (List.mem_append_right _ (List.mem_of_getElem? (i := 79) (by decide +kernel))) rfl⟩⟩
theorem ll_X1_98 : Cond.methodLink RX1 98 yX4_grossNow ∈ m_ws := m_ws_in (List.mem_append_right _ (List.mem_of_getElem? (i := 544) (by decide +kernel))) rfl
theorem lk_X1_98 : m_LK RX1 98 M_X4_grossNow := Or.inl ll_X1_98
theorem ll_X1_104 : Cond.methodLink RX1 104 yX1_target ∈ m_ws := m_ws_in (List.mem_append_right _ (List.mem_of_getElem? (i := 545) (by decide +kernel))) rfl
theorem lk_X1_104 : m_LK RX1 104 M_X1_target := Or.inl ll_X1_104
theorem lk_X1_111 : m_LK RX1 111 M_X5_at := Or.inr ⟨"BatchDoser", m_nw_in (List.mem_append_right _ (List.mem_of_getElem? (i := 442) (by decide +kernel))) rfl⟩
theorem fl_X1_118 : m_FL RX1 118 1 11 := ⟨RX1, TX1, 16, rfl, by decide, Or.inl (m_ws_in (List.mem_append_right _ (List.mem_of_getElem? (i := 168) (by decide +kernel))) rfl)⟩
theorem fw_X1_118 : ∀ (C : String) (T : u_T) (N : Nat), m_cl[1]? = some (C, T, N) → Cond.fieldLink RX1 118 (T 11).1 (T 11).2.1 (T 11).2.2.1 ∈ m_ws := fun C T N h => by cases h; exact m_ws_in (List.mem_append_right _ (List.mem_of_getElem? (i := 168) (by decide +kernel))) rfl
theorem fp_X1_11 : m_FP 1 11 (.int) := ⟨RX1, TX1, 16, rfl, rfl, by decide +kernel⟩
theorem fl_X1_121 : m_FL RX1 121 0 1 := ⟨RX0, TX0, 4, rfl, by decide, Or.inr ⟨"BatchDoser", m_nw_in (List.mem_append_right _ (List.mem_of_getElem? (i := 82) (by decide +kernel))) rfl⟩⟩
theorem ll_X1_115 : Cond.methodLink RX1 115 yX4_netNow ∈ m_ws := m_ws_in (List.mem_append_right _ (List.mem_of_getElem? (i := 427) (by decide +kernel))) rfl
theorem lk_X1_115 : m_LK RX1 115 M_X4_netNow := Or.inl ll_X1_115
theorem ll_X1_124 : Cond.methodLink RX1 124 yX1_halt ∈ m_ws := m_ws_in (List.mem_append_right _ (List.mem_of_getElem? (i := 553) (by decide +kernel))) rfl
theorem lk_X1_124 : m_LK RX1 124 M_X1_halt := Or.inl ll_X1_124
theorem fl_X1_127 : m_FL RX1 127 3 2 := ⟨RX3, TX3, 4, rfl, by decide, Or.inr ⟨"BatchDoser", m_nw_in (List.mem_append_right _ (List.mem_of_getElem? (i := 135) (by decide +kernel))) rfl⟩⟩
theorem fl_X1_130 : m_FL RX1 130 1 9 := ⟨RX1, TX1, 16, rfl, by decide, Or.inl (m_ws_in (List.mem_append_right _ (List.mem_of_getElem? (i := 164) (by decide +kernel))) rfl)⟩
theorem fw_X1_130 : ∀ (C : String) (T : u_T) (N : Nat), m_cl[1]? = some (C, T, N) → Cond.fieldLink RX1 130 (T 9).1 (T 9).2.1 (T 9).2.2.1 ∈ m_ws := fun C T N h => by cases h; exact m_ws_in (List.mem_append_right _ (List.mem_of_getElem? (i := 164) (by decide +kernel))) rfl
theorem fl_X1_133 : m_FL RX1 133 1 13 := ⟨RX1, TX1, 16, rfl, by decide, Or.inl (m_ws_in (List.mem_append_right _ (List.mem_of_getElem? (i := 170) (by decide +kernel))) rfl)⟩
theorem fw_X1_133 : ∀ (C : String) (T : u_T) (N : Nat), m_cl[1]? = some (C, T, N) → Cond.fieldLink RX1 133 (T 13).1 (T 13).2.1 (T 13).2.2.1 ∈ m_ws := fun C T N h => by cases h; exact m_ws_in (List.mem_append_right _ (List.mem_of_getElem? (i := 170) (by decide +kernel))) rfl
theorem fp_X1_13 : m_FP 1 13 (.boolean) := ⟨RX1, TX1, 16, rfl, rfl, by decide +kernel⟩
theorem ll_X1_136 : Cond.methodLink RX1 136 yX0_learn ∈ m_ws := m_ws_in (List.mem_append_right _ (List.mem_of_getElem? (i := 558) (by decide +kernel))) rfl
theorem lk_X1_136 : m_LK RX1 136 M_X0_learn := Or.inl ll_X1_136
theorem ll_X1_140 : Cond.methodLink RX1 140 yX1_jog ∈ m_ws := m_ws_in (List.mem_append_right _ (List.mem_of_getElem? (i := 569) (by decide +kernel))) rfl
theorem lk_X1_140 : m_LK RX1 140 M_X1_jog := Or.inl ll_X1_140
theorem fl_X1_143 : m_FL RX1 143 1 10 := ⟨RX1, TX1, 16, rfl, by decide, Or.inl (m_ws_in (List.mem_append_right _ (List.mem_of_getElem? (i := 166) (by decide +kernel))) rfl)⟩
theorem fw_X1_143 : ∀ (C : String) (T : u_T) (N : Nat), m_cl[1]? = some (C, T, N) → Cond.fieldLink RX1 143 (T 10).1 (T 10).2.1 (T 10).2.2.1 ∈ m_ws := fun C T N h => by cases h; exact m_ws_in (List.mem_append_right _ (List.mem_of_getElem? (i := 166) (by decide +kernel))) rfl
theorem fp_X1_10 : m_FP 1 10 (.int) := ⟨RX1, TX1, 16, rfl, rfl, by decide +kernel⟩
theorem fl_X1_146 : m_FL RX1 146 3 3 := ⟨RX3, TX3, 4, rfl, by decide, Or.inr ⟨"BatchDoser", m_nw_in (List.mem_append_right _ (List.mem_of_getElem? (i := 137) (by decide +kernel))) rfl⟩⟩
theorem fl_X1_149 : m_FL RX1 149 1 15 := ⟨RX1, TX1, 16, rfl, by decide, Or.inl (m_ws_in (List.mem_append_right _ (List.mem_of_getElem? (i := 173) (by decide +kernel))) rfl)⟩
theorem fw_X1_149 : ∀ (C : String) (T : u_T) (N : Nat), m_cl[1]? = some (C, T, N) → Cond.fieldLink RX1 149 (T 15).1 (T 15).2.1 (T 15).2.2.1 ∈ m_ws := fun C T N h => by cases h; exact m_ws_in (List.mem_append_right _ (List.mem_of_getElem? (i := 173) (by decide +kernel))) rfl
theorem fp_X1_15 : m_FP 1 15 (.int) := ⟨RX1, TX1, 16, rfl, rfl, by decide +kernel⟩
theorem fp_X1_9 : m_FP 1 9 (.int) := ⟨RX1, TX1, 16, rfl, rfl, by decide +kernel⟩
theorem fl_X1_162 : m_FL RX1 162 0 2 := ⟨RX0, TX0, 4, rfl, by decide, Or.inr ⟨"BatchDoser", m_nw_in (List.mem_append_right _ (List.mem_of_getElem? (i := 86) (by decide +kernel))) rfl⟩⟩
theorem fl_X1_169 : m_FL RX1 169 0 3 := ⟨RX0, TX0, 4, rfl, by decide, Or.inr ⟨"BatchDoser", m_nw_in (List.mem_append_right _ (List.mem_of_getElem? (i := 89) (by decide +kernel))) rfl⟩⟩
theorem lm_X1_152 : Cond.methodLink RX1 152 Lib.Math.max.name ∈ m_ws := m_ws_in (List.mem_append_right _ (List.mem_of_getElem? (i := 435) (by decide +kernel))) rfl
theorem ll_X1_158 : Cond.methodLink RX1 158 yX2_takeOut ∈ m_ws := m_ws_in (List.mem_append_right _ (List.mem_of_getElem? (i := 445) (by decide +kernel))) rfl
theorem lk_X1_158 : m_LK RX1 158 M_X2_takeOut := Or.inl ll_X1_158
theorem lk_X1_165 : m_LK RX1 165 M_X5_increase := Or.inr ⟨"BatchDoser", m_nw_in (List.mem_append_right _ (List.mem_of_getElem? (i := 459) (by decide +kernel))) rfl⟩
theorem fl_X1_172 : m_FL RX1 172 3 0 := ⟨RX3, TX3, 4, rfl, by decide, Or.inr ⟨"BatchDoser", m_nw_in (List.mem_append_right _ (List.mem_of_getElem? (i := 131) (by decide +kernel))) rfl⟩⟩
theorem fl_X1_175 : m_FL RX1 175 3 1 := ⟨RX3, TX3, 4, rfl, by decide, Or.inr ⟨"BatchDoser", m_nw_in (List.mem_append_right _ (List.mem_of_getElem? (i := 133) (by decide +kernel))) rfl⟩⟩
theorem fl_X2_9 : m_FL RX2 9 2 0 := ⟨RX2, TX2, 5, rfl, by decide, Or.inl (m_ws_in (List.mem_append_right _ (List.mem_of_getElem? (i := 106) (by decide +kernel))) rfl)⟩
theorem fw_X2_9 : ∀ (C : String) (T : u_T) (N : Nat), m_cl[2]? = some (C, T, N) → Cond.fieldLink RX2 9 (T 0).1 (T 0).2.1 (T 0).2.2.1 ∈ m_ws := fun C T N h => by cases h; exact m_ws_in (List.mem_append_right _ (List.mem_of_getElem? (i := 106) (by decide +kernel))) rfl
theorem ff_X2_0 : m_FF RX2 2 0 (.array .int) := ⟨RX2, TX2, 5, rfl, rfl, rfl, by decide +kernel⟩
theorem fl_X2_15 : m_FL RX2 15 2 1 := ⟨RX2, TX2, 5, rfl, by decide, Or.inl (m_ws_in (List.mem_append_right _ (List.mem_of_getElem? (i := 107) (by decide +kernel))) rfl)⟩
theorem fw_X2_15 : ∀ (C : String) (T : u_T) (N : Nat), m_cl[2]? = some (C, T, N) → Cond.fieldLink RX2 15 (T 1).1 (T 1).2.1 (T 1).2.2.1 ∈ m_ws := fun C T N h => by cases h; exact m_ws_in (List.mem_append_right _ (List.mem_of_getElem? (i := 107) (by decide +kernel))) rfl
theorem ff_X2_1 : m_FF RX2 2 1 (.array .int) := ⟨RX2, TX2, 5, rfl, rfl, rfl, by decide +kernel⟩
theorem fl_X2_18 : m_FL RX2 18 2 2 := ⟨RX2, TX2, 5, rfl, by decide, Or.inl (m_ws_in (List.mem_append_right _ (List.mem_of_getElem? (i := 108) (by decide +kernel))) rfl)⟩
theorem fw_X2_18 : ∀ (C : String) (T : u_T) (N : Nat), m_cl[2]? = some (C, T, N) → Cond.fieldLink RX2 18 (T 2).1 (T 2).2.1 (T 2).2.2.1 ∈ m_ws := fun C T N h => by cases h; exact m_ws_in (List.mem_append_right _ (List.mem_of_getElem? (i := 108) (by decide +kernel))) rfl
theorem ff_X2_2 : m_FF RX2 2 2 (.array .int) := ⟨RX2, TX2, 5, rfl, rfl, rfl, by decide +kernel⟩
theorem fl_X2_21 : m_FL RX2 21 2 3 := ⟨RX2, TX2, 5, rfl, by decide, Or.inl (m_ws_in (List.mem_append_right _ (List.mem_of_getElem? (i := 110) (by decide +kernel))) rfl)⟩
theorem fw_X2_21 : ∀ (C : String) (T : u_T) (N : Nat), m_cl[2]? = some (C, T, N) → Cond.fieldLink RX2 21 (T 3).1 (T 3).2.1 (T 3).2.2.1 ∈ m_ws := fun C T N h => by cases h; exact m_ws_in (List.mem_append_right _ (List.mem_of_getElem? (i := 110) (by decide +kernel))) rfl
theorem ff_X2_3 : m_FF RX2 2 3 (.array .int) := ⟨RX2, TX2, 5, rfl, rfl, rfl, by decide +kernel⟩
theorem lm_X2_3 : Cond.methodLink RX2 3 Lib.objectInit ∈ m_ws := m_ws_in (List.mem_append_right _ (List.mem_of_getElem? (i := 105) (by decide +kernel))) rfl
theorem fl_X2_24 : m_FL RX2 24 2 4 := ⟨RX2, TX2, 5, rfl, by decide, Or.inl (m_ws_in (List.mem_append_right _ (List.mem_of_getElem? (i := 111) (by decide +kernel))) rfl)⟩
theorem fw_X2_24 : ∀ (C : String) (T : u_T) (N : Nat), m_cl[2]? = some (C, T, N) → Cond.fieldLink RX2 24 (T 4).1 (T 4).2.1 (T 4).2.2.1 ∈ m_ws := fun C T N h => by cases h; exact m_ws_in (List.mem_append_right _ (List.mem_of_getElem? (i := 111) (by decide +kernel))) rfl
theorem fp_X2_4 : m_FP 2 4 (.int) := ⟨RX2, TX2, 5, rfl, rfl, by decide +kernel⟩
theorem lk_X2_28 : m_LK RX2 28 M_X5_put := Or.inr ⟨"BatchDoser", m_nw_in (List.mem_append_right _ (List.mem_of_getElem? (i := 354) (by decide +kernel))) rfl⟩
theorem lk_X2_32 : m_LK RX2 32 M_X5_at := Or.inr ⟨"BatchDoser", m_nw_in (List.mem_append_right _ (List.mem_of_getElem? (i := 449) (by decide +kernel))) rfl⟩
theorem lm_X2_36 : Cond.methodLink RX2 36 Lib.Math.min.name ∈ m_ws := m_ws_in (List.mem_append_right _ (List.mem_of_getElem? (i := 450) (by decide +kernel))) rfl
theorem lk_X2_42 : m_LK RX2 42 M_X5_increase := Or.inr ⟨"BatchDoser", m_nw_in (List.mem_append_right _ (List.mem_of_getElem? (i := 453) (by decide +kernel))) rfl⟩
theorem ll_X2_45 : Cond.methodLink RX2 45 yX2_place ∈ m_ws := m_ws_in (List.mem_append_right _ (List.mem_of_getElem? (i := 456) (by decide +kernel))) rfl
theorem lk_X2_45 : m_LK RX2 45 M_X2_place := Or.inl ll_X2_45
theorem ll_X2_48 : Cond.methodLink RX2 48 yX2_usedFor ∈ m_ws := m_ws_in (List.mem_append_right _ (List.mem_of_getElem? (i := 667) (by decide +kernel))) rfl
theorem lk_X2_48 : m_LK RX2 48 M_X2_usedFor := Or.inl ll_X2_48
theorem fl_X3_9 : m_FL RX3 9 3 0 := ⟨RX3, TX3, 4, rfl, by decide, Or.inl (m_ws_in (List.mem_append_right _ (List.mem_of_getElem? (i := 130) (by decide +kernel))) rfl)⟩
theorem fw_X3_9 : ∀ (C : String) (T : u_T) (N : Nat), m_cl[3]? = some (C, T, N) → Cond.fieldLink RX3 9 (T 0).1 (T 0).2.1 (T 0).2.2.1 ∈ m_ws := fun C T N h => by cases h; exact m_ws_in (List.mem_append_right _ (List.mem_of_getElem? (i := 130) (by decide +kernel))) rfl
theorem ff_X3_0 : m_FF RX3 3 0 (.array .int) := ⟨RX3, TX3, 4, rfl, rfl, rfl, by decide +kernel⟩
theorem fl_X3_15 : m_FL RX3 15 3 1 := ⟨RX3, TX3, 4, rfl, by decide, Or.inl (m_ws_in (List.mem_append_right _ (List.mem_of_getElem? (i := 132) (by decide +kernel))) rfl)⟩
theorem fw_X3_15 : ∀ (C : String) (T : u_T) (N : Nat), m_cl[3]? = some (C, T, N) → Cond.fieldLink RX3 15 (T 1).1 (T 1).2.1 (T 1).2.2.1 ∈ m_ws := fun C T N h => by cases h; exact m_ws_in (List.mem_append_right _ (List.mem_of_getElem? (i := 132) (by decide +kernel))) rfl
theorem ff_X3_1 : m_FF RX3 3 1 (.array .int) := ⟨RX3, TX3, 4, rfl, rfl, rfl, by decide +kernel⟩
theorem fl_X3_18 : m_FL RX3 18 3 2 := ⟨RX3, TX3, 4, rfl, by decide, Or.inl (m_ws_in (List.mem_append_right _ (List.mem_of_getElem? (i := 134) (by decide +kernel))) rfl)⟩
theorem fw_X3_18 : ∀ (C : String) (T : u_T) (N : Nat), m_cl[3]? = some (C, T, N) → Cond.fieldLink RX3 18 (T 2).1 (T 2).2.1 (T 2).2.2.1 ∈ m_ws := fun C T N h => by cases h; exact m_ws_in (List.mem_append_right _ (List.mem_of_getElem? (i := 134) (by decide +kernel))) rfl
theorem ff_X3_2 : m_FF RX3 3 2 (.array .int) := ⟨RX3, TX3, 4, rfl, rfl, rfl, by decide +kernel⟩
theorem lm_X3_3 : Cond.methodLink RX3 3 Lib.objectInit ∈ m_ws := m_ws_in (List.mem_append_right _ (List.mem_of_getElem? (i := 129) (by decide +kernel))) rfl
theorem fl_X3_21 : m_FL RX3 21 3 3 := ⟨RX3, TX3, 4, rfl, by decide, Or.inl (m_ws_in (List.mem_append_right _ (List.mem_of_getElem? (i := 136) (by decide +kernel))) rfl)⟩
theorem fw_X3_21 : ∀ (C : String) (T : u_T) (N : Nat), m_cl[3]? = some (C, T, N) → Cond.fieldLink RX3 21 (T 3).1 (T 3).2.1 (T 3).2.2.1 ∈ m_ws := fun C T N h => by cases h; exact m_ws_in (List.mem_append_right _ (List.mem_of_getElem? (i := 136) (by decide +kernel))) rfl
theorem fp_X3_3 : m_FP 3 3 (.int) := ⟨RX3, TX3, 4, rfl, rfl, by decide +kernel⟩
theorem lk_X3_25 : m_LK RX3 25 M_X5_put := Or.inr ⟨"BatchDoser", m_nw_in (List.mem_append_right _ (List.mem_of_getElem? (i := 365) (by decide +kernel))) rfl⟩
theorem fl_X4_9 : m_FL RX4 9 4 2 := ⟨RX4, TX4, 8, rfl, by decide, Or.inl (m_ws_in (List.mem_append_right _ (List.mem_of_getElem? (i := 47) (by decide +kernel))) rfl)⟩
theorem fw_X4_9 : ∀ (C : String) (T : u_T) (N : Nat), m_cl[4]? = some (C, T, N) → Cond.fieldLink RX4 9 (T 2).1 (T 2).2.1 (T 2).2.2.1 ∈ m_ws := fun C T N h => by cases h; exact m_ws_in (List.mem_append_right _ (List.mem_of_getElem? (i := 47) (by decide +kernel))) rfl
theorem fp_X4_2 : m_FP 4 2 (.int) := ⟨RX4, TX4, 8, rfl, rfl, by decide +kernel⟩
theorem lm_X4_3 : Cond.methodLink RX4 3 Lib.objectInit ∈ m_ws := m_ws_in (List.mem_append_right _ (List.mem_of_getElem? (i := 42) (by decide +kernel))) rfl
theorem fl_X4_15 : m_FL RX4 15 4 6 := ⟨RX4, TX4, 8, rfl, by decide, Or.inl (m_ws_in (List.mem_append_right _ (List.mem_of_getElem? (i := 53) (by decide +kernel))) rfl)⟩
theorem fw_X4_15 : ∀ (C : String) (T : u_T) (N : Nat), m_cl[4]? = some (C, T, N) → Cond.fieldLink RX4 15 (T 6).1 (T 6).2.1 (T 6).2.2.1 ∈ m_ws := fun C T N h => by cases h; exact m_ws_in (List.mem_append_right _ (List.mem_of_getElem? (i := 53) (by decide +kernel))) rfl
theorem fl_X4_18 : m_FL RX4 18 4 7 := ⟨RX4, TX4, 8, rfl, by decide, Or.inl (m_ws_in (List.mem_append_right _ (List.mem_of_getElem? (i := 54) (by decide +kernel))) rfl)⟩
theorem fw_X4_18 : ∀ (C : String) (T : u_T) (N : Nat), m_cl[4]? = some (C, T, N) → Cond.fieldLink RX4 18 (T 7).1 (T 7).2.1 (T 7).2.2.1 ∈ m_ws := fun C T N h => by cases h; exact m_ws_in (List.mem_append_right _ (List.mem_of_getElem? (i := 54) (by decide +kernel))) rfl
theorem fp_X4_7 : m_FP 4 7 (.int) := ⟨RX4, TX4, 8, rfl, rfl, by decide +kernel⟩
theorem fl_X4_21 : m_FL RX4 21 4 5 := ⟨RX4, TX4, 8, rfl, by decide, Or.inl (m_ws_in (List.mem_append_right _ (List.mem_of_getElem? (i := 52) (by decide +kernel))) rfl)⟩
theorem fw_X4_21 : ∀ (C : String) (T : u_T) (N : Nat), m_cl[4]? = some (C, T, N) → Cond.fieldLink RX4 21 (T 5).1 (T 5).2.1 (T 5).2.2.1 ∈ m_ws := fun C T N h => by cases h; exact m_ws_in (List.mem_append_right _ (List.mem_of_getElem? (i := 52) (by decide +kernel))) rfl
theorem fp_X4_6 : m_FP 4 6 (.int) := ⟨RX4, TX4, 8, rfl, rfl, by decide +kernel⟩
theorem fl_X4_24 : m_FL RX4 24 4 4 := ⟨RX4, TX4, 8, rfl, by decide, Or.inl (m_ws_in (List.mem_append_right _ (List.mem_of_getElem? (i := 50) (by decide +kernel))) rfl)⟩
theorem fw_X4_24 : ∀ (C : String) (T : u_T) (N : Nat), m_cl[4]? = some (C, T, N) → Cond.fieldLink RX4 24 (T 4).1 (T 4).2.1 (T 4).2.2.1 ∈ m_ws := fun C T N h => by cases h; exact m_ws_in (List.mem_append_right _ (List.mem_of_getElem? (i := 50) (by decide +kernel))) rfl
theorem fp_X4_5 : m_FP 4 5 (.int) := ⟨RX4, TX4, 8, rfl, rfl, by decide +kernel⟩
theorem fp_X4_4 : m_FP 4 4 (.int) := ⟨RX4, TX4, 8, rfl, rfl, by decide +kernel⟩
theorem fl_X4_27 : m_FL RX4 27 4 3 := ⟨RX4, TX4, 8, rfl, by decide, Or.inl (m_ws_in (List.mem_append_right _ (List.mem_of_getElem? (i := 49) (by decide +kernel))) rfl)⟩
theorem fw_X4_27 : ∀ (C : String) (T : u_T) (N : Nat), m_cl[4]? = some (C, T, N) → Cond.fieldLink RX4 27 (T 3).1 (T 3).2.1 (T 3).2.2.1 ∈ m_ws := fun C T N h => by cases h; exact m_ws_in (List.mem_append_right _ (List.mem_of_getElem? (i := 49) (by decide +kernel))) rfl
theorem fp_X4_3 : m_FP 4 3 (.int) := ⟨RX4, TX4, 8, rfl, rfl, by decide +kernel⟩
theorem lm_X4_30 : Cond.methodLink RX4 30 Lib.Math.max.name ∈ m_ws := m_ws_in (List.mem_append_right _ (List.mem_of_getElem? (i := 489) (by decide +kernel))) rfl
theorem lm_X4_36 : Cond.methodLink RX4 36 Lib.Math.min.name ∈ m_ws := m_ws_in (List.mem_append_right _ (List.mem_of_getElem? (i := 490) (by decide +kernel))) rfl
theorem fl_X4_39 : m_FL RX4 39 4 0 := ⟨RX4, TX4, 8, rfl, by decide, Or.inl (m_ws_in (List.mem_append_right _ (List.mem_of_getElem? (i := 43) (by decide +kernel))) rfl)⟩
theorem fw_X4_39 : ∀ (C : String) (T : u_T) (N : Nat), m_cl[4]? = some (C, T, N) → Cond.fieldLink RX4 39 (T 0).1 (T 0).2.1 (T 0).2.2.1 ∈ m_ws := fun C T N h => by cases h; exact m_ws_in (List.mem_append_right _ (List.mem_of_getElem? (i := 43) (by decide +kernel))) rfl
theorem fl_X4_46 : m_FL RX4 46 4 1 := ⟨RX4, TX4, 8, rfl, by decide, Or.inl (m_ws_in (List.mem_append_right _ (List.mem_of_getElem? (i := 45) (by decide +kernel))) rfl)⟩
theorem fw_X4_46 : ∀ (C : String) (T : u_T) (N : Nat), m_cl[4]? = some (C, T, N) → Cond.fieldLink RX4 46 (T 1).1 (T 1).2.1 (T 1).2.2.1 ∈ m_ws := fun C T N h => by cases h; exact m_ws_in (List.mem_append_right _ (List.mem_of_getElem? (i := 45) (by decide +kernel))) rfl
theorem ll_X4_42 : Cond.methodLink RX4 42 yX4_grossNow ∈ m_ws := m_ws_in (List.mem_append_right _ (List.mem_of_getElem? (i := 431) (by decide +kernel))) rfl
theorem lk_X4_42 : m_LK RX4 42 M_X4_grossNow := Or.inl ll_X4_42
theorem fp_X4_0 : m_FP 4 0 (.int) := ⟨RX4, TX4, 8, rfl, rfl, by decide +kernel⟩
theorem lk_X4_49 : m_LK RX4 49 M_X5_isWithin := Or.inr ⟨"BatchDoser", m_nw_in (List.mem_append_right _ (List.mem_of_getElem? (i := 537) (by decide +kernel))) rfl⟩
theorem ll_X4_53 : Cond.methodLink RX4 53 yX4_isCalm ∈ m_ws := m_ws_in (List.mem_append_right _ (List.mem_of_getElem? (i := 538) (by decide +kernel))) rfl
theorem lk_X4_53 : m_LK RX4 53 M_X4_isCalm := Or.inl ll_X4_53
theorem fl_X5_10 : m_FL RX5 10 5 0 := ⟨RX5, TX5, 6, rfl, by decide, Or.inl (m_ws_in (List.mem_append_right _ (List.mem_of_getElem? (i := 208) (by decide +kernel))) rfl)⟩
theorem fw_X5_10 : ∀ (C : String) (T : u_T) (N : Nat), m_cl[5]? = some (C, T, N) → Cond.fieldLink RX5 10 (T 0).1 (T 0).2.1 (T 0).2.2.1 ∈ m_ws := fun C T N h => by cases h; exact m_ws_in (List.mem_append_right _ (List.mem_of_getElem? (i := 208) (by decide +kernel))) rfl
theorem ff_X5_0 : m_FF RX5 5 0 (.object "BatchDoser$Dosing") := ⟨RX5, TX5, 6, rfl, rfl, rfl, by decide +kernel⟩
theorem fl_X5_16 : m_FL RX5 16 1 0 := ⟨RX1, TX1, 16, rfl, by decide, Or.inr ⟨"BatchDoser", m_nw_in (List.mem_append_right _ (List.mem_of_getElem? (i := 149) (by decide +kernel))) rfl⟩⟩
theorem fl_X5_20 : m_FL RX5 20 5 1 := ⟨RX5, TX5, 6, rfl, by decide, Or.inl (m_ws_in (List.mem_append_right _ (List.mem_of_getElem? (i := 209) (by decide +kernel))) rfl)⟩
theorem fw_X5_20 : ∀ (C : String) (T : u_T) (N : Nat), m_cl[5]? = some (C, T, N) → Cond.fieldLink RX5 20 (T 1).1 (T 1).2.1 (T 1).2.2.1 ∈ m_ws := fun C T N h => by cases h; exact m_ws_in (List.mem_append_right _ (List.mem_of_getElem? (i := 209) (by decide +kernel))) rfl
theorem ff_X5_1 : m_FF RX5 5 1 (.object "BatchDoser$Scale") := ⟨RX5, TX5, 6, rfl, rfl, rfl, by decide +kernel⟩
theorem fl_X5_21 : m_FL RX5 21 1 1 := ⟨RX1, TX1, 16, rfl, by decide, Or.inr ⟨"BatchDoser", m_nw_in (List.mem_append_right _ (List.mem_of_getElem? (i := 151) (by decide +kernel))) rfl⟩⟩
theorem fl_X5_25 : m_FL RX5 25 5 2 := ⟨RX5, TX5, 6, rfl, by decide, Or.inl (m_ws_in (List.mem_append_right _ (List.mem_of_getElem? (i := 210) (by decide +kernel))) rfl)⟩
theorem fw_X5_25 : ∀ (C : String) (T : u_T) (N : Nat), m_cl[5]? = some (C, T, N) → Cond.fieldLink RX5 25 (T 2).1 (T 2).2.1 (T 2).2.2.1 ∈ m_ws := fun C T N h => by cases h; exact m_ws_in (List.mem_append_right _ (List.mem_of_getElem? (i := 210) (by decide +kernel))) rfl
theorem ff_X5_2 : m_FF RX5 5 2 (.object "BatchDoser$Bins") := ⟨RX5, TX5, 6, rfl, rfl, rfl, by decide +kernel⟩
theorem fl_X5_26 : m_FL RX5 26 1 2 := ⟨RX1, TX1, 16, rfl, by decide, Or.inr ⟨"BatchDoser", m_nw_in (List.mem_append_right _ (List.mem_of_getElem? (i := 153) (by decide +kernel))) rfl⟩⟩
theorem fl_X5_30 : m_FL RX5 30 5 3 := ⟨RX5, TX5, 6, rfl, by decide, Or.inl (m_ws_in (List.mem_append_right _ (List.mem_of_getElem? (i := 211) (by decide +kernel))) rfl)⟩
theorem fw_X5_30 : ∀ (C : String) (T : u_T) (N : Nat), m_cl[5]? = some (C, T, N) → Cond.fieldLink RX5 30 (T 3).1 (T 3).2.1 (T 3).2.2.1 ∈ m_ws := fun C T N h => by cases h; exact m_ws_in (List.mem_append_right _ (List.mem_of_getElem? (i := 211) (by decide +kernel))) rfl
theorem ff_X5_3 : m_FF RX5 5 3 (.object "BatchDoser$Lots") := ⟨RX5, TX5, 6, rfl, rfl, rfl, by decide +kernel⟩
theorem fl_X5_31 : m_FL RX5 31 1 3 := ⟨RX1, TX1, 16, rfl, by decide, Or.inr ⟨"BatchDoser", m_nw_in (List.mem_append_right _ (List.mem_of_getElem? (i := 155) (by decide +kernel))) rfl⟩⟩
theorem fl_X5_35 : m_FL RX5 35 5 4 := ⟨RX5, TX5, 6, rfl, by decide, Or.inl (m_ws_in (List.mem_append_right _ (List.mem_of_getElem? (i := 212) (by decide +kernel))) rfl)⟩
theorem fw_X5_35 : ∀ (C : String) (T : u_T) (N : Nat), m_cl[5]? = some (C, T, N) → Cond.fieldLink RX5 35 (T 4).1 (T 4).2.1 (T 4).2.2.1 ∈ m_ws := fun C T N h => by cases h; exact m_ws_in (List.mem_append_right _ (List.mem_of_getElem? (i := 212) (by decide +kernel))) rfl
theorem ff_X5_4 : m_FF RX5 5 4 (.object "BatchDoser$Recipe") := ⟨RX5, TX5, 6, rfl, rfl, rfl, by decide +kernel⟩
theorem lm_X5_1 : Cond.methodLink RX5 1 Lib.objectInit ∈ m_ws := m_ws_in (List.mem_append_right _ (List.mem_of_getElem? (i := 28) (by decide +kernel))) rfl
theorem lk_X5_9 : m_LK RX5 9 M_X1_init := Or.inr ⟨"BatchDoser", m_nw_in (List.mem_append_right _ (List.mem_of_getElem? (i := 33) (by decide +kernel))) rfl⟩
theorem fl_X5_43 : m_FL RX5 43 1 4 := ⟨RX1, TX1, 16, rfl, by decide, Or.inr ⟨"BatchDoser", m_nw_in (List.mem_append_right _ (List.mem_of_getElem? (i := 157) (by decide +kernel))) rfl⟩⟩
theorem ll_X5_36 : Cond.methodLink RX5 36 yX5_needReading ∈ m_ws := m_ws_in (List.mem_append_right _ (List.mem_of_getElem? (i := 522) (by decide +kernel))) rfl
theorem lk_X5_36 : m_LK RX5 36 M_X5_needReading := Or.inl ll_X5_36
theorem ll_X5_40 : Cond.methodLink RX5 40 yX1_bring ∈ m_ws := m_ws_in (List.mem_append_right _ (List.mem_of_getElem? (i := 525) (by decide +kernel))) rfl
theorem lk_X5_40 : m_LK RX5 40 M_X1_bring := Or.inl ll_X5_40
theorem ll_X5_47 : Cond.methodLink RX5 47 yX5_isWithin ∈ m_ws := m_ws_in (List.mem_append_right _ (List.mem_of_getElem? (i := 240) (by decide +kernel))) rfl
theorem lk_X5_47 : m_LK RX5 47 M_X5_isWithin := Or.inl ll_X5_47
theorem ll_X5_51 : Cond.methodLink RX5 51 yX5_needArgument ∈ m_ws := m_ws_in (List.mem_append_right _ (List.mem_of_getElem? (i := 312) (by decide +kernel))) rfl
theorem lk_X5_51 : m_LK RX5 51 M_X5_needArgument := Or.inl ll_X5_51
theorem fl_X5_64 : m_FL RX5 64 4 4 := ⟨RX4, TX4, 8, rfl, by decide, Or.inr ⟨"BatchDoser", m_nw_in (List.mem_append_right _ (List.mem_of_getElem? (i := 51) (by decide +kernel))) rfl⟩⟩
theorem fl_X5_67 : m_FL RX5 67 4 0 := ⟨RX4, TX4, 8, rfl, by decide, Or.inr ⟨"BatchDoser", m_nw_in (List.mem_append_right _ (List.mem_of_getElem? (i := 44) (by decide +kernel))) rfl⟩⟩
theorem ll_X5_55 : Cond.methodLink RX5 55 yX4_isCalm ∈ m_ws := m_ws_in (List.mem_append_right _ (List.mem_of_getElem? (i := 485) (by decide +kernel))) rfl
theorem lk_X5_55 : m_LK RX5 55 M_X4_isCalm := Or.inl ll_X5_55
theorem ll_X5_61 : Cond.methodLink RX5 61 yX5_needState ∈ m_ws := m_ws_in (List.mem_append_right _ (List.mem_of_getElem? (i := 331) (by decide +kernel))) rfl
theorem lk_X5_61 : m_LK RX5 61 M_X5_needState := Or.inl ll_X5_61
theorem fl_X5_70 : m_FL RX5 70 4 2 := ⟨RX4, TX4, 8, rfl, by decide, Or.inr ⟨"BatchDoser", m_nw_in (List.mem_append_right _ (List.mem_of_getElem? (i := 48) (by decide +kernel))) rfl⟩⟩
theorem ll_X5_73 : Cond.methodLink RX5 73 yX4_grossNow ∈ m_ws := m_ws_in (List.mem_append_right _ (List.mem_of_getElem? (i := 584) (by decide +kernel))) rfl
theorem lk_X5_73 : m_LK RX5 73 M_X4_grossNow := Or.inl ll_X5_73
theorem ll_X5_77 : Cond.methodLink RX5 77 yX4_netNow ∈ m_ws := m_ws_in (List.mem_append_right _ (List.mem_of_getElem? (i := 589) (by decide +kernel))) rfl
theorem lk_X5_77 : m_LK RX5 77 M_X4_netNow := Or.inl ll_X5_77
theorem fl_X5_84 : m_FL RX5 84 2 4 := ⟨RX2, TX2, 5, rfl, by decide, Or.inr ⟨"BatchDoser", m_nw_in (List.mem_append_right _ (List.mem_of_getElem? (i := 112) (by decide +kernel))) rfl⟩⟩
theorem ll_X5_80 : Cond.methodLink RX5 80 yX5_needBin ∈ m_ws := m_ws_in (List.mem_append_right _ (List.mem_of_getElem? (i := 237) (by decide +kernel))) rfl
theorem lk_X5_80 : m_LK RX5 80 M_X5_needBin := Or.inl ll_X5_80
theorem ll_X5_89 : Cond.methodLink RX5 89 yX2_store ∈ m_ws := m_ws_in (List.mem_append_right _ (List.mem_of_getElem? (i := 350) (by decide +kernel))) rfl
theorem lk_X5_89 : m_LK RX5 89 M_X2_store := Or.inl ll_X5_89
theorem fl_X5_93 : m_FL RX5 93 0 0 := ⟨RX0, TX0, 4, rfl, by decide, Or.inr ⟨"BatchDoser", m_nw_in (List.mem_append_right _ (List.mem_of_getElem? (i := 80) (by decide +kernel))) rfl⟩⟩
theorem ll_X5_99 : Cond.methodLink RX5 99 yX5_at ∈ m_ws := m_ws_in (List.mem_append_right _ (List.mem_of_getElem? (i := 499) (by decide +kernel))) rfl
theorem lk_X5_99 : m_LK RX5 99 M_X5_at := Or.inl ll_X5_99
theorem ll_X5_103 : Cond.methodLink RX5 103 yX5_put ∈ m_ws := m_ws_in (List.mem_append_right _ (List.mem_of_getElem? (i := 500) (by decide +kernel))) rfl
theorem lk_X5_103 : m_LK RX5 103 M_X5_put := Or.inl ll_X5_103
theorem fl_X5_107 : m_FL RX5 107 0 1 := ⟨RX0, TX0, 4, rfl, by decide, Or.inr ⟨"BatchDoser", m_nw_in (List.mem_append_right _ (List.mem_of_getElem? (i := 83) (by decide +kernel))) rfl⟩⟩
theorem ll_X5_110 : Cond.methodLink RX5 110 yX1_gateOf ∈ m_ws := m_ws_in (List.mem_append_right _ (List.mem_of_getElem? (i := 622) (by decide +kernel))) rfl
theorem lk_X5_110 : m_LK RX5 110 M_X1_gateOf := Or.inl ll_X5_110
theorem ll_X5_114 : Cond.methodLink RX5 114 yX2_leftIn ∈ m_ws := m_ws_in (List.mem_append_right _ (List.mem_of_getElem? (i := 646) (by decide +kernel))) rfl
theorem lk_X5_114 : m_LK RX5 114 M_X2_leftIn := Or.inl ll_X5_114
theorem fl_X5_117 : m_FL RX5 117 0 2 := ⟨RX0, TX0, 4, rfl, by decide, Or.inr ⟨"BatchDoser", m_nw_in (List.mem_append_right _ (List.mem_of_getElem? (i := 85) (by decide +kernel))) rfl⟩⟩
theorem fl_X5_123 : m_FL RX5 123 0 3 := ⟨RX0, TX0, 4, rfl, by decide, Or.inr ⟨"BatchDoser", m_nw_in (List.mem_append_right _ (List.mem_of_getElem? (i := 88) (by decide +kernel))) rfl⟩⟩
theorem ll_X5_120 : Cond.methodLink RX5 120 yX2_goneFrom ∈ m_ws := m_ws_in (List.mem_append_right _ (List.mem_of_getElem? (i := 638) (by decide +kernel))) rfl
theorem lk_X5_120 : m_LK RX5 120 M_X2_goneFrom := Or.inl ll_X5_120
theorem fl_X5_129 : m_FL RX5 129 2 2 := ⟨RX2, TX2, 5, rfl, by decide, Or.inr ⟨"BatchDoser", m_nw_in (List.mem_append_right _ (List.mem_of_getElem? (i := 109) (by decide +kernel))) rfl⟩⟩
theorem ll_X5_126 : Cond.methodLink RX5 126 yX5_needLot ∈ m_ws := m_ws_in (List.mem_append_right _ (List.mem_of_getElem? (i := 654) (by decide +kernel))) rfl
theorem lk_X5_126 : m_LK RX5 126 M_X5_needLot := Or.inl ll_X5_126
theorem fl_X5_132 : m_FL RX5 132 1 14 := ⟨RX1, TX1, 16, rfl, by decide, Or.inr ⟨"BatchDoser", m_nw_in (List.mem_append_right _ (List.mem_of_getElem? (i := 172) (by decide +kernel))) rfl⟩⟩
theorem ll_X5_135 : Cond.methodLink RX5 135 yX2_firstBatchOf ∈ m_ws := m_ws_in (List.mem_append_right _ (List.mem_of_getElem? (i := 663) (by decide +kernel))) rfl
theorem lk_X5_135 : m_LK RX5 135 M_X2_firstBatchOf := Or.inl ll_X5_135
theorem ll_X5_138 : Cond.methodLink RX5 138 yX5_needBatch ∈ m_ws := m_ws_in (List.mem_append_right _ (List.mem_of_getElem? (i := 675) (by decide +kernel))) rfl
theorem lk_X5_138 : m_LK RX5 138 M_X5_needBatch := Or.inl ll_X5_138
theorem ll_X5_141 : Cond.methodLink RX5 141 yX2_usedFor ∈ m_ws := m_ws_in (List.mem_append_right _ (List.mem_of_getElem? (i := 680) (by decide +kernel))) rfl
theorem lk_X5_141 : m_LK RX5 141 M_X2_usedFor := Or.inl ll_X5_141
theorem fl_X5_144 : m_FL RX5 144 3 3 := ⟨RX3, TX3, 4, rfl, by decide, Or.inr ⟨"BatchDoser", m_nw_in (List.mem_append_right _ (List.mem_of_getElem? (i := 138) (by decide +kernel))) rfl⟩⟩
theorem ll_X5_147 : Cond.methodLink RX5 147 yX3_append ∈ m_ws := m_ws_in (List.mem_append_right _ (List.mem_of_getElem? (i := 361) (by decide +kernel))) rfl
theorem lk_X5_147 : m_LK RX5 147 M_X3_append := Or.inl ll_X5_147
theorem ll_X5_151 : Cond.methodLink RX5 151 yX1_startBatch ∈ m_ws := m_ws_in (List.mem_append_right _ (List.mem_of_getElem? (i := 508) (by decide +kernel))) rfl
theorem lk_X5_151 : m_LK RX5 151 M_X1_startBatch := Or.inl ll_X5_151
theorem fl_X5_157 : m_FL RX5 157 1 6 := ⟨RX1, TX1, 16, rfl, by decide, Or.inr ⟨"BatchDoser", m_nw_in (List.mem_append_right _ (List.mem_of_getElem? (i := 161) (by decide +kernel))) rfl⟩⟩
theorem ll_X5_154 : Cond.methodLink RX5 154 yX1_halt ∈ m_ws := m_ws_in (List.mem_append_right _ (List.mem_of_getElem? (i := 388) (by decide +kernel))) rfl
theorem lk_X5_154 : m_LK RX5 154 M_X1_halt := Or.inl ll_X5_154
theorem ll_X5_160 : Cond.methodLink RX5 160 yX1_goOn ∈ m_ws := m_ws_in (List.mem_append_right _ (List.mem_of_getElem? (i := 415) (by decide +kernel))) rfl
theorem lk_X5_160 : m_LK RX5 160 M_X1_goOn := Or.inl ll_X5_160
theorem ll_X5_163 : Cond.methodLink RX5 163 yX1_breakOff ∈ m_ws := m_ws_in (List.mem_append_right _ (List.mem_of_getElem? (i := 471) (by decide +kernel))) rfl
theorem lk_X5_163 : m_LK RX5 163 M_X1_breakOff := Or.inl ll_X5_163
theorem fl_X5_166 : m_FL RX5 166 1 5 := ⟨RX1, TX1, 16, rfl, by decide, Or.inr ⟨"BatchDoser", m_nw_in (List.mem_append_right _ (List.mem_of_getElem? (i := 159) (by decide +kernel))) rfl⟩⟩
theorem fl_X5_169 : m_FL RX5 169 1 9 := ⟨RX1, TX1, 16, rfl, by decide, Or.inr ⟨"BatchDoser", m_nw_in (List.mem_append_right _ (List.mem_of_getElem? (i := 165) (by decide +kernel))) rfl⟩⟩
theorem fl_X5_172 : m_FL RX5 172 1 10 := ⟨RX1, TX1, 16, rfl, by decide, Or.inr ⟨"BatchDoser", m_nw_in (List.mem_append_right _ (List.mem_of_getElem? (i := 167) (by decide +kernel))) rfl⟩⟩
theorem fl_X5_175 : m_FL RX5 175 1 15 := ⟨RX1, TX1, 16, rfl, by decide, Or.inr ⟨"BatchDoser", m_nw_in (List.mem_append_right _ (List.mem_of_getElem? (i := 174) (by decide +kernel))) rfl⟩⟩
theorem fl_X5_178 : m_FL RX5 178 5 5 := ⟨RX5, TX5, 6, rfl, by decide, Or.inl (m_ws_in (List.mem_append_right _ (List.mem_of_getElem? (i := 213) (by decide +kernel))) rfl)⟩
theorem fw_X5_178 : ∀ (C : String) (T : u_T) (N : Nat), m_cl[5]? = some (C, T, N) → Cond.fieldLink RX5 178 (T 5).1 (T 5).2.1 (T 5).2.2.1 ∈ m_ws := fun C T N h => by cases h; exact m_ws_in (List.mem_append_right _ (List.mem_of_getElem? (i := 213) (by decide +kernel))) rfl
theorem fp_X5_5 : m_FP 5 5 (.long) := ⟨RX5, TX5, 6, rfl, rfl, by decide +kernel⟩
theorem cs_X5_83 : Cond.constant RX5 83 (100000) ∈ m_ws := m_ws_in (List.mem_append_right _ (List.mem_of_getElem? (i := 311) (by decide +kernel))) rfl
theorem cs_X5_182 : Cond.constantLong RX5 182 (1000) ∈ m_ws := m_ws_in (List.mem_append_right _ (List.mem_of_getElem? (i := 370) (by decide +kernel))) rfl
theorem aw_int : Cond.arrayClass .int ∈ m_ws := m_ws_in (by decide +kernel) rfl
theorem xc_X5_184 : Cond.classLink RX5 184 "java/lang/IndexOutOfBoundsException" ∈ m_ws := m_ws_in (List.mem_append_right _ (List.mem_of_getElem? (i := 243) (by decide +kernel))) rfl
theorem xi_X5_184 : Cond.initialized "java/lang/IndexOutOfBoundsException" ∈ m_ws := m_ws_in (List.mem_append_right _ (List.mem_of_getElem? (i := 10) (by decide +kernel))) rfl
theorem xw_X5_188 : ∀ w ∈ vx_atS RX5 188 "java/lang/IndexOutOfBoundsException" ["java/lang/RuntimeException", "java/lang/Exception"], w ∈ m_ws ∨ w ∈ m_nw := by
  have h : ∀ w ∈ vx_atS RX5 188 "java/lang/IndexOutOfBoundsException" ["java/lang/RuntimeException", "java/lang/Exception"], w ∈ lw_tbl ∧ (goodWord w || m_isN w) = true := by decide +kernel
  intro w hw
  obtain ⟨h1, h2⟩ := h w hw
  rcases Bool.or_eq_true _ _ |>.mp h2 with h2 | h2
  · exact Or.inl (m_ws_in h1 h2)
  · exact Or.inr (m_nw_in h1 h2)
theorem xc_X5_195 : Cond.classLink RX5 195 "java/lang/IllegalArgumentException" ∈ m_ws := m_ws_in (List.mem_append_right _ (List.mem_of_getElem? (i := 315) (by decide +kernel))) rfl
theorem xi_X5_195 : Cond.initialized "java/lang/IllegalArgumentException" ∈ m_ws := m_ws_in (List.mem_append_right _ (List.mem_of_getElem? (i := 11) (by decide +kernel))) rfl
theorem xw_X5_199 : ∀ w ∈ vx_atS RX5 199 "java/lang/IllegalArgumentException" ["java/lang/RuntimeException", "java/lang/Exception"], w ∈ m_ws ∨ w ∈ m_nw := by
  have h : ∀ w ∈ vx_atS RX5 199 "java/lang/IllegalArgumentException" ["java/lang/RuntimeException", "java/lang/Exception"], w ∈ lw_tbl ∧ (goodWord w || m_isN w) = true := by decide +kernel
  intro w hw
  obtain ⟨h1, h2⟩ := h w hw
  rcases Bool.or_eq_true _ _ |>.mp h2 with h2 | h2
  · exact Or.inl (m_ws_in h1 h2)
  · exact Or.inr (m_nw_in h1 h2)
theorem xc_X5_200 : Cond.classLink RX5 200 "java/lang/IllegalStateException" ∈ m_ws := m_ws_in (List.mem_append_right _ (List.mem_of_getElem? (i := 334) (by decide +kernel))) rfl
theorem xi_X5_200 : Cond.initialized "java/lang/IllegalStateException" ∈ m_ws := m_ws_in (List.mem_append_right _ (List.mem_of_getElem? (i := 12) (by decide +kernel))) rfl
theorem xw_X5_204 : ∀ w ∈ vx_atS RX5 204 "java/lang/IllegalStateException" ["java/lang/RuntimeException", "java/lang/Exception"], w ∈ m_ws ∨ w ∈ m_nw := by
  have h : ∀ w ∈ vx_atS RX5 204 "java/lang/IllegalStateException" ["java/lang/RuntimeException", "java/lang/Exception"], w ∈ lw_tbl ∧ (goodWord w || m_isN w) = true := by decide +kernel
  intro w hw
  obtain ⟨h1, h2⟩ := h w hw
  rcases Bool.or_eq_true _ _ |>.mp h2 with h2 | h2
  · exact Or.inl (m_ws_in h1 h2)
  · exact Or.inr (m_nw_in h1 h2)
theorem nc_X1_9 : Cond.classLink RX1 9 RX4 ∈ m_ws := m_ws_in (List.mem_append_right _ (List.mem_of_getElem? (i := 37) (by decide +kernel))) rfl
theorem ni_X4 : Cond.instantiable RX4 8 ∈ m_ws := m_ws_in (List.mem_append_right _ (List.mem_of_getElem? (i := 38) (by decide +kernel))) rfl
theorem nn_X4 : Cond.initialized RX4 ∈ m_ws := m_ws_in (List.mem_append_right _ (List.mem_of_getElem? (i := 3) (by decide +kernel))) rfl
theorem nc_X1_18 : Cond.classLink RX1 18 RX0 ∈ m_ws := m_ws_in (List.mem_append_right _ (List.mem_of_getElem? (i := 72) (by decide +kernel))) rfl
theorem ni_X0 : Cond.instantiable RX0 4 ∈ m_ws := m_ws_in (List.mem_append_right _ (List.mem_of_getElem? (i := 73) (by decide +kernel))) rfl
theorem nn_X0 : Cond.initialized RX0 ∈ m_ws := m_ws_in (List.mem_append_right _ (List.mem_of_getElem? (i := 4) (by decide +kernel))) rfl
theorem nc_X1_25 : Cond.classLink RX1 25 RX2 ∈ m_ws := m_ws_in (List.mem_append_right _ (List.mem_of_getElem? (i := 100) (by decide +kernel))) rfl
theorem ni_X2 : Cond.instantiable RX2 5 ∈ m_ws := m_ws_in (List.mem_append_right _ (List.mem_of_getElem? (i := 101) (by decide +kernel))) rfl
theorem nn_X2 : Cond.initialized RX2 ∈ m_ws := m_ws_in (List.mem_append_right _ (List.mem_of_getElem? (i := 5) (by decide +kernel))) rfl
theorem nc_X1_32 : Cond.classLink RX1 32 RX3 ∈ m_ws := m_ws_in (List.mem_append_right _ (List.mem_of_getElem? (i := 124) (by decide +kernel))) rfl
theorem ni_X3 : Cond.instantiable RX3 4 ∈ m_ws := m_ws_in (List.mem_append_right _ (List.mem_of_getElem? (i := 125) (by decide +kernel))) rfl
theorem nn_X3 : Cond.initialized RX3 ∈ m_ws := m_ws_in (List.mem_append_right _ (List.mem_of_getElem? (i := 6) (by decide +kernel))) rfl
theorem nc_X5_7 : Cond.classLink RX5 7 RX1 ∈ m_ws := m_ws_in (List.mem_append_right _ (List.mem_of_getElem? (i := 31) (by decide +kernel))) rfl
theorem ni_X1 : Cond.instantiable RX1 16 ∈ m_ws := m_ws_in (List.mem_append_right _ (List.mem_of_getElem? (i := 32) (by decide +kernel))) rfl
theorem nn_X1 : Cond.initialized RX1 ∈ m_ws := m_ws_in (List.mem_append_right _ (List.mem_of_getElem? (i := 2) (by decide +kernel))) rfl
theorem ni_X5 : Cond.instantiable RX5 6 ∈ m_ws := m_ws_in (List.mem_append_right _ (List.mem_of_getElem? (i := 24) (by decide +kernel))) rfl
theorem nn_X5 : Cond.initialized RX5 ∈ m_ws := m_ws_in (List.mem_append_right _ (List.mem_of_getElem? (i := 1) (by decide +kernel))) rfl
end
section
abbrev M_L_from : m_M := (yL_from, cL_from, 4, (some .int), 0, 0, 0)
theorem mk_L_from : m_MK M_L_from 3 := ⟨m_ws_in (List.mem_append_right _ (List.mem_of_getElem? (i := 229) (by decide +kernel))) rfl, m_ws_in (List.mem_append_right _ (List.mem_of_getElem? (i := 0) (by decide +kernel))) rfl, by decide +kernel⟩
theorem st_L_from : Cond.static yL_from ∈ m_ws := m_ws_in (List.mem_append_right _ (List.mem_of_getElem? (i := 228) (by decide +kernel))) rfl
abbrev M_L_isSettled : m_M := (yL_isSettled, cL_isSettled, 4, (some .boolean), 0, 0, 0)
theorem mk_L_isSettled : m_MK M_L_isSettled 1 := ⟨m_ws_in (List.mem_append_right _ (List.mem_of_getElem? (i := 477) (by decide +kernel))) rfl, m_ws_in (List.mem_append_right _ (List.mem_of_getElem? (i := 0) (by decide +kernel))) rfl, by decide +kernel⟩
theorem st_L_isSettled : Cond.static yL_isSettled ∈ m_ws := m_ws_in (List.mem_append_right _ (List.mem_of_getElem? (i := 476) (by decide +kernel))) rfl
abbrev M_L_net : m_M := (yL_net, cL_net, 1, (some .int), 0, 0, 0)
theorem mk_L_net : m_MK M_L_net 1 := ⟨m_ws_in (List.mem_append_right _ (List.mem_of_getElem? (i := 404) (by decide +kernel))) rfl, m_ws_in (List.mem_append_right _ (List.mem_of_getElem? (i := 0) (by decide +kernel))) rfl, by decide +kernel⟩
theorem st_L_net : Cond.static yL_net ∈ m_ws := m_ws_in (List.mem_append_right _ (List.mem_of_getElem? (i := 403) (by decide +kernel))) rfl
abbrev M_L_turn : m_M := (yL_turn, cL_turn, 2, none, 0, 0, 0)
theorem mk_L_turn : m_MK M_L_turn 2 := ⟨m_ws_in (List.mem_append_right _ (List.mem_of_getElem? (i := 380) (by decide +kernel))) rfl, m_ws_in (List.mem_append_right _ (List.mem_of_getElem? (i := 0) (by decide +kernel))) rfl, by decide +kernel⟩
theorem st_L_turn : Cond.static yL_turn ∈ m_ws := m_ws_in (List.mem_append_right _ (List.mem_of_getElem? (i := 379) (by decide +kernel))) rfl
abbrev M_L_stop : m_M := (yL_stop, cL_stop, 2, none, 1, 0, 0)
theorem mk_L_stop : m_MK M_L_stop 2 := ⟨m_ws_in (List.mem_append_right _ (List.mem_of_getElem? (i := 377) (by decide +kernel))) rfl, m_ws_in (List.mem_append_right _ (List.mem_of_getElem? (i := 0) (by decide +kernel))) rfl, by decide +kernel⟩
theorem st_L_stop : Cond.static yL_stop ∈ m_ws := m_ws_in (List.mem_append_right _ (List.mem_of_getElem? (i := 376) (by decide +kernel))) rfl
abbrev M_L_book : m_M := (yL_book, cL_book, 12, (some .int), 1, 0, 0)
theorem mk_L_book : m_MK M_L_book 7 := ⟨m_ws_in (List.mem_append_right _ (List.mem_of_getElem? (i := 401) (by decide +kernel))) rfl, m_ws_in (List.mem_append_right _ (List.mem_of_getElem? (i := 0) (by decide +kernel))) rfl, by decide +kernel⟩
theorem st_L_book : Cond.static yL_book ∈ m_ws := m_ws_in (List.mem_append_right _ (List.mem_of_getElem? (i := 400) (by decide +kernel))) rfl
abbrev M_L_next : m_M := (yL_next, cL_next, 3, none, 1, 0, 0)
theorem mk_L_next : m_MK M_L_next 2 := ⟨m_ws_in (List.mem_append_right _ (List.mem_of_getElem? (i := 407) (by decide +kernel))) rfl, m_ws_in (List.mem_append_right _ (List.mem_of_getElem? (i := 0) (by decide +kernel))) rfl, by decide +kernel⟩
theorem st_L_next : Cond.static yL_next ∈ m_ws := m_ws_in (List.mem_append_right _ (List.mem_of_getElem? (i := 406) (by decide +kernel))) rfl
abbrev M_L_end : m_M := (yL_end, cL_end, 8, none, 2, 0, 0)
theorem mk_L_end : m_MK M_L_end 7 := ⟨m_ws_in (List.mem_append_right _ (List.mem_of_getElem? (i := 398) (by decide +kernel))) rfl, m_ws_in (List.mem_append_right _ (List.mem_of_getElem? (i := 0) (by decide +kernel))) rfl, by decide +kernel⟩
theorem st_L_end : Cond.static yL_end ∈ m_ws := m_ws_in (List.mem_append_right _ (List.mem_of_getElem? (i := 397) (by decide +kernel))) rfl
abbrev M_L_weigh : m_M := (yL_weigh, cL_weigh, 10, none, 3, 0, 0)
theorem mk_L_weigh : m_MK M_L_weigh 7 := ⟨m_ws_in (List.mem_append_right _ (List.mem_of_getElem? (i := 517) (by decide +kernel))) rfl, m_ws_in (List.mem_append_right _ (List.mem_of_getElem? (i := 0) (by decide +kernel))) rfl, by decide +kernel⟩
theorem st_L_weigh : Cond.static yL_weigh ∈ m_ws := m_ws_in (List.mem_append_right _ (List.mem_of_getElem? (i := 516) (by decide +kernel))) rfl
abbrev M_L_bring : m_M := (yL_bring, cL_bring, 16, none, 4, 0, 0)
theorem mk_L_bring : m_MK M_L_bring 8 := ⟨m_ws_in (List.mem_append_right _ (List.mem_of_getElem? (i := 514) (by decide +kernel))) rfl, m_ws_in (List.mem_append_right _ (List.mem_of_getElem? (i := 0) (by decide +kernel))) rfl, by decide +kernel⟩
theorem st_L_bring : Cond.static yL_bring ∈ m_ws := m_ws_in (List.mem_append_right _ (List.mem_of_getElem? (i := 513) (by decide +kernel))) rfl
abbrev M_L_isTold : m_M := (yL_isTold, cL_isTold, 13, (some .boolean), 8, 0, 0)
theorem mk_L_isTold : m_MK M_L_isTold 8 := ⟨m_ws_in (List.mem_append_right _ (List.mem_of_getElem? (i := 579) (by decide +kernel))) rfl, m_ws_in (List.mem_append_right _ (List.mem_of_getElem? (i := 0) (by decide +kernel))) rfl, by decide +kernel⟩
abbrev Mx_L_isTold : m_M := (yL_isTold, cL_isTold, 13, (some .boolean), 8, 1, 6)
theorem mkx_L_isTold : m_MK Mx_L_isTold 8 := mk_L_isTold
theorem st_L_isTold : Cond.static yL_isTold ∈ m_ws := m_ws_in (List.mem_append_right _ (List.mem_of_getElem? (i := 578) (by decide +kernel))) rfl
abbrev M_L_resumed : m_M := (yL_resumed, cL_resumed, 2, (some .int), 8, 1, 6)
abbrev H_L_resumed : List (Nat × Nat × Nat × Nat) := [(0, 4, 5, 98)]
theorem mk_L_resumed : m_MKH M_L_resumed H_L_resumed 1 := ⟨m_ws_in (List.mem_append_right _ (List.mem_of_getElem? (i := 410) (by decide +kernel))) rfl, m_ws_in (List.mem_append_right _ (List.mem_of_getElem? (i := 0) (by decide +kernel))) rfl, by decide +kernel⟩
theorem st_L_resumed : Cond.static yL_resumed ∈ m_ws := m_ws_in (List.mem_append_right _ (List.mem_of_getElem? (i := 409) (by decide +kernel))) rfl
abbrev M_L_held : m_M := (yL_held, cL_held, 2, (some .int), 8, 1, 6)
abbrev H_L_held : List (Nat × Nat × Nat × Nat) := [(0, 4, 5, 98)]
theorem mk_L_held : m_MKH M_L_held H_L_held 1 := ⟨m_ws_in (List.mem_append_right _ (List.mem_of_getElem? (i := 383) (by decide +kernel))) rfl, m_ws_in (List.mem_append_right _ (List.mem_of_getElem? (i := 0) (by decide +kernel))) rfl, by decide +kernel⟩
theorem st_L_held : Cond.static yL_held ∈ m_ws := m_ws_in (List.mem_append_right _ (List.mem_of_getElem? (i := 382) (by decide +kernel))) rfl
abbrev M_L_aborted : m_M := (yL_aborted, cL_aborted, 2, (some .int), 8, 1, 6)
abbrev H_L_aborted : List (Nat × Nat × Nat × Nat) := [(0, 4, 5, 98)]
theorem mk_L_aborted : m_MKH M_L_aborted H_L_aborted 1 := ⟨m_ws_in (List.mem_append_right _ (List.mem_of_getElem? (i := 466) (by decide +kernel))) rfl, m_ws_in (List.mem_append_right _ (List.mem_of_getElem? (i := 0) (by decide +kernel))) rfl, by decide +kernel⟩
theorem st_L_aborted : Cond.static yL_aborted ∈ m_ws := m_ws_in (List.mem_append_right _ (List.mem_of_getElem? (i := 465) (by decide +kernel))) rfl
abbrev M_L_started : m_M := (yL_started, cL_started, 2, (some .int), 8, 1, 6)
abbrev H_L_started : List (Nat × Nat × Nat × Nat) := [(0, 4, 5, 98)]
theorem mk_L_started : m_MKH M_L_started H_L_started 1 := ⟨m_ws_in (List.mem_append_right _ (List.mem_of_getElem? (i := 503) (by decide +kernel))) rfl, m_ws_in (List.mem_append_right _ (List.mem_of_getElem? (i := 0) (by decide +kernel))) rfl, by decide +kernel⟩
theorem st_L_started : Cond.static yL_started ∈ m_ws := m_ws_in (List.mem_append_right _ (List.mem_of_getElem? (i := 502) (by decide +kernel))) rfl
abbrev M_L_zeroed : m_M := (yL_zeroed, cL_zeroed, 2, (some .int), 8, 1, 6)
abbrev H_L_zeroed : List (Nat × Nat × Nat × Nat) := [(0, 4, 5, 98)]
theorem mk_L_zeroed : m_MKH M_L_zeroed H_L_zeroed 1 := ⟨m_ws_in (List.mem_append_right _ (List.mem_of_getElem? (i := 480) (by decide +kernel))) rfl, m_ws_in (List.mem_append_right _ (List.mem_of_getElem? (i := 0) (by decide +kernel))) rfl, by decide +kernel⟩
theorem st_L_zeroed : Cond.static yL_zeroed ∈ m_ws := m_ws_in (List.mem_append_right _ (List.mem_of_getElem? (i := 479) (by decide +kernel))) rfl
abbrev M_L_acts : m_M := (yL_acts, cL_acts, 12, (some .boolean), 9, 1, 6)
theorem mk_L_acts : m_MK M_L_acts 10 := ⟨m_ws_in (List.mem_append_right _ (List.mem_of_getElem? (i := 374) (by decide +kernel))) rfl, m_ws_in (List.mem_append_right _ (List.mem_of_getElem? (i := 0) (by decide +kernel))) rfl, by decide +kernel⟩
abbrev Mx_L_acts : m_M := (yL_acts, cL_acts, 12, (some .boolean), 9, 1, 6)
theorem mkx_L_acts : m_MK Mx_L_acts 10 := mk_L_acts
theorem st_L_acts : Cond.static yL_acts ∈ m_ws := m_ws_in (List.mem_append_right _ (List.mem_of_getElem? (i := 373) (by decide +kernel))) rfl
abbrev M_L_holds : m_M := (yL_holds, cL_holds, 19, (some .boolean), 10, 263, 2361)
theorem mk_L_holds : m_MK M_L_holds 1 := ⟨m_ws_in (List.mem_append_right _ (List.mem_of_getElem? (i := 22) rfl)) rfl, m_ws_in (List.mem_append_right _ (List.mem_of_getElem? (i := 0) (by decide +kernel))) rfl, by decide +kernel⟩
abbrev Mx_L_holds : m_M := (yL_holds, cL_holds, 19, (some .boolean), 10, 1, 6)
theorem mkx_L_holds : m_MK Mx_L_holds 1 := mk_L_holds
theorem st_L_holds : Cond.static yL_holds ∈ m_ws := m_ws_in (List.mem_append_right _ (List.mem_of_getElem? (i := 21) (by decide +kernel))) rfl
abbrev M_L_isHeld : m_M := (yL_isHeld, cL_isHeld, 2, (some .boolean), 12, 263, 2361)
abbrev H_L_isHeld : List (Nat × Nat × Nat × Nat) := [(0, 4, 5, 174), (0, 4, 8, 176), (0, 4, 11, 98)]
theorem mk_L_isHeld : m_MKH M_L_isHeld H_L_isHeld 1 := ⟨m_ws_in (List.mem_append_right _ (List.mem_of_getElem? (i := 16) (by decide +kernel))) rfl, m_ws_in (List.mem_append_right _ (List.mem_of_getElem? (i := 0) (by decide +kernel))) rfl, by decide +kernel⟩
theorem st_L_isHeld : Cond.static yL_isHeld ∈ m_ws := m_ws_in (List.mem_append_right _ (List.mem_of_getElem? (i := 15) (by decide +kernel))) rfl
theorem ll_L_9 : Cond.methodLink RL 9 yL_turn ∈ m_ws := m_ws_in (List.mem_append_right _ (List.mem_of_getElem? (i := 378) (by decide +kernel))) rfl
theorem lk_L_9 : m_LK RL 9 M_L_turn := Or.inl ll_L_9
theorem ll_L_15 : Cond.methodLink RL 15 yL_net ∈ m_ws := m_ws_in (List.mem_append_right _ (List.mem_of_getElem? (i := 402) (by decide +kernel))) rfl
theorem lk_L_15 : m_LK RL 15 M_L_net := Or.inl ll_L_15
theorem ll_L_19 : Cond.methodLink RL 19 yL_book ∈ m_ws := m_ws_in (List.mem_append_right _ (List.mem_of_getElem? (i := 399) (by decide +kernel))) rfl
theorem lk_L_19 : m_LK RL 19 M_L_book := Or.inl ll_L_19
theorem ll_L_23 : Cond.methodLink RL 23 yL_next ∈ m_ws := m_ws_in (List.mem_append_right _ (List.mem_of_getElem? (i := 405) (by decide +kernel))) rfl
theorem lk_L_23 : m_LK RL 23 M_L_next := Or.inl ll_L_23
theorem ll_L_26 : Cond.methodLink RL 26 yL_stop ∈ m_ws := m_ws_in (List.mem_append_right _ (List.mem_of_getElem? (i := 375) (by decide +kernel))) rfl
theorem lk_L_26 : m_LK RL 26 M_L_stop := Or.inl ll_L_26
theorem ll_L_29 : Cond.methodLink RL 29 yL_end ∈ m_ws := m_ws_in (List.mem_append_right _ (List.mem_of_getElem? (i := 396) (by decide +kernel))) rfl
theorem lk_L_29 : m_LK RL 29 M_L_end := Or.inl ll_L_29
theorem ll_L_33 : Cond.methodLink RL 33 yL_isSettled ∈ m_ws := m_ws_in (List.mem_append_right _ (List.mem_of_getElem? (i := 475) (by decide +kernel))) rfl
theorem lk_L_33 : m_LK RL 33 M_L_isSettled := Or.inl ll_L_33
theorem ll_L_37 : Cond.methodLink RL 37 yL_weigh ∈ m_ws := m_ws_in (List.mem_append_right _ (List.mem_of_getElem? (i := 515) (by decide +kernel))) rfl
theorem lk_L_37 : m_LK RL 37 M_L_weigh := Or.inl ll_L_37
theorem ll_L_40 : Cond.methodLink RL 40 yX5_gross ∈ m_ws := m_ws_in (List.mem_append_right _ (List.mem_of_getElem? (i := 580) (by decide +kernel))) rfl
theorem lk_L_40 : m_LK RL 40 M_X5_gross := Or.inl ll_L_40
theorem ll_L_46 : Cond.methodLink RL 46 yX5_net ∈ m_ws := m_ws_in (List.mem_append_right _ (List.mem_of_getElem? (i := 585) (by decide +kernel))) rfl
theorem lk_L_46 : m_LK RL 46 M_X5_net := Or.inl ll_L_46
theorem ll_L_48 : Cond.methodLink RL 48 yX5_isSettled ∈ m_ws := m_ws_in (List.mem_append_right _ (List.mem_of_getElem? (i := 590) (by decide +kernel))) rfl
theorem lk_L_48 : m_LK RL 48 M_X5_isSettled := Or.inl ll_L_48
theorem ll_L_51 : Cond.methodLink RL 51 yX5_state ∈ m_ws := m_ws_in (List.mem_append_right _ (List.mem_of_getElem? (i := 594) (by decide +kernel))) rfl
theorem lk_L_51 : m_LK RL 51 M_X5_state := Or.inl ll_L_51
theorem ll_L_54 : Cond.methodLink RL 54 yX5_alarm ∈ m_ws := m_ws_in (List.mem_append_right _ (List.mem_of_getElem? (i := 598) (by decide +kernel))) rfl
theorem lk_L_54 : m_LK RL 54 M_X5_alarm := Or.inl ll_L_54
theorem ll_L_57 : Cond.methodLink RL 57 yX5_step ∈ m_ws := m_ws_in (List.mem_append_right _ (List.mem_of_getElem? (i := 602) (by decide +kernel))) rfl
theorem lk_L_57 : m_LK RL 57 M_X5_step := Or.inl ll_L_57
theorem ll_L_60 : Cond.methodLink RL 60 yX5_jogs ∈ m_ws := m_ws_in (List.mem_append_right _ (List.mem_of_getElem? (i := 606) (by decide +kernel))) rfl
theorem lk_L_60 : m_LK RL 60 M_X5_jogs := Or.inl ll_L_60
theorem ll_L_63 : Cond.methodLink RL 63 yX5_batches ∈ m_ws := m_ws_in (List.mem_append_right _ (List.mem_of_getElem? (i := 610) (by decide +kernel))) rfl
theorem lk_L_63 : m_LK RL 63 M_X5_batches := Or.inl ll_L_63
theorem ll_L_66 : Cond.methodLink RL 66 yX5_done ∈ m_ws := m_ws_in (List.mem_append_right _ (List.mem_of_getElem? (i := 614) (by decide +kernel))) rfl
theorem lk_L_66 : m_LK RL 66 M_X5_done := Or.inl ll_L_66
theorem ll_L_69 : Cond.methodLink RL 69 yX5_gate ∈ m_ws := m_ws_in (List.mem_append_right _ (List.mem_of_getElem? (i := 618) (by decide +kernel))) rfl
theorem lk_L_69 : m_LK RL 69 M_X5_gate := Or.inl ll_L_69
theorem ll_L_73 : Cond.methodLink RL 73 yX5_flight ∈ m_ws := m_ws_in (List.mem_append_right _ (List.mem_of_getElem? (i := 626) (by decide +kernel))) rfl
theorem lk_L_73 : m_LK RL 73 M_X5_flight := Or.inl ll_L_73
theorem ll_L_76 : Cond.methodLink RL 76 yX5_register ∈ m_ws := m_ws_in (List.mem_append_right _ (List.mem_of_getElem? (i := 630) (by decide +kernel))) rfl
theorem lk_L_76 : m_LK RL 76 M_X5_register := Or.inl ll_L_76
theorem ll_L_79 : Cond.methodLink RL 79 yX5_registerByLots ∈ m_ws := m_ws_in (List.mem_append_right _ (List.mem_of_getElem? (i := 634) (by decide +kernel))) rfl
theorem lk_L_79 : m_LK RL 79 M_X5_registerByLots := Or.inl ll_L_79
theorem ll_L_82 : Cond.methodLink RL 82 yX5_stock ∈ m_ws := m_ws_in (List.mem_append_right _ (List.mem_of_getElem? (i := 642) (by decide +kernel))) rfl
theorem lk_L_82 : m_LK RL 82 M_X5_stock := Or.inl ll_L_82
theorem ll_L_85 : Cond.methodLink RL 85 yX5_leftOf ∈ m_ws := m_ws_in (List.mem_append_right _ (List.mem_of_getElem? (i := 650) (by decide +kernel))) rfl
theorem lk_L_85 : m_LK RL 85 M_X5_leftOf := Or.inl ll_L_85
theorem ll_L_88 : Cond.methodLink RL 88 yX5_firstBatch ∈ m_ws := m_ws_in (List.mem_append_right _ (List.mem_of_getElem? (i := 659) (by decide +kernel))) rfl
theorem lk_L_88 : m_LK RL 88 M_X5_firstBatch := Or.inl ll_L_88
theorem ll_L_91 : Cond.methodLink RL 91 yX5_used ∈ m_ws := m_ws_in (List.mem_append_right _ (List.mem_of_getElem? (i := 671) (by decide +kernel))) rfl
theorem lk_L_91 : m_LK RL 91 M_X5_used := Or.inl ll_L_91
theorem ll_L_95 : Cond.methodLink RL 95 yX5_resume ∈ m_ws := m_ws_in (List.mem_append_right _ (List.mem_of_getElem? (i := 411) (by decide +kernel))) rfl
theorem lk_L_95 : m_LK RL 95 M_X5_resume := Or.inl ll_L_95
theorem ll_L_100 : Cond.methodLink RL 100 yX5_hold ∈ m_ws := m_ws_in (List.mem_append_right _ (List.mem_of_getElem? (i := 384) (by decide +kernel))) rfl
theorem lk_L_100 : m_LK RL 100 M_X5_hold := Or.inl ll_L_100
theorem ll_L_103 : Cond.methodLink RL 103 yX5_abort ∈ m_ws := m_ws_in (List.mem_append_right _ (List.mem_of_getElem? (i := 467) (by decide +kernel))) rfl
theorem lk_L_103 : m_LK RL 103 M_X5_abort := Or.inl ll_L_103
theorem ll_L_106 : Cond.methodLink RL 106 yX5_start ∈ m_ws := m_ws_in (List.mem_append_right _ (List.mem_of_getElem? (i := 504) (by decide +kernel))) rfl
theorem lk_L_106 : m_LK RL 106 M_X5_start := Or.inl ll_L_106
theorem ll_L_109 : Cond.methodLink RL 109 yX5_zero ∈ m_ws := m_ws_in (List.mem_append_right _ (List.mem_of_getElem? (i := 481) (by decide +kernel))) rfl
theorem lk_L_109 : m_LK RL 109 M_X5_zero := Or.inl ll_L_109
theorem ll_L_112 : Cond.methodLink RL 112 yL_held ∈ m_ws := m_ws_in (List.mem_append_right _ (List.mem_of_getElem? (i := 381) (by decide +kernel))) rfl
theorem lk_L_112 : m_LK RL 112 M_L_held := Or.inl ll_L_112
theorem ll_L_116 : Cond.methodLink RL 116 yL_resumed ∈ m_ws := m_ws_in (List.mem_append_right _ (List.mem_of_getElem? (i := 408) (by decide +kernel))) rfl
theorem lk_L_116 : m_LK RL 116 M_L_resumed := Or.inl ll_L_116
theorem ll_L_119 : Cond.methodLink RL 119 yL_aborted ∈ m_ws := m_ws_in (List.mem_append_right _ (List.mem_of_getElem? (i := 464) (by decide +kernel))) rfl
theorem lk_L_119 : m_LK RL 119 M_L_aborted := Or.inl ll_L_119
theorem ll_L_122 : Cond.methodLink RL 122 yL_zeroed ∈ m_ws := m_ws_in (List.mem_append_right _ (List.mem_of_getElem? (i := 478) (by decide +kernel))) rfl
theorem lk_L_122 : m_LK RL 122 M_L_zeroed := Or.inl ll_L_122
theorem ll_L_125 : Cond.methodLink RL 125 yX5_setBand ∈ m_ws := m_ws_in (List.mem_append_right _ (List.mem_of_getElem? (i := 491) (by decide +kernel))) rfl
theorem lk_L_125 : m_LK RL 125 M_X5_setBand := Or.inl ll_L_125
theorem ll_L_128 : Cond.methodLink RL 128 yX5_setMargin ∈ m_ws := m_ws_in (List.mem_append_right _ (List.mem_of_getElem? (i := 495) (by decide +kernel))) rfl
theorem lk_L_128 : m_LK RL 128 M_X5_setMargin := Or.inl ll_L_128
theorem ll_L_131 : Cond.methodLink RL 131 yL_started ∈ m_ws := m_ws_in (List.mem_append_right _ (List.mem_of_getElem? (i := 501) (by decide +kernel))) rfl
theorem lk_L_131 : m_LK RL 131 M_L_started := Or.inl ll_L_131
theorem ll_L_134 : Cond.methodLink RL 134 yX5_init ∈ m_ws := m_ws_in (List.mem_append_right _ (List.mem_of_getElem? (i := 25) (by decide +kernel))) rfl
theorem lk_L_134 : m_LK RL 134 M_X5_init := Or.inl ll_L_134
theorem ll_L_135 : Cond.methodLink RL 135 yL_from ∈ m_ws := m_ws_in (List.mem_append_right _ (List.mem_of_getElem? (i := 227) (by decide +kernel))) rfl
theorem lk_L_135 : m_LK RL 135 M_L_from := Or.inl ll_L_135
theorem ll_L_140 : Cond.methodLink RL 140 yX5_fill ∈ m_ws := m_ws_in (List.mem_append_right _ (List.mem_of_getElem? (i := 233) (by decide +kernel))) rfl
theorem lk_L_140 : m_LK RL 140 M_X5_fill := Or.inl ll_L_140
theorem ll_L_143 : Cond.methodLink RL 143 yX5_addStep ∈ m_ws := m_ws_in (List.mem_append_right _ (List.mem_of_getElem? (i := 357) (by decide +kernel))) rfl
theorem lk_L_143 : m_LK RL 143 M_X5_addStep := Or.inl ll_L_143
theorem ll_L_147 : Cond.methodLink RL 147 yX5_belt ∈ m_ws := m_ws_in (List.mem_append_right _ (List.mem_of_getElem? (i := 366) (by decide +kernel))) rfl
theorem lk_L_147 : m_LK RL 147 M_X5_belt := Or.inl ll_L_147
theorem ll_L_153 : Cond.methodLink RL 153 yL_acts ∈ m_ws := m_ws_in (List.mem_append_right _ (List.mem_of_getElem? (i := 372) (by decide +kernel))) rfl
theorem lk_L_153 : m_LK RL 153 M_L_acts := Or.inl ll_L_153
theorem ll_L_157 : Cond.methodLink RL 157 yL_bring ∈ m_ws := m_ws_in (List.mem_append_right _ (List.mem_of_getElem? (i := 512) (by decide +kernel))) rfl
theorem lk_L_157 : m_LK RL 157 M_L_bring := Or.inl ll_L_157
theorem ll_L_161 : Cond.methodLink RL 161 yX5_tick ∈ m_ws := m_ws_in (List.mem_append_right _ (List.mem_of_getElem? (i := 518) (by decide +kernel))) rfl
theorem lk_L_161 : m_LK RL 161 M_X5_tick := Or.inl ll_L_161
theorem ll_L_164 : Cond.methodLink RL 164 yX5_ticks ∈ m_ws := m_ws_in (List.mem_append_right _ (List.mem_of_getElem? (i := 573) (by decide +kernel))) rfl
theorem lk_L_164 : m_LK RL 164 M_X5_ticks := Or.inl ll_L_164
theorem ll_L_167 : Cond.methodLink RL 167 yL_isTold ∈ m_ws := m_ws_in (List.mem_append_right _ (List.mem_of_getElem? (i := 577) (by decide +kernel))) rfl
theorem lk_L_167 : m_LK RL 167 M_L_isTold := Or.inl ll_L_167
theorem ll_L_171 : Cond.methodLink RL 171 yL_holds ∈ m_ws := m_ws_in (List.mem_append_right _ (List.mem_of_getElem? (i := 20) (by decide +kernel))) rfl
theorem lk_L_171 : m_LK RL 171 M_L_holds := Or.inl ll_L_171
theorem ll_L_178 : Cond.methodLink RL 178 yL_isHeld ∈ m_ws := m_ws_in (List.mem_append_right _ (List.mem_of_getElem? (i := 14) (by decide +kernel))) rfl
theorem lk_L_178 : m_LK RL 178 M_L_isHeld := Or.inl ll_L_178
theorem cs_L_7 : Cond.constant RL 7 (107377) ∈ m_ws := m_ws_in (List.mem_append_right _ (List.mem_of_getElem? (i := 230) (by decide +kernel))) rfl
theorem cs_L_8 : Cond.constant RL 8 (2147483647) ∈ m_ws := m_ws_in (List.mem_append_right _ (List.mem_of_getElem? (i := 231) (by decide +kernel))) rfl
theorem cs_L_139 : Cond.constant RL 139 (100000) ∈ m_ws := m_ws_in (List.mem_append_right _ (List.mem_of_getElem? (i := 232) (by decide +kernel))) rfl
theorem cs_L_151 : Cond.constantLong RL 151 (1000) ∈ m_ws := m_ws_in (List.mem_append_right _ (List.mem_of_getElem? (i := 371) (by decide +kernel))) rfl
theorem nc_L_41 : Cond.classLink RL 41 RX5 ∈ m_ws := m_ws_in (List.mem_append_right _ (List.mem_of_getElem? (i := 23) (by decide +kernel))) rfl
end
section
section MS
/-- the class's world: the scalars v, the rows a, the belt x; behind it t -/
def hC (v : Nat → Int32) (a : Nat → Nat → Int32) (x : Int64) (t : m_H) : m_H := m_ob 5 [.ref 1, .ref 2, .ref 3, .ref 8, .ref 13, .long x] :: m_ob 1 [.ref 2, .ref 3, .ref 8, .ref 13, .int (v 10), .int (v 11), .int (v 12), .int (v 13), .int (v 14), .int (v 15), .int (v 16), .int (v 17), .int (v 18), .int (v 19), .int (v 20), .int (v 21)] :: m_ob 4 [.int (v 0), .int (v 1), .int (v 2), .int (v 3), .int (v 4), .int (v 5), .int (v 6), .int (v 7)] :: m_ob 0 [.ref 4, .ref 5, .ref 6, .ref 7] :: m_ia 4 (a 0) :: m_ia 4 (a 1) :: m_ia 4 (a 2) :: m_ia 4 (a 3) :: m_ob 2 [.ref 9, .ref 10, .ref 11, .ref 12, .int (v 8)] :: m_ia 30 (a 4) :: m_ia 30 (a 5) :: m_ia 30 (a 6) :: m_ia 600 (a 7) :: m_ob 3 [.ref 14, .ref 15, .ref 16, .int (v 9)] :: m_ia 6 (a 8) :: m_ia 6 (a 9) :: m_ia 6 (a 10) :: t
/-- the law's own rows -/
def hT (fm fb fr fl fu fv : Nat → Int32) : m_H := [m_ia 24 fm, m_ia 16 fb, m_ia 18 fr, m_ia 24 fl, m_ia 8 fu, m_ia 64 fv]
abbrev hW (v : Nat → Int32) (a : Nat → Nat → Int32) (x : Int64) (fm fb fr fl fu fv : Nat → Int32) : m_H := hC v a x (hT fm fb fr fl fu fv)
theorem hW_g0 {v : Nat → Int32} {a : Nat → Nat → Int32} {x : Int64} {fm fb fr fl fu fv : Nat → Int32} : (hW v a x fm fb fr fl fu fv)[(17 : Nat)]? = some (m_ia 24 fm) := rfl
theorem hW_s0 {v : Nat → Int32} {a : Nat → Nat → Int32} {x : Int64} {fm fb fr fl fu fv g : Nat → Int32} : (hW v a x fm fb fr fl fu fv).set 17 (m_ia 24 g) = hW v a x g fb fr fl fu fv := rfl
theorem hW_g1 {v : Nat → Int32} {a : Nat → Nat → Int32} {x : Int64} {fm fb fr fl fu fv : Nat → Int32} : (hW v a x fm fb fr fl fu fv)[(18 : Nat)]? = some (m_ia 16 fb) := rfl
theorem hW_s1 {v : Nat → Int32} {a : Nat → Nat → Int32} {x : Int64} {fm fb fr fl fu fv g : Nat → Int32} : (hW v a x fm fb fr fl fu fv).set 18 (m_ia 16 g) = hW v a x fm g fr fl fu fv := rfl
theorem hW_g2 {v : Nat → Int32} {a : Nat → Nat → Int32} {x : Int64} {fm fb fr fl fu fv : Nat → Int32} : (hW v a x fm fb fr fl fu fv)[(19 : Nat)]? = some (m_ia 18 fr) := rfl
theorem hW_s2 {v : Nat → Int32} {a : Nat → Nat → Int32} {x : Int64} {fm fb fr fl fu fv g : Nat → Int32} : (hW v a x fm fb fr fl fu fv).set 19 (m_ia 18 g) = hW v a x fm fb g fl fu fv := rfl
theorem hW_g3 {v : Nat → Int32} {a : Nat → Nat → Int32} {x : Int64} {fm fb fr fl fu fv : Nat → Int32} : (hW v a x fm fb fr fl fu fv)[(20 : Nat)]? = some (m_ia 24 fl) := rfl
theorem hW_s3 {v : Nat → Int32} {a : Nat → Nat → Int32} {x : Int64} {fm fb fr fl fu fv g : Nat → Int32} : (hW v a x fm fb fr fl fu fv).set 20 (m_ia 24 g) = hW v a x fm fb fr g fu fv := rfl
theorem hW_g4 {v : Nat → Int32} {a : Nat → Nat → Int32} {x : Int64} {fm fb fr fl fu fv : Nat → Int32} : (hW v a x fm fb fr fl fu fv)[(21 : Nat)]? = some (m_ia 8 fu) := rfl
theorem hW_s4 {v : Nat → Int32} {a : Nat → Nat → Int32} {x : Int64} {fm fb fr fl fu fv g : Nat → Int32} : (hW v a x fm fb fr fl fu fv).set 21 (m_ia 8 g) = hW v a x fm fb fr fl g fv := rfl
theorem hW_g5 {v : Nat → Int32} {a : Nat → Nat → Int32} {x : Int64} {fm fb fr fl fu fv : Nat → Int32} : (hW v a x fm fb fr fl fu fv)[(22 : Nat)]? = some (m_ia 64 fv) := rfl
theorem hW_s5 {v : Nat → Int32} {a : Nat → Nat → Int32} {x : Int64} {fm fb fr fl fu fv g : Nat → Int32} : (hW v a x fm fb fr fl fu fv).set 22 (m_ia 64 g) = hW v a x fm fb fr fl fu g := rfl
theorem hC_a0 {v : Nat → Int32} {a : Nat → Nat → Int32} {x : Int64} {t : m_H} {f : Nat → Int32} : (hC v a x t).set 4 (m_ia 4 f) = hC v (va_up a 0 f) x t := rfl
theorem hC_a1 {v : Nat → Int32} {a : Nat → Nat → Int32} {x : Int64} {t : m_H} {f : Nat → Int32} : (hC v a x t).set 5 (m_ia 4 f) = hC v (va_up a 1 f) x t := rfl
theorem hC_a2 {v : Nat → Int32} {a : Nat → Nat → Int32} {x : Int64} {t : m_H} {f : Nat → Int32} : (hC v a x t).set 6 (m_ia 4 f) = hC v (va_up a 2 f) x t := rfl
theorem hC_a3 {v : Nat → Int32} {a : Nat → Nat → Int32} {x : Int64} {t : m_H} {f : Nat → Int32} : (hC v a x t).set 7 (m_ia 4 f) = hC v (va_up a 3 f) x t := rfl
theorem hC_a4 {v : Nat → Int32} {a : Nat → Nat → Int32} {x : Int64} {t : m_H} {f : Nat → Int32} : (hC v a x t).set 9 (m_ia 30 f) = hC v (va_up a 4 f) x t := rfl
theorem hC_a5 {v : Nat → Int32} {a : Nat → Nat → Int32} {x : Int64} {t : m_H} {f : Nat → Int32} : (hC v a x t).set 10 (m_ia 30 f) = hC v (va_up a 5 f) x t := rfl
theorem hC_a6 {v : Nat → Int32} {a : Nat → Nat → Int32} {x : Int64} {t : m_H} {f : Nat → Int32} : (hC v a x t).set 11 (m_ia 30 f) = hC v (va_up a 6 f) x t := rfl
theorem hC_a7 {v : Nat → Int32} {a : Nat → Nat → Int32} {x : Int64} {t : m_H} {f : Nat → Int32} : (hC v a x t).set 12 (m_ia 600 f) = hC v (va_up a 7 f) x t := rfl
theorem hC_a8 {v : Nat → Int32} {a : Nat → Nat → Int32} {x : Int64} {t : m_H} {f : Nat → Int32} : (hC v a x t).set 14 (m_ia 6 f) = hC v (va_up a 8 f) x t := rfl
theorem hC_a9 {v : Nat → Int32} {a : Nat → Nat → Int32} {x : Int64} {t : m_H} {f : Nat → Int32} : (hC v a x t).set 15 (m_ia 6 f) = hC v (va_up a 9 f) x t := rfl
theorem hC_a10 {v : Nat → Int32} {a : Nat → Nat → Int32} {x : Int64} {t : m_H} {f : Nat → Int32} : (hC v a x t).set 16 (m_ia 6 f) = hC v (va_up a 10 f) x t := rfl
variable {D : va_G} {cI cL : ClassId} {sa : Nat → Nat} {y : MethodName} {cc : ByteArray} {nL : Nat} {ret : Option FieldType} {A : Nat → Prop} {TB : List ExceptionTableEntry} {p : Program} {l : Launch} {e : Env} {R : Room} {s : State} {m : MethodId} {args : Array Value} {below : List Frame} {meth : Method} {c : Code} {Q : State → Prop} {ad0 : Nat → Nat} {n0 pc pc0 : Nat} {ls : List (Nat × Value)} {st : List Value} {h : m_H} {cu su : Nat}
theorem m_puti {idx ci j q : Nat} {fs : List Value} {n9 : Int32} {v9 : Value} {h1 : m_H} (X : m_At D cI cL sa y cc nL ret A TB p l s m args meth c) (hd : decode cc pc0 = .ok (.putfield idx, 3)) (hf : m_FL y.cls idx ci j) (hg : m_FP ci j .int) (hq : h[q]? = some (m_ob ci fs)) (hj : fs[j]? = some v9) (he : h.set q (m_ob ci (fs.set j (.int n9))) = h1) (hp : pc = pc0) (kk : m_Go D cI cL ad0 n0 nL A p l e R s m args below meth c Q (pc0 + 3) ls st h1 cu su) : m_Go D cI cL ad0 n0 nL A p l e R s m args below meth c Q pc ls (.int n9 :: .ref q :: st) h cu su :=
  m_putf X hd hf hg hq (List.getElem?_eq_some_iff.mp hj).1 (fun _ => rfl) (fun _ => rfl) hp (by rw [he]; exact kk)
theorem m_putl {idx ci j q : Nat} {fs : List Value} {n9 : Int64} {v9 : Value} {h1 : m_H} (X : m_At D cI cL sa y cc nL ret A TB p l s m args meth c) (hd : decode cc pc0 = .ok (.putfield idx, 3)) (hf : m_FL y.cls idx ci j) (hg : m_FP ci j .long) (hq : h[q]? = some (m_ob ci fs)) (hj : fs[j]? = some v9) (he : h.set q (m_ob ci (fs.set j (.long n9))) = h1) (hp : pc = pc0) (kk : m_Go D cI cL ad0 n0 nL A p l e R s m args below meth c Q (pc0 + 3) ls st h1 cu su) : m_Go D cI cL ad0 n0 nL A p l e R s m args below meth c Q pc ls (.long n9 :: .ref q :: st) h cu su :=
  m_putf X hd hf hg hq (List.getElem?_eq_some_iff.mp hj).1 (fun _ => rfl) (fun _ => rfl) hp (by rw [he]; exact kk)
theorem m_putz {idx ci j q : Nat} {fs : List Value} {n9 : Int32} {v9 : Value} {h1 : m_H} (X : m_At D cI cL sa y cc nL ret A TB p l s m args meth c) (hd : decode cc pc0 = .ok (.putfield idx, 3)) (hf : m_FL y.cls idx ci j) (hg : m_FP ci j .boolean) (h01 : n9 = 0 ∨ n9 = 1) (hq : h[q]? = some (m_ob ci fs)) (hj : fs[j]? = some v9) (he : h.set q (m_ob ci (fs.set j (.int n9))) = h1) (hp : pc = pc0) (kk : m_Go D cI cL ad0 n0 nL A p l e R s m args below meth c Q (pc0 + 3) ls st h1 cu su) : m_Go D cI cL ad0 n0 nL A p l e R s m args below meth c Q pc ls (.int n9 :: .ref q :: st) h cu su :=
  m_putf X hd hf hg hq (List.getElem?_eq_some_iff.mp hj).1 (fun _ => by rcases h01 with rfl | rfl <;> rfl) (fun _ => by rcases h01 with rfl | rfl <;> rfl) hp (by rw [he]; exact kk)
theorem m_piC {idx ci j q : Nat} {fs : List Value} {n9 : Int32} {v9 : Value} {v : Nat → Int32} {a : Nat → Nat → Int32} {x : Int64} {t : m_H} (k : Nat) (X : m_At D cI cL sa y cc nL ret A TB p l s m args meth c) (hd : decode cc pc0 = .ok (.putfield idx, 3)) (hf : m_FL y.cls idx ci j) (hg : m_FP ci j .int) (hq : (hC v a x t)[q]? = some (m_ob ci fs)) (hj : fs[j]? = some v9) (he : (hC v a x t).set q (m_ob ci (fs.set j (.int n9))) = (hC (upd v k n9) a x t)) (hp : pc = pc0) (kk : m_Go D cI cL ad0 n0 nL A p l e R s m args below meth c Q (pc0 + 3) ls st (hC (upd v k n9) a x t) cu su) : m_Go D cI cL ad0 n0 nL A p l e R s m args below meth c Q pc ls (.int n9 :: .ref q :: st) (hC v a x t) cu su :=
  m_puti X hd hf hg hq hj he hp kk
theorem m_pzC {idx ci j q : Nat} {fs : List Value} {n9 : Int32} {v9 : Value} {v : Nat → Int32} {a : Nat → Nat → Int32} {x : Int64} {t : m_H} (k : Nat) (X : m_At D cI cL sa y cc nL ret A TB p l s m args meth c) (hd : decode cc pc0 = .ok (.putfield idx, 3)) (hf : m_FL y.cls idx ci j) (hg : m_FP ci j .boolean) (h01 : n9 = 0 ∨ n9 = 1) (hq : (hC v a x t)[q]? = some (m_ob ci fs)) (hj : fs[j]? = some v9) (he : (hC v a x t).set q (m_ob ci (fs.set j (.int n9))) = (hC (upd v k n9) a x t)) (hp : pc = pc0) (kk : m_Go D cI cL ad0 n0 nL A p l e R s m args below meth c Q (pc0 + 3) ls st (hC (upd v k n9) a x t) cu su) : m_Go D cI cL ad0 n0 nL A p l e R s m args below meth c Q pc ls (.int n9 :: .ref q :: st) (hC v a x t) cu su :=
  m_putz X hd hf hg h01 hq hj he hp kk
theorem m_plC {idx ci j q : Nat} {fs : List Value} {n9 : Int64} {v9 : Value} {v : Nat → Int32} {a : Nat → Nat → Int32} {x : Int64} {t : m_H} (X : m_At D cI cL sa y cc nL ret A TB p l s m args meth c) (hd : decode cc pc0 = .ok (.putfield idx, 3)) (hf : m_FL y.cls idx ci j) (hg : m_FP ci j .long) (hq : (hC v a x t)[q]? = some (m_ob ci fs)) (hj : fs[j]? = some v9) (he : (hC v a x t).set q (m_ob ci (fs.set j (.long n9))) = (hC v a n9 t)) (hp : pc = pc0) (kk : m_Go D cI cL ad0 n0 nL A p l e R s m args below meth c Q (pc0 + 3) ls st (hC v a n9 t) cu su) : m_Go D cI cL ad0 n0 nL A p l e R s m args below meth c Q pc ls (.long n9 :: .ref q :: st) (hC v a x t) cu su :=
  m_putl X hd hf hg hq hj he hp kk
theorem m_cS0 {M : m_M} {h' : m_H} {v : Option Value} {rest : List Value} {k : Nat} (X : m_At D cI cL sa y cc nL ret A TB p l s m args meth c) (hd : decode cc pc0 = .ok (.invokestatic k, 3)) (hk : m_LK y.cls k M) (hK : m_MK M 0) (hst : Cond.static (m_My M) ∈ m_ws) (hC : m_Ctr M [] h (.inl (v, h'))) (hlen : h'.length = h.length) (hro : (rest.map fun v => v.category).sum ≤ 8) (hrk : m_Mk M + 1 ≤ R.frames) (hrl : 8 + (m_Ml M + 11) + 32 * m_Mk M ≤ R.locals) (hcc : cu + m_Mc M ≤ R.cells) (hss : su + m_Ms M ≤ R.slots) (hp : pc = pc0)
    (kk : m_Go D cI cL ad0 n0 nL A p l e R s m args below meth c Q (pc0 + 3) ls (v.toList ++ rest) h' (cu + m_Mc M) (su + m_Ms M)) : m_Go D cI cL ad0 n0 nL A p l e R s m args below meth c Q pc ls (rest) h cu su := m_callS X hd hk hK hst hC rfl rfl hlen hro hrk hrl hcc hss hp kk
theorem m_cV0 {M : m_M} {h' : m_H} {v : Option Value} {rest : List Value} {k q ci : Nat} {fs : List Value} (X : m_At D cI cL sa y cc nL ret A TB p l s m args meth c) (hd : decode cc pc0 = .ok (.invokevirtual k, 3)) (hk : m_LK y.cls k M) (hK : m_MK M 0) (hin : Cond.instanceMethod (m_My M) ∈ m_ws) (hse : Cond.selects (m_My M).cls (m_My M) (m_My M) ∈ m_ws) (hq : h[q]? = some (m_ob ci fs)) (hci : (m_cl[ci]?).map Prod.fst = some (m_My M).cls) (hC : m_Ctr M (.ref q :: []) h (.inl (v, h'))) (hlen : h'.length = h.length) (hro : (rest.map fun v => v.category).sum ≤ 8) (hrk : m_Mk M + 1 ≤ R.frames) (hrl : 8 + (m_Ml M + 11) + 32 * m_Mk M ≤ R.locals) (hcc : cu + m_Mc M ≤ R.cells) (hss : su + m_Ms M ≤ R.slots) (hp : pc = pc0)
    (kk : m_Go D cI cL ad0 n0 nL A p l e R s m args below meth c Q (pc0 + 3) ls (v.toList ++ rest) h' (cu + m_Mc M) (su + m_Ms M)) : m_Go D cI cL ad0 n0 nL A p l e R s m args below meth c Q pc ls (.ref q :: rest) h cu su := m_callV X hd hk hK hin hse hq hci hC rfl rfl hlen hro hrk hrl hcc hss hp kk
theorem m_tS0 {M : m_M} {h' : m_H} {E : String} {rest : List Value} {k mc ms : Nat} {om : m_Om} (X : m_At D cI cL sa y cc nL ret A TB p l s m args meth c) (hd : decode cc pc0 = .ok (.invokestatic k, 3)) (hk : Cond.methodLink y.cls k (m_My M) ∈ m_ws) (hK : m_MK M 0) (hst : Cond.static (m_My M) ∈ m_ws) (hC : m_Ctr M [] h (.inr (E, h'))) (hlen : h'.length = h.length) (hro : (rest.map fun v => v.category).sum ≤ 8) (hrk : m_Mk M + 1 ≤ R.frames) (hrl : 8 + (m_Ml M + 11) + 32 * m_Mk M ≤ R.locals) (hcc : cu + m_Mc M ≤ R.cells) (hss : su + m_Ms M ≤ R.slots) (hp : pc = pc0) (htb : TB = []) (ho : om = .inr (E, h')) (hmc : cu + m_Mc M ≤ mc) (hms : su + m_Ms M ≤ ms) : m_Go D cI cL ad0 n0 nL A p l e R s m args below meth c (m_VQ D cI cL ad0 n0 A om below args s mc ms) pc ls (rest) h cu su := m_thrS X hd hk hK hst hC rfl rfl hlen hro hrk hrl hcc hss hp htb ho hmc hms
theorem m_tV0 {M : m_M} {h' : m_H} {E : String} {rest : List Value} {k q ci mc ms : Nat} {fs : List Value} {om : m_Om} (X : m_At D cI cL sa y cc nL ret A TB p l s m args meth c) (hd : decode cc pc0 = .ok (.invokevirtual k, 3)) (hk : Cond.methodLink y.cls k (m_My M) ∈ m_ws) (hK : m_MK M 0) (hin : Cond.instanceMethod (m_My M) ∈ m_ws) (hse : Cond.selects (m_My M).cls (m_My M) (m_My M) ∈ m_ws) (hq : h[q]? = some (m_ob ci fs)) (hci : (m_cl[ci]?).map Prod.fst = some (m_My M).cls) (hC : m_Ctr M (.ref q :: []) h (.inr (E, h'))) (hlen : h'.length = h.length) (hro : (rest.map fun v => v.category).sum ≤ 8) (hrk : m_Mk M + 1 ≤ R.frames) (hrl : 8 + (m_Ml M + 11) + 32 * m_Mk M ≤ R.locals) (hcc : cu + m_Mc M ≤ R.cells) (hss : su + m_Ms M ≤ R.slots) (hp : pc = pc0) (htb : TB = []) (ho : om = .inr (E, h')) (hmc : cu + m_Mc M ≤ mc) (hms : su + m_Ms M ≤ ms) : m_Go D cI cL ad0 n0 nL A p l e R s m args below meth c (m_VQ D cI cL ad0 n0 A om below args s mc ms) pc ls (.ref q :: rest) h cu su := m_thrV X hd hk hK hin hse hq hci hC rfl rfl hlen hro hrk hrl hcc hss hp htb ho hmc hms
theorem m_cS1 {x0 : Value} {M : m_M} {h' : m_H} {v : Option Value} {rest : List Value} {k : Nat} (X : m_At D cI cL sa y cc nL ret A TB p l s m args meth c) (hd : decode cc pc0 = .ok (.invokestatic k, 3)) (hk : m_LK y.cls k M) (hK : m_MK M 1) (hst : Cond.static (m_My M) ∈ m_ws) (hC : m_Ctr M [x0] h (.inl (v, h'))) (hlen : h'.length = h.length) (hro : (rest.map fun v => v.category).sum ≤ 8) (hrk : m_Mk M + 1 ≤ R.frames) (hrl : 8 + (m_Ml M + 11) + 32 * m_Mk M ≤ R.locals) (hcc : cu + m_Mc M ≤ R.cells) (hss : su + m_Ms M ≤ R.slots) (hp : pc = pc0)
    (kk : m_Go D cI cL ad0 n0 nL A p l e R s m args below meth c Q (pc0 + 3) ls (v.toList ++ rest) h' (cu + m_Mc M) (su + m_Ms M)) : m_Go D cI cL ad0 n0 nL A p l e R s m args below meth c Q pc ls (x0 :: rest) h cu su := m_callS X hd hk hK hst hC rfl rfl hlen hro hrk hrl hcc hss hp kk
theorem m_cV1 {x0 : Value} {M : m_M} {h' : m_H} {v : Option Value} {rest : List Value} {k q ci : Nat} {fs : List Value} (X : m_At D cI cL sa y cc nL ret A TB p l s m args meth c) (hd : decode cc pc0 = .ok (.invokevirtual k, 3)) (hk : m_LK y.cls k M) (hK : m_MK M 1) (hin : Cond.instanceMethod (m_My M) ∈ m_ws) (hse : Cond.selects (m_My M).cls (m_My M) (m_My M) ∈ m_ws) (hq : h[q]? = some (m_ob ci fs)) (hci : (m_cl[ci]?).map Prod.fst = some (m_My M).cls) (hC : m_Ctr M (.ref q :: [x0]) h (.inl (v, h'))) (hlen : h'.length = h.length) (hro : (rest.map fun v => v.category).sum ≤ 8) (hrk : m_Mk M + 1 ≤ R.frames) (hrl : 8 + (m_Ml M + 11) + 32 * m_Mk M ≤ R.locals) (hcc : cu + m_Mc M ≤ R.cells) (hss : su + m_Ms M ≤ R.slots) (hp : pc = pc0)
    (kk : m_Go D cI cL ad0 n0 nL A p l e R s m args below meth c Q (pc0 + 3) ls (v.toList ++ rest) h' (cu + m_Mc M) (su + m_Ms M)) : m_Go D cI cL ad0 n0 nL A p l e R s m args below meth c Q pc ls (x0 :: .ref q :: rest) h cu su := m_callV X hd hk hK hin hse hq hci hC rfl rfl hlen hro hrk hrl hcc hss hp kk
theorem m_tS1 {x0 : Value} {M : m_M} {h' : m_H} {E : String} {rest : List Value} {k mc ms : Nat} {om : m_Om} (X : m_At D cI cL sa y cc nL ret A TB p l s m args meth c) (hd : decode cc pc0 = .ok (.invokestatic k, 3)) (hk : Cond.methodLink y.cls k (m_My M) ∈ m_ws) (hK : m_MK M 1) (hst : Cond.static (m_My M) ∈ m_ws) (hC : m_Ctr M [x0] h (.inr (E, h'))) (hlen : h'.length = h.length) (hro : (rest.map fun v => v.category).sum ≤ 8) (hrk : m_Mk M + 1 ≤ R.frames) (hrl : 8 + (m_Ml M + 11) + 32 * m_Mk M ≤ R.locals) (hcc : cu + m_Mc M ≤ R.cells) (hss : su + m_Ms M ≤ R.slots) (hp : pc = pc0) (htb : TB = []) (ho : om = .inr (E, h')) (hmc : cu + m_Mc M ≤ mc) (hms : su + m_Ms M ≤ ms) : m_Go D cI cL ad0 n0 nL A p l e R s m args below meth c (m_VQ D cI cL ad0 n0 A om below args s mc ms) pc ls (x0 :: rest) h cu su := m_thrS X hd hk hK hst hC rfl rfl hlen hro hrk hrl hcc hss hp htb ho hmc hms
theorem m_tV1 {x0 : Value} {M : m_M} {h' : m_H} {E : String} {rest : List Value} {k q ci mc ms : Nat} {fs : List Value} {om : m_Om} (X : m_At D cI cL sa y cc nL ret A TB p l s m args meth c) (hd : decode cc pc0 = .ok (.invokevirtual k, 3)) (hk : Cond.methodLink y.cls k (m_My M) ∈ m_ws) (hK : m_MK M 1) (hin : Cond.instanceMethod (m_My M) ∈ m_ws) (hse : Cond.selects (m_My M).cls (m_My M) (m_My M) ∈ m_ws) (hq : h[q]? = some (m_ob ci fs)) (hci : (m_cl[ci]?).map Prod.fst = some (m_My M).cls) (hC : m_Ctr M (.ref q :: [x0]) h (.inr (E, h'))) (hlen : h'.length = h.length) (hro : (rest.map fun v => v.category).sum ≤ 8) (hrk : m_Mk M + 1 ≤ R.frames) (hrl : 8 + (m_Ml M + 11) + 32 * m_Mk M ≤ R.locals) (hcc : cu + m_Mc M ≤ R.cells) (hss : su + m_Ms M ≤ R.slots) (hp : pc = pc0) (htb : TB = []) (ho : om = .inr (E, h')) (hmc : cu + m_Mc M ≤ mc) (hms : su + m_Ms M ≤ ms) : m_Go D cI cL ad0 n0 nL A p l e R s m args below meth c (m_VQ D cI cL ad0 n0 A om below args s mc ms) pc ls (x0 :: .ref q :: rest) h cu su := m_thrV X hd hk hK hin hse hq hci hC rfl rfl hlen hro hrk hrl hcc hss hp htb ho hmc hms
theorem m_cS2 {x0 x1 : Value} {M : m_M} {h' : m_H} {v : Option Value} {rest : List Value} {k : Nat} (X : m_At D cI cL sa y cc nL ret A TB p l s m args meth c) (hd : decode cc pc0 = .ok (.invokestatic k, 3)) (hk : m_LK y.cls k M) (hK : m_MK M 2) (hst : Cond.static (m_My M) ∈ m_ws) (hC : m_Ctr M [x0, x1] h (.inl (v, h'))) (hlen : h'.length = h.length) (hro : (rest.map fun v => v.category).sum ≤ 8) (hrk : m_Mk M + 1 ≤ R.frames) (hrl : 8 + (m_Ml M + 11) + 32 * m_Mk M ≤ R.locals) (hcc : cu + m_Mc M ≤ R.cells) (hss : su + m_Ms M ≤ R.slots) (hp : pc = pc0)
    (kk : m_Go D cI cL ad0 n0 nL A p l e R s m args below meth c Q (pc0 + 3) ls (v.toList ++ rest) h' (cu + m_Mc M) (su + m_Ms M)) : m_Go D cI cL ad0 n0 nL A p l e R s m args below meth c Q pc ls (x1 :: x0 :: rest) h cu su := m_callS X hd hk hK hst hC rfl rfl hlen hro hrk hrl hcc hss hp kk
theorem m_cV2 {x0 x1 : Value} {M : m_M} {h' : m_H} {v : Option Value} {rest : List Value} {k q ci : Nat} {fs : List Value} (X : m_At D cI cL sa y cc nL ret A TB p l s m args meth c) (hd : decode cc pc0 = .ok (.invokevirtual k, 3)) (hk : m_LK y.cls k M) (hK : m_MK M 2) (hin : Cond.instanceMethod (m_My M) ∈ m_ws) (hse : Cond.selects (m_My M).cls (m_My M) (m_My M) ∈ m_ws) (hq : h[q]? = some (m_ob ci fs)) (hci : (m_cl[ci]?).map Prod.fst = some (m_My M).cls) (hC : m_Ctr M (.ref q :: [x0, x1]) h (.inl (v, h'))) (hlen : h'.length = h.length) (hro : (rest.map fun v => v.category).sum ≤ 8) (hrk : m_Mk M + 1 ≤ R.frames) (hrl : 8 + (m_Ml M + 11) + 32 * m_Mk M ≤ R.locals) (hcc : cu + m_Mc M ≤ R.cells) (hss : su + m_Ms M ≤ R.slots) (hp : pc = pc0)
    (kk : m_Go D cI cL ad0 n0 nL A p l e R s m args below meth c Q (pc0 + 3) ls (v.toList ++ rest) h' (cu + m_Mc M) (su + m_Ms M)) : m_Go D cI cL ad0 n0 nL A p l e R s m args below meth c Q pc ls (x1 :: x0 :: .ref q :: rest) h cu su := m_callV X hd hk hK hin hse hq hci hC rfl rfl hlen hro hrk hrl hcc hss hp kk
theorem m_tS2 {x0 x1 : Value} {M : m_M} {h' : m_H} {E : String} {rest : List Value} {k mc ms : Nat} {om : m_Om} (X : m_At D cI cL sa y cc nL ret A TB p l s m args meth c) (hd : decode cc pc0 = .ok (.invokestatic k, 3)) (hk : Cond.methodLink y.cls k (m_My M) ∈ m_ws) (hK : m_MK M 2) (hst : Cond.static (m_My M) ∈ m_ws) (hC : m_Ctr M [x0, x1] h (.inr (E, h'))) (hlen : h'.length = h.length) (hro : (rest.map fun v => v.category).sum ≤ 8) (hrk : m_Mk M + 1 ≤ R.frames) (hrl : 8 + (m_Ml M + 11) + 32 * m_Mk M ≤ R.locals) (hcc : cu + m_Mc M ≤ R.cells) (hss : su + m_Ms M ≤ R.slots) (hp : pc = pc0) (htb : TB = []) (ho : om = .inr (E, h')) (hmc : cu + m_Mc M ≤ mc) (hms : su + m_Ms M ≤ ms) : m_Go D cI cL ad0 n0 nL A p l e R s m args below meth c (m_VQ D cI cL ad0 n0 A om below args s mc ms) pc ls (x1 :: x0 :: rest) h cu su := m_thrS X hd hk hK hst hC rfl rfl hlen hro hrk hrl hcc hss hp htb ho hmc hms
theorem m_tV2 {x0 x1 : Value} {M : m_M} {h' : m_H} {E : String} {rest : List Value} {k q ci mc ms : Nat} {fs : List Value} {om : m_Om} (X : m_At D cI cL sa y cc nL ret A TB p l s m args meth c) (hd : decode cc pc0 = .ok (.invokevirtual k, 3)) (hk : Cond.methodLink y.cls k (m_My M) ∈ m_ws) (hK : m_MK M 2) (hin : Cond.instanceMethod (m_My M) ∈ m_ws) (hse : Cond.selects (m_My M).cls (m_My M) (m_My M) ∈ m_ws) (hq : h[q]? = some (m_ob ci fs)) (hci : (m_cl[ci]?).map Prod.fst = some (m_My M).cls) (hC : m_Ctr M (.ref q :: [x0, x1]) h (.inr (E, h'))) (hlen : h'.length = h.length) (hro : (rest.map fun v => v.category).sum ≤ 8) (hrk : m_Mk M + 1 ≤ R.frames) (hrl : 8 + (m_Ml M + 11) + 32 * m_Mk M ≤ R.locals) (hcc : cu + m_Mc M ≤ R.cells) (hss : su + m_Ms M ≤ R.slots) (hp : pc = pc0) (htb : TB = []) (ho : om = .inr (E, h')) (hmc : cu + m_Mc M ≤ mc) (hms : su + m_Ms M ≤ ms) : m_Go D cI cL ad0 n0 nL A p l e R s m args below meth c (m_VQ D cI cL ad0 n0 A om below args s mc ms) pc ls (x1 :: x0 :: .ref q :: rest) h cu su := m_thrV X hd hk hK hin hse hq hci hC rfl rfl hlen hro hrk hrl hcc hss hp htb ho hmc hms
theorem m_cS3 {x0 x1 x2 : Value} {M : m_M} {h' : m_H} {v : Option Value} {rest : List Value} {k : Nat} (X : m_At D cI cL sa y cc nL ret A TB p l s m args meth c) (hd : decode cc pc0 = .ok (.invokestatic k, 3)) (hk : m_LK y.cls k M) (hK : m_MK M 3) (hst : Cond.static (m_My M) ∈ m_ws) (hC : m_Ctr M [x0, x1, x2] h (.inl (v, h'))) (hlen : h'.length = h.length) (hro : (rest.map fun v => v.category).sum ≤ 8) (hrk : m_Mk M + 1 ≤ R.frames) (hrl : 8 + (m_Ml M + 11) + 32 * m_Mk M ≤ R.locals) (hcc : cu + m_Mc M ≤ R.cells) (hss : su + m_Ms M ≤ R.slots) (hp : pc = pc0)
    (kk : m_Go D cI cL ad0 n0 nL A p l e R s m args below meth c Q (pc0 + 3) ls (v.toList ++ rest) h' (cu + m_Mc M) (su + m_Ms M)) : m_Go D cI cL ad0 n0 nL A p l e R s m args below meth c Q pc ls (x2 :: x1 :: x0 :: rest) h cu su := m_callS X hd hk hK hst hC rfl rfl hlen hro hrk hrl hcc hss hp kk
theorem m_cV3 {x0 x1 x2 : Value} {M : m_M} {h' : m_H} {v : Option Value} {rest : List Value} {k q ci : Nat} {fs : List Value} (X : m_At D cI cL sa y cc nL ret A TB p l s m args meth c) (hd : decode cc pc0 = .ok (.invokevirtual k, 3)) (hk : m_LK y.cls k M) (hK : m_MK M 3) (hin : Cond.instanceMethod (m_My M) ∈ m_ws) (hse : Cond.selects (m_My M).cls (m_My M) (m_My M) ∈ m_ws) (hq : h[q]? = some (m_ob ci fs)) (hci : (m_cl[ci]?).map Prod.fst = some (m_My M).cls) (hC : m_Ctr M (.ref q :: [x0, x1, x2]) h (.inl (v, h'))) (hlen : h'.length = h.length) (hro : (rest.map fun v => v.category).sum ≤ 8) (hrk : m_Mk M + 1 ≤ R.frames) (hrl : 8 + (m_Ml M + 11) + 32 * m_Mk M ≤ R.locals) (hcc : cu + m_Mc M ≤ R.cells) (hss : su + m_Ms M ≤ R.slots) (hp : pc = pc0)
    (kk : m_Go D cI cL ad0 n0 nL A p l e R s m args below meth c Q (pc0 + 3) ls (v.toList ++ rest) h' (cu + m_Mc M) (su + m_Ms M)) : m_Go D cI cL ad0 n0 nL A p l e R s m args below meth c Q pc ls (x2 :: x1 :: x0 :: .ref q :: rest) h cu su := m_callV X hd hk hK hin hse hq hci hC rfl rfl hlen hro hrk hrl hcc hss hp kk
theorem m_tS3 {x0 x1 x2 : Value} {M : m_M} {h' : m_H} {E : String} {rest : List Value} {k mc ms : Nat} {om : m_Om} (X : m_At D cI cL sa y cc nL ret A TB p l s m args meth c) (hd : decode cc pc0 = .ok (.invokestatic k, 3)) (hk : Cond.methodLink y.cls k (m_My M) ∈ m_ws) (hK : m_MK M 3) (hst : Cond.static (m_My M) ∈ m_ws) (hC : m_Ctr M [x0, x1, x2] h (.inr (E, h'))) (hlen : h'.length = h.length) (hro : (rest.map fun v => v.category).sum ≤ 8) (hrk : m_Mk M + 1 ≤ R.frames) (hrl : 8 + (m_Ml M + 11) + 32 * m_Mk M ≤ R.locals) (hcc : cu + m_Mc M ≤ R.cells) (hss : su + m_Ms M ≤ R.slots) (hp : pc = pc0) (htb : TB = []) (ho : om = .inr (E, h')) (hmc : cu + m_Mc M ≤ mc) (hms : su + m_Ms M ≤ ms) : m_Go D cI cL ad0 n0 nL A p l e R s m args below meth c (m_VQ D cI cL ad0 n0 A om below args s mc ms) pc ls (x2 :: x1 :: x0 :: rest) h cu su := m_thrS X hd hk hK hst hC rfl rfl hlen hro hrk hrl hcc hss hp htb ho hmc hms
theorem m_tV3 {x0 x1 x2 : Value} {M : m_M} {h' : m_H} {E : String} {rest : List Value} {k q ci mc ms : Nat} {fs : List Value} {om : m_Om} (X : m_At D cI cL sa y cc nL ret A TB p l s m args meth c) (hd : decode cc pc0 = .ok (.invokevirtual k, 3)) (hk : Cond.methodLink y.cls k (m_My M) ∈ m_ws) (hK : m_MK M 3) (hin : Cond.instanceMethod (m_My M) ∈ m_ws) (hse : Cond.selects (m_My M).cls (m_My M) (m_My M) ∈ m_ws) (hq : h[q]? = some (m_ob ci fs)) (hci : (m_cl[ci]?).map Prod.fst = some (m_My M).cls) (hC : m_Ctr M (.ref q :: [x0, x1, x2]) h (.inr (E, h'))) (hlen : h'.length = h.length) (hro : (rest.map fun v => v.category).sum ≤ 8) (hrk : m_Mk M + 1 ≤ R.frames) (hrl : 8 + (m_Ml M + 11) + 32 * m_Mk M ≤ R.locals) (hcc : cu + m_Mc M ≤ R.cells) (hss : su + m_Ms M ≤ R.slots) (hp : pc = pc0) (htb : TB = []) (ho : om = .inr (E, h')) (hmc : cu + m_Mc M ≤ mc) (hms : su + m_Ms M ≤ ms) : m_Go D cI cL ad0 n0 nL A p l e R s m args below meth c (m_VQ D cI cL ad0 n0 A om below args s mc ms) pc ls (x2 :: x1 :: x0 :: .ref q :: rest) h cu su := m_thrV X hd hk hK hin hse hq hci hC rfl rfl hlen hro hrk hrl hcc hss hp htb ho hmc hms
theorem m_cS4 {x0 x1 x2 x3 : Value} {M : m_M} {h' : m_H} {v : Option Value} {rest : List Value} {k : Nat} (X : m_At D cI cL sa y cc nL ret A TB p l s m args meth c) (hd : decode cc pc0 = .ok (.invokestatic k, 3)) (hk : m_LK y.cls k M) (hK : m_MK M 4) (hst : Cond.static (m_My M) ∈ m_ws) (hC : m_Ctr M [x0, x1, x2, x3] h (.inl (v, h'))) (hlen : h'.length = h.length) (hro : (rest.map fun v => v.category).sum ≤ 8) (hrk : m_Mk M + 1 ≤ R.frames) (hrl : 8 + (m_Ml M + 11) + 32 * m_Mk M ≤ R.locals) (hcc : cu + m_Mc M ≤ R.cells) (hss : su + m_Ms M ≤ R.slots) (hp : pc = pc0)
    (kk : m_Go D cI cL ad0 n0 nL A p l e R s m args below meth c Q (pc0 + 3) ls (v.toList ++ rest) h' (cu + m_Mc M) (su + m_Ms M)) : m_Go D cI cL ad0 n0 nL A p l e R s m args below meth c Q pc ls (x3 :: x2 :: x1 :: x0 :: rest) h cu su := m_callS X hd hk hK hst hC rfl rfl hlen hro hrk hrl hcc hss hp kk
theorem m_cV4 {x0 x1 x2 x3 : Value} {M : m_M} {h' : m_H} {v : Option Value} {rest : List Value} {k q ci : Nat} {fs : List Value} (X : m_At D cI cL sa y cc nL ret A TB p l s m args meth c) (hd : decode cc pc0 = .ok (.invokevirtual k, 3)) (hk : m_LK y.cls k M) (hK : m_MK M 4) (hin : Cond.instanceMethod (m_My M) ∈ m_ws) (hse : Cond.selects (m_My M).cls (m_My M) (m_My M) ∈ m_ws) (hq : h[q]? = some (m_ob ci fs)) (hci : (m_cl[ci]?).map Prod.fst = some (m_My M).cls) (hC : m_Ctr M (.ref q :: [x0, x1, x2, x3]) h (.inl (v, h'))) (hlen : h'.length = h.length) (hro : (rest.map fun v => v.category).sum ≤ 8) (hrk : m_Mk M + 1 ≤ R.frames) (hrl : 8 + (m_Ml M + 11) + 32 * m_Mk M ≤ R.locals) (hcc : cu + m_Mc M ≤ R.cells) (hss : su + m_Ms M ≤ R.slots) (hp : pc = pc0)
    (kk : m_Go D cI cL ad0 n0 nL A p l e R s m args below meth c Q (pc0 + 3) ls (v.toList ++ rest) h' (cu + m_Mc M) (su + m_Ms M)) : m_Go D cI cL ad0 n0 nL A p l e R s m args below meth c Q pc ls (x3 :: x2 :: x1 :: x0 :: .ref q :: rest) h cu su := m_callV X hd hk hK hin hse hq hci hC rfl rfl hlen hro hrk hrl hcc hss hp kk
theorem m_tS4 {x0 x1 x2 x3 : Value} {M : m_M} {h' : m_H} {E : String} {rest : List Value} {k mc ms : Nat} {om : m_Om} (X : m_At D cI cL sa y cc nL ret A TB p l s m args meth c) (hd : decode cc pc0 = .ok (.invokestatic k, 3)) (hk : Cond.methodLink y.cls k (m_My M) ∈ m_ws) (hK : m_MK M 4) (hst : Cond.static (m_My M) ∈ m_ws) (hC : m_Ctr M [x0, x1, x2, x3] h (.inr (E, h'))) (hlen : h'.length = h.length) (hro : (rest.map fun v => v.category).sum ≤ 8) (hrk : m_Mk M + 1 ≤ R.frames) (hrl : 8 + (m_Ml M + 11) + 32 * m_Mk M ≤ R.locals) (hcc : cu + m_Mc M ≤ R.cells) (hss : su + m_Ms M ≤ R.slots) (hp : pc = pc0) (htb : TB = []) (ho : om = .inr (E, h')) (hmc : cu + m_Mc M ≤ mc) (hms : su + m_Ms M ≤ ms) : m_Go D cI cL ad0 n0 nL A p l e R s m args below meth c (m_VQ D cI cL ad0 n0 A om below args s mc ms) pc ls (x3 :: x2 :: x1 :: x0 :: rest) h cu su := m_thrS X hd hk hK hst hC rfl rfl hlen hro hrk hrl hcc hss hp htb ho hmc hms
theorem m_tV4 {x0 x1 x2 x3 : Value} {M : m_M} {h' : m_H} {E : String} {rest : List Value} {k q ci mc ms : Nat} {fs : List Value} {om : m_Om} (X : m_At D cI cL sa y cc nL ret A TB p l s m args meth c) (hd : decode cc pc0 = .ok (.invokevirtual k, 3)) (hk : Cond.methodLink y.cls k (m_My M) ∈ m_ws) (hK : m_MK M 4) (hin : Cond.instanceMethod (m_My M) ∈ m_ws) (hse : Cond.selects (m_My M).cls (m_My M) (m_My M) ∈ m_ws) (hq : h[q]? = some (m_ob ci fs)) (hci : (m_cl[ci]?).map Prod.fst = some (m_My M).cls) (hC : m_Ctr M (.ref q :: [x0, x1, x2, x3]) h (.inr (E, h'))) (hlen : h'.length = h.length) (hro : (rest.map fun v => v.category).sum ≤ 8) (hrk : m_Mk M + 1 ≤ R.frames) (hrl : 8 + (m_Ml M + 11) + 32 * m_Mk M ≤ R.locals) (hcc : cu + m_Mc M ≤ R.cells) (hss : su + m_Ms M ≤ R.slots) (hp : pc = pc0) (htb : TB = []) (ho : om = .inr (E, h')) (hmc : cu + m_Mc M ≤ mc) (hms : su + m_Ms M ≤ ms) : m_Go D cI cL ad0 n0 nL A p l e R s m args below meth c (m_VQ D cI cL ad0 n0 A om below args s mc ms) pc ls (x3 :: x2 :: x1 :: x0 :: .ref q :: rest) h cu su := m_thrV X hd hk hK hin hse hq hci hC rfl rfl hlen hro hrk hrl hcc hss hp htb ho hmc hms
theorem m_cS7 {x0 x1 x2 x3 x4 x5 x6 : Value} {M : m_M} {h' : m_H} {v : Option Value} {rest : List Value} {k : Nat} (X : m_At D cI cL sa y cc nL ret A TB p l s m args meth c) (hd : decode cc pc0 = .ok (.invokestatic k, 3)) (hk : m_LK y.cls k M) (hK : m_MK M 7) (hst : Cond.static (m_My M) ∈ m_ws) (hC : m_Ctr M [x0, x1, x2, x3, x4, x5, x6] h (.inl (v, h'))) (hlen : h'.length = h.length) (hro : (rest.map fun v => v.category).sum ≤ 8) (hrk : m_Mk M + 1 ≤ R.frames) (hrl : 8 + (m_Ml M + 11) + 32 * m_Mk M ≤ R.locals) (hcc : cu + m_Mc M ≤ R.cells) (hss : su + m_Ms M ≤ R.slots) (hp : pc = pc0)
    (kk : m_Go D cI cL ad0 n0 nL A p l e R s m args below meth c Q (pc0 + 3) ls (v.toList ++ rest) h' (cu + m_Mc M) (su + m_Ms M)) : m_Go D cI cL ad0 n0 nL A p l e R s m args below meth c Q pc ls (x6 :: x5 :: x4 :: x3 :: x2 :: x1 :: x0 :: rest) h cu su := m_callS X hd hk hK hst hC rfl rfl hlen hro hrk hrl hcc hss hp kk
theorem m_cS8 {x0 x1 x2 x3 x4 x5 x6 x7 : Value} {M : m_M} {h' : m_H} {v : Option Value} {rest : List Value} {k : Nat} (X : m_At D cI cL sa y cc nL ret A TB p l s m args meth c) (hd : decode cc pc0 = .ok (.invokestatic k, 3)) (hk : m_LK y.cls k M) (hK : m_MK M 8) (hst : Cond.static (m_My M) ∈ m_ws) (hC : m_Ctr M [x0, x1, x2, x3, x4, x5, x6, x7] h (.inl (v, h'))) (hlen : h'.length = h.length) (hro : (rest.map fun v => v.category).sum ≤ 8) (hrk : m_Mk M + 1 ≤ R.frames) (hrl : 8 + (m_Ml M + 11) + 32 * m_Mk M ≤ R.locals) (hcc : cu + m_Mc M ≤ R.cells) (hss : su + m_Ms M ≤ R.slots) (hp : pc = pc0)
    (kk : m_Go D cI cL ad0 n0 nL A p l e R s m args below meth c Q (pc0 + 3) ls (v.toList ++ rest) h' (cu + m_Mc M) (su + m_Ms M)) : m_Go D cI cL ad0 n0 nL A p l e R s m args below meth c Q pc ls (x7 :: x6 :: x5 :: x4 :: x3 :: x2 :: x1 :: x0 :: rest) h cu su := m_callS X hd hk hK hst hC rfl rfl hlen hro hrk hrl hcc hss hp kk
theorem m_cS10 {x0 x1 x2 x3 x4 x5 x6 x7 x8 x9 : Value} {M : m_M} {h' : m_H} {v : Option Value} {rest : List Value} {k : Nat} (X : m_At D cI cL sa y cc nL ret A TB p l s m args meth c) (hd : decode cc pc0 = .ok (.invokestatic k, 3)) (hk : m_LK y.cls k M) (hK : m_MK M 10) (hst : Cond.static (m_My M) ∈ m_ws) (hC : m_Ctr M [x0, x1, x2, x3, x4, x5, x6, x7, x8, x9] h (.inl (v, h'))) (hlen : h'.length = h.length) (hro : (rest.map fun v => v.category).sum ≤ 8) (hrk : m_Mk M + 1 ≤ R.frames) (hrl : 8 + (m_Ml M + 11) + 32 * m_Mk M ≤ R.locals) (hcc : cu + m_Mc M ≤ R.cells) (hss : su + m_Ms M ≤ R.slots) (hp : pc = pc0)
    (kk : m_Go D cI cL ad0 n0 nL A p l e R s m args below meth c Q (pc0 + 3) ls (v.toList ++ rest) h' (cu + m_Mc M) (su + m_Ms M)) : m_Go D cI cL ad0 n0 nL A p l e R s m args below meth c Q pc ls (x9 :: x8 :: x7 :: x6 :: x5 :: x4 :: x3 :: x2 :: x1 :: x0 :: rest) h cu su := m_callS X hd hk hK hst hC rfl rfl hlen hro hrk hrl hcc hss hp kk
end MS
end
section
/-! ===== what each step does, told once for the class and the model; numbers of the scalars: 0 zero, 1 tare, 2 band, 3 arrived (up to 4), 4..7 the latest readings, 8 lots, 9 steps, 10 state, 11 alarm, 12 held, 13 ticks in state, 14 idle, 15 step, 16 jogs, 17 greatest, 18 tared, 19 weighed, 20 batches, 21 done, 22 the model's ticks in state, 23 the model's arrived; of the rows: 0 margins, 1 flights, 2 registers, 3 untraced, 4 bins of lots, 5 filled, 6 left, 7 usage, 8 bins of steps, 9 targets, 10 tolerances, 11 the model's readings, 12 its firsts ===== -/
section MP
def bi (p : Prop) [Decidable p] : Int32 := if p then 1 else 0
theorem bi_t {p : Prop} [Decidable p] (h : p) : bi p = 1 := if_pos h
theorem bi_f {p : Prop} [Decidable p] (h : ¬ p) : bi p = 0 := if_neg h
theorem bi_01 {p : Prop} [Decidable p] : bi p = 0 ∨ bi p = 1 := by unfold bi; by_cases h : p <;> simp [h]
theorem bi_0 {p : Prop} [Decidable p] : bi p = 0 ↔ ¬ p := by unfold bi; by_cases h : p <;> simp [h]
theorem bi_nar {p : Prop} [Decidable p] : narrow .boolean (.int (bi p)) = .int (bi p) := by rcases bi_01 (p := p) with h | h <;> rw [h] <;> rfl
theorem i_le {x y : Int32} : x ≤ y ↔ x.toInt ≤ y.toInt := Int32.le_iff_toInt_le
theorem i_lt {x y : Int32} : x < y ↔ x.toInt < y.toInt := Int32.lt_iff_toInt_lt
theorem i_nlt {x y : Int32} : ¬ x < y ↔ y ≤ x := by rw [i_le, i_lt]; omega
theorem i_nle {x y : Int32} : ¬ x ≤ y ↔ y < x := by rw [i_le, i_lt]; omega
theorem vi_iff {i : Int32} {n : Nat} (hn : n < 2 ^ 31) : vp_in i n ↔ ¬ i < 0 ∧ ¬ Int32.ofNat n ≤ i := by
  unfold vp_in
  rw [not_or, Int32.le_iff_toInt_le, Int32.lt_iff_toInt_lt, show (Int32.ofNat n).toInt = (n : Int) from nI_toInt hn, Int32.toInt_zero]
  have h1 : i.toNatClampNeg = i.toInt.toNat := rfl
  rw [h1]
  omega
theorem vi_0 {i : Int32} {n : Nat} (hn : n < 2 ^ 31) (h : vp_in i n) : ¬ i < 0 := ((vi_iff hn).mp h).1
theorem vi_1 {i : Int32} {n : Nat} (hn : n < 2 ^ 31) (h : vp_in i n) : ¬ Int32.ofNat n ≤ i := ((vi_iff hn).mp h).2
abbrev m_V : Type := Nat → Int32
abbrev m_R : Type := Nat → Nat → Int32
def gross (v : m_V) : Int32 := v 4 - v 0
def net (v : m_V) : Int32 := gross v - v 1
def mx2 (x z : Int32) : Int32 := if x < z then z else x
def mn2 (x z : Int32) : Int32 := if z < x then z else x
abbrev calm (v : m_V) : Prop := ¬ v 3 < 4 ∧ ¬ v 2 < mx2 (mx2 (v 4) (v 5)) (mx2 (v 6) (v 7)) - mn2 (mn2 (v 4) (v 5)) (mn2 (v 6) (v 7))
def sTake (v : m_V) (r : Int32) : m_V := upd (upd (upd (upd (upd (upd v 7 (v 6)) 6 (v 5)) 5 (v 4)) 4 r) 3 (if 4 ≤ v 3 then v 3 else v 3 + 1)) 23 (v 23 + 1)
def sRing (v : m_V) (a : m_R) (r : Int32) : m_R := va_up a 11 (upd (a 11) (v 23 - v 23 / 4 * 4).toNatClampNeg r)
def sMoved (v : m_V) : Int32 := v 0 + (if gross v ≤ 0 then -1 else 1)
def sTrack (v : m_V) : m_V := if gross v = 0 then v else if bi (-10 ≤ gross v ∧ gross v ≤ 10) = 0 then v else if ¬ bi (calm v) = 0 then (if bi (-500 ≤ sMoved v ∧ sMoved v ≤ 500) = 0 then v else upd v 0 (sMoved v)) else v
def sbin (v : m_V) (a : m_R) : Int32 := a 8 (v 15).toNatClampNeg
def stgt (v : m_V) (a : m_R) : Int32 := a 9 (v 15).toNatClampNeg
def stol (v : m_V) (a : m_R) : Int32 := a 10 (v 15).toNatClampNeg
def sEnter (v : m_V) (n : Int32) : m_V := upd (upd (upd (upd v 10 n) 13 0) 22 0) 11 0
def sHalt (v : m_V) (r : Int32) : m_V := upd (upd (upd (upd (upd v 12 (v 10)) 10 6) 13 0) 22 0) 11 r
def sBegin (v : m_V) (n : Int32) : m_V := sEnter (upd (upd (upd (upd (upd (upd v 15 n) 16 0) 14 0) 17 0) 18 0) 19 0) 1
def sTare (v : m_V) (a : m_R) : m_V := if bi (calm v) = 0 then v else sEnter (upd (upd v 1 (gross v)) 18 1) (if stgt v a ≤ a 0 (sbin v a).toNatClampNeg then 3 else 2)
def sIdle (v : m_V) : m_V := if net v ≤ v 17 then upd v 14 (v 14 + 1) else upd (upd v 17 (net v)) 14 0
def sAhead (v : m_V) (a : m_R) : Int32 := if ¬ v 10 = 2 then a 1 (sbin v a).toNatClampNeg else a 0 (sbin v a).toNatClampNeg
def sFeed (v : m_V) (a : m_R) : m_V := if net v < stgt v a - sAhead v a then (if (sIdle v) 14 < 20 then sIdle v else sHalt (sIdle v) 3) else sEnter (sIdle v) (if ¬ v 10 = 2 then 4 else 3)
def sGate (v : m_V) (a : m_R) (b : Int32) : Int32 := if ¬ sbin v a = b then 0 else if ¬ v 10 = 2 then (if v 10 = 3 then 1 else if ¬ v 10 = 5 then 0 else 1) else 2
def clampF (x : Int32) : Int32 := mx2 0 (mn2 500 x)
def fl4 (x : Int32) : Int32 := if 0 ≤ x ^^^ 4 then x / 4 else if x / 4 * 4 = x then x / 4 else x / 4 - 1
def sLearn (a : m_R) (bin err : Int32) : m_R := va_up a 1 (upd (a 1) bin.toNatClampNeg (clampF (a 1 bin.toNatClampNeg + fl4 err)))
def plc (i : Nat) (cur : Int32) : Nat := (nI i * 20 + cur).toNatClampNeg
/-- lot i, with what is still to be taken, what is left, used, and the first batches -/
abbrev m_L : Type := Int32 × (Nat → Int32) × (Nat → Int32) × (Nat → Int32)
def sLot1 (bin cur : Int32) (lb : Nat → Int32) (i : Nat) (s : m_L) : m_L :=
  if ¬ lb i = bin then s else
    (s.1 - mn2 s.1 (s.2.1 i), upd s.2.1 i (s.2.1 i + -(mn2 s.1 (s.2.1 i))), upd s.2.2.1 (plc i cur) (s.2.2.1 (plc i cur) + mn2 s.1 (s.2.1 i)), upd s.2.2.2 i (if 0 < mn2 s.1 (s.2.1 i) ∧ s.2.2.2 i = -1 then cur else s.2.2.2 i))
def sLots (bin cur : Int32) (lb : Nat → Int32) : Nat → m_L → m_L
  | 0, s => s
  | n + 1, s => sLot1 bin cur lb n (sLots bin cur lb n s)
def sTook (bin amount cur : Int32) (v : m_V) (a : m_R) : m_L := sLots bin cur (a 4) (v 8).toNatClampNeg (amount, a 6, a 7, a 12)
def sOut (bin amount cur : Int32) (v : m_V) (a : m_R) : m_R := va_up (va_up (va_up a 6 (sTook bin amount cur v a).2.1) 7 (sTook bin amount cur v a).2.2.1) 12 (sTook bin amount cur v a).2.2.2
def sAmt (v : m_V) : Int32 := mx2 0 (net v)
def sBook (v : m_V) (a : m_R) : m_R :=
  va_up (va_up (sOut (sbin v a) (sAmt v) (v 20 - 1) v a) 2 (upd (a 2) (sbin v a).toNatClampNeg (a 2 (sbin v a).toNatClampNeg + sAmt v)))
    3 (upd (a 3) (sbin v a).toNatClampNeg (a 3 (sbin v a).toNatClampNeg + (sAmt v - (sAmt v - (sTook (sbin v a) (sAmt v) (v 20 - 1) v a).1))))
def sFinish (v : m_V) : m_V := if v 9 ≤ v 15 + 1 then sEnter (upd v 21 (v 21 + 1)) 0 else sBegin v (v 15 + 1)
def sErr (v : m_V) (a : m_R) : Int32 := net v - stgt v a
def sJog (v : m_V) : m_V := if 5 ≤ v 16 then sHalt v 1 else sEnter (upd v 16 (v 16 + 1)) 5
def sW1 (v : m_V) : m_V := if ¬ v 19 = 0 then v else upd v 19 1
def sW2 (v : m_V) (a : m_R) : m_R := if ¬ v 19 = 0 then a else sLearn a (sbin v a) (sErr v a)
def sWeighV (v : m_V) (a : m_R) : m_V := if -(stol v a) ≤ sErr v a then (if sErr v a ≤ stol v a then sFinish (sW1 v) else sHalt (sW1 v) 2) else sJog (sW1 v)
def sWeighA (v : m_V) (a : m_R) : m_R := if -(stol v a) ≤ sErr v a then (if sErr v a ≤ stol v a then sBook (sW1 v) (sW2 v a) else sW2 v a) else sW2 v a
def sStock (b : Int32) (a : m_R) : Nat → Int32
  | 0 => 0
  | n + 1 => sStock b a n + (if ¬ a 4 n = b then 0 else a 6 n)
def sGone (b : Int32) (a : m_R) : Nat → Int32
  | 0 => 0
  | n + 1 => sGone b a n + (if ¬ a 4 n = b then 0 else a 5 n - a 6 n)
def sFillA (b am : Int32) (v : m_V) (a : m_R) : m_R := va_up (va_up (va_up (va_up a 4 (upd (a 4) (v 8).toNatClampNeg b)) 5 (upd (a 5) (v 8).toNatClampNeg am)) 6 (upd (a 6) (v 8).toNatClampNeg am)) 12 (upd (a 12) (v 8).toNatClampNeg (-1))
def sAppA (b tg tl : Int32) (v : m_V) (a : m_R) : m_R := va_up (va_up (va_up a 8 (upd (a 8) (v 9).toNatClampNeg b)) 9 (upd (a 9) (v 9).toNatClampNeg tg)) 10 (upd (a 10) (v 9).toNatClampNeg tl)
def sGoOnV (v : m_V) : m_V := if v 11 = 1 then sFinish v else if ¬ v 11 = 2 then sEnter (upd v 14 0) (v 12) else sFinish v
def sGoOnA (v : m_V) (a : m_R) : m_R := if v 11 = 1 then sBook v a else if ¬ v 11 = 2 then a else sBook v a
/-- which batch was the first for lot i, among B -/
def sFst (a : m_R) (i B : Nat) : Prop := (a 12 i = -1 ∧ ∀ b, b < B → ¬ 0 < a 7 (i * 20 + b)) ∨ ∃ b, b < B ∧ a 12 i = nI b ∧ 0 < a 7 (i * 20 + b) ∧ ∀ b', b' < b → ¬ 0 < a 7 (i * 20 + b')
/-- a reading has come: counted in its state -/
def sCount (v : m_V) (r : Int32) : m_V := upd (upd (sTake v r) 13 (v 13 + 1)) 22 (if v 10 = 0 ∨ v 10 = 6 then v 22 else v 22 + 1)
def sGoV (v : m_V) (a : m_R) : m_V :=
  if v 10 = 0 then sTrack v else if v 10 = 1 then sTare v a else if v 10 = 2 ∨ v 10 = 3 then sFeed v a
  else if v 10 = 4 then (if v 13 < 4 then v else if bi (calm v) = 0 then v else sWeighV v a)
  else if v 10 = 5 then (if v 13 < 2 then v else sEnter v 4) else v
def sGoA (v : m_V) (a : m_R) : m_R := if v 10 = 4 then (if v 13 < 4 then a else if bi (calm v) = 0 then a else sWeighA v a) else a
def sBringV (v : m_V) (a : m_R) (r : Int32) : m_V := sGoV (sCount v r) (sRing v a r)
def sBringA (v : m_V) (a : m_R) (r : Int32) : m_R := sGoA (sCount v r) (sRing v a r)
/-- what the class needs of its own state to go on -/
def kI (v : m_V) (a : m_R) : Prop := vp_in (v 15) 6 ∧ vp_in (sbin v a) 4 ∧ (∃ L, L ≤ 30 ∧ v 8 = nI L) ∧ (¬ v 10 = 0 → ∃ B, B < 20 ∧ v 20 = nI (B + 1)) ∧ (v 10 = 0 ∨ v 10 = 1 ∨ v 10 = 2 ∨ v 10 = 3 ∨ v 10 = 4 ∨ v 10 = 5 ∨ v 10 = 6)
/-- the same reading several times -/
def sTicks (r : Int32) : Nat → m_V → m_R → m_V × m_R
  | 0, v, a => (v, a)
  | n + 1, v, a => (sBringV (sTicks r n v a).1 (sTicks r n v a).2 r, sBringA (sTicks r n v a).1 (sTicks r n v a).2 r)
end MP
end
section
section ML
theorem c_X5_isWithin {h : m_H} {x lo hi : Int32} : m_Ctr M_X5_isWithin [.int x, .int lo, .int hi] h (.inl (some (.int (bi (lo ≤ x ∧ x ≤ hi))), h)) := by
  refine m_intro (by decide +kernel) (Nat.le_of_ble_eq_true rfl) (fun X => ?_)
  refine m_iload_n X dX5_isWithin_0 rfl rfl ?_
  refine m_iload_n X dX5_isWithin_1 rfl rfl ?_
  refine m_icmp_lt (tgt := 14) X dX5_isWithin_2 (by decide) rfl (fun b2 => ?_) (fun b2 => ?_)
  · refine m_iconst (v := 0) X dX5_isWithin_14 (by decide) rfl ?_
    exact m_zret X dX5_isWithin_15 rfl (by decide) (by rw [bi_f (fun q => absurd q.1 (by rw [i_nle]; exact b2))]) (Nat.le_of_ble_eq_true rfl) (Nat.le_of_ble_eq_true rfl) rfl
  · rw [i_nlt] at b2
    refine m_iload_n X dX5_isWithin_5 rfl rfl ?_
    refine m_iload_n X dX5_isWithin_6 rfl rfl ?_
    refine m_icmp_gt (tgt := 14) X dX5_isWithin_7 (by decide) rfl (fun b7 => ?_) (fun b7 => ?_)
    · rw [← i_nle] at b7
      refine m_iconst (v := 0) X dX5_isWithin_14 (by decide) rfl ?_
      exact m_zret X dX5_isWithin_15 rfl (by decide) (by rw [bi_f (fun q => absurd q.2 b7)]) (Nat.le_of_ble_eq_true rfl) (Nat.le_of_ble_eq_true rfl) rfl
    · rw [i_nlt] at b7
      refine m_iconst (v := 1) X dX5_isWithin_10 (by decide) rfl ?_
      refine m_goto (tgt := 15) X dX5_isWithin_11 (by decide) rfl ?_
      exact m_zret X dX5_isWithin_15 rfl (by decide) (by rw [bi_t ⟨b2, b7⟩]) (Nat.le_of_ble_eq_true rfl) (Nat.le_of_ble_eq_true rfl) rfl
theorem c_X5_at {h : m_H} {q n : Nat} {f : Nat → Int32} {i : Int32} (hq : h[q]? = some (m_ia n f)) (hn : n < 2 ^ 31) (hi : vp_in i n) : m_Ctr M_X5_at [.ref q, .int i] h (.inl (some (.int (f i.toNatClampNeg)), h)) := by
  refine m_intro (by decide +kernel) (Nat.le_of_ble_eq_true rfl) (fun X => ?_)
  refine m_iload_n X dX5_at_0 rfl rfl ?_
  refine m_if_lt (tgt := 16) X dX5_at_1 (by decide) rfl (fun b1 => absurd b1 (vi_0 hn hi)) (fun b1 => ?_)
  refine m_iload_n X dX5_at_4 rfl rfl ?_
  refine m_aload_n X dX5_at_5 rfl rfl ?_
  refine m_alen X dX5_at_6 hq rfl ?_
  refine m_icmp_ge (tgt := 16) X dX5_at_7 (by decide) rfl (fun b7 => absurd b7 (vi_1 hn hi)) (fun b7 => ?_)
  refine m_aload_n X dX5_at_10 rfl rfl ?_
  refine m_iload_n X dX5_at_11 rfl rfl ?_
  refine m_iald X dX5_at_12 hq (hi) rfl ?_
  refine m_goto (tgt := 17) X dX5_at_13 (by decide) rfl ?_
  exact m_iret X dX5_at_17 rfl (rfl) (Nat.le_of_ble_eq_true rfl) (Nat.le_of_ble_eq_true rfl) rfl
theorem c_X5_put {h : m_H} {q n : Nat} {f : Nat → Int32} {i : Int32} (hq : h[q]? = some (m_ia n f)) (hn : n < 2 ^ 31) (hi : vp_in i n) {x : Int32} : m_Ctr M_X5_put [.ref q, .int i, .int x] h (.inl (none, h.set q (m_ia n (upd f i.toNatClampNeg x)))) := by
  refine m_intro (by decide +kernel) (Nat.le_of_ble_eq_true rfl) (fun X => ?_)
  refine m_iload_n X dX5_put_0 rfl rfl ?_
  refine m_if_lt (tgt := 14) X dX5_put_1 (by decide) rfl (fun b1 => absurd b1 (vi_0 hn hi)) (fun b1 => ?_)
  refine m_iload_n X dX5_put_4 rfl rfl ?_
  refine m_aload_n X dX5_put_5 rfl rfl ?_
  refine m_alen X dX5_put_6 hq rfl ?_
  refine m_icmp_ge (tgt := 14) X dX5_put_7 (by decide) rfl (fun b7 => absurd b7 (vi_1 hn hi)) (fun b7 => ?_)
  refine m_aload_n X dX5_put_10 rfl rfl ?_
  refine m_iload_n X dX5_put_11 rfl rfl ?_
  refine m_iload_n X dX5_put_12 rfl rfl ?_
  refine m_iast X dX5_put_13 hq (hi) rfl ?_
  exact m_vret X dX5_put_14 rfl (rfl) (Nat.le_of_ble_eq_true rfl) (Nat.le_of_ble_eq_true rfl) rfl
theorem c_X5_increase {h : m_H} {q n : Nat} {f : Nat → Int32} {i : Int32} (hq : h[q]? = some (m_ia n f)) (hn : n < 2 ^ 31) (hi : vp_in i n) {x : Int32} : m_Ctr M_X5_increase [.ref q, .int i, .int x] h (.inl (none, h.set q (m_ia n (upd f i.toNatClampNeg (f i.toNatClampNeg + x))))) := by
  refine m_intro (by decide +kernel) (Nat.le_of_ble_eq_true rfl) (fun X => ?_)
  refine m_iload_n X dX5_increase_0 rfl rfl ?_
  refine m_if_lt (tgt := 17) X dX5_increase_1 (by decide) rfl (fun b1 => absurd b1 (vi_0 hn hi)) (fun b1 => ?_)
  refine m_iload_n X dX5_increase_4 rfl rfl ?_
  refine m_aload_n X dX5_increase_5 rfl rfl ?_
  refine m_alen X dX5_increase_6 hq rfl ?_
  refine m_icmp_ge (tgt := 17) X dX5_increase_7 (by decide) rfl (fun b7 => absurd b7 (vi_1 hn hi)) (fun b7 => ?_)
  refine m_aload_n X dX5_increase_10 rfl rfl ?_
  refine m_iload_n X dX5_increase_11 rfl rfl ?_
  refine m_dup2 X dX5_increase_12 rfl rfl rfl ?_
  refine m_iald X dX5_increase_13 hq (hi) rfl ?_
  refine m_iload_n X dX5_increase_14 rfl rfl ?_
  refine m_iadd X dX5_increase_15 rfl ?_
  refine m_iast X dX5_increase_16 hq (hi) rfl ?_
  exact m_vret X dX5_increase_17 rfl (rfl) (Nat.le_of_ble_eq_true rfl) (Nat.le_of_ble_eq_true rfl) rfl
theorem c_X2_place {h : m_H} {x z : Int32} : m_Ctr M_X2_place [.int x, .int z] h (.inl (some (.int (x * 20 + z)), h)) := by
  refine m_intro (by decide +kernel) (Nat.le_of_ble_eq_true rfl) (fun X => ?_)
  refine m_iload_n X dX2_place_0 rfl rfl ?_
  refine m_bipush (v := (20)) X dX2_place_1 (by decide) rfl ?_
  refine m_imul X dX2_place_3 rfl ?_
  refine m_iload_n X dX2_place_4 rfl rfl ?_
  refine m_iadd X dX2_place_5 rfl ?_
  exact m_iret X dX2_place_6 rfl (rfl) (Nat.le_of_ble_eq_true rfl) (Nat.le_of_ble_eq_true rfl) rfl
theorem vx_ofWF {l : Launch} {y : MethodName} {ws ws' : List Cond} {rm : Room} {Pc : Array Value → State → Prop} {Qc : Array Value → State → Outcome → State → Prop} {XC : String → State → State → Prop} {mc ms : Nat} {free : Addr → Prop} {cc : ByteArray} {maxL : Nat} {ret : Option FieldType}
    (hy : plainFor y = true) (hw : ws = Cond.code y cc maxL ret :: ws')
    (body : ∀ p e s m args below meth c s₁, BodyLoose p l y (headSpec ws rm) cc maxL ret e s m args below meth c s₁ → c.maxLocals = maxL → (∀ x ∈ c.exceptionTable.toList, False) → Pc args s →
      W p l e (headSpec ws rm).room s m args below meth c s.heap [] 0 0 (vx_MQ below Qc XC args s mc ms free) (entryFrame m args maxL)) : vx_Met l y ws rm Pc Qc XC mc ms free := by
  refine MetFree.of_bodySF (code := cc) (maxLocals := maxL) (ret := ret) hy ?_ ?_
  · intro args s m h hn
    obtain ⟨meth, c, h1, h2, h3, h4, h5, h6, -, -⟩ := Cond.code_spec hn (atoms_spec (ws := ws) h _ (by rw [hw]; exact List.mem_cons_self))
    exact ⟨meth, c, h1, h2, h3, h4, h5, h6⟩
  · intro p e s m args below meth c s₁ B hml hP _
    have hh0 : s₁.heap = s.heap := by rw [B.state]; rfl
    have ht : ∀ x ∈ c.exceptionTable.toList, False := by
      obtain ⟨meth9, c9, h1, h2, -, -, -, -, h7, -⟩ := Cond.code_spec B.named (atoms_spec (ws := ws) B.pre _ (by rw [hw]; exact List.mem_cons_self))
      cases Option.some.inj (h1.symm.trans B.method)
      cases Option.some.inj (h2.symm.trans (Stand.of_body B).code)
      intro x hx
      rw [Array.isEmpty_iff.mp h7] at hx
      cases hx
    obtain ⟨t, a1, o, b1, b2, b3⟩ := body p e s m args below meth c s₁ B hml ht hP s₁ hh0 (Stand.of_body B)
    exact ⟨t, o, a1, b1, b2, b3⟩
theorem m_introF {M : m_M} {as : List Value} {h : m_H} {om : m_Om} (hy : plainFor (m_My M) = true) (hsz : (lg_sl as).length ≤ m_Ml M)
    (body : ∀ {D : va_G} {cI cL : ClassId} {sa : Nat → Nat} {A : Nat → Prop} {p : Program} {l : Launch} {e : Env} {s : State} {m : MethodId} {args : Array Value} {below : List Frame} {meth : Method} {c : Code} {ad : Nat → Nat}, m_At D cI cL sa (m_My M) (m_Mb M) (m_Ml M) (m_Mr M) A [] p l s m args meth c →
      m_Go D cI cL ad h.length (m_Ml M) A p l e (m_rm M) s m args below meth c (m_VQ D cI cL ad h.length A om below args s (m_Mc M) (m_Ms M)) 0 (lv_args 0 as) [] h 0 0) : m_Ctr M as h om := by
  intro l D cI cL sa ad sz hl
  refine vx_ofWF (cc := m_Mb M) (maxL := m_Ml M) (ret := m_Mr M) hy rfl ?_
  intro p e s m args below meth c s₁ B hml ht hv
  obtain ⟨rfl, hsz9, hP, hD0, hK, hE⟩ := hv
  subst hsz9
  have hD := hD0.self (sz := s.heap.size)
  have hts := atoms_spec (ws := m_Ws M) B.pre
  have X : m_At D cI cL sa (m_My M) (m_Mb M) (m_Ml M) (m_Mr M) (va_A (m_w cI cL ad h) s.heap.size) [] p l s m (as.map (m_v ad)).toArray meth c :=
    ⟨B.exec, B.bytes, hml, B.returns, B.notSynchronized, (name_of_methodNamed B.named B.method).1, findClass_of_methodNamed B.named, fun w hw => hts w (List.mem_cons_of_mem _ hw), hK, hE, fun q hq => Or.inr hq, hl, List.eq_nil_iff_forall_not_mem.mpr ht⟩
  have hl9 := lv_entry (as.map (m_v ad)) (n := m_Ml M) (by rw [m_lsl]; exact hsz)
  rw [m_largs] at hl9
  rw [lg_entry_eq]
  exact body X ad s.heap [] _ (Nat.le_refl _) (fun _ _ => rfl) hP hD va_S.rf hl9
theorem c_J9_floorDiv_7cf53 {h : m_H} {x : Int32} : m_Ctr M_J9_floorDiv_7cf53 [.int x, .int 4] h (.inl (some (.int (fl4 x)), h)) := by
  refine m_introF (by decide +kernel) (Nat.le_of_ble_eq_true rfl) (fun X => ?_)
  refine m_iload_n X dJ9_floorDiv_7cf53_0 rfl rfl ?_
  refine m_iload_n X dJ9_floorDiv_7cf53_1 rfl rfl ?_
  refine m_idiv X dJ9_floorDiv_7cf53_2 (by decide) rfl ?_
  refine m_istore_n X dJ9_floorDiv_7cf53_3 (Nat.le_of_ble_eq_true rfl) rfl ?_
  refine m_iload_n X dJ9_floorDiv_7cf53_4 rfl rfl ?_
  refine m_iload_n X dJ9_floorDiv_7cf53_5 rfl rfl ?_
  refine m_ixor X dJ9_floorDiv_7cf53_6 rfl ?_
  refine m_if_ge (tgt := 21) X dJ9_floorDiv_7cf53_7 (by decide) rfl (fun b7 => ?_) (fun b7 => ?_)
  · refine m_iload_n X dJ9_floorDiv_7cf53_21 rfl rfl ?_
    exact m_iret X dJ9_floorDiv_7cf53_22 rfl (by unfold fl4; try (first | rw [if_pos b7] | rw [if_neg b7] | rw [if_neg (not_not_intro b7)]); try rfl) (Nat.le_of_ble_eq_true rfl) (Nat.le_of_ble_eq_true rfl) rfl
  · refine m_iload_n X dJ9_floorDiv_7cf53_10 rfl rfl ?_
    refine m_iload_n X dJ9_floorDiv_7cf53_11 rfl rfl ?_
    refine m_imul X dJ9_floorDiv_7cf53_12 rfl ?_
    refine m_iload_n X dJ9_floorDiv_7cf53_13 rfl rfl ?_
    refine m_icmp_eq (tgt := 21) X dJ9_floorDiv_7cf53_14 (by decide) rfl (fun b14 => ?_) (fun b14 => ?_)
    · refine m_iload_n X dJ9_floorDiv_7cf53_21 rfl rfl ?_
      exact m_iret X dJ9_floorDiv_7cf53_22 rfl (by unfold fl4; try (first | rw [if_pos b7] | rw [if_neg b7] | rw [if_neg (not_not_intro b7)]); try (first | rw [if_pos b14] | rw [if_neg b14] | rw [if_neg (not_not_intro b14)]); try rfl) (Nat.le_of_ble_eq_true rfl) (Nat.le_of_ble_eq_true rfl) rfl
    · refine m_iload_n X dJ9_floorDiv_7cf53_17 rfl rfl ?_
      refine m_iconst (v := 1) X dJ9_floorDiv_7cf53_18 (by decide) rfl ?_
      refine m_isub X dJ9_floorDiv_7cf53_19 rfl ?_
      exact m_iret X dJ9_floorDiv_7cf53_20 rfl (by unfold fl4; try (first | rw [if_pos b7] | rw [if_neg b7] | rw [if_neg (not_not_intro b7)]); try (first | rw [if_pos b14] | rw [if_neg b14] | rw [if_neg (not_not_intro b14)]); try rfl) (Nat.le_of_ble_eq_true rfl) (Nat.le_of_ble_eq_true rfl) rfl
end ML
end
section
section MK
theorem c_X4_take {v : m_V} {a : m_R} {x : Int64} {t : m_H} {r : Int32} : m_Ctr M_X4_take [.ref 2, .int r] (hC v a x t) (.inl (none, hC (sTake v r) a x t)) := by
  refine m_intro (by decide +kernel) (Nat.le_of_ble_eq_true rfl) (fun X => ?_)
  refine m_aload_n X dX4_take_0 rfl rfl ?_
  refine m_aload_n X dX4_take_1 rfl rfl ?_
  refine m_getf (v := .int (v 6)) X dX4_take_2 fl_X4_15 rfl rfl rfl ?_
  refine m_piC 7 X dX4_take_5 fl_X4_18 fp_X4_7 rfl rfl rfl rfl ?_
  refine m_aload_n X dX4_take_8 rfl rfl ?_
  refine m_aload_n X dX4_take_9 rfl rfl ?_
  refine m_getf (v := .int (v 5)) X dX4_take_10 fl_X4_21 rfl rfl rfl ?_
  refine m_piC 6 X dX4_take_13 fl_X4_15 fp_X4_6 rfl rfl rfl rfl ?_
  refine m_aload_n X dX4_take_16 rfl rfl ?_
  refine m_aload_n X dX4_take_17 rfl rfl ?_
  refine m_getf (v := .int (v 4)) X dX4_take_18 fl_X4_24 rfl rfl rfl ?_
  refine m_piC 5 X dX4_take_21 fl_X4_21 fp_X4_5 rfl rfl rfl rfl ?_
  refine m_aload_n X dX4_take_24 rfl rfl ?_
  refine m_iload_n X dX4_take_25 rfl rfl ?_
  refine m_piC 4 X dX4_take_26 fl_X4_24 fp_X4_4 rfl rfl rfl rfl ?_
  refine m_aload_n X dX4_take_29 rfl rfl ?_
  refine m_getf (v := .int (v 3)) X dX4_take_30 fl_X4_27 rfl rfl rfl ?_
  refine m_iconst (v := 4) X dX4_take_33 (by decide) rfl ?_
  refine m_icmp_ge (tgt := 47) X dX4_take_34 (by decide) rfl (fun b34 => ?_) (fun b34 => ?_)
  · exact m_vret X dX4_take_47 rfl (by unfold sTake; try (first | rw [if_pos b34] | rw [if_neg b34] | rw [if_neg (not_not_intro b34)]); try rfl) (Nat.le_of_ble_eq_true rfl) (Nat.le_of_ble_eq_true rfl) rfl
  · refine m_aload_n X dX4_take_37 rfl rfl ?_
    refine m_dup X dX4_take_38 rfl rfl ?_
    refine m_getf (v := .int (v 3)) X dX4_take_39 fl_X4_27 rfl rfl rfl ?_
    refine m_iconst (v := 1) X dX4_take_42 (by decide) rfl ?_
    refine m_iadd X dX4_take_43 rfl ?_
    refine m_piC 3 X dX4_take_44 fl_X4_27 fp_X4_3 rfl rfl rfl rfl ?_
    exact m_vret X dX4_take_47 rfl (by unfold sTake; try (first | rw [if_pos b34] | rw [if_neg b34] | rw [if_neg (not_not_intro b34)]); try rfl) (Nat.le_of_ble_eq_true rfl) (Nat.le_of_ble_eq_true rfl) rfl
theorem c_X4_isCalm {v : m_V} {a : m_R} {x : Int64} {t : m_H}  : m_Ctr M_X4_isCalm [.ref 2] (hC v a x t) (.inl (some (.int (bi (calm v))), hC v a x t)) := by
  refine m_intro (by decide +kernel) (Nat.le_of_ble_eq_true rfl) (fun X => ?_)
  refine m_aload_n X dX4_isCalm_0 rfl rfl ?_
  refine m_getf (v := .int (v 4)) X dX4_isCalm_1 fl_X4_24 rfl rfl rfl ?_
  refine m_aload_n X dX4_isCalm_4 rfl rfl ?_
  refine m_getf (v := .int (v 5)) X dX4_isCalm_5 fl_X4_21 rfl rfl rfl ?_
  refine m_mmax X dX4_isCalm_8 lm_X4_30 (Nat.le_of_ble_eq_true rfl) (Nat.le_of_ble_eq_true rfl) (Nat.le_of_ble_eq_true rfl) (Nat.le_of_ble_eq_true rfl) rfl ?_
  refine m_aload_n X dX4_isCalm_11 rfl rfl ?_
  refine m_getf (v := .int (v 6)) X dX4_isCalm_12 fl_X4_15 rfl rfl rfl ?_
  refine m_aload_n X dX4_isCalm_15 rfl rfl ?_
  refine m_getf (v := .int (v 7)) X dX4_isCalm_16 fl_X4_18 rfl rfl rfl ?_
  refine m_mmax X dX4_isCalm_19 lm_X4_30 (Nat.le_of_ble_eq_true rfl) (Nat.le_of_ble_eq_true rfl) (Nat.le_of_ble_eq_true rfl) (Nat.le_of_ble_eq_true rfl) rfl ?_
  refine m_mmax X dX4_isCalm_22 lm_X4_30 (Nat.le_of_ble_eq_true rfl) (Nat.le_of_ble_eq_true rfl) (Nat.le_of_ble_eq_true rfl) (Nat.le_of_ble_eq_true rfl) rfl ?_
  refine m_istore_n X dX4_isCalm_25 (Nat.le_of_ble_eq_true rfl) rfl ?_
  refine m_aload_n X dX4_isCalm_26 rfl rfl ?_
  refine m_getf (v := .int (v 4)) X dX4_isCalm_27 fl_X4_24 rfl rfl rfl ?_
  refine m_aload_n X dX4_isCalm_30 rfl rfl ?_
  refine m_getf (v := .int (v 5)) X dX4_isCalm_31 fl_X4_21 rfl rfl rfl ?_
  refine m_mmin X dX4_isCalm_34 lm_X4_36 (Nat.le_of_ble_eq_true rfl) (Nat.le_of_ble_eq_true rfl) (Nat.le_of_ble_eq_true rfl) (Nat.le_of_ble_eq_true rfl) rfl ?_
  refine m_aload_n X dX4_isCalm_37 rfl rfl ?_
  refine m_getf (v := .int (v 6)) X dX4_isCalm_38 fl_X4_15 rfl rfl rfl ?_
  refine m_aload_n X dX4_isCalm_41 rfl rfl ?_
  refine m_getf (v := .int (v 7)) X dX4_isCalm_42 fl_X4_18 rfl rfl rfl ?_
  refine m_mmin X dX4_isCalm_45 lm_X4_36 (Nat.le_of_ble_eq_true rfl) (Nat.le_of_ble_eq_true rfl) (Nat.le_of_ble_eq_true rfl) (Nat.le_of_ble_eq_true rfl) rfl ?_
  refine m_mmin X dX4_isCalm_48 lm_X4_36 (Nat.le_of_ble_eq_true rfl) (Nat.le_of_ble_eq_true rfl) (Nat.le_of_ble_eq_true rfl) (Nat.le_of_ble_eq_true rfl) rfl ?_
  refine m_istore_n X dX4_isCalm_51 (Nat.le_of_ble_eq_true rfl) rfl ?_
  refine m_aload_n X dX4_isCalm_52 rfl rfl ?_
  refine m_getf (v := .int (v 3)) X dX4_isCalm_53 fl_X4_27 rfl rfl rfl ?_
  refine m_iconst (v := 4) X dX4_isCalm_56 (by decide) rfl ?_
  refine m_icmp_lt (tgt := 74) X dX4_isCalm_57 (by decide) rfl (fun b57 => ?_) (fun b57 => ?_)
  · refine m_iconst (v := 0) X dX4_isCalm_74 (by decide) rfl ?_
    exact m_zret X dX4_isCalm_75 rfl (by decide) (by rw [bi_f (fun q => q.1 b57)]) (Nat.le_of_ble_eq_true rfl) (Nat.le_of_ble_eq_true rfl) rfl
  · refine m_iload_n X dX4_isCalm_60 rfl rfl ?_
    refine m_iload_n X dX4_isCalm_61 rfl rfl ?_
    refine m_isub X dX4_isCalm_62 rfl ?_
    refine m_aload_n X dX4_isCalm_63 rfl rfl ?_
    refine m_getf (v := .int (v 2)) X dX4_isCalm_64 fl_X4_9 rfl rfl rfl ?_
    refine m_icmp_gt (tgt := 74) X dX4_isCalm_67 (by decide) rfl (fun b67 => ?_) (fun b67 => ?_)
    · refine m_iconst (v := 0) X dX4_isCalm_74 (by decide) rfl ?_
      exact m_zret X dX4_isCalm_75 rfl (by decide) (by rw [bi_f (fun q => q.2 b67)]) (Nat.le_of_ble_eq_true rfl) (Nat.le_of_ble_eq_true rfl) rfl
    · refine m_iconst (v := 1) X dX4_isCalm_70 (by decide) rfl ?_
      refine m_goto (tgt := 75) X dX4_isCalm_71 (by decide) rfl ?_
      exact m_zret X dX4_isCalm_75 rfl (by decide) (by rw [bi_t ⟨b57, b67⟩]) (Nat.le_of_ble_eq_true rfl) (Nat.le_of_ble_eq_true rfl) rfl
theorem c_X4_grossNow {v : m_V} {a : m_R} {x : Int64} {t : m_H}  : m_Ctr M_X4_grossNow [.ref 2] (hC v a x t) (.inl (some (.int (gross v)), hC v a x t)) := by
  refine m_intro (by decide +kernel) (Nat.le_of_ble_eq_true rfl) (fun X => ?_)
  refine m_aload_n X dX4_grossNow_0 rfl rfl ?_
  refine m_getf (v := .int (v 4)) X dX4_grossNow_1 fl_X4_24 rfl rfl rfl ?_
  refine m_aload_n X dX4_grossNow_4 rfl rfl ?_
  refine m_getf (v := .int (v 0)) X dX4_grossNow_5 fl_X4_39 rfl rfl rfl ?_
  refine m_isub X dX4_grossNow_8 rfl ?_
  exact m_iret X dX4_grossNow_9 rfl (rfl) (Nat.le_of_ble_eq_true rfl) (Nat.le_of_ble_eq_true rfl) rfl
theorem c_X4_netNow {v : m_V} {a : m_R} {x : Int64} {t : m_H}  : m_Ctr M_X4_netNow [.ref 2] (hC v a x t) (.inl (some (.int (net v)), hC v a x t)) := by
  refine m_intro (by decide +kernel) (Nat.le_of_ble_eq_true rfl) (fun X => ?_)
  refine m_aload_n X dX4_netNow_0 rfl rfl ?_
  refine m_cV0 X dX4_netNow_1 lk_X4_42 mk_X4_grossNow in_X4_grossNow se_X4_grossNow rfl rfl (c_X4_grossNow) rfl (Nat.le_of_ble_eq_true rfl) (Nat.le_of_ble_eq_true rfl) (Nat.le_of_ble_eq_true rfl) (Nat.le_of_ble_eq_true rfl) (Nat.le_of_ble_eq_true rfl) rfl ?_
  refine m_aload_n X dX4_netNow_4 rfl rfl ?_
  refine m_getf (v := .int (v 1)) X dX4_netNow_5 fl_X4_46 rfl rfl rfl ?_
  refine m_isub X dX4_netNow_8 rfl ?_
  exact m_iret X dX4_netNow_9 rfl (rfl) (Nat.le_of_ble_eq_true rfl) (Nat.le_of_ble_eq_true rfl) rfl
theorem c_X4_trackZero {v : m_V} {a : m_R} {x : Int64} {t : m_H}  : m_Ctr M_X4_trackZero [.ref 2] (hC v a x t) (.inl (none, hC (sTrack v) a x t)) := by
  refine m_intro (by decide +kernel) (Nat.le_of_ble_eq_true rfl) (fun X => ?_)
  refine m_aload_n X dX4_trackZero_0 rfl rfl ?_
  refine m_cV0 X dX4_trackZero_1 lk_X4_42 mk_X4_grossNow in_X4_grossNow se_X4_grossNow rfl rfl (c_X4_grossNow) rfl (Nat.le_of_ble_eq_true rfl) (Nat.le_of_ble_eq_true rfl) (Nat.le_of_ble_eq_true rfl) (Nat.le_of_ble_eq_true rfl) (Nat.le_of_ble_eq_true rfl) rfl ?_
  refine m_istore_n X dX4_trackZero_4 (Nat.le_of_ble_eq_true rfl) rfl ?_
  refine m_iload_n X dX4_trackZero_5 rfl rfl ?_
  refine m_if_eq (tgt := 27) X dX4_trackZero_6 (by decide) rfl (fun b6 => ?_) (fun b6 => ?_)
  · exact m_vret X dX4_trackZero_27 rfl (by unfold sTrack sMoved; try (first | rw [if_pos b6] | rw [if_neg b6] | rw [if_neg (not_not_intro b6)]); try rfl) (Nat.le_of_ble_eq_true rfl) (Nat.le_of_ble_eq_true rfl) rfl
  · refine m_iload_n X dX4_trackZero_9 rfl rfl ?_
    refine m_bipush (v := (-10)) X dX4_trackZero_10 (by decide) rfl ?_
    refine m_bipush (v := (10)) X dX4_trackZero_12 (by decide) rfl ?_
    refine m_cS3 X dX4_trackZero_14 lk_X4_49 mk_X5_isWithin st_X5_isWithin (c_X5_isWithin) rfl (Nat.le_of_ble_eq_true rfl) (Nat.le_of_ble_eq_true rfl) (Nat.le_of_ble_eq_true rfl) (Nat.le_of_ble_eq_true rfl) (Nat.le_of_ble_eq_true rfl) rfl ?_
    refine m_if_eq (tgt := 27) X dX4_trackZero_17 (by decide) rfl (fun b17 => ?_) (fun b17 => ?_)
    · exact m_vret X dX4_trackZero_27 rfl (by unfold sTrack sMoved; try (first | rw [if_pos b6] | rw [if_neg b6] | rw [if_neg (not_not_intro b6)]); try (first | rw [if_pos b17] | rw [if_neg b17] | rw [if_neg (not_not_intro b17)]); try rfl) (Nat.le_of_ble_eq_true rfl) (Nat.le_of_ble_eq_true rfl) rfl
    · refine m_aload_n X dX4_trackZero_20 rfl rfl ?_
      refine m_cV0 X dX4_trackZero_21 lk_X4_53 mk_X4_isCalm in_X4_isCalm se_X4_isCalm rfl rfl (c_X4_isCalm) rfl (Nat.le_of_ble_eq_true rfl) (Nat.le_of_ble_eq_true rfl) (Nat.le_of_ble_eq_true rfl) (Nat.le_of_ble_eq_true rfl) (Nat.le_of_ble_eq_true rfl) rfl ?_
      refine m_if_ne (tgt := 28) X dX4_trackZero_24 (by decide) rfl (fun b24 => ?_) (fun b24 => ?_)
      · refine m_aload_n X dX4_trackZero_28 rfl rfl ?_
        refine m_getf (v := .int (v 0)) X dX4_trackZero_29 fl_X4_39 rfl rfl rfl ?_
        refine m_iload_n X dX4_trackZero_32 rfl rfl ?_
        refine m_if_le (tgt := 40) X dX4_trackZero_33 (by decide) rfl (fun b33 => ?_) (fun b33 => ?_)
        · refine m_iconst (v := (-1)) X dX4_trackZero_40 (by decide) rfl ?_
          refine m_iadd X dX4_trackZero_41 rfl ?_
          refine m_istore_n X dX4_trackZero_42 (Nat.le_of_ble_eq_true rfl) rfl ?_
          refine m_iload_n X dX4_trackZero_43 rfl rfl ?_
          refine m_sipush (v := (-500)) X dX4_trackZero_44 (by decide) rfl ?_
          refine m_sipush (v := (500)) X dX4_trackZero_47 (by decide) rfl ?_
          refine m_cS3 X dX4_trackZero_50 lk_X4_49 mk_X5_isWithin st_X5_isWithin (c_X5_isWithin) rfl (Nat.le_of_ble_eq_true rfl) (Nat.le_of_ble_eq_true rfl) (Nat.le_of_ble_eq_true rfl) (Nat.le_of_ble_eq_true rfl) (Nat.le_of_ble_eq_true rfl) rfl ?_
          refine m_if_eq (tgt := 61) X dX4_trackZero_53 (by decide) rfl (fun b53 => ?_) (fun b53 => ?_)
          · exact m_vret X dX4_trackZero_61 rfl (by unfold sTrack sMoved; try (first | rw [if_pos b6] | rw [if_neg b6] | rw [if_neg (not_not_intro b6)]); try (first | rw [if_pos b17] | rw [if_neg b17] | rw [if_neg (not_not_intro b17)]); try (first | rw [if_pos b24] | rw [if_neg b24] | rw [if_neg (not_not_intro b24)]); try (first | rw [if_pos b33] | rw [if_neg b33] | rw [if_neg (not_not_intro b33)]); try (first | rw [if_pos b53] | rw [if_neg b53] | rw [if_neg (not_not_intro b53)]); try rfl) (Nat.le_of_ble_eq_true rfl) (Nat.le_of_ble_eq_true rfl) rfl
          · refine m_aload_n X dX4_trackZero_56 rfl rfl ?_
            refine m_iload_n X dX4_trackZero_57 rfl rfl ?_
            refine m_piC 0 X dX4_trackZero_58 fl_X4_39 fp_X4_0 rfl rfl rfl rfl ?_
            exact m_vret X dX4_trackZero_61 rfl (by unfold sTrack sMoved; try (first | rw [if_pos b6] | rw [if_neg b6] | rw [if_neg (not_not_intro b6)]); try (first | rw [if_pos b17] | rw [if_neg b17] | rw [if_neg (not_not_intro b17)]); try (first | rw [if_pos b24] | rw [if_neg b24] | rw [if_neg (not_not_intro b24)]); try (first | rw [if_pos b33] | rw [if_neg b33] | rw [if_neg (not_not_intro b33)]); try (first | rw [if_pos b53] | rw [if_neg b53] | rw [if_neg (not_not_intro b53)]); try rfl) (Nat.le_of_ble_eq_true rfl) (Nat.le_of_ble_eq_true rfl) rfl
        · refine m_iconst (v := 1) X dX4_trackZero_36 (by decide) rfl ?_
          refine m_goto (tgt := 41) X dX4_trackZero_37 (by decide) rfl ?_
          refine m_iadd X dX4_trackZero_41 rfl ?_
          refine m_istore_n X dX4_trackZero_42 (Nat.le_of_ble_eq_true rfl) rfl ?_
          refine m_iload_n X dX4_trackZero_43 rfl rfl ?_
          refine m_sipush (v := (-500)) X dX4_trackZero_44 (by decide) rfl ?_
          refine m_sipush (v := (500)) X dX4_trackZero_47 (by decide) rfl ?_
          refine m_cS3 X dX4_trackZero_50 lk_X4_49 mk_X5_isWithin st_X5_isWithin (c_X5_isWithin) rfl (Nat.le_of_ble_eq_true rfl) (Nat.le_of_ble_eq_true rfl) (Nat.le_of_ble_eq_true rfl) (Nat.le_of_ble_eq_true rfl) (Nat.le_of_ble_eq_true rfl) rfl ?_
          refine m_if_eq (tgt := 61) X dX4_trackZero_53 (by decide) rfl (fun b53 => ?_) (fun b53 => ?_)
          · exact m_vret X dX4_trackZero_61 rfl (by unfold sTrack sMoved; try (first | rw [if_pos b6] | rw [if_neg b6] | rw [if_neg (not_not_intro b6)]); try (first | rw [if_pos b17] | rw [if_neg b17] | rw [if_neg (not_not_intro b17)]); try (first | rw [if_pos b24] | rw [if_neg b24] | rw [if_neg (not_not_intro b24)]); try (first | rw [if_pos b33] | rw [if_neg b33] | rw [if_neg (not_not_intro b33)]); try (first | rw [if_pos b53] | rw [if_neg b53] | rw [if_neg (not_not_intro b53)]); try rfl) (Nat.le_of_ble_eq_true rfl) (Nat.le_of_ble_eq_true rfl) rfl
          · refine m_aload_n X dX4_trackZero_56 rfl rfl ?_
            refine m_iload_n X dX4_trackZero_57 rfl rfl ?_
            refine m_piC 0 X dX4_trackZero_58 fl_X4_39 fp_X4_0 rfl rfl rfl rfl ?_
            exact m_vret X dX4_trackZero_61 rfl (by unfold sTrack sMoved; try (first | rw [if_pos b6] | rw [if_neg b6] | rw [if_neg (not_not_intro b6)]); try (first | rw [if_pos b17] | rw [if_neg b17] | rw [if_neg (not_not_intro b17)]); try (first | rw [if_pos b24] | rw [if_neg b24] | rw [if_neg (not_not_intro b24)]); try (first | rw [if_pos b33] | rw [if_neg b33] | rw [if_neg (not_not_intro b33)]); try (first | rw [if_pos b53] | rw [if_neg b53] | rw [if_neg (not_not_intro b53)]); try rfl) (Nat.le_of_ble_eq_true rfl) (Nat.le_of_ble_eq_true rfl) rfl
      · exact m_vret X dX4_trackZero_27 rfl (by unfold sTrack sMoved; try (first | rw [if_pos b6] | rw [if_neg b6] | rw [if_neg (not_not_intro b6)]); try (first | rw [if_pos b17] | rw [if_neg b17] | rw [if_neg (not_not_intro b17)]); try (first | rw [if_pos b24] | rw [if_neg b24] | rw [if_neg (not_not_intro b24)]); try rfl) (Nat.le_of_ble_eq_true rfl) (Nat.le_of_ble_eq_true rfl) rfl
theorem c_X0_learn {v : m_V} {a : m_R} {x : Int64} {t : m_H} {b e : Int32} (hb : vp_in b 4) : m_Ctr M_X0_learn [.ref 3, .int b, .int e] (hC v a x t) (.inl (none, hC v (sLearn a b e) x t)) := by
  refine m_intro (by decide +kernel) (Nat.le_of_ble_eq_true rfl) (fun X => ?_)
  refine m_aload_n X dX0_learn_0 rfl rfl ?_
  refine m_getf X dX0_learn_1 fl_X0_15 rfl rfl rfl ?_
  refine m_iload_n X dX0_learn_4 rfl rfl ?_
  refine m_cS2 X dX0_learn_5 lk_X0_24 mk_X5_at st_X5_at (c_X5_at rfl (by decide) hb) rfl (Nat.le_of_ble_eq_true rfl) (Nat.le_of_ble_eq_true rfl) (Nat.le_of_ble_eq_true rfl) (Nat.le_of_ble_eq_true rfl) (Nat.le_of_ble_eq_true rfl) rfl ?_
  refine m_iload_n X dX0_learn_8 rfl rfl ?_
  refine m_iconst (v := 4) X dX0_learn_9 (by decide) rfl ?_
  refine m_cS2 X dX0_learn_10 lk_X0_28 mk_J9_floorDiv_7cf53 st_J9_floorDiv_7cf53 (c_J9_floorDiv_7cf53) rfl (Nat.le_of_ble_eq_true rfl) (Nat.le_of_ble_eq_true rfl) (Nat.le_of_ble_eq_true rfl) (Nat.le_of_ble_eq_true rfl) (Nat.le_of_ble_eq_true rfl) rfl ?_
  refine m_iadd X dX0_learn_13 rfl ?_
  refine m_istore_n X dX0_learn_14 (Nat.le_of_ble_eq_true rfl) rfl ?_
  refine m_aload_n X dX0_learn_15 rfl rfl ?_
  refine m_getf X dX0_learn_16 fl_X0_15 rfl rfl rfl ?_
  refine m_iload_n X dX0_learn_19 rfl rfl ?_
  refine m_iconst (v := 0) X dX0_learn_20 (by decide) rfl ?_
  refine m_sipush (v := (500)) X dX0_learn_21 (by decide) rfl ?_
  refine m_iload_n X dX0_learn_24 rfl rfl ?_
  refine m_mmin X dX0_learn_25 lm_X0_34 (Nat.le_of_ble_eq_true rfl) (Nat.le_of_ble_eq_true rfl) (Nat.le_of_ble_eq_true rfl) (Nat.le_of_ble_eq_true rfl) rfl ?_
  refine m_mmax X dX0_learn_28 lm_X0_37 (Nat.le_of_ble_eq_true rfl) (Nat.le_of_ble_eq_true rfl) (Nat.le_of_ble_eq_true rfl) (Nat.le_of_ble_eq_true rfl) rfl ?_
  refine m_cS3 X dX0_learn_31 lk_X0_40 mk_X5_put st_X5_put (c_X5_put rfl (by decide) hb) rfl (Nat.le_of_ble_eq_true rfl) (Nat.le_of_ble_eq_true rfl) (Nat.le_of_ble_eq_true rfl) (Nat.le_of_ble_eq_true rfl) (Nat.le_of_ble_eq_true rfl) rfl ?_
  exact m_vret X dX0_learn_34 rfl (rfl) (Nat.le_of_ble_eq_true rfl) (Nat.le_of_ble_eq_true rfl) rfl
theorem c_X1_stepBin {v : m_V} {a : m_R} {x : Int64} {t : m_H} (h1 : vp_in (v 15) 6) : m_Ctr M_X1_stepBin [.ref 1] (hC v a x t) (.inl (some (.int (sbin v a)), hC v a x t)) := by
  refine m_intro (by decide +kernel) (Nat.le_of_ble_eq_true rfl) (fun X => ?_)
  refine m_aload_n X dX1_stepBin_0 rfl rfl ?_
  refine m_getf X dX1_stepBin_1 fl_X1_35 rfl rfl rfl ?_
  refine m_getf X dX1_stepBin_4 fl_X1_172 rfl rfl rfl ?_
  refine m_aload_n X dX1_stepBin_7 rfl rfl ?_
  refine m_getf (v := .int (v 15)) X dX1_stepBin_8 fl_X1_130 rfl rfl rfl ?_
  refine m_cS2 X dX1_stepBin_11 lk_X1_111 mk_X5_at st_X5_at (c_X5_at rfl (by decide) h1) rfl (Nat.le_of_ble_eq_true rfl) (Nat.le_of_ble_eq_true rfl) (Nat.le_of_ble_eq_true rfl) (Nat.le_of_ble_eq_true rfl) (Nat.le_of_ble_eq_true rfl) rfl ?_
  exact m_iret X dX1_stepBin_14 rfl (rfl) (Nat.le_of_ble_eq_true rfl) (Nat.le_of_ble_eq_true rfl) rfl
theorem c_X1_target {v : m_V} {a : m_R} {x : Int64} {t : m_H} (h1 : vp_in (v 15) 6) : m_Ctr M_X1_target [.ref 1] (hC v a x t) (.inl (some (.int (stgt v a)), hC v a x t)) := by
  refine m_intro (by decide +kernel) (Nat.le_of_ble_eq_true rfl) (fun X => ?_)
  refine m_aload_n X dX1_target_0 rfl rfl ?_
  refine m_getf X dX1_target_1 fl_X1_35 rfl rfl rfl ?_
  refine m_getf X dX1_target_4 fl_X1_175 rfl rfl rfl ?_
  refine m_aload_n X dX1_target_7 rfl rfl ?_
  refine m_getf (v := .int (v 15)) X dX1_target_8 fl_X1_130 rfl rfl rfl ?_
  refine m_cS2 X dX1_target_11 lk_X1_111 mk_X5_at st_X5_at (c_X5_at rfl (by decide) h1) rfl (Nat.le_of_ble_eq_true rfl) (Nat.le_of_ble_eq_true rfl) (Nat.le_of_ble_eq_true rfl) (Nat.le_of_ble_eq_true rfl) (Nat.le_of_ble_eq_true rfl) rfl ?_
  exact m_iret X dX1_target_14 rfl (rfl) (Nat.le_of_ble_eq_true rfl) (Nat.le_of_ble_eq_true rfl) rfl
theorem c_X1_enter {v : m_V} {a : m_R} {x : Int64} {t : m_H} {n : Int32} : m_Ctr M_X1_enter [.ref 1, .int n] (hC v a x t) (.inl (none, hC (sEnter v n) a x t)) := by
  refine m_intro (by decide +kernel) (Nat.le_of_ble_eq_true rfl) (fun X => ?_)
  refine m_aload_n X dX1_enter_0 rfl rfl ?_
  refine m_iload_n X dX1_enter_1 rfl rfl ?_
  refine m_piC 10 X dX1_enter_2 fl_X1_39 fp_X1_4 rfl rfl rfl rfl ?_
  refine m_aload_n X dX1_enter_5 rfl rfl ?_
  refine m_iconst (v := 0) X dX1_enter_6 (by decide) rfl ?_
  refine m_piC 13 X dX1_enter_7 fl_X1_53 fp_X1_7 rfl rfl rfl rfl ?_
  refine m_aload_n X dX1_enter_10 rfl rfl ?_
  refine m_iconst (v := 0) X dX1_enter_11 (by decide) rfl ?_
  refine m_piC 11 X dX1_enter_12 fl_X1_43 fp_X1_5 rfl rfl rfl rfl ?_
  exact m_vret X dX1_enter_15 rfl (rfl) (Nat.le_of_ble_eq_true rfl) (Nat.le_of_ble_eq_true rfl) rfl
theorem c_X1_halt {v : m_V} {a : m_R} {x : Int64} {t : m_H} {n : Int32} : m_Ctr M_X1_halt [.ref 1, .int n] (hC v a x t) (.inl (none, hC (sHalt v n) a x t)) := by
  refine m_intro (by decide +kernel) (Nat.le_of_ble_eq_true rfl) (fun X => ?_)
  refine m_aload_n X dX1_halt_0 rfl rfl ?_
  refine m_aload_n X dX1_halt_1 rfl rfl ?_
  refine m_getf (v := .int (v 10)) X dX1_halt_2 fl_X1_39 rfl rfl rfl ?_
  refine m_piC 12 X dX1_halt_5 fl_X1_46 fp_X1_6 rfl rfl rfl rfl ?_
  refine m_aload_n X dX1_halt_8 rfl rfl ?_
  refine m_bipush (v := (6)) X dX1_halt_9 (by decide) rfl ?_
  refine m_cV1 X dX1_halt_11 lk_X1_72 mk_X1_enter in_X1_enter se_X1_enter rfl rfl (c_X1_enter) rfl (Nat.le_of_ble_eq_true rfl) (Nat.le_of_ble_eq_true rfl) (Nat.le_of_ble_eq_true rfl) (Nat.le_of_ble_eq_true rfl) (Nat.le_of_ble_eq_true rfl) rfl ?_
  refine m_aload_n X dX1_halt_14 rfl rfl ?_
  refine m_iload_n X dX1_halt_15 rfl rfl ?_
  refine m_piC 11 X dX1_halt_16 fl_X1_43 fp_X1_5 rfl rfl rfl rfl ?_
  exact m_vret X dX1_halt_19 rfl (rfl) (Nat.le_of_ble_eq_true rfl) (Nat.le_of_ble_eq_true rfl) rfl
theorem c_X1_beginStep {v : m_V} {a : m_R} {x : Int64} {t : m_H} {n : Int32} : m_Ctr M_X1_beginStep [.ref 1, .int n] (hC v a x t) (.inl (none, hC (sBegin v n) a x t)) := by
  refine m_intro (by decide +kernel) (Nat.le_of_ble_eq_true rfl) (fun X => ?_)
  refine m_aload_n X dX1_beginStep_0 rfl rfl ?_
  refine m_iload_n X dX1_beginStep_1 rfl rfl ?_
  refine m_piC 15 X dX1_beginStep_2 fl_X1_130 fp_X1_9 rfl rfl rfl rfl ?_
  refine m_aload_n X dX1_beginStep_5 rfl rfl ?_
  refine m_iconst (v := 0) X dX1_beginStep_6 (by decide) rfl ?_
  refine m_piC 16 X dX1_beginStep_7 fl_X1_143 fp_X1_10 rfl rfl rfl rfl ?_
  refine m_aload_n X dX1_beginStep_10 rfl rfl ?_
  refine m_iconst (v := 0) X dX1_beginStep_11 (by decide) rfl ?_
  refine m_piC 14 X dX1_beginStep_12 fl_X1_88 fp_X1_8 rfl rfl rfl rfl ?_
  refine m_aload_n X dX1_beginStep_15 rfl rfl ?_
  refine m_iconst (v := 0) X dX1_beginStep_16 (by decide) rfl ?_
  refine m_piC 17 X dX1_beginStep_17 fl_X1_118 fp_X1_11 rfl rfl rfl rfl ?_
  refine m_aload_n X dX1_beginStep_20 rfl rfl ?_
  refine m_iconst (v := 0) X dX1_beginStep_21 (by decide) rfl ?_
  refine m_pzC 18 X dX1_beginStep_22 fl_X1_91 fp_X1_12 (by decide) rfl rfl rfl rfl ?_
  refine m_aload_n X dX1_beginStep_25 rfl rfl ?_
  refine m_iconst (v := 0) X dX1_beginStep_26 (by decide) rfl ?_
  refine m_pzC 19 X dX1_beginStep_27 fl_X1_133 fp_X1_13 (by decide) rfl rfl rfl rfl ?_
  refine m_aload_n X dX1_beginStep_30 rfl rfl ?_
  refine m_iconst (v := 1) X dX1_beginStep_31 (by decide) rfl ?_
  refine m_cV1 X dX1_beginStep_32 lk_X1_72 mk_X1_enter in_X1_enter se_X1_enter rfl rfl (c_X1_enter) rfl (Nat.le_of_ble_eq_true rfl) (Nat.le_of_ble_eq_true rfl) (Nat.le_of_ble_eq_true rfl) (Nat.le_of_ble_eq_true rfl) (Nat.le_of_ble_eq_true rfl) rfl ?_
  exact m_vret X dX1_beginStep_35 rfl (rfl) (Nat.le_of_ble_eq_true rfl) (Nat.le_of_ble_eq_true rfl) rfl
theorem c_X1_jog {v : m_V} {a : m_R} {x : Int64} {t : m_H}  : m_Ctr M_X1_jog [.ref 1] (hC v a x t) (.inl (none, hC (sJog v) a x t)) := by
  refine m_intro (by decide +kernel) (Nat.le_of_ble_eq_true rfl) (fun X => ?_)
  refine m_aload_n X dX1_jog_0 rfl rfl ?_
  refine m_getf (v := .int (v 16)) X dX1_jog_1 fl_X1_143 rfl rfl rfl ?_
  refine m_iconst (v := 5) X dX1_jog_4 (by decide) rfl ?_
  refine m_icmp_ge (tgt := 26) X dX1_jog_5 (by decide) rfl (fun b5 => ?_) (fun b5 => ?_)
  · refine m_aload_n X dX1_jog_26 rfl rfl ?_
    refine m_iconst (v := 1) X dX1_jog_27 (by decide) rfl ?_
    refine m_cV1 X dX1_jog_28 lk_X1_124 mk_X1_halt in_X1_halt se_X1_halt rfl rfl (c_X1_halt) rfl (Nat.le_of_ble_eq_true rfl) (Nat.le_of_ble_eq_true rfl) (Nat.le_of_ble_eq_true rfl) (Nat.le_of_ble_eq_true rfl) (Nat.le_of_ble_eq_true rfl) rfl ?_
    exact m_vret X dX1_jog_31 rfl (by unfold sJog; try (first | rw [if_pos b5] | rw [if_neg b5] | rw [if_neg (not_not_intro b5)]); try rfl) (Nat.le_of_ble_eq_true rfl) (Nat.le_of_ble_eq_true rfl) rfl
  · refine m_aload_n X dX1_jog_8 rfl rfl ?_
    refine m_dup X dX1_jog_9 rfl rfl ?_
    refine m_getf (v := .int (v 16)) X dX1_jog_10 fl_X1_143 rfl rfl rfl ?_
    refine m_iconst (v := 1) X dX1_jog_13 (by decide) rfl ?_
    refine m_iadd X dX1_jog_14 rfl ?_
    refine m_piC 16 X dX1_jog_15 fl_X1_143 fp_X1_10 rfl rfl rfl rfl ?_
    refine m_aload_n X dX1_jog_18 rfl rfl ?_
    refine m_iconst (v := 5) X dX1_jog_19 (by decide) rfl ?_
    refine m_cV1 X dX1_jog_20 lk_X1_72 mk_X1_enter in_X1_enter se_X1_enter rfl rfl (c_X1_enter) rfl (Nat.le_of_ble_eq_true rfl) (Nat.le_of_ble_eq_true rfl) (Nat.le_of_ble_eq_true rfl) (Nat.le_of_ble_eq_true rfl) (Nat.le_of_ble_eq_true rfl) rfl ?_
    refine m_goto (tgt := 31) X dX1_jog_23 (by decide) rfl ?_
    exact m_vret X dX1_jog_31 rfl (by unfold sJog; try (first | rw [if_pos b5] | rw [if_neg b5] | rw [if_neg (not_not_intro b5)]); try rfl) (Nat.le_of_ble_eq_true rfl) (Nat.le_of_ble_eq_true rfl) rfl
theorem c_X1_tareStep {v : m_V} {a : m_R} {x : Int64} {t : m_H} (h1 : vp_in (v 15) 6) (h2 : vp_in (sbin v a) 4) : m_Ctr M_X1_tareStep [.ref 1] (hC v a x t) (.inl (none, hC (sTare v a) a x t)) := by
  refine m_intro (by decide +kernel) (Nat.le_of_ble_eq_true rfl) (fun X => ?_)
  refine m_aload_n X dX1_tareStep_0 rfl rfl ?_
  refine m_getf X dX1_tareStep_1 fl_X1_12 rfl rfl rfl ?_
  refine m_cV0 X dX1_tareStep_4 lk_X1_65 mk_X4_isCalm in_X4_isCalm se_X4_isCalm rfl rfl (c_X4_isCalm) rfl (Nat.le_of_ble_eq_true rfl) (Nat.le_of_ble_eq_true rfl) (Nat.le_of_ble_eq_true rfl) (Nat.le_of_ble_eq_true rfl) (Nat.le_of_ble_eq_true rfl) rfl ?_
  refine m_if_eq (tgt := 59) X dX1_tareStep_7 (by decide) rfl (fun b7 => ?_) (fun b7 => ?_)
  · exact m_vret X dX1_tareStep_59 rfl (by unfold sTare; try (first | rw [if_pos b7] | rw [if_neg b7] | rw [if_neg (not_not_intro b7)]); try rfl) (Nat.le_of_ble_eq_true rfl) (Nat.le_of_ble_eq_true rfl) rfl
  · refine m_aload_n X dX1_tareStep_10 rfl rfl ?_
    refine m_getf X dX1_tareStep_11 fl_X1_12 rfl rfl rfl ?_
    refine m_aload_n X dX1_tareStep_14 rfl rfl ?_
    refine m_getf X dX1_tareStep_15 fl_X1_12 rfl rfl rfl ?_
    refine m_cV0 X dX1_tareStep_18 lk_X1_98 mk_X4_grossNow in_X4_grossNow se_X4_grossNow rfl rfl (c_X4_grossNow) rfl (Nat.le_of_ble_eq_true rfl) (Nat.le_of_ble_eq_true rfl) (Nat.le_of_ble_eq_true rfl) (Nat.le_of_ble_eq_true rfl) (Nat.le_of_ble_eq_true rfl) rfl ?_
    refine m_piC 1 X dX1_tareStep_21 fl_X1_101 fp_X4_1 rfl rfl rfl rfl ?_
    refine m_aload_n X dX1_tareStep_24 rfl rfl ?_
    refine m_iconst (v := 1) X dX1_tareStep_25 (by decide) rfl ?_
    refine m_pzC 18 X dX1_tareStep_26 fl_X1_91 fp_X1_12 (by decide) rfl rfl rfl rfl ?_
    refine m_aload_n X dX1_tareStep_29 rfl rfl ?_
    refine m_aload_n X dX1_tareStep_30 rfl rfl ?_
    refine m_cV0 X dX1_tareStep_31 lk_X1_104 mk_X1_target in_X1_target se_X1_target rfl rfl (c_X1_target h1) rfl (Nat.le_of_ble_eq_true rfl) (Nat.le_of_ble_eq_true rfl) (Nat.le_of_ble_eq_true rfl) (Nat.le_of_ble_eq_true rfl) (Nat.le_of_ble_eq_true rfl) rfl ?_
    refine m_aload_n X dX1_tareStep_34 rfl rfl ?_
    refine m_getf X dX1_tareStep_35 fl_X1_21 rfl rfl rfl ?_
    refine m_getf X dX1_tareStep_38 fl_X1_107 rfl rfl rfl ?_
    refine m_aload_n X dX1_tareStep_41 rfl rfl ?_
    refine m_cV0 X dX1_tareStep_42 lk_X1_75 mk_X1_stepBin in_X1_stepBin se_X1_stepBin rfl rfl (c_X1_stepBin h1) rfl (Nat.le_of_ble_eq_true rfl) (Nat.le_of_ble_eq_true rfl) (Nat.le_of_ble_eq_true rfl) (Nat.le_of_ble_eq_true rfl) (Nat.le_of_ble_eq_true rfl) rfl ?_
    refine m_cS2 X dX1_tareStep_45 lk_X1_111 mk_X5_at st_X5_at (c_X5_at rfl (by decide) h2) rfl (Nat.le_of_ble_eq_true rfl) (Nat.le_of_ble_eq_true rfl) (Nat.le_of_ble_eq_true rfl) (Nat.le_of_ble_eq_true rfl) (Nat.le_of_ble_eq_true rfl) rfl ?_
    refine m_icmp_le (tgt := 55) X dX1_tareStep_48 (by decide) rfl (fun b48 => ?_) (fun b48 => ?_)
    · replace b48 : stgt v a ≤ a 0 (sbin v a).toNatClampNeg := b48
      refine m_iconst (v := 3) X dX1_tareStep_55 (by decide) rfl ?_
      refine m_cV1 X dX1_tareStep_56 lk_X1_72 mk_X1_enter in_X1_enter se_X1_enter rfl rfl (c_X1_enter) rfl (Nat.le_of_ble_eq_true rfl) (Nat.le_of_ble_eq_true rfl) (Nat.le_of_ble_eq_true rfl) (Nat.le_of_ble_eq_true rfl) (Nat.le_of_ble_eq_true rfl) rfl ?_
      exact m_vret X dX1_tareStep_59 rfl (by unfold sTare; try (first | rw [if_pos b7] | rw [if_neg b7] | rw [if_neg (not_not_intro b7)]); try (first | rw [if_pos b48] | rw [if_neg b48] | rw [if_neg (not_not_intro b48)]); try rfl) (Nat.le_of_ble_eq_true rfl) (Nat.le_of_ble_eq_true rfl) rfl
    · replace b48 : ¬(stgt v a ≤ a 0 (sbin v a).toNatClampNeg) := b48
      refine m_iconst (v := 2) X dX1_tareStep_51 (by decide) rfl ?_
      refine m_goto (tgt := 56) X dX1_tareStep_52 (by decide) rfl ?_
      refine m_cV1 X dX1_tareStep_56 lk_X1_72 mk_X1_enter in_X1_enter se_X1_enter rfl rfl (c_X1_enter) rfl (Nat.le_of_ble_eq_true rfl) (Nat.le_of_ble_eq_true rfl) (Nat.le_of_ble_eq_true rfl) (Nat.le_of_ble_eq_true rfl) (Nat.le_of_ble_eq_true rfl) rfl ?_
      exact m_vret X dX1_tareStep_59 rfl (by unfold sTare; try (first | rw [if_pos b7] | rw [if_neg b7] | rw [if_neg (not_not_intro b7)]); try (first | rw [if_pos b48] | rw [if_neg b48] | rw [if_neg (not_not_intro b48)]); try rfl) (Nat.le_of_ble_eq_true rfl) (Nat.le_of_ble_eq_true rfl) rfl
theorem c_X1_feed {v : m_V} {a : m_R} {x : Int64} {t : m_H} (h1 : vp_in (v 15) 6) (h2 : vp_in (sbin v a) 4) : m_Ctr M_X1_feed [.ref 1] (hC v a x t) (.inl (none, hC (sFeed v a) a x t)) := by
  refine m_intro (by decide +kernel) (Nat.le_of_ble_eq_true rfl) (fun X => ?_)
  refine m_aload_n X dX1_feed_0 rfl rfl ?_
  refine m_getf X dX1_feed_1 fl_X1_12 rfl rfl rfl ?_
  refine m_cV0 X dX1_feed_4 lk_X1_115 mk_X4_netNow in_X4_netNow se_X4_netNow rfl rfl (c_X4_netNow) rfl (Nat.le_of_ble_eq_true rfl) (Nat.le_of_ble_eq_true rfl) (Nat.le_of_ble_eq_true rfl) (Nat.le_of_ble_eq_true rfl) (Nat.le_of_ble_eq_true rfl) rfl ?_
  refine m_istore_n X dX1_feed_7 (Nat.le_of_ble_eq_true rfl) rfl ?_
  refine m_iload_n X dX1_feed_8 rfl rfl ?_
  refine m_aload_n X dX1_feed_9 rfl rfl ?_
  refine m_getf (v := .int (v 17)) X dX1_feed_10 fl_X1_118 rfl rfl rfl ?_
  refine m_icmp_le (tgt := 29) X dX1_feed_13 (by decide) rfl (fun b13 => ?_) (fun b13 => ?_)
  · have e13 : sIdle v = upd v 14 (v 14 + 1) := by unfold sIdle; rw [if_pos b13]
    refine m_aload_n X dX1_feed_29 rfl rfl ?_
    refine m_dup X dX1_feed_30 rfl rfl ?_
    refine m_getf (v := .int (v 14)) X dX1_feed_31 fl_X1_88 rfl rfl rfl ?_
    refine m_iconst (v := 1) X dX1_feed_34 (by decide) rfl ?_
    refine m_iadd X dX1_feed_35 rfl ?_
    refine m_piC 14 X dX1_feed_36 fl_X1_88 fp_X1_8 rfl rfl rfl rfl ?_
    refine m_aload_n X dX1_feed_39 rfl rfl ?_
    refine m_getf (v := .int (v 10)) X dX1_feed_40 fl_X1_39 rfl rfl rfl ?_
    refine m_iconst (v := 2) X dX1_feed_43 (by decide) rfl ?_
    refine m_icmp_ne (tgt := 57) X dX1_feed_44 (by decide) rfl (fun b44 => ?_) (fun b44 => ?_)
    · replace b44 : ¬ v 10 = 2 := b44
      have e44 : sAhead v a = a 1 (sbin v a).toNatClampNeg := by unfold sAhead; rw [if_pos b44]
      refine m_aload_n X dX1_feed_57 rfl rfl ?_
      refine m_getf X dX1_feed_58 fl_X1_21 rfl rfl rfl ?_
      refine m_getf X dX1_feed_61 fl_X1_121 rfl rfl rfl ?_
      refine m_astore_n X dX1_feed_64 (Nat.le_of_ble_eq_true rfl) rfl ?_
      refine m_iload_n X dX1_feed_65 rfl rfl ?_
      refine m_aload_n X dX1_feed_66 rfl rfl ?_
      refine m_cV0 X dX1_feed_67 lk_X1_104 mk_X1_target in_X1_target se_X1_target rfl rfl (c_X1_target h1) rfl (Nat.le_of_ble_eq_true rfl) (Nat.le_of_ble_eq_true rfl) (Nat.le_of_ble_eq_true rfl) (Nat.le_of_ble_eq_true rfl) (Nat.le_of_ble_eq_true rfl) rfl ?_
      refine m_aload_n X dX1_feed_70 rfl rfl ?_
      refine m_aload_n X dX1_feed_71 rfl rfl ?_
      refine m_cV0 X dX1_feed_72 lk_X1_75 mk_X1_stepBin in_X1_stepBin se_X1_stepBin rfl rfl (c_X1_stepBin h1) rfl (Nat.le_of_ble_eq_true rfl) (Nat.le_of_ble_eq_true rfl) (Nat.le_of_ble_eq_true rfl) (Nat.le_of_ble_eq_true rfl) (Nat.le_of_ble_eq_true rfl) rfl ?_
      refine m_cS2 X dX1_feed_75 lk_X1_111 mk_X5_at st_X5_at (c_X5_at rfl (by decide) h2) rfl (Nat.le_of_ble_eq_true rfl) (Nat.le_of_ble_eq_true rfl) (Nat.le_of_ble_eq_true rfl) (Nat.le_of_ble_eq_true rfl) (Nat.le_of_ble_eq_true rfl) rfl ?_
      refine m_isub X dX1_feed_78 rfl ?_
      refine m_icmp_lt (tgt := 102) X dX1_feed_79 (by decide) rfl (fun b79 => ?_) (fun b79 => ?_)
      · replace b79 : net v < stgt v a - sAhead v a := by rw [e44]; exact b79
        refine m_aload_n X dX1_feed_102 rfl rfl ?_
        refine m_getf X dX1_feed_103 fl_X1_88 rfl rfl rfl ?_
        refine m_bipush (v := (20)) X dX1_feed_106 (by decide) rfl ?_
        refine m_icmp_lt (tgt := 116) X dX1_feed_108 (by decide) rfl (fun b108 => ?_) (fun b108 => ?_)
        · exact m_vret X dX1_feed_116 rfl (by unfold sFeed; rw [e13, if_pos b79, if_pos b108]) (Nat.le_of_ble_eq_true rfl) (Nat.le_of_ble_eq_true rfl) rfl
        · refine m_aload_n X dX1_feed_111 rfl rfl ?_
          refine m_iconst (v := 3) X dX1_feed_112 (by decide) rfl ?_
          refine m_cV1 X dX1_feed_113 lk_X1_124 mk_X1_halt in_X1_halt se_X1_halt rfl rfl (c_X1_halt) rfl (Nat.le_of_ble_eq_true rfl) (Nat.le_of_ble_eq_true rfl) (Nat.le_of_ble_eq_true rfl) (Nat.le_of_ble_eq_true rfl) (Nat.le_of_ble_eq_true rfl) rfl ?_
          exact m_vret X dX1_feed_116 rfl (by unfold sFeed; rw [e13, if_pos b79, if_neg b108]) (Nat.le_of_ble_eq_true rfl) (Nat.le_of_ble_eq_true rfl) rfl
      · replace b79 : ¬ net v < stgt v a - sAhead v a := by rw [e44]; exact b79
        refine m_aload_n X dX1_feed_82 rfl rfl ?_
        refine m_aload_n X dX1_feed_83 rfl rfl ?_
        refine m_getf (v := .int (v 10)) X dX1_feed_84 fl_X1_39 rfl rfl rfl ?_
        refine m_iconst (v := 2) X dX1_feed_87 (by decide) rfl ?_
        refine m_icmp_ne (tgt := 95) X dX1_feed_88 (by decide) rfl (fun b88 => ?_) (fun b88 => ?_)
        · replace b88 : ¬ v 10 = 2 := b88
          refine m_iconst (v := 4) X dX1_feed_95 (by decide) rfl ?_
          refine m_cV1 X dX1_feed_96 lk_X1_72 mk_X1_enter in_X1_enter se_X1_enter rfl rfl (c_X1_enter) rfl (Nat.le_of_ble_eq_true rfl) (Nat.le_of_ble_eq_true rfl) (Nat.le_of_ble_eq_true rfl) (Nat.le_of_ble_eq_true rfl) (Nat.le_of_ble_eq_true rfl) rfl ?_
          refine m_goto (tgt := 116) X dX1_feed_99 (by decide) rfl ?_
          exact m_vret X dX1_feed_116 rfl (by unfold sFeed; rw [e13, if_neg b79, if_pos b88]) (Nat.le_of_ble_eq_true rfl) (Nat.le_of_ble_eq_true rfl) rfl
        · replace b88 : v 10 = 2 := b88
          refine m_iconst (v := 3) X dX1_feed_91 (by decide) rfl ?_
          refine m_goto (tgt := 96) X dX1_feed_92 (by decide) rfl ?_
          refine m_cV1 X dX1_feed_96 lk_X1_72 mk_X1_enter in_X1_enter se_X1_enter rfl rfl (c_X1_enter) rfl (Nat.le_of_ble_eq_true rfl) (Nat.le_of_ble_eq_true rfl) (Nat.le_of_ble_eq_true rfl) (Nat.le_of_ble_eq_true rfl) (Nat.le_of_ble_eq_true rfl) rfl ?_
          refine m_goto (tgt := 116) X dX1_feed_99 (by decide) rfl ?_
          exact m_vret X dX1_feed_116 rfl (by unfold sFeed; rw [e13, if_neg b79, if_neg (not_not_intro b88)]) (Nat.le_of_ble_eq_true rfl) (Nat.le_of_ble_eq_true rfl) rfl
    · replace b44 : v 10 = 2 := b44
      have e44 : sAhead v a = a 0 (sbin v a).toNatClampNeg := by unfold sAhead; rw [if_neg (not_not_intro b44)]
      refine m_aload_n X dX1_feed_47 rfl rfl ?_
      refine m_getf X dX1_feed_48 fl_X1_21 rfl rfl rfl ?_
      refine m_getf X dX1_feed_51 fl_X1_107 rfl rfl rfl ?_
      refine m_goto (tgt := 64) X dX1_feed_54 (by decide) rfl ?_
      refine m_astore_n X dX1_feed_64 (Nat.le_of_ble_eq_true rfl) rfl ?_
      refine m_iload_n X dX1_feed_65 rfl rfl ?_
      refine m_aload_n X dX1_feed_66 rfl rfl ?_
      refine m_cV0 X dX1_feed_67 lk_X1_104 mk_X1_target in_X1_target se_X1_target rfl rfl (c_X1_target h1) rfl (Nat.le_of_ble_eq_true rfl) (Nat.le_of_ble_eq_true rfl) (Nat.le_of_ble_eq_true rfl) (Nat.le_of_ble_eq_true rfl) (Nat.le_of_ble_eq_true rfl) rfl ?_
      refine m_aload_n X dX1_feed_70 rfl rfl ?_
      refine m_aload_n X dX1_feed_71 rfl rfl ?_
      refine m_cV0 X dX1_feed_72 lk_X1_75 mk_X1_stepBin in_X1_stepBin se_X1_stepBin rfl rfl (c_X1_stepBin h1) rfl (Nat.le_of_ble_eq_true rfl) (Nat.le_of_ble_eq_true rfl) (Nat.le_of_ble_eq_true rfl) (Nat.le_of_ble_eq_true rfl) (Nat.le_of_ble_eq_true rfl) rfl ?_
      refine m_cS2 X dX1_feed_75 lk_X1_111 mk_X5_at st_X5_at (c_X5_at rfl (by decide) h2) rfl (Nat.le_of_ble_eq_true rfl) (Nat.le_of_ble_eq_true rfl) (Nat.le_of_ble_eq_true rfl) (Nat.le_of_ble_eq_true rfl) (Nat.le_of_ble_eq_true rfl) rfl ?_
      refine m_isub X dX1_feed_78 rfl ?_
      refine m_icmp_lt (tgt := 102) X dX1_feed_79 (by decide) rfl (fun b79 => ?_) (fun b79 => ?_)
      · replace b79 : net v < stgt v a - sAhead v a := by rw [e44]; exact b79
        refine m_aload_n X dX1_feed_102 rfl rfl ?_
        refine m_getf X dX1_feed_103 fl_X1_88 rfl rfl rfl ?_
        refine m_bipush (v := (20)) X dX1_feed_106 (by decide) rfl ?_
        refine m_icmp_lt (tgt := 116) X dX1_feed_108 (by decide) rfl (fun b108 => ?_) (fun b108 => ?_)
        · exact m_vret X dX1_feed_116 rfl (by unfold sFeed; rw [e13, if_pos b79, if_pos b108]) (Nat.le_of_ble_eq_true rfl) (Nat.le_of_ble_eq_true rfl) rfl
        · refine m_aload_n X dX1_feed_111 rfl rfl ?_
          refine m_iconst (v := 3) X dX1_feed_112 (by decide) rfl ?_
          refine m_cV1 X dX1_feed_113 lk_X1_124 mk_X1_halt in_X1_halt se_X1_halt rfl rfl (c_X1_halt) rfl (Nat.le_of_ble_eq_true rfl) (Nat.le_of_ble_eq_true rfl) (Nat.le_of_ble_eq_true rfl) (Nat.le_of_ble_eq_true rfl) (Nat.le_of_ble_eq_true rfl) rfl ?_
          exact m_vret X dX1_feed_116 rfl (by unfold sFeed; rw [e13, if_pos b79, if_neg b108]) (Nat.le_of_ble_eq_true rfl) (Nat.le_of_ble_eq_true rfl) rfl
      · replace b79 : ¬ net v < stgt v a - sAhead v a := by rw [e44]; exact b79
        refine m_aload_n X dX1_feed_82 rfl rfl ?_
        refine m_aload_n X dX1_feed_83 rfl rfl ?_
        refine m_getf (v := .int (v 10)) X dX1_feed_84 fl_X1_39 rfl rfl rfl ?_
        refine m_iconst (v := 2) X dX1_feed_87 (by decide) rfl ?_
        refine m_icmp_ne (tgt := 95) X dX1_feed_88 (by decide) rfl (fun b88 => ?_) (fun b88 => ?_)
        · replace b88 : ¬ v 10 = 2 := b88
          refine m_iconst (v := 4) X dX1_feed_95 (by decide) rfl ?_
          refine m_cV1 X dX1_feed_96 lk_X1_72 mk_X1_enter in_X1_enter se_X1_enter rfl rfl (c_X1_enter) rfl (Nat.le_of_ble_eq_true rfl) (Nat.le_of_ble_eq_true rfl) (Nat.le_of_ble_eq_true rfl) (Nat.le_of_ble_eq_true rfl) (Nat.le_of_ble_eq_true rfl) rfl ?_
          refine m_goto (tgt := 116) X dX1_feed_99 (by decide) rfl ?_
          exact m_vret X dX1_feed_116 rfl (by unfold sFeed; rw [e13, if_neg b79, if_pos b88]) (Nat.le_of_ble_eq_true rfl) (Nat.le_of_ble_eq_true rfl) rfl
        · replace b88 : v 10 = 2 := b88
          refine m_iconst (v := 3) X dX1_feed_91 (by decide) rfl ?_
          refine m_goto (tgt := 96) X dX1_feed_92 (by decide) rfl ?_
          refine m_cV1 X dX1_feed_96 lk_X1_72 mk_X1_enter in_X1_enter se_X1_enter rfl rfl (c_X1_enter) rfl (Nat.le_of_ble_eq_true rfl) (Nat.le_of_ble_eq_true rfl) (Nat.le_of_ble_eq_true rfl) (Nat.le_of_ble_eq_true rfl) (Nat.le_of_ble_eq_true rfl) rfl ?_
          refine m_goto (tgt := 116) X dX1_feed_99 (by decide) rfl ?_
          exact m_vret X dX1_feed_116 rfl (by unfold sFeed; rw [e13, if_neg b79, if_neg (not_not_intro b88)]) (Nat.le_of_ble_eq_true rfl) (Nat.le_of_ble_eq_true rfl) rfl
  · have e13 : sIdle v = upd (upd v 17 (net v)) 14 0 := by unfold sIdle; rw [if_neg b13]
    refine m_aload_n X dX1_feed_16 rfl rfl ?_
    refine m_iload_n X dX1_feed_17 rfl rfl ?_
    refine m_piC 17 X dX1_feed_18 fl_X1_118 fp_X1_11 rfl rfl rfl rfl ?_
    refine m_aload_n X dX1_feed_21 rfl rfl ?_
    refine m_iconst (v := 0) X dX1_feed_22 (by decide) rfl ?_
    refine m_piC 14 X dX1_feed_23 fl_X1_88 fp_X1_8 rfl rfl rfl rfl ?_
    refine m_goto (tgt := 39) X dX1_feed_26 (by decide) rfl ?_
    refine m_aload_n X dX1_feed_39 rfl rfl ?_
    refine m_getf (v := .int (v 10)) X dX1_feed_40 fl_X1_39 rfl rfl rfl ?_
    refine m_iconst (v := 2) X dX1_feed_43 (by decide) rfl ?_
    refine m_icmp_ne (tgt := 57) X dX1_feed_44 (by decide) rfl (fun b44 => ?_) (fun b44 => ?_)
    · replace b44 : ¬ v 10 = 2 := b44
      have e44 : sAhead v a = a 1 (sbin v a).toNatClampNeg := by unfold sAhead; rw [if_pos b44]
      refine m_aload_n X dX1_feed_57 rfl rfl ?_
      refine m_getf X dX1_feed_58 fl_X1_21 rfl rfl rfl ?_
      refine m_getf X dX1_feed_61 fl_X1_121 rfl rfl rfl ?_
      refine m_astore_n X dX1_feed_64 (Nat.le_of_ble_eq_true rfl) rfl ?_
      refine m_iload_n X dX1_feed_65 rfl rfl ?_
      refine m_aload_n X dX1_feed_66 rfl rfl ?_
      refine m_cV0 X dX1_feed_67 lk_X1_104 mk_X1_target in_X1_target se_X1_target rfl rfl (c_X1_target h1) rfl (Nat.le_of_ble_eq_true rfl) (Nat.le_of_ble_eq_true rfl) (Nat.le_of_ble_eq_true rfl) (Nat.le_of_ble_eq_true rfl) (Nat.le_of_ble_eq_true rfl) rfl ?_
      refine m_aload_n X dX1_feed_70 rfl rfl ?_
      refine m_aload_n X dX1_feed_71 rfl rfl ?_
      refine m_cV0 X dX1_feed_72 lk_X1_75 mk_X1_stepBin in_X1_stepBin se_X1_stepBin rfl rfl (c_X1_stepBin h1) rfl (Nat.le_of_ble_eq_true rfl) (Nat.le_of_ble_eq_true rfl) (Nat.le_of_ble_eq_true rfl) (Nat.le_of_ble_eq_true rfl) (Nat.le_of_ble_eq_true rfl) rfl ?_
      refine m_cS2 X dX1_feed_75 lk_X1_111 mk_X5_at st_X5_at (c_X5_at rfl (by decide) h2) rfl (Nat.le_of_ble_eq_true rfl) (Nat.le_of_ble_eq_true rfl) (Nat.le_of_ble_eq_true rfl) (Nat.le_of_ble_eq_true rfl) (Nat.le_of_ble_eq_true rfl) rfl ?_
      refine m_isub X dX1_feed_78 rfl ?_
      refine m_icmp_lt (tgt := 102) X dX1_feed_79 (by decide) rfl (fun b79 => ?_) (fun b79 => ?_)
      · replace b79 : net v < stgt v a - sAhead v a := by rw [e44]; exact b79
        refine m_aload_n X dX1_feed_102 rfl rfl ?_
        refine m_getf X dX1_feed_103 fl_X1_88 rfl rfl rfl ?_
        refine m_bipush (v := (20)) X dX1_feed_106 (by decide) rfl ?_
        refine m_icmp_lt (tgt := 116) X dX1_feed_108 (by decide) rfl (fun b108 => ?_) (fun b108 => ?_)
        · exact m_vret X dX1_feed_116 rfl (by unfold sFeed; rw [e13, if_pos b79, if_pos b108]) (Nat.le_of_ble_eq_true rfl) (Nat.le_of_ble_eq_true rfl) rfl
        · refine m_aload_n X dX1_feed_111 rfl rfl ?_
          refine m_iconst (v := 3) X dX1_feed_112 (by decide) rfl ?_
          refine m_cV1 X dX1_feed_113 lk_X1_124 mk_X1_halt in_X1_halt se_X1_halt rfl rfl (c_X1_halt) rfl (Nat.le_of_ble_eq_true rfl) (Nat.le_of_ble_eq_true rfl) (Nat.le_of_ble_eq_true rfl) (Nat.le_of_ble_eq_true rfl) (Nat.le_of_ble_eq_true rfl) rfl ?_
          exact m_vret X dX1_feed_116 rfl (by unfold sFeed; rw [e13, if_pos b79, if_neg b108]) (Nat.le_of_ble_eq_true rfl) (Nat.le_of_ble_eq_true rfl) rfl
      · replace b79 : ¬ net v < stgt v a - sAhead v a := by rw [e44]; exact b79
        refine m_aload_n X dX1_feed_82 rfl rfl ?_
        refine m_aload_n X dX1_feed_83 rfl rfl ?_
        refine m_getf (v := .int (v 10)) X dX1_feed_84 fl_X1_39 rfl rfl rfl ?_
        refine m_iconst (v := 2) X dX1_feed_87 (by decide) rfl ?_
        refine m_icmp_ne (tgt := 95) X dX1_feed_88 (by decide) rfl (fun b88 => ?_) (fun b88 => ?_)
        · replace b88 : ¬ v 10 = 2 := b88
          refine m_iconst (v := 4) X dX1_feed_95 (by decide) rfl ?_
          refine m_cV1 X dX1_feed_96 lk_X1_72 mk_X1_enter in_X1_enter se_X1_enter rfl rfl (c_X1_enter) rfl (Nat.le_of_ble_eq_true rfl) (Nat.le_of_ble_eq_true rfl) (Nat.le_of_ble_eq_true rfl) (Nat.le_of_ble_eq_true rfl) (Nat.le_of_ble_eq_true rfl) rfl ?_
          refine m_goto (tgt := 116) X dX1_feed_99 (by decide) rfl ?_
          exact m_vret X dX1_feed_116 rfl (by unfold sFeed; rw [e13, if_neg b79, if_pos b88]) (Nat.le_of_ble_eq_true rfl) (Nat.le_of_ble_eq_true rfl) rfl
        · replace b88 : v 10 = 2 := b88
          refine m_iconst (v := 3) X dX1_feed_91 (by decide) rfl ?_
          refine m_goto (tgt := 96) X dX1_feed_92 (by decide) rfl ?_
          refine m_cV1 X dX1_feed_96 lk_X1_72 mk_X1_enter in_X1_enter se_X1_enter rfl rfl (c_X1_enter) rfl (Nat.le_of_ble_eq_true rfl) (Nat.le_of_ble_eq_true rfl) (Nat.le_of_ble_eq_true rfl) (Nat.le_of_ble_eq_true rfl) (Nat.le_of_ble_eq_true rfl) rfl ?_
          refine m_goto (tgt := 116) X dX1_feed_99 (by decide) rfl ?_
          exact m_vret X dX1_feed_116 rfl (by unfold sFeed; rw [e13, if_neg b79, if_neg (not_not_intro b88)]) (Nat.le_of_ble_eq_true rfl) (Nat.le_of_ble_eq_true rfl) rfl
    · replace b44 : v 10 = 2 := b44
      have e44 : sAhead v a = a 0 (sbin v a).toNatClampNeg := by unfold sAhead; rw [if_neg (not_not_intro b44)]
      refine m_aload_n X dX1_feed_47 rfl rfl ?_
      refine m_getf X dX1_feed_48 fl_X1_21 rfl rfl rfl ?_
      refine m_getf X dX1_feed_51 fl_X1_107 rfl rfl rfl ?_
      refine m_goto (tgt := 64) X dX1_feed_54 (by decide) rfl ?_
      refine m_astore_n X dX1_feed_64 (Nat.le_of_ble_eq_true rfl) rfl ?_
      refine m_iload_n X dX1_feed_65 rfl rfl ?_
      refine m_aload_n X dX1_feed_66 rfl rfl ?_
      refine m_cV0 X dX1_feed_67 lk_X1_104 mk_X1_target in_X1_target se_X1_target rfl rfl (c_X1_target h1) rfl (Nat.le_of_ble_eq_true rfl) (Nat.le_of_ble_eq_true rfl) (Nat.le_of_ble_eq_true rfl) (Nat.le_of_ble_eq_true rfl) (Nat.le_of_ble_eq_true rfl) rfl ?_
      refine m_aload_n X dX1_feed_70 rfl rfl ?_
      refine m_aload_n X dX1_feed_71 rfl rfl ?_
      refine m_cV0 X dX1_feed_72 lk_X1_75 mk_X1_stepBin in_X1_stepBin se_X1_stepBin rfl rfl (c_X1_stepBin h1) rfl (Nat.le_of_ble_eq_true rfl) (Nat.le_of_ble_eq_true rfl) (Nat.le_of_ble_eq_true rfl) (Nat.le_of_ble_eq_true rfl) (Nat.le_of_ble_eq_true rfl) rfl ?_
      refine m_cS2 X dX1_feed_75 lk_X1_111 mk_X5_at st_X5_at (c_X5_at rfl (by decide) h2) rfl (Nat.le_of_ble_eq_true rfl) (Nat.le_of_ble_eq_true rfl) (Nat.le_of_ble_eq_true rfl) (Nat.le_of_ble_eq_true rfl) (Nat.le_of_ble_eq_true rfl) rfl ?_
      refine m_isub X dX1_feed_78 rfl ?_
      refine m_icmp_lt (tgt := 102) X dX1_feed_79 (by decide) rfl (fun b79 => ?_) (fun b79 => ?_)
      · replace b79 : net v < stgt v a - sAhead v a := by rw [e44]; exact b79
        refine m_aload_n X dX1_feed_102 rfl rfl ?_
        refine m_getf X dX1_feed_103 fl_X1_88 rfl rfl rfl ?_
        refine m_bipush (v := (20)) X dX1_feed_106 (by decide) rfl ?_
        refine m_icmp_lt (tgt := 116) X dX1_feed_108 (by decide) rfl (fun b108 => ?_) (fun b108 => ?_)
        · exact m_vret X dX1_feed_116 rfl (by unfold sFeed; rw [e13, if_pos b79, if_pos b108]) (Nat.le_of_ble_eq_true rfl) (Nat.le_of_ble_eq_true rfl) rfl
        · refine m_aload_n X dX1_feed_111 rfl rfl ?_
          refine m_iconst (v := 3) X dX1_feed_112 (by decide) rfl ?_
          refine m_cV1 X dX1_feed_113 lk_X1_124 mk_X1_halt in_X1_halt se_X1_halt rfl rfl (c_X1_halt) rfl (Nat.le_of_ble_eq_true rfl) (Nat.le_of_ble_eq_true rfl) (Nat.le_of_ble_eq_true rfl) (Nat.le_of_ble_eq_true rfl) (Nat.le_of_ble_eq_true rfl) rfl ?_
          exact m_vret X dX1_feed_116 rfl (by unfold sFeed; rw [e13, if_pos b79, if_neg b108]) (Nat.le_of_ble_eq_true rfl) (Nat.le_of_ble_eq_true rfl) rfl
      · replace b79 : ¬ net v < stgt v a - sAhead v a := by rw [e44]; exact b79
        refine m_aload_n X dX1_feed_82 rfl rfl ?_
        refine m_aload_n X dX1_feed_83 rfl rfl ?_
        refine m_getf (v := .int (v 10)) X dX1_feed_84 fl_X1_39 rfl rfl rfl ?_
        refine m_iconst (v := 2) X dX1_feed_87 (by decide) rfl ?_
        refine m_icmp_ne (tgt := 95) X dX1_feed_88 (by decide) rfl (fun b88 => ?_) (fun b88 => ?_)
        · replace b88 : ¬ v 10 = 2 := b88
          refine m_iconst (v := 4) X dX1_feed_95 (by decide) rfl ?_
          refine m_cV1 X dX1_feed_96 lk_X1_72 mk_X1_enter in_X1_enter se_X1_enter rfl rfl (c_X1_enter) rfl (Nat.le_of_ble_eq_true rfl) (Nat.le_of_ble_eq_true rfl) (Nat.le_of_ble_eq_true rfl) (Nat.le_of_ble_eq_true rfl) (Nat.le_of_ble_eq_true rfl) rfl ?_
          refine m_goto (tgt := 116) X dX1_feed_99 (by decide) rfl ?_
          exact m_vret X dX1_feed_116 rfl (by unfold sFeed; rw [e13, if_neg b79, if_pos b88]) (Nat.le_of_ble_eq_true rfl) (Nat.le_of_ble_eq_true rfl) rfl
        · replace b88 : v 10 = 2 := b88
          refine m_iconst (v := 3) X dX1_feed_91 (by decide) rfl ?_
          refine m_goto (tgt := 96) X dX1_feed_92 (by decide) rfl ?_
          refine m_cV1 X dX1_feed_96 lk_X1_72 mk_X1_enter in_X1_enter se_X1_enter rfl rfl (c_X1_enter) rfl (Nat.le_of_ble_eq_true rfl) (Nat.le_of_ble_eq_true rfl) (Nat.le_of_ble_eq_true rfl) (Nat.le_of_ble_eq_true rfl) (Nat.le_of_ble_eq_true rfl) rfl ?_
          refine m_goto (tgt := 116) X dX1_feed_99 (by decide) rfl ?_
          exact m_vret X dX1_feed_116 rfl (by unfold sFeed; rw [e13, if_neg b79, if_neg (not_not_intro b88)]) (Nat.le_of_ble_eq_true rfl) (Nat.le_of_ble_eq_true rfl) rfl
theorem c_X1_gateOf {v : m_V} {a : m_R} {x : Int64} {t : m_H} {b : Int32} (h1 : vp_in (v 15) 6) : m_Ctr M_X1_gateOf [.ref 1, .int b] (hC v a x t) (.inl (some (.int (sGate v a b)), hC v a x t)) := by
  refine m_intro (by decide +kernel) (Nat.le_of_ble_eq_true rfl) (fun X => ?_)
  refine m_aload_n X dX1_gateOf_0 rfl rfl ?_
  refine m_cV0 X dX1_gateOf_1 lk_X1_75 mk_X1_stepBin in_X1_stepBin se_X1_stepBin rfl rfl (c_X1_stepBin h1) rfl (Nat.le_of_ble_eq_true rfl) (Nat.le_of_ble_eq_true rfl) (Nat.le_of_ble_eq_true rfl) (Nat.le_of_ble_eq_true rfl) (Nat.le_of_ble_eq_true rfl) rfl ?_
  refine m_iload_n X dX1_gateOf_4 rfl rfl ?_
  refine m_icmp_eq (tgt := 10) X dX1_gateOf_5 (by decide) rfl (fun b5 => ?_) (fun b5 => ?_)
  · refine m_aload_n X dX1_gateOf_10 rfl rfl ?_
    refine m_getf (v := .int (v 10)) X dX1_gateOf_11 fl_X1_39 rfl rfl rfl ?_
    refine m_iconst (v := 2) X dX1_gateOf_14 (by decide) rfl ?_
    refine m_icmp_ne (tgt := 20) X dX1_gateOf_15 (by decide) rfl (fun b15 => ?_) (fun b15 => ?_)
    · refine m_aload_n X dX1_gateOf_20 rfl rfl ?_
      refine m_getf (v := .int (v 10)) X dX1_gateOf_21 fl_X1_39 rfl rfl rfl ?_
      refine m_iconst (v := 3) X dX1_gateOf_24 (by decide) rfl ?_
      refine m_icmp_eq (tgt := 36) X dX1_gateOf_25 (by decide) rfl (fun b25 => ?_) (fun b25 => ?_)
      · refine m_iconst (v := 1) X dX1_gateOf_36 (by decide) rfl ?_
        refine m_goto (tgt := 41) X dX1_gateOf_37 (by decide) rfl ?_
        exact m_iret X dX1_gateOf_41 rfl (by unfold sGate; try (first | rw [if_pos b5] | rw [if_neg b5] | rw [if_neg (not_not_intro b5)]); try (first | rw [if_pos b15] | rw [if_neg b15] | rw [if_neg (not_not_intro b15)]); try (first | rw [if_pos b25] | rw [if_neg b25] | rw [if_neg (not_not_intro b25)]); try rfl) (Nat.le_of_ble_eq_true rfl) (Nat.le_of_ble_eq_true rfl) rfl
      · refine m_aload_n X dX1_gateOf_28 rfl rfl ?_
        refine m_getf (v := .int (v 10)) X dX1_gateOf_29 fl_X1_39 rfl rfl rfl ?_
        refine m_iconst (v := 5) X dX1_gateOf_32 (by decide) rfl ?_
        refine m_icmp_ne (tgt := 40) X dX1_gateOf_33 (by decide) rfl (fun b33 => ?_) (fun b33 => ?_)
        · refine m_iconst (v := 0) X dX1_gateOf_40 (by decide) rfl ?_
          exact m_iret X dX1_gateOf_41 rfl (by unfold sGate; try (first | rw [if_pos b5] | rw [if_neg b5] | rw [if_neg (not_not_intro b5)]); try (first | rw [if_pos b15] | rw [if_neg b15] | rw [if_neg (not_not_intro b15)]); try (first | rw [if_pos b25] | rw [if_neg b25] | rw [if_neg (not_not_intro b25)]); try (first | rw [if_pos b33] | rw [if_neg b33] | rw [if_neg (not_not_intro b33)]); try rfl) (Nat.le_of_ble_eq_true rfl) (Nat.le_of_ble_eq_true rfl) rfl
        · refine m_iconst (v := 1) X dX1_gateOf_36 (by decide) rfl ?_
          refine m_goto (tgt := 41) X dX1_gateOf_37 (by decide) rfl ?_
          exact m_iret X dX1_gateOf_41 rfl (by unfold sGate; try (first | rw [if_pos b5] | rw [if_neg b5] | rw [if_neg (not_not_intro b5)]); try (first | rw [if_pos b15] | rw [if_neg b15] | rw [if_neg (not_not_intro b15)]); try (first | rw [if_pos b25] | rw [if_neg b25] | rw [if_neg (not_not_intro b25)]); try (first | rw [if_pos b33] | rw [if_neg b33] | rw [if_neg (not_not_intro b33)]); try rfl) (Nat.le_of_ble_eq_true rfl) (Nat.le_of_ble_eq_true rfl) rfl
    · refine m_iconst (v := 2) X dX1_gateOf_18 (by decide) rfl ?_
      exact m_iret X dX1_gateOf_19 rfl (by unfold sGate; try (first | rw [if_pos b5] | rw [if_neg b5] | rw [if_neg (not_not_intro b5)]); try (first | rw [if_pos b15] | rw [if_neg b15] | rw [if_neg (not_not_intro b15)]); try rfl) (Nat.le_of_ble_eq_true rfl) (Nat.le_of_ble_eq_true rfl) rfl
  · refine m_iconst (v := 0) X dX1_gateOf_8 (by decide) rfl ?_
    exact m_iret X dX1_gateOf_9 rfl (by unfold sGate; try (first | rw [if_pos b5] | rw [if_neg b5] | rw [if_neg (not_not_intro b5)]); try rfl) (Nat.le_of_ble_eq_true rfl) (Nat.le_of_ble_eq_true rfl) rfl
end MK
end
section
section MK2
theorem nI_mul (a b : Nat) : nI a * nI b = nI (a * b) := (Int32.ofNat_mul a b).symm
theorem plc_nI {i B : Nat} : nI i * 20 + nI B = nI (i * 20 + B) := by
  rw [show (20 : Int32) = nI 20 from rfl, nI_mul, nI_add]
theorem plc_in {i B : Nat} {cur : Int32} (hi : i < 30) (hB : B < 20) (hc : cur = nI B) : vp_in (nI i * 20 + cur) 600 := by
  rw [hc, plc_nI]; exact vp_in_nI (by omega) (by omega)
theorem sLots_no {b cur : Int32} {lb : Nat → Int32} {i : Nat} {s : m_L} (h : ¬ lb i = b) : sLots b cur lb (i + 1) s = sLots b cur lb i s := by
  show sLot1 _ _ _ _ _ = _
  unfold sLot1
  rw [if_pos h]
theorem sLots_yes {b cur : Int32} {lb : Nat → Int32} {i : Nat} {s : m_L} (h : lb i = b) : sLots b cur lb (i + 1) s =
    ((sLots b cur lb i s).1 - mn2 (sLots b cur lb i s).1 ((sLots b cur lb i s).2.1 i), upd (sLots b cur lb i s).2.1 i ((sLots b cur lb i s).2.1 i + -(mn2 (sLots b cur lb i s).1 ((sLots b cur lb i s).2.1 i))), upd (sLots b cur lb i s).2.2.1 (plc i cur) ((sLots b cur lb i s).2.2.1 (plc i cur) + mn2 (sLots b cur lb i s).1 ((sLots b cur lb i s).2.1 i)), upd (sLots b cur lb i s).2.2.2 i (if 0 < mn2 (sLots b cur lb i s).1 ((sLots b cur lb i s).2.1 i) ∧ (sLots b cur lb i s).2.2.2 i = -1 then cur else (sLots b cur lb i s).2.2.2 i)) := by
  show sLot1 _ _ _ _ _ = _
  unfold sLot1
  rw [if_neg (not_not_intro h)]
theorem c_X2_takeOut {v : m_V} {a : m_R} {x : Int64} {t : m_H} {b am cur : Int32} (hL : ∃ L, L ≤ 30 ∧ v 8 = nI L) (hB : ∃ B, B < 20 ∧ cur = nI B) : m_Ctr M_X2_takeOut [.ref 8, .int b, .int am, .int cur] (hC v a x t) (.inl (some (.int (am - (sTook b am cur v a).1)), hC v (sOut b am cur v a) x t)) := by
  refine m_intro (by decide +kernel) (Nat.le_of_ble_eq_true rfl) (fun {D cI cL sa A p l e s m args below meth c ad} X => ?_)
  obtain ⟨L, hL30, hL8⟩ := hL
  obtain ⟨B, hB20, hcur⟩ := hB
  have eL : (v 8).toNatClampNeg = L := by rw [hL8]; exact nI_clamp (by omega)
  have loop : ∀ k i, i + k = L → m_Go D cI cL ad ((hC v a x t)).length (m_Ml M_X2_takeOut) A p l e (m_rm M_X2_takeOut) s m args below meth c (m_VQ D cI cL ad ((hC v a x t)).length A (.inl (some (.int (am - (sTook b am cur v a).1)), hC v (sOut b am cur v a) x t)) below args s (m_Mc M_X2_takeOut) (m_Ms M_X2_takeOut)) 6 [(5, .int (nI i)), (4, .int (sLots b cur (a 4) i (am, a 6, a 7, a 12)).1), (0, .ref 8), (1, .int b), (2, .int am), (3, .int cur)] [] (hC v (va_up (va_up (va_up a 6 (sLots b cur (a 4) i (am, a 6, a 7, a 12)).2.1) 7 (sLots b cur (a 4) i (am, a 6, a 7, a 12)).2.2.1) 12 (sLots b cur (a 4) i (am, a 6, a 7, a 12)).2.2.2) x t) 0 0 := by
    intro k
    induction k with
    | zero =>
      intro i hi
      have hiL : i = L := by omega
      subst hiL
      refine m_iload X dX2_takeOut_6 rfl rfl ?_
      refine m_aload_n X dX2_takeOut_8 rfl rfl ?_
      refine m_getf (v := .int (v 8)) X dX2_takeOut_9 fl_X2_24 rfl rfl rfl ?_
      refine m_icmp_ge (tgt := 84) X dX2_takeOut_12 (by decide) rfl (fun b12 => ?_) (fun b12 => absurd b12 (not_not_intro (by rw [hL8]; exact Int32.le_refl _)))
      refine m_iload_n X dX2_takeOut_84 rfl rfl ?_
      refine m_iload X dX2_takeOut_85 rfl rfl ?_
      refine m_isub X dX2_takeOut_87 rfl ?_
      exact m_iret X dX2_takeOut_88 rfl (by unfold sOut sTook; rw [eL]) (Nat.le_of_ble_eq_true rfl) (Nat.le_of_ble_eq_true rfl) rfl
    | succ k ih =>
      intro i hi
      have hlt : i < L := by omega
      have hin : vp_in (nI i) 30 := vp_in_nI (by omega) (by omega)
      have ein : (nI i).toNatClampNeg = i := nI_clamp (by omega)
      have hpl : vp_in (nI i * 20 + cur) 600 := plc_in (by omega) hB20 hcur
      refine m_iload X dX2_takeOut_6 rfl rfl ?_
      refine m_aload_n X dX2_takeOut_8 rfl rfl ?_
      refine m_getf (v := .int (v 8)) X dX2_takeOut_9 fl_X2_24 rfl rfl rfl ?_
      refine m_icmp_ge (tgt := 84) X dX2_takeOut_12 (by decide) rfl (fun b12 => absurd b12 (by rw [hL8]; exact nI_ge hlt (by omega))) (fun b12 => ?_)
      refine m_aload_n X dX2_takeOut_15 rfl rfl ?_
      refine m_getf X dX2_takeOut_16 fl_X2_9 rfl rfl rfl ?_
      refine m_iload X dX2_takeOut_19 rfl rfl ?_
      refine m_cS2 X dX2_takeOut_21 lk_X2_32 mk_X5_at st_X5_at (c_X5_at rfl (by decide) hin) rfl (Nat.le_of_ble_eq_true rfl) (Nat.le_of_ble_eq_true rfl) (Nat.le_of_ble_eq_true rfl) (Nat.le_of_ble_eq_true rfl) (Nat.le_of_ble_eq_true rfl) rfl ?_
      refine m_iload_n X dX2_takeOut_24 rfl rfl ?_
      refine m_icmp_ne (tgt := 78) X dX2_takeOut_25 (by decide) rfl (fun b25 => ?_) (fun b25 => ?_)
      · have e25 := sLots_no (cur := cur) (s := (am, a 6, a 7, a 12)) (show ¬ a 4 i = b by rw [← ein]; exact b25)
        refine m_iinc X dX2_takeOut_78 rfl (Nat.le_of_ble_eq_true rfl) rfl ?_
        refine m_goto (tgt := 6) X dX2_takeOut_81 (by decide) rfl ?_
        refine m_hp (h1 := hC v (va_up (va_up (va_up a 6 (sLots b cur (a 4) (i + 1) (am, a 6, a 7, a 12)).2.1) 7 (sLots b cur (a 4) (i + 1) (am, a 6, a 7, a 12)).2.2.1) 12 (sLots b cur (a 4) (i + 1) (am, a 6, a 7, a 12)).2.2.2) x t) (by rw [e25]) ?_
        refine m_lp (l1 := [(5, .int (nI (i + 1))), (4, .int (sLots b cur (a 4) (i + 1) (am, a 6, a 7, a 12)).1), (0, .ref 8), (1, .int b), (2, .int am), (3, .int cur)]) [0, 1, 2, 3, 4, 5] (by rw [e25, nI_succ]; rfl) ?_
        exact ih (i + 1) (by omega)
      · have e25 := sLots_yes (cur := cur) (s := (am, a 6, a 7, a 12)) (show a 4 i = b by rw [← ein]; exact b25)
        refine m_iload X dX2_takeOut_28 rfl rfl ?_
        refine m_aload_n X dX2_takeOut_30 rfl rfl ?_
        refine m_getf X dX2_takeOut_31 fl_X2_18 rfl rfl rfl ?_
        refine m_iload X dX2_takeOut_34 rfl rfl ?_
        refine m_cS2 X dX2_takeOut_36 lk_X2_32 mk_X5_at st_X5_at (c_X5_at rfl (by decide) hin) rfl (Nat.le_of_ble_eq_true rfl) (Nat.le_of_ble_eq_true rfl) (Nat.le_of_ble_eq_true rfl) (Nat.le_of_ble_eq_true rfl) (Nat.le_of_ble_eq_true rfl) rfl ?_
        refine m_mmin X dX2_takeOut_39 lm_X2_36 (Nat.le_of_ble_eq_true rfl) (Nat.le_of_ble_eq_true rfl) (Nat.le_of_ble_eq_true rfl) (Nat.le_of_ble_eq_true rfl) rfl ?_
        refine m_istore X dX2_takeOut_42 (Nat.le_of_ble_eq_true rfl) rfl ?_
        refine m_aload_n X dX2_takeOut_44 rfl rfl ?_
        refine m_getf X dX2_takeOut_45 fl_X2_18 rfl rfl rfl ?_
        refine m_iload X dX2_takeOut_48 rfl rfl ?_
        refine m_iload X dX2_takeOut_50 rfl rfl ?_
        refine m_ineg X dX2_takeOut_52 rfl ?_
        refine m_cS3 X dX2_takeOut_53 lk_X2_42 mk_X5_increase st_X5_increase (c_X5_increase rfl (by decide) hin) rfl (Nat.le_of_ble_eq_true rfl) (Nat.le_of_ble_eq_true rfl) (Nat.le_of_ble_eq_true rfl) (Nat.le_of_ble_eq_true rfl) (Nat.le_of_ble_eq_true rfl) rfl ?_
        refine m_hp hC_a6 ?_
        refine m_aload_n X dX2_takeOut_56 rfl rfl ?_
        refine m_getf X dX2_takeOut_57 fl_X2_21 rfl rfl rfl ?_
        refine m_iload X dX2_takeOut_60 rfl rfl ?_
        refine m_iload_n X dX2_takeOut_62 rfl rfl ?_
        refine m_cS2 X dX2_takeOut_63 lk_X2_45 mk_X2_place st_X2_place (c_X2_place) rfl (Nat.le_of_ble_eq_true rfl) (Nat.le_of_ble_eq_true rfl) (Nat.le_of_ble_eq_true rfl) (Nat.le_of_ble_eq_true rfl) (Nat.le_of_ble_eq_true rfl) rfl ?_
        refine m_iload X dX2_takeOut_66 rfl rfl ?_
        refine m_cS3 X dX2_takeOut_68 lk_X2_42 mk_X5_increase st_X5_increase (c_X5_increase rfl (by decide) hpl) rfl (Nat.le_of_ble_eq_true rfl) (Nat.le_of_ble_eq_true rfl) (Nat.le_of_ble_eq_true rfl) (Nat.le_of_ble_eq_true rfl) (Nat.le_of_ble_eq_true rfl) rfl ?_
        refine m_hp hC_a7 ?_
        refine m_iload X dX2_takeOut_71 rfl rfl ?_
        refine m_iload X dX2_takeOut_73 rfl rfl ?_
        refine m_isub X dX2_takeOut_75 rfl ?_
        refine m_istore X dX2_takeOut_76 (Nat.le_of_ble_eq_true rfl) rfl ?_
        refine m_iinc X dX2_takeOut_78 rfl (Nat.le_of_ble_eq_true rfl) rfl ?_
        refine m_goto (tgt := 6) X dX2_takeOut_81 (by decide) rfl ?_
        refine m_hp (h1 := hC v (va_up (va_up (va_up a 6 (sLots b cur (a 4) (i + 1) (am, a 6, a 7, a 12)).2.1) 7 (sLots b cur (a 4) (i + 1) (am, a 6, a 7, a 12)).2.2.1) 12 (sLots b cur (a 4) (i + 1) (am, a 6, a 7, a 12)).2.2.2) x t) (by rw [e25, ein]; rfl) ?_
        refine m_lp (l1 := [(5, .int (nI (i + 1))), (4, .int (sLots b cur (a 4) (i + 1) (am, a 6, a 7, a 12)).1), (0, .ref 8), (1, .int b), (2, .int am), (3, .int cur)]) [0, 1, 3, 4, 5, 6] (by rw [e25, ein, nI_succ]; rfl) ?_
        exact ih (i + 1) (by omega)
  refine m_iload_n X dX2_takeOut_0 rfl rfl ?_
  refine m_istore X dX2_takeOut_1 (Nat.le_of_ble_eq_true rfl) rfl ?_
  refine m_iconst (v := 0) X dX2_takeOut_3 (by decide) rfl ?_
  refine m_istore X dX2_takeOut_4 (Nat.le_of_ble_eq_true rfl) rfl ?_
  refine m_hp (h1 := hC v (va_up (va_up (va_up a 6 (sLots b cur (a 4) 0 (am, a 6, a 7, a 12)).2.1) 7 (sLots b cur (a 4) 0 (am, a 6, a 7, a 12)).2.2.1) 12 (sLots b cur (a 4) 0 (am, a 6, a 7, a 12)).2.2.2) x t) rfl ?_
  refine m_lp (l1 := [(5, .int (nI 0)), (4, .int (sLots b cur (a 4) 0 (am, a 6, a 7, a 12)).1), (0, .ref 8), (1, .int b), (2, .int am), (3, .int cur)]) [0, 1, 2, 3, 4, 5] rfl ?_
  exact loop L 0 (by omega)
end MK2
end
section
section MK3
theorem nI_0i : (0 : Int32) = nI 0 := rfl
theorem c_X2_leftIn {v : m_V} {a : m_R} {x : Int64} {t : m_H} {b : Int32} (hL : ∃ L, L ≤ 30 ∧ v 8 = nI L) : m_Ctr M_X2_leftIn [.ref 8, .int b] (hC v a x t) (.inl (some (.int (sStock b a (v 8).toNatClampNeg)), hC v a x t)) := by
  refine m_intro (by decide +kernel) (Nat.le_of_ble_eq_true rfl) (fun {D cI cL sa A p l e s m args below meth c ad} X => ?_)
  obtain ⟨L, hL30, hL8⟩ := hL
  have eL : (v 8).toNatClampNeg = L := by rw [hL8]; exact nI_clamp (by omega)
  have loop : ∀ k i, i + k = L → m_Go D cI cL ad ((hC v a x t)).length (m_Ml M_X2_leftIn) A p l e (m_rm M_X2_leftIn) s m args below meth c (m_VQ D cI cL ad ((hC v a x t)).length A (.inl (some (.int (sStock b a (v 8).toNatClampNeg)), hC v a x t)) below args s (m_Mc M_X2_leftIn) (m_Ms M_X2_leftIn)) 4 [(3, .int (nI i)), (2, .int (sStock b a i)), (0, .ref 8), (1, .int b)] [] (hC v a x t) 0 0 := by
    intro k
    induction k with
    | zero =>
      intro i hi
      have hiL : i = L := by omega
      subst hiL
      refine m_iload_n X dX2_leftIn_4 rfl rfl ?_
      refine m_aload_n X dX2_leftIn_5 rfl rfl ?_
      refine m_getf (v := .int (v 8)) X dX2_leftIn_6 fl_X2_24 rfl rfl rfl ?_
      refine m_icmp_ge (tgt := 45) X dX2_leftIn_9 (by decide) rfl (fun b9 => ?_) (fun b9 => absurd b9 (not_not_intro (by rw [hL8]; exact Int32.le_refl _)))
      refine m_iload_n X dX2_leftIn_45 rfl rfl ?_
      exact m_iret X dX2_leftIn_46 rfl (by rw [eL]) (Nat.le_of_ble_eq_true rfl) (Nat.le_of_ble_eq_true rfl) rfl
    | succ k ih =>
      intro i hi
      have hlt : i < L := by omega
      have hin : vp_in (nI i) 30 := vp_in_nI (by omega) (by omega)
      have ein : (nI i).toNatClampNeg = i := nI_clamp (by omega)
      refine m_iload_n X dX2_leftIn_4 rfl rfl ?_
      refine m_aload_n X dX2_leftIn_5 rfl rfl ?_
      refine m_getf (v := .int (v 8)) X dX2_leftIn_6 fl_X2_24 rfl rfl rfl ?_
      refine m_icmp_ge (tgt := 45) X dX2_leftIn_9 (by decide) rfl (fun b9 => absurd b9 (by rw [hL8]; exact nI_ge hlt (by omega))) (fun b9 => ?_)
      refine m_iload_n X dX2_leftIn_12 rfl rfl ?_
      refine m_aload_n X dX2_leftIn_13 rfl rfl ?_
      refine m_getf X dX2_leftIn_14 fl_X2_9 rfl rfl rfl ?_
      refine m_iload_n X dX2_leftIn_17 rfl rfl ?_
      refine m_cS2 X dX2_leftIn_18 lk_X2_32 mk_X5_at st_X5_at (c_X5_at rfl (by decide) hin) rfl (Nat.le_of_ble_eq_true rfl) (Nat.le_of_ble_eq_true rfl) (Nat.le_of_ble_eq_true rfl) (Nat.le_of_ble_eq_true rfl) (Nat.le_of_ble_eq_true rfl) rfl ?_
      refine m_iload_n X dX2_leftIn_21 rfl rfl ?_
      refine m_icmp_ne (tgt := 36) X dX2_leftIn_22 (by decide) rfl (fun b22 => ?_) (fun b22 => ?_)
      · have e22 : sStock b a (i + 1) = sStock b a i + 0 := by show sStock b a i + _ = _; rw [if_pos (show ¬ a 4 i = b by rw [← ein]; exact b22)]
        refine m_iconst (v := 0) X dX2_leftIn_36 (by decide) rfl ?_
        refine m_iadd X dX2_leftIn_37 rfl ?_
        refine m_istore_n X dX2_leftIn_38 (Nat.le_of_ble_eq_true rfl) rfl ?_
        refine m_iinc X dX2_leftIn_39 rfl (Nat.le_of_ble_eq_true rfl) rfl ?_
        refine m_goto (tgt := 4) X dX2_leftIn_42 (by decide) rfl ?_
        refine m_lp (l1 := [(3, .int (nI (i + 1))), (2, .int (sStock b a (i + 1))), (0, .ref 8), (1, .int b)]) [0, 1, 2, 3] (by rw [e22, nI_succ]; first | rfl | (rw [ein]; rfl)) ?_
        exact ih (i + 1) (by omega)
      · have e22 : sStock b a (i + 1) = sStock b a i + (a 6 i) := by show sStock b a i + _ = _; rw [if_neg (not_not_intro (show a 4 i = b by rw [← ein]; exact b22))]
        refine m_aload_n X dX2_leftIn_25 rfl rfl ?_
        refine m_getf X dX2_leftIn_26 fl_X2_18 rfl rfl rfl ?_
        refine m_iload_n X dX2_leftIn_29 rfl rfl ?_
        refine m_cS2 X dX2_leftIn_30 lk_X2_32 mk_X5_at st_X5_at (c_X5_at rfl (by decide) hin) rfl (Nat.le_of_ble_eq_true rfl) (Nat.le_of_ble_eq_true rfl) (Nat.le_of_ble_eq_true rfl) (Nat.le_of_ble_eq_true rfl) (Nat.le_of_ble_eq_true rfl) rfl ?_
        refine m_goto (tgt := 37) X dX2_leftIn_33 (by decide) rfl ?_
        refine m_iadd X dX2_leftIn_37 rfl ?_
        refine m_istore_n X dX2_leftIn_38 (Nat.le_of_ble_eq_true rfl) rfl ?_
        refine m_iinc X dX2_leftIn_39 rfl (Nat.le_of_ble_eq_true rfl) rfl ?_
        refine m_goto (tgt := 4) X dX2_leftIn_42 (by decide) rfl ?_
        refine m_lp (l1 := [(3, .int (nI (i + 1))), (2, .int (sStock b a (i + 1))), (0, .ref 8), (1, .int b)]) [0, 1, 2, 3] (by rw [e22, nI_succ]; first | rfl | (rw [ein]; rfl)) ?_
        exact ih (i + 1) (by omega)
  refine m_iconst (v := 0) X dX2_leftIn_0 (by decide) rfl ?_
  refine m_istore_n X dX2_leftIn_1 (Nat.le_of_ble_eq_true rfl) rfl ?_
  refine m_iconst (v := 0) X dX2_leftIn_2 (by decide) rfl ?_
  refine m_istore_n X dX2_leftIn_3 (Nat.le_of_ble_eq_true rfl) rfl ?_
  refine m_lp (l1 := [(3, .int (nI 0)), (2, .int (sStock b a 0)), (0, .ref 8), (1, .int b)]) [0, 1, 2, 3] rfl ?_
  exact loop L 0 (by omega)
theorem c_X2_goneFrom {v : m_V} {a : m_R} {x : Int64} {t : m_H} {b : Int32} (hL : ∃ L, L ≤ 30 ∧ v 8 = nI L) : m_Ctr M_X2_goneFrom [.ref 8, .int b] (hC v a x t) (.inl (some (.int (sGone b a (v 8).toNatClampNeg)), hC v a x t)) := by
  refine m_intro (by decide +kernel) (Nat.le_of_ble_eq_true rfl) (fun {D cI cL sa A p l e s m args below meth c ad} X => ?_)
  obtain ⟨L, hL30, hL8⟩ := hL
  have eL : (v 8).toNatClampNeg = L := by rw [hL8]; exact nI_clamp (by omega)
  have loop : ∀ k i, i + k = L → m_Go D cI cL ad ((hC v a x t)).length (m_Ml M_X2_goneFrom) A p l e (m_rm M_X2_goneFrom) s m args below meth c (m_VQ D cI cL ad ((hC v a x t)).length A (.inl (some (.int (sGone b a (v 8).toNatClampNeg)), hC v a x t)) below args s (m_Mc M_X2_goneFrom) (m_Ms M_X2_goneFrom)) 4 [(3, .int (nI i)), (2, .int (sGone b a i)), (0, .ref 8), (1, .int b)] [] (hC v a x t) 0 0 := by
    intro k
    induction k with
    | zero =>
      intro i hi
      have hiL : i = L := by omega
      subst hiL
      refine m_iload_n X dX2_goneFrom_4 rfl rfl ?_
      refine m_aload_n X dX2_goneFrom_5 rfl rfl ?_
      refine m_getf (v := .int (v 8)) X dX2_goneFrom_6 fl_X2_24 rfl rfl rfl ?_
      refine m_icmp_ge (tgt := 54) X dX2_goneFrom_9 (by decide) rfl (fun b9 => ?_) (fun b9 => absurd b9 (not_not_intro (by rw [hL8]; exact Int32.le_refl _)))
      refine m_iload_n X dX2_goneFrom_54 rfl rfl ?_
      exact m_iret X dX2_goneFrom_55 rfl (by rw [eL]) (Nat.le_of_ble_eq_true rfl) (Nat.le_of_ble_eq_true rfl) rfl
    | succ k ih =>
      intro i hi
      have hlt : i < L := by omega
      have hin : vp_in (nI i) 30 := vp_in_nI (by omega) (by omega)
      have ein : (nI i).toNatClampNeg = i := nI_clamp (by omega)
      refine m_iload_n X dX2_goneFrom_4 rfl rfl ?_
      refine m_aload_n X dX2_goneFrom_5 rfl rfl ?_
      refine m_getf (v := .int (v 8)) X dX2_goneFrom_6 fl_X2_24 rfl rfl rfl ?_
      refine m_icmp_ge (tgt := 54) X dX2_goneFrom_9 (by decide) rfl (fun b9 => absurd b9 (by rw [hL8]; exact nI_ge hlt (by omega))) (fun b9 => ?_)
      refine m_iload_n X dX2_goneFrom_12 rfl rfl ?_
      refine m_aload_n X dX2_goneFrom_13 rfl rfl ?_
      refine m_getf X dX2_goneFrom_14 fl_X2_9 rfl rfl rfl ?_
      refine m_iload_n X dX2_goneFrom_17 rfl rfl ?_
      refine m_cS2 X dX2_goneFrom_18 lk_X2_32 mk_X5_at st_X5_at (c_X5_at rfl (by decide) hin) rfl (Nat.le_of_ble_eq_true rfl) (Nat.le_of_ble_eq_true rfl) (Nat.le_of_ble_eq_true rfl) (Nat.le_of_ble_eq_true rfl) (Nat.le_of_ble_eq_true rfl) rfl ?_
      refine m_iload_n X dX2_goneFrom_21 rfl rfl ?_
      refine m_icmp_ne (tgt := 45) X dX2_goneFrom_22 (by decide) rfl (fun b22 => ?_) (fun b22 => ?_)
      · have e22 : sGone b a (i + 1) = sGone b a i + 0 := by show sGone b a i + _ = _; rw [if_pos (show ¬ a 4 i = b by rw [← ein]; exact b22)]
        refine m_iconst (v := 0) X dX2_goneFrom_45 (by decide) rfl ?_
        refine m_iadd X dX2_goneFrom_46 rfl ?_
        refine m_istore_n X dX2_goneFrom_47 (Nat.le_of_ble_eq_true rfl) rfl ?_
        refine m_iinc X dX2_goneFrom_48 rfl (Nat.le_of_ble_eq_true rfl) rfl ?_
        refine m_goto (tgt := 4) X dX2_goneFrom_51 (by decide) rfl ?_
        refine m_lp (l1 := [(3, .int (nI (i + 1))), (2, .int (sGone b a (i + 1))), (0, .ref 8), (1, .int b)]) [0, 1, 2, 3] (by rw [e22, nI_succ]; first | rfl | (rw [ein]; rfl)) ?_
        exact ih (i + 1) (by omega)
      · have e22 : sGone b a (i + 1) = sGone b a i + (a 5 i - a 6 i) := by show sGone b a i + _ = _; rw [if_neg (not_not_intro (show a 4 i = b by rw [← ein]; exact b22))]
        refine m_aload_n X dX2_goneFrom_25 rfl rfl ?_
        refine m_getf X dX2_goneFrom_26 fl_X2_15 rfl rfl rfl ?_
        refine m_iload_n X dX2_goneFrom_29 rfl rfl ?_
        refine m_cS2 X dX2_goneFrom_30 lk_X2_32 mk_X5_at st_X5_at (c_X5_at rfl (by decide) hin) rfl (Nat.le_of_ble_eq_true rfl) (Nat.le_of_ble_eq_true rfl) (Nat.le_of_ble_eq_true rfl) (Nat.le_of_ble_eq_true rfl) (Nat.le_of_ble_eq_true rfl) rfl ?_
        refine m_aload_n X dX2_goneFrom_33 rfl rfl ?_
        refine m_getf X dX2_goneFrom_34 fl_X2_18 rfl rfl rfl ?_
        refine m_iload_n X dX2_goneFrom_37 rfl rfl ?_
        refine m_cS2 X dX2_goneFrom_38 lk_X2_32 mk_X5_at st_X5_at (c_X5_at rfl (by decide) hin) rfl (Nat.le_of_ble_eq_true rfl) (Nat.le_of_ble_eq_true rfl) (Nat.le_of_ble_eq_true rfl) (Nat.le_of_ble_eq_true rfl) (Nat.le_of_ble_eq_true rfl) rfl ?_
        refine m_isub X dX2_goneFrom_41 rfl ?_
        refine m_goto (tgt := 46) X dX2_goneFrom_42 (by decide) rfl ?_
        refine m_iadd X dX2_goneFrom_46 rfl ?_
        refine m_istore_n X dX2_goneFrom_47 (Nat.le_of_ble_eq_true rfl) rfl ?_
        refine m_iinc X dX2_goneFrom_48 rfl (Nat.le_of_ble_eq_true rfl) rfl ?_
        refine m_goto (tgt := 4) X dX2_goneFrom_51 (by decide) rfl ?_
        refine m_lp (l1 := [(3, .int (nI (i + 1))), (2, .int (sGone b a (i + 1))), (0, .ref 8), (1, .int b)]) [0, 1, 2, 3] (by rw [e22, nI_succ]; first | rfl | (rw [ein]; rfl)) ?_
        exact ih (i + 1) (by omega)
  refine m_iconst (v := 0) X dX2_goneFrom_0 (by decide) rfl ?_
  refine m_istore_n X dX2_goneFrom_1 (Nat.le_of_ble_eq_true rfl) rfl ?_
  refine m_iconst (v := 0) X dX2_goneFrom_2 (by decide) rfl ?_
  refine m_istore_n X dX2_goneFrom_3 (Nat.le_of_ble_eq_true rfl) rfl ?_
  refine m_lp (l1 := [(3, .int (nI 0)), (2, .int (sGone b a 0)), (0, .ref 8), (1, .int b)]) [0, 1, 2, 3] rfl ?_
  exact loop L 0 (by omega)
theorem c_X2_usedFor {v : m_V} {a : m_R} {x : Int64} {t : m_H} {i B : Nat} (hi : i < 30) (hB : B < 20) : m_Ctr M_X2_usedFor [.ref 8, .int (nI i), .int (nI B)] (hC v a x t) (.inl (some (.int (a 7 (i * 20 + B))), hC v a x t)) := by
  refine m_intro (by decide +kernel) (Nat.le_of_ble_eq_true rfl) (fun X => ?_)
  refine m_aload_n X dX2_usedFor_0 rfl rfl ?_
  refine m_getf X dX2_usedFor_1 fl_X2_21 rfl rfl rfl ?_
  refine m_iload_n X dX2_usedFor_4 rfl rfl ?_
  refine m_iload_n X dX2_usedFor_5 rfl rfl ?_
  refine m_cS2 X dX2_usedFor_6 lk_X2_45 mk_X2_place st_X2_place (c_X2_place) rfl (Nat.le_of_ble_eq_true rfl) (Nat.le_of_ble_eq_true rfl) (Nat.le_of_ble_eq_true rfl) (Nat.le_of_ble_eq_true rfl) (Nat.le_of_ble_eq_true rfl) rfl ?_
  refine m_cS2 X dX2_usedFor_9 lk_X2_32 mk_X5_at st_X5_at (c_X5_at rfl (by decide) (plc_in hi hB rfl)) rfl (Nat.le_of_ble_eq_true rfl) (Nat.le_of_ble_eq_true rfl) (Nat.le_of_ble_eq_true rfl) (Nat.le_of_ble_eq_true rfl) (Nat.le_of_ble_eq_true rfl) rfl ?_
  exact m_iret X dX2_usedFor_12 rfl (by rw [plc_nI, nI_clamp (by omega)]) (Nat.le_of_ble_eq_true rfl) (Nat.le_of_ble_eq_true rfl) rfl
theorem c_X2_firstBatchOf {v : m_V} {a : m_R} {x : Int64} {t : m_H} {i B : Nat} (hi : i < 30) (hB : B ≤ 20) (hF : sFst a i B) : m_Ctr M_X2_firstBatchOf [.ref 8, .int (nI i), .int (nI B)] (hC v a x t) (.inl (some (.int (a 12 i)), hC v a x t)) := by
  refine m_intro (by decide +kernel) (Nat.le_of_ble_eq_true rfl) (fun {D cI cL sa A p l e s m args below meth c ad} X => ?_)
  have loop : ∀ k j, j + k = B → (∀ b', b' < j → ¬ 0 < a 7 (i * 20 + b')) → m_Go D cI cL ad ((hC v a x t)).length (m_Ml M_X2_firstBatchOf) A p l e (m_rm M_X2_firstBatchOf) s m args below meth c (m_VQ D cI cL ad ((hC v a x t)).length A (.inl (some (.int (a 12 i)), hC v a x t)) below args s (m_Mc M_X2_firstBatchOf) (m_Ms M_X2_firstBatchOf)) 2 [(3, .int (nI j)), (0, .ref 8), (1, .int (nI i)), (2, .int (nI B))] [] (hC v a x t) 0 0 := by
    intro k
    induction k with
    | zero =>
      intro j hj hno
      have hjB : j = B := by omega
      subst hjB
      refine m_iload_n X dX2_firstBatchOf_2 rfl rfl ?_
      refine m_iload_n X dX2_firstBatchOf_3 rfl rfl ?_
      refine m_icmp_ge (tgt := 24) X dX2_firstBatchOf_4 (by decide) rfl (fun b4 => ?_) (fun b4 => absurd b4 (not_not_intro (Int32.le_refl _)))
      refine m_iconst (v := (-1)) X dX2_firstBatchOf_24 (by decide) rfl ?_
      exact m_iret X dX2_firstBatchOf_25 rfl (by
        rcases hF with ⟨h1, -⟩ | ⟨b, hb, -, h2, -⟩
        · rw [h1]
        · exact absurd h2 (hno b hb)) (Nat.le_of_ble_eq_true rfl) (Nat.le_of_ble_eq_true rfl) rfl
    | succ k ih =>
      intro j hj hno
      have hlt : j < B := by omega
      refine m_iload_n X dX2_firstBatchOf_2 rfl rfl ?_
      refine m_iload_n X dX2_firstBatchOf_3 rfl rfl ?_
      refine m_icmp_ge (tgt := 24) X dX2_firstBatchOf_4 (by decide) rfl (fun b4 => absurd b4 (nI_ge hlt (by omega))) (fun b4 => ?_)
      refine m_aload_n X dX2_firstBatchOf_7 rfl rfl ?_
      refine m_iload_n X dX2_firstBatchOf_8 rfl rfl ?_
      refine m_iload_n X dX2_firstBatchOf_9 rfl rfl ?_
      refine m_cV2 X dX2_firstBatchOf_10 lk_X2_48 mk_X2_usedFor in_X2_usedFor se_X2_usedFor rfl rfl (c_X2_usedFor hi (by omega)) rfl (Nat.le_of_ble_eq_true rfl) (Nat.le_of_ble_eq_true rfl) (Nat.le_of_ble_eq_true rfl) (Nat.le_of_ble_eq_true rfl) (Nat.le_of_ble_eq_true rfl) rfl ?_
      refine m_if_le (tgt := 18) X dX2_firstBatchOf_13 (by decide) rfl (fun b13 => ?_) (fun b13 => ?_)
      · refine m_iinc X dX2_firstBatchOf_18 rfl (Nat.le_of_ble_eq_true rfl) rfl ?_
        refine m_goto (tgt := 2) X dX2_firstBatchOf_21 (by decide) rfl ?_
        refine m_lp (l1 := [(3, .int (nI (j + 1))), (0, .ref 8), (1, .int (nI i)), (2, .int (nI B))]) [0, 1, 2, 3] (by rw [nI_succ]; rfl) ?_
        exact ih (j + 1) (by omega) (fun b' hb' => by
          rcases Nat.lt_succ_iff_lt_or_eq.mp hb' with q | q
          · exact hno b' q
          · rw [q]; exact fun h0 => absurd b13 (i_nle.mpr h0))
      · refine m_iload_n X dX2_firstBatchOf_16 rfl rfl ?_
        exact m_iret X dX2_firstBatchOf_17 rfl (by
          have h0 : 0 < a 7 (i * 20 + j) := i_nle.mp b13
          rcases hF with ⟨-, h1⟩ | ⟨b, hb, h1, h2, h3⟩
          · exact absurd h0 (h1 j hlt)
          · have : b = j := by
              rcases Nat.lt_trichotomy b j with q | q | q
              · exact absurd h2 (hno b q)
              · exact q
              · exact absurd h0 (h3 j q)
            rw [h1, this]) (Nat.le_of_ble_eq_true rfl) (Nat.le_of_ble_eq_true rfl) rfl
  refine m_iconst (v := 0) X dX2_firstBatchOf_0 (by decide) rfl ?_
  refine m_istore_n X dX2_firstBatchOf_1 (Nat.le_of_ble_eq_true rfl) rfl ?_
  refine m_lp (l1 := [(3, .int (nI 0)), (0, .ref 8), (1, .int (nI i)), (2, .int (nI B))]) [0, 1, 2, 3] rfl ?_
  exact loop B 0 (by omega) (fun b' h => absurd h (Nat.not_lt_zero _))
theorem c_X2_store {v : m_V} {a : m_R} {x : Int64} {t : m_H} {b am : Int32} (h8 : vp_in (v 8) 30) : m_Ctr M_X2_store [.ref 8, .int b, .int am] (hC v a x t) (.inl (some (.int (v 8)), hC (upd v 8 (v 8 + 1)) (sFillA b am v a) x t)) := by
  refine m_intro (by decide +kernel) (Nat.le_of_ble_eq_true rfl) (fun X => ?_)
  refine m_aload_n X dX2_store_0 rfl rfl ?_
  refine m_getf (v := .int (v 8)) X dX2_store_1 fl_X2_24 rfl rfl rfl ?_
  refine m_istore_n X dX2_store_4 (Nat.le_of_ble_eq_true rfl) rfl ?_
  refine m_aload_n X dX2_store_5 rfl rfl ?_
  refine m_getf X dX2_store_6 fl_X2_9 rfl rfl rfl ?_
  refine m_iload_n X dX2_store_9 rfl rfl ?_
  refine m_iload_n X dX2_store_10 rfl rfl ?_
  refine m_cS3 X dX2_store_11 lk_X2_28 mk_X5_put st_X5_put (c_X5_put rfl (by decide) h8) rfl (Nat.le_of_ble_eq_true rfl) (Nat.le_of_ble_eq_true rfl) (Nat.le_of_ble_eq_true rfl) (Nat.le_of_ble_eq_true rfl) (Nat.le_of_ble_eq_true rfl) rfl ?_
  refine m_hp hC_a4 ?_
  refine m_aload_n X dX2_store_14 rfl rfl ?_
  refine m_getf X dX2_store_15 fl_X2_15 rfl rfl rfl ?_
  refine m_iload_n X dX2_store_18 rfl rfl ?_
  refine m_iload_n X dX2_store_19 rfl rfl ?_
  refine m_cS3 X dX2_store_20 lk_X2_28 mk_X5_put st_X5_put (c_X5_put rfl (by decide) h8) rfl (Nat.le_of_ble_eq_true rfl) (Nat.le_of_ble_eq_true rfl) (Nat.le_of_ble_eq_true rfl) (Nat.le_of_ble_eq_true rfl) (Nat.le_of_ble_eq_true rfl) rfl ?_
  refine m_hp hC_a5 ?_
  refine m_aload_n X dX2_store_23 rfl rfl ?_
  refine m_getf X dX2_store_24 fl_X2_18 rfl rfl rfl ?_
  refine m_iload_n X dX2_store_27 rfl rfl ?_
  refine m_iload_n X dX2_store_28 rfl rfl ?_
  refine m_cS3 X dX2_store_29 lk_X2_28 mk_X5_put st_X5_put (c_X5_put rfl (by decide) h8) rfl (Nat.le_of_ble_eq_true rfl) (Nat.le_of_ble_eq_true rfl) (Nat.le_of_ble_eq_true rfl) (Nat.le_of_ble_eq_true rfl) (Nat.le_of_ble_eq_true rfl) rfl ?_
  refine m_hp hC_a6 ?_
  refine m_aload_n X dX2_store_32 rfl rfl ?_
  refine m_dup X dX2_store_33 rfl rfl ?_
  refine m_getf (v := .int (v 8)) X dX2_store_34 fl_X2_24 rfl rfl rfl ?_
  refine m_iconst (v := 1) X dX2_store_37 (by decide) rfl ?_
  refine m_iadd X dX2_store_38 rfl ?_
  refine m_piC 8 X dX2_store_39 fl_X2_24 fp_X2_4 rfl rfl rfl rfl ?_
  refine m_iload_n X dX2_store_42 rfl rfl ?_
  exact m_iret X dX2_store_43 rfl (rfl) (Nat.le_of_ble_eq_true rfl) (Nat.le_of_ble_eq_true rfl) rfl
theorem c_X3_append {v : m_V} {a : m_R} {x : Int64} {t : m_H} {b tg tl : Int32} (h9 : vp_in (v 9) 6) : m_Ctr M_X3_append [.ref 13, .int b, .int tg, .int tl] (hC v a x t) (.inl (none, hC (upd v 9 (v 9 + 1)) (sAppA b tg tl v a) x t)) := by
  refine m_intro (by decide +kernel) (Nat.le_of_ble_eq_true rfl) (fun X => ?_)
  refine m_aload_n X dX3_append_0 rfl rfl ?_
  refine m_getf X dX3_append_1 fl_X3_9 rfl rfl rfl ?_
  refine m_aload_n X dX3_append_4 rfl rfl ?_
  refine m_getf (v := .int (v 9)) X dX3_append_5 fl_X3_21 rfl rfl rfl ?_
  refine m_iload_n X dX3_append_8 rfl rfl ?_
  refine m_cS3 X dX3_append_9 lk_X3_25 mk_X5_put st_X5_put (c_X5_put rfl (by decide) h9) rfl (Nat.le_of_ble_eq_true rfl) (Nat.le_of_ble_eq_true rfl) (Nat.le_of_ble_eq_true rfl) (Nat.le_of_ble_eq_true rfl) (Nat.le_of_ble_eq_true rfl) rfl ?_
  refine m_hp hC_a8 ?_
  refine m_aload_n X dX3_append_12 rfl rfl ?_
  refine m_getf X dX3_append_13 fl_X3_15 rfl rfl rfl ?_
  refine m_aload_n X dX3_append_16 rfl rfl ?_
  refine m_getf (v := .int (v 9)) X dX3_append_17 fl_X3_21 rfl rfl rfl ?_
  refine m_iload_n X dX3_append_20 rfl rfl ?_
  refine m_cS3 X dX3_append_21 lk_X3_25 mk_X5_put st_X5_put (c_X5_put rfl (by decide) h9) rfl (Nat.le_of_ble_eq_true rfl) (Nat.le_of_ble_eq_true rfl) (Nat.le_of_ble_eq_true rfl) (Nat.le_of_ble_eq_true rfl) (Nat.le_of_ble_eq_true rfl) rfl ?_
  refine m_hp hC_a9 ?_
  refine m_aload_n X dX3_append_24 rfl rfl ?_
  refine m_getf X dX3_append_25 fl_X3_18 rfl rfl rfl ?_
  refine m_aload_n X dX3_append_28 rfl rfl ?_
  refine m_getf (v := .int (v 9)) X dX3_append_29 fl_X3_21 rfl rfl rfl ?_
  refine m_iload_n X dX3_append_32 rfl rfl ?_
  refine m_cS3 X dX3_append_33 lk_X3_25 mk_X5_put st_X5_put (c_X5_put rfl (by decide) h9) rfl (Nat.le_of_ble_eq_true rfl) (Nat.le_of_ble_eq_true rfl) (Nat.le_of_ble_eq_true rfl) (Nat.le_of_ble_eq_true rfl) (Nat.le_of_ble_eq_true rfl) rfl ?_
  refine m_hp hC_a10 ?_
  refine m_aload_n X dX3_append_36 rfl rfl ?_
  refine m_dup X dX3_append_37 rfl rfl ?_
  refine m_getf (v := .int (v 9)) X dX3_append_38 fl_X3_21 rfl rfl rfl ?_
  refine m_iconst (v := 1) X dX3_append_41 (by decide) rfl ?_
  refine m_iadd X dX3_append_42 rfl ?_
  refine m_piC 9 X dX3_append_43 fl_X3_21 fp_X3_3 rfl rfl rfl rfl ?_
  exact m_vret X dX3_append_46 rfl (rfl) (Nat.le_of_ble_eq_true rfl) (Nat.le_of_ble_eq_true rfl) rfl
theorem c_X1_bookNet {v : m_V} {a : m_R} {x : Int64} {t : m_H} (h1 : vp_in (v 15) 6) (h2 : vp_in (sbin v a) 4) (hL : ∃ L, L ≤ 30 ∧ v 8 = nI L) (hB : ∃ B, B < 20 ∧ v 20 = nI (B + 1)) : m_Ctr M_X1_bookNet [.ref 1] (hC v a x t) (.inl (some (.int (sAmt v)), hC v (sBook v a) x t)) := by
  refine m_intro (by decide +kernel) (Nat.le_of_ble_eq_true rfl) (fun X => ?_)
  refine m_iconst (v := 0) X dX1_bookNet_0 (by decide) rfl ?_
  refine m_aload_n X dX1_bookNet_1 rfl rfl ?_
  refine m_getf X dX1_bookNet_2 fl_X1_12 rfl rfl rfl ?_
  refine m_cV0 X dX1_bookNet_5 lk_X1_115 mk_X4_netNow in_X4_netNow se_X4_netNow rfl rfl (c_X4_netNow) rfl (Nat.le_of_ble_eq_true rfl) (Nat.le_of_ble_eq_true rfl) (Nat.le_of_ble_eq_true rfl) (Nat.le_of_ble_eq_true rfl) (Nat.le_of_ble_eq_true rfl) rfl ?_
  refine m_mmax X dX1_bookNet_8 lm_X1_152 (Nat.le_of_ble_eq_true rfl) (Nat.le_of_ble_eq_true rfl) (Nat.le_of_ble_eq_true rfl) (Nat.le_of_ble_eq_true rfl) rfl ?_
  refine m_istore_n X dX1_bookNet_11 (Nat.le_of_ble_eq_true rfl) rfl ?_
  refine m_aload_n X dX1_bookNet_12 rfl rfl ?_
  refine m_cV0 X dX1_bookNet_13 lk_X1_75 mk_X1_stepBin in_X1_stepBin se_X1_stepBin rfl rfl (c_X1_stepBin h1) rfl (Nat.le_of_ble_eq_true rfl) (Nat.le_of_ble_eq_true rfl) (Nat.le_of_ble_eq_true rfl) (Nat.le_of_ble_eq_true rfl) (Nat.le_of_ble_eq_true rfl) rfl ?_
  refine m_istore_n X dX1_bookNet_16 (Nat.le_of_ble_eq_true rfl) rfl ?_
  refine m_aload_n X dX1_bookNet_17 rfl rfl ?_
  refine m_getf X dX1_bookNet_18 fl_X1_28 rfl rfl rfl ?_
  refine m_iload_n X dX1_bookNet_21 rfl rfl ?_
  refine m_iload_n X dX1_bookNet_22 rfl rfl ?_
  refine m_aload_n X dX1_bookNet_23 rfl rfl ?_
  refine m_getf (v := .int (v 20)) X dX1_bookNet_24 fl_X1_79 rfl rfl rfl ?_
  refine m_iconst (v := 1) X dX1_bookNet_27 (by decide) rfl ?_
  refine m_isub X dX1_bookNet_28 rfl ?_
  refine m_cV3 X dX1_bookNet_29 lk_X1_158 mk_X2_takeOut in_X2_takeOut se_X2_takeOut rfl rfl (c_X2_takeOut hL (by obtain ⟨B, h20, hb⟩ := hB; exact ⟨B, h20, by rw [hb]; exact nI_pred B⟩)) rfl (Nat.le_of_ble_eq_true rfl) (Nat.le_of_ble_eq_true rfl) (Nat.le_of_ble_eq_true rfl) (Nat.le_of_ble_eq_true rfl) (Nat.le_of_ble_eq_true rfl) rfl ?_
  refine m_istore_n X dX1_bookNet_32 (Nat.le_of_ble_eq_true rfl) rfl ?_
  refine m_aload_n X dX1_bookNet_33 rfl rfl ?_
  refine m_getf X dX1_bookNet_34 fl_X1_21 rfl rfl rfl ?_
  refine m_getf X dX1_bookNet_37 fl_X1_162 rfl rfl rfl ?_
  refine m_iload_n X dX1_bookNet_40 rfl rfl ?_
  refine m_iload_n X dX1_bookNet_41 rfl rfl ?_
  refine m_cS3 X dX1_bookNet_42 lk_X1_165 mk_X5_increase st_X5_increase (c_X5_increase rfl (by decide) h2) rfl (Nat.le_of_ble_eq_true rfl) (Nat.le_of_ble_eq_true rfl) (Nat.le_of_ble_eq_true rfl) (Nat.le_of_ble_eq_true rfl) (Nat.le_of_ble_eq_true rfl) rfl ?_
  refine m_hp hC_a2 ?_
  refine m_aload_n X dX1_bookNet_45 rfl rfl ?_
  refine m_getf X dX1_bookNet_46 fl_X1_21 rfl rfl rfl ?_
  refine m_getf X dX1_bookNet_49 fl_X1_169 rfl rfl rfl ?_
  refine m_iload_n X dX1_bookNet_52 rfl rfl ?_
  refine m_iload_n X dX1_bookNet_53 rfl rfl ?_
  refine m_iload_n X dX1_bookNet_54 rfl rfl ?_
  refine m_isub X dX1_bookNet_55 rfl ?_
  refine m_cS3 X dX1_bookNet_56 lk_X1_165 mk_X5_increase st_X5_increase (c_X5_increase rfl (by decide) h2) rfl (Nat.le_of_ble_eq_true rfl) (Nat.le_of_ble_eq_true rfl) (Nat.le_of_ble_eq_true rfl) (Nat.le_of_ble_eq_true rfl) (Nat.le_of_ble_eq_true rfl) rfl ?_
  refine m_hp hC_a3 ?_
  refine m_iload_n X dX1_bookNet_59 rfl rfl ?_
  exact m_iret X dX1_bookNet_60 rfl (rfl) (Nat.le_of_ble_eq_true rfl) (Nat.le_of_ble_eq_true rfl) rfl
theorem c_X1_finishStep {v : m_V} {a : m_R} {x : Int64} {t : m_H} (h1 : vp_in (v 15) 6) (h2 : vp_in (sbin v a) 4) (hL : ∃ L, L ≤ 30 ∧ v 8 = nI L) (hB : ∃ B, B < 20 ∧ v 20 = nI (B + 1)) : m_Ctr M_X1_finishStep [.ref 1] (hC v a x t) (.inl (none, hC (sFinish v) (sBook v a) x t)) := by
  refine m_intro (by decide +kernel) (Nat.le_of_ble_eq_true rfl) (fun X => ?_)
  refine m_aload_n X dX1_finishStep_0 rfl rfl ?_
  refine m_cV0 X dX1_finishStep_1 lk_X1_95 mk_X1_bookNet in_X1_bookNet se_X1_bookNet rfl rfl (c_X1_bookNet h1 h2 hL hB) rfl (Nat.le_of_ble_eq_true rfl) (Nat.le_of_ble_eq_true rfl) (Nat.le_of_ble_eq_true rfl) (Nat.le_of_ble_eq_true rfl) (Nat.le_of_ble_eq_true rfl) rfl ?_
  refine m_pop X dX1_finishStep_4 rfl rfl ?_
  refine m_aload_n X dX1_finishStep_5 rfl rfl ?_
  refine m_getf (v := .int (v 15)) X dX1_finishStep_6 fl_X1_130 rfl rfl rfl ?_
  refine m_iconst (v := 1) X dX1_finishStep_9 (by decide) rfl ?_
  refine m_iadd X dX1_finishStep_10 rfl ?_
  refine m_aload_n X dX1_finishStep_11 rfl rfl ?_
  refine m_getf X dX1_finishStep_12 fl_X1_35 rfl rfl rfl ?_
  refine m_getf (v := .int (v 9)) X dX1_finishStep_15 fl_X1_146 rfl rfl rfl ?_
  refine m_icmp_ge (tgt := 34) X dX1_finishStep_18 (by decide) rfl (fun b18 => ?_) (fun b18 => ?_)
  · refine m_aload_n X dX1_finishStep_34 rfl rfl ?_
    refine m_dup X dX1_finishStep_35 rfl rfl ?_
    refine m_getf (v := .int (v 21)) X dX1_finishStep_36 fl_X1_149 rfl rfl rfl ?_
    refine m_iconst (v := 1) X dX1_finishStep_39 (by decide) rfl ?_
    refine m_iadd X dX1_finishStep_40 rfl ?_
    refine m_piC 21 X dX1_finishStep_41 fl_X1_149 fp_X1_15 rfl rfl rfl rfl ?_
    refine m_aload_n X dX1_finishStep_44 rfl rfl ?_
    refine m_iconst (v := 0) X dX1_finishStep_45 (by decide) rfl ?_
    refine m_cV1 X dX1_finishStep_46 lk_X1_72 mk_X1_enter in_X1_enter se_X1_enter rfl rfl (c_X1_enter) rfl (Nat.le_of_ble_eq_true rfl) (Nat.le_of_ble_eq_true rfl) (Nat.le_of_ble_eq_true rfl) (Nat.le_of_ble_eq_true rfl) (Nat.le_of_ble_eq_true rfl) rfl ?_
    exact m_vret X dX1_finishStep_49 rfl (by unfold sFinish; rw [if_pos b18]; try rfl) (Nat.le_of_ble_eq_true rfl) (Nat.le_of_ble_eq_true rfl) rfl
  · refine m_aload_n X dX1_finishStep_21 rfl rfl ?_
    refine m_aload_n X dX1_finishStep_22 rfl rfl ?_
    refine m_getf (v := .int (v 15)) X dX1_finishStep_23 fl_X1_130 rfl rfl rfl ?_
    refine m_iconst (v := 1) X dX1_finishStep_26 (by decide) rfl ?_
    refine m_iadd X dX1_finishStep_27 rfl ?_
    refine m_cV1 X dX1_finishStep_28 lk_X1_82 mk_X1_beginStep in_X1_beginStep se_X1_beginStep rfl rfl (c_X1_beginStep) rfl (Nat.le_of_ble_eq_true rfl) (Nat.le_of_ble_eq_true rfl) (Nat.le_of_ble_eq_true rfl) (Nat.le_of_ble_eq_true rfl) (Nat.le_of_ble_eq_true rfl) rfl ?_
    refine m_goto (tgt := 49) X dX1_finishStep_31 (by decide) rfl ?_
    exact m_vret X dX1_finishStep_49 rfl (by unfold sFinish; rw [if_neg b18]; try rfl) (Nat.le_of_ble_eq_true rfl) (Nat.le_of_ble_eq_true rfl) rfl
theorem c_X1_weigh {v : m_V} {a : m_R} {x : Int64} {t : m_H} (h1 : vp_in (v 15) 6) (h2 : vp_in (sbin v a) 4) (hL : ∃ L, L ≤ 30 ∧ v 8 = nI L) (hB : ∃ B, B < 20 ∧ v 20 = nI (B + 1)) : m_Ctr M_X1_weigh [.ref 1] (hC v a x t) (.inl (none, hC (sWeighV v a) (sWeighA v a) x t)) := by
  refine m_intro (by decide +kernel) (Nat.le_of_ble_eq_true rfl) (fun X => ?_)
  refine m_aload_n X dX1_weigh_0 rfl rfl ?_
  refine m_getf X dX1_weigh_1 fl_X1_12 rfl rfl rfl ?_
  refine m_cV0 X dX1_weigh_4 lk_X1_115 mk_X4_netNow in_X4_netNow se_X4_netNow rfl rfl (c_X4_netNow) rfl (Nat.le_of_ble_eq_true rfl) (Nat.le_of_ble_eq_true rfl) (Nat.le_of_ble_eq_true rfl) (Nat.le_of_ble_eq_true rfl) (Nat.le_of_ble_eq_true rfl) rfl ?_
  refine m_aload_n X dX1_weigh_7 rfl rfl ?_
  refine m_cV0 X dX1_weigh_8 lk_X1_104 mk_X1_target in_X1_target se_X1_target rfl rfl (c_X1_target h1) rfl (Nat.le_of_ble_eq_true rfl) (Nat.le_of_ble_eq_true rfl) (Nat.le_of_ble_eq_true rfl) (Nat.le_of_ble_eq_true rfl) (Nat.le_of_ble_eq_true rfl) rfl ?_
  refine m_isub X dX1_weigh_11 rfl ?_
  refine m_istore_n X dX1_weigh_12 (Nat.le_of_ble_eq_true rfl) rfl ?_
  refine m_aload_n X dX1_weigh_13 rfl rfl ?_
  refine m_getf X dX1_weigh_14 fl_X1_35 rfl rfl rfl ?_
  refine m_getf X dX1_weigh_17 fl_X1_127 rfl rfl rfl ?_
  refine m_aload_n X dX1_weigh_20 rfl rfl ?_
  refine m_getf (v := .int (v 15)) X dX1_weigh_21 fl_X1_130 rfl rfl rfl ?_
  refine m_cS2 X dX1_weigh_24 lk_X1_111 mk_X5_at st_X5_at (c_X5_at rfl (by decide) h1) rfl (Nat.le_of_ble_eq_true rfl) (Nat.le_of_ble_eq_true rfl) (Nat.le_of_ble_eq_true rfl) (Nat.le_of_ble_eq_true rfl) (Nat.le_of_ble_eq_true rfl) rfl ?_
  refine m_istore_n X dX1_weigh_27 (Nat.le_of_ble_eq_true rfl) rfl ?_
  refine m_aload_n X dX1_weigh_28 rfl rfl ?_
  refine m_getf (v := .int (v 19)) X dX1_weigh_29 fl_X1_133 rfl rfl rfl ?_
  refine m_if_ne (tgt := 52) X dX1_weigh_32 (by decide) rfl (fun b32 => ?_) (fun b32 => ?_)
  · have e1 : sW1 v = v := if_pos b32
    have e2 : sW2 v a = a := if_pos b32
    refine m_iload_n X dX1_weigh_52 rfl rfl ?_
    refine m_iload_n X dX1_weigh_53 rfl rfl ?_
    refine m_ineg X dX1_weigh_54 rfl ?_
    refine m_icmp_ge (tgt := 65) X dX1_weigh_55 (by decide) rfl (fun b55 => ?_) (fun b55 => ?_)
    · replace b55 : -(stol v a) ≤ sErr v a := b55
      refine m_iload_n X dX1_weigh_65 rfl rfl ?_
      refine m_iload_n X dX1_weigh_66 rfl rfl ?_
      refine m_icmp_le (tgt := 78) X dX1_weigh_67 (by decide) rfl (fun b67 => ?_) (fun b67 => ?_)
      · replace b67 : sErr v a ≤ stol v a := b67
        refine m_aload_n X dX1_weigh_78 rfl rfl ?_
        refine m_cV0 X dX1_weigh_79 lk_X1_85 mk_X1_finishStep in_X1_finishStep se_X1_finishStep rfl rfl (c_X1_finishStep h1 h2 hL hB) rfl (Nat.le_of_ble_eq_true rfl) (Nat.le_of_ble_eq_true rfl) (Nat.le_of_ble_eq_true rfl) (Nat.le_of_ble_eq_true rfl) (Nat.le_of_ble_eq_true rfl) rfl ?_
        exact m_vret X dX1_weigh_82 rfl (by unfold sWeighV sWeighA; rw [e1, e2, if_pos b55, if_pos b55, if_pos b67, if_pos b67]; try rfl) (Nat.le_of_ble_eq_true rfl) (Nat.le_of_ble_eq_true rfl) rfl
      · replace b67 : ¬ sErr v a ≤ stol v a := b67
        refine m_aload_n X dX1_weigh_70 rfl rfl ?_
        refine m_iconst (v := 2) X dX1_weigh_71 (by decide) rfl ?_
        refine m_cV1 X dX1_weigh_72 lk_X1_124 mk_X1_halt in_X1_halt se_X1_halt rfl rfl (c_X1_halt) rfl (Nat.le_of_ble_eq_true rfl) (Nat.le_of_ble_eq_true rfl) (Nat.le_of_ble_eq_true rfl) (Nat.le_of_ble_eq_true rfl) (Nat.le_of_ble_eq_true rfl) rfl ?_
        refine m_goto (tgt := 82) X dX1_weigh_75 (by decide) rfl ?_
        exact m_vret X dX1_weigh_82 rfl (by unfold sWeighV sWeighA; rw [e1, e2, if_pos b55, if_pos b55, if_neg b67, if_neg b67]; try rfl) (Nat.le_of_ble_eq_true rfl) (Nat.le_of_ble_eq_true rfl) rfl
    · replace b55 : ¬ -(stol v a) ≤ sErr v a := b55
      refine m_aload_n X dX1_weigh_58 rfl rfl ?_
      refine m_cV0 X dX1_weigh_59 lk_X1_140 mk_X1_jog in_X1_jog se_X1_jog rfl rfl (c_X1_jog) rfl (Nat.le_of_ble_eq_true rfl) (Nat.le_of_ble_eq_true rfl) (Nat.le_of_ble_eq_true rfl) (Nat.le_of_ble_eq_true rfl) (Nat.le_of_ble_eq_true rfl) rfl ?_
      refine m_goto (tgt := 82) X dX1_weigh_62 (by decide) rfl ?_
      exact m_vret X dX1_weigh_82 rfl (by unfold sWeighV sWeighA; rw [e1, e2, if_neg b55, if_neg b55]; try rfl) (Nat.le_of_ble_eq_true rfl) (Nat.le_of_ble_eq_true rfl) rfl
  · have e1 : sW1 v = upd v 19 1 := if_neg (not_not_intro b32)
    have e2 : sW2 v a = sLearn a (sbin v a) (sErr v a) := if_neg (not_not_intro b32)
    refine m_aload_n X dX1_weigh_35 rfl rfl ?_
    refine m_iconst (v := 1) X dX1_weigh_36 (by decide) rfl ?_
    refine m_pzC 19 X dX1_weigh_37 fl_X1_133 fp_X1_13 (by decide) rfl rfl rfl rfl ?_
    refine m_aload_n X dX1_weigh_40 rfl rfl ?_
    refine m_getf X dX1_weigh_41 fl_X1_21 rfl rfl rfl ?_
    refine m_aload_n X dX1_weigh_44 rfl rfl ?_
    refine m_cV0 X dX1_weigh_45 lk_X1_75 mk_X1_stepBin in_X1_stepBin se_X1_stepBin rfl rfl (c_X1_stepBin h1) rfl (Nat.le_of_ble_eq_true rfl) (Nat.le_of_ble_eq_true rfl) (Nat.le_of_ble_eq_true rfl) (Nat.le_of_ble_eq_true rfl) (Nat.le_of_ble_eq_true rfl) rfl ?_
    refine m_iload_n X dX1_weigh_48 rfl rfl ?_
    refine m_cV2 X dX1_weigh_49 lk_X1_136 mk_X0_learn in_X0_learn se_X0_learn rfl rfl (c_X0_learn h2) rfl (Nat.le_of_ble_eq_true rfl) (Nat.le_of_ble_eq_true rfl) (Nat.le_of_ble_eq_true rfl) (Nat.le_of_ble_eq_true rfl) (Nat.le_of_ble_eq_true rfl) rfl ?_
    refine m_iload_n X dX1_weigh_52 rfl rfl ?_
    refine m_iload_n X dX1_weigh_53 rfl rfl ?_
    refine m_ineg X dX1_weigh_54 rfl ?_
    refine m_icmp_ge (tgt := 65) X dX1_weigh_55 (by decide) rfl (fun b55 => ?_) (fun b55 => ?_)
    · replace b55 : -(stol v a) ≤ sErr v a := b55
      refine m_iload_n X dX1_weigh_65 rfl rfl ?_
      refine m_iload_n X dX1_weigh_66 rfl rfl ?_
      refine m_icmp_le (tgt := 78) X dX1_weigh_67 (by decide) rfl (fun b67 => ?_) (fun b67 => ?_)
      · replace b67 : sErr v a ≤ stol v a := b67
        refine m_aload_n X dX1_weigh_78 rfl rfl ?_
        refine m_cV0 X dX1_weigh_79 lk_X1_85 mk_X1_finishStep in_X1_finishStep se_X1_finishStep rfl rfl (c_X1_finishStep h1 h2 hL hB) rfl (Nat.le_of_ble_eq_true rfl) (Nat.le_of_ble_eq_true rfl) (Nat.le_of_ble_eq_true rfl) (Nat.le_of_ble_eq_true rfl) (Nat.le_of_ble_eq_true rfl) rfl ?_
        exact m_vret X dX1_weigh_82 rfl (by unfold sWeighV sWeighA; rw [e1, e2, if_pos b55, if_pos b55, if_pos b67, if_pos b67]; try rfl) (Nat.le_of_ble_eq_true rfl) (Nat.le_of_ble_eq_true rfl) rfl
      · replace b67 : ¬ sErr v a ≤ stol v a := b67
        refine m_aload_n X dX1_weigh_70 rfl rfl ?_
        refine m_iconst (v := 2) X dX1_weigh_71 (by decide) rfl ?_
        refine m_cV1 X dX1_weigh_72 lk_X1_124 mk_X1_halt in_X1_halt se_X1_halt rfl rfl (c_X1_halt) rfl (Nat.le_of_ble_eq_true rfl) (Nat.le_of_ble_eq_true rfl) (Nat.le_of_ble_eq_true rfl) (Nat.le_of_ble_eq_true rfl) (Nat.le_of_ble_eq_true rfl) rfl ?_
        refine m_goto (tgt := 82) X dX1_weigh_75 (by decide) rfl ?_
        exact m_vret X dX1_weigh_82 rfl (by unfold sWeighV sWeighA; rw [e1, e2, if_pos b55, if_pos b55, if_neg b67, if_neg b67]; try rfl) (Nat.le_of_ble_eq_true rfl) (Nat.le_of_ble_eq_true rfl) rfl
    · replace b55 : ¬ -(stol v a) ≤ sErr v a := b55
      refine m_aload_n X dX1_weigh_58 rfl rfl ?_
      refine m_cV0 X dX1_weigh_59 lk_X1_140 mk_X1_jog in_X1_jog se_X1_jog rfl rfl (c_X1_jog) rfl (Nat.le_of_ble_eq_true rfl) (Nat.le_of_ble_eq_true rfl) (Nat.le_of_ble_eq_true rfl) (Nat.le_of_ble_eq_true rfl) (Nat.le_of_ble_eq_true rfl) rfl ?_
      refine m_goto (tgt := 82) X dX1_weigh_62 (by decide) rfl ?_
      exact m_vret X dX1_weigh_82 rfl (by unfold sWeighV sWeighA; rw [e1, e2, if_neg b55, if_neg b55]; try rfl) (Nat.le_of_ble_eq_true rfl) (Nat.le_of_ble_eq_true rfl) rfl
end MK3
end
section
section MK4
theorem c_X1_bring0 {v : m_V} {a : m_R} {x : Int64} {t : m_H} {r : Int32} (h1 : vp_in (v 15) 6) (h2 : vp_in (sbin v a) 4) (hL : ∃ L, L ≤ 30 ∧ v 8 = nI L) (hs : v 10 = 0) : m_Ctr M_X1_bring [.ref 1, .int r] (hC v a x t) (.inl (none, hC (sBringV v a r) (sBringA v a r) x t)) := by
  refine m_intro (by decide +kernel) (Nat.le_of_ble_eq_true rfl) (fun X => ?_)
  refine m_aload_n X dX1_bring_0 rfl rfl ?_
  refine m_getf X dX1_bring_1 fl_X1_12 rfl rfl rfl ?_
  refine m_iload_n X dX1_bring_4 rfl rfl ?_
  refine m_cV1 X dX1_bring_5 lk_X1_49 mk_X4_take in_X4_take se_X4_take rfl rfl (c_X4_take) rfl (Nat.le_of_ble_eq_true rfl) (Nat.le_of_ble_eq_true rfl) (Nat.le_of_ble_eq_true rfl) (Nat.le_of_ble_eq_true rfl) (Nat.le_of_ble_eq_true rfl) rfl ?_
  refine m_aload_n X dX1_bring_8 rfl rfl ?_
  refine m_dup X dX1_bring_9 rfl rfl ?_
  refine m_getf (v := .int ((sTake v r) 13)) X dX1_bring_10 fl_X1_53 rfl rfl rfl ?_
  refine m_iconst (v := 1) X dX1_bring_13 (by decide) rfl ?_
  refine m_iadd X dX1_bring_14 rfl ?_
  refine m_piC 13 X dX1_bring_15 fl_X1_53 fp_X1_7 rfl rfl rfl rfl ?_
  refine m_hp (h1 := hC (sCount v r) (sRing v a r) x t) rfl ?_
  have e10 : sCount v r 10 = 0 := hs
  refine m_aload_n X dX1_bring_18 rfl rfl ?_
  refine m_getf (v := .int ((sCount v r) 10)) X dX1_bring_19 fl_X1_39 rfl rfl rfl ?_
  refine m_sp (st1 := [.int 0]) (by rw [e10]; rfl) ?_
  refine m_tabIn (tgt := 60) (off := 38) X dX1_bring_22 (by decide) (by decide) (by rfl) (by decide) rfl ?_
  refine m_aload_n X dX1_bring_60 rfl rfl ?_
  refine m_getf X dX1_bring_61 fl_X1_12 rfl rfl rfl ?_
  refine m_cV0 X dX1_bring_64 lk_X1_56 mk_X4_trackZero in_X4_trackZero se_X4_trackZero rfl rfl (c_X4_trackZero) rfl (Nat.le_of_ble_eq_true rfl) (Nat.le_of_ble_eq_true rfl) (Nat.le_of_ble_eq_true rfl) (Nat.le_of_ble_eq_true rfl) (Nat.le_of_ble_eq_true rfl) rfl ?_
  refine m_goto (tgt := 125) X dX1_bring_67 (by decide) rfl ?_
  exact m_vret X dX1_bring_125 rfl (by unfold sBringV sBringA sGoV sGoA; rw [if_pos e10, if_neg (show ¬ sCount v r 10 = 4 by rw [e10]; decide)]) (Nat.le_of_ble_eq_true rfl) (Nat.le_of_ble_eq_true rfl) rfl
theorem c_X1_bring1 {v : m_V} {a : m_R} {x : Int64} {t : m_H} {r : Int32} (h1 : vp_in (v 15) 6) (h2 : vp_in (sbin v a) 4) (hL : ∃ L, L ≤ 30 ∧ v 8 = nI L) (hs : v 10 = 1) : m_Ctr M_X1_bring [.ref 1, .int r] (hC v a x t) (.inl (none, hC (sBringV v a r) (sBringA v a r) x t)) := by
  refine m_intro (by decide +kernel) (Nat.le_of_ble_eq_true rfl) (fun X => ?_)
  refine m_aload_n X dX1_bring_0 rfl rfl ?_
  refine m_getf X dX1_bring_1 fl_X1_12 rfl rfl rfl ?_
  refine m_iload_n X dX1_bring_4 rfl rfl ?_
  refine m_cV1 X dX1_bring_5 lk_X1_49 mk_X4_take in_X4_take se_X4_take rfl rfl (c_X4_take) rfl (Nat.le_of_ble_eq_true rfl) (Nat.le_of_ble_eq_true rfl) (Nat.le_of_ble_eq_true rfl) (Nat.le_of_ble_eq_true rfl) (Nat.le_of_ble_eq_true rfl) rfl ?_
  refine m_aload_n X dX1_bring_8 rfl rfl ?_
  refine m_dup X dX1_bring_9 rfl rfl ?_
  refine m_getf (v := .int ((sTake v r) 13)) X dX1_bring_10 fl_X1_53 rfl rfl rfl ?_
  refine m_iconst (v := 1) X dX1_bring_13 (by decide) rfl ?_
  refine m_iadd X dX1_bring_14 rfl ?_
  refine m_piC 13 X dX1_bring_15 fl_X1_53 fp_X1_7 rfl rfl rfl rfl ?_
  refine m_hp (h1 := hC (sCount v r) (sRing v a r) x t) rfl ?_
  have e10 : sCount v r 10 = 1 := hs
  refine m_aload_n X dX1_bring_18 rfl rfl ?_
  refine m_getf (v := .int ((sCount v r) 10)) X dX1_bring_19 fl_X1_39 rfl rfl rfl ?_
  refine m_sp (st1 := [.int 1]) (by rw [e10]; rfl) ?_
  refine m_tabIn (tgt := 70) (off := 48) X dX1_bring_22 (by decide) (by decide) (by rfl) (by decide) rfl ?_
  refine m_aload_n X dX1_bring_70 rfl rfl ?_
  refine m_cV0 X dX1_bring_71 lk_X1_59 mk_X1_tareStep in_X1_tareStep se_X1_tareStep rfl rfl (c_X1_tareStep h1 h2) rfl (Nat.le_of_ble_eq_true rfl) (Nat.le_of_ble_eq_true rfl) (Nat.le_of_ble_eq_true rfl) (Nat.le_of_ble_eq_true rfl) (Nat.le_of_ble_eq_true rfl) rfl ?_
  refine m_goto (tgt := 125) X dX1_bring_74 (by decide) rfl ?_
  exact m_vret X dX1_bring_125 rfl (by unfold sBringV sBringA sGoV sGoA; rw [if_neg (show ¬ sCount v r 10 = 0 by rw [e10]; decide), if_pos e10, if_neg (show ¬ sCount v r 10 = 4 by rw [e10]; decide)]) (Nat.le_of_ble_eq_true rfl) (Nat.le_of_ble_eq_true rfl) rfl
theorem c_X1_bring2 {v : m_V} {a : m_R} {x : Int64} {t : m_H} {r : Int32} (h1 : vp_in (v 15) 6) (h2 : vp_in (sbin v a) 4) (hL : ∃ L, L ≤ 30 ∧ v 8 = nI L) (hs : v 10 = 2) : m_Ctr M_X1_bring [.ref 1, .int r] (hC v a x t) (.inl (none, hC (sBringV v a r) (sBringA v a r) x t)) := by
  refine m_intro (by decide +kernel) (Nat.le_of_ble_eq_true rfl) (fun X => ?_)
  refine m_aload_n X dX1_bring_0 rfl rfl ?_
  refine m_getf X dX1_bring_1 fl_X1_12 rfl rfl rfl ?_
  refine m_iload_n X dX1_bring_4 rfl rfl ?_
  refine m_cV1 X dX1_bring_5 lk_X1_49 mk_X4_take in_X4_take se_X4_take rfl rfl (c_X4_take) rfl (Nat.le_of_ble_eq_true rfl) (Nat.le_of_ble_eq_true rfl) (Nat.le_of_ble_eq_true rfl) (Nat.le_of_ble_eq_true rfl) (Nat.le_of_ble_eq_true rfl) rfl ?_
  refine m_aload_n X dX1_bring_8 rfl rfl ?_
  refine m_dup X dX1_bring_9 rfl rfl ?_
  refine m_getf (v := .int ((sTake v r) 13)) X dX1_bring_10 fl_X1_53 rfl rfl rfl ?_
  refine m_iconst (v := 1) X dX1_bring_13 (by decide) rfl ?_
  refine m_iadd X dX1_bring_14 rfl ?_
  refine m_piC 13 X dX1_bring_15 fl_X1_53 fp_X1_7 rfl rfl rfl rfl ?_
  refine m_hp (h1 := hC (sCount v r) (sRing v a r) x t) rfl ?_
  have e10 : sCount v r 10 = 2 := hs
  refine m_aload_n X dX1_bring_18 rfl rfl ?_
  refine m_getf (v := .int ((sCount v r) 10)) X dX1_bring_19 fl_X1_39 rfl rfl rfl ?_
  refine m_sp (st1 := [.int 2]) (by rw [e10]; rfl) ?_
  refine m_tabIn (tgt := 77) (off := 55) X dX1_bring_22 (by decide) (by decide) (by rfl) (by decide) rfl ?_
  refine m_aload_n X dX1_bring_77 rfl rfl ?_
  refine m_cV0 X dX1_bring_78 lk_X1_62 mk_X1_feed in_X1_feed se_X1_feed rfl rfl (c_X1_feed h1 h2) rfl (Nat.le_of_ble_eq_true rfl) (Nat.le_of_ble_eq_true rfl) (Nat.le_of_ble_eq_true rfl) (Nat.le_of_ble_eq_true rfl) (Nat.le_of_ble_eq_true rfl) rfl ?_
  refine m_goto (tgt := 125) X dX1_bring_81 (by decide) rfl ?_
  exact m_vret X dX1_bring_125 rfl (by unfold sBringV sBringA sGoV sGoA; rw [if_neg (show ¬ sCount v r 10 = 0 by rw [e10]; decide), if_neg (show ¬ sCount v r 10 = 1 by rw [e10]; decide), if_pos (Or.inl e10), if_neg (show ¬ sCount v r 10 = 4 by rw [e10]; decide)]) (Nat.le_of_ble_eq_true rfl) (Nat.le_of_ble_eq_true rfl) rfl
theorem c_X1_bring3 {v : m_V} {a : m_R} {x : Int64} {t : m_H} {r : Int32} (h1 : vp_in (v 15) 6) (h2 : vp_in (sbin v a) 4) (hL : ∃ L, L ≤ 30 ∧ v 8 = nI L) (hs : v 10 = 3) : m_Ctr M_X1_bring [.ref 1, .int r] (hC v a x t) (.inl (none, hC (sBringV v a r) (sBringA v a r) x t)) := by
  refine m_intro (by decide +kernel) (Nat.le_of_ble_eq_true rfl) (fun X => ?_)
  refine m_aload_n X dX1_bring_0 rfl rfl ?_
  refine m_getf X dX1_bring_1 fl_X1_12 rfl rfl rfl ?_
  refine m_iload_n X dX1_bring_4 rfl rfl ?_
  refine m_cV1 X dX1_bring_5 lk_X1_49 mk_X4_take in_X4_take se_X4_take rfl rfl (c_X4_take) rfl (Nat.le_of_ble_eq_true rfl) (Nat.le_of_ble_eq_true rfl) (Nat.le_of_ble_eq_true rfl) (Nat.le_of_ble_eq_true rfl) (Nat.le_of_ble_eq_true rfl) rfl ?_
  refine m_aload_n X dX1_bring_8 rfl rfl ?_
  refine m_dup X dX1_bring_9 rfl rfl ?_
  refine m_getf (v := .int ((sTake v r) 13)) X dX1_bring_10 fl_X1_53 rfl rfl rfl ?_
  refine m_iconst (v := 1) X dX1_bring_13 (by decide) rfl ?_
  refine m_iadd X dX1_bring_14 rfl ?_
  refine m_piC 13 X dX1_bring_15 fl_X1_53 fp_X1_7 rfl rfl rfl rfl ?_
  refine m_hp (h1 := hC (sCount v r) (sRing v a r) x t) rfl ?_
  have e10 : sCount v r 10 = 3 := hs
  refine m_aload_n X dX1_bring_18 rfl rfl ?_
  refine m_getf (v := .int ((sCount v r) 10)) X dX1_bring_19 fl_X1_39 rfl rfl rfl ?_
  refine m_sp (st1 := [.int 3]) (by rw [e10]; rfl) ?_
  refine m_tabIn (tgt := 77) (off := 55) X dX1_bring_22 (by decide) (by decide) (by rfl) (by decide) rfl ?_
  refine m_aload_n X dX1_bring_77 rfl rfl ?_
  refine m_cV0 X dX1_bring_78 lk_X1_62 mk_X1_feed in_X1_feed se_X1_feed rfl rfl (c_X1_feed h1 h2) rfl (Nat.le_of_ble_eq_true rfl) (Nat.le_of_ble_eq_true rfl) (Nat.le_of_ble_eq_true rfl) (Nat.le_of_ble_eq_true rfl) (Nat.le_of_ble_eq_true rfl) rfl ?_
  refine m_goto (tgt := 125) X dX1_bring_81 (by decide) rfl ?_
  exact m_vret X dX1_bring_125 rfl (by unfold sBringV sBringA sGoV sGoA; rw [if_neg (show ¬ sCount v r 10 = 0 by rw [e10]; decide), if_neg (show ¬ sCount v r 10 = 1 by rw [e10]; decide), if_pos (Or.inr e10), if_neg (show ¬ sCount v r 10 = 4 by rw [e10]; decide)]) (Nat.le_of_ble_eq_true rfl) (Nat.le_of_ble_eq_true rfl) rfl
theorem c_X1_bring4 {v : m_V} {a : m_R} {x : Int64} {t : m_H} {r : Int32} (h1 : vp_in (v 15) 6) (h2 : vp_in (sbin v a) 4) (hL : ∃ L, L ≤ 30 ∧ v 8 = nI L) (hB : ∃ B, B < 20 ∧ v 20 = nI (B + 1)) (hs : v 10 = 4) : m_Ctr M_X1_bring [.ref 1, .int r] (hC v a x t) (.inl (none, hC (sBringV v a r) (sBringA v a r) x t)) := by
  refine m_intro (by decide +kernel) (Nat.le_of_ble_eq_true rfl) (fun X => ?_)
  refine m_aload_n X dX1_bring_0 rfl rfl ?_
  refine m_getf X dX1_bring_1 fl_X1_12 rfl rfl rfl ?_
  refine m_iload_n X dX1_bring_4 rfl rfl ?_
  refine m_cV1 X dX1_bring_5 lk_X1_49 mk_X4_take in_X4_take se_X4_take rfl rfl (c_X4_take) rfl (Nat.le_of_ble_eq_true rfl) (Nat.le_of_ble_eq_true rfl) (Nat.le_of_ble_eq_true rfl) (Nat.le_of_ble_eq_true rfl) (Nat.le_of_ble_eq_true rfl) rfl ?_
  refine m_aload_n X dX1_bring_8 rfl rfl ?_
  refine m_dup X dX1_bring_9 rfl rfl ?_
  refine m_getf (v := .int ((sTake v r) 13)) X dX1_bring_10 fl_X1_53 rfl rfl rfl ?_
  refine m_iconst (v := 1) X dX1_bring_13 (by decide) rfl ?_
  refine m_iadd X dX1_bring_14 rfl ?_
  refine m_piC 13 X dX1_bring_15 fl_X1_53 fp_X1_7 rfl rfl rfl rfl ?_
  refine m_hp (h1 := hC (sCount v r) (sRing v a r) x t) rfl ?_
  have e10 : sCount v r 10 = 4 := hs
  refine m_aload_n X dX1_bring_18 rfl rfl ?_
  refine m_getf (v := .int ((sCount v r) 10)) X dX1_bring_19 fl_X1_39 rfl rfl rfl ?_
  refine m_sp (st1 := [.int 4]) (by rw [e10]; rfl) ?_
  refine m_tabIn (tgt := 84) (off := 62) X dX1_bring_22 (by decide) (by decide) (by rfl) (by decide) rfl ?_
  refine m_aload_n X dX1_bring_84 rfl rfl ?_
  refine m_getf (v := .int ((sCount v r) 13)) X dX1_bring_85 fl_X1_53 rfl rfl rfl ?_
  refine m_iconst (v := 4) X dX1_bring_88 (by decide) rfl ?_
  refine m_icmp_lt (tgt := 125) X dX1_bring_89 (by decide) rfl (fun b89 => ?_) (fun b89 => ?_)
  · exact m_vret X dX1_bring_125 rfl (by unfold sBringV sBringA sGoV sGoA; rw [if_neg (show ¬ sCount v r 10 = 0 by rw [e10]; decide), if_neg (show ¬ sCount v r 10 = 1 by rw [e10]; decide), if_neg (show ¬ (sCount v r 10 = 2 ∨ sCount v r 10 = 3) by rw [e10]; decide), if_pos e10, if_pos b89, if_pos e10, if_pos b89]) (Nat.le_of_ble_eq_true rfl) (Nat.le_of_ble_eq_true rfl) rfl
  · refine m_aload_n X dX1_bring_92 rfl rfl ?_
    refine m_getf X dX1_bring_93 fl_X1_12 rfl rfl rfl ?_
    refine m_cV0 X dX1_bring_96 lk_X1_65 mk_X4_isCalm in_X4_isCalm se_X4_isCalm rfl rfl (c_X4_isCalm) rfl (Nat.le_of_ble_eq_true rfl) (Nat.le_of_ble_eq_true rfl) (Nat.le_of_ble_eq_true rfl) (Nat.le_of_ble_eq_true rfl) (Nat.le_of_ble_eq_true rfl) rfl ?_
    refine m_if_eq (tgt := 125) X dX1_bring_99 (by decide) rfl (fun b99 => ?_) (fun b99 => ?_)
    · exact m_vret X dX1_bring_125 rfl (by unfold sBringV sBringA sGoV sGoA; rw [if_neg (show ¬ sCount v r 10 = 0 by rw [e10]; decide), if_neg (show ¬ sCount v r 10 = 1 by rw [e10]; decide), if_neg (show ¬ (sCount v r 10 = 2 ∨ sCount v r 10 = 3) by rw [e10]; decide), if_pos e10, if_neg b89, if_pos b99, if_pos e10, if_neg b89, if_pos b99]) (Nat.le_of_ble_eq_true rfl) (Nat.le_of_ble_eq_true rfl) rfl
    · refine m_aload_n X dX1_bring_102 rfl rfl ?_
      refine m_cV0 X dX1_bring_103 lk_X1_69 mk_X1_weigh in_X1_weigh se_X1_weigh rfl rfl (c_X1_weigh h1 h2 hL hB) rfl (Nat.le_of_ble_eq_true rfl) (Nat.le_of_ble_eq_true rfl) (Nat.le_of_ble_eq_true rfl) (Nat.le_of_ble_eq_true rfl) (Nat.le_of_ble_eq_true rfl) rfl ?_
      refine m_goto (tgt := 125) X dX1_bring_106 (by decide) rfl ?_
      exact m_vret X dX1_bring_125 rfl (by unfold sBringV sBringA sGoV sGoA; rw [if_neg (show ¬ sCount v r 10 = 0 by rw [e10]; decide), if_neg (show ¬ sCount v r 10 = 1 by rw [e10]; decide), if_neg (show ¬ (sCount v r 10 = 2 ∨ sCount v r 10 = 3) by rw [e10]; decide), if_pos e10, if_neg b89, if_neg b99, if_pos e10, if_neg b89, if_neg b99]) (Nat.le_of_ble_eq_true rfl) (Nat.le_of_ble_eq_true rfl) rfl
theorem c_X1_bring5 {v : m_V} {a : m_R} {x : Int64} {t : m_H} {r : Int32} (h1 : vp_in (v 15) 6) (h2 : vp_in (sbin v a) 4) (hL : ∃ L, L ≤ 30 ∧ v 8 = nI L) (hs : v 10 = 5) : m_Ctr M_X1_bring [.ref 1, .int r] (hC v a x t) (.inl (none, hC (sBringV v a r) (sBringA v a r) x t)) := by
  refine m_intro (by decide +kernel) (Nat.le_of_ble_eq_true rfl) (fun X => ?_)
  refine m_aload_n X dX1_bring_0 rfl rfl ?_
  refine m_getf X dX1_bring_1 fl_X1_12 rfl rfl rfl ?_
  refine m_iload_n X dX1_bring_4 rfl rfl ?_
  refine m_cV1 X dX1_bring_5 lk_X1_49 mk_X4_take in_X4_take se_X4_take rfl rfl (c_X4_take) rfl (Nat.le_of_ble_eq_true rfl) (Nat.le_of_ble_eq_true rfl) (Nat.le_of_ble_eq_true rfl) (Nat.le_of_ble_eq_true rfl) (Nat.le_of_ble_eq_true rfl) rfl ?_
  refine m_aload_n X dX1_bring_8 rfl rfl ?_
  refine m_dup X dX1_bring_9 rfl rfl ?_
  refine m_getf (v := .int ((sTake v r) 13)) X dX1_bring_10 fl_X1_53 rfl rfl rfl ?_
  refine m_iconst (v := 1) X dX1_bring_13 (by decide) rfl ?_
  refine m_iadd X dX1_bring_14 rfl ?_
  refine m_piC 13 X dX1_bring_15 fl_X1_53 fp_X1_7 rfl rfl rfl rfl ?_
  refine m_hp (h1 := hC (sCount v r) (sRing v a r) x t) rfl ?_
  have e10 : sCount v r 10 = 5 := hs
  refine m_aload_n X dX1_bring_18 rfl rfl ?_
  refine m_getf (v := .int ((sCount v r) 10)) X dX1_bring_19 fl_X1_39 rfl rfl rfl ?_
  refine m_sp (st1 := [.int 5]) (by rw [e10]; rfl) ?_
  refine m_tabIn (tgt := 109) (off := 87) X dX1_bring_22 (by decide) (by decide) (by rfl) (by decide) rfl ?_
  refine m_aload_n X dX1_bring_109 rfl rfl ?_
  refine m_getf (v := .int ((sCount v r) 13)) X dX1_bring_110 fl_X1_53 rfl rfl rfl ?_
  refine m_iconst (v := 2) X dX1_bring_113 (by decide) rfl ?_
  refine m_icmp_lt (tgt := 125) X dX1_bring_114 (by decide) rfl (fun b114 => ?_) (fun b114 => ?_)
  · exact m_vret X dX1_bring_125 rfl (by unfold sBringV sBringA sGoV sGoA; rw [if_neg (show ¬ sCount v r 10 = 0 by rw [e10]; decide), if_neg (show ¬ sCount v r 10 = 1 by rw [e10]; decide), if_neg (show ¬ (sCount v r 10 = 2 ∨ sCount v r 10 = 3) by rw [e10]; decide), if_neg (show ¬ sCount v r 10 = 4 by rw [e10]; decide), if_pos e10, if_pos b114, if_neg (show ¬ sCount v r 10 = 4 by rw [e10]; decide)]) (Nat.le_of_ble_eq_true rfl) (Nat.le_of_ble_eq_true rfl) rfl
  · refine m_aload_n X dX1_bring_117 rfl rfl ?_
    refine m_iconst (v := 4) X dX1_bring_118 (by decide) rfl ?_
    refine m_cV1 X dX1_bring_119 lk_X1_72 mk_X1_enter in_X1_enter se_X1_enter rfl rfl (c_X1_enter) rfl (Nat.le_of_ble_eq_true rfl) (Nat.le_of_ble_eq_true rfl) (Nat.le_of_ble_eq_true rfl) (Nat.le_of_ble_eq_true rfl) (Nat.le_of_ble_eq_true rfl) rfl ?_
    refine m_goto (tgt := 125) X dX1_bring_122 (by decide) rfl ?_
    exact m_vret X dX1_bring_125 rfl (by unfold sBringV sBringA sGoV sGoA; rw [if_neg (show ¬ sCount v r 10 = 0 by rw [e10]; decide), if_neg (show ¬ sCount v r 10 = 1 by rw [e10]; decide), if_neg (show ¬ (sCount v r 10 = 2 ∨ sCount v r 10 = 3) by rw [e10]; decide), if_neg (show ¬ sCount v r 10 = 4 by rw [e10]; decide), if_pos e10, if_neg b114, if_neg (show ¬ sCount v r 10 = 4 by rw [e10]; decide)]) (Nat.le_of_ble_eq_true rfl) (Nat.le_of_ble_eq_true rfl) rfl
theorem c_X1_bring6 {v : m_V} {a : m_R} {x : Int64} {t : m_H} {r : Int32} (h1 : vp_in (v 15) 6) (h2 : vp_in (sbin v a) 4) (hL : ∃ L, L ≤ 30 ∧ v 8 = nI L) (hs : v 10 = 6) : m_Ctr M_X1_bring [.ref 1, .int r] (hC v a x t) (.inl (none, hC (sBringV v a r) (sBringA v a r) x t)) := by
  refine m_intro (by decide +kernel) (Nat.le_of_ble_eq_true rfl) (fun X => ?_)
  refine m_aload_n X dX1_bring_0 rfl rfl ?_
  refine m_getf X dX1_bring_1 fl_X1_12 rfl rfl rfl ?_
  refine m_iload_n X dX1_bring_4 rfl rfl ?_
  refine m_cV1 X dX1_bring_5 lk_X1_49 mk_X4_take in_X4_take se_X4_take rfl rfl (c_X4_take) rfl (Nat.le_of_ble_eq_true rfl) (Nat.le_of_ble_eq_true rfl) (Nat.le_of_ble_eq_true rfl) (Nat.le_of_ble_eq_true rfl) (Nat.le_of_ble_eq_true rfl) rfl ?_
  refine m_aload_n X dX1_bring_8 rfl rfl ?_
  refine m_dup X dX1_bring_9 rfl rfl ?_
  refine m_getf (v := .int ((sTake v r) 13)) X dX1_bring_10 fl_X1_53 rfl rfl rfl ?_
  refine m_iconst (v := 1) X dX1_bring_13 (by decide) rfl ?_
  refine m_iadd X dX1_bring_14 rfl ?_
  refine m_piC 13 X dX1_bring_15 fl_X1_53 fp_X1_7 rfl rfl rfl rfl ?_
  refine m_hp (h1 := hC (sCount v r) (sRing v a r) x t) rfl ?_
  have e10 : sCount v r 10 = 6 := hs
  refine m_aload_n X dX1_bring_18 rfl rfl ?_
  refine m_getf (v := .int ((sCount v r) 10)) X dX1_bring_19 fl_X1_39 rfl rfl rfl ?_
  refine m_sp (st1 := [.int 6]) (by rw [e10]; rfl) ?_
  refine m_tabOut (tgt := 125) X dX1_bring_22 (by decide) (by decide) rfl ?_
  exact m_vret X dX1_bring_125 rfl (by unfold sBringV sBringA sGoV sGoA; rw [if_neg (show ¬ sCount v r 10 = 0 by rw [e10]; decide), if_neg (show ¬ sCount v r 10 = 1 by rw [e10]; decide), if_neg (show ¬ (sCount v r 10 = 2 ∨ sCount v r 10 = 3) by rw [e10]; decide), if_neg (show ¬ sCount v r 10 = 4 by rw [e10]; decide), if_neg (show ¬ sCount v r 10 = 5 by rw [e10]; decide), if_neg (show ¬ sCount v r 10 = 4 by rw [e10]; decide)]) (Nat.le_of_ble_eq_true rfl) (Nat.le_of_ble_eq_true rfl) rfl
theorem c_X1_bring {v : m_V} {a : m_R} {x : Int64} {t : m_H} {r : Int32} (h1 : vp_in (v 15) 6) (h2 : vp_in (sbin v a) 4) (hL : ∃ L, L ≤ 30 ∧ v 8 = nI L) (hB : ¬ v 10 = 0 → ∃ B, B < 20 ∧ v 20 = nI (B + 1)) (hs : v 10 = 0 ∨ v 10 = 1 ∨ v 10 = 2 ∨ v 10 = 3 ∨ v 10 = 4 ∨ v 10 = 5 ∨ v 10 = 6) : m_Ctr M_X1_bring [.ref 1, .int r] (hC v a x t) (.inl (none, hC (sBringV v a r) (sBringA v a r) x t)) := by
  rcases hs with hs | hs | hs | hs | hs | hs | hs
  · exact c_X1_bring0 h1 h2 hL hs
  · exact c_X1_bring1 h1 h2 hL hs
  · exact c_X1_bring2 h1 h2 hL hs
  · exact c_X1_bring3 h1 h2 hL hs
  · exact c_X1_bring4 h1 h2 hL (hB (by rw [hs]; decide)) hs
  · exact c_X1_bring5 h1 h2 hL hs
  · exact c_X1_bring6 h1 h2 hL hs
theorem c_X1_startBatch {v : m_V} {a : m_R} {x : Int64} {t : m_H}  : m_Ctr M_X1_startBatch [.ref 1] (hC v a x t) (.inl (some (.int (v 20)), hC (sBegin (upd v 20 (v 20 + 1)) 0) a x t)) := by
  refine m_intro (by decide +kernel) (Nat.le_of_ble_eq_true rfl) (fun X => ?_)
  refine m_aload_n X dX1_startBatch_0 rfl rfl ?_
  refine m_getf (v := .int (v 20)) X dX1_startBatch_1 fl_X1_79 rfl rfl rfl ?_
  refine m_istore_n X dX1_startBatch_4 (Nat.le_of_ble_eq_true rfl) rfl ?_
  refine m_aload_n X dX1_startBatch_5 rfl rfl ?_
  refine m_dup X dX1_startBatch_6 rfl rfl ?_
  refine m_getf (v := .int (v 20)) X dX1_startBatch_7 fl_X1_79 rfl rfl rfl ?_
  refine m_iconst (v := 1) X dX1_startBatch_10 (by decide) rfl ?_
  refine m_iadd X dX1_startBatch_11 rfl ?_
  refine m_piC 20 X dX1_startBatch_12 fl_X1_79 fp_X1_14 rfl rfl rfl rfl ?_
  refine m_aload_n X dX1_startBatch_15 rfl rfl ?_
  refine m_iconst (v := 0) X dX1_startBatch_16 (by decide) rfl ?_
  refine m_cV1 X dX1_startBatch_17 lk_X1_82 mk_X1_beginStep in_X1_beginStep se_X1_beginStep rfl rfl (c_X1_beginStep) rfl (Nat.le_of_ble_eq_true rfl) (Nat.le_of_ble_eq_true rfl) (Nat.le_of_ble_eq_true rfl) (Nat.le_of_ble_eq_true rfl) (Nat.le_of_ble_eq_true rfl) rfl ?_
  refine m_iload_n X dX1_startBatch_20 rfl rfl ?_
  exact m_iret X dX1_startBatch_21 rfl (rfl) (Nat.le_of_ble_eq_true rfl) (Nat.le_of_ble_eq_true rfl) rfl
theorem c_X1_goOn {v : m_V} {a : m_R} {x : Int64} {t : m_H} (h1 : vp_in (v 15) 6) (h2 : vp_in (sbin v a) 4) (hL : ∃ L, L ≤ 30 ∧ v 8 = nI L) (hB : ∃ B, B < 20 ∧ v 20 = nI (B + 1)) : m_Ctr M_X1_goOn [.ref 1] (hC v a x t) (.inl (none, hC (sGoOnV v) (sGoOnA v a) x t)) := by
  refine m_intro (by decide +kernel) (Nat.le_of_ble_eq_true rfl) (fun X => ?_)
  refine m_aload_n X dX1_goOn_0 rfl rfl ?_
  refine m_getf (v := .int (v 11)) X dX1_goOn_1 fl_X1_43 rfl rfl rfl ?_
  refine m_iconst (v := 1) X dX1_goOn_4 (by decide) rfl ?_
  refine m_icmp_eq (tgt := 16) X dX1_goOn_5 (by decide) rfl (fun b5 => ?_) (fun b5 => ?_)
  · refine m_aload_n X dX1_goOn_16 rfl rfl ?_
    refine m_cV0 X dX1_goOn_17 lk_X1_85 mk_X1_finishStep in_X1_finishStep se_X1_finishStep rfl rfl (c_X1_finishStep h1 h2 hL hB) rfl (Nat.le_of_ble_eq_true rfl) (Nat.le_of_ble_eq_true rfl) (Nat.le_of_ble_eq_true rfl) (Nat.le_of_ble_eq_true rfl) (Nat.le_of_ble_eq_true rfl) rfl ?_
    refine m_goto (tgt := 36) X dX1_goOn_20 (by decide) rfl ?_
    exact m_vret X dX1_goOn_36 rfl (by unfold sGoOnV sGoOnA; rw [if_pos b5, if_pos b5]) (Nat.le_of_ble_eq_true rfl) (Nat.le_of_ble_eq_true rfl) rfl
  · refine m_aload_n X dX1_goOn_8 rfl rfl ?_
    refine m_getf (v := .int (v 11)) X dX1_goOn_9 fl_X1_43 rfl rfl rfl ?_
    refine m_iconst (v := 2) X dX1_goOn_12 (by decide) rfl ?_
    refine m_icmp_ne (tgt := 23) X dX1_goOn_13 (by decide) rfl (fun b13 => ?_) (fun b13 => ?_)
    · refine m_aload_n X dX1_goOn_23 rfl rfl ?_
      refine m_iconst (v := 0) X dX1_goOn_24 (by decide) rfl ?_
      refine m_piC 14 X dX1_goOn_25 fl_X1_88 fp_X1_8 rfl rfl rfl rfl ?_
      refine m_aload_n X dX1_goOn_28 rfl rfl ?_
      refine m_aload_n X dX1_goOn_29 rfl rfl ?_
      refine m_getf (v := .int (v 12)) X dX1_goOn_30 fl_X1_46 rfl rfl rfl ?_
      refine m_cV1 X dX1_goOn_33 lk_X1_72 mk_X1_enter in_X1_enter se_X1_enter rfl rfl (c_X1_enter) rfl (Nat.le_of_ble_eq_true rfl) (Nat.le_of_ble_eq_true rfl) (Nat.le_of_ble_eq_true rfl) (Nat.le_of_ble_eq_true rfl) (Nat.le_of_ble_eq_true rfl) rfl ?_
      exact m_vret X dX1_goOn_36 rfl (by unfold sGoOnV sGoOnA; rw [if_neg b5, if_neg b5, if_pos b13, if_pos b13]) (Nat.le_of_ble_eq_true rfl) (Nat.le_of_ble_eq_true rfl) rfl
    · refine m_aload_n X dX1_goOn_16 rfl rfl ?_
      refine m_cV0 X dX1_goOn_17 lk_X1_85 mk_X1_finishStep in_X1_finishStep se_X1_finishStep rfl rfl (c_X1_finishStep h1 h2 hL hB) rfl (Nat.le_of_ble_eq_true rfl) (Nat.le_of_ble_eq_true rfl) (Nat.le_of_ble_eq_true rfl) (Nat.le_of_ble_eq_true rfl) (Nat.le_of_ble_eq_true rfl) rfl ?_
      refine m_goto (tgt := 36) X dX1_goOn_20 (by decide) rfl ?_
      exact m_vret X dX1_goOn_36 rfl (by unfold sGoOnV sGoOnA; rw [if_neg b5, if_neg b5, if_neg (not_not_intro b13), if_neg (not_not_intro b13)]) (Nat.le_of_ble_eq_true rfl) (Nat.le_of_ble_eq_true rfl) rfl
theorem c_X1_breakOff {v : m_V} {a : m_R} {x : Int64} {t : m_H} (h1 : vp_in (v 15) 6) (h2 : vp_in (sbin v a) 4) (hL : ∃ L, L ≤ 30 ∧ v 8 = nI L) (hB : ∃ B, B < 20 ∧ v 20 = nI (B + 1)) : m_Ctr M_X1_breakOff [.ref 1] (hC v a x t) (.inl (some (.int (if v 18 = 0 then 0 else sAmt v)), hC (sEnter v 0) (if v 18 = 0 then a else sBook v a) x t)) := by
  refine m_intro (by decide +kernel) (Nat.le_of_ble_eq_true rfl) (fun X => ?_)
  refine m_aload_n X dX1_breakOff_0 rfl rfl ?_
  refine m_getf (v := .int (v 18)) X dX1_breakOff_1 fl_X1_91 rfl rfl rfl ?_
  refine m_if_eq (tgt := 14) X dX1_breakOff_4 (by decide) rfl (fun b4 => ?_) (fun b4 => ?_)
  · refine m_iconst (v := 0) X dX1_breakOff_14 (by decide) rfl ?_
    refine m_istore_n X dX1_breakOff_15 (Nat.le_of_ble_eq_true rfl) rfl ?_
    refine m_aload_n X dX1_breakOff_16 rfl rfl ?_
    refine m_iconst (v := 0) X dX1_breakOff_17 (by decide) rfl ?_
    refine m_cV1 X dX1_breakOff_18 lk_X1_72 mk_X1_enter in_X1_enter se_X1_enter rfl rfl (c_X1_enter) rfl (Nat.le_of_ble_eq_true rfl) (Nat.le_of_ble_eq_true rfl) (Nat.le_of_ble_eq_true rfl) (Nat.le_of_ble_eq_true rfl) (Nat.le_of_ble_eq_true rfl) rfl ?_
    refine m_iload_n X dX1_breakOff_21 rfl rfl ?_
    exact m_iret X dX1_breakOff_22 rfl (by rw [if_pos b4, if_pos b4]) (Nat.le_of_ble_eq_true rfl) (Nat.le_of_ble_eq_true rfl) rfl
  · refine m_aload_n X dX1_breakOff_7 rfl rfl ?_
    refine m_cV0 X dX1_breakOff_8 lk_X1_95 mk_X1_bookNet in_X1_bookNet se_X1_bookNet rfl rfl (c_X1_bookNet h1 h2 hL hB) rfl (Nat.le_of_ble_eq_true rfl) (Nat.le_of_ble_eq_true rfl) (Nat.le_of_ble_eq_true rfl) (Nat.le_of_ble_eq_true rfl) (Nat.le_of_ble_eq_true rfl) rfl ?_
    refine m_goto (tgt := 15) X dX1_breakOff_11 (by decide) rfl ?_
    refine m_istore_n X dX1_breakOff_15 (Nat.le_of_ble_eq_true rfl) rfl ?_
    refine m_aload_n X dX1_breakOff_16 rfl rfl ?_
    refine m_iconst (v := 0) X dX1_breakOff_17 (by decide) rfl ?_
    refine m_cV1 X dX1_breakOff_18 lk_X1_72 mk_X1_enter in_X1_enter se_X1_enter rfl rfl (c_X1_enter) rfl (Nat.le_of_ble_eq_true rfl) (Nat.le_of_ble_eq_true rfl) (Nat.le_of_ble_eq_true rfl) (Nat.le_of_ble_eq_true rfl) (Nat.le_of_ble_eq_true rfl) rfl ?_
    refine m_iload_n X dX1_breakOff_21 rfl rfl ?_
    exact m_iret X dX1_breakOff_22 rfl (by rw [if_neg b4, if_neg b4]) (Nat.le_of_ble_eq_true rfl) (Nat.le_of_ble_eq_true rfl) rfl
end MK4
end
section
section MF
theorem c_X5_needArgument {h : m_H} {z : Int32} (hz : ¬ z = 0) : m_Ctr M_X5_needArgument [.int z] h (.inl (none, h)) := by
  refine m_intro (by decide +kernel) (Nat.le_of_ble_eq_true rfl) (fun X => ?_)
  refine m_iload_n X dX5_needArgument_0 rfl rfl ?_
  refine m_if_ne (tgt := 14) X dX5_needArgument_1 (by decide) rfl (fun b1 => ?_) (fun b1 => absurd b1 (hz))
  exact m_vret X dX5_needArgument_14 rfl (rfl) (Nat.le_of_ble_eq_true rfl) (Nat.le_of_ble_eq_true rfl) rfl
theorem x_X5_needArgument {h : m_H} {z : Int32} (hz : z = 0) : m_Ctr Mx_X5_needArgument [.int z] h (.inr ("java/lang/IllegalArgumentException", h)) := by
  refine m_intro (by decide +kernel) (Nat.le_of_ble_eq_true rfl) (fun X => ?_)
  refine m_iload_n X dX5_needArgument_0 rfl rfl ?_
  refine m_if_ne (tgt := 14) X dX5_needArgument_1 (by decide) rfl (fun b1 => absurd b1 (not_not_intro hz)) (fun b1 => ?_)
  exact m_throw (j := 1) X dX5_needArgument_4 dX5_needArgument_7 dX5_needArgument_8 dX5_needArgument_10 dX5_needArgument_13 (by decide +kernel) (by decide +kernel) xc_X5_195 xi_X5_195 rfl xw_X5_199 rfl (Nat.le_of_ble_eq_true rfl) (Nat.le_of_ble_eq_true rfl) (Nat.le_of_ble_eq_true rfl) (Nat.le_of_ble_eq_true rfl) rfl (Nat.le_of_ble_eq_true rfl) (Nat.le_of_ble_eq_true rfl) rfl
theorem c_X5_needState {h : m_H} {z : Int32} (hz : ¬ z = 0) : m_Ctr M_X5_needState [.int z] h (.inl (none, h)) := by
  refine m_intro (by decide +kernel) (Nat.le_of_ble_eq_true rfl) (fun X => ?_)
  refine m_iload_n X dX5_needState_0 rfl rfl ?_
  refine m_if_ne (tgt := 14) X dX5_needState_1 (by decide) rfl (fun b1 => ?_) (fun b1 => absurd b1 (hz))
  exact m_vret X dX5_needState_14 rfl (rfl) (Nat.le_of_ble_eq_true rfl) (Nat.le_of_ble_eq_true rfl) rfl
theorem x_X5_needState {h : m_H} {z : Int32} (hz : z = 0) : m_Ctr Mx_X5_needState [.int z] h (.inr ("java/lang/IllegalStateException", h)) := by
  refine m_intro (by decide +kernel) (Nat.le_of_ble_eq_true rfl) (fun X => ?_)
  refine m_iload_n X dX5_needState_0 rfl rfl ?_
  refine m_if_ne (tgt := 14) X dX5_needState_1 (by decide) rfl (fun b1 => absurd b1 (not_not_intro hz)) (fun b1 => ?_)
  exact m_throw (j := 2) X dX5_needState_4 dX5_needState_7 dX5_needState_8 dX5_needState_10 dX5_needState_13 (by decide +kernel) (by decide +kernel) xc_X5_200 xi_X5_200 rfl xw_X5_204 rfl (Nat.le_of_ble_eq_true rfl) (Nat.le_of_ble_eq_true rfl) (Nat.le_of_ble_eq_true rfl) (Nat.le_of_ble_eq_true rfl) rfl (Nat.le_of_ble_eq_true rfl) (Nat.le_of_ble_eq_true rfl) rfl
theorem c_X5_needBin {h : m_H} {b : Int32} (hb : 0 ≤ b ∧ b ≤ 3) : m_Ctr M_X5_needBin [.int b] h (.inl (none, h)) := by
  refine m_intro (by decide +kernel) (Nat.le_of_ble_eq_true rfl) (fun X => ?_)
  refine m_iload_n X dX5_needBin_0 rfl rfl ?_
  refine m_iconst (v := 0) X dX5_needBin_1 (by decide) rfl ?_
  refine m_iconst (v := 3) X dX5_needBin_2 (by decide) rfl ?_
  refine m_cS3 X dX5_needBin_3 lk_X5_47 mk_X5_isWithin st_X5_isWithin (c_X5_isWithin) rfl (Nat.le_of_ble_eq_true rfl) (Nat.le_of_ble_eq_true rfl) (Nat.le_of_ble_eq_true rfl) (Nat.le_of_ble_eq_true rfl) (Nat.le_of_ble_eq_true rfl) rfl ?_
  refine m_if_ne (tgt := 19) X dX5_needBin_6 (by decide) rfl (fun b6 => ?_) (fun b6 => absurd b6 (by rw [bi_t hb]; decide))
  exact m_vret X dX5_needBin_19 rfl (rfl) (Nat.le_of_ble_eq_true rfl) (Nat.le_of_ble_eq_true rfl) rfl
theorem x_X5_needBin {h : m_H} {b : Int32} (hb : ¬ (0 ≤ b ∧ b ≤ 3)) : m_Ctr Mx_X5_needBin [.int b] h (.inr ("java/lang/IndexOutOfBoundsException", h)) := by
  refine m_intro (by decide +kernel) (Nat.le_of_ble_eq_true rfl) (fun X => ?_)
  refine m_iload_n X dX5_needBin_0 rfl rfl ?_
  refine m_iconst (v := 0) X dX5_needBin_1 (by decide) rfl ?_
  refine m_iconst (v := 3) X dX5_needBin_2 (by decide) rfl ?_
  refine m_cS3 X dX5_needBin_3 lk_X5_47 mk_X5_isWithin st_X5_isWithin (c_X5_isWithin) rfl (Nat.le_of_ble_eq_true rfl) (Nat.le_of_ble_eq_true rfl) (Nat.le_of_ble_eq_true rfl) (Nat.le_of_ble_eq_true rfl) (Nat.le_of_ble_eq_true rfl) rfl ?_
  refine m_if_ne (tgt := 19) X dX5_needBin_6 (by decide) rfl (fun b6 => absurd b6 (not_not_intro (bi_f hb))) (fun b6 => ?_)
  exact m_throw (j := 0) X dX5_needBin_9 dX5_needBin_12 dX5_needBin_13 dX5_needBin_15 dX5_needBin_18 (by decide +kernel) (by decide +kernel) xc_X5_184 xi_X5_184 rfl xw_X5_188 rfl (Nat.le_of_ble_eq_true rfl) (Nat.le_of_ble_eq_true rfl) (Nat.le_of_ble_eq_true rfl) (Nat.le_of_ble_eq_true rfl) rfl (Nat.le_of_ble_eq_true rfl) (Nat.le_of_ble_eq_true rfl) rfl
theorem c_X5_needReading {h : m_H} {r : Int32} (hr : -1000 ≤ r ∧ r ≤ 100000) : m_Ctr M_X5_needReading [.int r] h (.inl (none, h)) := by
  refine m_intro (by decide +kernel) (Nat.le_of_ble_eq_true rfl) (fun X => ?_)
  refine m_iload_n X dX5_needReading_0 rfl rfl ?_
  refine m_sipush (v := (-1000)) X dX5_needReading_1 (by decide) rfl ?_
  refine m_ldc X dX5_needReading_4 cs_X5_83 rfl ?_
  refine m_cS3 X dX5_needReading_6 lk_X5_47 mk_X5_isWithin st_X5_isWithin (c_X5_isWithin) rfl (Nat.le_of_ble_eq_true rfl) (Nat.le_of_ble_eq_true rfl) (Nat.le_of_ble_eq_true rfl) (Nat.le_of_ble_eq_true rfl) (Nat.le_of_ble_eq_true rfl) rfl ?_
  refine m_cS1 X dX5_needReading_9 lk_X5_51 mk_X5_needArgument st_X5_needArgument (c_X5_needArgument (by rw [bi_t hr]; decide)) rfl (Nat.le_of_ble_eq_true rfl) (Nat.le_of_ble_eq_true rfl) (Nat.le_of_ble_eq_true rfl) (Nat.le_of_ble_eq_true rfl) (Nat.le_of_ble_eq_true rfl) rfl ?_
  exact m_vret X dX5_needReading_12 rfl (rfl) (Nat.le_of_ble_eq_true rfl) (Nat.le_of_ble_eq_true rfl) rfl
theorem x_X5_needReading {h : m_H} {r : Int32} (hr : ¬ (-1000 ≤ r ∧ r ≤ 100000)) : m_Ctr Mx_X5_needReading [.int r] h (.inr ("java/lang/IllegalArgumentException", h)) := by
  refine m_intro (by decide +kernel) (Nat.le_of_ble_eq_true rfl) (fun X => ?_)
  refine m_iload_n X dX5_needReading_0 rfl rfl ?_
  refine m_sipush (v := (-1000)) X dX5_needReading_1 (by decide) rfl ?_
  refine m_ldc X dX5_needReading_4 cs_X5_83 rfl ?_
  refine m_cS3 X dX5_needReading_6 lk_X5_47 mk_X5_isWithin st_X5_isWithin (c_X5_isWithin) rfl (Nat.le_of_ble_eq_true rfl) (Nat.le_of_ble_eq_true rfl) (Nat.le_of_ble_eq_true rfl) (Nat.le_of_ble_eq_true rfl) (Nat.le_of_ble_eq_true rfl) rfl ?_
  exact m_tS1 (M := Mx_X5_needArgument) X dX5_needReading_9 ll_X5_51 mkx_X5_needArgument st_X5_needArgument (x_X5_needArgument (bi_f hr)) rfl (Nat.le_of_ble_eq_true rfl) (Nat.le_of_ble_eq_true rfl) (Nat.le_of_ble_eq_true rfl) (Nat.le_of_ble_eq_true rfl) (Nat.le_of_ble_eq_true rfl) rfl rfl (rfl) (Nat.le_of_ble_eq_true rfl) (Nat.le_of_ble_eq_true rfl)
theorem c_X5_needLot {v : m_V} {a : m_R} {x : Int64} {t : m_H} {i : Int32} (hi : 0 ≤ i ∧ i ≤ v 8 - 1) : m_Ctr M_X5_needLot [.ref 0, .int i] (hC v a x t) (.inl (none, hC v a x t)) := by
  refine m_intro (by decide +kernel) (Nat.le_of_ble_eq_true rfl) (fun X => ?_)
  refine m_iload_n X dX5_needLot_0 rfl rfl ?_
  refine m_iconst (v := 0) X dX5_needLot_1 (by decide) rfl ?_
  refine m_aload_n X dX5_needLot_2 rfl rfl ?_
  refine m_getf X dX5_needLot_3 fl_X5_30 rfl rfl rfl ?_
  refine m_getf (v := .int (v 8)) X dX5_needLot_6 fl_X5_84 rfl rfl rfl ?_
  refine m_iconst (v := 1) X dX5_needLot_9 (by decide) rfl ?_
  refine m_isub X dX5_needLot_10 rfl ?_
  refine m_cS3 X dX5_needLot_11 lk_X5_47 mk_X5_isWithin st_X5_isWithin (c_X5_isWithin) rfl (Nat.le_of_ble_eq_true rfl) (Nat.le_of_ble_eq_true rfl) (Nat.le_of_ble_eq_true rfl) (Nat.le_of_ble_eq_true rfl) (Nat.le_of_ble_eq_true rfl) rfl ?_
  refine m_if_ne (tgt := 27) X dX5_needLot_14 (by decide) rfl (fun b14 => ?_) (fun b14 => absurd b14 (by rw [bi_t hi]; decide))
  exact m_vret X dX5_needLot_27 rfl (rfl) (Nat.le_of_ble_eq_true rfl) (Nat.le_of_ble_eq_true rfl) rfl
theorem c_X5_needBatch {v : m_V} {a : m_R} {x : Int64} {t : m_H} {i : Int32} (hi : 0 ≤ i ∧ i ≤ v 20 - 1) : m_Ctr M_X5_needBatch [.ref 0, .int i] (hC v a x t) (.inl (none, hC v a x t)) := by
  refine m_intro (by decide +kernel) (Nat.le_of_ble_eq_true rfl) (fun X => ?_)
  refine m_iload_n X dX5_needBatch_0 rfl rfl ?_
  refine m_iconst (v := 0) X dX5_needBatch_1 (by decide) rfl ?_
  refine m_aload_n X dX5_needBatch_2 rfl rfl ?_
  refine m_getf X dX5_needBatch_3 fl_X5_10 rfl rfl rfl ?_
  refine m_getf (v := .int (v 20)) X dX5_needBatch_6 fl_X5_132 rfl rfl rfl ?_
  refine m_iconst (v := 1) X dX5_needBatch_9 (by decide) rfl ?_
  refine m_isub X dX5_needBatch_10 rfl ?_
  refine m_cS3 X dX5_needBatch_11 lk_X5_47 mk_X5_isWithin st_X5_isWithin (c_X5_isWithin) rfl (Nat.le_of_ble_eq_true rfl) (Nat.le_of_ble_eq_true rfl) (Nat.le_of_ble_eq_true rfl) (Nat.le_of_ble_eq_true rfl) (Nat.le_of_ble_eq_true rfl) rfl ?_
  refine m_if_ne (tgt := 27) X dX5_needBatch_14 (by decide) rfl (fun b14 => ?_) (fun b14 => absurd b14 (by rw [bi_t hi]; decide))
  exact m_vret X dX5_needBatch_27 rfl (rfl) (Nat.le_of_ble_eq_true rfl) (Nat.le_of_ble_eq_true rfl) rfl
theorem c_X5_tick {v : m_V} {a : m_R} {x : Int64} {t : m_H} {r : Int32} (hr : -1000 ≤ r ∧ r ≤ 100000) (hk : kI v a) : m_Ctr M_X5_tick [.ref 0, .int r] (hC v a x t) (.inl (some (.int (sBringV v a r 10)), hC (sBringV v a r) (sBringA v a r) x t)) := by
  refine m_intro (by decide +kernel) (Nat.le_of_ble_eq_true rfl) (fun X => ?_)
  refine m_iload_n X dX5_tick_0 rfl rfl ?_
  refine m_cS1 X dX5_tick_1 lk_X5_36 mk_X5_needReading st_X5_needReading (c_X5_needReading hr) rfl (Nat.le_of_ble_eq_true rfl) (Nat.le_of_ble_eq_true rfl) (Nat.le_of_ble_eq_true rfl) (Nat.le_of_ble_eq_true rfl) (Nat.le_of_ble_eq_true rfl) rfl ?_
  refine m_aload_n X dX5_tick_4 rfl rfl ?_
  refine m_getf X dX5_tick_5 fl_X5_10 rfl rfl rfl ?_
  refine m_iload_n X dX5_tick_8 rfl rfl ?_
  refine m_cV1 X dX5_tick_9 lk_X5_40 mk_X1_bring in_X1_bring se_X1_bring rfl rfl (c_X1_bring hk.1 hk.2.1 hk.2.2.1 hk.2.2.2.1 hk.2.2.2.2) rfl (Nat.le_of_ble_eq_true rfl) (Nat.le_of_ble_eq_true rfl) (Nat.le_of_ble_eq_true rfl) (Nat.le_of_ble_eq_true rfl) (Nat.le_of_ble_eq_true rfl) rfl ?_
  refine m_aload_n X dX5_tick_12 rfl rfl ?_
  refine m_getf X dX5_tick_13 fl_X5_10 rfl rfl rfl ?_
  refine m_getf (v := .int ((sBringV v a r) 10)) X dX5_tick_16 fl_X5_43 rfl rfl rfl ?_
  exact m_iret X dX5_tick_19 rfl (rfl) (Nat.le_of_ble_eq_true rfl) (Nat.le_of_ble_eq_true rfl) rfl
theorem c_X5_ticks {v : m_V} {a : m_R} {x : Int64} {t : m_H} {r : Int32} {N : Nat} (hr : -1000 ≤ r ∧ r ≤ 100000) (hN1 : 1 ≤ N) (hN : N ≤ 50) (hk : ∀ i, i < N → kI (sTicks r i v a).1 (sTicks r i v a).2) : m_Ctr M_X5_ticks [.ref 0, .int r, .int (nI N)] (hC v a x t) (.inl (some (.int ((sTicks r N v a).1 10)), hC (sTicks r N v a).1 (sTicks r N v a).2 x t)) := by
  refine m_intro (by decide +kernel) (Nat.le_of_ble_eq_true rfl) (fun {D cI cL sa A p l e s m args below meth c ad} X => ?_)
  have hn : 1 ≤ nI N ∧ nI N ≤ 50 := ⟨(nI_leI (a := 1) (by omega) (by omega)).mpr hN1, (nI_leI (b := 50) (by omega) (by omega)).mpr hN⟩
  have loop : ∀ k i, i + k = N → m_Go D cI cL ad ((hC v a x t)).length (m_Ml M_X5_ticks) A p l e (m_rm M_X5_ticks) s m args below meth c (m_VQ D cI cL ad ((hC v a x t)).length A (.inl (some (.int ((sTicks r N v a).1 10)), hC (sTicks r N v a).1 (sTicks r N v a).2 x t)) below args s (m_Mc M_X5_ticks) (m_Ms M_X5_ticks)) 16 [(3, .int (nI i)), (0, .ref 0), (1, .int r), (2, .int (nI N))] [] (hC (sTicks r i v a).1 (sTicks r i v a).2 x t) 0 0 := by
    intro k
    induction k with
    | zero =>
      intro i hi
      have hiL : i = N := by omega
      subst hiL
      refine m_iload_n X dX5_ticks_16 rfl rfl ?_
      refine m_iload_n X dX5_ticks_17 rfl rfl ?_
      refine m_icmp_ge (tgt := 35) X dX5_ticks_18 (by decide) rfl (fun b18 => ?_) (fun b18 => absurd b18 (not_not_intro (Int32.le_refl _)))
      refine m_aload_n X dX5_ticks_35 rfl rfl ?_
      refine m_getf X dX5_ticks_36 fl_X5_10 rfl rfl rfl ?_
      refine m_getf (v := .int ((sTicks r i v a).1 10)) X dX5_ticks_39 fl_X5_43 rfl rfl rfl ?_
      exact m_iret X dX5_ticks_42 rfl (rfl) (Nat.le_of_ble_eq_true rfl) (Nat.le_of_ble_eq_true rfl) rfl
    | succ k ih =>
      intro i hi
      have hlt : i < N := by omega
      obtain ⟨k1, k2, k3, k4, k5⟩ := hk i hlt
      refine m_iload_n X dX5_ticks_16 rfl rfl ?_
      refine m_iload_n X dX5_ticks_17 rfl rfl ?_
      refine m_icmp_ge (tgt := 35) X dX5_ticks_18 (by decide) rfl (fun b18 => absurd b18 (nI_ge hlt (by omega))) (fun b18 => ?_)
      refine m_aload_n X dX5_ticks_21 rfl rfl ?_
      refine m_getf X dX5_ticks_22 fl_X5_10 rfl rfl rfl ?_
      refine m_iload_n X dX5_ticks_25 rfl rfl ?_
      refine m_cV1 X dX5_ticks_26 lk_X5_40 mk_X1_bring in_X1_bring se_X1_bring rfl rfl (c_X1_bring k1 k2 k3 k4 k5) rfl (Nat.le_of_ble_eq_true rfl) (Nat.le_of_ble_eq_true rfl) (Nat.le_of_ble_eq_true rfl) (Nat.le_of_ble_eq_true rfl) (Nat.le_of_ble_eq_true rfl) rfl ?_
      refine m_iinc X dX5_ticks_29 rfl (Nat.le_of_ble_eq_true rfl) rfl ?_
      refine m_goto (tgt := 16) X dX5_ticks_32 (by decide) rfl ?_
      refine m_lp (l1 := [(3, .int (nI (i + 1))), (0, .ref 0), (1, .int r), (2, .int (nI N))]) [0, 1, 2, 3] (by rw [nI_succ]; rfl) ?_
      exact ih (i + 1) (by omega)
  refine m_iload_n X dX5_ticks_0 rfl rfl ?_
  refine m_cS1 X dX5_ticks_1 lk_X5_36 mk_X5_needReading st_X5_needReading (c_X5_needReading hr) rfl (Nat.le_of_ble_eq_true rfl) (Nat.le_of_ble_eq_true rfl) (Nat.le_of_ble_eq_true rfl) (Nat.le_of_ble_eq_true rfl) (Nat.le_of_ble_eq_true rfl) rfl ?_
  refine m_iload_n X dX5_ticks_4 rfl rfl ?_
  refine m_iconst (v := 1) X dX5_ticks_5 (by decide) rfl ?_
  refine m_bipush (v := (50)) X dX5_ticks_6 (by decide) rfl ?_
  refine m_cS3 X dX5_ticks_8 lk_X5_47 mk_X5_isWithin st_X5_isWithin (c_X5_isWithin) rfl (Nat.le_of_ble_eq_true rfl) (Nat.le_of_ble_eq_true rfl) (Nat.le_of_ble_eq_true rfl) (Nat.le_of_ble_eq_true rfl) (Nat.le_of_ble_eq_true rfl) rfl ?_
  refine m_cS1 X dX5_ticks_11 lk_X5_51 mk_X5_needArgument st_X5_needArgument (c_X5_needArgument (by rw [bi_t hn]; decide)) rfl (Nat.le_of_ble_eq_true rfl) (Nat.le_of_ble_eq_true rfl) (Nat.le_of_ble_eq_true rfl) (Nat.le_of_ble_eq_true rfl) (Nat.le_of_ble_eq_true rfl) rfl ?_
  refine m_iconst (v := 0) X dX5_ticks_14 (by decide) rfl ?_
  refine m_istore_n X dX5_ticks_15 (Nat.le_of_ble_eq_true rfl) rfl ?_
  refine m_hp (h1 := (hC (sTicks r 0 v a).1 (sTicks r 0 v a).2 x t)) rfl ?_
  refine m_lp (l1 := [(3, .int (nI 0)), (0, .ref 0), (1, .int r), (2, .int (nI N))]) [0, 1, 2, 3] rfl ?_
  exact loop N 0 (by omega)
theorem c_X5_zero {v : m_V} {a : m_R} {x : Int64} {t : m_H} (h0 : v 10 = 0) (hc : calm v) (h4 : -500 ≤ v 4 ∧ v 4 ≤ 500) : m_Ctr M_X5_zero [.ref 0] (hC v a x t) (.inl (some (.int (v 0)), hC (upd v 0 (v 4)) a x t)) := by
  refine m_intro (by decide +kernel) (Nat.le_of_ble_eq_true rfl) (fun X => ?_)
  refine m_aload_n X dX5_zero_0 rfl rfl ?_
  refine m_getf X dX5_zero_1 fl_X5_10 rfl rfl rfl ?_
  refine m_getf (v := .int (v 10)) X dX5_zero_4 fl_X5_43 rfl rfl rfl ?_
  refine m_if_ne (tgt := 24) X dX5_zero_7 (by decide) rfl (fun b7 => absurd b7 (not_not_intro h0)) (fun b7 => ?_)
  refine m_aload_n X dX5_zero_10 rfl rfl ?_
  refine m_getf X dX5_zero_11 fl_X5_20 rfl rfl rfl ?_
  refine m_cV0 X dX5_zero_14 lk_X5_55 mk_X4_isCalm in_X4_isCalm se_X4_isCalm rfl rfl (c_X4_isCalm) rfl (Nat.le_of_ble_eq_true rfl) (Nat.le_of_ble_eq_true rfl) (Nat.le_of_ble_eq_true rfl) (Nat.le_of_ble_eq_true rfl) (Nat.le_of_ble_eq_true rfl) rfl ?_
  refine m_if_eq (tgt := 24) X dX5_zero_17 (by decide) rfl (fun b17 => absurd b17 ((by rw [bi_t hc]; decide))) (fun b17 => ?_)
  refine m_iconst (v := 1) X dX5_zero_20 (by decide) rfl ?_
  refine m_goto (tgt := 25) X dX5_zero_21 (by decide) rfl ?_
  refine m_cS1 X dX5_zero_25 lk_X5_61 mk_X5_needState st_X5_needState (c_X5_needState (by decide)) rfl (Nat.le_of_ble_eq_true rfl) (Nat.le_of_ble_eq_true rfl) (Nat.le_of_ble_eq_true rfl) (Nat.le_of_ble_eq_true rfl) (Nat.le_of_ble_eq_true rfl) rfl ?_
  refine m_aload_n X dX5_zero_28 rfl rfl ?_
  refine m_getf X dX5_zero_29 fl_X5_20 rfl rfl rfl ?_
  refine m_getf (v := .int (v 4)) X dX5_zero_32 fl_X5_64 rfl rfl rfl ?_
  refine m_sipush (v := (-500)) X dX5_zero_35 (by decide) rfl ?_
  refine m_sipush (v := (500)) X dX5_zero_38 (by decide) rfl ?_
  refine m_cS3 X dX5_zero_41 lk_X5_47 mk_X5_isWithin st_X5_isWithin (c_X5_isWithin) rfl (Nat.le_of_ble_eq_true rfl) (Nat.le_of_ble_eq_true rfl) (Nat.le_of_ble_eq_true rfl) (Nat.le_of_ble_eq_true rfl) (Nat.le_of_ble_eq_true rfl) rfl ?_
  refine m_cS1 X dX5_zero_44 lk_X5_61 mk_X5_needState st_X5_needState (c_X5_needState (by rw [bi_t h4]; decide)) rfl (Nat.le_of_ble_eq_true rfl) (Nat.le_of_ble_eq_true rfl) (Nat.le_of_ble_eq_true rfl) (Nat.le_of_ble_eq_true rfl) (Nat.le_of_ble_eq_true rfl) rfl ?_
  refine m_aload_n X dX5_zero_47 rfl rfl ?_
  refine m_getf X dX5_zero_48 fl_X5_20 rfl rfl rfl ?_
  refine m_getf (v := .int (v 0)) X dX5_zero_51 fl_X5_67 rfl rfl rfl ?_
  refine m_istore_n X dX5_zero_54 (Nat.le_of_ble_eq_true rfl) rfl ?_
  refine m_aload_n X dX5_zero_55 rfl rfl ?_
  refine m_getf X dX5_zero_56 fl_X5_20 rfl rfl rfl ?_
  refine m_aload_n X dX5_zero_59 rfl rfl ?_
  refine m_getf X dX5_zero_60 fl_X5_20 rfl rfl rfl ?_
  refine m_getf (v := .int (v 4)) X dX5_zero_63 fl_X5_64 rfl rfl rfl ?_
  refine m_piC 0 X dX5_zero_66 fl_X5_67 fp_X4_0 rfl rfl rfl rfl ?_
  refine m_iload_n X dX5_zero_69 rfl rfl ?_
  exact m_iret X dX5_zero_70 rfl (rfl) (Nat.le_of_ble_eq_true rfl) (Nat.le_of_ble_eq_true rfl) rfl
theorem x_X5_zero1 {v : m_V} {a : m_R} {x : Int64} {t : m_H} (h0 : ¬ (v 10 = 0 ∧ calm v)) : m_Ctr Mx_X5_zero [.ref 0] (hC v a x t) (.inr ("java/lang/IllegalStateException", hC v a x t)) := by
  refine m_intro (by decide +kernel) (Nat.le_of_ble_eq_true rfl) (fun X => ?_)
  refine m_aload_n X dX5_zero_0 rfl rfl ?_
  refine m_getf X dX5_zero_1 fl_X5_10 rfl rfl rfl ?_
  refine m_getf (v := .int (v 10)) X dX5_zero_4 fl_X5_43 rfl rfl rfl ?_
  refine m_if_ne (tgt := 24) X dX5_zero_7 (by decide) rfl (fun b7 => ?_) (fun b7 => ?_)
  · refine m_iconst (v := 0) X dX5_zero_24 (by decide) rfl ?_
    exact m_tS1 (M := Mx_X5_needState) X dX5_zero_25 ll_X5_61 mkx_X5_needState st_X5_needState (x_X5_needState rfl) rfl (Nat.le_of_ble_eq_true rfl) (Nat.le_of_ble_eq_true rfl) (Nat.le_of_ble_eq_true rfl) (Nat.le_of_ble_eq_true rfl) (Nat.le_of_ble_eq_true rfl) rfl rfl (rfl) (Nat.le_of_ble_eq_true rfl) (Nat.le_of_ble_eq_true rfl)
  · refine m_aload_n X dX5_zero_10 rfl rfl ?_
    refine m_getf X dX5_zero_11 fl_X5_20 rfl rfl rfl ?_
    refine m_cV0 X dX5_zero_14 lk_X5_55 mk_X4_isCalm in_X4_isCalm se_X4_isCalm rfl rfl (c_X4_isCalm) rfl (Nat.le_of_ble_eq_true rfl) (Nat.le_of_ble_eq_true rfl) (Nat.le_of_ble_eq_true rfl) (Nat.le_of_ble_eq_true rfl) (Nat.le_of_ble_eq_true rfl) rfl ?_
    refine m_if_eq (tgt := 24) X dX5_zero_17 (by decide) rfl (fun b17 => ?_) (fun b17 => ?_)
    · refine m_iconst (v := 0) X dX5_zero_24 (by decide) rfl ?_
      exact m_tS1 (M := Mx_X5_needState) X dX5_zero_25 ll_X5_61 mkx_X5_needState st_X5_needState (x_X5_needState rfl) rfl (Nat.le_of_ble_eq_true rfl) (Nat.le_of_ble_eq_true rfl) (Nat.le_of_ble_eq_true rfl) (Nat.le_of_ble_eq_true rfl) (Nat.le_of_ble_eq_true rfl) rfl rfl (rfl) (Nat.le_of_ble_eq_true rfl) (Nat.le_of_ble_eq_true rfl)
    · exact absurd ⟨b7, Classical.not_not.mp (fun q => b17 (bi_f q))⟩ h0
theorem x_X5_zero2 {v : m_V} {a : m_R} {x : Int64} {t : m_H} (h0 : v 10 = 0) (hc : calm v) (h4 : ¬ (-500 ≤ v 4 ∧ v 4 ≤ 500)) : m_Ctr Mx_X5_zero [.ref 0] (hC v a x t) (.inr ("java/lang/IllegalStateException", hC v a x t)) := by
  refine m_intro (by decide +kernel) (Nat.le_of_ble_eq_true rfl) (fun X => ?_)
  refine m_aload_n X dX5_zero_0 rfl rfl ?_
  refine m_getf X dX5_zero_1 fl_X5_10 rfl rfl rfl ?_
  refine m_getf (v := .int (v 10)) X dX5_zero_4 fl_X5_43 rfl rfl rfl ?_
  refine m_if_ne (tgt := 24) X dX5_zero_7 (by decide) rfl (fun b7 => absurd b7 (not_not_intro h0)) (fun b7 => ?_)
  refine m_aload_n X dX5_zero_10 rfl rfl ?_
  refine m_getf X dX5_zero_11 fl_X5_20 rfl rfl rfl ?_
  refine m_cV0 X dX5_zero_14 lk_X5_55 mk_X4_isCalm in_X4_isCalm se_X4_isCalm rfl rfl (c_X4_isCalm) rfl (Nat.le_of_ble_eq_true rfl) (Nat.le_of_ble_eq_true rfl) (Nat.le_of_ble_eq_true rfl) (Nat.le_of_ble_eq_true rfl) (Nat.le_of_ble_eq_true rfl) rfl ?_
  refine m_if_eq (tgt := 24) X dX5_zero_17 (by decide) rfl (fun b17 => absurd b17 ((by rw [bi_t hc]; decide))) (fun b17 => ?_)
  refine m_iconst (v := 1) X dX5_zero_20 (by decide) rfl ?_
  refine m_goto (tgt := 25) X dX5_zero_21 (by decide) rfl ?_
  refine m_cS1 X dX5_zero_25 lk_X5_61 mk_X5_needState st_X5_needState (c_X5_needState (by decide)) rfl (Nat.le_of_ble_eq_true rfl) (Nat.le_of_ble_eq_true rfl) (Nat.le_of_ble_eq_true rfl) (Nat.le_of_ble_eq_true rfl) (Nat.le_of_ble_eq_true rfl) rfl ?_
  refine m_aload_n X dX5_zero_28 rfl rfl ?_
  refine m_getf X dX5_zero_29 fl_X5_20 rfl rfl rfl ?_
  refine m_getf (v := .int (v 4)) X dX5_zero_32 fl_X5_64 rfl rfl rfl ?_
  refine m_sipush (v := (-500)) X dX5_zero_35 (by decide) rfl ?_
  refine m_sipush (v := (500)) X dX5_zero_38 (by decide) rfl ?_
  refine m_cS3 X dX5_zero_41 lk_X5_47 mk_X5_isWithin st_X5_isWithin (c_X5_isWithin) rfl (Nat.le_of_ble_eq_true rfl) (Nat.le_of_ble_eq_true rfl) (Nat.le_of_ble_eq_true rfl) (Nat.le_of_ble_eq_true rfl) (Nat.le_of_ble_eq_true rfl) rfl ?_
  exact m_tS1 (M := Mx_X5_needState) X dX5_zero_44 ll_X5_61 mkx_X5_needState st_X5_needState (x_X5_needState (bi_f h4)) rfl (Nat.le_of_ble_eq_true rfl) (Nat.le_of_ble_eq_true rfl) (Nat.le_of_ble_eq_true rfl) (Nat.le_of_ble_eq_true rfl) (Nat.le_of_ble_eq_true rfl) rfl rfl (rfl) (Nat.le_of_ble_eq_true rfl) (Nat.le_of_ble_eq_true rfl)
theorem c_X5_setBand {v : m_V} {a : m_R} {x : Int64} {t : m_H} {b : Int32} (hb : 0 ≤ b ∧ b ≤ 50) : m_Ctr M_X5_setBand [.ref 0, .int b] (hC v a x t) (.inl (some (.int (v 2)), hC (upd v 2 b) a x t)) := by
  refine m_intro (by decide +kernel) (Nat.le_of_ble_eq_true rfl) (fun X => ?_)
  refine m_iload_n X dX5_setBand_0 rfl rfl ?_
  refine m_iconst (v := 0) X dX5_setBand_1 (by decide) rfl ?_
  refine m_bipush (v := (50)) X dX5_setBand_2 (by decide) rfl ?_
  refine m_cS3 X dX5_setBand_4 lk_X5_47 mk_X5_isWithin st_X5_isWithin (c_X5_isWithin) rfl (Nat.le_of_ble_eq_true rfl) (Nat.le_of_ble_eq_true rfl) (Nat.le_of_ble_eq_true rfl) (Nat.le_of_ble_eq_true rfl) (Nat.le_of_ble_eq_true rfl) rfl ?_
  refine m_cS1 X dX5_setBand_7 lk_X5_51 mk_X5_needArgument st_X5_needArgument (c_X5_needArgument (by rw [bi_t hb]; decide)) rfl (Nat.le_of_ble_eq_true rfl) (Nat.le_of_ble_eq_true rfl) (Nat.le_of_ble_eq_true rfl) (Nat.le_of_ble_eq_true rfl) (Nat.le_of_ble_eq_true rfl) rfl ?_
  refine m_aload_n X dX5_setBand_10 rfl rfl ?_
  refine m_getf X dX5_setBand_11 fl_X5_20 rfl rfl rfl ?_
  refine m_getf (v := .int (v 2)) X dX5_setBand_14 fl_X5_70 rfl rfl rfl ?_
  refine m_istore_n X dX5_setBand_17 (Nat.le_of_ble_eq_true rfl) rfl ?_
  refine m_aload_n X dX5_setBand_18 rfl rfl ?_
  refine m_getf X dX5_setBand_19 fl_X5_20 rfl rfl rfl ?_
  refine m_iload_n X dX5_setBand_22 rfl rfl ?_
  refine m_piC 2 X dX5_setBand_23 fl_X5_70 fp_X4_2 rfl rfl rfl rfl ?_
  refine m_iload_n X dX5_setBand_26 rfl rfl ?_
  exact m_iret X dX5_setBand_27 rfl (rfl) (Nat.le_of_ble_eq_true rfl) (Nat.le_of_ble_eq_true rfl) rfl
theorem c_X5_gross {v : m_V} {a : m_R} {x : Int64} {t : m_H}  : m_Ctr M_X5_gross [.ref 0] (hC v a x t) (.inl (some (.int (gross v)), hC v a x t)) := by
  refine m_intro (by decide +kernel) (Nat.le_of_ble_eq_true rfl) (fun X => ?_)
  refine m_aload_n X dX5_gross_0 rfl rfl ?_
  refine m_getf X dX5_gross_1 fl_X5_20 rfl rfl rfl ?_
  refine m_cV0 X dX5_gross_4 lk_X5_73 mk_X4_grossNow in_X4_grossNow se_X4_grossNow rfl rfl (c_X4_grossNow) rfl (Nat.le_of_ble_eq_true rfl) (Nat.le_of_ble_eq_true rfl) (Nat.le_of_ble_eq_true rfl) (Nat.le_of_ble_eq_true rfl) (Nat.le_of_ble_eq_true rfl) rfl ?_
  exact m_iret X dX5_gross_7 rfl (rfl) (Nat.le_of_ble_eq_true rfl) (Nat.le_of_ble_eq_true rfl) rfl
theorem c_X5_net {v : m_V} {a : m_R} {x : Int64} {t : m_H}  : m_Ctr M_X5_net [.ref 0] (hC v a x t) (.inl (some (.int (net v)), hC v a x t)) := by
  refine m_intro (by decide +kernel) (Nat.le_of_ble_eq_true rfl) (fun X => ?_)
  refine m_aload_n X dX5_net_0 rfl rfl ?_
  refine m_getf X dX5_net_1 fl_X5_20 rfl rfl rfl ?_
  refine m_cV0 X dX5_net_4 lk_X5_77 mk_X4_netNow in_X4_netNow se_X4_netNow rfl rfl (c_X4_netNow) rfl (Nat.le_of_ble_eq_true rfl) (Nat.le_of_ble_eq_true rfl) (Nat.le_of_ble_eq_true rfl) (Nat.le_of_ble_eq_true rfl) (Nat.le_of_ble_eq_true rfl) rfl ?_
  exact m_iret X dX5_net_7 rfl (rfl) (Nat.le_of_ble_eq_true rfl) (Nat.le_of_ble_eq_true rfl) rfl
theorem c_X5_isSettled {v : m_V} {a : m_R} {x : Int64} {t : m_H}  : m_Ctr M_X5_isSettled [.ref 0] (hC v a x t) (.inl (some (.int (bi (calm v))), hC v a x t)) := by
  refine m_intro (by decide +kernel) (Nat.le_of_ble_eq_true rfl) (fun X => ?_)
  refine m_aload_n X dX5_isSettled_0 rfl rfl ?_
  refine m_getf X dX5_isSettled_1 fl_X5_20 rfl rfl rfl ?_
  refine m_cV0 X dX5_isSettled_4 lk_X5_55 mk_X4_isCalm in_X4_isCalm se_X4_isCalm rfl rfl (c_X4_isCalm) rfl (Nat.le_of_ble_eq_true rfl) (Nat.le_of_ble_eq_true rfl) (Nat.le_of_ble_eq_true rfl) (Nat.le_of_ble_eq_true rfl) (Nat.le_of_ble_eq_true rfl) rfl ?_
  exact m_zret X dX5_isSettled_7 rfl (bi_nar) (rfl) (Nat.le_of_ble_eq_true rfl) (Nat.le_of_ble_eq_true rfl) rfl
theorem bin_in {b : Int32} (hb : 0 ≤ b ∧ b ≤ 3) : vp_in b 4 := by
  rw [vi_iff (by decide)]
  exact ⟨i_nlt.mpr hb.1, by rw [i_nle, i_lt]; have := i_le.mp hb.2; have e : (3 : Int32).toInt = 3 := rfl; have e2 : (Int32.ofNat 4).toInt = 4 := rfl; omega⟩
theorem c_X5_fill {v : m_V} {a : m_R} {x : Int64} {t : m_H} {b n : Int32} (hb : 0 ≤ b ∧ b ≤ 3) (hn : 1 ≤ n ∧ n ≤ 100000) (h8 : vp_in (v 8) 30) : m_Ctr M_X5_fill [.ref 0, .int b, .int n] (hC v a x t) (.inl (some (.int (v 8)), hC (upd v 8 (v 8 + 1)) (sFillA b n v a) x t)) := by
  refine m_intro (by decide +kernel) (Nat.le_of_ble_eq_true rfl) (fun X => ?_)
  refine m_iload_n X dX5_fill_0 rfl rfl ?_
  refine m_cS1 X dX5_fill_1 lk_X5_80 mk_X5_needBin st_X5_needBin (c_X5_needBin hb) rfl (Nat.le_of_ble_eq_true rfl) (Nat.le_of_ble_eq_true rfl) (Nat.le_of_ble_eq_true rfl) (Nat.le_of_ble_eq_true rfl) (Nat.le_of_ble_eq_true rfl) rfl ?_
  refine m_iload_n X dX5_fill_4 rfl rfl ?_
  refine m_iconst (v := 1) X dX5_fill_5 (by decide) rfl ?_
  refine m_ldc X dX5_fill_6 cs_X5_83 rfl ?_
  refine m_cS3 X dX5_fill_8 lk_X5_47 mk_X5_isWithin st_X5_isWithin (c_X5_isWithin) rfl (Nat.le_of_ble_eq_true rfl) (Nat.le_of_ble_eq_true rfl) (Nat.le_of_ble_eq_true rfl) (Nat.le_of_ble_eq_true rfl) (Nat.le_of_ble_eq_true rfl) rfl ?_
  refine m_cS1 X dX5_fill_11 lk_X5_51 mk_X5_needArgument st_X5_needArgument (c_X5_needArgument (by rw [bi_t hn]; decide)) rfl (Nat.le_of_ble_eq_true rfl) (Nat.le_of_ble_eq_true rfl) (Nat.le_of_ble_eq_true rfl) (Nat.le_of_ble_eq_true rfl) (Nat.le_of_ble_eq_true rfl) rfl ?_
  refine m_aload_n X dX5_fill_14 rfl rfl ?_
  refine m_getf X dX5_fill_15 fl_X5_30 rfl rfl rfl ?_
  refine m_getf (v := .int (v 8)) X dX5_fill_18 fl_X5_84 rfl rfl rfl ?_
  refine m_bipush (v := (30)) X dX5_fill_21 (by decide) rfl ?_
  refine m_icmp_ge (tgt := 30) X dX5_fill_23 (by decide) rfl (fun b23 => absurd b23 (vi_1 (by decide) h8)) (fun b23 => ?_)
  refine m_iconst (v := 1) X dX5_fill_26 (by decide) rfl ?_
  refine m_goto (tgt := 31) X dX5_fill_27 (by decide) rfl ?_
  refine m_cS1 X dX5_fill_31 lk_X5_61 mk_X5_needState st_X5_needState (c_X5_needState (by decide)) rfl (Nat.le_of_ble_eq_true rfl) (Nat.le_of_ble_eq_true rfl) (Nat.le_of_ble_eq_true rfl) (Nat.le_of_ble_eq_true rfl) (Nat.le_of_ble_eq_true rfl) rfl ?_
  refine m_aload_n X dX5_fill_34 rfl rfl ?_
  refine m_getf X dX5_fill_35 fl_X5_30 rfl rfl rfl ?_
  refine m_iload_n X dX5_fill_38 rfl rfl ?_
  refine m_iload_n X dX5_fill_39 rfl rfl ?_
  refine m_cV2 X dX5_fill_40 lk_X5_89 mk_X2_store in_X2_store se_X2_store rfl rfl (c_X2_store h8) rfl (Nat.le_of_ble_eq_true rfl) (Nat.le_of_ble_eq_true rfl) (Nat.le_of_ble_eq_true rfl) (Nat.le_of_ble_eq_true rfl) (Nat.le_of_ble_eq_true rfl) rfl ?_
  exact m_iret X dX5_fill_43 rfl (rfl) (Nat.le_of_ble_eq_true rfl) (Nat.le_of_ble_eq_true rfl) rfl
theorem c_X5_setMargin {v : m_V} {a : m_R} {x : Int64} {t : m_H} {b n : Int32} (hb : 0 ≤ b ∧ b ≤ 3) (hn : 0 ≤ n ∧ n ≤ 1000) : m_Ctr M_X5_setMargin [.ref 0, .int b, .int n] (hC v a x t) (.inl (some (.int (a 0 b.toNatClampNeg)), hC v (va_up a 0 (upd (a 0) b.toNatClampNeg n)) x t)) := by
  refine m_intro (by decide +kernel) (Nat.le_of_ble_eq_true rfl) (fun X => ?_)
  refine m_iload_n X dX5_setMargin_0 rfl rfl ?_
  refine m_cS1 X dX5_setMargin_1 lk_X5_80 mk_X5_needBin st_X5_needBin (c_X5_needBin hb) rfl (Nat.le_of_ble_eq_true rfl) (Nat.le_of_ble_eq_true rfl) (Nat.le_of_ble_eq_true rfl) (Nat.le_of_ble_eq_true rfl) (Nat.le_of_ble_eq_true rfl) rfl ?_
  refine m_iload_n X dX5_setMargin_4 rfl rfl ?_
  refine m_iconst (v := 0) X dX5_setMargin_5 (by decide) rfl ?_
  refine m_sipush (v := (1000)) X dX5_setMargin_6 (by decide) rfl ?_
  refine m_cS3 X dX5_setMargin_9 lk_X5_47 mk_X5_isWithin st_X5_isWithin (c_X5_isWithin) rfl (Nat.le_of_ble_eq_true rfl) (Nat.le_of_ble_eq_true rfl) (Nat.le_of_ble_eq_true rfl) (Nat.le_of_ble_eq_true rfl) (Nat.le_of_ble_eq_true rfl) rfl ?_
  refine m_cS1 X dX5_setMargin_12 lk_X5_51 mk_X5_needArgument st_X5_needArgument (c_X5_needArgument (by rw [bi_t hn]; decide)) rfl (Nat.le_of_ble_eq_true rfl) (Nat.le_of_ble_eq_true rfl) (Nat.le_of_ble_eq_true rfl) (Nat.le_of_ble_eq_true rfl) (Nat.le_of_ble_eq_true rfl) rfl ?_
  refine m_aload_n X dX5_setMargin_15 rfl rfl ?_
  refine m_getf X dX5_setMargin_16 fl_X5_25 rfl rfl rfl ?_
  refine m_getf X dX5_setMargin_19 fl_X5_93 rfl rfl rfl ?_
  refine m_iload_n X dX5_setMargin_22 rfl rfl ?_
  refine m_cS2 X dX5_setMargin_23 lk_X5_99 mk_X5_at st_X5_at (c_X5_at rfl (by decide) (bin_in hb)) rfl (Nat.le_of_ble_eq_true rfl) (Nat.le_of_ble_eq_true rfl) (Nat.le_of_ble_eq_true rfl) (Nat.le_of_ble_eq_true rfl) (Nat.le_of_ble_eq_true rfl) rfl ?_
  refine m_istore_n X dX5_setMargin_26 (Nat.le_of_ble_eq_true rfl) rfl ?_
  refine m_aload_n X dX5_setMargin_27 rfl rfl ?_
  refine m_getf X dX5_setMargin_28 fl_X5_25 rfl rfl rfl ?_
  refine m_getf X dX5_setMargin_31 fl_X5_93 rfl rfl rfl ?_
  refine m_iload_n X dX5_setMargin_34 rfl rfl ?_
  refine m_iload_n X dX5_setMargin_35 rfl rfl ?_
  refine m_cS3 X dX5_setMargin_36 lk_X5_103 mk_X5_put st_X5_put (c_X5_put rfl (by decide) (bin_in hb)) rfl (Nat.le_of_ble_eq_true rfl) (Nat.le_of_ble_eq_true rfl) (Nat.le_of_ble_eq_true rfl) (Nat.le_of_ble_eq_true rfl) (Nat.le_of_ble_eq_true rfl) rfl ?_
  refine m_hp hC_a0 ?_
  refine m_iload_n X dX5_setMargin_39 rfl rfl ?_
  exact m_iret X dX5_setMargin_40 rfl (rfl) (Nat.le_of_ble_eq_true rfl) (Nat.le_of_ble_eq_true rfl) rfl
theorem c_X5_flight {v : m_V} {a : m_R} {x : Int64} {t : m_H} {b : Int32} (hb : 0 ≤ b ∧ b ≤ 3) : m_Ctr M_X5_flight [.ref 0, .int b] (hC v a x t) (.inl (some (.int (a 1 b.toNatClampNeg)), hC v a x t)) := by
  refine m_intro (by decide +kernel) (Nat.le_of_ble_eq_true rfl) (fun X => ?_)
  refine m_iload_n X dX5_flight_0 rfl rfl ?_
  refine m_cS1 X dX5_flight_1 lk_X5_80 mk_X5_needBin st_X5_needBin (c_X5_needBin hb) rfl (Nat.le_of_ble_eq_true rfl) (Nat.le_of_ble_eq_true rfl) (Nat.le_of_ble_eq_true rfl) (Nat.le_of_ble_eq_true rfl) (Nat.le_of_ble_eq_true rfl) rfl ?_
  refine m_aload_n X dX5_flight_4 rfl rfl ?_
  refine m_getf X dX5_flight_5 fl_X5_25 rfl rfl rfl ?_
  refine m_getf X dX5_flight_8 fl_X5_107 rfl rfl rfl ?_
  refine m_iload_n X dX5_flight_11 rfl rfl ?_
  refine m_cS2 X dX5_flight_12 lk_X5_99 mk_X5_at st_X5_at (c_X5_at rfl (by decide) (bin_in hb)) rfl (Nat.le_of_ble_eq_true rfl) (Nat.le_of_ble_eq_true rfl) (Nat.le_of_ble_eq_true rfl) (Nat.le_of_ble_eq_true rfl) (Nat.le_of_ble_eq_true rfl) rfl ?_
  exact m_iret X dX5_flight_15 rfl (rfl) (Nat.le_of_ble_eq_true rfl) (Nat.le_of_ble_eq_true rfl) rfl
theorem c_X5_gate {v : m_V} {a : m_R} {x : Int64} {t : m_H} {b : Int32} (hb : 0 ≤ b ∧ b ≤ 3) (h1 : vp_in (v 15) 6) : m_Ctr M_X5_gate [.ref 0, .int b] (hC v a x t) (.inl (some (.int (sGate v a b)), hC v a x t)) := by
  refine m_intro (by decide +kernel) (Nat.le_of_ble_eq_true rfl) (fun X => ?_)
  refine m_iload_n X dX5_gate_0 rfl rfl ?_
  refine m_cS1 X dX5_gate_1 lk_X5_80 mk_X5_needBin st_X5_needBin (c_X5_needBin hb) rfl (Nat.le_of_ble_eq_true rfl) (Nat.le_of_ble_eq_true rfl) (Nat.le_of_ble_eq_true rfl) (Nat.le_of_ble_eq_true rfl) (Nat.le_of_ble_eq_true rfl) rfl ?_
  refine m_aload_n X dX5_gate_4 rfl rfl ?_
  refine m_getf X dX5_gate_5 fl_X5_10 rfl rfl rfl ?_
  refine m_iload_n X dX5_gate_8 rfl rfl ?_
  refine m_cV1 X dX5_gate_9 lk_X5_110 mk_X1_gateOf in_X1_gateOf se_X1_gateOf rfl rfl (c_X1_gateOf h1) rfl (Nat.le_of_ble_eq_true rfl) (Nat.le_of_ble_eq_true rfl) (Nat.le_of_ble_eq_true rfl) (Nat.le_of_ble_eq_true rfl) (Nat.le_of_ble_eq_true rfl) rfl ?_
  exact m_iret X dX5_gate_12 rfl (rfl) (Nat.le_of_ble_eq_true rfl) (Nat.le_of_ble_eq_true rfl) rfl
theorem c_X5_stock {v : m_V} {a : m_R} {x : Int64} {t : m_H} {b : Int32} (hb : 0 ≤ b ∧ b ≤ 3) (hL : ∃ L, L ≤ 30 ∧ v 8 = nI L) : m_Ctr M_X5_stock [.ref 0, .int b] (hC v a x t) (.inl (some (.int (sStock b a (v 8).toNatClampNeg)), hC v a x t)) := by
  refine m_intro (by decide +kernel) (Nat.le_of_ble_eq_true rfl) (fun X => ?_)
  refine m_iload_n X dX5_stock_0 rfl rfl ?_
  refine m_cS1 X dX5_stock_1 lk_X5_80 mk_X5_needBin st_X5_needBin (c_X5_needBin hb) rfl (Nat.le_of_ble_eq_true rfl) (Nat.le_of_ble_eq_true rfl) (Nat.le_of_ble_eq_true rfl) (Nat.le_of_ble_eq_true rfl) (Nat.le_of_ble_eq_true rfl) rfl ?_
  refine m_aload_n X dX5_stock_4 rfl rfl ?_
  refine m_getf X dX5_stock_5 fl_X5_30 rfl rfl rfl ?_
  refine m_iload_n X dX5_stock_8 rfl rfl ?_
  refine m_cV1 X dX5_stock_9 lk_X5_114 mk_X2_leftIn in_X2_leftIn se_X2_leftIn rfl rfl (c_X2_leftIn hL) rfl (Nat.le_of_ble_eq_true rfl) (Nat.le_of_ble_eq_true rfl) (Nat.le_of_ble_eq_true rfl) (Nat.le_of_ble_eq_true rfl) (Nat.le_of_ble_eq_true rfl) rfl ?_
  exact m_iret X dX5_stock_12 rfl (rfl) (Nat.le_of_ble_eq_true rfl) (Nat.le_of_ble_eq_true rfl) rfl
theorem c_X5_register {v : m_V} {a : m_R} {x : Int64} {t : m_H} {b : Int32} (hb : 0 ≤ b ∧ b ≤ 3) : m_Ctr M_X5_register [.ref 0, .int b] (hC v a x t) (.inl (some (.int (a 2 b.toNatClampNeg)), hC v a x t)) := by
  refine m_intro (by decide +kernel) (Nat.le_of_ble_eq_true rfl) (fun X => ?_)
  refine m_iload_n X dX5_register_0 rfl rfl ?_
  refine m_cS1 X dX5_register_1 lk_X5_80 mk_X5_needBin st_X5_needBin (c_X5_needBin hb) rfl (Nat.le_of_ble_eq_true rfl) (Nat.le_of_ble_eq_true rfl) (Nat.le_of_ble_eq_true rfl) (Nat.le_of_ble_eq_true rfl) (Nat.le_of_ble_eq_true rfl) rfl ?_
  refine m_aload_n X dX5_register_4 rfl rfl ?_
  refine m_getf X dX5_register_5 fl_X5_25 rfl rfl rfl ?_
  refine m_getf X dX5_register_8 fl_X5_117 rfl rfl rfl ?_
  refine m_iload_n X dX5_register_11 rfl rfl ?_
  refine m_cS2 X dX5_register_12 lk_X5_99 mk_X5_at st_X5_at (c_X5_at rfl (by decide) (bin_in hb)) rfl (Nat.le_of_ble_eq_true rfl) (Nat.le_of_ble_eq_true rfl) (Nat.le_of_ble_eq_true rfl) (Nat.le_of_ble_eq_true rfl) (Nat.le_of_ble_eq_true rfl) rfl ?_
  exact m_iret X dX5_register_15 rfl (rfl) (Nat.le_of_ble_eq_true rfl) (Nat.le_of_ble_eq_true rfl) rfl
theorem c_X5_registerByLots {v : m_V} {a : m_R} {x : Int64} {t : m_H} {b : Int32} (hb : 0 ≤ b ∧ b ≤ 3) (hL : ∃ L, L ≤ 30 ∧ v 8 = nI L) : m_Ctr M_X5_registerByLots [.ref 0, .int b] (hC v a x t) (.inl (some (.int (sGone b a (v 8).toNatClampNeg + a 3 b.toNatClampNeg)), hC v a x t)) := by
  refine m_intro (by decide +kernel) (Nat.le_of_ble_eq_true rfl) (fun X => ?_)
  refine m_iload_n X dX5_registerByLots_0 rfl rfl ?_
  refine m_cS1 X dX5_registerByLots_1 lk_X5_80 mk_X5_needBin st_X5_needBin (c_X5_needBin hb) rfl (Nat.le_of_ble_eq_true rfl) (Nat.le_of_ble_eq_true rfl) (Nat.le_of_ble_eq_true rfl) (Nat.le_of_ble_eq_true rfl) (Nat.le_of_ble_eq_true rfl) rfl ?_
  refine m_aload_n X dX5_registerByLots_4 rfl rfl ?_
  refine m_getf X dX5_registerByLots_5 fl_X5_30 rfl rfl rfl ?_
  refine m_iload_n X dX5_registerByLots_8 rfl rfl ?_
  refine m_cV1 X dX5_registerByLots_9 lk_X5_120 mk_X2_goneFrom in_X2_goneFrom se_X2_goneFrom rfl rfl (c_X2_goneFrom hL) rfl (Nat.le_of_ble_eq_true rfl) (Nat.le_of_ble_eq_true rfl) (Nat.le_of_ble_eq_true rfl) (Nat.le_of_ble_eq_true rfl) (Nat.le_of_ble_eq_true rfl) rfl ?_
  refine m_aload_n X dX5_registerByLots_12 rfl rfl ?_
  refine m_getf X dX5_registerByLots_13 fl_X5_25 rfl rfl rfl ?_
  refine m_getf X dX5_registerByLots_16 fl_X5_123 rfl rfl rfl ?_
  refine m_iload_n X dX5_registerByLots_19 rfl rfl ?_
  refine m_cS2 X dX5_registerByLots_20 lk_X5_99 mk_X5_at st_X5_at (c_X5_at rfl (by decide) (bin_in hb)) rfl (Nat.le_of_ble_eq_true rfl) (Nat.le_of_ble_eq_true rfl) (Nat.le_of_ble_eq_true rfl) (Nat.le_of_ble_eq_true rfl) (Nat.le_of_ble_eq_true rfl) rfl ?_
  refine m_iadd X dX5_registerByLots_23 rfl ?_
  exact m_iret X dX5_registerByLots_24 rfl (rfl) (Nat.le_of_ble_eq_true rfl) (Nat.le_of_ble_eq_true rfl) rfl
theorem c_X5_leftOf {v : m_V} {a : m_R} {x : Int64} {t : m_H} {i : Int32} (hi : 0 ≤ i ∧ i ≤ v 8 - 1) (h30 : vp_in i 30) : m_Ctr M_X5_leftOf [.ref 0, .int i] (hC v a x t) (.inl (some (.int (a 6 i.toNatClampNeg)), hC v a x t)) := by
  refine m_intro (by decide +kernel) (Nat.le_of_ble_eq_true rfl) (fun X => ?_)
  refine m_aload_n X dX5_leftOf_0 rfl rfl ?_
  refine m_iload_n X dX5_leftOf_1 rfl rfl ?_
  refine m_cV1 X dX5_leftOf_2 lk_X5_126 mk_X5_needLot in_X5_needLot se_X5_needLot rfl rfl (c_X5_needLot hi) rfl (Nat.le_of_ble_eq_true rfl) (Nat.le_of_ble_eq_true rfl) (Nat.le_of_ble_eq_true rfl) (Nat.le_of_ble_eq_true rfl) (Nat.le_of_ble_eq_true rfl) rfl ?_
  refine m_aload_n X dX5_leftOf_5 rfl rfl ?_
  refine m_getf X dX5_leftOf_6 fl_X5_30 rfl rfl rfl ?_
  refine m_getf X dX5_leftOf_9 fl_X5_129 rfl rfl rfl ?_
  refine m_iload_n X dX5_leftOf_12 rfl rfl ?_
  refine m_cS2 X dX5_leftOf_13 lk_X5_99 mk_X5_at st_X5_at (c_X5_at rfl (by decide) h30) rfl (Nat.le_of_ble_eq_true rfl) (Nat.le_of_ble_eq_true rfl) (Nat.le_of_ble_eq_true rfl) (Nat.le_of_ble_eq_true rfl) (Nat.le_of_ble_eq_true rfl) rfl ?_
  exact m_iret X dX5_leftOf_16 rfl (rfl) (Nat.le_of_ble_eq_true rfl) (Nat.le_of_ble_eq_true rfl) rfl
theorem c_X5_firstBatch {v : m_V} {a : m_R} {x : Int64} {t : m_H} {i B : Nat} (hi : 0 ≤ nI i ∧ nI i ≤ v 8 - 1) (h30 : i < 30) (hB : B ≤ 20) (hB2 : v 20 = nI B) (hF : sFst a i B) : m_Ctr M_X5_firstBatch [.ref 0, .int (nI i)] (hC v a x t) (.inl (some (.int (a 12 i)), hC v a x t)) := by
  refine m_intro (by decide +kernel) (Nat.le_of_ble_eq_true rfl) (fun X => ?_)
  refine m_aload_n X dX5_firstBatch_0 rfl rfl ?_
  refine m_iload_n X dX5_firstBatch_1 rfl rfl ?_
  refine m_cV1 X dX5_firstBatch_2 lk_X5_126 mk_X5_needLot in_X5_needLot se_X5_needLot rfl rfl (c_X5_needLot hi) rfl (Nat.le_of_ble_eq_true rfl) (Nat.le_of_ble_eq_true rfl) (Nat.le_of_ble_eq_true rfl) (Nat.le_of_ble_eq_true rfl) (Nat.le_of_ble_eq_true rfl) rfl ?_
  refine m_aload_n X dX5_firstBatch_5 rfl rfl ?_
  refine m_getf X dX5_firstBatch_6 fl_X5_30 rfl rfl rfl ?_
  refine m_iload_n X dX5_firstBatch_9 rfl rfl ?_
  refine m_aload_n X dX5_firstBatch_10 rfl rfl ?_
  refine m_getf X dX5_firstBatch_11 fl_X5_10 rfl rfl rfl ?_
  refine m_getf (v := .int (v 20)) X dX5_firstBatch_14 fl_X5_132 rfl rfl rfl ?_
  refine m_sp (st1 := [.int (nI B), .int (nI i), .ref 8]) (by rw [hB2]; rfl) ?_
  refine m_cV2 X dX5_firstBatch_17 lk_X5_135 mk_X2_firstBatchOf in_X2_firstBatchOf se_X2_firstBatchOf rfl rfl (c_X2_firstBatchOf h30 hB hF) rfl (Nat.le_of_ble_eq_true rfl) (Nat.le_of_ble_eq_true rfl) (Nat.le_of_ble_eq_true rfl) (Nat.le_of_ble_eq_true rfl) (Nat.le_of_ble_eq_true rfl) rfl ?_
  exact m_iret X dX5_firstBatch_20 rfl (rfl) (Nat.le_of_ble_eq_true rfl) (Nat.le_of_ble_eq_true rfl) rfl
theorem c_X5_used {v : m_V} {a : m_R} {x : Int64} {t : m_H} {i B : Nat} (hi : 0 ≤ nI i ∧ nI i ≤ v 8 - 1) (hj : 0 ≤ nI B ∧ nI B ≤ v 20 - 1) (h30 : i < 30) (hB : B < 20) : m_Ctr M_X5_used [.ref 0, .int (nI i), .int (nI B)] (hC v a x t) (.inl (some (.int (a 7 (i * 20 + B))), hC v a x t)) := by
  refine m_intro (by decide +kernel) (Nat.le_of_ble_eq_true rfl) (fun X => ?_)
  refine m_aload_n X dX5_used_0 rfl rfl ?_
  refine m_iload_n X dX5_used_1 rfl rfl ?_
  refine m_cV1 X dX5_used_2 lk_X5_126 mk_X5_needLot in_X5_needLot se_X5_needLot rfl rfl (c_X5_needLot hi) rfl (Nat.le_of_ble_eq_true rfl) (Nat.le_of_ble_eq_true rfl) (Nat.le_of_ble_eq_true rfl) (Nat.le_of_ble_eq_true rfl) (Nat.le_of_ble_eq_true rfl) rfl ?_
  refine m_aload_n X dX5_used_5 rfl rfl ?_
  refine m_iload_n X dX5_used_6 rfl rfl ?_
  refine m_cV1 X dX5_used_7 lk_X5_138 mk_X5_needBatch in_X5_needBatch se_X5_needBatch rfl rfl (c_X5_needBatch hj) rfl (Nat.le_of_ble_eq_true rfl) (Nat.le_of_ble_eq_true rfl) (Nat.le_of_ble_eq_true rfl) (Nat.le_of_ble_eq_true rfl) (Nat.le_of_ble_eq_true rfl) rfl ?_
  refine m_aload_n X dX5_used_10 rfl rfl ?_
  refine m_getf X dX5_used_11 fl_X5_30 rfl rfl rfl ?_
  refine m_iload_n X dX5_used_14 rfl rfl ?_
  refine m_iload_n X dX5_used_15 rfl rfl ?_
  refine m_cV2 X dX5_used_16 lk_X5_141 mk_X2_usedFor in_X2_usedFor se_X2_usedFor rfl rfl (c_X2_usedFor h30 hB) rfl (Nat.le_of_ble_eq_true rfl) (Nat.le_of_ble_eq_true rfl) (Nat.le_of_ble_eq_true rfl) (Nat.le_of_ble_eq_true rfl) (Nat.le_of_ble_eq_true rfl) rfl ?_
  exact m_iret X dX5_used_19 rfl (rfl) (Nat.le_of_ble_eq_true rfl) (Nat.le_of_ble_eq_true rfl) rfl
theorem c_X5_addStep {v : m_V} {a : m_R} {x : Int64} {t : m_H} {b g l9 : Int32} (hb : 0 ≤ b ∧ b ≤ 3) (ht : 1 ≤ g ∧ g ≤ 10000) (hl : 0 ≤ l9 ∧ l9 ≤ 1000) (h0 : v 10 = 0) (h9 : vp_in (v 9) 6) : m_Ctr M_X5_addStep [.ref 0, .int b, .int g, .int l9] (hC v a x t) (.inl (some (.int (v 9 + 1)), hC (upd v 9 (v 9 + 1)) (sAppA b g l9 v a) x t)) := by
  refine m_intro (by decide +kernel) (Nat.le_of_ble_eq_true rfl) (fun X => ?_)
  refine m_iload_n X dX5_addStep_0 rfl rfl ?_
  refine m_cS1 X dX5_addStep_1 lk_X5_80 mk_X5_needBin st_X5_needBin (c_X5_needBin hb) rfl (Nat.le_of_ble_eq_true rfl) (Nat.le_of_ble_eq_true rfl) (Nat.le_of_ble_eq_true rfl) (Nat.le_of_ble_eq_true rfl) (Nat.le_of_ble_eq_true rfl) rfl ?_
  refine m_iload_n X dX5_addStep_4 rfl rfl ?_
  refine m_iconst (v := 1) X dX5_addStep_5 (by decide) rfl ?_
  refine m_sipush (v := (10000)) X dX5_addStep_6 (by decide) rfl ?_
  refine m_cS3 X dX5_addStep_9 lk_X5_47 mk_X5_isWithin st_X5_isWithin (c_X5_isWithin) rfl (Nat.le_of_ble_eq_true rfl) (Nat.le_of_ble_eq_true rfl) (Nat.le_of_ble_eq_true rfl) (Nat.le_of_ble_eq_true rfl) (Nat.le_of_ble_eq_true rfl) rfl ?_
  refine m_if_eq (tgt := 30) X dX5_addStep_12 (by decide) rfl (fun b12 => absurd b12 ((by rw [bi_t ht]; decide))) (fun b12 => ?_)
  refine m_iload_n X dX5_addStep_15 rfl rfl ?_
  refine m_iconst (v := 0) X dX5_addStep_16 (by decide) rfl ?_
  refine m_sipush (v := (1000)) X dX5_addStep_17 (by decide) rfl ?_
  refine m_cS3 X dX5_addStep_20 lk_X5_47 mk_X5_isWithin st_X5_isWithin (c_X5_isWithin) rfl (Nat.le_of_ble_eq_true rfl) (Nat.le_of_ble_eq_true rfl) (Nat.le_of_ble_eq_true rfl) (Nat.le_of_ble_eq_true rfl) (Nat.le_of_ble_eq_true rfl) rfl ?_
  refine m_if_eq (tgt := 30) X dX5_addStep_23 (by decide) rfl (fun b23 => absurd b23 ((by rw [bi_t hl]; decide))) (fun b23 => ?_)
  refine m_iconst (v := 1) X dX5_addStep_26 (by decide) rfl ?_
  refine m_goto (tgt := 31) X dX5_addStep_27 (by decide) rfl ?_
  refine m_cS1 X dX5_addStep_31 lk_X5_51 mk_X5_needArgument st_X5_needArgument (c_X5_needArgument (by decide)) rfl (Nat.le_of_ble_eq_true rfl) (Nat.le_of_ble_eq_true rfl) (Nat.le_of_ble_eq_true rfl) (Nat.le_of_ble_eq_true rfl) (Nat.le_of_ble_eq_true rfl) rfl ?_
  refine m_aload_n X dX5_addStep_34 rfl rfl ?_
  refine m_getf X dX5_addStep_35 fl_X5_10 rfl rfl rfl ?_
  refine m_getf (v := .int (v 10)) X dX5_addStep_38 fl_X5_43 rfl rfl rfl ?_
  refine m_if_ne (tgt := 60) X dX5_addStep_41 (by decide) rfl (fun b41 => absurd b41 (not_not_intro h0)) (fun b41 => ?_)
  refine m_aload_n X dX5_addStep_44 rfl rfl ?_
  refine m_getf X dX5_addStep_45 fl_X5_35 rfl rfl rfl ?_
  refine m_getf (v := .int (v 9)) X dX5_addStep_48 fl_X5_144 rfl rfl rfl ?_
  refine m_bipush (v := (6)) X dX5_addStep_51 (by decide) rfl ?_
  refine m_icmp_ge (tgt := 60) X dX5_addStep_53 (by decide) rfl (fun b53 => absurd b53 (vi_1 (by decide) h9)) (fun b53 => ?_)
  refine m_iconst (v := 1) X dX5_addStep_56 (by decide) rfl ?_
  refine m_goto (tgt := 61) X dX5_addStep_57 (by decide) rfl ?_
  refine m_cS1 X dX5_addStep_61 lk_X5_61 mk_X5_needState st_X5_needState (c_X5_needState (by decide)) rfl (Nat.le_of_ble_eq_true rfl) (Nat.le_of_ble_eq_true rfl) (Nat.le_of_ble_eq_true rfl) (Nat.le_of_ble_eq_true rfl) (Nat.le_of_ble_eq_true rfl) rfl ?_
  refine m_aload_n X dX5_addStep_64 rfl rfl ?_
  refine m_getf X dX5_addStep_65 fl_X5_35 rfl rfl rfl ?_
  refine m_iload_n X dX5_addStep_68 rfl rfl ?_
  refine m_iload_n X dX5_addStep_69 rfl rfl ?_
  refine m_iload_n X dX5_addStep_70 rfl rfl ?_
  refine m_cV3 X dX5_addStep_71 lk_X5_147 mk_X3_append in_X3_append se_X3_append rfl rfl (c_X3_append h9) rfl (Nat.le_of_ble_eq_true rfl) (Nat.le_of_ble_eq_true rfl) (Nat.le_of_ble_eq_true rfl) (Nat.le_of_ble_eq_true rfl) (Nat.le_of_ble_eq_true rfl) rfl ?_
  refine m_aload_n X dX5_addStep_74 rfl rfl ?_
  refine m_getf X dX5_addStep_75 fl_X5_35 rfl rfl rfl ?_
  refine m_getf (v := .int ((upd v 9 (v 9 + 1)) 9)) X dX5_addStep_78 fl_X5_144 rfl rfl rfl ?_
  exact m_iret X dX5_addStep_81 rfl (rfl) (Nat.le_of_ble_eq_true rfl) (Nat.le_of_ble_eq_true rfl) rfl
theorem c_X5_start {v : m_V} {a : m_R} {x : Int64} {t : m_H} (h0 : v 10 = 0) (h9 : ¬ v 9 ≤ 0) (h20 : ¬ 20 ≤ v 20) : m_Ctr M_X5_start [.ref 0] (hC v a x t) (.inl (some (.int (v 20)), hC (sBegin (upd v 20 (v 20 + 1)) 0) a x t)) := by
  refine m_intro (by decide +kernel) (Nat.le_of_ble_eq_true rfl) (fun X => ?_)
  refine m_aload_n X dX5_start_0 rfl rfl ?_
  refine m_getf X dX5_start_1 fl_X5_10 rfl rfl rfl ?_
  refine m_getf (v := .int (v 10)) X dX5_start_4 fl_X5_43 rfl rfl rfl ?_
  refine m_if_ne (tgt := 36) X dX5_start_7 (by decide) rfl (fun b7 => absurd b7 (not_not_intro h0)) (fun b7 => ?_)
  refine m_aload_n X dX5_start_10 rfl rfl ?_
  refine m_getf X dX5_start_11 fl_X5_35 rfl rfl rfl ?_
  refine m_getf (v := .int (v 9)) X dX5_start_14 fl_X5_144 rfl rfl rfl ?_
  refine m_if_le (tgt := 36) X dX5_start_17 (by decide) rfl (fun b17 => absurd b17 (h9)) (fun b17 => ?_)
  refine m_aload_n X dX5_start_20 rfl rfl ?_
  refine m_getf X dX5_start_21 fl_X5_10 rfl rfl rfl ?_
  refine m_getf (v := .int (v 20)) X dX5_start_24 fl_X5_132 rfl rfl rfl ?_
  refine m_bipush (v := (20)) X dX5_start_27 (by decide) rfl ?_
  refine m_icmp_ge (tgt := 36) X dX5_start_29 (by decide) rfl (fun b29 => absurd b29 (h20)) (fun b29 => ?_)
  refine m_iconst (v := 1) X dX5_start_32 (by decide) rfl ?_
  refine m_goto (tgt := 37) X dX5_start_33 (by decide) rfl ?_
  refine m_cS1 X dX5_start_37 lk_X5_61 mk_X5_needState st_X5_needState (c_X5_needState (by decide)) rfl (Nat.le_of_ble_eq_true rfl) (Nat.le_of_ble_eq_true rfl) (Nat.le_of_ble_eq_true rfl) (Nat.le_of_ble_eq_true rfl) (Nat.le_of_ble_eq_true rfl) rfl ?_
  refine m_aload_n X dX5_start_40 rfl rfl ?_
  refine m_getf X dX5_start_41 fl_X5_10 rfl rfl rfl ?_
  refine m_cV0 X dX5_start_44 lk_X5_151 mk_X1_startBatch in_X1_startBatch se_X1_startBatch rfl rfl (c_X1_startBatch) rfl (Nat.le_of_ble_eq_true rfl) (Nat.le_of_ble_eq_true rfl) (Nat.le_of_ble_eq_true rfl) (Nat.le_of_ble_eq_true rfl) (Nat.le_of_ble_eq_true rfl) rfl ?_
  exact m_iret X dX5_start_47 rfl (rfl) (Nat.le_of_ble_eq_true rfl) (Nat.le_of_ble_eq_true rfl) rfl
theorem x_X5_start {v : m_V} {a : m_R} {x : Int64} {t : m_H} (h0 : ¬ (v 10 = 0 ∧ ¬ v 9 ≤ 0 ∧ ¬ 20 ≤ v 20)) : m_Ctr Mx_X5_start [.ref 0] (hC v a x t) (.inr ("java/lang/IllegalStateException", hC v a x t)) := by
  refine m_intro (by decide +kernel) (Nat.le_of_ble_eq_true rfl) (fun X => ?_)
  refine m_aload_n X dX5_start_0 rfl rfl ?_
  refine m_getf X dX5_start_1 fl_X5_10 rfl rfl rfl ?_
  refine m_getf (v := .int (v 10)) X dX5_start_4 fl_X5_43 rfl rfl rfl ?_
  refine m_if_ne (tgt := 36) X dX5_start_7 (by decide) rfl (fun b7 => ?_) (fun b7 => ?_)
  · refine m_iconst (v := 0) X dX5_start_36 (by decide) rfl ?_
    exact m_tS1 (M := Mx_X5_needState) X dX5_start_37 ll_X5_61 mkx_X5_needState st_X5_needState (x_X5_needState rfl) rfl (Nat.le_of_ble_eq_true rfl) (Nat.le_of_ble_eq_true rfl) (Nat.le_of_ble_eq_true rfl) (Nat.le_of_ble_eq_true rfl) (Nat.le_of_ble_eq_true rfl) rfl rfl (rfl) (Nat.le_of_ble_eq_true rfl) (Nat.le_of_ble_eq_true rfl)
  · refine m_aload_n X dX5_start_10 rfl rfl ?_
    refine m_getf X dX5_start_11 fl_X5_35 rfl rfl rfl ?_
    refine m_getf (v := .int (v 9)) X dX5_start_14 fl_X5_144 rfl rfl rfl ?_
    refine m_if_le (tgt := 36) X dX5_start_17 (by decide) rfl (fun b17 => ?_) (fun b17 => ?_)
    · refine m_iconst (v := 0) X dX5_start_36 (by decide) rfl ?_
      exact m_tS1 (M := Mx_X5_needState) X dX5_start_37 ll_X5_61 mkx_X5_needState st_X5_needState (x_X5_needState rfl) rfl (Nat.le_of_ble_eq_true rfl) (Nat.le_of_ble_eq_true rfl) (Nat.le_of_ble_eq_true rfl) (Nat.le_of_ble_eq_true rfl) (Nat.le_of_ble_eq_true rfl) rfl rfl (rfl) (Nat.le_of_ble_eq_true rfl) (Nat.le_of_ble_eq_true rfl)
    · refine m_aload_n X dX5_start_20 rfl rfl ?_
      refine m_getf X dX5_start_21 fl_X5_10 rfl rfl rfl ?_
      refine m_getf (v := .int (v 20)) X dX5_start_24 fl_X5_132 rfl rfl rfl ?_
      refine m_bipush (v := (20)) X dX5_start_27 (by decide) rfl ?_
      refine m_icmp_ge (tgt := 36) X dX5_start_29 (by decide) rfl (fun b29 => ?_) (fun b29 => ?_)
      · refine m_iconst (v := 0) X dX5_start_36 (by decide) rfl ?_
        exact m_tS1 (M := Mx_X5_needState) X dX5_start_37 ll_X5_61 mkx_X5_needState st_X5_needState (x_X5_needState rfl) rfl (Nat.le_of_ble_eq_true rfl) (Nat.le_of_ble_eq_true rfl) (Nat.le_of_ble_eq_true rfl) (Nat.le_of_ble_eq_true rfl) (Nat.le_of_ble_eq_true rfl) rfl rfl (rfl) (Nat.le_of_ble_eq_true rfl) (Nat.le_of_ble_eq_true rfl)
      · exact absurd ⟨b7, b17, b29⟩ h0
theorem c_X5_hold {v : m_V} {a : m_R} {x : Int64} {t : m_H} (h0 : ¬ v 10 = 0) (h6 : ¬ v 10 = 6) : m_Ctr M_X5_hold [.ref 0] (hC v a x t) (.inl (some (.int (v 10)), hC (sHalt v 0) a x t)) := by
  refine m_intro (by decide +kernel) (Nat.le_of_ble_eq_true rfl) (fun X => ?_)
  refine m_aload_n X dX5_hold_0 rfl rfl ?_
  refine m_getf X dX5_hold_1 fl_X5_10 rfl rfl rfl ?_
  refine m_getf (v := .int (v 10)) X dX5_hold_4 fl_X5_43 rfl rfl rfl ?_
  refine m_if_eq (tgt := 26) X dX5_hold_7 (by decide) rfl (fun b7 => absurd b7 (h0)) (fun b7 => ?_)
  refine m_aload_n X dX5_hold_10 rfl rfl ?_
  refine m_getf X dX5_hold_11 fl_X5_10 rfl rfl rfl ?_
  refine m_getf (v := .int (v 10)) X dX5_hold_14 fl_X5_43 rfl rfl rfl ?_
  refine m_bipush (v := (6)) X dX5_hold_17 (by decide) rfl ?_
  refine m_icmp_eq (tgt := 26) X dX5_hold_19 (by decide) rfl (fun b19 => absurd b19 (h6)) (fun b19 => ?_)
  refine m_iconst (v := 1) X dX5_hold_22 (by decide) rfl ?_
  refine m_goto (tgt := 27) X dX5_hold_23 (by decide) rfl ?_
  refine m_cS1 X dX5_hold_27 lk_X5_61 mk_X5_needState st_X5_needState (c_X5_needState (by decide)) rfl (Nat.le_of_ble_eq_true rfl) (Nat.le_of_ble_eq_true rfl) (Nat.le_of_ble_eq_true rfl) (Nat.le_of_ble_eq_true rfl) (Nat.le_of_ble_eq_true rfl) rfl ?_
  refine m_aload_n X dX5_hold_30 rfl rfl ?_
  refine m_getf X dX5_hold_31 fl_X5_10 rfl rfl rfl ?_
  refine m_iconst (v := 0) X dX5_hold_34 (by decide) rfl ?_
  refine m_cV1 X dX5_hold_35 lk_X5_154 mk_X1_halt in_X1_halt se_X1_halt rfl rfl (c_X1_halt) rfl (Nat.le_of_ble_eq_true rfl) (Nat.le_of_ble_eq_true rfl) (Nat.le_of_ble_eq_true rfl) (Nat.le_of_ble_eq_true rfl) (Nat.le_of_ble_eq_true rfl) rfl ?_
  refine m_aload_n X dX5_hold_38 rfl rfl ?_
  refine m_getf X dX5_hold_39 fl_X5_10 rfl rfl rfl ?_
  refine m_getf (v := .int ((sHalt v 0) 12)) X dX5_hold_42 fl_X5_157 rfl rfl rfl ?_
  exact m_iret X dX5_hold_45 rfl (rfl) (Nat.le_of_ble_eq_true rfl) (Nat.le_of_ble_eq_true rfl) rfl
theorem x_X5_hold {v : m_V} {a : m_R} {x : Int64} {t : m_H} (h0 : ¬ (¬ v 10 = 0 ∧ ¬ v 10 = 6)) : m_Ctr Mx_X5_hold [.ref 0] (hC v a x t) (.inr ("java/lang/IllegalStateException", hC v a x t)) := by
  refine m_intro (by decide +kernel) (Nat.le_of_ble_eq_true rfl) (fun X => ?_)
  refine m_aload_n X dX5_hold_0 rfl rfl ?_
  refine m_getf X dX5_hold_1 fl_X5_10 rfl rfl rfl ?_
  refine m_getf (v := .int (v 10)) X dX5_hold_4 fl_X5_43 rfl rfl rfl ?_
  refine m_if_eq (tgt := 26) X dX5_hold_7 (by decide) rfl (fun b7 => ?_) (fun b7 => ?_)
  · refine m_iconst (v := 0) X dX5_hold_26 (by decide) rfl ?_
    exact m_tS1 (M := Mx_X5_needState) X dX5_hold_27 ll_X5_61 mkx_X5_needState st_X5_needState (x_X5_needState rfl) rfl (Nat.le_of_ble_eq_true rfl) (Nat.le_of_ble_eq_true rfl) (Nat.le_of_ble_eq_true rfl) (Nat.le_of_ble_eq_true rfl) (Nat.le_of_ble_eq_true rfl) rfl rfl (rfl) (Nat.le_of_ble_eq_true rfl) (Nat.le_of_ble_eq_true rfl)
  · refine m_aload_n X dX5_hold_10 rfl rfl ?_
    refine m_getf X dX5_hold_11 fl_X5_10 rfl rfl rfl ?_
    refine m_getf (v := .int (v 10)) X dX5_hold_14 fl_X5_43 rfl rfl rfl ?_
    refine m_bipush (v := (6)) X dX5_hold_17 (by decide) rfl ?_
    refine m_icmp_eq (tgt := 26) X dX5_hold_19 (by decide) rfl (fun b19 => ?_) (fun b19 => ?_)
    · refine m_iconst (v := 0) X dX5_hold_26 (by decide) rfl ?_
      exact m_tS1 (M := Mx_X5_needState) X dX5_hold_27 ll_X5_61 mkx_X5_needState st_X5_needState (x_X5_needState rfl) rfl (Nat.le_of_ble_eq_true rfl) (Nat.le_of_ble_eq_true rfl) (Nat.le_of_ble_eq_true rfl) (Nat.le_of_ble_eq_true rfl) (Nat.le_of_ble_eq_true rfl) rfl rfl (rfl) (Nat.le_of_ble_eq_true rfl) (Nat.le_of_ble_eq_true rfl)
    · exact absurd ⟨b7, b19⟩ h0
theorem c_X5_resume {v : m_V} {a : m_R} {x : Int64} {t : m_H} (h0 : v 10 = 6) (hk : kI v a) : m_Ctr M_X5_resume [.ref 0] (hC v a x t) (.inl (some (.int (sGoOnV v 10)), hC (sGoOnV v) (sGoOnA v a) x t)) := by
  refine m_intro (by decide +kernel) (Nat.le_of_ble_eq_true rfl) (fun X => ?_)
  refine m_aload_n X dX5_resume_0 rfl rfl ?_
  refine m_getf X dX5_resume_1 fl_X5_10 rfl rfl rfl ?_
  refine m_getf (v := .int (v 10)) X dX5_resume_4 fl_X5_43 rfl rfl rfl ?_
  refine m_bipush (v := (6)) X dX5_resume_7 (by decide) rfl ?_
  refine m_icmp_ne (tgt := 16) X dX5_resume_9 (by decide) rfl (fun b9 => absurd b9 (not_not_intro h0)) (fun b9 => ?_)
  refine m_iconst (v := 1) X dX5_resume_12 (by decide) rfl ?_
  refine m_goto (tgt := 17) X dX5_resume_13 (by decide) rfl ?_
  refine m_cS1 X dX5_resume_17 lk_X5_61 mk_X5_needState st_X5_needState (c_X5_needState (by decide)) rfl (Nat.le_of_ble_eq_true rfl) (Nat.le_of_ble_eq_true rfl) (Nat.le_of_ble_eq_true rfl) (Nat.le_of_ble_eq_true rfl) (Nat.le_of_ble_eq_true rfl) rfl ?_
  refine m_aload_n X dX5_resume_20 rfl rfl ?_
  refine m_getf X dX5_resume_21 fl_X5_10 rfl rfl rfl ?_
  refine m_cV0 X dX5_resume_24 lk_X5_160 mk_X1_goOn in_X1_goOn se_X1_goOn rfl rfl (c_X1_goOn hk.1 hk.2.1 hk.2.2.1 (hk.2.2.2.1 (by rw [h0]; decide))) rfl (Nat.le_of_ble_eq_true rfl) (Nat.le_of_ble_eq_true rfl) (Nat.le_of_ble_eq_true rfl) (Nat.le_of_ble_eq_true rfl) (Nat.le_of_ble_eq_true rfl) rfl ?_
  refine m_aload_n X dX5_resume_27 rfl rfl ?_
  refine m_getf X dX5_resume_28 fl_X5_10 rfl rfl rfl ?_
  refine m_getf (v := .int ((sGoOnV v) 10)) X dX5_resume_31 fl_X5_43 rfl rfl rfl ?_
  exact m_iret X dX5_resume_34 rfl (rfl) (Nat.le_of_ble_eq_true rfl) (Nat.le_of_ble_eq_true rfl) rfl
theorem x_X5_resume {v : m_V} {a : m_R} {x : Int64} {t : m_H} (h0 : ¬ v 10 = 6) : m_Ctr Mx_X5_resume [.ref 0] (hC v a x t) (.inr ("java/lang/IllegalStateException", hC v a x t)) := by
  refine m_intro (by decide +kernel) (Nat.le_of_ble_eq_true rfl) (fun X => ?_)
  refine m_aload_n X dX5_resume_0 rfl rfl ?_
  refine m_getf X dX5_resume_1 fl_X5_10 rfl rfl rfl ?_
  refine m_getf (v := .int (v 10)) X dX5_resume_4 fl_X5_43 rfl rfl rfl ?_
  refine m_bipush (v := (6)) X dX5_resume_7 (by decide) rfl ?_
  refine m_icmp_ne (tgt := 16) X dX5_resume_9 (by decide) rfl (fun b9 => ?_) (fun b9 => absurd b9 (h0))
  refine m_iconst (v := 0) X dX5_resume_16 (by decide) rfl ?_
  exact m_tS1 (M := Mx_X5_needState) X dX5_resume_17 ll_X5_61 mkx_X5_needState st_X5_needState (x_X5_needState rfl) rfl (Nat.le_of_ble_eq_true rfl) (Nat.le_of_ble_eq_true rfl) (Nat.le_of_ble_eq_true rfl) (Nat.le_of_ble_eq_true rfl) (Nat.le_of_ble_eq_true rfl) rfl rfl (rfl) (Nat.le_of_ble_eq_true rfl) (Nat.le_of_ble_eq_true rfl)
theorem c_X5_abort {v : m_V} {a : m_R} {x : Int64} {t : m_H} (h0 : ¬ v 10 = 0) (hk : kI v a) : m_Ctr M_X5_abort [.ref 0] (hC v a x t) (.inl (some (.int (if v 18 = 0 then 0 else sAmt v)), hC (sEnter v 0) (if v 18 = 0 then a else sBook v a) x t)) := by
  refine m_intro (by decide +kernel) (Nat.le_of_ble_eq_true rfl) (fun X => ?_)
  refine m_aload_n X dX5_abort_0 rfl rfl ?_
  refine m_getf X dX5_abort_1 fl_X5_10 rfl rfl rfl ?_
  refine m_getf (v := .int (v 10)) X dX5_abort_4 fl_X5_43 rfl rfl rfl ?_
  refine m_if_eq (tgt := 14) X dX5_abort_7 (by decide) rfl (fun b7 => absurd b7 (h0)) (fun b7 => ?_)
  refine m_iconst (v := 1) X dX5_abort_10 (by decide) rfl ?_
  refine m_goto (tgt := 15) X dX5_abort_11 (by decide) rfl ?_
  refine m_cS1 X dX5_abort_15 lk_X5_61 mk_X5_needState st_X5_needState (c_X5_needState (by decide)) rfl (Nat.le_of_ble_eq_true rfl) (Nat.le_of_ble_eq_true rfl) (Nat.le_of_ble_eq_true rfl) (Nat.le_of_ble_eq_true rfl) (Nat.le_of_ble_eq_true rfl) rfl ?_
  refine m_aload_n X dX5_abort_18 rfl rfl ?_
  refine m_getf X dX5_abort_19 fl_X5_10 rfl rfl rfl ?_
  refine m_cV0 X dX5_abort_22 lk_X5_163 mk_X1_breakOff in_X1_breakOff se_X1_breakOff rfl rfl (c_X1_breakOff hk.1 hk.2.1 hk.2.2.1 (hk.2.2.2.1 h0)) rfl (Nat.le_of_ble_eq_true rfl) (Nat.le_of_ble_eq_true rfl) (Nat.le_of_ble_eq_true rfl) (Nat.le_of_ble_eq_true rfl) (Nat.le_of_ble_eq_true rfl) rfl ?_
  exact m_iret X dX5_abort_25 rfl (rfl) (Nat.le_of_ble_eq_true rfl) (Nat.le_of_ble_eq_true rfl) rfl
theorem x_X5_abort {v : m_V} {a : m_R} {x : Int64} {t : m_H} (h0 : v 10 = 0) : m_Ctr Mx_X5_abort [.ref 0] (hC v a x t) (.inr ("java/lang/IllegalStateException", hC v a x t)) := by
  refine m_intro (by decide +kernel) (Nat.le_of_ble_eq_true rfl) (fun X => ?_)
  refine m_aload_n X dX5_abort_0 rfl rfl ?_
  refine m_getf X dX5_abort_1 fl_X5_10 rfl rfl rfl ?_
  refine m_getf (v := .int (v 10)) X dX5_abort_4 fl_X5_43 rfl rfl rfl ?_
  refine m_if_eq (tgt := 14) X dX5_abort_7 (by decide) rfl (fun b7 => ?_) (fun b7 => absurd b7 (not_not_intro h0))
  refine m_iconst (v := 0) X dX5_abort_14 (by decide) rfl ?_
  exact m_tS1 (M := Mx_X5_needState) X dX5_abort_15 ll_X5_61 mkx_X5_needState st_X5_needState (x_X5_needState rfl) rfl (Nat.le_of_ble_eq_true rfl) (Nat.le_of_ble_eq_true rfl) (Nat.le_of_ble_eq_true rfl) (Nat.le_of_ble_eq_true rfl) (Nat.le_of_ble_eq_true rfl) rfl rfl (rfl) (Nat.le_of_ble_eq_true rfl) (Nat.le_of_ble_eq_true rfl)
theorem c_X5_state {v : m_V} {a : m_R} {x : Int64} {t : m_H}  : m_Ctr M_X5_state [.ref 0] (hC v a x t) (.inl (some (.int (v 10)), hC v a x t)) := by
  refine m_intro (by decide +kernel) (Nat.le_of_ble_eq_true rfl) (fun X => ?_)
  refine m_aload_n X dX5_state_0 rfl rfl ?_
  refine m_getf X dX5_state_1 fl_X5_10 rfl rfl rfl ?_
  refine m_getf (v := .int (v 10)) X dX5_state_4 fl_X5_43 rfl rfl rfl ?_
  exact m_iret X dX5_state_7 rfl (rfl) (Nat.le_of_ble_eq_true rfl) (Nat.le_of_ble_eq_true rfl) rfl
theorem c_X5_alarm {v : m_V} {a : m_R} {x : Int64} {t : m_H}  : m_Ctr M_X5_alarm [.ref 0] (hC v a x t) (.inl (some (.int (v 11)), hC v a x t)) := by
  refine m_intro (by decide +kernel) (Nat.le_of_ble_eq_true rfl) (fun X => ?_)
  refine m_aload_n X dX5_alarm_0 rfl rfl ?_
  refine m_getf X dX5_alarm_1 fl_X5_10 rfl rfl rfl ?_
  refine m_getf (v := .int (v 11)) X dX5_alarm_4 fl_X5_166 rfl rfl rfl ?_
  exact m_iret X dX5_alarm_7 rfl (rfl) (Nat.le_of_ble_eq_true rfl) (Nat.le_of_ble_eq_true rfl) rfl
theorem c_X5_step {v : m_V} {a : m_R} {x : Int64} {t : m_H}  : m_Ctr M_X5_step [.ref 0] (hC v a x t) (.inl (some (.int (if v 10 = 0 then -1 else v 15)), hC v a x t)) := by
  refine m_intro (by decide +kernel) (Nat.le_of_ble_eq_true rfl) (fun X => ?_)
  refine m_aload_n X dX5_step_0 rfl rfl ?_
  refine m_getf X dX5_step_1 fl_X5_10 rfl rfl rfl ?_
  refine m_getf (v := .int (v 10)) X dX5_step_4 fl_X5_43 rfl rfl rfl ?_
  refine m_if_ne (tgt := 14) X dX5_step_7 (by decide) rfl (fun b7 => ?_) (fun b7 => ?_)
  · refine m_aload_n X dX5_step_14 rfl rfl ?_
    refine m_getf X dX5_step_15 fl_X5_10 rfl rfl rfl ?_
    refine m_getf (v := .int (v 15)) X dX5_step_18 fl_X5_169 rfl rfl rfl ?_
    exact m_iret X dX5_step_21 rfl (by rw [if_neg b7]) (Nat.le_of_ble_eq_true rfl) (Nat.le_of_ble_eq_true rfl) rfl
  · refine m_iconst (v := (-1)) X dX5_step_10 (by decide) rfl ?_
    refine m_goto (tgt := 21) X dX5_step_11 (by decide) rfl ?_
    exact m_iret X dX5_step_21 rfl (by rw [if_pos b7]) (Nat.le_of_ble_eq_true rfl) (Nat.le_of_ble_eq_true rfl) rfl
theorem c_X5_jogs {v : m_V} {a : m_R} {x : Int64} {t : m_H}  : m_Ctr M_X5_jogs [.ref 0] (hC v a x t) (.inl (some (.int (if v 10 = 0 then 0 else v 16)), hC v a x t)) := by
  refine m_intro (by decide +kernel) (Nat.le_of_ble_eq_true rfl) (fun X => ?_)
  refine m_aload_n X dX5_jogs_0 rfl rfl ?_
  refine m_getf X dX5_jogs_1 fl_X5_10 rfl rfl rfl ?_
  refine m_getf (v := .int (v 10)) X dX5_jogs_4 fl_X5_43 rfl rfl rfl ?_
  refine m_if_ne (tgt := 14) X dX5_jogs_7 (by decide) rfl (fun b7 => ?_) (fun b7 => ?_)
  · refine m_aload_n X dX5_jogs_14 rfl rfl ?_
    refine m_getf X dX5_jogs_15 fl_X5_10 rfl rfl rfl ?_
    refine m_getf (v := .int (v 16)) X dX5_jogs_18 fl_X5_172 rfl rfl rfl ?_
    exact m_iret X dX5_jogs_21 rfl (by rw [if_neg b7]) (Nat.le_of_ble_eq_true rfl) (Nat.le_of_ble_eq_true rfl) rfl
  · refine m_iconst (v := 0) X dX5_jogs_10 (by decide) rfl ?_
    refine m_goto (tgt := 21) X dX5_jogs_11 (by decide) rfl ?_
    exact m_iret X dX5_jogs_21 rfl (by rw [if_pos b7]) (Nat.le_of_ble_eq_true rfl) (Nat.le_of_ble_eq_true rfl) rfl
theorem c_X5_batches {v : m_V} {a : m_R} {x : Int64} {t : m_H}  : m_Ctr M_X5_batches [.ref 0] (hC v a x t) (.inl (some (.int (v 20)), hC v a x t)) := by
  refine m_intro (by decide +kernel) (Nat.le_of_ble_eq_true rfl) (fun X => ?_)
  refine m_aload_n X dX5_batches_0 rfl rfl ?_
  refine m_getf X dX5_batches_1 fl_X5_10 rfl rfl rfl ?_
  refine m_getf (v := .int (v 20)) X dX5_batches_4 fl_X5_132 rfl rfl rfl ?_
  exact m_iret X dX5_batches_7 rfl (rfl) (Nat.le_of_ble_eq_true rfl) (Nat.le_of_ble_eq_true rfl) rfl
theorem c_X5_done {v : m_V} {a : m_R} {x : Int64} {t : m_H}  : m_Ctr M_X5_done [.ref 0] (hC v a x t) (.inl (some (.int (v 21)), hC v a x t)) := by
  refine m_intro (by decide +kernel) (Nat.le_of_ble_eq_true rfl) (fun X => ?_)
  refine m_aload_n X dX5_done_0 rfl rfl ?_
  refine m_getf X dX5_done_1 fl_X5_10 rfl rfl rfl ?_
  refine m_getf (v := .int (v 21)) X dX5_done_4 fl_X5_175 rfl rfl rfl ?_
  exact m_iret X dX5_done_7 rfl (rfl) (Nat.le_of_ble_eq_true rfl) (Nat.le_of_ble_eq_true rfl) rfl
theorem c_X5_belt {v : m_V} {a : m_R} {x : Int64} {t : m_H} {d g n : Int32} (hl : 0 ≤ d ∧ d ≤ 10000) (hs : 0 ≤ g ∧ g ≤ 1000) (hn : 1 ≤ n ∧ n ≤ 100) : m_Ctr M_X5_belt [.ref 0, .int d, .int g, .int n] (hC v a x t) (.inl (some (.long ((x + d.toInt64 * g.toInt64 * n.toInt64) / 1000)), hC v a (x + d.toInt64 * g.toInt64 * n.toInt64) t)) := by
  refine m_intro (by decide +kernel) (Nat.le_of_ble_eq_true rfl) (fun X => ?_)
  refine m_iload_n X dX5_belt_0 rfl rfl ?_
  refine m_iconst (v := 0) X dX5_belt_1 (by decide) rfl ?_
  refine m_sipush (v := (10000)) X dX5_belt_2 (by decide) rfl ?_
  refine m_cS3 X dX5_belt_5 lk_X5_47 mk_X5_isWithin st_X5_isWithin (c_X5_isWithin) rfl (Nat.le_of_ble_eq_true rfl) (Nat.le_of_ble_eq_true rfl) (Nat.le_of_ble_eq_true rfl) (Nat.le_of_ble_eq_true rfl) (Nat.le_of_ble_eq_true rfl) rfl ?_
  refine m_if_eq (tgt := 26) X dX5_belt_8 (by decide) rfl (fun b8 => absurd b8 ((by rw [bi_t hl]; decide))) (fun b8 => ?_)
  refine m_iload_n X dX5_belt_11 rfl rfl ?_
  refine m_iconst (v := 0) X dX5_belt_12 (by decide) rfl ?_
  refine m_sipush (v := (1000)) X dX5_belt_13 (by decide) rfl ?_
  refine m_cS3 X dX5_belt_16 lk_X5_47 mk_X5_isWithin st_X5_isWithin (c_X5_isWithin) rfl (Nat.le_of_ble_eq_true rfl) (Nat.le_of_ble_eq_true rfl) (Nat.le_of_ble_eq_true rfl) (Nat.le_of_ble_eq_true rfl) (Nat.le_of_ble_eq_true rfl) rfl ?_
  refine m_if_eq (tgt := 26) X dX5_belt_19 (by decide) rfl (fun b19 => absurd b19 ((by rw [bi_t hs]; decide))) (fun b19 => ?_)
  refine m_iconst (v := 1) X dX5_belt_22 (by decide) rfl ?_
  refine m_goto (tgt := 27) X dX5_belt_23 (by decide) rfl ?_
  refine m_cS1 X dX5_belt_27 lk_X5_51 mk_X5_needArgument st_X5_needArgument (c_X5_needArgument (by decide)) rfl (Nat.le_of_ble_eq_true rfl) (Nat.le_of_ble_eq_true rfl) (Nat.le_of_ble_eq_true rfl) (Nat.le_of_ble_eq_true rfl) (Nat.le_of_ble_eq_true rfl) rfl ?_
  refine m_iload_n X dX5_belt_30 rfl rfl ?_
  refine m_iconst (v := 1) X dX5_belt_31 (by decide) rfl ?_
  refine m_bipush (v := (100)) X dX5_belt_32 (by decide) rfl ?_
  refine m_cS3 X dX5_belt_34 lk_X5_47 mk_X5_isWithin st_X5_isWithin (c_X5_isWithin) rfl (Nat.le_of_ble_eq_true rfl) (Nat.le_of_ble_eq_true rfl) (Nat.le_of_ble_eq_true rfl) (Nat.le_of_ble_eq_true rfl) (Nat.le_of_ble_eq_true rfl) rfl ?_
  refine m_cS1 X dX5_belt_37 lk_X5_51 mk_X5_needArgument st_X5_needArgument (c_X5_needArgument (by rw [bi_t hn]; decide)) rfl (Nat.le_of_ble_eq_true rfl) (Nat.le_of_ble_eq_true rfl) (Nat.le_of_ble_eq_true rfl) (Nat.le_of_ble_eq_true rfl) (Nat.le_of_ble_eq_true rfl) rfl ?_
  refine m_aload_n X dX5_belt_40 rfl rfl ?_
  refine m_dup X dX5_belt_41 rfl rfl ?_
  refine m_getf X dX5_belt_42 fl_X5_178 rfl rfl rfl ?_
  refine m_iload_n X dX5_belt_45 rfl rfl ?_
  refine m_i2l X dX5_belt_46 rfl ?_
  refine m_iload_n X dX5_belt_47 rfl rfl ?_
  refine m_i2l X dX5_belt_48 rfl ?_
  refine m_lmul X dX5_belt_49 rfl ?_
  refine m_iload_n X dX5_belt_50 rfl rfl ?_
  refine m_i2l X dX5_belt_51 rfl ?_
  refine m_lmul X dX5_belt_52 rfl ?_
  refine m_ladd X dX5_belt_53 rfl ?_
  refine m_plC X dX5_belt_54 fl_X5_178 fp_X5_5 rfl rfl rfl rfl ?_
  refine m_aload_n X dX5_belt_57 rfl rfl ?_
  refine m_getf X dX5_belt_58 fl_X5_178 rfl rfl rfl ?_
  refine m_ldc2 X dX5_belt_61 cs_X5_182 rfl ?_
  refine m_ldiv X dX5_belt_64 (by decide) rfl ?_
  exact m_lret X dX5_belt_65 rfl (rfl) (Nat.le_of_ble_eq_true rfl) (Nat.le_of_ble_eq_true rfl) rfl
end MF
end
section
section MPC
/-- the outcome is one that P describes -/
def m_QP (D : va_G) (cI cL : ClassId) (ad : Nat → Nat) (n0 : Nat) (A : Nat → Prop) (P : Option Value → m_H → Prop) : Array Value → State → Outcome → State → Prop := fun a st oc t => ∃ (v : Option Value) (hf : m_H), P v hf ∧ m_Q D cI cL ad n0 A (.inl (v, hf)) a st oc t
def m_XN : String → State → State → Prop := fun _ _ _ => False
abbrev m_VP (D : va_G) (cI cL : ClassId) (ad : Nat → Nat) (n0 : Nat) (A : Nat → Prop) (P : Option Value → m_H → Prop) (below : List Frame) (args : Array Value) (s : State) (mc ms : Nat) : State → Prop := vx_MQ below (m_QP D cI cL ad n0 A P) m_XN args s mc ms A
abbrev m_Ex : Type := (Nat → Prop) → (Nat → Nat) → State → Prop
def m_No : m_Ex := fun _ _ _ => True
/-- the script: an array that is no cell of the mini heap, under a number that no cell has -/
def m_BI : Nat := 1000000
def m_Sc (L : Nat) (xs : Nat → Int32) : m_Ex := fun A ad U => va_X (ad m_BI) L xs U U.heap ∧ ad m_BI < U.heap.size ∧ ¬ A (ad m_BI)
def m_Bl (Ex : m_Ex) : Prop := ∀ (A : Nat → Prop) (ad : Nat → Nat) (U : State) (g : JFrame) (mk : MethodId) (a : Array Value), Ex A ad U → Ex A ad (U.calling g mk a)
theorem m_Bl_No : m_Bl m_No := fun _ _ _ _ _ _ h => h
theorem m_Bl_Sc {L : Nat} {xs : Nat → Int32} : m_Bl (m_Sc L xs) := fun A ad U g mk a h => ⟨va_X.moved (u := U) (U := U.calling g mk a) (Vm.Alike.refl U.vm) h.1, h.2.1, h.2.2⟩
def m_PreG (D : va_G) (cI cL : ClassId) (sa ad : Nat → Nat) (h : m_H) (sz : Nat) (as : List Value) (Ex : m_Ex) : Array Value → State → Prop := fun av U => m_Pre D cI cL sa ad h sz as av U ∧ Ex (va_A (m_w cI cL ad h) sz) ad U
theorem m_blindG {D : va_G} {cI cL : ClassId} {sa ad : Nat → Nat} {h : m_H} {sz : Nat} {as : List Value} {Ex : m_Ex} (hB : m_Bl Ex) : FrameBlind (m_PreG D cI cL sa ad h sz as Ex) := fun a U g mk q => ⟨m_blind a U g mk q.1, hB _ _ _ _ _ _ q.2⟩
def m_CtrG (M : m_M) (ws : List Cond) (as : List Value) (h : m_H) (Ex : m_Ex) (P : Option Value → m_H → Prop) : Prop := ∀ (l : Launch) (D : va_G) (cI cL : ClassId) (sa ad : Nat → Nat) (sz : Nat), l.stackTraces = false →
  vx_Met l (m_My M) ws (m_rm M) (m_PreG D cI cL sa ad h sz as Ex) (m_QP D cI cL ad h.length (va_A (m_w cI cL ad h) sz) P) m_XN (m_Mc M) (m_Ms M) (va_A (m_w cI cL ad h) sz)
abbrev m_CtrP (M : m_M) (as : List Value) (h : m_H) (P : Option Value → m_H → Prop) : Prop := m_CtrG M (m_Ws M) as h m_No P
theorem m_CtrP_of {M : m_M} {as : List Value} {h h' : m_H} {v : Option Value} {P : Option Value → m_H → Prop} (hC : m_Ctr M as h (.inl (v, h'))) (hP : P v h') : m_CtrP M as h P := fun l D cI cL sa ad sz hl =>
  MetFree.mono (hC l D cI cL sa ad sz hl) (fun _ _ h => h.1) (fun _ _ _ _ _ h => h) (fun a st o t _ hq => by
    rcases hq with ⟨h1, L, h2, h3⟩ | ⟨q, ho, E, ce, L, hx, -⟩
    · exact Or.inl ⟨⟨v, h', hP, h1⟩, L, h2, h3⟩
    · obtain ⟨hf, ad', he, -⟩ := hx
      cases he)
theorem m_CtrP_mono {M : m_M} {as : List Value} {h : m_H} {P P' : Option Value → m_H → Prop} (hC : m_CtrP M as h P) (hP : ∀ v h', P v h' → P' v h') : m_CtrP M as h P' := fun l D cI cL sa ad sz hl =>
  MetFree.mono (hC l D cI cL sa ad sz hl) (fun _ _ h => h) (fun _ _ _ _ _ h => h) (fun a st o t _ hq => by
    rcases hq with ⟨⟨v, hf, h0, h1⟩, L, h2, h3⟩ | ⟨q, ho, E, ce, L, hx, -⟩
    · exact Or.inl ⟨⟨v, hf, hP v hf h0, h1⟩, L, h2, h3⟩
    · exact hx.elim)
theorem m_metG {M : m_M} {ws : List Cond} {as : List Value} {h : m_H} {Ex : m_Ex} {P : Option Value → m_H → Prop} (hC : m_CtrG M ws as h Ex P) (l : Launch) (D : va_G) (cI cL : ClassId) (sa ad : Nat → Nat) (sz : Nat) (hl : l.stackTraces = false) :
    Met l (m_My M) ws (m_rm M) (m_PreG D cI cL sa ad h sz as Ex) (m_QP D cI cL ad h.length (va_A (m_w cI cL ad h) sz) P) (m_Mc M) (m_Ms M) (va_A (m_w cI cL ad h) sz) :=
  MetFree.mono (hC l D cI cL sa ad sz hl) (fun _ _ h => h) (fun _ _ _ _ _ h => h) (fun a st o t _ hq => by
    rcases hq with ⟨h1, L, h2, h3⟩ | ⟨q, ho, E, ce, L, hx, -⟩
    · exact ⟨h1, L, h2, h3⟩
    · exact hx.elim)
theorem m_introG {M : m_M} {as : List Value} {h : m_H} {Ex : m_Ex} {P : Option Value → m_H → Prop} (hy : plainName (m_My M).cls = true) (hsz : (lg_sl as).length ≤ m_Ml M)
    (body : ∀ {D : va_G} {cI cL : ClassId} {sa : Nat → Nat} {A : Nat → Prop} {p : Program} {l : Launch} {e : Env} {s : State} {m : MethodId} {args : Array Value} {below : List Frame} {meth : Method} {c : Code} {ad : Nat → Nat}, m_At D cI cL sa (m_My M) (m_Mb M) (m_Ml M) (m_Mr M) A [] p l s m args meth c → Ex A ad s →
      m_Go D cI cL ad h.length (m_Ml M) A p l e (m_rm M) s m args below meth c (m_VP D cI cL ad h.length A P below args s (m_Mc M) (m_Ms M)) 0 (lv_args 0 as) [] h 0 0) : m_CtrG M (m_Ws M) as h Ex P := by
  intro l D cI cL sa ad sz hl
  refine vx_ofW (cc := m_Mb M) (maxL := m_Ml M) (ret := m_Mr M) hy rfl ?_
  intro p e s m args below meth c s₁ B hml ht hv
  obtain ⟨⟨rfl, hsz9, hP, hD0, hK, hE⟩, hX9⟩ := hv
  subst hsz9
  have hD := hD0.self (sz := s.heap.size)
  have hts := atoms_spec (ws := m_Ws M) B.pre
  have X : m_At D cI cL sa (m_My M) (m_Mb M) (m_Ml M) (m_Mr M) (va_A (m_w cI cL ad h) s.heap.size) [] p l s m (as.map (m_v ad)).toArray meth c :=
    ⟨B.exec, B.bytes, hml, B.returns, B.notSynchronized, (name_of_methodNamed B.named B.method).1, findClass_of_methodNamed B.named, fun w hw => hts w (List.mem_cons_of_mem _ hw), hK, hE, fun q hq => Or.inr hq, hl, List.eq_nil_iff_forall_not_mem.mpr ht⟩
  have hl9 := lv_entry (as.map (m_v ad)) (n := m_Ml M) (by rw [m_lsl]; exact hsz)
  rw [m_largs] at hl9
  rw [lg_entry_eq]
  exact body X hX9 ad s.heap [] _ (Nat.le_refl _) (fun _ _ => rfl) hP hD va_S.rf hl9
theorem m_introGH {M : m_M} {hh : List (Nat × Nat × Nat × Nat)} {as : List Value} {h : m_H} {Ex : m_Ex} {P : Option Value → m_H → Prop} (hy : plainName (m_My M).cls = true) (hsz : (lg_sl as).length ≤ m_Ml M)
    (body : ∀ {D : va_G} {cI cL : ClassId} {sa : Nat → Nat} {A : Nat → Prop} {p : Program} {l : Launch} {e : Env} {s : State} {m : MethodId} {args : Array Value} {below : List Frame} {meth : Method} {c : Code} {ad : Nat → Nat}, m_At D cI cL sa (m_My M) (m_Mb M) (m_Ml M) (m_Mr M) A (tableOf hh) p l s m args meth c → Ex A ad s →
      m_Go D cI cL ad h.length (m_Ml M) A p l e (m_rm M) s m args below meth c (m_VP D cI cL ad h.length A P below args s (m_Mc M) (m_Ms M)) 0 (lv_args 0 as) [] h 0 0) : m_CtrG M (m_WsH M hh) as h Ex P := by
  intro l D cI cL sa ad sz hl
  refine vx_ofWH (cc := m_Mb M) (maxL := m_Ml M) (ret := m_Mr M) (hh := hh) hy rfl ?_
  intro p e s m args below meth c s₁ B hml hv
  obtain ⟨⟨rfl, hsz9, hP, hD0, hK, hE⟩, hX9⟩ := hv
  subst hsz9
  have hD := hD0.self (sz := s.heap.size)
  have hts := atoms_spec (ws := m_WsH M hh) B.pre
  have X : m_At D cI cL sa (m_My M) (m_Mb M) (m_Ml M) (m_Mr M) (va_A (m_w cI cL ad h) s.heap.size) (tableOf hh) p l s m (as.map (m_v ad)).toArray meth c :=
    ⟨B.exec, B.bytes, hml, B.returns, B.notSynchronized, (name_of_methodNamed B.named B.method).1, findClass_of_methodNamed B.named, fun w hw => hts w (List.mem_cons_of_mem _ hw), hK, hE, fun q hq => Or.inr hq, hl, vx_table (x := m_My M) B (hts _ List.mem_cons_self)⟩
  have hl9 := lv_entry (as.map (m_v ad)) (n := m_Ml M) (by rw [m_lsl]; exact hsz)
  rw [m_largs] at hl9
  rw [lg_entry_eq]
  exact body X hX9 ad s.heap [] _ (Nat.le_refl _) (fun _ _ => rfl) hP hD va_S.rf hl9
variable {D : va_G} {cI cL : ClassId} {sa : Nat → Nat} {y : MethodName} {cc : ByteArray} {nL : Nat} {ret : Option FieldType} {A : Nat → Prop} {TB : List ExceptionTableEntry} {p : Program} {l : Launch} {e : Env} {R : Room} {s : State} {m : MethodId} {args : Array Value} {below : List Frame} {meth : Method} {c : Code} {Q : State → Prop} {ad0 : Nat → Nat} {n0 pc pc0 : Nat} {ls : List (Nat × Value)} {st : List Value} {h : m_H} {cu su : Nat} {P : Option Value → m_H → Prop} {mc ms : Nat}
/-- an end that P allows -/
theorem m_toP {v : Option Value} {hf : m_H} (hPv : P v hf) (k : m_Go D cI cL ad0 n0 nL A p l e R s m args below meth c (m_VQ D cI cL ad0 n0 A (.inl (v, hf)) below args s mc ms) pc ls st h cu su) : m_Go D cI cL ad0 n0 nL A p l e R s m args below meth c (m_VP D cI cL ad0 n0 A P below args s mc ms) pc ls st h cu su := by
  intro ad H locs lsA hn hag hP hD hS hL T hT X9
  obtain ⟨t, a1, o, b1, b2, b3⟩ := k ad H locs lsA hn hag hP hD hS hL T hT X9
  refine ⟨t, a1, o, b1, b2, ?_⟩
  rcases b3 with ⟨b3, b4⟩ | ⟨q, ho, E, ce, L, hx, -⟩
  · exact Or.inl ⟨⟨v, hf, hPv, b3⟩, b4⟩
  · obtain ⟨hf', ad', he, -⟩ := hx
    cases he
theorem m_afterP {rest stA : List Value} {ad : Nat → Nat} {H : Heap} {locs : List Loc} {lsA : Array Slot} {mc2 ms2 : Nat} {a2 : Array Value} (X : m_At D cI cL sa y cc nL ret A TB p l s m args meth c)
    (hr : va_Run p l e R s m args below meth c H locs cu su mc2 ms2 (F0 m pc lsA stA) (rest.map (m_v ad)) (m_QP D cI cL ad h.length (va_A (m_w cI cL ad h) H.size) P a2) (va_A (m_w cI cL ad h) H.size)) (hlen : ∀ v h', P v h' → h'.length = h.length)
    (hn : n0 ≤ h.length) (hag : ∀ i, (i < n0 ∨ h.length ≤ i) → ad i = ad0 i) (hD : va_D A (m_w cI cL ad h)) (hS : va_S A s.heap H locs) (hL : lv_has lsA nL (ls.map (fun q => (q.1, m_v ad q.2))))
    (kk : ∀ (v : Option Value) (h' : m_H), P v h' → m_Go D cI cL ad0 n0 nL A p l e R s m args below meth c Q (pc + 3) ls (v.toList ++ rest) h' (cu + mc2) (su + ms2)) : W p l e R s m args below meth c H locs cu su Q (F0 m pc lsA stA) := by
  intro T hT XX
  obtain ⟨v9, st₀, t, T', L, h0, X', hL', e1, e2, ⟨vP, hf, hPv, vv, hf2, ad', he, hoc, hn', hag', hP', hD', hF⟩, st9⟩ := hr T hT XX
  cases he
  cases hoc
  have hl9 := hlen _ _ hPv
  have had : ad' = ad := m_ag (n := h.length) (fun i hi => hag' i (by rw [hl9]; exact hi))
  subst had
  have hAB := m_AB X hD hS
  obtain ⟨k1, k2, k3⟩ := vx_keep h0 e1 hS (fun q _ hq => hAB q hq) hAB hL' hF
  obtain ⟨t2, a1, b1⟩ := kk _ _ hPv ad' T'.heap (locs ++ L) lsA (by rw [hl9]; exact hn) (by rw [hl9]; exact hag) (by rw [e1]; exact hP') (hD'.weaken (fun _ q _ hq => hAB q.1 hq)) k3 hL T' rfl X'
  refine ⟨t2, st9 t2 ?_, b1⟩
  rw [m_optmap]
  exact a1
theorem m_afterPA {rest stA : List Value} {ad : Nat → Nat} {H : Heap} {locs : List Loc} {lsA : Array Slot} {mc2 ms2 : Nat} {a2 : Array Value} (X : m_At D cI cL sa y cc nL ret A TB p l s m args meth c)
    (hr : va_Run p l e R s m args below meth c H locs cu su mc2 ms2 (F0 m pc lsA stA) (rest.map (m_v ad)) (m_QP D cI cL ad h.length (va_A (m_w cI cL ad h) H.size) P a2) (va_A (m_w cI cL ad h) H.size)) (hlen : ∀ v h', P v h' → h.length ≤ h'.length) (hrb : m_rb h.length ls rest = true)
    (hn : n0 ≤ h.length) (hag : ∀ i, (i < n0 ∨ h.length ≤ i) → ad i = ad0 i) (hD : va_D A (m_w cI cL ad h)) (hS : va_S A s.heap H locs) (hL : lv_has lsA nL (ls.map (fun q => (q.1, m_v ad q.2))))
    (kk : ∀ (v : Option Value) (h' : m_H), P v h' → m_Go D cI cL ad0 n0 nL A p l e R s m args below meth c Q (pc + 3) ls (v.toList ++ rest) h' (cu + mc2) (su + ms2)) : W p l e R s m args below meth c H locs cu su Q (F0 m pc lsA stA) := by
  simp only [m_rb, Bool.and_eq_true] at hrb
  intro T hT XX
  obtain ⟨v9, st₀, t, T', L, h0, X', hL', e1, e2, ⟨vP, hf, hPv, vv, hf2, ad', he, hoc, hn', hag', hP', hD', hF⟩, st9⟩ := hr T hT XX
  cases he
  cases hoc
  have hl9 := hlen _ _ hPv
  have ha : ∀ i, i < h.length → ad' i = ad i := fun i hi => hag' i (Or.inl hi)
  have hAB := m_AB X hD hS
  obtain ⟨k1, k2, k3⟩ := vx_keep h0 e1 hS (fun q _ hq => hAB q hq) hAB hL' hF
  obtain ⟨t2, a1, b1⟩ := kk _ _ hPv ad' T'.heap (locs ++ L) lsA (by omega) (fun i hi => (hag' i (by omega)).trans (hag i (by omega))) (by rw [e1]; exact hP') (hD'.weaken (fun _ q _ hq => hAB q.1 hq)) k3 (by rw [m_ls_same ha hrb.1]; exact hL) T' rfl X'
  refine ⟨t2, st9 t2 ?_, b1⟩
  rw [← m_st_same ha hrb.2, m_optmap]
  exact a1
theorem m_callG {M : m_M} {Ex : m_Ex} {rest : List Value} {k n : Nat} {as : List Value} (X : m_At D cI cL sa y cc nL ret A TB p l s m args meth c) (hd : decode cc pc0 = .ok (.invokestatic k, 3)) (hk : Cond.methodLink y.cls k (m_My M) ∈ m_ws) (hK : m_MK M n) (hst : Cond.static (m_My M) ∈ m_ws) (hC : m_CtrG M (m_Ws M) as h Ex P) (hBl : m_Bl Ex) (hEx : ∀ (ad : Nat → Nat) (H : Heap) (locs : List Loc), (∀ i, (i < n0 ∨ h.length ≤ i) → ad i = ad0 i) → va_D A (m_w cI cL ad h) → va_S A s.heap H locs → ∀ U : State, U.heap = H → s.WarmedH U.vm → Ex (va_A (m_w cI cL ad h) H.size) ad U) (hs9 : st = as.reverse ++ rest) (hn9 : as.length = n) (hlen : ∀ v h', P v h' → h'.length = h.length) (hro : (rest.map fun v => v.category).sum ≤ 8) (hrk : m_Mk M + 1 ≤ R.frames) (hrl : 8 + (m_Ml M + 11) + 32 * m_Mk M ≤ R.locals) (hcc : cu + m_Mc M ≤ R.cells) (hss : su + m_Ms M ≤ R.slots) (hp : pc = pc0)
    (kk : ∀ (v : Option Value) (h' : m_H), P v h' → m_Go D cI cL ad0 n0 nL A p l e R s m args below meth c Q (pc0 + 3) ls (v.toList ++ rest) h' (cu + m_Mc M) (su + m_Ms M)) : m_Go D cI cL ad0 n0 nL A p l e R s m args below meth c Q pc ls st h cu su := by
  subst hp
  subst hs9
  intro ad H locs lsA hn hag hP hD hS hL
  have hM := m_metG hC l D cI cL sa ad H.size (m_nt X)
  have hpre : PreS s H (m_PreG D cI cL sa ad h H.size as Ex) (as.map (m_v ad)) := ⟨m_blindG hBl, fun U hU hW => ⟨m_pre X hP hD hS U hU hW, hEx ad H locs hag hD hS U hU hW⟩⟩
  refine (fun hr => m_afterP X hr hlen hn hag hD hS hL kk) (?_ : va_Run p l e R s m args below meth c H locs cu su _ _ (F0 m pc lsA (((as.reverse ++ rest) : List Value).map (m_v ad))) (rest.map (m_v ad)) (m_QP D cI cL ad h.length (va_A (m_w cI cL ad h) H.size) P (as.map (m_v ad)).toArray) (va_A (m_w cI cL ad h) H.size))
  exact va_runS (m_fix X) hM ⟨callB_of n (m_wd X) (m_good hK) rfl rfl rfl (m_wd X _ hK.2.1) (m_wd X _ hk) hK.2.2 ⟨hrk, hrl⟩, m_wd X _ hst⟩ hpre rfl (by rw [List.length_map]; exact hn9) hL.1 (by simp [List.map_append, List.map_reverse]) (lv_room (by rw [m_v_cats]; exact hro)) hd ⟨hcc, hss⟩
theorem m_callGA {M : m_M} {Ex : m_Ex} {rest : List Value} {k n : Nat} {as : List Value} (X : m_At D cI cL sa y cc nL ret A TB p l s m args meth c) (hd : decode cc pc0 = .ok (.invokestatic k, 3)) (hk : Cond.methodLink y.cls k (m_My M) ∈ m_ws) (hK : m_MK M n) (hst : Cond.static (m_My M) ∈ m_ws) (hC : m_CtrG M (m_Ws M) as h Ex P) (hBl : m_Bl Ex) (hEx : ∀ (ad : Nat → Nat) (H : Heap) (locs : List Loc), (∀ i, (i < n0 ∨ h.length ≤ i) → ad i = ad0 i) → va_D A (m_w cI cL ad h) → va_S A s.heap H locs → ∀ U : State, U.heap = H → s.WarmedH U.vm → Ex (va_A (m_w cI cL ad h) H.size) ad U) (hs9 : st = as.reverse ++ rest) (hn9 : as.length = n) (hlen : ∀ v h', P v h' → h.length ≤ h'.length) (hrb : m_rb h.length ls rest = true) (hro : (rest.map fun v => v.category).sum ≤ 8) (hrk : m_Mk M + 1 ≤ R.frames) (hrl : 8 + (m_Ml M + 11) + 32 * m_Mk M ≤ R.locals) (hcc : cu + m_Mc M ≤ R.cells) (hss : su + m_Ms M ≤ R.slots) (hp : pc = pc0)
    (kk : ∀ (v : Option Value) (h' : m_H), P v h' → m_Go D cI cL ad0 n0 nL A p l e R s m args below meth c Q (pc0 + 3) ls (v.toList ++ rest) h' (cu + m_Mc M) (su + m_Ms M)) : m_Go D cI cL ad0 n0 nL A p l e R s m args below meth c Q pc ls st h cu su := by
  subst hp
  subst hs9
  intro ad H locs lsA hn hag hP hD hS hL
  have hM := m_metG hC l D cI cL sa ad H.size (m_nt X)
  have hpre : PreS s H (m_PreG D cI cL sa ad h H.size as Ex) (as.map (m_v ad)) := ⟨m_blindG hBl, fun U hU hW => ⟨m_pre X hP hD hS U hU hW, hEx ad H locs hag hD hS U hU hW⟩⟩
  refine (fun hr => m_afterPA X hr hlen hrb hn hag hD hS hL kk) (?_ : va_Run p l e R s m args below meth c H locs cu su _ _ (F0 m pc lsA (((as.reverse ++ rest) : List Value).map (m_v ad))) (rest.map (m_v ad)) (m_QP D cI cL ad h.length (va_A (m_w cI cL ad h) H.size) P (as.map (m_v ad)).toArray) (va_A (m_w cI cL ad h) H.size))
  exact va_runS (m_fix X) hM ⟨callB_of n (m_wd X) (m_good hK) rfl rfl rfl (m_wd X _ hK.2.1) (m_wd X _ hk) hK.2.2 ⟨hrk, hrl⟩, m_wd X _ hst⟩ hpre rfl (by rw [List.length_map]; exact hn9) hL.1 (by simp [List.map_append, List.map_reverse]) (lv_room (by rw [m_v_cats]; exact hro)) hd ⟨hcc, hss⟩
theorem m_callGHA {M : m_M} {hh : List (Nat × Nat × Nat × Nat)} {Ex : m_Ex} {rest : List Value} {k n : Nat} {as : List Value} (X : m_At D cI cL sa y cc nL ret A TB p l s m args meth c) (hd : decode cc pc0 = .ok (.invokestatic k, 3)) (hk : Cond.methodLink y.cls k (m_My M) ∈ m_ws) (hK : m_MKH M hh n) (hst : Cond.static (m_My M) ∈ m_ws) (hC : m_CtrG M (m_WsH M hh) as h Ex P) (hBl : m_Bl Ex) (hEx : ∀ (ad : Nat → Nat) (H : Heap) (locs : List Loc), (∀ i, (i < n0 ∨ h.length ≤ i) → ad i = ad0 i) → va_D A (m_w cI cL ad h) → va_S A s.heap H locs → ∀ U : State, U.heap = H → s.WarmedH U.vm → Ex (va_A (m_w cI cL ad h) H.size) ad U) (hs9 : st = as.reverse ++ rest) (hn9 : as.length = n) (hlen : ∀ v h', P v h' → h.length ≤ h'.length) (hrb : m_rb h.length ls rest = true) (hro : (rest.map fun v => v.category).sum ≤ 8) (hrk : m_Mk M + 1 ≤ R.frames) (hrl : 8 + (m_Ml M + 11) + 32 * m_Mk M ≤ R.locals) (hcc : cu + m_Mc M ≤ R.cells) (hss : su + m_Ms M ≤ R.slots) (hp : pc = pc0)
    (kk : ∀ (v : Option Value) (h' : m_H), P v h' → m_Go D cI cL ad0 n0 nL A p l e R s m args below meth c Q (pc0 + 3) ls (v.toList ++ rest) h' (cu + m_Mc M) (su + m_Ms M)) : m_Go D cI cL ad0 n0 nL A p l e R s m args below meth c Q pc ls st h cu su := by
  subst hp
  subst hs9
  intro ad H locs lsA hn hag hP hD hS hL
  have hM := m_metG hC l D cI cL sa ad H.size (m_nt X)
  have hpre : PreS s H (m_PreG D cI cL sa ad h H.size as Ex) (as.map (m_v ad)) := ⟨m_blindG hBl, fun U hU hW => ⟨m_pre X hP hD hS U hU hW, hEx ad H locs hag hD hS U hU hW⟩⟩
  have hG : GoodIn m_ws (m_WsH M hh) := fun w hw => by
    rcases List.mem_cons.mp hw with rfl | hw
    · exact ⟨hK.1, good_of_word (m_ws_good hK.1)⟩
    · exact ⟨hw, good_of_word (m_ws_good hw)⟩
  refine (fun hr => m_afterPA X hr hlen hrb hn hag hD hS hL kk) (?_ : va_Run p l e R s m args below meth c H locs cu su _ _ (F0 m pc lsA (((as.reverse ++ rest) : List Value).map (m_v ad))) (rest.map (m_v ad)) (m_QP D cI cL ad h.length (va_A (m_w cI cL ad h) H.size) P (as.map (m_v ad)).toArray) (va_A (m_w cI cL ad h) H.size))
  refine vx_runSW (hh := hh) (bytes := m_Mb M) (maxL := m_Ml M) (ret := m_Mr M) (n := n) (m_fix X) hM ⟨⟨rfl, rfl, hrk, hrl, pay_in (m_wd X) hG, List.mem_cons_self⟩, m_wd X _ hK.1, m_wd X _ hK.2.1, ⟨hK.2.2.1, hK.2.2.2.1⟩, fun sig h9 => ?_, m_wd X _ hk, m_wd X _ hst⟩ hpre rfl (by rw [List.length_map]; exact hn9) hL.1 (by simp [List.map_append, List.map_reverse]) (lv_room (by rw [m_v_cats]; exact hro)) hd ⟨hcc, hss⟩
  have h2 := hK.2.2.2.2
  rw [h9] at h2
  exact (Option.some.inj h2).symm
theorem m_pS1 {x0 : Value} {M : m_M} {rest : List Value} {k : Nat} (X : m_At D cI cL sa y cc nL ret A TB p l s m args meth c) (hd : decode cc pc0 = .ok (.invokestatic k, 3)) (hk : Cond.methodLink y.cls k (m_My M) ∈ m_ws) (hK : m_MK M 1) (hst : Cond.static (m_My M) ∈ m_ws) (hC : m_CtrP M [x0] h P) (hlen : ∀ v h', P v h' → h'.length = h.length) (hro : (rest.map fun v => v.category).sum ≤ 8) (hrk : m_Mk M + 1 ≤ R.frames) (hrl : 8 + (m_Ml M + 11) + 32 * m_Mk M ≤ R.locals) (hcc : cu + m_Mc M ≤ R.cells) (hss : su + m_Ms M ≤ R.slots) (hp : pc = pc0)
    (kk : ∀ (v : Option Value) (h' : m_H), P v h' → m_Go D cI cL ad0 n0 nL A p l e R s m args below meth c Q (pc0 + 3) ls (v.toList ++ rest) h' (cu + m_Mc M) (su + m_Ms M)) : m_Go D cI cL ad0 n0 nL A p l e R s m args below meth c Q pc ls (x0 :: rest) h cu su := m_callG X hd hk hK hst hC m_Bl_No (fun _ _ _ _ _ _ _ _ _ => trivial) rfl rfl hlen hro hrk hrl hcc hss hp kk
theorem m_pS7 {x0 x1 x2 x3 x4 x5 x6 : Value} {M : m_M} {rest : List Value} {k : Nat} (X : m_At D cI cL sa y cc nL ret A TB p l s m args meth c) (hd : decode cc pc0 = .ok (.invokestatic k, 3)) (hk : Cond.methodLink y.cls k (m_My M) ∈ m_ws) (hK : m_MK M 7) (hst : Cond.static (m_My M) ∈ m_ws) (hC : m_CtrP M [x0, x1, x2, x3, x4, x5, x6] h P) (hlen : ∀ v h', P v h' → h'.length = h.length) (hro : (rest.map fun v => v.category).sum ≤ 8) (hrk : m_Mk M + 1 ≤ R.frames) (hrl : 8 + (m_Ml M + 11) + 32 * m_Mk M ≤ R.locals) (hcc : cu + m_Mc M ≤ R.cells) (hss : su + m_Ms M ≤ R.slots) (hp : pc = pc0)
    (kk : ∀ (v : Option Value) (h' : m_H), P v h' → m_Go D cI cL ad0 n0 nL A p l e R s m args below meth c Q (pc0 + 3) ls (v.toList ++ rest) h' (cu + m_Mc M) (su + m_Ms M)) : m_Go D cI cL ad0 n0 nL A p l e R s m args below meth c Q pc ls (x6 :: x5 :: x4 :: x3 :: x2 :: x1 :: x0 :: rest) h cu su := m_callG X hd hk hK hst hC m_Bl_No (fun _ _ _ _ _ _ _ _ _ => trivial) rfl rfl hlen hro hrk hrl hcc hss hp kk
theorem m_pS8 {x0 x1 x2 x3 x4 x5 x6 x7 : Value} {M : m_M} {rest : List Value} {k : Nat} (X : m_At D cI cL sa y cc nL ret A TB p l s m args meth c) (hd : decode cc pc0 = .ok (.invokestatic k, 3)) (hk : Cond.methodLink y.cls k (m_My M) ∈ m_ws) (hK : m_MK M 8) (hst : Cond.static (m_My M) ∈ m_ws) (hC : m_CtrP M [x0, x1, x2, x3, x4, x5, x6, x7] h P) (hlen : ∀ v h', P v h' → h'.length = h.length) (hro : (rest.map fun v => v.category).sum ≤ 8) (hrk : m_Mk M + 1 ≤ R.frames) (hrl : 8 + (m_Ml M + 11) + 32 * m_Mk M ≤ R.locals) (hcc : cu + m_Mc M ≤ R.cells) (hss : su + m_Ms M ≤ R.slots) (hp : pc = pc0)
    (kk : ∀ (v : Option Value) (h' : m_H), P v h' → m_Go D cI cL ad0 n0 nL A p l e R s m args below meth c Q (pc0 + 3) ls (v.toList ++ rest) h' (cu + m_Mc M) (su + m_Ms M)) : m_Go D cI cL ad0 n0 nL A p l e R s m args below meth c Q pc ls (x7 :: x6 :: x5 :: x4 :: x3 :: x2 :: x1 :: x0 :: rest) h cu su := m_callG X hd hk hK hst hC m_Bl_No (fun _ _ _ _ _ _ _ _ _ => trivial) rfl rfl hlen hro hrk hrl hcc hss hp kk
theorem m_pS10 {x0 x1 x2 x3 x4 x5 x6 x7 x8 x9 : Value} {M : m_M} {rest : List Value} {k : Nat} (X : m_At D cI cL sa y cc nL ret A TB p l s m args meth c) (hd : decode cc pc0 = .ok (.invokestatic k, 3)) (hk : Cond.methodLink y.cls k (m_My M) ∈ m_ws) (hK : m_MK M 10) (hst : Cond.static (m_My M) ∈ m_ws) (hC : m_CtrP M [x0, x1, x2, x3, x4, x5, x6, x7, x8, x9] h P) (hlen : ∀ v h', P v h' → h'.length = h.length) (hro : (rest.map fun v => v.category).sum ≤ 8) (hrk : m_Mk M + 1 ≤ R.frames) (hrl : 8 + (m_Ml M + 11) + 32 * m_Mk M ≤ R.locals) (hcc : cu + m_Mc M ≤ R.cells) (hss : su + m_Ms M ≤ R.slots) (hp : pc = pc0)
    (kk : ∀ (v : Option Value) (h' : m_H), P v h' → m_Go D cI cL ad0 n0 nL A p l e R s m args below meth c Q (pc0 + 3) ls (v.toList ++ rest) h' (cu + m_Mc M) (su + m_Ms M)) : m_Go D cI cL ad0 n0 nL A p l e R s m args below meth c Q pc ls (x9 :: x8 :: x7 :: x6 :: x5 :: x4 :: x3 :: x2 :: x1 :: x0 :: rest) h cu su := m_callG X hd hk hK hst hC m_Bl_No (fun _ _ _ _ _ _ _ _ _ => trivial) rfl rfl hlen hro hrk hrl hcc hss hp kk
theorem m_scr {b L : Nat} {xs : Nat → Int32} (X : m_At D cI cL sa y cc nL ret A TB p l s m args meth c) (hX : va_X b L xs s s.heap) (hbl : b < s.heap.size) (hbA : ¬ A b) (hb9 : ad0 m_BI = b) (hB9 : h.length ≤ m_BI) (ad : Nat → Nat) (H : Heap) (locs : List Loc) (hag : ∀ i, (i < n0 ∨ h.length ≤ i) → ad i = ad0 i) (hD : va_D A (m_w cI cL ad h)) (hS : va_S A s.heap H locs) (U : State) (hU : U.heap = H) (hW : s.WarmedH U.vm) : m_Sc L xs (va_A (m_w cI cL ad h) H.size) ad U := by
  have e9 : ad m_BI = b := (hag m_BI (Or.inr hB9)).trans hb9
  unfold m_Sc
  rw [e9, hU]
  exact ⟨va_X.moved hW.alike (va_X.kept hX (hS.2.1 b hbl hbA)), Nat.lt_of_lt_of_le hbl hS.1, fun q => hbA (m_AB X hD hS b q)⟩
theorem m_sld {b L : Nat} {xs : Nat → Int32} {i : Int32} (X : m_At D cI cL sa y cc nL ret A TB p l s m args meth c) (hX : va_X b L xs s s.heap) (hbl : b < s.heap.size) (hbA : ¬ A b) (hb9 : ad0 m_BI = b) (hd : decode cc pc0 = .ok (.iaload, 1)) (hi : vp_in i L) (hB9 : h.length ≤ m_BI) (hp : pc = pc0)
    (kk : m_Go D cI cL ad0 n0 nL A p l e R s m args below meth c Q (pc0 + 1) ls (.int (xs i.toNatClampNeg) :: st) h cu su) : m_Go D cI cL ad0 n0 nL A p l e R s m args below meth c Q pc ls (.int i :: .ref m_BI :: st) h cu su := by
  subst hp
  intro ad H locs lsA hn hag hP hD hS hL
  have e9 : ad m_BI = b := (hag m_BI (Or.inr hB9)).trans hb9
  show W p l e R s m args below meth c H locs cu su Q (F0 m pc lsA (.int i :: .ref (ad m_BI) :: st.map (m_v ad)))
  rw [e9]
  exact va_sld (m_ex X) (m_cb X) hX hbl hbA hS hi hd (kk ad H locs lsA hn hag hP hD hS hL)
theorem m_slen {b L : Nat} {xs : Nat → Int32} (X : m_At D cI cL sa y cc nL ret A TB p l s m args meth c) (hX : va_X b L xs s s.heap) (hbl : b < s.heap.size) (hbA : ¬ A b) (hb9 : ad0 m_BI = b) (hd : decode cc pc0 = .ok (.arraylength, 1)) (hB9 : h.length ≤ m_BI) (hp : pc = pc0)
    (kk : m_Go D cI cL ad0 n0 nL A p l e R s m args below meth c Q (pc0 + 1) ls (.int (nI L) :: st) h cu su) : m_Go D cI cL ad0 n0 nL A p l e R s m args below meth c Q pc ls (.ref m_BI :: st) h cu su := by
  subst hp
  intro ad H locs lsA hn hag hP hD hS hL
  have e9 : ad m_BI = b := (hag m_BI (Or.inr hB9)).trans hb9
  show W p l e R s m args below meth c H locs cu su Q (F0 m pc lsA (.ref (ad m_BI) :: st.map (m_v ad)))
  rw [e9]
  exact va_slen (m_ex X) (m_cb X) hX hbl hbA hS hd (kk ad H locs lsA hn hag hP hD hS hL)
def m_rvB (n : Nat) : Value → Bool
  | .ref q => decide (q < n ∨ q = m_BI)
  | _ => true
def m_rbB (n : Nat) (ls : List (Nat × Value)) (st : List Value) : Bool := ls.all (fun q => m_rvB n q.2) && st.all (m_rvB n)
theorem m_v_sameB {n : Nat} {ad ad' : Nat → Nat} (hag : ∀ i, (i < n ∨ i = m_BI) → ad' i = ad i) {v : Value} (hv : m_rvB n v = true) : m_v ad' v = m_v ad v := by
  cases v <;> first | rfl | (simp only [m_rvB, decide_eq_true_eq] at hv; simp only [m_v]; rw [hag _ hv])
theorem m_st_sameB {n : Nat} {ad ad' : Nat → Nat} (hag : ∀ i, (i < n ∨ i = m_BI) → ad' i = ad i) {st : List Value} (hv : st.all (m_rvB n) = true) : st.map (m_v ad') = st.map (m_v ad) :=
  List.map_congr_left fun v h => m_v_sameB hag (List.all_eq_true.mp hv v h)
theorem m_ls_sameB {n : Nat} {ad ad' : Nat → Nat} (hag : ∀ i, (i < n ∨ i = m_BI) → ad' i = ad i) {ls : List (Nat × Value)} (hv : ls.all (fun q => m_rvB n q.2) = true) : ls.map (fun q => (q.1, m_v ad' q.2)) = ls.map (fun q => (q.1, m_v ad q.2)) :=
  List.map_congr_left fun q h => by rw [m_v_sameB hag (List.all_eq_true.mp hv q h)]
theorem m_newB {k ci N : Nat} {C : String} {T : u_T} {fs : List Value} (X : m_At D cI cL sa y cc nL ret A TB p l s m args meth c) (hd : decode cc pc0 = .ok (.new k, 3)) (hcl : m_cl[ci]? = some (C, T, N)) (h1 : Cond.classLink y.cls k C ∈ m_ws) (h2 : Cond.instantiable C N ∈ m_ws) (h3 : Cond.initialized C ∈ m_ws) (ty : Nat → FieldType) (hty : ∀ k, k < N → parseFieldDescriptor (T k).2.2.1 = some (ty k)) (hfs : ∀ j, j < N → defaultValue (ty j) = vp_V fs j) (hnr : fs.all (m_rv 0) = true) (hB9 : h.length < m_BI) (hrb : m_rbB h.length ls st = true) (hrh : h.all (m_rc h.length) = true) (hcc : cu + 1 ≤ R.cells) (hss : su + N ≤ R.slots) (hp : pc = pc0) (kk : m_Go D cI cL ad0 n0 nL A p l e R s m args below meth c Q (pc0 + 3) ls (.ref h.length :: st) (h ++ [m_ob ci fs]) (cu + 1) (su + N)) : m_Go D cI cL ad0 n0 nL A p l e R s m args below meth c Q pc ls st h cu su := by
  subst hp
  intro ad H locs lsA hn hag hP hD hS hL
  simp only [m_rbB, Bool.and_eq_true] at hrb
  refine va_new (fs := fs) (m_ex X) (m_cb X) (m_wd X) (m_cl_ok ci C T N hcl).1 ty hty (m_ow X) (m_wd X _ h1) (m_wd X _ h2) (m_wd X _ h3) (m_kn X) hP hD hS (m_up X) hcl hfs hcc hss hd (fun q H1 hP1 hD1 hS1 => ?_)
  have ha := m_upd_ag (n := h.length) (ad := ad) (q := q)
  have haB : ∀ i, (i < h.length ∨ i = m_BI) → (fun j => if j = h.length then q else ad j) i = ad i := fun i hi => if_neg (by omega)
  have e0 : fs.map (m_v (fun j => if j = h.length then q else ad j)) = fs := by
    have : fs.map (m_v (fun j => if j = h.length then q else ad j)) = fs.map id := List.map_congr_left fun v hv => by
      have := List.all_eq_true.mp hnr v hv
      cases v <;> first | rfl | (simp [m_rv] at this; done)
    rw [this, List.map_id]
  have e1 : m_w cI cL (fun j => if j = h.length then q else ad j) (h ++ [m_ob ci fs]) = m_w cI cL ad h ++ [(q, .inr (ci, fs))] := by
    rw [m_w_app, m_w_same ha (Nat.le_refl _) hrh]; simp only [m_c, e0, if_true]
  have k9 := kk (fun j => if j = h.length then q else ad j) H1 locs lsA (by rw [List.length_append]; omega) (fun i hi => by
    rw [List.length_append, List.length_singleton] at hi
    have hne : i ≠ h.length := by omega
    rw [if_neg hne]; exact hag i (by omega)) (by rw [e1]; exact hP1) (by rw [e1]; exact hD1) hS1 (by rw [m_ls_sameB haB hrb.1]; exact hL)
  rw [List.map_cons, m_st_sameB haB hrb.2] at k9
  have e2 : m_v (fun j => if j = h.length then q else ad j) (.ref h.length) = .ref q := by simp [m_v]
  rw [e2] at k9
  exact k9
theorem m_newaB {at9 : ArrayType} {ty : FieldType} {n : Int32} {N : Nat} {a0 : vp_A} (X : m_At D cI cL sa y cc nL ret A TB p l s m args meth c) (hd : decode cc pc0 = .ok (.newarray at9, 2)) (hw : Cond.arrayClass (newarray.typeOf at9) ∈ m_ws) (hty : newarray.typeOf at9 = ty) (hk : ty = .int ∧ ∃ f, a0.2 = .inl f) (ha : ∀ cA : ClassId, vp_cell cA a0 = arrV cA N (fun _ => defaultValue ty)) (hn0 : ¬ n < 0) (hN : n.toNatClampNeg = N) (hby : N * componentBytes ty ≤ 536870912) (hB9 : h.length < m_BI) (hrb : m_rbB h.length ls st = true) (hrh : h.all (m_rc h.length) = true) (hcc : cu + 1 ≤ R.cells) (hss : su + N ≤ R.slots) (hp : pc = pc0) (kk : m_Go D cI cL ad0 n0 nL A p l e R s m args below meth c Q (pc0 + 2) ls (.ref h.length :: st) (h ++ [.inl a0]) (cu + 1) (su + N)) : m_Go D cI cL ad0 n0 nL A p l e R s m args below meth c Q pc ls (.int n :: st) h cu su := by
  subst hp
  intro ad H locs lsA hn hag hP hD hS hL
  simp only [m_rbB, Bool.and_eq_true] at hrb
  refine va_newa (m_ex X) (m_cb X) (m_wd X _ hw) hty (m_kn X) hP hD hS (m_up X) ha hn0 hN hby hcc hss hd (fun q cA H1 hK1 hP1 hD1 hS1 => ?_)
  have hcA : cA = m_kc cI cL a0 := by
    have h9 := (hK1.2 1 (cA, ty) rfl).2
    obtain ⟨rfl, f, hf⟩ := hk
    have h8 := ((m_kn X).2 0 (cI, .int) rfl).2
    simp only [m_kc, hf]
    exact Option.some.inj (Eq.trans (Eq.symm h9) h8)
  subst hcA
  have ha := m_upd_ag (n := h.length) (ad := ad) (q := q)
  have haB : ∀ i, (i < h.length ∨ i = m_BI) → (fun j => if j = h.length then q else ad j) i = ad i := fun i hi => if_neg (by omega)
  have e1 : m_w cI cL (fun j => if j = h.length then q else ad j) (h ++ [.inl a0]) = m_w cI cL ad h ++ [(q, .inl (m_kc cI cL a0, a0))] := by
    rw [m_w_app, m_w_same ha (Nat.le_refl _) hrh]; simp only [m_c, if_true]
  have k9 := kk (fun j => if j = h.length then q else ad j) H1 locs lsA (by rw [List.length_append]; omega) (fun i hi => by
    rw [List.length_append, List.length_singleton] at hi
    have hne : i ≠ h.length := by omega
    rw [if_neg hne]; exact hag i (by omega)) (by rw [e1]; exact hP1) (by rw [e1]; exact hD1) hS1 (by rw [m_ls_sameB haB hrb.1]; exact hL)
  rw [List.map_cons, m_st_sameB haB hrb.2] at k9
  have e2 : m_v (fun j => if j = h.length then q else ad j) (.ref h.length) = .ref q := by simp [m_v]
  rw [e2] at k9
  exact k9
theorem m_afterAB {h' : m_H} {v : Option Value} {rest stA : List Value} {ad : Nat → Nat} {H : Heap} {locs : List Loc} {lsA : Array Slot} {mc2 ms2 : Nat} {a2 : Array Value} (X : m_At D cI cL sa y cc nL ret A TB p l s m args meth c)
    (hr : va_Run p l e R s m args below meth c H locs cu su mc2 ms2 (F0 m pc lsA stA) (rest.map (m_v ad)) (m_Q D cI cL ad h.length (va_A (m_w cI cL ad h) H.size) (.inl (v, h')) a2) (va_A (m_w cI cL ad h) H.size)) (hlen : h.length ≤ h'.length) (hB9 : h'.length ≤ m_BI) (hrb : m_rbB h.length ls rest = true)
    (hn : n0 ≤ h.length) (hag : ∀ i, (i < n0 ∨ h.length ≤ i) → ad i = ad0 i) (hD : va_D A (m_w cI cL ad h)) (hS : va_S A s.heap H locs) (hL : lv_has lsA nL (ls.map (fun q => (q.1, m_v ad q.2))))
    (kk : m_Go D cI cL ad0 n0 nL A p l e R s m args below meth c Q (pc + 3) ls (v.toList ++ rest) h' (cu + mc2) (su + ms2)) : W p l e R s m args below meth c H locs cu su Q (F0 m pc lsA stA) := by
  simp only [m_rbB, Bool.and_eq_true] at hrb
  intro T hT XX
  obtain ⟨v9, st₀, t, T', L, h0, X', hL', e1, e2, ⟨vv, hf, ad', he, hoc, hn', hag', hP', hD', hF⟩, st9⟩ := hr T hT XX
  cases he
  cases hoc
  have haB : ∀ i, (i < h.length ∨ i = m_BI) → ad' i = ad i := fun i hi => hag' i (by omega)
  have hAB := m_AB X hD hS
  obtain ⟨k1, k2, k3⟩ := vx_keep h0 e1 hS (fun q _ hq => hAB q hq) hAB hL' hF
  obtain ⟨t2, a1, b1⟩ := kk ad' T'.heap (locs ++ L) lsA (by omega) (fun i hi => (hag' i (by omega)).trans (hag i (by omega))) (by rw [e1]; exact hP') (hD'.weaken (fun _ q _ hq => hAB q.1 hq)) k3 (by rw [m_ls_sameB haB hrb.1]; exact hL) T' rfl X'
  refine ⟨t2, st9 t2 ?_, b1⟩
  rw [← m_st_sameB haB hrb.2, m_optmap]
  exact a1
theorem m_callIB {M : m_M} {h' : m_H} {v : Option Value} {rest : List Value} {k n : Nat} {as : List Value} {q : Nat} (X : m_At D cI cL sa y cc nL ret A TB p l s m args meth c) (hd : decode cc pc0 = .ok (.invokespecial k, 3)) (hk : m_LK y.cls k M) (hK : m_MK M n) (hin : Cond.instanceMethod (m_My M) ∈ m_ws) (hini : (m_My M).name = "<init>") (hrn : m_Mr M = none) (hC : m_Ctr M (.ref q :: as) h (.inl (v, h'))) (hs9 : st = as.reverse ++ .ref q :: rest) (hn9 : as.length = n) (hlen : h.length ≤ h'.length) (hB9 : h'.length ≤ m_BI) (hrb : m_rbB h.length ls rest = true) (hro : (rest.map fun v => v.category).sum ≤ 8) (hrk : m_Mk M + 1 ≤ R.frames) (hrl : 8 + (m_Ml M + 11) + 32 * m_Mk M ≤ R.locals) (hcc : cu + m_Mc M ≤ R.cells) (hss : su + m_Ms M ≤ R.slots) (hp : pc = pc0)
    (kk : m_Go D cI cL ad0 n0 nL A p l e R s m args below meth c Q (pc0 + 3) ls (v.toList ++ rest) h' (cu + m_Mc M) (su + m_Ms M)) : m_Go D cI cL ad0 n0 nL A p l e R s m args below meth c Q pc ls st h cu su := by
  subst hp
  subst hs9
  intro ad H locs lsA hn hag hP hD hS hL
  have hM := m_met hC l D cI cL sa ad H.size (m_nt X)
  have hpre : PreS s H (m_Pre D cI cL sa ad h H.size (.ref q :: as)) (.ref (ad q) :: as.map (m_v ad)) := ⟨m_blind, m_pre (as := .ref q :: as) X hP hD hS⟩
  obtain ⟨My, Mb, Ml, Mr, Mk, Mc, Ms⟩ := M
  cases hrn
  refine (fun hr => m_afterAB X hr hlen hB9 hrb hn hag hD hS hL kk) (?_ : va_Run p l e R s m args below meth c H locs cu su _ _ (F0 m pc lsA (((as.reverse ++ .ref q :: rest) : List Value).map (m_v ad))) (rest.map (m_v ad)) (m_Q D cI cL ad h.length (va_A (m_w cI cL ad h) H.size) (.inl (v, h')) (Value.ref (ad q) :: as.map (m_v ad)).toArray) (va_A (m_w cI cL ad h) H.size))
  rcases hk with hk | ⟨host, hk⟩
  · exact va_runI (m_fix X) hM ⟨callB_of n (m_wd X) (m_good hK) rfl rfl rfl (m_wd X _ hK.2.1) (m_wd X _ hk) hK.2.2 ⟨hrk, hrl⟩, hini, m_wd X _ hin⟩ hpre rfl (by rw [List.length_map]; exact hn9) hL.1 (by simp [List.map_append, List.map_reverse, m_v]) (lv_room (by rw [m_v_cats]; exact hro)) hd ⟨hcc, hss⟩
  · exact va_runIN (m_fix X) hM ⟨va_cnB n (m_wd X) (m_good hK) rfl rfl rfl ((m_ev X).1 _ hk) (m_wd X _ hK.2.1) hK.2.2 ⟨hrk, hrl⟩, hini, m_wd X _ hin⟩ hpre rfl (by rw [List.length_map]; exact hn9) hL.1 (by simp [List.map_append, List.map_reverse, m_v]) (lv_room (by rw [m_v_cats]; exact hro)) hd ⟨hcc, hss⟩
theorem m_ishr {x z : Int32} (X : m_At D cI cL sa y cc nL ret A TB p l s m args meth c) (hd : decode cc pc0 = .ok (.ishr, 1)) (hp : pc = pc0) (kk : m_Go D cI cL ad0 n0 nL A p l e R s m args below meth c Q (pc0 + 1) ls (.int (x >>> (z &&& 31)) :: st) h cu su) : m_Go D cI cL ad0 n0 nL A p l e R s m args below meth c Q pc ls (.int z :: .int x :: st) h cu su := by
  subst hp
  intro ad H locs lsA hn hag hP hD hS hL
  exact lv_ishr (m_ex X) (m_cb X) hd (kk ad H locs lsA hn hag hP hD hS hL)
/-- an element at place k, known to be x -/
theorem m_ald {q n k : Nat} {f : Nat → Int32} {i x : Int32} (X : m_At D cI cL sa y cc nL ret A TB p l s m args meth c) (hd : decode cc pc0 = .ok (.iaload, 1)) (hq : h[q]? = some (m_ia n f)) (hi : vp_in i n) (hk : i.toNatClampNeg = k) (hx : f k = x) (hp : pc = pc0) (kk : m_Go D cI cL ad0 n0 nL A p l e R s m args below meth c Q (pc0 + 1) ls (.int x :: st) h cu su) : m_Go D cI cL ad0 n0 nL A p l e R s m args below meth c Q pc ls (.int i :: .ref q :: st) h cu su := by
  subst hk
  subst hx
  exact m_iald X hd hq hi hp kk
/-- an element at place k is written: the heap as it is then -/
theorem m_ast {q n k : Nat} {f : Nat → Int32} {i x : Int32} {h1 : m_H} (X : m_At D cI cL sa y cc nL ret A TB p l s m args meth c) (hd : decode cc pc0 = .ok (.iastore, 1)) (hq : h[q]? = some (m_ia n f)) (hi : vp_in i n) (hk : i.toNatClampNeg = k) (hh : h.set q (m_ia n (upd f k x)) = h1) (hp : pc = pc0) (kk : m_Go D cI cL ad0 n0 nL A p l e R s m args below meth c Q (pc0 + 1) ls st h1 cu su) : m_Go D cI cL ad0 n0 nL A p l e R s m args below meth c Q pc ls (.int x :: .int i :: .ref q :: st) h cu su := by
  subst hk
  subst hh
  exact m_iast X hd hq hi hp kk
/-- a store into a local, the list as it is then -/
theorem m_ist {i : Nat} {x : Int32} {l1 : List (Nat × Value)} (X : m_At D cI cL sa y cc nL ret A TB p l s m args meth c) (hd : decode cc pc0 = .ok (.istore i, 2)) (hi : i < nL) (hl : m_put ls i (.int x) = l1) (hp : pc = pc0) (kk : m_Go D cI cL ad0 n0 nL A p l e R s m args below meth c Q (pc0 + 2) l1 st h cu su) : m_Go D cI cL ad0 n0 nL A p l e R s m args below meth c Q pc ls (.int x :: st) h cu su := by
  subst hl
  exact m_istore X hd hi hp kk
theorem m_ist_n {k : Fin 4} {x : Int32} {l1 : List (Nat × Value)} (X : m_At D cI cL sa y cc nL ret A TB p l s m args meth c) (hd : decode cc pc0 = .ok (.istore_n k, 1)) (hi : (k : Nat) < nL) (hl : m_put ls (k : Nat) (.int x) = l1) (hp : pc = pc0) (kk : m_Go D cI cL ad0 n0 nL A p l e R s m args below meth c Q (pc0 + 1) l1 st h cu su) : m_Go D cI cL ad0 n0 nL A p l e R s m args below meth c Q pc ls (.int x :: st) h cu su := by
  subst hl
  exact m_istore_n X hd hi hp kk
theorem m_inc {i : Nat} {n : Int} {x x1 : Int32} {l1 : List (Nat × Value)} (X : m_At D cI cL sa y cc nL ret A TB p l s m args meth c) (hd : decode cc pc0 = .ok (.iinc i n, 3)) (hl : m_get ls i = some (.int x)) (hi : i < nL) (hx : x + Int32.ofInt n = x1) (hl1 : m_put ls i (.int x1) = l1) (hp : pc = pc0) (kk : m_Go D cI cL ad0 n0 nL A p l e R s m args below meth c Q (pc0 + 3) l1 st h cu su) : m_Go D cI cL ad0 n0 nL A p l e R s m args below meth c Q pc ls st h cu su := by
  subst hl1
  subst hx
  exact m_iinc X hd hl hi hp kk
/-- the value on top is written otherwise -/
theorem m_top {x x1 : Int32} (hx : x = x1) (kk : m_Go D cI cL ad0 n0 nL A p l e R s m args below meth c Q pc ls (.int x1 :: st) h cu su) : m_Go D cI cL ad0 n0 nL A p l e R s m args below meth c Q pc ls (.int x :: st) h cu su := hx ▸ kk
end MPC
end
section
section MQ1
variable {D : va_G} {cI cL : ClassId} {sa : Nat → Nat} {y : MethodName} {cc : ByteArray} {nL : Nat} {ret : Option FieldType} {A : Nat → Prop} {TB : List ExceptionTableEntry} {p : Program} {l : Launch} {e : Env} {R : Room} {s : State} {m : MethodId} {args : Array Value} {below : List Frame} {meth : Method} {c : Code} {Q : State → Prop} {ad0 : Nat → Nat} {n0 pc pc0 : Nat} {ls : List (Nat × Value)} {st : List Value} {h : m_H} {cu su : Nat}
theorem m_putR {idx ci j q r : Nat} {fs : List Value} {v9 : Value} {h1 : m_H} {ty : FieldType} (X : m_At D cI cL sa y cc nL ret A TB p l s m args meth c) (hd : decode cc pc0 = .ok (.putfield idx, 3)) (hf : m_FL y.cls idx ci j) (hg : m_FF y.cls ci j ty) (hi : y.name = "<init>") (hw0 : ∀ (C : String) (T : u_T) (N : Nat), m_cl[ci]? = some (C, T, N) → Cond.fieldLink y.cls idx (T j).1 (T j).2.1 (T j).2.2.1 ∈ m_ws) (hn9 : ∀ a : Addr, narrow ty (.ref a) = .ref a) (hn8 : ∀ a : Addr, fits ty (.ref a) = true) (hq : h[q]? = some (m_ob ci fs)) (hj : fs[j]? = some v9) (he : h.set q (m_ob ci (fs.set j (.ref r))) = h1) (hp : pc = pc0) (kk : m_Go D cI cL ad0 n0 nL A p l e R s m args below meth c Q (pc0 + 3) ls st h1 cu su) : m_Go D cI cL ad0 n0 nL A p l e R s m args below meth c Q pc ls (.ref r :: .ref q :: st) h cu su :=
  m_putF X hd hf hg hi hw0 hq (List.getElem?_eq_some_iff.mp hj).1 (fun ad => hn9 (ad r)) (fun ad => hn8 (ad r)) hp (by rw [he]; exact kk)
def z0 : Nat → Int32 := fun _ => 0
def ltc (n : Nat) (c : Int32) : Nat → Int32 := fun j => if j < n then c else 0
theorem ltc_0 {c : Int32} : ltc 0 c = z0 := by
  funext j
  simp [ltc, z0]
theorem ltc_s {n : Nat} {c : Int32} : upd (ltc n c) n c = ltc (n + 1) c := by
  funext j
  unfold upd ltc
  by_cases h1 : j = n
  · subst h1; rw [if_pos rfl, if_pos (Nat.lt_succ_self _)]
  · rw [if_neg h1]
    by_cases h2 : j < n
    · rw [if_pos h2, if_pos (Nat.lt_succ_of_lt h2)]
    · rw [if_neg h2, if_neg (by omega)]
set_option maxHeartbeats 4000000 in
theorem c_X4_init  : m_Ctr M_X4_init [.ref 2] [m_ob 5 [.null, .null, .null, .null, .null, .long 0], m_ob 1 [.null, .null, .null, .null, .int 0, .int 0, .int 0, .int 0, .int 0, .int 0, .int 0, .int 0, .int 0, .int 0, .int 0, .int 0], m_ob 4 [.int 0, .int 0, .int 0, .int 0, .int 0, .int 0, .int 0, .int 0]] (.inl (none, [m_ob 5 [.null, .null, .null, .null, .null, .long 0], m_ob 1 [.null, .null, .null, .null, .int 0, .int 0, .int 0, .int 0, .int 0, .int 0, .int 0, .int 0, .int 0, .int 0, .int 0, .int 0], m_ob 4 [.int 0, .int 0, .int 3, .int 0, .int 0, .int 0, .int 0, .int 0]])) := by
  refine m_intro (by decide +kernel) (Nat.le_of_ble_eq_true rfl) (fun {D cI cL sa A p l e s m args below meth c ad} X => ?_)
  refine m_aload_n X dX4_init_0 rfl rfl ?_
  refine m_obI X dX4_init_1 lm_X4_3 (Nat.le_of_ble_eq_true rfl) (Nat.le_of_ble_eq_true rfl) rfl ?_
  refine m_aload_n X dX4_init_4 rfl rfl ?_
  refine m_iconst (v := 3) X dX4_init_5 (by decide) rfl ?_
  refine m_puti (h1 := [m_ob 5 [.null, .null, .null, .null, .null, .long 0], m_ob 1 [.null, .null, .null, .null, .int 0, .int 0, .int 0, .int 0, .int 0, .int 0, .int 0, .int 0, .int 0, .int 0, .int 0, .int 0], m_ob 4 [.int 0, .int 0, .int 3, .int 0, .int 0, .int 0, .int 0, .int 0]]) X dX4_init_6 fl_X4_9 fp_X4_2 rfl rfl rfl rfl ?_
  exact m_vret X dX4_init_9 rfl rfl (Nat.le_of_ble_eq_true rfl) (Nat.le_of_ble_eq_true rfl) rfl
set_option maxHeartbeats 4000000 in
theorem c_X0_init  : m_Ctr M_X0_init [.ref 3] [m_ob 5 [.null, .null, .null, .null, .null, .long 0], m_ob 1 [.ref 2, .null, .null, .null, .int 0, .int 0, .int 0, .int 0, .int 0, .int 0, .int 0, .int 0, .int 0, .int 0, .int 0, .int 0], m_ob 4 [.int 0, .int 0, .int 3, .int 0, .int 0, .int 0, .int 0, .int 0], m_ob 0 [.null, .null, .null, .null]] (.inl (none, [m_ob 5 [.null, .null, .null, .null, .null, .long 0], m_ob 1 [.ref 2, .null, .null, .null, .int 0, .int 0, .int 0, .int 0, .int 0, .int 0, .int 0, .int 0, .int 0, .int 0, .int 0, .int 0], m_ob 4 [.int 0, .int 0, .int 3, .int 0, .int 0, .int 0, .int 0, .int 0], m_ob 0 [.ref 4, .ref 5, .ref 6, .ref 7], m_ia 4 (ltc 4 50), m_ia 4 (ltc 4 20), m_ia 4 z0, m_ia 4 z0])) := by
  refine m_intro (by decide +kernel) (Nat.le_of_ble_eq_true rfl) (fun {D cI cL sa A p l e s m args below meth c ad} X => ?_)
  have loop : ∀ k i, i + k = 4 → m_Go D cI cL ad ([m_ob 5 [.null, .null, .null, .null, .null, .long 0], m_ob 1 [.ref 2, .null, .null, .null, .int 0, .int 0, .int 0, .int 0, .int 0, .int 0, .int 0, .int 0, .int 0, .int 0, .int 0, .int 0], m_ob 4 [.int 0, .int 0, .int 3, .int 0, .int 0, .int 0, .int 0, .int 0], m_ob 0 [.null, .null, .null, .null]]).length (m_Ml M_X0_init) A p l e (m_rm M_X0_init) s m args below meth c (m_VQ D cI cL ad ([m_ob 5 [.null, .null, .null, .null, .null, .long 0], m_ob 1 [.ref 2, .null, .null, .null, .int 0, .int 0, .int 0, .int 0, .int 0, .int 0, .int 0, .int 0, .int 0, .int 0, .int 0, .int 0], m_ob 4 [.int 0, .int 0, .int 3, .int 0, .int 0, .int 0, .int 0, .int 0], m_ob 0 [.null, .null, .null, .null]]).length A (.inl (none, [m_ob 5 [.null, .null, .null, .null, .null, .long 0], m_ob 1 [.ref 2, .null, .null, .null, .int 0, .int 0, .int 0, .int 0, .int 0, .int 0, .int 0, .int 0, .int 0, .int 0, .int 0, .int 0], m_ob 4 [.int 0, .int 0, .int 3, .int 0, .int 0, .int 0, .int 0, .int 0], m_ob 0 [.ref 4, .ref 5, .ref 6, .ref 7], m_ia 4 (ltc 4 50), m_ia 4 (ltc 4 20), m_ia 4 z0, m_ia 4 z0])) below args s (m_Mc M_X0_init) (m_Ms M_X0_init)) 34 [(1, .int (nI i)), (0, .ref 3)] [] ([m_ob 5 [.null, .null, .null, .null, .null, .long 0], m_ob 1 [.ref 2, .null, .null, .null, .int 0, .int 0, .int 0, .int 0, .int 0, .int 0, .int 0, .int 0, .int 0, .int 0, .int 0, .int 0], m_ob 4 [.int 0, .int 0, .int 3, .int 0, .int 0, .int 0, .int 0, .int 0], m_ob 0 [.ref 4, .ref 5, .ref 6, .ref 7], m_ia 4 (ltc i 50), m_ia 4 (ltc i 20), m_ia 4 z0, m_ia 4 z0]) 4 16 := by
    intro k
    induction k with
    | zero =>
      intro i hi
      have hi4 : i = 4 := by omega
      subst hi4
      refine m_iload_n X dX0_init_34 rfl rfl ?_
      refine m_iconst (v := 4) X dX0_init_35 (by decide) rfl ?_
      refine m_icmp_ge (tgt := 61) X dX0_init_36 (by decide) rfl (fun b36 => ?_) (fun b36 => absurd b36 (not_not_intro (by decide)))
      exact m_vret X dX0_init_61 rfl (rfl) (Nat.le_of_ble_eq_true rfl) (Nat.le_of_ble_eq_true rfl) rfl
    | succ k ih =>
      intro i hi
      have hlt : i < 4 := by omega
      have hin : vp_in (nI i) 4 := vp_in_nI (by omega) (by omega)
      have ein : (nI i).toNatClampNeg = i := nI_clamp (by omega)
      refine m_iload_n X dX0_init_34 rfl rfl ?_
      refine m_iconst (v := 4) X dX0_init_35 (by decide) rfl ?_
      refine m_icmp_ge (tgt := 61) X dX0_init_36 (by decide) rfl (fun b36 => absurd b36 (nI_ge (b := 4) hlt (by omega))) (fun b36 => ?_)
      refine m_aload_n X dX0_init_39 rfl rfl ?_
      refine m_getf X dX0_init_40 fl_X0_9 rfl rfl rfl ?_
      refine m_iload_n X dX0_init_43 rfl rfl ?_
      refine m_bipush (v := (50)) X dX0_init_44 (by decide) rfl ?_
      refine m_iast X dX0_init_46 rfl (hin) rfl ?_
      refine m_aload_n X dX0_init_47 rfl rfl ?_
      refine m_getf X dX0_init_48 fl_X0_15 rfl rfl rfl ?_
      refine m_iload_n X dX0_init_51 rfl rfl ?_
      refine m_bipush (v := (20)) X dX0_init_52 (by decide) rfl ?_
      refine m_iast X dX0_init_54 rfl (hin) rfl ?_
      refine m_iinc X dX0_init_55 rfl (Nat.le_of_ble_eq_true rfl) rfl ?_
      refine m_goto (tgt := 34) X dX0_init_58 (by decide) rfl ?_
      refine m_hp (h1 := [m_ob 5 [.null, .null, .null, .null, .null, .long 0], m_ob 1 [.ref 2, .null, .null, .null, .int 0, .int 0, .int 0, .int 0, .int 0, .int 0, .int 0, .int 0, .int 0, .int 0, .int 0, .int 0], m_ob 4 [.int 0, .int 0, .int 3, .int 0, .int 0, .int 0, .int 0, .int 0], m_ob 0 [.ref 4, .ref 5, .ref 6, .ref 7], m_ia 4 (ltc (i + 1) 50), m_ia 4 (ltc (i + 1) 20), m_ia 4 z0, m_ia 4 z0]) (by rw [ein, ← ltc_s (n := i) (c := 50), ← ltc_s (n := i) (c := 20)]; rfl) ?_
      refine m_lp (l1 := [(1, .int (nI (i + 1))), (0, .ref 3)]) [0, 1] (by rw [nI_succ]; rfl) ?_
      exact ih (i + 1) (by omega)
  refine m_aload_n X dX0_init_0 rfl rfl ?_
  refine m_obI X dX0_init_1 lm_X0_3 (Nat.le_of_ble_eq_true rfl) (Nat.le_of_ble_eq_true rfl) rfl ?_
  refine m_aload_n X dX0_init_4 rfl rfl ?_
  refine m_iconst (v := 4) X dX0_init_5 (by decide) rfl ?_
  refine m_newa (ty := .int) (N := 4) (a0 := (4, .inl z0)) X dX0_init_6 aw_int rfl ⟨rfl, _, rfl⟩ (fun _ => rfl) (by decide) (by decide) (by decide) rfl rfl (Nat.le_of_ble_eq_true rfl) (Nat.le_of_ble_eq_true rfl) rfl ?_
  refine m_hp (h1 := [m_ob 5 [.null, .null, .null, .null, .null, .long 0], m_ob 1 [.ref 2, .null, .null, .null, .int 0, .int 0, .int 0, .int 0, .int 0, .int 0, .int 0, .int 0, .int 0, .int 0, .int 0, .int 0], m_ob 4 [.int 0, .int 0, .int 3, .int 0, .int 0, .int 0, .int 0, .int 0], m_ob 0 [.null, .null, .null, .null], m_ia 4 z0]) rfl ?_
  refine m_putR (h1 := [m_ob 5 [.null, .null, .null, .null, .null, .long 0], m_ob 1 [.ref 2, .null, .null, .null, .int 0, .int 0, .int 0, .int 0, .int 0, .int 0, .int 0, .int 0, .int 0, .int 0, .int 0, .int 0], m_ob 4 [.int 0, .int 0, .int 3, .int 0, .int 0, .int 0, .int 0, .int 0], m_ob 0 [.ref 4, .null, .null, .null], m_ia 4 z0]) X dX0_init_8 fl_X0_9 ff_X0_0 rfl fw_X0_9 (fun _ => rfl) (fun _ => rfl) rfl rfl rfl rfl ?_
  refine m_aload_n X dX0_init_11 rfl rfl ?_
  refine m_iconst (v := 4) X dX0_init_12 (by decide) rfl ?_
  refine m_newa (ty := .int) (N := 4) (a0 := (4, .inl z0)) X dX0_init_13 aw_int rfl ⟨rfl, _, rfl⟩ (fun _ => rfl) (by decide) (by decide) (by decide) rfl rfl (Nat.le_of_ble_eq_true rfl) (Nat.le_of_ble_eq_true rfl) rfl ?_
  refine m_hp (h1 := [m_ob 5 [.null, .null, .null, .null, .null, .long 0], m_ob 1 [.ref 2, .null, .null, .null, .int 0, .int 0, .int 0, .int 0, .int 0, .int 0, .int 0, .int 0, .int 0, .int 0, .int 0, .int 0], m_ob 4 [.int 0, .int 0, .int 3, .int 0, .int 0, .int 0, .int 0, .int 0], m_ob 0 [.ref 4, .null, .null, .null], m_ia 4 z0, m_ia 4 z0]) rfl ?_
  refine m_putR (h1 := [m_ob 5 [.null, .null, .null, .null, .null, .long 0], m_ob 1 [.ref 2, .null, .null, .null, .int 0, .int 0, .int 0, .int 0, .int 0, .int 0, .int 0, .int 0, .int 0, .int 0, .int 0, .int 0], m_ob 4 [.int 0, .int 0, .int 3, .int 0, .int 0, .int 0, .int 0, .int 0], m_ob 0 [.ref 4, .ref 5, .null, .null], m_ia 4 z0, m_ia 4 z0]) X dX0_init_15 fl_X0_15 ff_X0_1 rfl fw_X0_15 (fun _ => rfl) (fun _ => rfl) rfl rfl rfl rfl ?_
  refine m_aload_n X dX0_init_18 rfl rfl ?_
  refine m_iconst (v := 4) X dX0_init_19 (by decide) rfl ?_
  refine m_newa (ty := .int) (N := 4) (a0 := (4, .inl z0)) X dX0_init_20 aw_int rfl ⟨rfl, _, rfl⟩ (fun _ => rfl) (by decide) (by decide) (by decide) rfl rfl (Nat.le_of_ble_eq_true rfl) (Nat.le_of_ble_eq_true rfl) rfl ?_
  refine m_hp (h1 := [m_ob 5 [.null, .null, .null, .null, .null, .long 0], m_ob 1 [.ref 2, .null, .null, .null, .int 0, .int 0, .int 0, .int 0, .int 0, .int 0, .int 0, .int 0, .int 0, .int 0, .int 0, .int 0], m_ob 4 [.int 0, .int 0, .int 3, .int 0, .int 0, .int 0, .int 0, .int 0], m_ob 0 [.ref 4, .ref 5, .null, .null], m_ia 4 z0, m_ia 4 z0, m_ia 4 z0]) rfl ?_
  refine m_putR (h1 := [m_ob 5 [.null, .null, .null, .null, .null, .long 0], m_ob 1 [.ref 2, .null, .null, .null, .int 0, .int 0, .int 0, .int 0, .int 0, .int 0, .int 0, .int 0, .int 0, .int 0, .int 0, .int 0], m_ob 4 [.int 0, .int 0, .int 3, .int 0, .int 0, .int 0, .int 0, .int 0], m_ob 0 [.ref 4, .ref 5, .ref 6, .null], m_ia 4 z0, m_ia 4 z0, m_ia 4 z0]) X dX0_init_22 fl_X0_18 ff_X0_2 rfl fw_X0_18 (fun _ => rfl) (fun _ => rfl) rfl rfl rfl rfl ?_
  refine m_aload_n X dX0_init_25 rfl rfl ?_
  refine m_iconst (v := 4) X dX0_init_26 (by decide) rfl ?_
  refine m_newa (ty := .int) (N := 4) (a0 := (4, .inl z0)) X dX0_init_27 aw_int rfl ⟨rfl, _, rfl⟩ (fun _ => rfl) (by decide) (by decide) (by decide) rfl rfl (Nat.le_of_ble_eq_true rfl) (Nat.le_of_ble_eq_true rfl) rfl ?_
  refine m_hp (h1 := [m_ob 5 [.null, .null, .null, .null, .null, .long 0], m_ob 1 [.ref 2, .null, .null, .null, .int 0, .int 0, .int 0, .int 0, .int 0, .int 0, .int 0, .int 0, .int 0, .int 0, .int 0, .int 0], m_ob 4 [.int 0, .int 0, .int 3, .int 0, .int 0, .int 0, .int 0, .int 0], m_ob 0 [.ref 4, .ref 5, .ref 6, .null], m_ia 4 z0, m_ia 4 z0, m_ia 4 z0, m_ia 4 z0]) rfl ?_
  refine m_putR (h1 := [m_ob 5 [.null, .null, .null, .null, .null, .long 0], m_ob 1 [.ref 2, .null, .null, .null, .int 0, .int 0, .int 0, .int 0, .int 0, .int 0, .int 0, .int 0, .int 0, .int 0, .int 0, .int 0], m_ob 4 [.int 0, .int 0, .int 3, .int 0, .int 0, .int 0, .int 0, .int 0], m_ob 0 [.ref 4, .ref 5, .ref 6, .ref 7], m_ia 4 z0, m_ia 4 z0, m_ia 4 z0, m_ia 4 z0]) X dX0_init_29 fl_X0_21 ff_X0_3 rfl fw_X0_21 (fun _ => rfl) (fun _ => rfl) rfl rfl rfl rfl ?_
  refine m_iconst (v := 0) X dX0_init_32 (by decide) rfl ?_
  refine m_istore_n X dX0_init_33 (Nat.le_of_ble_eq_true rfl) rfl ?_
  refine m_hp (h1 := [m_ob 5 [.null, .null, .null, .null, .null, .long 0], m_ob 1 [.ref 2, .null, .null, .null, .int 0, .int 0, .int 0, .int 0, .int 0, .int 0, .int 0, .int 0, .int 0, .int 0, .int 0, .int 0], m_ob 4 [.int 0, .int 0, .int 3, .int 0, .int 0, .int 0, .int 0, .int 0], m_ob 0 [.ref 4, .ref 5, .ref 6, .ref 7], m_ia 4 (ltc 0 50), m_ia 4 (ltc 0 20), m_ia 4 z0, m_ia 4 z0]) (by rw [ltc_0, ltc_0]) ?_
  refine m_lp (l1 := [(1, .int (nI 0)), (0, .ref 3)]) [0, 1] rfl ?_
  exact loop 4 0 (by omega)
set_option maxHeartbeats 4000000 in
theorem c_X2_init  : m_Ctr M_X2_init [.ref 8] [m_ob 5 [.null, .null, .null, .null, .null, .long 0], m_ob 1 [.ref 2, .ref 3, .null, .null, .int 0, .int 0, .int 0, .int 0, .int 0, .int 0, .int 0, .int 0, .int 0, .int 0, .int 0, .int 0], m_ob 4 [.int 0, .int 0, .int 3, .int 0, .int 0, .int 0, .int 0, .int 0], m_ob 0 [.ref 4, .ref 5, .ref 6, .ref 7], m_ia 4 (ltc 4 50), m_ia 4 (ltc 4 20), m_ia 4 z0, m_ia 4 z0, m_ob 2 [.null, .null, .null, .null, .int 0]] (.inl (none, [m_ob 5 [.null, .null, .null, .null, .null, .long 0], m_ob 1 [.ref 2, .ref 3, .null, .null, .int 0, .int 0, .int 0, .int 0, .int 0, .int 0, .int 0, .int 0, .int 0, .int 0, .int 0, .int 0], m_ob 4 [.int 0, .int 0, .int 3, .int 0, .int 0, .int 0, .int 0, .int 0], m_ob 0 [.ref 4, .ref 5, .ref 6, .ref 7], m_ia 4 (ltc 4 50), m_ia 4 (ltc 4 20), m_ia 4 z0, m_ia 4 z0, m_ob 2 [.ref 9, .ref 10, .ref 11, .ref 12, .int 0], m_ia 30 z0, m_ia 30 z0, m_ia 30 z0, m_ia 600 z0])) := by
  refine m_intro (by decide +kernel) (Nat.le_of_ble_eq_true rfl) (fun {D cI cL sa A p l e s m args below meth c ad} X => ?_)
  refine m_aload_n X dX2_init_0 rfl rfl ?_
  refine m_obI X dX2_init_1 lm_X2_3 (Nat.le_of_ble_eq_true rfl) (Nat.le_of_ble_eq_true rfl) rfl ?_
  refine m_aload_n X dX2_init_4 rfl rfl ?_
  refine m_bipush (v := 30) X dX2_init_5 (by decide) rfl ?_
  refine m_newa (ty := .int) (N := 30) (a0 := (30, .inl z0)) X dX2_init_7 aw_int rfl ⟨rfl, _, rfl⟩ (fun _ => rfl) (by decide) (by decide) (by decide) rfl rfl (Nat.le_of_ble_eq_true rfl) (Nat.le_of_ble_eq_true rfl) rfl ?_
  refine m_hp (h1 := [m_ob 5 [.null, .null, .null, .null, .null, .long 0], m_ob 1 [.ref 2, .ref 3, .null, .null, .int 0, .int 0, .int 0, .int 0, .int 0, .int 0, .int 0, .int 0, .int 0, .int 0, .int 0, .int 0], m_ob 4 [.int 0, .int 0, .int 3, .int 0, .int 0, .int 0, .int 0, .int 0], m_ob 0 [.ref 4, .ref 5, .ref 6, .ref 7], m_ia 4 (ltc 4 50), m_ia 4 (ltc 4 20), m_ia 4 z0, m_ia 4 z0, m_ob 2 [.null, .null, .null, .null, .int 0], m_ia 30 z0]) rfl ?_
  refine m_putR (h1 := [m_ob 5 [.null, .null, .null, .null, .null, .long 0], m_ob 1 [.ref 2, .ref 3, .null, .null, .int 0, .int 0, .int 0, .int 0, .int 0, .int 0, .int 0, .int 0, .int 0, .int 0, .int 0, .int 0], m_ob 4 [.int 0, .int 0, .int 3, .int 0, .int 0, .int 0, .int 0, .int 0], m_ob 0 [.ref 4, .ref 5, .ref 6, .ref 7], m_ia 4 (ltc 4 50), m_ia 4 (ltc 4 20), m_ia 4 z0, m_ia 4 z0, m_ob 2 [.ref 9, .null, .null, .null, .int 0], m_ia 30 z0]) X dX2_init_9 fl_X2_9 ff_X2_0 rfl fw_X2_9 (fun _ => rfl) (fun _ => rfl) rfl rfl rfl rfl ?_
  refine m_aload_n X dX2_init_12 rfl rfl ?_
  refine m_bipush (v := 30) X dX2_init_13 (by decide) rfl ?_
  refine m_newa (ty := .int) (N := 30) (a0 := (30, .inl z0)) X dX2_init_15 aw_int rfl ⟨rfl, _, rfl⟩ (fun _ => rfl) (by decide) (by decide) (by decide) rfl rfl (Nat.le_of_ble_eq_true rfl) (Nat.le_of_ble_eq_true rfl) rfl ?_
  refine m_hp (h1 := [m_ob 5 [.null, .null, .null, .null, .null, .long 0], m_ob 1 [.ref 2, .ref 3, .null, .null, .int 0, .int 0, .int 0, .int 0, .int 0, .int 0, .int 0, .int 0, .int 0, .int 0, .int 0, .int 0], m_ob 4 [.int 0, .int 0, .int 3, .int 0, .int 0, .int 0, .int 0, .int 0], m_ob 0 [.ref 4, .ref 5, .ref 6, .ref 7], m_ia 4 (ltc 4 50), m_ia 4 (ltc 4 20), m_ia 4 z0, m_ia 4 z0, m_ob 2 [.ref 9, .null, .null, .null, .int 0], m_ia 30 z0, m_ia 30 z0]) rfl ?_
  refine m_putR (h1 := [m_ob 5 [.null, .null, .null, .null, .null, .long 0], m_ob 1 [.ref 2, .ref 3, .null, .null, .int 0, .int 0, .int 0, .int 0, .int 0, .int 0, .int 0, .int 0, .int 0, .int 0, .int 0, .int 0], m_ob 4 [.int 0, .int 0, .int 3, .int 0, .int 0, .int 0, .int 0, .int 0], m_ob 0 [.ref 4, .ref 5, .ref 6, .ref 7], m_ia 4 (ltc 4 50), m_ia 4 (ltc 4 20), m_ia 4 z0, m_ia 4 z0, m_ob 2 [.ref 9, .ref 10, .null, .null, .int 0], m_ia 30 z0, m_ia 30 z0]) X dX2_init_17 fl_X2_15 ff_X2_1 rfl fw_X2_15 (fun _ => rfl) (fun _ => rfl) rfl rfl rfl rfl ?_
  refine m_aload_n X dX2_init_20 rfl rfl ?_
  refine m_bipush (v := 30) X dX2_init_21 (by decide) rfl ?_
  refine m_newa (ty := .int) (N := 30) (a0 := (30, .inl z0)) X dX2_init_23 aw_int rfl ⟨rfl, _, rfl⟩ (fun _ => rfl) (by decide) (by decide) (by decide) rfl rfl (Nat.le_of_ble_eq_true rfl) (Nat.le_of_ble_eq_true rfl) rfl ?_
  refine m_hp (h1 := [m_ob 5 [.null, .null, .null, .null, .null, .long 0], m_ob 1 [.ref 2, .ref 3, .null, .null, .int 0, .int 0, .int 0, .int 0, .int 0, .int 0, .int 0, .int 0, .int 0, .int 0, .int 0, .int 0], m_ob 4 [.int 0, .int 0, .int 3, .int 0, .int 0, .int 0, .int 0, .int 0], m_ob 0 [.ref 4, .ref 5, .ref 6, .ref 7], m_ia 4 (ltc 4 50), m_ia 4 (ltc 4 20), m_ia 4 z0, m_ia 4 z0, m_ob 2 [.ref 9, .ref 10, .null, .null, .int 0], m_ia 30 z0, m_ia 30 z0, m_ia 30 z0]) rfl ?_
  refine m_putR (h1 := [m_ob 5 [.null, .null, .null, .null, .null, .long 0], m_ob 1 [.ref 2, .ref 3, .null, .null, .int 0, .int 0, .int 0, .int 0, .int 0, .int 0, .int 0, .int 0, .int 0, .int 0, .int 0, .int 0], m_ob 4 [.int 0, .int 0, .int 3, .int 0, .int 0, .int 0, .int 0, .int 0], m_ob 0 [.ref 4, .ref 5, .ref 6, .ref 7], m_ia 4 (ltc 4 50), m_ia 4 (ltc 4 20), m_ia 4 z0, m_ia 4 z0, m_ob 2 [.ref 9, .ref 10, .ref 11, .null, .int 0], m_ia 30 z0, m_ia 30 z0, m_ia 30 z0]) X dX2_init_25 fl_X2_18 ff_X2_2 rfl fw_X2_18 (fun _ => rfl) (fun _ => rfl) rfl rfl rfl rfl ?_
  refine m_aload_n X dX2_init_28 rfl rfl ?_
  refine m_sipush (v := 600) X dX2_init_29 (by decide) rfl ?_
  refine m_newa (ty := .int) (N := 600) (a0 := (600, .inl z0)) X dX2_init_32 aw_int rfl ⟨rfl, _, rfl⟩ (fun _ => rfl) (by decide) (by decide) (by decide) rfl rfl (Nat.le_of_ble_eq_true rfl) (Nat.le_of_ble_eq_true rfl) rfl ?_
  refine m_hp (h1 := [m_ob 5 [.null, .null, .null, .null, .null, .long 0], m_ob 1 [.ref 2, .ref 3, .null, .null, .int 0, .int 0, .int 0, .int 0, .int 0, .int 0, .int 0, .int 0, .int 0, .int 0, .int 0, .int 0], m_ob 4 [.int 0, .int 0, .int 3, .int 0, .int 0, .int 0, .int 0, .int 0], m_ob 0 [.ref 4, .ref 5, .ref 6, .ref 7], m_ia 4 (ltc 4 50), m_ia 4 (ltc 4 20), m_ia 4 z0, m_ia 4 z0, m_ob 2 [.ref 9, .ref 10, .ref 11, .null, .int 0], m_ia 30 z0, m_ia 30 z0, m_ia 30 z0, m_ia 600 z0]) rfl ?_
  refine m_putR (h1 := [m_ob 5 [.null, .null, .null, .null, .null, .long 0], m_ob 1 [.ref 2, .ref 3, .null, .null, .int 0, .int 0, .int 0, .int 0, .int 0, .int 0, .int 0, .int 0, .int 0, .int 0, .int 0, .int 0], m_ob 4 [.int 0, .int 0, .int 3, .int 0, .int 0, .int 0, .int 0, .int 0], m_ob 0 [.ref 4, .ref 5, .ref 6, .ref 7], m_ia 4 (ltc 4 50), m_ia 4 (ltc 4 20), m_ia 4 z0, m_ia 4 z0, m_ob 2 [.ref 9, .ref 10, .ref 11, .ref 12, .int 0], m_ia 30 z0, m_ia 30 z0, m_ia 30 z0, m_ia 600 z0]) X dX2_init_34 fl_X2_21 ff_X2_3 rfl fw_X2_21 (fun _ => rfl) (fun _ => rfl) rfl rfl rfl rfl ?_
  exact m_vret X dX2_init_37 rfl rfl (Nat.le_of_ble_eq_true rfl) (Nat.le_of_ble_eq_true rfl) rfl
set_option maxHeartbeats 4000000 in
theorem c_X3_init  : m_Ctr M_X3_init [.ref 13] [m_ob 5 [.null, .null, .null, .null, .null, .long 0], m_ob 1 [.ref 2, .ref 3, .ref 8, .null, .int 0, .int 0, .int 0, .int 0, .int 0, .int 0, .int 0, .int 0, .int 0, .int 0, .int 0, .int 0], m_ob 4 [.int 0, .int 0, .int 3, .int 0, .int 0, .int 0, .int 0, .int 0], m_ob 0 [.ref 4, .ref 5, .ref 6, .ref 7], m_ia 4 (ltc 4 50), m_ia 4 (ltc 4 20), m_ia 4 z0, m_ia 4 z0, m_ob 2 [.ref 9, .ref 10, .ref 11, .ref 12, .int 0], m_ia 30 z0, m_ia 30 z0, m_ia 30 z0, m_ia 600 z0, m_ob 3 [.null, .null, .null, .int 0]] (.inl (none, [m_ob 5 [.null, .null, .null, .null, .null, .long 0], m_ob 1 [.ref 2, .ref 3, .ref 8, .null, .int 0, .int 0, .int 0, .int 0, .int 0, .int 0, .int 0, .int 0, .int 0, .int 0, .int 0, .int 0], m_ob 4 [.int 0, .int 0, .int 3, .int 0, .int 0, .int 0, .int 0, .int 0], m_ob 0 [.ref 4, .ref 5, .ref 6, .ref 7], m_ia 4 (ltc 4 50), m_ia 4 (ltc 4 20), m_ia 4 z0, m_ia 4 z0, m_ob 2 [.ref 9, .ref 10, .ref 11, .ref 12, .int 0], m_ia 30 z0, m_ia 30 z0, m_ia 30 z0, m_ia 600 z0, m_ob 3 [.ref 14, .ref 15, .ref 16, .int 0], m_ia 6 z0, m_ia 6 z0, m_ia 6 z0])) := by
  refine m_intro (by decide +kernel) (Nat.le_of_ble_eq_true rfl) (fun {D cI cL sa A p l e s m args below meth c ad} X => ?_)
  refine m_aload_n X dX3_init_0 rfl rfl ?_
  refine m_obI X dX3_init_1 lm_X3_3 (Nat.le_of_ble_eq_true rfl) (Nat.le_of_ble_eq_true rfl) rfl ?_
  refine m_aload_n X dX3_init_4 rfl rfl ?_
  refine m_bipush (v := 6) X dX3_init_5 (by decide) rfl ?_
  refine m_newa (ty := .int) (N := 6) (a0 := (6, .inl z0)) X dX3_init_7 aw_int rfl ⟨rfl, _, rfl⟩ (fun _ => rfl) (by decide) (by decide) (by decide) rfl rfl (Nat.le_of_ble_eq_true rfl) (Nat.le_of_ble_eq_true rfl) rfl ?_
  refine m_hp (h1 := [m_ob 5 [.null, .null, .null, .null, .null, .long 0], m_ob 1 [.ref 2, .ref 3, .ref 8, .null, .int 0, .int 0, .int 0, .int 0, .int 0, .int 0, .int 0, .int 0, .int 0, .int 0, .int 0, .int 0], m_ob 4 [.int 0, .int 0, .int 3, .int 0, .int 0, .int 0, .int 0, .int 0], m_ob 0 [.ref 4, .ref 5, .ref 6, .ref 7], m_ia 4 (ltc 4 50), m_ia 4 (ltc 4 20), m_ia 4 z0, m_ia 4 z0, m_ob 2 [.ref 9, .ref 10, .ref 11, .ref 12, .int 0], m_ia 30 z0, m_ia 30 z0, m_ia 30 z0, m_ia 600 z0, m_ob 3 [.null, .null, .null, .int 0], m_ia 6 z0]) rfl ?_
  refine m_putR (h1 := [m_ob 5 [.null, .null, .null, .null, .null, .long 0], m_ob 1 [.ref 2, .ref 3, .ref 8, .null, .int 0, .int 0, .int 0, .int 0, .int 0, .int 0, .int 0, .int 0, .int 0, .int 0, .int 0, .int 0], m_ob 4 [.int 0, .int 0, .int 3, .int 0, .int 0, .int 0, .int 0, .int 0], m_ob 0 [.ref 4, .ref 5, .ref 6, .ref 7], m_ia 4 (ltc 4 50), m_ia 4 (ltc 4 20), m_ia 4 z0, m_ia 4 z0, m_ob 2 [.ref 9, .ref 10, .ref 11, .ref 12, .int 0], m_ia 30 z0, m_ia 30 z0, m_ia 30 z0, m_ia 600 z0, m_ob 3 [.ref 14, .null, .null, .int 0], m_ia 6 z0]) X dX3_init_9 fl_X3_9 ff_X3_0 rfl fw_X3_9 (fun _ => rfl) (fun _ => rfl) rfl rfl rfl rfl ?_
  refine m_aload_n X dX3_init_12 rfl rfl ?_
  refine m_bipush (v := 6) X dX3_init_13 (by decide) rfl ?_
  refine m_newa (ty := .int) (N := 6) (a0 := (6, .inl z0)) X dX3_init_15 aw_int rfl ⟨rfl, _, rfl⟩ (fun _ => rfl) (by decide) (by decide) (by decide) rfl rfl (Nat.le_of_ble_eq_true rfl) (Nat.le_of_ble_eq_true rfl) rfl ?_
  refine m_hp (h1 := [m_ob 5 [.null, .null, .null, .null, .null, .long 0], m_ob 1 [.ref 2, .ref 3, .ref 8, .null, .int 0, .int 0, .int 0, .int 0, .int 0, .int 0, .int 0, .int 0, .int 0, .int 0, .int 0, .int 0], m_ob 4 [.int 0, .int 0, .int 3, .int 0, .int 0, .int 0, .int 0, .int 0], m_ob 0 [.ref 4, .ref 5, .ref 6, .ref 7], m_ia 4 (ltc 4 50), m_ia 4 (ltc 4 20), m_ia 4 z0, m_ia 4 z0, m_ob 2 [.ref 9, .ref 10, .ref 11, .ref 12, .int 0], m_ia 30 z0, m_ia 30 z0, m_ia 30 z0, m_ia 600 z0, m_ob 3 [.ref 14, .null, .null, .int 0], m_ia 6 z0, m_ia 6 z0]) rfl ?_
  refine m_putR (h1 := [m_ob 5 [.null, .null, .null, .null, .null, .long 0], m_ob 1 [.ref 2, .ref 3, .ref 8, .null, .int 0, .int 0, .int 0, .int 0, .int 0, .int 0, .int 0, .int 0, .int 0, .int 0, .int 0, .int 0], m_ob 4 [.int 0, .int 0, .int 3, .int 0, .int 0, .int 0, .int 0, .int 0], m_ob 0 [.ref 4, .ref 5, .ref 6, .ref 7], m_ia 4 (ltc 4 50), m_ia 4 (ltc 4 20), m_ia 4 z0, m_ia 4 z0, m_ob 2 [.ref 9, .ref 10, .ref 11, .ref 12, .int 0], m_ia 30 z0, m_ia 30 z0, m_ia 30 z0, m_ia 600 z0, m_ob 3 [.ref 14, .ref 15, .null, .int 0], m_ia 6 z0, m_ia 6 z0]) X dX3_init_17 fl_X3_15 ff_X3_1 rfl fw_X3_15 (fun _ => rfl) (fun _ => rfl) rfl rfl rfl rfl ?_
  refine m_aload_n X dX3_init_20 rfl rfl ?_
  refine m_bipush (v := 6) X dX3_init_21 (by decide) rfl ?_
  refine m_newa (ty := .int) (N := 6) (a0 := (6, .inl z0)) X dX3_init_23 aw_int rfl ⟨rfl, _, rfl⟩ (fun _ => rfl) (by decide) (by decide) (by decide) rfl rfl (Nat.le_of_ble_eq_true rfl) (Nat.le_of_ble_eq_true rfl) rfl ?_
  refine m_hp (h1 := [m_ob 5 [.null, .null, .null, .null, .null, .long 0], m_ob 1 [.ref 2, .ref 3, .ref 8, .null, .int 0, .int 0, .int 0, .int 0, .int 0, .int 0, .int 0, .int 0, .int 0, .int 0, .int 0, .int 0], m_ob 4 [.int 0, .int 0, .int 3, .int 0, .int 0, .int 0, .int 0, .int 0], m_ob 0 [.ref 4, .ref 5, .ref 6, .ref 7], m_ia 4 (ltc 4 50), m_ia 4 (ltc 4 20), m_ia 4 z0, m_ia 4 z0, m_ob 2 [.ref 9, .ref 10, .ref 11, .ref 12, .int 0], m_ia 30 z0, m_ia 30 z0, m_ia 30 z0, m_ia 600 z0, m_ob 3 [.ref 14, .ref 15, .null, .int 0], m_ia 6 z0, m_ia 6 z0, m_ia 6 z0]) rfl ?_
  refine m_putR (h1 := [m_ob 5 [.null, .null, .null, .null, .null, .long 0], m_ob 1 [.ref 2, .ref 3, .ref 8, .null, .int 0, .int 0, .int 0, .int 0, .int 0, .int 0, .int 0, .int 0, .int 0, .int 0, .int 0, .int 0], m_ob 4 [.int 0, .int 0, .int 3, .int 0, .int 0, .int 0, .int 0, .int 0], m_ob 0 [.ref 4, .ref 5, .ref 6, .ref 7], m_ia 4 (ltc 4 50), m_ia 4 (ltc 4 20), m_ia 4 z0, m_ia 4 z0, m_ob 2 [.ref 9, .ref 10, .ref 11, .ref 12, .int 0], m_ia 30 z0, m_ia 30 z0, m_ia 30 z0, m_ia 600 z0, m_ob 3 [.ref 14, .ref 15, .ref 16, .int 0], m_ia 6 z0, m_ia 6 z0, m_ia 6 z0]) X dX3_init_25 fl_X3_18 ff_X3_2 rfl fw_X3_18 (fun _ => rfl) (fun _ => rfl) rfl rfl rfl rfl ?_
  exact m_vret X dX3_init_28 rfl rfl (Nat.le_of_ble_eq_true rfl) (Nat.le_of_ble_eq_true rfl) rfl
set_option maxHeartbeats 4000000 in
theorem c_X1_init  : m_Ctr M_X1_init [.ref 1] [m_ob 5 [.null, .null, .null, .null, .null, .long 0], m_ob 1 [.null, .null, .null, .null, .int 0, .int 0, .int 0, .int 0, .int 0, .int 0, .int 0, .int 0, .int 0, .int 0, .int 0, .int 0]] (.inl (none, [m_ob 5 [.null, .null, .null, .null, .null, .long 0], m_ob 1 [.ref 2, .ref 3, .ref 8, .ref 13, .int 0, .int 0, .int 0, .int 0, .int 0, .int 0, .int 0, .int 0, .int 0, .int 0, .int 0, .int 0], m_ob 4 [.int 0, .int 0, .int 3, .int 0, .int 0, .int 0, .int 0, .int 0], m_ob 0 [.ref 4, .ref 5, .ref 6, .ref 7], m_ia 4 (ltc 4 50), m_ia 4 (ltc 4 20), m_ia 4 z0, m_ia 4 z0, m_ob 2 [.ref 9, .ref 10, .ref 11, .ref 12, .int 0], m_ia 30 z0, m_ia 30 z0, m_ia 30 z0, m_ia 600 z0, m_ob 3 [.ref 14, .ref 15, .ref 16, .int 0], m_ia 6 z0, m_ia 6 z0, m_ia 6 z0])) := by
  refine m_intro (by decide +kernel) (Nat.le_of_ble_eq_true rfl) (fun {D cI cL sa A p l e s m args below meth c ad} X => ?_)
  refine m_aload_n X dX1_init_0 rfl rfl ?_
  refine m_obI X dX1_init_1 lm_X1_3 (Nat.le_of_ble_eq_true rfl) (Nat.le_of_ble_eq_true rfl) rfl ?_
  refine m_aload_n X dX1_init_4 rfl rfl ?_
  refine m_new (ci := 4) (C := RX4) (T := TX4) (N := 8) (fs := [.int 0, .int 0, .int 0, .int 0, .int 0, .int 0, .int 0, .int 0]) X dX1_init_5 rfl nc_X1_9 ni_X4 nn_X4 tyX4 tyX4_ok (by decide +kernel) rfl rfl rfl (Nat.le_of_ble_eq_true rfl) (Nat.le_of_ble_eq_true rfl) rfl ?_
  refine m_hp (h1 := [m_ob 5 [.null, .null, .null, .null, .null, .long 0], m_ob 1 [.null, .null, .null, .null, .int 0, .int 0, .int 0, .int 0, .int 0, .int 0, .int 0, .int 0, .int 0, .int 0, .int 0, .int 0], m_ob 4 [.int 0, .int 0, .int 0, .int 0, .int 0, .int 0, .int 0, .int 0]]) rfl ?_
  refine m_dup X dX1_init_8 rfl rfl ?_
  refine m_callI (as := []) (v := none) X dX1_init_9 lk_X1_11 mk_X4_init in_X4_init rfl rfl c_X4_init rfl rfl (Nat.le_of_ble_eq_true rfl) rfl (Nat.le_of_ble_eq_true rfl) (Nat.le_of_ble_eq_true rfl) (Nat.le_of_ble_eq_true rfl) (Nat.le_of_ble_eq_true rfl) (Nat.le_of_ble_eq_true rfl) rfl ?_
  refine m_hp (h1 := [m_ob 5 [.null, .null, .null, .null, .null, .long 0], m_ob 1 [.null, .null, .null, .null, .int 0, .int 0, .int 0, .int 0, .int 0, .int 0, .int 0, .int 0, .int 0, .int 0, .int 0, .int 0], m_ob 4 [.int 0, .int 0, .int 3, .int 0, .int 0, .int 0, .int 0, .int 0]]) rfl ?_
  refine m_putR (h1 := [m_ob 5 [.null, .null, .null, .null, .null, .long 0], m_ob 1 [.ref 2, .null, .null, .null, .int 0, .int 0, .int 0, .int 0, .int 0, .int 0, .int 0, .int 0, .int 0, .int 0, .int 0, .int 0], m_ob 4 [.int 0, .int 0, .int 3, .int 0, .int 0, .int 0, .int 0, .int 0]]) X dX1_init_12 fl_X1_12 ff_X1_0 rfl fw_X1_12 (fun _ => rfl) (fun _ => rfl) rfl rfl rfl rfl ?_
  refine m_aload_n X dX1_init_15 rfl rfl ?_
  refine m_new (ci := 0) (C := RX0) (T := TX0) (N := 4) (fs := [.null, .null, .null, .null]) X dX1_init_16 rfl nc_X1_18 ni_X0 nn_X0 tyX0 tyX0_ok (by decide +kernel) rfl rfl rfl (Nat.le_of_ble_eq_true rfl) (Nat.le_of_ble_eq_true rfl) rfl ?_
  refine m_hp (h1 := [m_ob 5 [.null, .null, .null, .null, .null, .long 0], m_ob 1 [.ref 2, .null, .null, .null, .int 0, .int 0, .int 0, .int 0, .int 0, .int 0, .int 0, .int 0, .int 0, .int 0, .int 0, .int 0], m_ob 4 [.int 0, .int 0, .int 3, .int 0, .int 0, .int 0, .int 0, .int 0], m_ob 0 [.null, .null, .null, .null]]) rfl ?_
  refine m_dup X dX1_init_19 rfl rfl ?_
  refine m_callI (as := []) (v := none) X dX1_init_20 lk_X1_20 mk_X0_init in_X0_init rfl rfl c_X0_init rfl rfl (Nat.le_of_ble_eq_true rfl) rfl (Nat.le_of_ble_eq_true rfl) (Nat.le_of_ble_eq_true rfl) (Nat.le_of_ble_eq_true rfl) (Nat.le_of_ble_eq_true rfl) (Nat.le_of_ble_eq_true rfl) rfl ?_
  refine m_hp (h1 := [m_ob 5 [.null, .null, .null, .null, .null, .long 0], m_ob 1 [.ref 2, .null, .null, .null, .int 0, .int 0, .int 0, .int 0, .int 0, .int 0, .int 0, .int 0, .int 0, .int 0, .int 0, .int 0], m_ob 4 [.int 0, .int 0, .int 3, .int 0, .int 0, .int 0, .int 0, .int 0], m_ob 0 [.ref 4, .ref 5, .ref 6, .ref 7], m_ia 4 (ltc 4 50), m_ia 4 (ltc 4 20), m_ia 4 z0, m_ia 4 z0]) rfl ?_
  refine m_putR (h1 := [m_ob 5 [.null, .null, .null, .null, .null, .long 0], m_ob 1 [.ref 2, .ref 3, .null, .null, .int 0, .int 0, .int 0, .int 0, .int 0, .int 0, .int 0, .int 0, .int 0, .int 0, .int 0, .int 0], m_ob 4 [.int 0, .int 0, .int 3, .int 0, .int 0, .int 0, .int 0, .int 0], m_ob 0 [.ref 4, .ref 5, .ref 6, .ref 7], m_ia 4 (ltc 4 50), m_ia 4 (ltc 4 20), m_ia 4 z0, m_ia 4 z0]) X dX1_init_23 fl_X1_21 ff_X1_1 rfl fw_X1_21 (fun _ => rfl) (fun _ => rfl) rfl rfl rfl rfl ?_
  refine m_aload_n X dX1_init_26 rfl rfl ?_
  refine m_new (ci := 2) (C := RX2) (T := TX2) (N := 5) (fs := [.null, .null, .null, .null, .int 0]) X dX1_init_27 rfl nc_X1_25 ni_X2 nn_X2 tyX2 tyX2_ok (by decide +kernel) rfl rfl rfl (Nat.le_of_ble_eq_true rfl) (Nat.le_of_ble_eq_true rfl) rfl ?_
  refine m_hp (h1 := [m_ob 5 [.null, .null, .null, .null, .null, .long 0], m_ob 1 [.ref 2, .ref 3, .null, .null, .int 0, .int 0, .int 0, .int 0, .int 0, .int 0, .int 0, .int 0, .int 0, .int 0, .int 0, .int 0], m_ob 4 [.int 0, .int 0, .int 3, .int 0, .int 0, .int 0, .int 0, .int 0], m_ob 0 [.ref 4, .ref 5, .ref 6, .ref 7], m_ia 4 (ltc 4 50), m_ia 4 (ltc 4 20), m_ia 4 z0, m_ia 4 z0, m_ob 2 [.null, .null, .null, .null, .int 0]]) rfl ?_
  refine m_dup X dX1_init_30 rfl rfl ?_
  refine m_callI (as := []) (v := none) X dX1_init_31 lk_X1_27 mk_X2_init in_X2_init rfl rfl c_X2_init rfl rfl (Nat.le_of_ble_eq_true rfl) rfl (Nat.le_of_ble_eq_true rfl) (Nat.le_of_ble_eq_true rfl) (Nat.le_of_ble_eq_true rfl) (Nat.le_of_ble_eq_true rfl) (Nat.le_of_ble_eq_true rfl) rfl ?_
  refine m_hp (h1 := [m_ob 5 [.null, .null, .null, .null, .null, .long 0], m_ob 1 [.ref 2, .ref 3, .null, .null, .int 0, .int 0, .int 0, .int 0, .int 0, .int 0, .int 0, .int 0, .int 0, .int 0, .int 0, .int 0], m_ob 4 [.int 0, .int 0, .int 3, .int 0, .int 0, .int 0, .int 0, .int 0], m_ob 0 [.ref 4, .ref 5, .ref 6, .ref 7], m_ia 4 (ltc 4 50), m_ia 4 (ltc 4 20), m_ia 4 z0, m_ia 4 z0, m_ob 2 [.ref 9, .ref 10, .ref 11, .ref 12, .int 0], m_ia 30 z0, m_ia 30 z0, m_ia 30 z0, m_ia 600 z0]) rfl ?_
  refine m_putR (h1 := [m_ob 5 [.null, .null, .null, .null, .null, .long 0], m_ob 1 [.ref 2, .ref 3, .ref 8, .null, .int 0, .int 0, .int 0, .int 0, .int 0, .int 0, .int 0, .int 0, .int 0, .int 0, .int 0, .int 0], m_ob 4 [.int 0, .int 0, .int 3, .int 0, .int 0, .int 0, .int 0, .int 0], m_ob 0 [.ref 4, .ref 5, .ref 6, .ref 7], m_ia 4 (ltc 4 50), m_ia 4 (ltc 4 20), m_ia 4 z0, m_ia 4 z0, m_ob 2 [.ref 9, .ref 10, .ref 11, .ref 12, .int 0], m_ia 30 z0, m_ia 30 z0, m_ia 30 z0, m_ia 600 z0]) X dX1_init_34 fl_X1_28 ff_X1_2 rfl fw_X1_28 (fun _ => rfl) (fun _ => rfl) rfl rfl rfl rfl ?_
  refine m_aload_n X dX1_init_37 rfl rfl ?_
  refine m_new (ci := 3) (C := RX3) (T := TX3) (N := 4) (fs := [.null, .null, .null, .int 0]) X dX1_init_38 rfl nc_X1_32 ni_X3 nn_X3 tyX3 tyX3_ok (by decide +kernel) rfl rfl rfl (Nat.le_of_ble_eq_true rfl) (Nat.le_of_ble_eq_true rfl) rfl ?_
  refine m_hp (h1 := [m_ob 5 [.null, .null, .null, .null, .null, .long 0], m_ob 1 [.ref 2, .ref 3, .ref 8, .null, .int 0, .int 0, .int 0, .int 0, .int 0, .int 0, .int 0, .int 0, .int 0, .int 0, .int 0, .int 0], m_ob 4 [.int 0, .int 0, .int 3, .int 0, .int 0, .int 0, .int 0, .int 0], m_ob 0 [.ref 4, .ref 5, .ref 6, .ref 7], m_ia 4 (ltc 4 50), m_ia 4 (ltc 4 20), m_ia 4 z0, m_ia 4 z0, m_ob 2 [.ref 9, .ref 10, .ref 11, .ref 12, .int 0], m_ia 30 z0, m_ia 30 z0, m_ia 30 z0, m_ia 600 z0, m_ob 3 [.null, .null, .null, .int 0]]) rfl ?_
  refine m_dup X dX1_init_41 rfl rfl ?_
  refine m_callI (as := []) (v := none) X dX1_init_42 lk_X1_34 mk_X3_init in_X3_init rfl rfl c_X3_init rfl rfl (Nat.le_of_ble_eq_true rfl) rfl (Nat.le_of_ble_eq_true rfl) (Nat.le_of_ble_eq_true rfl) (Nat.le_of_ble_eq_true rfl) (Nat.le_of_ble_eq_true rfl) (Nat.le_of_ble_eq_true rfl) rfl ?_
  refine m_hp (h1 := [m_ob 5 [.null, .null, .null, .null, .null, .long 0], m_ob 1 [.ref 2, .ref 3, .ref 8, .null, .int 0, .int 0, .int 0, .int 0, .int 0, .int 0, .int 0, .int 0, .int 0, .int 0, .int 0, .int 0], m_ob 4 [.int 0, .int 0, .int 3, .int 0, .int 0, .int 0, .int 0, .int 0], m_ob 0 [.ref 4, .ref 5, .ref 6, .ref 7], m_ia 4 (ltc 4 50), m_ia 4 (ltc 4 20), m_ia 4 z0, m_ia 4 z0, m_ob 2 [.ref 9, .ref 10, .ref 11, .ref 12, .int 0], m_ia 30 z0, m_ia 30 z0, m_ia 30 z0, m_ia 600 z0, m_ob 3 [.ref 14, .ref 15, .ref 16, .int 0], m_ia 6 z0, m_ia 6 z0, m_ia 6 z0]) rfl ?_
  refine m_putR (h1 := [m_ob 5 [.null, .null, .null, .null, .null, .long 0], m_ob 1 [.ref 2, .ref 3, .ref 8, .ref 13, .int 0, .int 0, .int 0, .int 0, .int 0, .int 0, .int 0, .int 0, .int 0, .int 0, .int 0, .int 0], m_ob 4 [.int 0, .int 0, .int 3, .int 0, .int 0, .int 0, .int 0, .int 0], m_ob 0 [.ref 4, .ref 5, .ref 6, .ref 7], m_ia 4 (ltc 4 50), m_ia 4 (ltc 4 20), m_ia 4 z0, m_ia 4 z0, m_ob 2 [.ref 9, .ref 10, .ref 11, .ref 12, .int 0], m_ia 30 z0, m_ia 30 z0, m_ia 30 z0, m_ia 600 z0, m_ob 3 [.ref 14, .ref 15, .ref 16, .int 0], m_ia 6 z0, m_ia 6 z0, m_ia 6 z0]) X dX1_init_45 fl_X1_35 ff_X1_3 rfl fw_X1_35 (fun _ => rfl) (fun _ => rfl) rfl rfl rfl rfl ?_
  refine m_aload_n X dX1_init_48 rfl rfl ?_
  refine m_iconst (v := 0) X dX1_init_49 (by decide) rfl ?_
  refine m_puti (h1 := [m_ob 5 [.null, .null, .null, .null, .null, .long 0], m_ob 1 [.ref 2, .ref 3, .ref 8, .ref 13, .int 0, .int 0, .int 0, .int 0, .int 0, .int 0, .int 0, .int 0, .int 0, .int 0, .int 0, .int 0], m_ob 4 [.int 0, .int 0, .int 3, .int 0, .int 0, .int 0, .int 0, .int 0], m_ob 0 [.ref 4, .ref 5, .ref 6, .ref 7], m_ia 4 (ltc 4 50), m_ia 4 (ltc 4 20), m_ia 4 z0, m_ia 4 z0, m_ob 2 [.ref 9, .ref 10, .ref 11, .ref 12, .int 0], m_ia 30 z0, m_ia 30 z0, m_ia 30 z0, m_ia 600 z0, m_ob 3 [.ref 14, .ref 15, .ref 16, .int 0], m_ia 6 z0, m_ia 6 z0, m_ia 6 z0]) X dX1_init_50 fl_X1_39 fp_X1_4 rfl rfl rfl rfl ?_
  refine m_aload_n X dX1_init_53 rfl rfl ?_
  refine m_iconst (v := 0) X dX1_init_54 (by decide) rfl ?_
  refine m_puti (h1 := [m_ob 5 [.null, .null, .null, .null, .null, .long 0], m_ob 1 [.ref 2, .ref 3, .ref 8, .ref 13, .int 0, .int 0, .int 0, .int 0, .int 0, .int 0, .int 0, .int 0, .int 0, .int 0, .int 0, .int 0], m_ob 4 [.int 0, .int 0, .int 3, .int 0, .int 0, .int 0, .int 0, .int 0], m_ob 0 [.ref 4, .ref 5, .ref 6, .ref 7], m_ia 4 (ltc 4 50), m_ia 4 (ltc 4 20), m_ia 4 z0, m_ia 4 z0, m_ob 2 [.ref 9, .ref 10, .ref 11, .ref 12, .int 0], m_ia 30 z0, m_ia 30 z0, m_ia 30 z0, m_ia 600 z0, m_ob 3 [.ref 14, .ref 15, .ref 16, .int 0], m_ia 6 z0, m_ia 6 z0, m_ia 6 z0]) X dX1_init_55 fl_X1_43 fp_X1_5 rfl rfl rfl rfl ?_
  refine m_aload_n X dX1_init_58 rfl rfl ?_
  refine m_iconst (v := 0) X dX1_init_59 (by decide) rfl ?_
  refine m_puti (h1 := [m_ob 5 [.null, .null, .null, .null, .null, .long 0], m_ob 1 [.ref 2, .ref 3, .ref 8, .ref 13, .int 0, .int 0, .int 0, .int 0, .int 0, .int 0, .int 0, .int 0, .int 0, .int 0, .int 0, .int 0], m_ob 4 [.int 0, .int 0, .int 3, .int 0, .int 0, .int 0, .int 0, .int 0], m_ob 0 [.ref 4, .ref 5, .ref 6, .ref 7], m_ia 4 (ltc 4 50), m_ia 4 (ltc 4 20), m_ia 4 z0, m_ia 4 z0, m_ob 2 [.ref 9, .ref 10, .ref 11, .ref 12, .int 0], m_ia 30 z0, m_ia 30 z0, m_ia 30 z0, m_ia 600 z0, m_ob 3 [.ref 14, .ref 15, .ref 16, .int 0], m_ia 6 z0, m_ia 6 z0, m_ia 6 z0]) X dX1_init_60 fl_X1_46 fp_X1_6 rfl rfl rfl rfl ?_
  exact m_vret X dX1_init_63 rfl rfl (Nat.le_of_ble_eq_true rfl) (Nat.le_of_ble_eq_true rfl) rfl
set_option maxHeartbeats 4000000 in
theorem c_X5_init  : m_Ctr M_X5_init [.ref 0] [m_ob 5 [.null, .null, .null, .null, .null, .long 0]] (.inl (none, [m_ob 5 [.ref 1, .ref 2, .ref 3, .ref 8, .ref 13, .long 0], m_ob 1 [.ref 2, .ref 3, .ref 8, .ref 13, .int 0, .int 0, .int 0, .int 0, .int 0, .int 0, .int 0, .int 0, .int 0, .int 0, .int 0, .int 0], m_ob 4 [.int 0, .int 0, .int 3, .int 0, .int 0, .int 0, .int 0, .int 0], m_ob 0 [.ref 4, .ref 5, .ref 6, .ref 7], m_ia 4 (ltc 4 50), m_ia 4 (ltc 4 20), m_ia 4 z0, m_ia 4 z0, m_ob 2 [.ref 9, .ref 10, .ref 11, .ref 12, .int 0], m_ia 30 z0, m_ia 30 z0, m_ia 30 z0, m_ia 600 z0, m_ob 3 [.ref 14, .ref 15, .ref 16, .int 0], m_ia 6 z0, m_ia 6 z0, m_ia 6 z0])) := by
  refine m_intro (by decide +kernel) (Nat.le_of_ble_eq_true rfl) (fun {D cI cL sa A p l e s m args below meth c ad} X => ?_)
  refine m_aload_n X dX5_init_0 rfl rfl ?_
  refine m_obI X dX5_init_1 lm_X5_1 (Nat.le_of_ble_eq_true rfl) (Nat.le_of_ble_eq_true rfl) rfl ?_
  refine m_aload_n X dX5_init_4 rfl rfl ?_
  refine m_new (ci := 1) (C := RX1) (T := TX1) (N := 16) (fs := [.null, .null, .null, .null, .int 0, .int 0, .int 0, .int 0, .int 0, .int 0, .int 0, .int 0, .int 0, .int 0, .int 0, .int 0]) X dX5_init_5 rfl nc_X5_7 ni_X1 nn_X1 tyX1 tyX1_ok (by decide +kernel) rfl rfl rfl (Nat.le_of_ble_eq_true rfl) (Nat.le_of_ble_eq_true rfl) rfl ?_
  refine m_hp (h1 := [m_ob 5 [.null, .null, .null, .null, .null, .long 0], m_ob 1 [.null, .null, .null, .null, .int 0, .int 0, .int 0, .int 0, .int 0, .int 0, .int 0, .int 0, .int 0, .int 0, .int 0, .int 0]]) rfl ?_
  refine m_dup X dX5_init_8 rfl rfl ?_
  refine m_callI (as := []) (v := none) X dX5_init_9 lk_X5_9 mk_X1_init in_X1_init rfl rfl c_X1_init rfl rfl (Nat.le_of_ble_eq_true rfl) rfl (Nat.le_of_ble_eq_true rfl) (Nat.le_of_ble_eq_true rfl) (Nat.le_of_ble_eq_true rfl) (Nat.le_of_ble_eq_true rfl) (Nat.le_of_ble_eq_true rfl) rfl ?_
  refine m_hp (h1 := [m_ob 5 [.null, .null, .null, .null, .null, .long 0], m_ob 1 [.ref 2, .ref 3, .ref 8, .ref 13, .int 0, .int 0, .int 0, .int 0, .int 0, .int 0, .int 0, .int 0, .int 0, .int 0, .int 0, .int 0], m_ob 4 [.int 0, .int 0, .int 3, .int 0, .int 0, .int 0, .int 0, .int 0], m_ob 0 [.ref 4, .ref 5, .ref 6, .ref 7], m_ia 4 (ltc 4 50), m_ia 4 (ltc 4 20), m_ia 4 z0, m_ia 4 z0, m_ob 2 [.ref 9, .ref 10, .ref 11, .ref 12, .int 0], m_ia 30 z0, m_ia 30 z0, m_ia 30 z0, m_ia 600 z0, m_ob 3 [.ref 14, .ref 15, .ref 16, .int 0], m_ia 6 z0, m_ia 6 z0, m_ia 6 z0]) rfl ?_
  refine m_putR (h1 := [m_ob 5 [.ref 1, .null, .null, .null, .null, .long 0], m_ob 1 [.ref 2, .ref 3, .ref 8, .ref 13, .int 0, .int 0, .int 0, .int 0, .int 0, .int 0, .int 0, .int 0, .int 0, .int 0, .int 0, .int 0], m_ob 4 [.int 0, .int 0, .int 3, .int 0, .int 0, .int 0, .int 0, .int 0], m_ob 0 [.ref 4, .ref 5, .ref 6, .ref 7], m_ia 4 (ltc 4 50), m_ia 4 (ltc 4 20), m_ia 4 z0, m_ia 4 z0, m_ob 2 [.ref 9, .ref 10, .ref 11, .ref 12, .int 0], m_ia 30 z0, m_ia 30 z0, m_ia 30 z0, m_ia 600 z0, m_ob 3 [.ref 14, .ref 15, .ref 16, .int 0], m_ia 6 z0, m_ia 6 z0, m_ia 6 z0]) X dX5_init_12 fl_X5_10 ff_X5_0 rfl fw_X5_10 (fun _ => rfl) (fun _ => rfl) rfl rfl rfl rfl ?_
  refine m_aload_n X dX5_init_15 rfl rfl ?_
  refine m_aload_n X dX5_init_16 rfl rfl ?_
  refine m_getf X dX5_init_17 fl_X5_10 rfl rfl rfl ?_
  refine m_getf X dX5_init_20 fl_X5_16 rfl rfl rfl ?_
  refine m_putR (h1 := [m_ob 5 [.ref 1, .ref 2, .null, .null, .null, .long 0], m_ob 1 [.ref 2, .ref 3, .ref 8, .ref 13, .int 0, .int 0, .int 0, .int 0, .int 0, .int 0, .int 0, .int 0, .int 0, .int 0, .int 0, .int 0], m_ob 4 [.int 0, .int 0, .int 3, .int 0, .int 0, .int 0, .int 0, .int 0], m_ob 0 [.ref 4, .ref 5, .ref 6, .ref 7], m_ia 4 (ltc 4 50), m_ia 4 (ltc 4 20), m_ia 4 z0, m_ia 4 z0, m_ob 2 [.ref 9, .ref 10, .ref 11, .ref 12, .int 0], m_ia 30 z0, m_ia 30 z0, m_ia 30 z0, m_ia 600 z0, m_ob 3 [.ref 14, .ref 15, .ref 16, .int 0], m_ia 6 z0, m_ia 6 z0, m_ia 6 z0]) X dX5_init_23 fl_X5_20 ff_X5_1 rfl fw_X5_20 (fun _ => rfl) (fun _ => rfl) rfl rfl rfl rfl ?_
  refine m_aload_n X dX5_init_26 rfl rfl ?_
  refine m_aload_n X dX5_init_27 rfl rfl ?_
  refine m_getf X dX5_init_28 fl_X5_10 rfl rfl rfl ?_
  refine m_getf X dX5_init_31 fl_X5_21 rfl rfl rfl ?_
  refine m_putR (h1 := [m_ob 5 [.ref 1, .ref 2, .ref 3, .null, .null, .long 0], m_ob 1 [.ref 2, .ref 3, .ref 8, .ref 13, .int 0, .int 0, .int 0, .int 0, .int 0, .int 0, .int 0, .int 0, .int 0, .int 0, .int 0, .int 0], m_ob 4 [.int 0, .int 0, .int 3, .int 0, .int 0, .int 0, .int 0, .int 0], m_ob 0 [.ref 4, .ref 5, .ref 6, .ref 7], m_ia 4 (ltc 4 50), m_ia 4 (ltc 4 20), m_ia 4 z0, m_ia 4 z0, m_ob 2 [.ref 9, .ref 10, .ref 11, .ref 12, .int 0], m_ia 30 z0, m_ia 30 z0, m_ia 30 z0, m_ia 600 z0, m_ob 3 [.ref 14, .ref 15, .ref 16, .int 0], m_ia 6 z0, m_ia 6 z0, m_ia 6 z0]) X dX5_init_34 fl_X5_25 ff_X5_2 rfl fw_X5_25 (fun _ => rfl) (fun _ => rfl) rfl rfl rfl rfl ?_
  refine m_aload_n X dX5_init_37 rfl rfl ?_
  refine m_aload_n X dX5_init_38 rfl rfl ?_
  refine m_getf X dX5_init_39 fl_X5_10 rfl rfl rfl ?_
  refine m_getf X dX5_init_42 fl_X5_26 rfl rfl rfl ?_
  refine m_putR (h1 := [m_ob 5 [.ref 1, .ref 2, .ref 3, .ref 8, .null, .long 0], m_ob 1 [.ref 2, .ref 3, .ref 8, .ref 13, .int 0, .int 0, .int 0, .int 0, .int 0, .int 0, .int 0, .int 0, .int 0, .int 0, .int 0, .int 0], m_ob 4 [.int 0, .int 0, .int 3, .int 0, .int 0, .int 0, .int 0, .int 0], m_ob 0 [.ref 4, .ref 5, .ref 6, .ref 7], m_ia 4 (ltc 4 50), m_ia 4 (ltc 4 20), m_ia 4 z0, m_ia 4 z0, m_ob 2 [.ref 9, .ref 10, .ref 11, .ref 12, .int 0], m_ia 30 z0, m_ia 30 z0, m_ia 30 z0, m_ia 600 z0, m_ob 3 [.ref 14, .ref 15, .ref 16, .int 0], m_ia 6 z0, m_ia 6 z0, m_ia 6 z0]) X dX5_init_45 fl_X5_30 ff_X5_3 rfl fw_X5_30 (fun _ => rfl) (fun _ => rfl) rfl rfl rfl rfl ?_
  refine m_aload_n X dX5_init_48 rfl rfl ?_
  refine m_aload_n X dX5_init_49 rfl rfl ?_
  refine m_getf X dX5_init_50 fl_X5_10 rfl rfl rfl ?_
  refine m_getf X dX5_init_53 fl_X5_31 rfl rfl rfl ?_
  refine m_putR (h1 := [m_ob 5 [.ref 1, .ref 2, .ref 3, .ref 8, .ref 13, .long 0], m_ob 1 [.ref 2, .ref 3, .ref 8, .ref 13, .int 0, .int 0, .int 0, .int 0, .int 0, .int 0, .int 0, .int 0, .int 0, .int 0, .int 0, .int 0], m_ob 4 [.int 0, .int 0, .int 3, .int 0, .int 0, .int 0, .int 0, .int 0], m_ob 0 [.ref 4, .ref 5, .ref 6, .ref 7], m_ia 4 (ltc 4 50), m_ia 4 (ltc 4 20), m_ia 4 z0, m_ia 4 z0, m_ob 2 [.ref 9, .ref 10, .ref 11, .ref 12, .int 0], m_ia 30 z0, m_ia 30 z0, m_ia 30 z0, m_ia 600 z0, m_ob 3 [.ref 14, .ref 15, .ref 16, .int 0], m_ia 6 z0, m_ia 6 z0, m_ia 6 z0]) X dX5_init_56 fl_X5_35 ff_X5_4 rfl fw_X5_35 (fun _ => rfl) (fun _ => rfl) rfl rfl rfl rfl ?_
  exact m_vret X dX5_init_59 rfl rfl (Nat.le_of_ble_eq_true rfl) (Nat.le_of_ble_eq_true rfl) rfl
def v00 : m_V := fun k => if k = 2 then 3 else 0
def a00 : m_R := fun k => if k = 0 then ltc 4 50 else if k = 1 then ltc 4 20 else z0
theorem hC_new : ([m_ob 5 [.ref 1, .ref 2, .ref 3, .ref 8, .ref 13, .long 0], m_ob 1 [.ref 2, .ref 3, .ref 8, .ref 13, .int 0, .int 0, .int 0, .int 0, .int 0, .int 0, .int 0, .int 0, .int 0, .int 0, .int 0, .int 0], m_ob 4 [.int 0, .int 0, .int 3, .int 0, .int 0, .int 0, .int 0, .int 0], m_ob 0 [.ref 4, .ref 5, .ref 6, .ref 7], m_ia 4 (ltc 4 50), m_ia 4 (ltc 4 20), m_ia 4 z0, m_ia 4 z0, m_ob 2 [.ref 9, .ref 10, .ref 11, .ref 12, .int 0], m_ia 30 z0, m_ia 30 z0, m_ia 30 z0, m_ia 600 z0, m_ob 3 [.ref 14, .ref 15, .ref 16, .int 0], m_ia 6 z0, m_ia 6 z0, m_ia 6 z0] : m_H) = hC v00 a00 0 [] := rfl
theorem c_X5_new : m_Ctr M_X5_init [.ref 0] [m_ob 5 [.null, .null, .null, .null, .null, .long 0]] (.inl (none, hC v00 a00 0 [])) := by
  rw [← hC_new]
  exact c_X5_init
end MQ1
end
section
section MY0
theorem i_subneg (x y : Int32) : x - y = x + -y := by grind
theorem i_p1 (x : Int32) : x + 1 - 1 = x := by grind
end MY0
section MY
/-! the four readings -/
def iR (n : Nat) (v : m_V) (f : Nat → Int32) : Prop := v 23 = nI n ∧ v 3 = nI (min n 4) ∧ f ((n + 3) % 4) = v 4 ∧ f ((n + 2) % 4) = v 5 ∧ f ((n + 1) % 4) = v 6 ∧ f (n % 4) = v 7
theorem mx2_int (x z : Int32) : (mx2 x z).toInt = max x.toInt z.toInt := by
  unfold mx2
  by_cases h : x < z
  · rw [if_pos h]; rw [i_lt] at h; omega
  · rw [if_neg h]; rw [i_lt] at h; omega
theorem mn2_int (x z : Int32) : (mn2 x z).toInt = min x.toInt z.toInt := by
  unfold mn2
  by_cases h : z < x
  · rw [if_pos h]; rw [i_lt] at h; omega
  · rw [if_neg h]; rw [i_lt] at h; omega
theorem amt_pos (n : Int32) : 0 ≤ mx2 0 n := by
  rw [i_le, mx2_int]
  have e0 : (0 : Int32).toInt = 0 := rfl
  omega
theorem nI_mod4 {n : Nat} (hn : n < 2 ^ 30) : nI n - nI n / 4 * 4 = nI (n % 4) := by
  have e4 : (4 : Int32).toInt = 4 := rfl
  have e1 : (nI n).toInt = n := nI_toInt (by omega)
  have e2 : (nI n / 4).toInt = ((n / 4 : Nat) : Int) := by
    rw [Int32.toInt_div, e1, e4, Int.tdiv_eq_ediv_of_nonneg (by omega), Jvm.Kit.bmod32 (by omega) (by omega)]
    omega
  have e3 : (nI n / 4 * 4).toInt = ((n / 4 * 4 : Nat) : Int) := by
    rw [Jvm.Kit.i32_mul (by rw [e2, e4]; omega) (by rw [e2, e4]; omega), e2, e4]
    omega
  apply Int32.toInt_inj.mp
  rw [Jvm.Kit.i32_sub (by rw [e1, e3]; omega) (by rw [e1, e3]; omega), e1, e3, nI_toInt (by omega)]
  omega
theorem iR_take {n : Nat} {v : m_V} {a : m_R} (r : Int32) (hn : n < 2 ^ 30) (h : iR n v (a 11)) : iR (n + 1) (sTake v r) (sRing v a r 11) := by
  obtain ⟨h1, h2, q0, q1, q2, q3⟩ := h
  have ei : (v 23 - v 23 / 4 * 4).toNatClampNeg = n % 4 := by rw [h1, nI_mod4 hn]; exact nI_clamp (by omega)
  refine ⟨?_, ?_, ?_, ?_, ?_, ?_⟩
  · show v 23 + 1 = _
    rw [h1]; exact nI_1 n
  · show (if 4 ≤ v 3 then v 3 else v 3 + 1) = _
    rw [h2]
    by_cases hm : n < 4
    · rw [if_neg (by rw [show (4 : Int32) = nI 4 from rfl, nI_leI (by decide) (by omega)]; omega), nI_1, show min n 4 + 1 = min (n + 1) 4 by omega]
    · rw [if_pos (by rw [show (4 : Int32) = nI 4 from rfl, nI_leI (by decide) (by omega)]; omega), show min n 4 = min (n + 1) 4 by omega]
  · show (if (n + 1 + 3) % 4 = (v 23 - v 23 / 4 * 4).toNatClampNeg then r else a 11 ((n + 1 + 3) % 4)) = r
    rw [ei, if_pos (by omega)]
  · show (if (n + 1 + 2) % 4 = (v 23 - v 23 / 4 * 4).toNatClampNeg then r else a 11 ((n + 1 + 2) % 4)) = v 4
    rw [ei, if_neg (by omega), ← q0]; try rfl
  · show (if (n + 1 + 1) % 4 = (v 23 - v 23 / 4 * 4).toNatClampNeg then r else a 11 ((n + 1 + 1) % 4)) = v 5
    rw [ei, if_neg (by omega), ← q1]; try rfl
  · show (if (n + 1) % 4 = (v 23 - v 23 / 4 * 4).toNatClampNeg then r else a 11 ((n + 1) % 4)) = v 6
    rw [ei, if_neg (by omega), ← q2]; try rfl
theorem ring_in {n : Nat} {v : m_V} (hn : n < 2 ^ 30) (h : v 23 = nI n) : vp_in (v 23 - v 23 / 4 * 4) 4 := by
  rw [h, nI_mod4 hn]; exact vp_in_nI (by omega) (by omega)
/-! the ranges -/
def iN (v : m_V) (f : Nat → Int32) : Prop := (-1000 ≤ (v 4).toInt ∧ (v 4).toInt ≤ 100000) ∧ (-500 ≤ (v 0).toInt ∧ (v 0).toInt ≤ 500) ∧ (-200000 ≤ (v 1).toInt ∧ (v 1).toInt ≤ 200000) ∧ ∀ k, 0 ≤ (f k).toInt ∧ (f k).toInt ≤ 10000
theorem gross_int {v : m_V} {f : Nat → Int32} (h : iN v f) : (gross v).toInt = (v 4).toInt - (v 0).toInt := by
  obtain ⟨h1, h2, -, -⟩ := h
  unfold gross
  exact Jvm.Kit.i32_sub (by omega) (by omega)
theorem net_int {v : m_V} {f : Nat → Int32} (h : iN v f) : (net v).toInt = (v 4).toInt - (v 0).toInt - (v 1).toInt := by
  have hg := gross_int h
  obtain ⟨h1, h2, h3, -⟩ := h
  unfold net
  rw [Jvm.Kit.i32_sub (by rw [hg]; omega) (by rw [hg]; omega), hg]
theorem err_ge {v : m_V} {a : m_R} (h : iN v (a 9)) : -1000000000 ≤ (sErr v a).toInt := by
  have hn := net_int h
  obtain ⟨h1, h2, h3, h4⟩ := h
  have h5 := h4 (v 15).toNatClampNeg
  unfold sErr stgt
  rw [Jvm.Kit.i32_sub (by rw [hn]; omega) (by rw [hn]; omega), hn]
  omega
/-! the lots -/
/-- lot i of L, among B batches -/
def iU (l u f : Nat → Int32) (B i : Nat) : Prop := 0 ≤ (l i).toInt ∧ (∀ b, b < 20 → 0 ≤ (u (i * 20 + b)).toInt ∧ (u (i * 20 + b)).toInt + (l i).toInt ≤ 100000) ∧ (∀ b, B ≤ b → b < 20 → u (i * 20 + b) = 0) ∧
  ((f i = -1 ∧ ∀ b, b < B → ¬ 0 < u (i * 20 + b)) ∨ ∃ b, b < B ∧ f i = nI b ∧ 0 < u (i * 20 + b) ∧ ∀ b', b' < b → ¬ 0 < u (i * 20 + b'))
def iL (L B : Nat) (l u f : Nat → Int32) : Prop := (∀ i, i < L → iU l u f B i) ∧ ∀ i, L ≤ i → ∀ b, b < 20 → u (i * 20 + b) = 0
theorem plc_eq {i B : Nat} (hi : i < 30) (hB : B < 20) : plc i (nI B) = i * 20 + B := by
  unfold plc
  rw [plc_nI]; exact nI_clamp (by omega)
theorem upd_ne {f : Nat → Int32} {k j : Nat} {x : Int32} (h : ¬ j = k) : upd f k x j = f j := if_neg h
theorem upd_eq {f : Nat → Int32} {k : Nat} {x : Int32} : upd f k x k = x := if_pos rfl
theorem lot_step {bin : Int32} {lb : Nat → Int32} {i L B : Nat} {s : m_L} (hB : B < 20) (hi : i < 30) (hiL : i < L) (hr : 0 ≤ s.1.toInt) (h : iL L (B + 1) s.2.1 s.2.2.1 s.2.2.2) :
    0 ≤ (sLot1 bin (nI B) lb i s).1.toInt ∧ iL L (B + 1) (sLot1 bin (nI B) lb i s).2.1 (sLot1 bin (nI B) lb i s).2.2.1 (sLot1 bin (nI B) lb i s).2.2.2 := by
  unfold sLot1
  by_cases hb : ¬ lb i = bin
  · rw [if_pos hb]; exact ⟨hr, h⟩
  · rw [if_neg hb]
    obtain ⟨h1, h2⟩ := h
    obtain ⟨g1, g2, g3, g4⟩ := h1 i hiL
    generalize hp : mn2 s.1 (s.2.1 i) = pt
    have ep : pt.toInt = min s.1.toInt (s.2.1 i).toInt := by rw [← hp]; exact mn2_int _ _
    rw [plc_eq hi hB]
    have gB := g2 B hB
    have e1 : (s.1 - pt).toInt = s.1.toInt - pt.toInt := Jvm.Kit.i32_sub (by have := Int32.toInt_lt s.1; omega) (by have := Int32.toInt_lt s.1; omega)
    have e2 : (s.2.1 i + -pt).toInt = (s.2.1 i).toInt - pt.toInt := by
      rw [← i_subneg]
      exact Jvm.Kit.i32_sub (by omega) (by omega)
    have e3 : (s.2.2.1 (i * 20 + B) + pt).toInt = (s.2.2.1 (i * 20 + B)).toInt + pt.toInt := Jvm.Kit.i32_add (by omega) (by omega)
    refine ⟨by dsimp only; rw [e1]; omega, ?_, ?_⟩
    · intro j hj
      dsimp only
      by_cases hji : j = i
      · subst hji
        refine ⟨by rw [upd_eq, e2]; omega, ?_, ?_, ?_⟩
        · intro b hb20
          rw [upd_eq, e2]
          by_cases hbB : b = B
          · subst hbB; rw [upd_eq, e3]; omega
          · rw [upd_ne (by omega)]; have := g2 b hb20; omega
        · intro b hb1 hb2
          rw [upd_ne (by omega)]; exact g3 b hb1 hb2
        · rw [upd_eq]
          by_cases hpos : 0 < pt
          · have hpi : 0 < pt.toInt := by rw [i_lt] at hpos; exact hpos
            have hBpos : 0 < s.2.2.1 (j * 20 + B) + pt := by rw [i_lt, e3]; show (0 : Int) < _; omega
            rcases g4 with ⟨q1, q2⟩ | ⟨b0, q1, q2, q3, q4⟩
            · rw [if_pos ⟨hpos, q1⟩]
              refine Or.inr ⟨B, by omega, rfl, by rw [upd_eq]; exact hBpos, fun b' hb' => ?_⟩
              rw [upd_ne (by omega)]; exact q2 b' (by omega)
            · have hne : ¬ s.2.2.2 j = -1 := by
                rw [q2]; intro q
                have := congrArg Int32.toInt q
                rw [nI_toInt (by omega), show (-1 : Int32).toInt = -1 from rfl] at this
                omega
              rw [if_neg (fun q => hne q.2)]
              refine Or.inr ⟨b0, q1, q2, ?_, fun b' hb' => by rw [upd_ne (by omega)]; exact q4 b' hb'⟩
              by_cases hbB : b0 = B
              · subst hbB; rw [upd_eq]; exact hBpos
              · rw [upd_ne (by omega)]; exact q3
          · rw [if_neg (fun q => hpos q.1)]
            have hp0 : pt = 0 := by
              apply Int32.toInt_inj.mp
              rw [i_lt] at hpos
              have h0 : (0 : Int32).toInt = 0 := rfl
              omega
            have eu : ∀ b, upd s.2.2.1 (j * 20 + B) (s.2.2.1 (j * 20 + B) + pt) (j * 20 + b) = s.2.2.1 (j * 20 + b) := by
              intro b
              by_cases hbB : b = B
              · subst hbB; rw [upd_eq, hp0, Int32.add_zero]
              · exact upd_ne (by omega)
            rcases g4 with ⟨q1, q2⟩ | ⟨b0, q1, q2, q3, q4⟩
            · exact Or.inl ⟨q1, fun b hb => by rw [eu]; exact q2 b hb⟩
            · exact Or.inr ⟨b0, q1, q2, by rw [eu]; exact q3, fun b' hb' => by rw [eu]; exact q4 b' hb'⟩
      · obtain ⟨k1, k2, k3, k4⟩ := h1 j hj
        have eu : ∀ b, b < 20 → upd s.2.2.1 (i * 20 + B) (s.2.2.1 (i * 20 + B) + pt) (j * 20 + b) = s.2.2.1 (j * 20 + b) := fun b hb => upd_ne (by omega)
        refine ⟨by rw [upd_ne hji]; exact k1, fun b hb => by rw [eu b hb, upd_ne hji]; exact k2 b hb, fun b hb1 hb2 => by rw [eu b hb2]; exact k3 b hb1 hb2, ?_⟩
        rw [upd_ne hji]
        rcases k4 with ⟨q1, q2⟩ | ⟨b0, q1, q2, q3, q4⟩
        · exact Or.inl ⟨q1, fun b hb => by rw [eu b (by omega)]; exact q2 b hb⟩
        · exact Or.inr ⟨b0, q1, q2, by rw [eu b0 (by omega)]; exact q3, fun b' hb' => by rw [eu b' (by omega)]; exact q4 b' hb'⟩
    · intro j hj b hb20
      dsimp only
      rw [upd_ne (by omega)]; exact h2 j hj b hb20
theorem lots_steps {bin : Int32} {lb : Nat → Int32} {L B : Nat} {s : m_L} (hB : B < 20) (hL : L ≤ 30) (hr : 0 ≤ s.1.toInt) (h : iL L (B + 1) s.2.1 s.2.2.1 s.2.2.2) : ∀ i, i ≤ L →
    0 ≤ (sLots bin (nI B) lb i s).1.toInt ∧ iL L (B + 1) (sLots bin (nI B) lb i s).2.1 (sLots bin (nI B) lb i s).2.2.1 (sLots bin (nI B) lb i s).2.2.2 := by
  intro i
  induction i with
  | zero => intro _; exact ⟨hr, h⟩
  | succ i ih =>
    intro hi
    obtain ⟨h1, h2⟩ := ih (by omega)
    exact lot_step hB (by omega) (by omega) h1 h2
theorem iL_book {L B : Nat} {v : m_V} {a : m_R} (hB : B < 20) (hL : L ≤ 30) (h8 : v 8 = nI L) (h20 : v 20 = nI (B + 1)) (h : iL L (B + 1) (a 6) (a 7) (a 12)) : iL L (B + 1) (sBook v a 6) (sBook v a 7) (sBook v a 12) := by
  have hc : v 20 - 1 = nI B := by rw [h20]; exact nI_pred B
  have eL : (v 8).toNatClampNeg = L := by rw [h8]; exact nI_clamp (by omega)
  have hr : 0 ≤ (sAmt v).toInt := by have := amt_pos (net v); rw [i_le] at this; exact this
  have := (lots_steps (bin := sbin v a) (lb := a 4) (s := (sAmt v, a 6, a 7, a 12)) hB hL hr h L (Nat.le_refl L)).2
  show iL L (B + 1) (sTook (sbin v a) (sAmt v) (v 20 - 1) v a).2.1 (sTook (sbin v a) (sAmt v) (v 20 - 1) v a).2.2.1 (sTook (sbin v a) (sAmt v) (v 20 - 1) v a).2.2.2
  unfold sTook
  rw [hc, eL]
  exact this
theorem iL_start {L B : Nat} {l u f : Nat → Int32} (hB : B < 20) (h : iL L B l u f) : iL L (B + 1) l u f := by
  refine ⟨fun i hi => ?_, h.2⟩
  obtain ⟨k1, k2, k3, k4⟩ := h.1 i hi
  refine ⟨k1, k2, fun b hb1 hb2 => k3 b (by omega) hb2, ?_⟩
  rcases k4 with ⟨q1, q2⟩ | ⟨b0, q1, q2, q3, q4⟩
  · refine Or.inl ⟨q1, fun b hb => ?_⟩
    by_cases hbB : b = B
    · rw [hbB, k3 B (Nat.le_refl _) hB]; decide
    · exact q2 b (by omega)
  · exact Or.inr ⟨b0, by omega, q2, q3, q4⟩
theorem iL_fill {L B : Nat} {l u f : Nat → Int32} {am : Int32} (hB : B ≤ 20) (h1 : 0 ≤ am.toInt) (h2 : am.toInt ≤ 100000) (h : iL L B l u f) : iL (L + 1) B (upd l L am) u (upd f L (-1)) := by
  refine ⟨fun i hi => ?_, fun i hi => h.2 i (by omega)⟩
  by_cases hiL : i = L
  · subst hiL
    have hz := h.2 i (Nat.le_refl i)
    have e0 : (0 : Int32).toInt = 0 := rfl
    refine ⟨by rw [upd_eq]; exact h1, fun b hb => by rw [upd_eq, hz b hb, e0]; omega, fun b _ hb => hz b hb, Or.inl ⟨upd_eq, fun b hb => by rw [hz b (by omega)]; decide⟩⟩
  · obtain ⟨k1, k2, k3, k4⟩ := h.1 i (by omega)
    exact ⟨by rw [upd_ne hiL]; exact k1, fun b hb => by rw [upd_ne hiL]; exact k2 b hb, k3, by rw [upd_ne hiL]; exact k4⟩
end MY

section MY2
def st5 (k : Int32) : Prop := k = 1 ∨ k = 2 ∨ k = 3 ∨ k = 4 ∨ k = 5
def st7 (k : Int32) : Prop := k = 0 ∨ k = 1 ∨ k = 2 ∨ k = 3 ∨ k = 4 ∨ k = 5 ∨ k = 6
theorem st5_7 {k : Int32} (h : st5 k) : st7 k := by
  rcases h with h | h | h | h | h
  · exact Or.inr (Or.inl h)
  · exact Or.inr (Or.inr (Or.inl h))
  · exact Or.inr (Or.inr (Or.inr (Or.inl h)))
  · exact Or.inr (Or.inr (Or.inr (Or.inr (Or.inl h))))
  · exact Or.inr (Or.inr (Or.inr (Or.inr (Or.inr (Or.inl h)))))
theorem st5_n0 {k : Int32} (h : st5 k) : ¬ k = 0 := by rcases h with h | h | h | h | h <;> rw [h] <;> decide
theorem st5_n6 {k : Int32} (h : st5 k) : ¬ k = 6 := by rcases h with h | h | h | h | h <;> rw [h] <;> decide
def iA (B : Nat) (v : m_V) : Prop := vp_in (v 15) 6 ∧ (∃ S, S ≤ 6 ∧ v 9 = nI S) ∧ (¬ v 10 = 0 → 1 ≤ B) ∧ st7 (v 10) ∧ (v 10 = 6 → st5 (v 12)) ∧ (¬ v 10 = 6 → v 11 = 0)
def iT (v : m_V) : Prop := (v 10 = 4 → v 22 = v 13) ∧ (v 10 = 5 → v 22 = v 13 ∧ (v 13 = 0 ∨ v 13 = 1))
def iB (L B : Nat) (v : m_V) (a : m_R) : Prop := L ≤ 30 ∧ B ≤ 20 ∧ v 8 = nI L ∧ v 20 = nI B ∧ iL L B (a 6) (a 7) (a 12) ∧ ∀ k, vp_in (a 8 k) 4
def Inv0 (n L B : Nat) (v : m_V) (a : m_R) : Prop := iA B v ∧ iR n v (a 11) ∧ iN v (a 9) ∧ iB L B v a
def Inv (n L B : Nat) (v : m_V) (a : m_R) : Prop := Inv0 n L B v a ∧ iT v
section
variable {n L B : Nat} {v : m_V} {a : m_R}
theorem iT_not {v : m_V} (h4 : ¬ v 10 = 4) (h5 : ¬ v 10 = 5) : iT v := ⟨fun q => absurd q h4, fun q => absurd q h5⟩
theorem inv_enter {k : Int32} (hk : k = 0 ∨ (st5 k ∧ 1 ≤ B)) (h : Inv0 n L B v a) : Inv n L B (sEnter v k) a := by
  obtain ⟨⟨h1, h2, h3, h4, h5, h6⟩, hR, hN, hB⟩ := h
  refine ⟨⟨⟨h1, h2, fun q => ?_, ?_, fun q => ?_, fun _ => rfl⟩, hR, hN, hB⟩, fun _ => rfl, fun _ => ⟨rfl, Or.inl rfl⟩⟩
  · rcases hk with hk | hk
    · exact absurd hk q
    · exact hk.2
  · rcases hk with hk | hk
    · exact Or.inl hk
    · exact st5_7 hk.1
  · rcases hk with hk | hk
    · have q9 : k = 6 := q
      rw [hk] at q9
      exact absurd q9 (by decide)
    · exact absurd q (st5_n6 hk.1)
theorem inv_halt {r : Int32} (hs : st5 (v 10)) (h : Inv0 n L B v a) : Inv n L B (sHalt v r) a := by
  obtain ⟨⟨h1, h2, h3, h4, h5, h6⟩, hR, hN, hB⟩ := h
  exact ⟨⟨⟨h1, h2, fun _ => h3 (st5_n0 hs), Or.inr (Or.inr (Or.inr (Or.inr (Or.inr (Or.inr rfl))))), fun _ => hs, fun q => absurd rfl q⟩, hR, hN, hB⟩, iT_not (show ¬ (6 : Int32) = 4 by decide) (show ¬ (6 : Int32) = 5 by decide)⟩
theorem inv_begin {k : Int32} (hk : vp_in k 6) (hB1 : 1 ≤ B) (h : Inv0 n L B v a) : Inv n L B (sBegin v k) a := by
  obtain ⟨⟨h1, h2, h3, h4, h5, h6⟩, hR, hN, hB⟩ := h
  exact inv_enter (Or.inr ⟨Or.inl rfl, hB1⟩) ⟨⟨hk, h2, h3, h4, h5, h6⟩, hR, hN, hB⟩
theorem inv_book (hB1 : 1 ≤ B) (h : Inv0 n L B v a) : Inv0 n L B v (sBook v a) := by
  obtain ⟨hA, hR, hN, k1, k2, k3, k4, k5, k6⟩ := h
  obtain ⟨B', rfl⟩ : ∃ B', B = B' + 1 := ⟨B - 1, by omega⟩
  exact ⟨hA, hR, hN, k1, k2, k3, k4, iL_book (by omega) k1 k3 k4 k5, k6⟩
theorem step_in {x y : Int32} {S : Nat} (hS : S ≤ 6) (hx : vp_in x 6) (hy : y = nI S) (h : ¬ y ≤ x + 1) : vp_in (x + 1) 6 := by
  rw [vi_iff (by decide)] at hx
  obtain ⟨h1, h2⟩ := hx
  have e1 : (1 : Int32).toInt = 1 := rfl
  have e0 : (0 : Int32).toInt = 0 := rfl
  have e6 : (Int32.ofNat 6).toInt = 6 := rfl
  rw [i_lt] at h1
  rw [i_le] at h2
  have ex : (x + 1).toInt = x.toInt + 1 := by rw [Jvm.Kit.i32_add (by omega) (by omega), e1]
  rw [vi_iff (by decide)]
  rw [i_le, hy, nI_toInt (by omega), ex] at h
  refine ⟨?_, ?_⟩
  · rw [i_lt, ex]; omega
  · rw [i_le, ex]; omega
theorem inv_finish (hB1 : 1 ≤ B) (h : Inv0 n L B v a) : Inv n L B (sFinish v) a := by
  unfold sFinish
  obtain ⟨S, hS, h9⟩ := h.1.2.1
  by_cases hc : v 9 ≤ v 15 + 1
  · rw [if_pos hc]
    exact inv_enter (v := upd v 21 (v 21 + 1)) (Or.inl rfl) h
  · rw [if_neg hc]
    exact inv_begin (step_in hS h.1.1 h9 hc) hB1 h
theorem inv_learn {b e : Int32} (h : Inv0 n L B v a) : Inv0 n L B v (sLearn a b e) := h
theorem inv_weigh (hs : v 10 = 4) (h : Inv0 n L B v a) : Inv n L B (sWeighV v a) (sWeighA v a) := by
  have hB1 : 1 ≤ B := h.1.2.2.1 (by rw [hs]; decide)
  have h1 : Inv0 n L B (sW1 v) (sW2 v a) ∧ (sW1 v) 10 = 4 := by
    unfold sW1 sW2
    by_cases hw : ¬ v 19 = 0
    · rw [if_pos hw, if_pos hw]; exact ⟨h, hs⟩
    · rw [if_neg hw, if_neg hw]; exact ⟨h, hs⟩
  obtain ⟨h1, hs1⟩ := h1
  have s5 : st5 ((sW1 v) 10) := by rw [hs1]; exact Or.inr (Or.inr (Or.inr (Or.inl rfl)))
  unfold sWeighV sWeighA
  by_cases c1 : -(stol v a) ≤ sErr v a
  · rw [if_pos c1, if_pos c1]
    by_cases c2 : sErr v a ≤ stol v a
    · rw [if_pos c2, if_pos c2]; exact inv_finish hB1 (inv_book hB1 h1)
    · rw [if_neg c2, if_neg c2]; exact inv_halt s5 h1
  · rw [if_neg c1, if_neg c1]
    unfold sJog
    by_cases c3 : 5 ≤ sW1 v 16
    · rw [if_pos c3]; exact inv_halt s5 h1
    · rw [if_neg c3]; exact inv_enter (v := upd (sW1 v) 16 (sW1 v 16 + 1)) (Or.inr ⟨Or.inr (Or.inr (Or.inr (Or.inr rfl))), hB1⟩) h1
theorem inv_track (h : Inv0 n L B v a) : Inv0 n L B (sTrack v) a ∧ (sTrack v) 10 = v 10 ∧ (sTrack v) 13 = v 13 ∧ (sTrack v) 22 = v 22 := by
  unfold sTrack
  by_cases c1 : gross v = 0
  · rw [if_pos c1]; exact ⟨h, rfl, rfl, rfl⟩
  · rw [if_neg c1]
    by_cases c2 : bi (-10 ≤ gross v ∧ gross v ≤ 10) = 0
    · rw [if_pos c2]; exact ⟨h, rfl, rfl, rfl⟩
    · rw [if_neg c2]
      by_cases c3 : ¬ bi (calm v) = 0
      · rw [if_pos c3]
        by_cases c4 : bi (-500 ≤ sMoved v ∧ sMoved v ≤ 500) = 0
        · rw [if_pos c4]; exact ⟨h, rfl, rfl, rfl⟩
        · rw [if_neg c4]
          rw [bi_0] at c4
          obtain ⟨m1, m2⟩ := Classical.not_not.mp c4
          rw [i_le] at m1 m2
          obtain ⟨hA, hR, ⟨n1, n2, n3, n4⟩, hB⟩ := h
          exact ⟨⟨hA, hR, ⟨n1, ⟨m1, m2⟩, n3, n4⟩, hB⟩, rfl, rfl, rfl⟩
      · rw [if_neg c3]; exact ⟨h, rfl, rfl, rfl⟩
theorem inv_tare (hs : v 10 = 1) (h : Inv0 n L B v a) : Inv n L B (sTare v a) a := by
  have hB1 : 1 ≤ B := h.1.2.2.1 (by rw [hs]; decide)
  unfold sTare
  by_cases c1 : bi (calm v) = 0
  · rw [if_pos c1]; exact ⟨h, iT_not (by rw [hs]; decide) (by rw [hs]; decide)⟩
  · rw [if_neg c1]
    have hg := gross_int h.2.2.1
    obtain ⟨hA, hR, ⟨n1, n2, n3, n4⟩, hB⟩ := h
    have h9 : Inv0 n L B (upd (upd v 1 (gross v)) 18 1) a := ⟨hA, hR, ⟨n1, n2, ⟨by show _ ≤ (gross v).toInt; omega, by show (gross v).toInt ≤ _; omega⟩, n4⟩, hB⟩
    by_cases c2 : stgt v a ≤ a 0 (sbin v a).toNatClampNeg
    · rw [if_pos c2]; exact inv_enter (Or.inr ⟨Or.inr (Or.inr (Or.inl rfl)), hB1⟩) h9
    · rw [if_neg c2]; exact inv_enter (Or.inr ⟨Or.inr (Or.inl rfl), hB1⟩) h9
theorem inv_feed (hs : v 10 = 2 ∨ v 10 = 3) (h : Inv0 n L B v a) : Inv n L B (sFeed v a) a := by
  have hB1 : 1 ≤ B := h.1.2.2.1 (by rcases hs with hs | hs <;> rw [hs] <;> decide)
  have h1 : Inv0 n L B (sIdle v) a ∧ (sIdle v) 10 = v 10 := by
    unfold sIdle
    by_cases c : net v ≤ v 17
    · rw [if_pos c]; exact ⟨h, rfl⟩
    · rw [if_neg c]; exact ⟨h, rfl⟩
  obtain ⟨h1, hs1⟩ := h1
  unfold sFeed
  by_cases c1 : net v < stgt v a - sAhead v a
  · rw [if_pos c1]
    by_cases c2 : (sIdle v) 14 < 20
    · rw [if_pos c2]
      exact ⟨h1, iT_not (by rw [hs1]; rcases hs with hs | hs <;> rw [hs] <;> decide) (by rw [hs1]; rcases hs with hs | hs <;> rw [hs] <;> decide)⟩
    · rw [if_neg c2]
      exact inv_halt (by rw [hs1]; rcases hs with hs | hs
                         · exact Or.inr (Or.inl hs)
                         · exact Or.inr (Or.inr (Or.inl hs))) h1
  · rw [if_neg c1]
    by_cases c3 : ¬ v 10 = 2
    · rw [if_pos c3]; exact inv_enter (Or.inr ⟨Or.inr (Or.inr (Or.inr (Or.inl rfl))), hB1⟩) h1
    · rw [if_neg c3]; exact inv_enter (Or.inr ⟨Or.inr (Or.inr (Or.inl rfl)), hB1⟩) h1
theorem inv_bring {r : Int32} (hn : n < 2 ^ 30) (hr : -1000 ≤ r ∧ r ≤ 100000) (h : Inv n L B v a) : Inv (n + 1) L B (sBringV v a r) (sBringA v a r) := by
  obtain ⟨⟨hA, hR, ⟨n1, n2, n3, n4⟩, hB⟩, hT⟩ := h
  have hR' : iR (n + 1) (sCount v r) (sRing v a r 11) := iR_take r hn hR
  have r1 : (-1000 : Int) ≤ r.toInt := by have := hr.1; rw [i_le] at this; exact this
  have r2 : r.toInt ≤ 100000 := by have := hr.2; rw [i_le] at this; exact this
  have h0 : Inv0 (n + 1) L B (sCount v r) (sRing v a r) := ⟨hA, hR', ⟨⟨r1, r2⟩, n2, n3, n4⟩, hB⟩
  have e10 : sCount v r 10 = v 10 := rfl
  unfold sBringV sBringA sGoV sGoA
  rw [e10]
  rcases hA.2.2.2.1 with hs | hs | hs | hs | hs | hs | hs
  · rw [if_pos hs, if_neg (show ¬ v 10 = 4 by rw [hs]; decide)]
    obtain ⟨k1, k2, -, -⟩ := inv_track h0
    exact ⟨k1, iT_not (by rw [k2, e10, hs]; decide) (by rw [k2, e10, hs]; decide)⟩
  · rw [if_neg (show ¬ v 10 = 0 by rw [hs]; decide), if_pos hs, if_neg (show ¬ v 10 = 4 by rw [hs]; decide)]
    exact inv_tare hs h0
  · rw [if_neg (show ¬ v 10 = 0 by rw [hs]; decide), if_neg (show ¬ v 10 = 1 by rw [hs]; decide), if_pos (Or.inl hs), if_neg (show ¬ v 10 = 4 by rw [hs]; decide)]
    exact inv_feed (Or.inl hs) h0
  · rw [if_neg (show ¬ v 10 = 0 by rw [hs]; decide), if_neg (show ¬ v 10 = 1 by rw [hs]; decide), if_pos (Or.inr hs), if_neg (show ¬ v 10 = 4 by rw [hs]; decide)]
    exact inv_feed (Or.inr hs) h0
  · rw [if_neg (show ¬ v 10 = 0 by rw [hs]; decide), if_neg (show ¬ v 10 = 1 by rw [hs]; decide), if_neg (show ¬ (v 10 = 2 ∨ v 10 = 3) by rw [hs]; decide), if_pos hs, if_pos hs]
    have e22 : sCount v r 22 = sCount v r 13 := by
      show (if v 10 = 0 ∨ v 10 = 6 then v 22 else v 22 + 1) = v 13 + 1
      rw [if_neg (by rw [hs]; decide), hT.1 hs]
    have hT' : iT (sCount v r) := ⟨fun _ => e22, fun q => absurd (show v 10 = 5 from q) (by rw [hs]; decide)⟩
    by_cases c1 : sCount v r 13 < 4
    · rw [if_pos c1, if_pos c1]; exact ⟨h0, hT'⟩
    · rw [if_neg c1, if_neg c1]
      by_cases c2 : bi (calm (sCount v r)) = 0
      · rw [if_pos c2, if_pos c2]; exact ⟨h0, hT'⟩
      · rw [if_neg c2, if_neg c2]; exact inv_weigh hs h0
  · rw [if_neg (show ¬ v 10 = 0 by rw [hs]; decide), if_neg (show ¬ v 10 = 1 by rw [hs]; decide), if_neg (show ¬ (v 10 = 2 ∨ v 10 = 3) by rw [hs]; decide), if_neg (show ¬ v 10 = 4 by rw [hs]; decide), if_pos hs, if_neg (show ¬ v 10 = 4 by rw [hs]; decide)]
    obtain ⟨t1, t2⟩ := hT.2 hs
    by_cases c1 : sCount v r 13 < 2
    · rw [if_pos c1]
      have e22 : sCount v r 22 = sCount v r 13 := by
        show (if v 10 = 0 ∨ v 10 = 6 then v 22 else v 22 + 1) = v 13 + 1
        rw [if_neg (by rw [hs]; decide), t1]
      refine ⟨h0, fun q => absurd (show v 10 = 4 from q) (by rw [hs]; decide), fun _ => ⟨e22, Or.inr ?_⟩⟩
      rcases t2 with t2 | t2
      · show v 13 + 1 = 1; rw [t2]; rfl
      · exact absurd (show v 13 + 1 < 2 from c1) (by rw [t2]; decide)
    · rw [if_neg c1]
      exact inv_enter (Or.inr ⟨Or.inr (Or.inr (Or.inr (Or.inl rfl))), hA.2.2.1 (by rw [hs]; decide)⟩) h0
  · rw [if_neg (show ¬ v 10 = 0 by rw [hs]; decide), if_neg (show ¬ v 10 = 1 by rw [hs]; decide), if_neg (show ¬ (v 10 = 2 ∨ v 10 = 3) by rw [hs]; decide), if_neg (show ¬ v 10 = 4 by rw [hs]; decide), if_neg (show ¬ v 10 = 5 by rw [hs]; decide), if_neg (show ¬ v 10 = 4 by rw [hs]; decide)]
    exact ⟨h0, iT_not (by rw [e10, hs]; decide) (by rw [e10, hs]; decide)⟩
theorem inv_kI (h : Inv n L B v a) : kI v a := by
  obtain ⟨⟨⟨h1, h2, h3, h4, h5, h6⟩, hR, hN, k1, k2, k3, k4, k5, k6⟩, hT⟩ := h
  exact ⟨h1, k6 _, ⟨L, k1, k3⟩, fun q => ⟨B - 1, by have := h3 q; omega, by rw [k4, show B - 1 + 1 = B by have := h3 q; omega]⟩, h4⟩
theorem inv_ticks {r : Int32} (hr : -1000 ≤ r ∧ r ≤ 100000) (h : Inv n L B v a) : ∀ N, n + N < 2 ^ 30 → Inv (n + N) L B (sTicks r N v a).1 (sTicks r N v a).2 := by
  intro N
  induction N with
  | zero => intro _; exact h
  | succ N ih =>
    intro hN
    exact inv_bring (n := n + N) (by omega) hr (ih (by omega))
theorem inv_goOn (hs : v 10 = 6) (h : Inv n L B v a) : Inv n L B (sGoOnV v) (sGoOnA v a) := by
  have hB1 : 1 ≤ B := h.1.1.2.2.1 (by rw [hs]; decide)
  have h5 := h.1.1.2.2.2.2.1 hs
  unfold sGoOnV sGoOnA
  by_cases c1 : v 11 = 1
  · rw [if_pos c1, if_pos c1]; exact inv_finish hB1 (inv_book hB1 h.1)
  · rw [if_neg c1, if_neg c1]
    by_cases c2 : ¬ v 11 = 2
    · rw [if_pos c2, if_pos c2]; exact inv_enter (v := upd v 14 0) (Or.inr ⟨h5, hB1⟩) h.1
    · rw [if_neg c2, if_neg c2]; exact inv_finish hB1 (inv_book hB1 h.1)
theorem inv_abort (hs : ¬ v 10 = 0) (h : Inv n L B v a) : Inv n L B (sEnter v 0) (if v 18 = 0 then a else sBook v a) := by
  have hB1 : 1 ≤ B := h.1.1.2.2.1 hs
  by_cases c : v 18 = 0
  · rw [if_pos c]; exact inv_enter (Or.inl rfl) h.1
  · rw [if_neg c]; exact inv_enter (Or.inl rfl) (inv_book hB1 h.1)
theorem inv_hold (h0 : ¬ v 10 = 0) (h6 : ¬ v 10 = 6) (h : Inv n L B v a) : Inv n L B (sHalt v 0) a := by
  refine inv_halt ?_ h.1
  rcases h.1.1.2.2.2.1 with q | q | q | q | q | q | q
  · exact absurd q h0
  · exact Or.inl q
  · exact Or.inr (Or.inl q)
  · exact Or.inr (Or.inr (Or.inl q))
  · exact Or.inr (Or.inr (Or.inr (Or.inl q)))
  · exact Or.inr (Or.inr (Or.inr (Or.inr q)))
  · exact absurd q h6
theorem inv_start (h20 : ¬ 20 ≤ v 20) (h : Inv n L B v a) : Inv n L (B + 1) (sBegin (upd v 20 (v 20 + 1)) 0) a := by
  obtain ⟨⟨⟨h1, h2, h3, h4, h5, h6⟩, hR, hN, k1, k2, k3, k4, k5, k6⟩, hT⟩ := h
  have hB : B < 20 := by
    rw [k4, show (20 : Int32) = nI 20 from rfl, nI_leI (by decide) (by omega)] at h20
    omega
  refine inv_begin (vp_in_nI (n := 0) (by decide) (by decide)) (by omega) ⟨⟨h1, h2, fun _ => by omega, h4, h5, h6⟩, hR, hN, k1, by omega, k3, ?_, iL_start hB k5, k6⟩
  show v 20 + 1 = nI (B + 1)
  rw [k4]; exact nI_1 B
theorem inv_zero (h4 : -500 ≤ v 4 ∧ v 4 ≤ 500) (h : Inv n L B v a) : Inv n L B (upd v 0 (v 4)) a := by
  obtain ⟨⟨hA, hR, ⟨n1, n2, n3, n4⟩, hB⟩, hT⟩ := h
  have m1 := h4.1
  have m2 := h4.2
  rw [i_le] at m1 m2
  exact ⟨⟨hA, hR, ⟨n1, ⟨m1, m2⟩, n3, n4⟩, hB⟩, hT⟩
theorem inv_band {x : Int32} (h : Inv n L B v a) : Inv n L B (upd v 2 x) a := h
theorem inv_margin {f : Nat → Int32} (h : Inv n L B v a) : Inv n L B v (va_up a 0 f) := h
theorem inv_fill {b am : Int32} (h8 : vp_in (v 8) 30) (ha : 1 ≤ am ∧ am ≤ 100000) (h : Inv n L B v a) : Inv n (L + 1) B (upd v 8 (v 8 + 1)) (sFillA b am v a) := by
  obtain ⟨⟨hA, hR, hN, k1, k2, k3, k4, k5, k6⟩, hT⟩ := h
  have m1 := ha.1
  have m2 := ha.2
  rw [i_le] at m1 m2
  have e1 : (1 : Int32).toInt = 1 := rfl
  have e2 : (100000 : Int32).toInt = 100000 := rfl
  have hL : L < 30 := by
    rw [k3, vi_iff (by decide)] at h8
    have := h8.2
    rw [show Int32.ofNat 30 = nI 30 from rfl, nI_leI (by decide) (by omega)] at this
    omega
  have eL : (v 8).toNatClampNeg = L := by rw [k3]; exact nI_clamp (by omega)
  refine ⟨⟨hA, hR, hN, by omega, k2, by show v 8 + 1 = _; rw [k3]; exact nI_1 L, k4, ?_, k6⟩, hT⟩
  show iL (L + 1) B (upd (a 6) (v 8).toNatClampNeg am) (a 7) (upd (a 12) (v 8).toNatClampNeg (-1))
  rw [eL]
  exact iL_fill k2 (by omega) (by omega) k5
theorem upd_all {p : Int32 → Prop} {f : Nat → Int32} {k : Nat} {x : Int32} (h : ∀ j, p (f j)) (hx : p x) : ∀ j, p (upd f k x j) := by
  intro j
  unfold upd
  by_cases hj : j = k
  · rw [if_pos hj]; exact hx
  · rw [if_neg hj]; exact h j
theorem inv_addStep {b g l9 : Int32} (hb : 0 ≤ b ∧ b ≤ 3) (hg : 1 ≤ g ∧ g ≤ 10000) (h9 : vp_in (v 9) 6) (h : Inv n L B v a) : Inv n L B (upd v 9 (v 9 + 1)) (sAppA b g l9 v a) := by
  obtain ⟨⟨⟨h1, ⟨S, hS, h2⟩, h3, h4, h5, h6⟩, hR, ⟨n1, n2, n3, n4⟩, k1, k2, k3, k4, k5, k6⟩, hT⟩ := h
  have m1 := hg.1
  have m2 := hg.2
  rw [i_le] at m1 m2
  have e1 : (1 : Int32).toInt = 1 := rfl
  have e2 : (10000 : Int32).toInt = 10000 := rfl
  have hS6 : S < 6 := by
    rw [h2, vi_iff (by decide)] at h9
    have := h9.2
    rw [show Int32.ofNat 6 = nI 6 from rfl, nI_leI (by decide) (by omega)] at this
    omega
  refine ⟨⟨⟨h1, ⟨S + 1, by omega, by show v 9 + 1 = _; rw [h2]; exact nI_1 S⟩, h3, h4, h5, h6⟩, hR, ⟨n1, n2, n3, ?_⟩, k1, k2, k3, k4, k5, ?_⟩, hT⟩
  · exact upd_all (p := fun z => 0 ≤ z.toInt ∧ z.toInt ≤ 10000) n4 ⟨by omega, by omega⟩
  · exact upd_all (p := fun z => vp_in z 4) k6 (bin_in hb)
theorem inv_clear (h : Inv n L B v a) : Inv n L B (upd v 9 0) a := by
  obtain ⟨⟨⟨h1, h2, h3, h4, h5, h6⟩, hR, hN, hB⟩, hT⟩ := h
  exact ⟨⟨⟨h1, ⟨0, by omega, rfl⟩, h3, h4, h5, h6⟩, hR, hN, hB⟩, hT⟩
theorem inv_new : Inv 0 0 0 v00 a00 := by
  refine ⟨⟨⟨vp_in_nI (n := 0) (by decide) (by decide), ⟨0, by omega, rfl⟩, fun q => absurd rfl q, Or.inl rfl, fun q => absurd (show (0 : Int32) = 6 from q) (by decide), fun _ => rfl⟩, ⟨rfl, rfl, rfl, rfl, rfl, rfl⟩, ⟨⟨by decide, by decide⟩, ⟨by decide, by decide⟩, ⟨by decide, by decide⟩, fun k => ⟨by show (0 : Int) ≤ (0 : Int32).toInt; decide, by show (0 : Int32).toInt ≤ 10000; decide⟩⟩, by omega, by omega, rfl, rfl, ⟨fun i hi => absurd hi (Nat.not_lt_zero _), fun i _ b _ => rfl⟩, fun k => vp_in_nI (n := 0) (by decide) (by decide)⟩, iT_not (show ¬ (0 : Int32) = 4 by decide) (show ¬ (0 : Int32) = 5 by decide)⟩
end
end MY2
end

section
-- ===== PART A: goes FIRST, ahead of the names: the tables' words, and 'selects' of the private methods out of them =====
/-- a private method of a class that the tables say can be made, by its rows of tables_1 -/
def lw_okq (q : MethodName × Nat) : Prop := (q.1.cls ≠ "java/lang/invoke/MethodHandle" ∧ q.1.cls ≠ "java/lang/invoke/VarHandle") ∧ Cond.instantiable q.1.cls q.2 ∈ tables_1 ∧ Cond.privateMethod q.1 ∈ tables_1 ∧ Cond.instanceMethod q.1 ∈ tables_1
theorem lw_p0 : lw_okq (⟨"java/lang/Throwable", "fillInStackTrace", "(I)Ljava/lang/Throwable;"⟩, 6) := ⟨⟨by decide +kernel, by decide +kernel⟩, List.mem_of_getElem? (i := 331) (by decide +kernel), List.mem_of_getElem? (i := 329) (by decide +kernel), List.mem_of_getElem? (i := 330) (by decide +kernel)⟩
theorem lw_p1 : lw_okq (⟨"BatchDoser$Dosing", "tareStep", "()V"⟩, 16) := ⟨⟨by decide +kernel, by decide +kernel⟩, List.mem_of_getElem? (i := 24) (by decide +kernel), List.mem_of_getElem? (i := 375) (by decide +kernel), List.mem_of_getElem? (i := 376) (by decide +kernel)⟩
theorem lw_p2 : lw_okq (⟨"BatchDoser$Dosing", "target", "()I"⟩, 16) := ⟨⟨by decide +kernel, by decide +kernel⟩, List.mem_of_getElem? (i := 24) (by decide +kernel), List.mem_of_getElem? (i := 381) (by decide +kernel), List.mem_of_getElem? (i := 382) (by decide +kernel)⟩
theorem lw_p3 : lw_okq (⟨"BatchDoser$Dosing", "stepBin", "()I"⟩, 16) := ⟨⟨by decide +kernel, by decide +kernel⟩, List.mem_of_getElem? (i := 24) (by decide +kernel), List.mem_of_getElem? (i := 388) (by decide +kernel), List.mem_of_getElem? (i := 389) (by decide +kernel)⟩
theorem lw_p4 : lw_okq (⟨"BatchDoser$Dosing", "enter", "(I)V"⟩, 16) := ⟨⟨by decide +kernel, by decide +kernel⟩, List.mem_of_getElem? (i := 24) (by decide +kernel), List.mem_of_getElem? (i := 392) (by decide +kernel), List.mem_of_getElem? (i := 393) (by decide +kernel)⟩
theorem lw_p5 : lw_okq (⟨"BatchDoser$Dosing", "feed", "()V"⟩, 16) := ⟨⟨by decide +kernel, by decide +kernel⟩, List.mem_of_getElem? (i := 24) (by decide +kernel), List.mem_of_getElem? (i := 396) (by decide +kernel), List.mem_of_getElem? (i := 397) (by decide +kernel)⟩
theorem lw_p6 : lw_okq (⟨"BatchDoser$Dosing", "weigh", "()V"⟩, 16) := ⟨⟨by decide +kernel, by decide +kernel⟩, List.mem_of_getElem? (i := 24) (by decide +kernel), List.mem_of_getElem? (i := 405) (by decide +kernel), List.mem_of_getElem? (i := 406) (by decide +kernel)⟩
theorem lw_p7 : lw_okq (⟨"BatchDoser$Dosing", "jog", "()V"⟩, 16) := ⟨⟨by decide +kernel, by decide +kernel⟩, List.mem_of_getElem? (i := 24) (by decide +kernel), List.mem_of_getElem? (i := 422) (by decide +kernel), List.mem_of_getElem? (i := 423) (by decide +kernel)⟩
theorem lw_p8 : lw_okq (⟨"BatchDoser$Dosing", "finishStep", "()V"⟩, 16) := ⟨⟨by decide +kernel, by decide +kernel⟩, List.mem_of_getElem? (i := 24) (by decide +kernel), List.mem_of_getElem? (i := 426) (by decide +kernel), List.mem_of_getElem? (i := 427) (by decide +kernel)⟩
theorem lw_p9 : lw_okq (⟨"BatchDoser$Dosing", "bookNet", "()I"⟩, 16) := ⟨⟨by decide +kernel, by decide +kernel⟩, List.mem_of_getElem? (i := 24) (by decide +kernel), List.mem_of_getElem? (i := 430) (by decide +kernel), List.mem_of_getElem? (i := 431) (by decide +kernel)⟩
theorem lw_p10 : lw_okq (⟨"BatchDoser$Dosing", "beginStep", "(I)V"⟩, 16) := ⟨⟨by decide +kernel, by decide +kernel⟩, List.mem_of_getElem? (i := 24) (by decide +kernel), List.mem_of_getElem? (i := 448) (by decide +kernel), List.mem_of_getElem? (i := 449) (by decide +kernel)⟩
theorem lw_p11 : lw_okq (⟨"BatchDoser", "needLot", "(I)V"⟩, 6) := ⟨⟨by decide +kernel, by decide +kernel⟩, List.mem_of_getElem? (i := 16) (by decide +kernel), List.mem_of_getElem? (i := 588) (by decide +kernel), List.mem_of_getElem? (i := 589) (by decide +kernel)⟩
theorem lw_p12 : lw_okq (⟨"BatchDoser", "needBatch", "(I)V"⟩, 6) := ⟨⟨by decide +kernel, by decide +kernel⟩, List.mem_of_getElem? (i := 16) (by decide +kernel), List.mem_of_getElem? (i := 615) (by decide +kernel), List.mem_of_getElem? (i := 616) (by decide +kernel)⟩
theorem lw_p13 : lw_okq (⟨"BatchDoserModel", "goes", "(ZZZ)Z"⟩, 34) := ⟨⟨by decide +kernel, by decide +kernel⟩, List.mem_of_getElem? (i := 689) (by decide +kernel), List.mem_of_getElem? (i := 810) (by decide +kernel), List.mem_of_getElem? (i := 811) (by decide +kernel)⟩
theorem lw_p14 : lw_okq (⟨"BatchDoserModel", "brings", "(I)I"⟩, 34) := ⟨⟨by decide +kernel, by decide +kernel⟩, List.mem_of_getElem? (i := 689) (by decide +kernel), List.mem_of_getElem? (i := 814) (by decide +kernel), List.mem_of_getElem? (i := 815) (by decide +kernel)⟩
theorem lw_p15 : lw_okq (⟨"BatchDoserModel", "tracks", "()V"⟩, 34) := ⟨⟨by decide +kernel, by decide +kernel⟩, List.mem_of_getElem? (i := 689) (by decide +kernel), List.mem_of_getElem? (i := 818) (by decide +kernel), List.mem_of_getElem? (i := 819) (by decide +kernel)⟩
def lw_privs_1 : List (MethodName × Nat) := [(⟨"java/lang/Throwable", "fillInStackTrace", "(I)Ljava/lang/Throwable;"⟩, 6), (⟨"BatchDoser$Dosing", "tareStep", "()V"⟩, 16), (⟨"BatchDoser$Dosing", "target", "()I"⟩, 16), (⟨"BatchDoser$Dosing", "stepBin", "()I"⟩, 16), (⟨"BatchDoser$Dosing", "enter", "(I)V"⟩, 16), (⟨"BatchDoser$Dosing", "feed", "()V"⟩, 16), (⟨"BatchDoser$Dosing", "weigh", "()V"⟩, 16), (⟨"BatchDoser$Dosing", "jog", "()V"⟩, 16), (⟨"BatchDoser$Dosing", "finishStep", "()V"⟩, 16), (⟨"BatchDoser$Dosing", "bookNet", "()I"⟩, 16), (⟨"BatchDoser$Dosing", "beginStep", "(I)V"⟩, 16), (⟨"BatchDoser", "needLot", "(I)V"⟩, 6), (⟨"BatchDoser", "needBatch", "(I)V"⟩, 6), (⟨"BatchDoserModel", "goes", "(ZZZ)Z"⟩, 34), (⟨"BatchDoserModel", "brings", "(I)I"⟩, 34), (⟨"BatchDoserModel", "tracks", "()V"⟩, 34)]
theorem lw_r1 : ∀ q ∈ lw_privs_1, lw_okq q := List.forall_mem_cons.mpr ⟨lw_p0, List.forall_mem_cons.mpr ⟨lw_p1, List.forall_mem_cons.mpr ⟨lw_p2, List.forall_mem_cons.mpr ⟨lw_p3, List.forall_mem_cons.mpr ⟨lw_p4, List.forall_mem_cons.mpr ⟨lw_p5, List.forall_mem_cons.mpr ⟨lw_p6, List.forall_mem_cons.mpr ⟨lw_p7, List.forall_mem_cons.mpr ⟨lw_p8, List.forall_mem_cons.mpr ⟨lw_p9, List.forall_mem_cons.mpr ⟨lw_p10, List.forall_mem_cons.mpr ⟨lw_p11, List.forall_mem_cons.mpr ⟨lw_p12, List.forall_mem_cons.mpr ⟨lw_p13, List.forall_mem_cons.mpr ⟨lw_p14, List.forall_mem_cons.mpr ⟨lw_p15, fun _ h => absurd h List.not_mem_nil⟩⟩⟩⟩⟩⟩⟩⟩⟩⟩⟩⟩⟩⟩⟩⟩
theorem lw_p16 : lw_okq (⟨"BatchDoserModel", "grossNow", "()I"⟩, 34) := ⟨⟨by decide +kernel, by decide +kernel⟩, List.mem_of_getElem? (i := 689) (by decide +kernel), List.mem_of_getElem? (i := 822) (by decide +kernel), List.mem_of_getElem? (i := 823) (by decide +kernel)⟩
theorem lw_p17 : lw_okq (⟨"BatchDoserModel", "settles", "()Z"⟩, 34) := ⟨⟨by decide +kernel, by decide +kernel⟩, List.mem_of_getElem? (i := 689) (by decide +kernel), List.mem_of_getElem? (i := 826) (by decide +kernel), List.mem_of_getElem? (i := 827) (by decide +kernel)⟩
theorem lw_p18 : lw_okq (⟨"BatchDoserModel", "goesOn", "()V"⟩, 34) := ⟨⟨by decide +kernel, by decide +kernel⟩, List.mem_of_getElem? (i := 689) (by decide +kernel), List.mem_of_getElem? (i := 830) (by decide +kernel), List.mem_of_getElem? (i := 831) (by decide +kernel)⟩
theorem lw_p19 : lw_okq (⟨"BatchDoserModel", "netNow", "()I"⟩, 34) := ⟨⟨by decide +kernel, by decide +kernel⟩, List.mem_of_getElem? (i := 689) (by decide +kernel), List.mem_of_getElem? (i := 834) (by decide +kernel), List.mem_of_getElem? (i := 835) (by decide +kernel)⟩
theorem lw_p20 : lw_okq (⟨"BatchDoserModel", "becomes", "(I)V"⟩, 34) := ⟨⟨by decide +kernel, by decide +kernel⟩, List.mem_of_getElem? (i := 689) (by decide +kernel), List.mem_of_getElem? (i := 838) (by decide +kernel), List.mem_of_getElem? (i := 839) (by decide +kernel)⟩
theorem lw_p21 : lw_okq (⟨"BatchDoserModel", "weighs", "()V"⟩, 34) := ⟨⟨by decide +kernel, by decide +kernel⟩, List.mem_of_getElem? (i := 689) (by decide +kernel), List.mem_of_getElem? (i := 842) (by decide +kernel), List.mem_of_getElem? (i := 843) (by decide +kernel)⟩
theorem lw_p22 : lw_okq (⟨"BatchDoserModel", "holds", "(I)V"⟩, 34) := ⟨⟨by decide +kernel, by decide +kernel⟩, List.mem_of_getElem? (i := 689) (by decide +kernel), List.mem_of_getElem? (i := 849) (by decide +kernel), List.mem_of_getElem? (i := 850) (by decide +kernel)⟩
theorem lw_p23 : lw_okq (⟨"BatchDoserModel", "finishes", "()V"⟩, 34) := ⟨⟨by decide +kernel, by decide +kernel⟩, List.mem_of_getElem? (i := 689) (by decide +kernel), List.mem_of_getElem? (i := 853) (by decide +kernel), List.mem_of_getElem? (i := 854) (by decide +kernel)⟩
theorem lw_p24 : lw_okq (⟨"BatchDoserModel", "books", "()I"⟩, 34) := ⟨⟨by decide +kernel, by decide +kernel⟩, List.mem_of_getElem? (i := 689) (by decide +kernel), List.mem_of_getElem? (i := 857) (by decide +kernel), List.mem_of_getElem? (i := 858) (by decide +kernel)⟩
theorem lw_p25 : lw_okq (⟨"BatchDoserModel", "begins", "(I)V"⟩, 34) := ⟨⟨by decide +kernel, by decide +kernel⟩, List.mem_of_getElem? (i := 689) (by decide +kernel), List.mem_of_getElem? (i := 861) (by decide +kernel), List.mem_of_getElem? (i := 862) (by decide +kernel)⟩
theorem lw_p26 : lw_okq (⟨"BatchDoserModel", "isLot", "(I)Z"⟩, 34) := ⟨⟨by decide +kernel, by decide +kernel⟩, List.mem_of_getElem? (i := 689) (by decide +kernel), List.mem_of_getElem? (i := 924) (by decide +kernel), List.mem_of_getElem? (i := 925) (by decide +kernel)⟩
def lw_privs_2 : List (MethodName × Nat) := [(⟨"BatchDoserModel", "grossNow", "()I"⟩, 34), (⟨"BatchDoserModel", "settles", "()Z"⟩, 34), (⟨"BatchDoserModel", "goesOn", "()V"⟩, 34), (⟨"BatchDoserModel", "netNow", "()I"⟩, 34), (⟨"BatchDoserModel", "becomes", "(I)V"⟩, 34), (⟨"BatchDoserModel", "weighs", "()V"⟩, 34), (⟨"BatchDoserModel", "holds", "(I)V"⟩, 34), (⟨"BatchDoserModel", "finishes", "()V"⟩, 34), (⟨"BatchDoserModel", "books", "()I"⟩, 34), (⟨"BatchDoserModel", "begins", "(I)V"⟩, 34), (⟨"BatchDoserModel", "isLot", "(I)Z"⟩, 34)]
theorem lw_r2 : ∀ q ∈ lw_privs_2, lw_okq q := List.forall_mem_cons.mpr ⟨lw_p16, List.forall_mem_cons.mpr ⟨lw_p17, List.forall_mem_cons.mpr ⟨lw_p18, List.forall_mem_cons.mpr ⟨lw_p19, List.forall_mem_cons.mpr ⟨lw_p20, List.forall_mem_cons.mpr ⟨lw_p21, List.forall_mem_cons.mpr ⟨lw_p22, List.forall_mem_cons.mpr ⟨lw_p23, List.forall_mem_cons.mpr ⟨lw_p24, List.forall_mem_cons.mpr ⟨lw_p25, List.forall_mem_cons.mpr ⟨lw_p26, fun _ h => absurd h List.not_mem_nil⟩⟩⟩⟩⟩⟩⟩⟩⟩⟩⟩
def lw_privs : List (MethodName × Nat) := lw_privs_1 ++ (lw_privs_2)
def lw_tbl : List Cond := k2_sels lw_privs ++ tables_1
theorem lw_privs_ok : ∀ q ∈ lw_privs, lw_okq q := by
  show ∀ q ∈ lw_privs_1 ++ (lw_privs_2), lw_okq q
  exact List.forall_mem_append.mpr ⟨lw_r1, lw_r2⟩
-- ===== end of PART A; then your names; then what follows =====
end
section
/-! ===== BEGIN words of one list among another's, by their places ===== -/
theorem goodIn_r {big : List Cond} (ws : List Cond) (ps : List Nat) (hp : ws = ps.filterMap (fun i => big[i]?)) (h : ws.all goodWord = true) : GoodIn big ws := by
  intro w hw
  have h1 := List.all_eq_true.mp h w hw
  rw [hp] at hw
  obtain ⟨i, -, hi⟩ := List.mem_filterMap.mp hw
  have hm : w ∈ big := by first | exact List.mem_of_getElem? hi | exact List.getElem?_mem hi
  exact ⟨hm, good_of_word h1⟩
theorem goodIn_app {big a b : List Cond} (ha : GoodIn big a) (hb : GoodIn big b) : GoodIn big (a ++ b) := fun w h => (List.mem_append.mp h).elim (ha w) (hb w)
theorem goodIn_ca {big a b : List Cond} {c : Cond} (ha : GoodIn big (c :: a)) (hb : GoodIn big b) : GoodIn big (c :: (a ++ b)) := fun w h => (List.mem_cons.mp h).elim (fun e => ha w (List.mem_cons.mpr (Or.inl e))) (fun h => (List.mem_append.mp h).elim (fun h => ha w (List.mem_cons.mpr (Or.inr h))) (hb w))
theorem goodIn_sub {big ws : List Cond} (hm : ∀ w ∈ ws, w ∈ big) (h : ws.all goodWord = true) : GoodIn big ws := fun w hw => ⟨hm w hw, good_of_word (List.all_eq_true.mp h w hw)⟩
/-! ===== END ===== -/

/-! ===== BEGIN exceptions that leave a method, and their catching by the caller (launches without stack traces) ===== -/
section VXA
/-! The laws vx_back, vx_callV, vx_callS, vx_callSW, vx_throw0, vx_throwS follow proofs of the library, with one case more: JvmDerived/Free/Laws.lean (Back.of_free), Shelf42/LK1.lean (callV, callS), Shelf/KitTraced.lean (throwNew0V, throwNewS). -/
/-- where a method has thrown q: the class by its name, the cell, what was written, the world -/
def vx_T (XC : String → State → State → Prop) (st : State) (q : Addr) (t : State) (mc ms : Nat) (free : Addr → Prop) : Prop :=
  ∃ (E : String) (ce : Cell) (L : List Loc), XC E st t ∧ t.heap[q]? = some ce ∧ ce.vm = .none ∧ st.vm.findClass E = some ce.cls ∧ st.WarmedH t.vm ∧ st.sameButNew ({ t with vm := st.vm } : State) L mc ms ∧ ∀ z ∈ L, free z.base
def vx_Q (Qc : Array Value → State → Outcome → State → Prop) (XC : String → State → State → Prop) (mc ms : Nat) (free : Addr → Prop) : Array Value → State → Outcome → State → Prop := fun a st o t =>
  (Qc a st o t ∧ ∃ L, FrameEnd st o t L mc ms ∧ ∀ q ∈ L, free q.base) ∨ ∃ q, o = .threw q ∧ vx_T XC st q t mc ms free
/-- a callee that returns or throws -/
def vx_Met (l : Launch) (y : MethodName) (ws : List Cond) (rm : Room) (Pc : Array Value → State → Prop) (Qc : Array Value → State → Outcome → State → Prop) (XC : String → State → State → Prop) (mc ms : Nat) (free : Addr → Prop) : Prop :=
  MetFree l y (headSpec ws rm) Pc (fun _ _ _ _ _ => True) (vx_Q Qc XC mc ms free)
def vx_Post (XC : String → State → State → Prop) (mc ms : Nat) (free : Addr → Prop) : Pt → Array Value → Addr → Pt → Prop := fun A a q B =>
  ∃ (g : JFrame) (mk : MethodId) (t : State) (L : List Loc) (E : String) (ce : Cell), B.U.heap = t.heap ∧ B.U.vm = t.vm ∧ XC E (A.U.calling g mk a) t ∧ t.heap[q]? = some ce ∧ ce.vm = .none ∧ A.U.vm.findClass E = some ce.cls ∧ B.locs = A.locs ++ L ∧ (∀ z ∈ L, free z.base) ∧ B.cells = A.cells + mc ∧ B.slots = A.slots + ms
def vx_Back (l : Launch) (R : Room) (p : Program) (e : Env) (below : List Frame) (s : State) (sargs : Array Value) (y : MethodName) (len W9 : Nat)
    (Pre : Pt → Array Value → Prop) (Post : Pt → Array Value → Option Value → Pt → Prop) (PostX : Pt → Array Value → Addr → Pt → Prop) : Prop :=
  ∀ (m : MethodId) (meth : Method) (c : Code) (A : Pt) (g : JFrame) (ig : Instr) (mk : MethodId) (a : Array Value),
    Stand p l e R s m sargs below meth c A.U A.locs A.cells A.slots → g.method = m → g.locals.size = c.maxLocals → decode c.code g.pc = .ok (ig, len) →
    2 * g.monitorRoom + (g.stack.map fun v => v.category).sum ≤ W9 → A.U.methodNamed? y = some mk → Pre A a →
    (∃ (v : Option Value) (B : Pt), Stand p l e R s m sargs below meth c B.U B.locs B.cells B.slots ∧ Post A a v B ∧
      Steps p.tables e below (doInvoke e (A.U.setTop g) [] mk a).1 (B.U.setTop { g with pc := g.pc + len, stack := v.toList ++ g.stack })) ∨
    (∃ (q : Addr) (B : Pt), Stand p l e R s m sargs below meth c B.U B.locs B.cells B.slots ∧ PostX A a q B ∧
      Steps p.tables e below (doInvoke e (A.U.setTop g) [] mk a).1 ((B.U.setTop g).pushFrame (.throwing q)))
section Payer
variable {l : Launch} {R : Room} {p : Program} {e : Env} {below : List Frame} {s : State} {sargs : Array Value} {y : MethodName} {len W9 : Nat}
theorem vx_back {ws : List Cond} {rm : Room} {Pc : Array Value → State → Prop} {Qc : Array Value → State → Outcome → State → Prop} {XC : String → State → State → Prop} {mc ms : Nat} {free : Addr → Prop} {bytes : ByteArray} {maxL : Nat} {ret : Option FieldType}
    (hM : vx_Met l y ws rm Pc Qc XC mc ms free) (hblind : FrameBlind Pc) (hrc : rm.cells = mc) (hrs : rm.slots = ms)
    (hframes : rm.frames + 1 ≤ R.frames) (hlocals : W9 + (maxL + 11) + rm.locals ≤ R.locals)
    (hws : ∀ w ∈ ws, ∀ a' U, s.WarmedH U.vm → w.before a' U = true) (hcode : Cond.code y bytes maxL ret ∈ ws) (hinit : ∀ a' U, s.WarmedH U.vm → (Cond.initialized y.cls).before a' U = true) :
    vx_Back l R p e below s sargs y len W9 (PreOf R mc ms Pc) (PostOf Qc mc ms free) (vx_Post XC mc ms free) := by
  intro m meth c A g ig mk a X hg hsize hdg hW hn hp
  have h1 : (headSpec ws rm).pre.before a A.U = true := atoms_intro fun w hw => hws w hw _ _ X.warmed
  have h2 : (Cond.code y bytes maxL ret).before a A.U = true := hws _ hcode _ _ X.warmed
  have h3 : (Cond.initialized y.cls).before a A.U = true := hinit _ _ X.warmed
  have h4 : A.cells + (headSpec ws rm).room.cells ≤ R.cells := by rw [show (headSpec ws rm).room.cells = mc from hrc]; exact hp.1
  have h5 : A.slots + (headSpec ws rm).room.slots ≤ R.slots := by rw [show (headSpec ws rm).room.slots = ms from hrs]; exact hp.2.1
  have hPc : Pc a (A.U.calling g mk a) := hblind _ _ _ _ hp.2.2
  obtain ⟨U, Ls, c0, s0⟩ := A
  dsimp only [Pt.U, Pt.locs, Pt.cells, Pt.slots] at h1 h2 h3 h4 h5 X hn hPc ⊢
  obtain ⟨methY, cY, hmY, hcY, -, hlY, -, -, -, -⟩ := Cond.code_spec hn h2
  obtain ⟨kY, hkY, -⟩ := className_of_methodNamed hn
  have hinitY : kY.init = .initialized := Cond.initialized_spec (findClass_of_methodNamed hn) hkY h3
  have h : At U g.method c below := by rw [hg]; exact X.here
  have hlocals9 : W9 + (maxL + 11) + (headSpec ws rm).room.locals ≤ R.locals := hlocals
  have happ : (headSpec ws rm).appliesLoose y e.platform (U.calling g mk a) = true :=
    Spec.appliesLoose_calling (g := g) h hdg hn hkY hinitY
      (X.room_calling (g := g) (R' := (headSpec ws rm).room) hsize hmY hcY hframes (by rw [hlY]; omega) h4 h5) h1
  obtain ⟨mid, hmid⟩ := h.above
  have hfr : (U.setTop g).frames = (.java g :: mid) ++ below := by rw [State.frames_setTop' g h.top, hmid]; rfl
  obtain ⟨o, s₂, hsteps, -, hend, hq⟩ := Steps.callFree hM p X.admits X.cas X.clock (acts := []) hfr happ hPc trivial
  have hq' : vx_Q Qc XC mc ms free a (U.calling g mk a) o s₂ := hq
  rw [State.frames_setTop' g h.top] at hend
  obtain ⟨g₀, hg0⟩ := Option.isSome_iff_exists.mp h.top
  obtain ⟨r, hr⟩ := State.topJava?_eq_some.mp hg0
  have hr' : (({ U with heap := s₂.heap, slotsUsed := s₂.slotsUsed } : State).setVm s₂.vm).frames = .java g₀ :: r := hr
  rcases hq' with ⟨hqc, L, hfe, hL⟩ | ⟨q, rfl, E, ce, L, hx, hce, hcv, hcl, hW₂, hsm, hL⟩
  · obtain ⟨⟨v, rfl⟩, hW₂, e2, q2, q3, q4, q5, q6⟩ := id hfe
    have e3 : s₂ = ({ (U.calling g mk a).setFrames s₂.frames with heap := s₂.heap, slotsUsed := s₂.slotsUsed } : State).setVm s₂.vm := by
      have : s₂ = ({ s₂ with vm := (U.calling g mk a).vm } : State).setVm s₂.vm := rfl
      rw [e2] at this
      exact this
    obtain ⟨c₂, i₂, len₂, hc₂, hd₂, hf₂⟩ := hend
    have hW' : U.WarmedH s₂.vm := hW₂
    have hcc : c₂ = c := by
      have h1 : s₂.code? g.method = U.code? g.method := by
        rw [State.code?_eq, State.code?_eq, hW'.alike.method?]
      exact Option.some.inj (hc₂.symm.trans (h1.trans h.code))
    subst hcc
    have hlen : len₂ = len := by rw [hdg] at hd₂; cases hd₂; rfl
    subst hlen
    have hs₂ : s₂ = (({ U with heap := s₂.heap, slotsUsed := s₂.slotsUsed } : State).setVm s₂.vm).setTop { g with pc := g.pc + len₂, stack := v.toList ++ g.stack } := by
      refine e3.trans ?_
      rw [hf₂, State.calling_eq h.top, State.setFrames_setFrames, State.setTop_of_frames _ hr', hr]
      rfl
    have hsame : U.sameButNew ({ U with heap := s₂.heap, slotsUsed := s₂.slotsUsed } : State) L mc ms := by
      refine ⟨?_, q2, q3, q4, q5, q6⟩
      obtain ⟨t, ht, -⟩ := State.frames_cons hr
      show ({ U with heap := s₂.heap, slotsUsed := s₂.slotsUsed } : State) = { U.setFrames U.frames with heap := s₂.heap, slotsUsed := s₂.slotsUsed }
      rw [State.setFrames_self ht]
    subst hg
    refine Or.inl ⟨v, ⟨(({ U with heap := s₂.heap, slotsUsed := s₂.slotsUsed } : State).setVm s₂.vm), Ls ++ L, c0 + mc, s0 + ms⟩,
      ⟨X.admits, X.cas, X.clock, X.frames, X.room, X.hears, X.method, X.code, (X.here.setHeapUsed s₂.heap s₂.slotsUsed).setVm hW'.alike, X.tail, State.WarmedH.trans X.warmed hW', X.limits, X.bytes, X.same.trans (hsame.setVm s.vm)⟩,
      ⟨g, mk, s₂, L, rfl, rfl, hqc, rfl, hL, rfl, rfl⟩, ?_⟩
    show Steps p.tables e below _ ((({ U with heap := s₂.heap, slotsUsed := s₂.slotsUsed } : State).setVm s₂.vm).setTop { g with pc := g.pc + len₂, stack := v.toList ++ g.stack })
    rw [← hs₂]
    exact hsteps
  · obtain ⟨e2, q2, q3, q4, q5, q6⟩ := id hsm
    have e3 : s₂ = ({ (U.calling g mk a).setFrames s₂.frames with heap := s₂.heap, slotsUsed := s₂.slotsUsed } : State).setVm s₂.vm := by
      have : s₂ = ({ s₂ with vm := (U.calling g mk a).vm } : State).setVm s₂.vm := rfl
      rw [e2] at this
      exact this
    have hf₂ : s₂.frames = .throwing q :: .java g :: U.frames.tail := hend
    have hW' : U.WarmedH s₂.vm := hW₂
    have hs₂ : s₂ = ((({ U with heap := s₂.heap, slotsUsed := s₂.slotsUsed } : State).setVm s₂.vm).setTop g).pushFrame (.throwing q) := by
      refine e3.trans ?_
      rw [hf₂, State.calling_eq h.top, State.setFrames_setFrames, State.pushFrame, State.frames_setTop _ hr', State.setTop_of_frames _ hr', State.setFrames_setFrames, hr]
      rfl
    have hsame : U.sameButNew ({ U with heap := s₂.heap, slotsUsed := s₂.slotsUsed } : State) L mc ms := by
      refine ⟨?_, q2, q3, q4, q5, q6⟩
      obtain ⟨t, ht, -⟩ := State.frames_cons hr
      show ({ U with heap := s₂.heap, slotsUsed := s₂.slotsUsed } : State) = { U.setFrames U.frames with heap := s₂.heap, slotsUsed := s₂.slotsUsed }
      rw [State.setFrames_self ht]
    subst hg
    refine Or.inr ⟨q, ⟨(({ U with heap := s₂.heap, slotsUsed := s₂.slotsUsed } : State).setVm s₂.vm), Ls ++ L, c0 + mc, s0 + ms⟩,
      ⟨X.admits, X.cas, X.clock, X.frames, X.room, X.hears, X.method, X.code, (X.here.setHeapUsed s₂.heap s₂.slotsUsed).setVm hW'.alike, X.tail, State.WarmedH.trans X.warmed hW', X.limits, X.bytes, X.same.trans (hsame.setVm s.vm)⟩,
      ⟨g, mk, s₂, L, E, ce, rfl, rfl, hx, hce, hcv, hcl, rfl, hL, rfl, rfl⟩, ?_⟩
    show Steps p.tables e below _ (((({ U with heap := s₂.heap, slotsUsed := s₂.slotsUsed } : State).setVm s₂.vm).setTop g).pushFrame (.throwing q))
    rw [← hs₂]
    exact hsteps
end Payer
section Calls
variable {p : Program} {l : Launch} {e : Env} {R : Room} {s : State} {m : MethodId} {args : Array Value} {below : List Frame} {meth : Method} {c : Code} {T : State} {locs : List Loc} {cells slots : Nat}
theorem vx_callV (X : Stand p l e R s m args below meth c T locs cells slots) (hexec : p.tables.exec = Jvm.exec) {own C : String} {index : Nat} {y : MethodName} {bytes : ByteArray} {maxL : Nat} {ret : Option FieldType}
    (hown : s.vm.findClass own = some m.cls) (hlink : (Cond.methodLink own index y).before args s = true) (hinst : (Cond.instanceMethod y).before args s = true) (hsel : (Cond.selects C y y).before args s = true)
    (hcode : (Cond.code y bytes maxL ret).before args s = true) (hy : y.cls ≠ "java/lang/invoke/MethodHandle" ∧ y.cls ≠ "java/lang/invoke/VarHandle")
    {W9 : Nat} {Pre : Pt → Array Value → Prop} {Post : Pt → Array Value → Option Value → Pt → Prop} {PostX : Pt → Array Value → Addr → Pt → Prop} (hK : vx_Back l R p e below s args y 3 W9 Pre Post PostX)
    {b : Addr} {cellB : Cell} (hcell : T.heap[b]? = some cellB) (hobj : cellB.vm.isStatics = false) (hcls : s.vm.findClass C = some cellB.cls)
    {g : JFrame} (hg : g.method = m) (hsize : g.locals.size = c.maxLocals) {argsL rest : List Value} (hlen : ∀ sig, parseMethodDescriptor y.desc = some sig → argsL.length = sig.parameters.length)
    (hstack : g.stack = argsL.reverse ++ .ref b :: rest) (hW : 2 * g.monitorRoom + (rest.map fun v => v.category).sum ≤ W9) (hdg : decode c.code g.pc = .ok (.invokevirtual index, 3))
    (hpre : ∀ vm₁, s.WarmedH vm₁ → Pre ⟨T.setVm vm₁, locs, cells, slots⟩ (Value.ref b :: argsL).toArray) :
    (∃ (v : Option Value) (vm₁ : Vm) (B : Pt), s.WarmedH vm₁ ∧ Stand p l e R s m args below meth c B.U B.locs B.cells B.slots ∧ Post ⟨T.setVm vm₁, locs, cells, slots⟩ (Value.ref b :: argsL).toArray v B ∧
      ∀ target, Steps p.tables e below (B.U.setTop { g with pc := g.pc + 3, stack := v.toList ++ rest }) target → Steps p.tables e below (T.setTop g) target) ∨
    (∃ (q : Addr) (vm₁ : Vm) (B : Pt), s.WarmedH vm₁ ∧ Stand p l e R s m args below meth c B.U B.locs B.cells B.slots ∧ PostX ⟨T.setVm vm₁, locs, cells, slots⟩ (Value.ref b :: argsL).toArray q B ∧
      Steps p.tables e below (T.setTop g) ((B.U.setTop { g with stack := rest }).pushFrame (.throwing q))) := by
  obtain ⟨mk, methM, hnamed, hmethM, hstM, habM⟩ := Cond.instanceMethod_spec hinst
  obtain ⟨methM', cM, hmethM', -, -, -, -, -, -, hsigM⟩ := Cond.code_spec hnamed hcode
  cases hmethM.symm.trans hmethM'
  obtain ⟨c2, r2, m2, q1, q2, q3, q4, kP, hkP, hkPi⟩ := Cond.selects_spec hsel
  cases hcls.symm.trans q1
  cases (State.methodFound?_of_named hnamed hy).symm.trans q2
  cases hnamed.symm.trans q3
  have hselP : selectMethod e.platform s.vm cellB.cls mk = .method mk := by rw [Launch.admits_selectMethod X.admits]; exact q4
  obtain ⟨vm₁, X₁, hstep₁⟩ := X.invokevirtual hexec hown hlink hnamed hmethM hstM hkP hkPi hy (a := b) (cell := cellB) hcell
    (fun z h => by rw [h] at hobj; cases hobj) hselP hmethM habM hkP hkPi (g := g) hg (argsL := argsL) (rest := rest) (hlen _ hsigM) hstack hdg
  rcases hK m meth c ⟨T.setVm vm₁, locs, cells, slots⟩ { g with stack := rest } (.invokevirtual index) mk (Value.ref b :: argsL).toArray X₁ hg hsize hdg hW (X₁.named hnamed) (hpre vm₁ X₁.warmed) with ⟨v, B, X', hpost, hsteps⟩ | ⟨q, B, X', hpost, hsteps⟩
  · exact Or.inl ⟨v, vm₁, B, X₁.warmed, X', hpost, fun target h => hstep₁ _ fun acts => by rw [doInvoke_state]; exact hsteps.trans h⟩
  · exact Or.inr ⟨q, vm₁, B, X₁.warmed, X', hpost, hstep₁ _ fun acts => by rw [doInvoke_state]; exact hsteps⟩
theorem vx_callS (X : Stand p l e R s m args below meth c T locs cells slots) (hexec : p.tables.exec = Jvm.exec) {own : String} {index : Nat} {y : MethodName} {bytes : ByteArray} {maxL : Nat} {ret : Option FieldType}
    (hown : s.vm.findClass own = some m.cls) (hlink : (Cond.methodLink own index y).before args s = true) (hstat : (Cond.static y).before args s = true) (hinit : (Cond.initialized y.cls).before args s = true)
    (hcode : (Cond.code y bytes maxL ret).before args s = true) (hy : y.cls ≠ "java/lang/invoke/MethodHandle" ∧ y.cls ≠ "java/lang/invoke/VarHandle")
    {W9 : Nat} {Pre : Pt → Array Value → Prop} {Post : Pt → Array Value → Option Value → Pt → Prop} {PostX : Pt → Array Value → Addr → Pt → Prop} (hK : vx_Back l R p e below s args y 3 W9 Pre Post PostX)
    {g : JFrame} (hg : g.method = m) (hsize : g.locals.size = c.maxLocals) {argsL rest : List Value} (hlen : ∀ sig, parseMethodDescriptor y.desc = some sig → argsL.length = sig.parameters.length)
    (hstack : g.stack = argsL.reverse ++ rest) (hW : 2 * g.monitorRoom + (rest.map fun v => v.category).sum ≤ W9) (hdg : decode c.code g.pc = .ok (.invokestatic index, 3))
    (hpre : ∀ vm₁, s.WarmedH vm₁ → Pre ⟨T.setVm vm₁, locs, cells, slots⟩ argsL.toArray) :
    (∃ (v : Option Value) (vm₁ : Vm) (B : Pt), s.WarmedH vm₁ ∧ Stand p l e R s m args below meth c B.U B.locs B.cells B.slots ∧ Post ⟨T.setVm vm₁, locs, cells, slots⟩ argsL.toArray v B ∧
      ∀ target, Steps p.tables e below (B.U.setTop { g with pc := g.pc + 3, stack := v.toList ++ rest }) target → Steps p.tables e below (T.setTop g) target) ∨
    (∃ (q : Addr) (vm₁ : Vm) (B : Pt), s.WarmedH vm₁ ∧ Stand p l e R s m args below meth c B.U B.locs B.cells B.slots ∧ PostX ⟨T.setVm vm₁, locs, cells, slots⟩ argsL.toArray q B ∧
      Steps p.tables e below (T.setTop g) ((B.U.setTop { g with stack := rest }).pushFrame (.throwing q))) := by
  obtain ⟨mk, hnamed⟩ := Cond.code_named hcode
  obtain ⟨methM, cM, hmethM, -, -, -, -, -, -, hsigM⟩ := Cond.code_spec hnamed hcode
  have hstatic : methM.isStatic = true := Cond.static_spec hnamed hmethM hstat
  obtain ⟨kP, hkP, -⟩ := className_of_methodNamed hnamed
  have hinitP : kP.init = .initialized := Cond.initialized_spec (findClass_of_methodNamed hnamed) hkP hinit
  obtain ⟨vm₁, X₁, hstep₁⟩ := X.invokestatic hexec hown hlink hnamed hmethM hstatic hkP hinitP hy (g := g) hg (argsL := argsL) (rest := rest) (hlen _ hsigM) hstack hdg
  rcases hK m meth c ⟨T.setVm vm₁, locs, cells, slots⟩ { g with stack := rest } (.invokestatic index) mk argsL.toArray X₁ hg hsize hdg hW (X₁.named hnamed) (hpre vm₁ X₁.warmed) with ⟨v, B, X', hpost, hsteps⟩ | ⟨q, B, X', hpost, hsteps⟩
  · exact Or.inl ⟨v, vm₁, B, X₁.warmed, X', hpost, fun target h => hstep₁ _ fun acts => by rw [doInvoke_state]; exact hsteps.trans h⟩
  · exact Or.inr ⟨q, vm₁, B, X₁.warmed, X', hpost, hstep₁ _ fun acts => by rw [doInvoke_state]; exact hsteps⟩
end Calls
theorem vx_cls {s : State} {T : State} {vm₁ : Vm} {E : String} {k : ClassId} (hW : s.WarmedH vm₁) (h : (T.setVm vm₁).vm.findClass E = some k) : s.vm.findClass E = some k := by
  have h1 : vm₁.findClass E = some k := h
  rw [hW.alike.findClass] at h1
  exact h1
/-- the method's frame g, with q thrown over it -/
def vx_W (p : Program) (l : Launch) (e : Env) (R : Room) (s : State) (m : MethodId) (args : Array Value) (below : List Frame) (meth : Method) (c : Code) (H : Heap) (locs : List Loc) (cells slots : Nat) (Q : State → Prop) (g : JFrame) (q : Addr) : Prop :=
  ∀ T : State, T.heap = H → Stand p l e R s m args below meth c T locs cells slots → ∃ t, Steps p.tables e below ((T.setTop g).pushFrame (.throwing q)) t ∧ Q t
def vx_Run (p : Program) (l : Launch) (e : Env) (R : Room) (s : State) (m : MethodId) (args : Array Value) (below : List Frame) (meth : Method) (c : Code) (H : Heap) (locs : List Loc) (cells slots mc ms : Nat) (g : JFrame) (rest : List Value) (Qa : State → Outcome → State → Prop) (XC : String → State → State → Prop) (free : Addr → Prop) : Prop :=
  ∀ T : State, T.heap = H → Stand p l e R s m args below meth c T locs cells slots →
    (∃ (v : Option Value) (st₀ t T' : State) (L : List Loc), st₀.heap = H ∧ Stand p l e R s m args below meth c T' (locs ++ L) (cells + mc) (slots + ms) ∧ (∀ q ∈ L, free q.base) ∧ T'.heap = t.heap ∧ T'.vm = t.vm ∧ Qa st₀ (.returned v) t ∧
      Goes p e below T g T' { g with pc := g.pc + 3, stack := v.toList ++ rest }) ∨
    (∃ (q : Addr) (st₀ t T' : State) (L : List Loc) (E : String) (ce : Cell), st₀.heap = H ∧ Stand p l e R s m args below meth c T' (locs ++ L) (cells + mc) (slots + ms) ∧ (∀ z ∈ L, free z.base) ∧ T'.heap = t.heap ∧ T'.vm = t.vm ∧ XC E st₀ t ∧ t.heap[q]? = some ce ∧ ce.vm = .none ∧ s.vm.findClass E = some ce.cls ∧
      Steps p.tables e below (T.setTop g) ((T'.setTop { g with stack := rest }).pushFrame (.throwing q)))
def vx_X {S : Type} (px : S → Prop) (B : String → S → State → Prop) (A : Nat → Prop) : String → State → State → Prop := fun E st t => ∃ u : S, px u ∧ B E u t ∧ va_F A st t
section Runs
variable {p : Program} {l : Launch} {e : Env} {R : Room} {s : State} {m : MethodId} {args : Array Value} {below : List Frame} {meth : Method} {c : Code} {H : Heap} {locs : List Loc} {cells slots : Nat}
variable {y : MethodName} {bytes cc : ByteArray} {maxL nL mc ms n index : Nat} {ret : Option FieldType} {ws : List Cond} {rm : Room} {Pc : Array Value → State → Prop} {Qc : Array Value → State → Outcome → State → Prop} {XC : String → State → State → Prop} {free : Addr → Prop} {Ts : List Cond} {own C : String} {b : Addr} {As rest : List Value} {g : JFrame}
theorem vx_callBack (cb : CallB R s args own index y bytes maxL ret ws rm mc ms n) (hM : vx_Met l y ws rm Pc Qc XC mc ms free) (hbl : FrameBlind Pc) : vx_Back l R p e below s args y 3 8 (PreOf R mc ms Pc) (PostOf Qc mc ms free) (vx_Post XC mc ms free) := by
  obtain ⟨hrc, hrs, hfr, hlo, hws, hcw, -, hini, -⟩ := cb
  exact vx_back (bytes := bytes) (maxL := maxL) (ret := ret) hM hbl hrc hrs hfr hlo hws hcw (fun a' U hW => word_at hW (Or.inl (by first | rfl | simp [Cond.onTables, Cond.keeps, Cond.steady])) hini)
theorem vx_runV (S : CallFix p m c cc nL s args Ts own) (hM : vx_Met l y ws rm Pc Qc XC mc ms free) (cw : CallW R s args own C index y bytes maxL ret ws rm mc ms n) (hp : PreV s H C b Pc As)
    (hg : g.method = m) (hn : As.length = n) (hsize : g.locals.size = nL) (hstack : g.stack = As.reverse ++ .ref b :: rest) (hW : 2 * g.monitorRoom + (rest.map fun v => v.category).sum ≤ 8) (hdg : decode cc g.pc = .ok (.invokevirtual index, 3)) (hf : cells + mc ≤ R.cells ∧ slots + ms ≤ R.slots) :
    vx_Run p l e R s m args below meth c H locs cells slots mc ms g rest (Qc (Value.ref b :: As).toArray) XC free := by
  have hK : vx_Back l R p e below s args y 3 8 (PreOf R mc ms Pc) (PostOf Qc mc ms free) (vx_Post XC mc ms free) := vx_callBack cw.1 hM hp.1
  obtain ⟨⟨-, -, -, -, -, -, hcode, -, hy, hlen, hl⟩, hin, hse⟩ := cw
  obtain ⟨hx, hb, hml, ho, -⟩ := S
  obtain ⟨-, ⟨cellB, hcB, hoB, hclB⟩, hPc⟩ := hp
  intro T hT X
  rcases vx_callV X hx (C := C) (bytes := bytes) (maxL := maxL) (ret := ret) ho hl hin hse hcode hy hK (by rw [hT]; exact hcB) hoB hclB hg (hsize.trans hml.symm) (argsL := As) (rest := rest) (fun sig h => hn.trans (hlen sig h)) hstack hW (by rw [hb]; exact hdg)
    (fun vm₁ hW₁ => ⟨hf.1, hf.2, hPc (T.setVm vm₁) hT hW₁⟩) with ⟨v, vm₁, ⟨U', l2, c2, s2⟩, hW₁, X', ⟨g', mk, t, L, e1, e2, hq, h1, hL, h2, h3⟩, st⟩ | ⟨q, vm₁, ⟨U', l2, c2, s2⟩, hW₁, X', ⟨g', mk, t, L, E, ce, e1, e2, hq, hce, hcv, hcl, h1, hL, h2, h3⟩, st⟩
  · dsimp only [Pt.U, Pt.locs, Pt.cells, Pt.slots] at X' e1 e2 h1 h2 h3 st
    subst h1; subst h2; subst h3
    exact Or.inl ⟨v, (T.setVm vm₁).calling g' mk (Value.ref b :: As).toArray, t, U', L, hT, X', hL, e1, e2, hq, st⟩
  · dsimp only [Pt.U, Pt.locs, Pt.cells, Pt.slots] at X' e1 e2 h1 h2 h3 st hcl
    subst h1; subst h2; subst h3
    exact Or.inr ⟨q, (T.setVm vm₁).calling g' mk (Value.ref b :: As).toArray, t, U', L, E, ce, hT, X', hL, e1, e2, hq, hce, hcv, vx_cls hW₁ hcl, st⟩
theorem vx_runS (S : CallFix p m c cc nL s args Ts own) (hM : vx_Met l y ws rm Pc Qc XC mc ms free) (cw : CallB R s args own index y bytes maxL ret ws rm mc ms n ∧ (Cond.static y).before args s = true) (hp : PreS s H Pc As)
    (hg : g.method = m) (hn : As.length = n) (hsize : g.locals.size = nL) (hstack : g.stack = As.reverse ++ rest) (hW : 2 * g.monitorRoom + (rest.map fun v => v.category).sum ≤ 8) (hdg : decode cc g.pc = .ok (.invokestatic index, 3)) (hf : cells + mc ≤ R.cells ∧ slots + ms ≤ R.slots) :
    vx_Run p l e R s m args below meth c H locs cells slots mc ms g rest (Qc As.toArray) XC free := by
  have hK : vx_Back l R p e below s args y 3 8 (PreOf R mc ms Pc) (PostOf Qc mc ms free) (vx_Post XC mc ms free) := vx_callBack cw.1 hM hp.1
  obtain ⟨⟨-, -, -, -, -, -, hcode, hini, hy, hlen, hl⟩, hstt⟩ := cw
  obtain ⟨hx, hb, hml, ho, -⟩ := S
  intro T hT X
  rcases vx_callS X hx (bytes := bytes) (maxL := maxL) (ret := ret) ho hl hstt hini hcode hy hK hg (hsize.trans hml.symm) (argsL := As) (rest := rest) (fun sig h => hn.trans (hlen sig h)) hstack hW (by rw [hb]; exact hdg)
    (fun vm₁ hW₁ => ⟨hf.1, hf.2, hp.2 (T.setVm vm₁) hT hW₁⟩) with ⟨v, vm₁, ⟨U', l2, c2, s2⟩, hW₁, X', ⟨g', mk, t, L, e1, e2, hq, h1, hL, h2, h3⟩, st⟩ | ⟨q, vm₁, ⟨U', l2, c2, s2⟩, hW₁, X', ⟨g', mk, t, L, E, ce, e1, e2, hq, hce, hcv, hcl, h1, hL, h2, h3⟩, st⟩
  · dsimp only [Pt.U, Pt.locs, Pt.cells, Pt.slots] at X' e1 e2 h1 h2 h3 st
    subst h1; subst h2; subst h3
    exact Or.inl ⟨v, (T.setVm vm₁).calling g' mk As.toArray, t, U', L, hT, X', hL, e1, e2, hq, st⟩
  · dsimp only [Pt.U, Pt.locs, Pt.cells, Pt.slots] at X' e1 e2 h1 h2 h3 st hcl
    subst h1; subst h2; subst h3
    exact Or.inr ⟨q, (T.setVm vm₁).calling g' mk As.toArray, t, U', L, E, ce, hT, X', hL, e1, e2, hq, hce, hcv, vx_cls hW₁ hcl, st⟩
end Runs
section Rows
variable {p : Program} {l : Launch} {e : Env} {R : Room} {s : State} {m : MethodId} {args : Array Value} {below : List Frame} {meth : Method} {c : Code} {H : Heap} {locs : List Loc} {cells slots : Nat} {Q : State → Prop}
variable {mc ms : Nat} {free : Addr → Prop} {A0 A1 : Nat → Prop} {H0 : Heap} {a : Array Value} {pc : Nat} {ls : Array Slot} {st0 rest : List Value}
theorem vx_keep {st₀ t T' : State} {L : List Loc} (h0 : st₀.heap = H) (e1 : T'.heap = t.heap) (hS : va_S A0 H0 H locs) (hA : ∀ q, q < H.size → A1 q → A0 q) (hf : ∀ q, free q → A0 q) (hL : ∀ q ∈ L, free q.base) (hF : va_F A1 st₀ t) :
    H.size ≤ T'.heap.size ∧ (∀ q : Nat, q < H.size → ¬ A1 q → T'.heap[q]? = H[q]?) ∧ va_S A0 H0 T'.heap (locs ++ L) := by
  obtain ⟨hz, hk⟩ := hF
  rw [h0] at hz hk
  exact ⟨by rw [e1]; exact hz, fun q h1 h2 => by rw [e1]; exact hk q h1 h2,
    ⟨Nat.le_trans hS.1 (by rw [e1]; exact hz), fun q h1 h2 => by rw [e1, hk q (Nat.lt_of_lt_of_le h1 hS.1) (fun z => h2 (hA q (Nat.lt_of_lt_of_le h1 hS.1) z))]; exact hS.2.1 q h1 h2, fun q hq => by
      rcases List.mem_append.mp hq with h | h
      · exact hS.2.2 q h
      · exact hf _ (hL q h)⟩⟩
theorem vx_calli {S SX : Type} {post : Int32 → S → Prop} {px : SX → Prop} {B : S → State → Prop} {BX : String → SX → State → Prop} {AX : Nat → Prop} (hr : vx_Run p l e R s m args below meth c H locs cells slots mc ms (F0 m pc ls st0) rest (va_Qi post B A1 a) (vx_X px BX AX) free) (hS : va_S A0 H0 H locs) (hA : ∀ q, q < H.size → A1 q → A0 q) (hf : ∀ q, free q → A0 q) (hAX : ∀ q, q < H.size → AX q → A0 q)
    (kx : ∀ (E : String) (ce : Cell) (q9 : Addr) (u : SX) (t : State) (H1 : Heap) (locs1 : List Loc), t.heap = H1 → s.vm.Alike t.vm → px u → BX E u t → H.size ≤ H1.size → (∀ q : Nat, q < H.size → ¬ AX q → H1[q]? = H[q]?) → va_S A0 H0 H1 locs1 → H1[q9]? = some ce → ce.vm = .none → s.vm.findClass E = some ce.cls → vx_W p l e R s m args below meth c H1 locs1 (cells + mc) (slots + ms) Q (F0 m pc ls rest) q9)
    (kk : ∀ (r : Int32) (u : S) (t : State) (H1 : Heap) (locs1 : List Loc), t.heap = H1 → s.vm.Alike t.vm → post r u → B u t → H.size ≤ H1.size → (∀ q : Nat, q < H.size → ¬ A1 q → H1[q]? = H[q]?) → va_S A0 H0 H1 locs1 → W p l e R s m args below meth c H1 locs1 (cells + mc) (slots + ms) Q (F0 m (pc + 3) ls (.int r :: rest))) : W p l e R s m args below meth c H locs cells slots Q (F0 m pc ls st0) := by
  intro T hT X
  rcases hr T hT X with ⟨v, st₀, t, T', L, h0, X', hL, e1, e2, ⟨⟨r, u, hv, hp, hb⟩, hF⟩, st⟩ | ⟨q, st₀, t, T', L, E, ce, h0, X', hL, e1, e2, ⟨u, hp, hb, hF⟩, hce, hcv, hcl, st⟩
  · cases hv
    obtain ⟨k1, k2, k3⟩ := vx_keep h0 e1 hS hA hf hL hF
    obtain ⟨t2, a1, b1⟩ := kk r u t T'.heap (locs ++ L) e1.symm (by rw [← e2]; exact X'.warmed.alike) hp hb k1 k2 k3 T' rfl X'
    exact ⟨t2, st t2 a1, b1⟩
  · obtain ⟨k1, k2, k3⟩ := vx_keep h0 e1 hS hAX hf hL hF
    obtain ⟨t2, a1, b1⟩ := kx E ce q u t T'.heap (locs ++ L) e1.symm (by rw [← e2]; exact X'.warmed.alike) hp hb k1 k2 k3 (by rw [e1]; exact hce) hcv hcl T' rfl X'
    exact ⟨t2, st.trans a1, b1⟩
theorem vx_calll {S SX : Type} {post : Int64 → S → Prop} {px : SX → Prop} {B : S → State → Prop} {BX : String → SX → State → Prop} {AX : Nat → Prop} (hr : vx_Run p l e R s m args below meth c H locs cells slots mc ms (F0 m pc ls st0) rest (va_Ql post B A1 a) (vx_X px BX AX) free) (hS : va_S A0 H0 H locs) (hA : ∀ q, q < H.size → A1 q → A0 q) (hf : ∀ q, free q → A0 q) (hAX : ∀ q, q < H.size → AX q → A0 q)
    (kx : ∀ (E : String) (ce : Cell) (q9 : Addr) (u : SX) (t : State) (H1 : Heap) (locs1 : List Loc), t.heap = H1 → s.vm.Alike t.vm → px u → BX E u t → H.size ≤ H1.size → (∀ q : Nat, q < H.size → ¬ AX q → H1[q]? = H[q]?) → va_S A0 H0 H1 locs1 → H1[q9]? = some ce → ce.vm = .none → s.vm.findClass E = some ce.cls → vx_W p l e R s m args below meth c H1 locs1 (cells + mc) (slots + ms) Q (F0 m pc ls rest) q9)
    (kk : ∀ (r : Int64) (u : S) (t : State) (H1 : Heap) (locs1 : List Loc), t.heap = H1 → s.vm.Alike t.vm → post r u → B u t → H.size ≤ H1.size → (∀ q : Nat, q < H.size → ¬ A1 q → H1[q]? = H[q]?) → va_S A0 H0 H1 locs1 → W p l e R s m args below meth c H1 locs1 (cells + mc) (slots + ms) Q (F0 m (pc + 3) ls (.long r :: rest))) : W p l e R s m args below meth c H locs cells slots Q (F0 m pc ls st0) := by
  intro T hT X
  rcases hr T hT X with ⟨v, st₀, t, T', L, h0, X', hL, e1, e2, ⟨⟨r, u, hv, hp, hb⟩, hF⟩, st⟩ | ⟨q, st₀, t, T', L, E, ce, h0, X', hL, e1, e2, ⟨u, hp, hb, hF⟩, hce, hcv, hcl, st⟩
  · cases hv
    obtain ⟨k1, k2, k3⟩ := vx_keep h0 e1 hS hA hf hL hF
    obtain ⟨t2, a1, b1⟩ := kk r u t T'.heap (locs ++ L) e1.symm (by rw [← e2]; exact X'.warmed.alike) hp hb k1 k2 k3 T' rfl X'
    exact ⟨t2, st t2 a1, b1⟩
  · obtain ⟨k1, k2, k3⟩ := vx_keep h0 e1 hS hAX hf hL hF
    obtain ⟨t2, a1, b1⟩ := kx E ce q u t T'.heap (locs ++ L) e1.symm (by rw [← e2]; exact X'.warmed.alike) hp hb k1 k2 k3 (by rw [e1]; exact hce) hcv hcl T' rfl X'
    exact ⟨t2, st.trans a1, b1⟩
theorem vx_callf {S SX : Type} {post : UInt32 → S → Prop} {px : SX → Prop} {B : S → State → Prop} {BX : String → SX → State → Prop} {AX : Nat → Prop} (hr : vx_Run p l e R s m args below meth c H locs cells slots mc ms (F0 m pc ls st0) rest (va_Qf post B A1 a) (vx_X px BX AX) free) (hS : va_S A0 H0 H locs) (hA : ∀ q, q < H.size → A1 q → A0 q) (hf : ∀ q, free q → A0 q) (hAX : ∀ q, q < H.size → AX q → A0 q)
    (kx : ∀ (E : String) (ce : Cell) (q9 : Addr) (u : SX) (t : State) (H1 : Heap) (locs1 : List Loc), t.heap = H1 → s.vm.Alike t.vm → px u → BX E u t → H.size ≤ H1.size → (∀ q : Nat, q < H.size → ¬ AX q → H1[q]? = H[q]?) → va_S A0 H0 H1 locs1 → H1[q9]? = some ce → ce.vm = .none → s.vm.findClass E = some ce.cls → vx_W p l e R s m args below meth c H1 locs1 (cells + mc) (slots + ms) Q (F0 m pc ls rest) q9)
    (kk : ∀ (r : UInt32) (u : S) (t : State) (H1 : Heap) (locs1 : List Loc), t.heap = H1 → s.vm.Alike t.vm → post r u → B u t → H.size ≤ H1.size → (∀ q : Nat, q < H.size → ¬ A1 q → H1[q]? = H[q]?) → va_S A0 H0 H1 locs1 → W p l e R s m args below meth c H1 locs1 (cells + mc) (slots + ms) Q (F0 m (pc + 3) ls (.float r :: rest))) : W p l e R s m args below meth c H locs cells slots Q (F0 m pc ls st0) := by
  intro T hT X
  rcases hr T hT X with ⟨v, st₀, t, T', L, h0, X', hL, e1, e2, ⟨⟨r, u, hv, hp, hb⟩, hF⟩, st⟩ | ⟨q, st₀, t, T', L, E, ce, h0, X', hL, e1, e2, ⟨u, hp, hb, hF⟩, hce, hcv, hcl, st⟩
  · cases hv
    obtain ⟨k1, k2, k3⟩ := vx_keep h0 e1 hS hA hf hL hF
    obtain ⟨t2, a1, b1⟩ := kk r u t T'.heap (locs ++ L) e1.symm (by rw [← e2]; exact X'.warmed.alike) hp hb k1 k2 k3 T' rfl X'
    exact ⟨t2, st t2 a1, b1⟩
  · obtain ⟨k1, k2, k3⟩ := vx_keep h0 e1 hS hAX hf hL hF
    obtain ⟨t2, a1, b1⟩ := kx E ce q u t T'.heap (locs ++ L) e1.symm (by rw [← e2]; exact X'.warmed.alike) hp hb k1 k2 k3 (by rw [e1]; exact hce) hcv hcl T' rfl X'
    exact ⟨t2, st.trans a1, b1⟩
theorem vx_calld {S SX : Type} {post : UInt64 → S → Prop} {px : SX → Prop} {B : S → State → Prop} {BX : String → SX → State → Prop} {AX : Nat → Prop} (hr : vx_Run p l e R s m args below meth c H locs cells slots mc ms (F0 m pc ls st0) rest (va_Qd post B A1 a) (vx_X px BX AX) free) (hS : va_S A0 H0 H locs) (hA : ∀ q, q < H.size → A1 q → A0 q) (hf : ∀ q, free q → A0 q) (hAX : ∀ q, q < H.size → AX q → A0 q)
    (kx : ∀ (E : String) (ce : Cell) (q9 : Addr) (u : SX) (t : State) (H1 : Heap) (locs1 : List Loc), t.heap = H1 → s.vm.Alike t.vm → px u → BX E u t → H.size ≤ H1.size → (∀ q : Nat, q < H.size → ¬ AX q → H1[q]? = H[q]?) → va_S A0 H0 H1 locs1 → H1[q9]? = some ce → ce.vm = .none → s.vm.findClass E = some ce.cls → vx_W p l e R s m args below meth c H1 locs1 (cells + mc) (slots + ms) Q (F0 m pc ls rest) q9)
    (kk : ∀ (r : UInt64) (u : S) (t : State) (H1 : Heap) (locs1 : List Loc), t.heap = H1 → s.vm.Alike t.vm → post r u → B u t → H.size ≤ H1.size → (∀ q : Nat, q < H.size → ¬ A1 q → H1[q]? = H[q]?) → va_S A0 H0 H1 locs1 → W p l e R s m args below meth c H1 locs1 (cells + mc) (slots + ms) Q (F0 m (pc + 3) ls (.double r :: rest))) : W p l e R s m args below meth c H locs cells slots Q (F0 m pc ls st0) := by
  intro T hT X
  rcases hr T hT X with ⟨v, st₀, t, T', L, h0, X', hL, e1, e2, ⟨⟨r, u, hv, hp, hb⟩, hF⟩, st⟩ | ⟨q, st₀, t, T', L, E, ce, h0, X', hL, e1, e2, ⟨u, hp, hb, hF⟩, hce, hcv, hcl, st⟩
  · cases hv
    obtain ⟨k1, k2, k3⟩ := vx_keep h0 e1 hS hA hf hL hF
    obtain ⟨t2, a1, b1⟩ := kk r u t T'.heap (locs ++ L) e1.symm (by rw [← e2]; exact X'.warmed.alike) hp hb k1 k2 k3 T' rfl X'
    exact ⟨t2, st t2 a1, b1⟩
  · obtain ⟨k1, k2, k3⟩ := vx_keep h0 e1 hS hAX hf hL hF
    obtain ⟨t2, a1, b1⟩ := kx E ce q u t T'.heap (locs ++ L) e1.symm (by rw [← e2]; exact X'.warmed.alike) hp hb k1 k2 k3 (by rw [e1]; exact hce) hcv hcl T' rfl X'
    exact ⟨t2, st.trans a1, b1⟩
theorem vx_callv {S SX : Type} {post : S → Prop} {px : SX → Prop} {B : S → State → Prop} {BX : String → SX → State → Prop} {AX : Nat → Prop} (hr : vx_Run p l e R s m args below meth c H locs cells slots mc ms (F0 m pc ls st0) rest (va_Qv post B A1 a) (vx_X px BX AX) free) (hS : va_S A0 H0 H locs) (hA : ∀ q, q < H.size → A1 q → A0 q) (hf : ∀ q, free q → A0 q) (hAX : ∀ q, q < H.size → AX q → A0 q)
    (kx : ∀ (E : String) (ce : Cell) (q9 : Addr) (u : SX) (t : State) (H1 : Heap) (locs1 : List Loc), t.heap = H1 → s.vm.Alike t.vm → px u → BX E u t → H.size ≤ H1.size → (∀ q : Nat, q < H.size → ¬ AX q → H1[q]? = H[q]?) → va_S A0 H0 H1 locs1 → H1[q9]? = some ce → ce.vm = .none → s.vm.findClass E = some ce.cls → vx_W p l e R s m args below meth c H1 locs1 (cells + mc) (slots + ms) Q (F0 m pc ls rest) q9)
    (kk : ∀ (u : S) (t : State) (H1 : Heap) (locs1 : List Loc), t.heap = H1 → s.vm.Alike t.vm → post u → B u t → H.size ≤ H1.size → (∀ q : Nat, q < H.size → ¬ A1 q → H1[q]? = H[q]?) → va_S A0 H0 H1 locs1 → W p l e R s m args below meth c H1 locs1 (cells + mc) (slots + ms) Q (F0 m (pc + 3) ls (rest))) : W p l e R s m args below meth c H locs cells slots Q (F0 m pc ls st0) := by
  intro T hT X
  rcases hr T hT X with ⟨v, st₀, t, T', L, h0, X', hL, e1, e2, ⟨⟨u, hv, hp, hb⟩, hF⟩, st⟩ | ⟨q, st₀, t, T', L, E, ce, h0, X', hL, e1, e2, ⟨u, hp, hb, hF⟩, hce, hcv, hcl, st⟩
  · cases hv
    obtain ⟨k1, k2, k3⟩ := vx_keep h0 e1 hS hA hf hL hF
    obtain ⟨t2, a1, b1⟩ := kk u t T'.heap (locs ++ L) e1.symm (by rw [← e2]; exact X'.warmed.alike) hp hb k1 k2 k3 T' rfl X'
    exact ⟨t2, st t2 a1, b1⟩
  · obtain ⟨k1, k2, k3⟩ := vx_keep h0 e1 hS hAX hf hL hF
    obtain ⟨t2, a1, b1⟩ := kx E ce q u t T'.heap (locs ++ L) e1.symm (by rw [← e2]; exact X'.warmed.alike) hp hb k1 k2 k3 (by rw [e1]; exact hce) hcv hcl T' rfl X'
    exact ⟨t2, st.trans a1, b1⟩
/-- caught by the row x of this method's table; the rows ahead don't take it -/
theorem vx_catch {own name : String} {E : String} {ce : Cell} {q : Addr} (hown : s.vm.findClass own = some m.cls) (pre : List ExceptionTableEntry) (x : ExceptionTableEntry) (suf : List ExceptionTableEntry) (hsplit : c.exceptionTable.toList = pre ++ x :: suf)
    (hpass : ∀ z ∈ pre, covers z pc = false ∨ (z.catchType ≠ 0 ∧ ∃ nm : String, (Cond.classLink own z.catchType nm).before args s = true ∧ va_Nc E nm s)) (hx : covers x pc = true) (h0 : x.catchType ≠ 0)
    (hlink : (Cond.classLink own x.catchType name).before args s = true) (hcast : (Cond.castable E name).before args s = true) (hcell : H[q]? = some ce) (hv : ce.vm = .none) (hcl : s.vm.findClass E = some ce.cls)
    (kk : W p l e R s m args below meth c H locs cells slots Q (F0 m x.handlerPc ls [.ref q])) : vx_W p l e R s m args below meth c H locs cells slots Q (F0 m pc ls rest) q := by
  intro T hT X
  have hpl : e.platform.magicAccessors = ({} : Platform).magicAccessors := by rw [X.admits.platform]
  obtain ⟨c3, c4, hc3, hc4, hasg⟩ := Cond.castable_spec hcast
  cases Option.some.inj (hc3.symm.trans hcl)
  obtain ⟨c5, hc5, hcl5⟩ := Cond.classLink_spec hown hlink e.platform hpl
  cases Option.some.inj (hc4.symm.trans hc5)
  obtain ⟨vm', X', st⟩ := X.thenCaughtThrough q (g := F0 m pc ls rest) rfl (Steps.refl _) (by rw [hT]; exact hcell) (by rw [hv]; rfl) (by obtain ⟨k9, h9, -⟩ := Vm.findClass_spec hcl; exact ⟨k9, h9⟩) pre x suf hsplit
    (fun z hz => by
      rcases hpass z hz with h | ⟨hz0, nm, hl1, hn1⟩
      · exact Or.inl h
      · obtain ⟨c6, hc6, hcl6⟩ := Cond.classLink_spec hown hl1 e.platform hpl
        obtain ⟨a8, b8, h1, h2, h3⟩ := hn1
        cases Option.some.inj (h1.symm.trans hcl)
        cases Option.some.inj (h2.symm.trans hc6)
        exact Or.inr ⟨hz0, _, hcl6, h3⟩) hx (Or.inr ⟨h0, c4, hcl5, hasg⟩)
  obtain ⟨t, a1, b1⟩ := kk (T.setVm vm') hT X'
  exact ⟨t, st.trans a1, b1⟩
end Rows
section Ends
variable {p : Program} {l : Launch} {e : Env} {R : Room} {s : State} {m : MethodId} {args : Array Value} {below : List Frame} {meth : Method} {c : Code} {H : Heap} {locs : List Loc} {cells slots : Nat} {Q : State → Prop}
variable {mc ms : Nat} {free : Addr → Prop} {A0 A1 : Nat → Prop} {H0 : Heap} {a : Array Value} {ls : Array Slot} {st0 rest : List Value}
variable {Qc : Array Value → State → Outcome → State → Prop} {XC : String → State → State → Prop}
/-- what a body that may throw owes at its end -/
def vx_MQ (below : List Frame) (Qc : Array Value → State → Outcome → State → Prop) (XC : String → State → State → Prop) (a : Array Value) (s : State) (mc ms : Nat) (free : Addr → Prop) : State → Prop := fun t =>
  ∃ o, t.status = .running ∧ Ended t below o ∧ vx_Q Qc XC mc ms free a s o t
theorem vx_ret {g : JFrame} {mc ms : Nat} (k : W p l e R s m args below meth c H locs cells slots (MQ below Qc args s mc ms free) g) : W p l e R s m args below meth c H locs cells slots (vx_MQ below Qc XC args s mc ms free) g := by
  intro T hT X
  obtain ⟨t, a1, o, b1, b2, b3, b4⟩ := k T hT X
  exact ⟨t, a1, o, b1, b2, Or.inl ⟨b3, b4⟩⟩
/-- not caught here: it goes on to the caller -/
theorem vx_widen {g : JFrame} {q : Addr} {k n : Nat} (h1 : cells ≤ k) (h2 : slots ≤ n) (kk : vx_W p l e R s m args below meth c H locs k n Q g q) : vx_W p l e R s m args below meth c H locs cells slots Q g q := fun T hT X => kk T hT (stand_widen X h1 h2)
theorem vx_out {pc : Nat} {E : String} {ce : Cell} {q : Addr} {mc ms : Nat} (hout : ∀ x ∈ c.exceptionTable.toList, covers x pc = false) (hlocks : meth.locks = false) (hcell : H[q]? = some ce) (hv : ce.vm = .none) (hcl : s.vm.findClass E = some ce.cls)
    (hx : ∀ t : State, t.heap = H → s.vm.Alike t.vm → XC E s t) (hf : ∀ z ∈ locs, free z.base) (hc : cells ≤ mc) (hs : slots ≤ ms) :
    vx_W p l e R s m args below meth c H locs cells slots (vx_MQ below Qc XC args s mc ms free) (F0 m pc ls rest) q := by
  intro T hT X
  obtain ⟨st1, hrun, hend, hW, hsm⟩ := X.leaveThrown q (g := F0 m pc ls rest) rfl rfl rfl hout hlocks
  have hcell9 : (T.setFrames (.throwing q :: below)).heap[q]? = some ce := by
    show T.heap[q]? = some ce
    rw [hT]; exact hcell
  exact ⟨_, st1, .threw q, hrun, hend, Or.inr ⟨q, rfl, E, ce, locs, hx _ hT hW.alike, hcell9, hv, hcl, hW, hsm.mono hc hs, hf⟩⟩
theorem vx_frame {U : State} {k n : Nat} (h : s.sameButNew ({ U with vm := s.vm } : State) locs k n) : s.heap.size ≤ U.heap.size ∧ ∀ q : Nat, q < s.heap.size → (∀ z ∈ locs, z.base ≠ q) → U.heap[q]? = s.heap[q]? := by
  obtain ⟨-, h2, -, -, -, h6⟩ := h
  refine ⟨h2, fun q hq hz => ?_⟩
  obtain ⟨c9, e1, e2, e3, e4⟩ := h6 q _ (Array.getElem?_eq_getElem hq)
  have hs : c9.slots = (s.heap[q]).slots := Array.ext_getElem? fun i => e4 i fun hm => hz _ hm rfl
  have h9 : c9 = s.heap[q] := by
    rw [hs] at e2
    exact e2
  have e5 : U.heap[q]? = some c9 := e1
  rw [e5, h9, Array.getElem?_eq_getElem hq]
/-- the words of a throw but the four that speak of the heap -/
def vx_no (w : Cond) : Bool := decide (w ≠ .isRef (.static Bundle.tN "UNASSIGNED_STACK" Bundle.steD)) && decide (w ≠ .isRef (.static Bundle.tN "SUPPRESSED_SENTINEL" Bundle.listD)) && decide (w ≠ .laysStatic Bundle.tN "UNASSIGNED_STACK" Bundle.steD) && decide (w ≠ .laysStatic Bundle.tN "SUPPRESSED_SENTINEL" Bundle.listD)
def vx_at0 (own : String) (ic : Nat) (X : String) (names : List String) : List Cond := (Bundle.ownAtoms0 own ic X names).filter vx_no
def vx_atS (own : String) (ic : Nat) (X : String) (names : List String) : List Cond := (Bundle.ownAtoms own ic X names).filter vx_no
/-- a word that the tables alone decide, or a good one -/
def vx_ot (w : Cond) : Bool := w.onTables || goodWord w
theorem vx_ot_at {args a' : Array Value} {s U : State} {w : Cond} (hW : s.WarmedH U.vm) (hvm : s.vm = U.vm) (hg : vx_ot w = true) (h : w.before args s = true) : w.before a' U = true := by
  simp only [vx_ot, Bool.or_eq_true] at hg
  rcases hg with hg | hg
  · exact va_tabs hg hvm h
  · exact word_at hW (good_of_word hg) h
/-- a list's words: the good ones out of the method's own list, the others by premises of their own -/
theorem vx_hat {args : Array Value} {s : State} {L B : List Cond} (h1 : ∀ w ∈ L.filter goodWord, w.before args s = true) (h2 : ∀ w ∈ L.filter (fun w => !goodWord w), w ∈ B) (h3 : ∀ w ∈ B, w.before args s = true) : ∀ w ∈ L, w.before args s = true := by
  intro w hw
  by_cases g : goodWord w = true
  · exact h1 w (List.mem_filter.mpr ⟨hw, g⟩)
  · refine h3 w (h2 w (List.mem_filter.mpr ⟨hw, ?_⟩))
    show (!goodWord w) = true
    cases hgw : goodWord w
    · rfl
    · exact absurd hgw g
theorem vx_c {args : Array Value} {s : State} {w : Cond} {B : List Cond} (h : w.before args s = true) (t : ∀ w ∈ B, w.before args s = true) : ∀ w' ∈ w :: B, w'.before args s = true := fun w' h' => (List.mem_cons.mp h').elim (fun e => by rw [e]; exact h) (t w')
theorem vx_n {args : Array Value} {s : State} : ∀ w ∈ ([] : List Cond), w.before args s = true := fun _ h => nomatch h
theorem vx_own {args : Array Value} {s : State} {L : List Cond} (h1 : ∀ w ∈ L.filter vx_no, w.before args s = true)
    (hU : (Cond.isRef (.static Bundle.tN "UNASSIGNED_STACK" Bundle.steD)).before args s = true) (hN : (Cond.isRef (.static Bundle.tN "SUPPRESSED_SENTINEL" Bundle.listD)).before args s = true)
    (lU : (Cond.laysStatic Bundle.tN "UNASSIGNED_STACK" Bundle.steD).before args s = true) (lN : (Cond.laysStatic Bundle.tN "SUPPRESSED_SENTINEL" Bundle.listD).before args s = true) : ∀ w ∈ L, w.before args s = true := by
  intro w hw
  by_cases e1 : w = .isRef (.static Bundle.tN "UNASSIGNED_STACK" Bundle.steD)
  · rw [e1]; exact hU
  · by_cases e2 : w = .isRef (.static Bundle.tN "SUPPRESSED_SENTINEL" Bundle.listD)
    · rw [e2]; exact hN
    · by_cases e3 : w = .laysStatic Bundle.tN "UNASSIGNED_STACK" Bundle.steD
      · rw [e3]; exact lU
      · by_cases e4 : w = .laysStatic Bundle.tN "SUPPRESSED_SENTINEL" Bundle.listD
        · rw [e4]; exact lN
        · exact h1 w (List.mem_filter.mpr ⟨hw, by unfold vx_no; rw [decide_eq_true e1, decide_eq_true e2, decide_eq_true e3, decide_eq_true e4]; rfl⟩)
/-- where a static field lies, its class's statics cell in H -/
def vx_L (C n d : String) (A : Nat → Prop) (U : State) (H : Heap) : Prop := ∃ (c : ClassId) (k : Class) (i : Nat) (f : Field) (a : Nat) (cell : Cell), U.vm.findClass C = some c ∧ U.fieldFound? C n d = some (c, k, i, f) ∧ f.isStatic = true ∧ k.statics = some a ∧ H[a]? = some cell ∧ cell.vm.isStatics = true ∧ cell.cls = c ∧ f.slot < cell.slots.size ∧ k.staticTypes[f.slot]? = some f.type ∧ ¬ A a
theorem vx_L.moved {C n d : String} {A : Nat → Prop} {u U : State} {H : Heap} (hvm : u.vm.Alike U.vm) (h : vx_L C n d A u H) : vx_L C n d A U H := by
  obtain ⟨c, k, i, f, a, cell, h1, h2, h3, h4, h5, h6, h7, h8, h9, h10⟩ := h
  obtain ⟨k', hi', he⟩ := State.fieldFound?_setVm hvm h2
  exact ⟨c, k', i, f, a, cell, by rw [hvm.findClass]; exact h1, hi', h3, by rw [he]; exact h4, h5, h6, h7, h8, by rw [he]; exact h9, h10⟩
theorem vx_L.kept {C n d : String} {A : Nat → Prop} {U : State} {H H1 : Heap} (h : vx_L C n d A U H) (hq : ∀ a : Nat, a < H.size → ¬ A a → H1[a]? = H[a]?) : vx_L C n d A U H1 := by
  obtain ⟨c, k, i, f, a, cell, h1, h2, h3, h4, h5, h6, h7, h8, h9, h10⟩ := h
  exact ⟨c, k, i, f, a, cell, h1, h2, h3, h4, by rw [hq a (Array.getElem?_eq_some_iff.mp h5).1 h10]; exact h5, h6, h7, h8, h9, h10⟩
theorem vx_L.narrow {C n d : String} {A B : Nat → Prop} {U : State} {H : Heap} (h : vx_L C n d A U H) (hAB : ∀ q, B q → A q) : vx_L C n d B U H := by
  obtain ⟨c, k, i, f, a, cell, h1, h2, h3, h4, h5, h6, h7, h8, h9, h10⟩ := h
  exact ⟨c, k, i, f, a, cell, h1, h2, h3, h4, h5, h6, h7, h8, h9, fun z => h10 (hAB _ z)⟩
theorem vx_L.word {C n d : String} {A : Nat → Prop} {s : State} {args : Array Value} (h : vx_L C n d A s s.heap) : (Cond.laysStatic C n d).before args s = true := by
  obtain ⟨c, k, i, f, a, cell, h1, h2, h3, h4, h5, h6, h7, h8, h9, -⟩ := h
  show (Cond.laysStatic C n d).holds args s none s [] = true
  exact Cond.laysStatic_of h1 h2 h3 h4 h5 h6 h7 h8 h9
/-- .. and what it holds: null or some reference -/
def vx_Zq (C n d : String) (A : Nat → Prop) (U : State) (H : Heap) : Prop := va_Zq C n d A U H ∧ vx_L C n d A U H
theorem vx_Zq.moved {C n d : String} {A : Nat → Prop} {u U : State} {H : Heap} (hvm : u.vm.Alike U.vm) (h : vx_Zq C n d A u H) : vx_Zq C n d A U H := ⟨va_Zq.moved hvm h.1, vx_L.moved hvm h.2⟩
theorem vx_Zq.kept {C n d : String} {A : Nat → Prop} {U : State} {H H1 : Heap} (h : vx_Zq C n d A U H) (hq : ∀ a : Nat, a < H.size → ¬ A a → H1[a]? = H[a]?) : vx_Zq C n d A U H1 := ⟨va_Zq.kept h.1 hq, vx_L.kept h.2 hq⟩
theorem vx_Zq.narrow {C n d : String} {A B : Nat → Prop} {U : State} {H : Heap} (h : vx_Zq C n d A U H) (hAB : ∀ q, B q → A q) : vx_Zq C n d B U H := ⟨va_Zq.narrow h.1 hAB, vx_L.narrow h.2 hAB⟩
theorem vx_Zqof {args : Array Value} {s : State} {C n d : String} {A : Nat → Prop} (hl : (Cond.laysStatic C n d).before args s = true) (hini : (Cond.initialized C).before args s = true) (h : (Cond.isRef (.static C n d)).before args s = true) (hA : ∀ a : Nat, a < s.heap.size → ¬ A a) : vx_Zq C n d A s s.heap := by
  refine ⟨va_Zqof hl hini h hA, ?_⟩
  obtain ⟨c, k, i, f, a, cell, h1, h2, h3, h4, h5, h6, h7, h8, h9⟩ := Cond.laysStatic_spec hl
  exact ⟨c, k, i, f, a, cell, h1, h2, h3, h4, h5, h6, h7, h8, h9, hA a (Array.getElem?_eq_some_iff.mp h5).1⟩
theorem vx_isRef {C n d : String} {v : Value} {A : Nat → Prop} {s : State} {args : Array Value} (h : va_Z C n d v A s s.heap) (hv : v.isRef = true) : (Cond.isRef (.static C n d)).before args s = true := by
  obtain ⟨cf, kf, fi, f, a, cell, h1, h2, h3, h4, h5, h6, h7, -⟩ := h
  have he : (Term.static C n d).eval args s none [] s = some v := by
    simp [Term.eval, State.fieldNamed?, h1, h2, h4, h5, h6, h7]
  simp only [Cond.before, Cond.holds, Cond.value, he]
  cases v <;> simp_all [Value.isRef]
theorem vx_isRefq {C n d : String} {A : Nat → Prop} {s : State} {args : Array Value} (h : va_Zq C n d A s s.heap) : (Cond.isRef (.static C n d)).before args s = true := by
  rcases h with h | ⟨t, h⟩
  · exact vx_isRef h rfl
  · exact vx_isRef h rfl
/-- the same frame, seen from here: as if the method were called anew in this heap -/
theorem vx_rebase {T : State} (X : Stand p l e R s m args below meth c T locs cells slots) {R' : Room} (hf : R'.frames ≤ R.frames) (hl : R'.locals ≤ R.locals) (hc : cells + R'.cells ≤ R.cells) (hs : slots + R'.slots ≤ R.slots) :
    Stand p l e R' ((T.setVm s.vm).setFrames (.invoking m args :: below)) m args below meth c T [] 0 0 := by
  have htop : (T.setVm s.vm).topJava?.isSome := X.here.top
  have hF : ((T.setVm s.vm).setFrames (.invoking m args :: below)).frames = .invoking m args :: below := State.frames_setFrames _ (State.cur_lt_of_top htop)
  obtain ⟨g₀, hg0⟩ := Option.isSome_iff_exists.mp htop
  obtain ⟨r, hr⟩ := State.topJava?_eq_some.mp hg0
  have hl9 : e.platform.stackLimits (T.setVm s.vm).me = e.platform.stackLimits s.me := X.limits
  have hb9 : (T.setVm s.vm).me.stackBytes = s.me.stackBytes := X.bytes
  refine ⟨X.admits, X.cas, X.clock, hF, ?_, X.hears, X.method, X.code, X.here, X.tail, X.warmed, ?_, ?_, ?_⟩
  · have h := X.room
    have hU : ((T.setVm s.vm).setFrames (.invoking m args :: below)).localsInUse = s.localsInUse := by
      rw [State.localsInUse_invoking hF (meth := meth) (c := c) X.method X.code, State.localsInUse_invoking X.frames X.method X.code]
    simp only [State.hasRoom, Bool.and_eq_true, decide_eq_true_eq] at h ⊢
    obtain ⟨⟨⟨⟨h1, h2, h3, h4, h5, h6⟩, h7⟩, h8⟩, h9⟩ := h
    rw [X.frames, List.length_cons] at h2 h3
    have q1 := X.heapSize
    have q2 := X.used
    simp only [hF, hU, List.length_cons, State.stackLimits_setFrames, State.stackBytes_setFrames, hl9, hb9]
    refine ⟨⟨⟨⟨by omega, by omega, by omega, by omega, by omega, h6⟩, ?_⟩, ?_⟩, X.book⟩
    · show T.heap.size + R'.cells ≤ e.platform.maxCells
      omega
    · show T.slotsUsed + R'.slots ≤ e.platform.maxSlots
      omega
  · rw [State.stackLimits_setFrames]; rfl
  · rw [State.stackBytes_setFrames]; rfl
  · refine ⟨?_, Nat.le_refl _, Nat.le_refl _, ?_, ?_, fun a c9 h9 => ⟨c9, h9, rfl, rfl, fun _ _ => rfl⟩⟩
    · obtain ⟨t, ht, -⟩ := State.frames_cons hr
      show T.setVm s.vm = { ((T.setVm s.vm).setFrames (.invoking m args :: below)).setFrames (T.setVm s.vm).frames with heap := T.heap, slotsUsed := T.slotsUsed }
      rw [State.setFrames_setFrames, State.setFrames_self ht]
      rfl
    · show T.slotsUsed = T.slotsUsed + ((T.heap.toList.drop T.heap.size).map (·.slots.size)).sum
      rw [List.drop_eq_nil_of_le (Nat.le_of_eq Array.length_toList)]
      rfl
    · show ((T.heap.toList.drop T.heap.size).map (·.slots.size)).sum ≤ 0
      rw [List.drop_eq_nil_of_le (Nat.le_of_eq Array.length_toList)]
      exact Nat.le_refl _
/-- 'throw new E()': new; dup; invokespecial; athrow -/
theorem vx_throw0 {cc : ByteArray} {pc : Nat} (hexec : p.tables.exec = Jvm.exec) (hb : c.code = cc) (hl : l.stackTraces = false) {own cls : String} {names : List String} {ik ic mc ms : Nat} {A : Nat → Prop}
    (hown : s.vm.findClass own = some m.cls) (hcls : Bundle.fit cls = true) (hnames : ∀ n ∈ names, Bundle.fit n = true)
    (hk : (Cond.classLink own ik cls).before args s = true) (hini : (Cond.initialized cls).before args s = true) (hat : ∀ w ∈ vx_at0 own ic cls names, w.before args s = true)
    (hgood : ∀ w ∈ Cond.classLink own ik cls :: Cond.initialized cls :: vx_at0 own ic cls names, vx_ot w = true)
    (hU : vx_Zq Bundle.tN "UNASSIGNED_STACK" Bundle.steD A s s.heap) (hN : vx_Zq Bundle.tN "SUPPRESSED_SENTINEL" Bundle.listD A s s.heap) (hS : va_S A s.heap H locs) (hsize : ls.size = c.maxLocals)
    (d0 : decode cc pc = .ok (.new ik, 3)) (d3 : decode cc (pc + 3) = .ok (.dup, 1)) (d4 : decode cc (pc + 4) = .ok (.invokespecial ic, 3)) (d7 : decode cc (pc + 7) = .ok (.athrow, 1))
    (hout : ∀ x ∈ c.exceptionTable.toList, covers x (pc + 7) = false)
    (hRframes : names.length + 3 < R.frames) (hRlocals : (rest.map fun v => v.category).sum + (13 * (names.length + 1) + 42) ≤ R.locals) (hRcells : cells + 1 ≤ R.cells) (hRslots : slots + 6 ≤ R.slots) (hlocks : meth.locks = false)
    (hx : ∀ t : State, s.vm.Alike t.vm → H.size ≤ t.heap.size → (∀ q : Nat, q < H.size → t.heap[q]? = H[q]?) → XC cls s t)
    (hf : ∀ z ∈ locs, free z.base) (hc : cells + 1 ≤ mc) (hs : slots + 6 ≤ ms) :
    W p l e R s m args below meth c H locs cells slots (vx_MQ below Qc XC args s mc ms free) (F0 m pc ls rest) := by
  intro T hT X
  have htr : e.platform.stackTraces = false := (show e.platform.stackTraces = l.stackTraces by rw [X.admits.platform]).trans hl
  have Y := vx_rebase X (R' := { frames := R.frames, locals := R.locals, cells := 1, slots := 6 }) (Nat.le_refl _) (Nat.le_refl _) hRcells hRslots
  obtain ⟨s', hA⟩ : ∃ z, z = (T.setVm s.vm).setFrames (.invoking m args :: below) := ⟨_, rfl⟩
  rw [← hA] at Y
  have hvm : s'.vm = s.vm := by rw [hA]; rfl
  have hhp : s'.heap = H := by rw [hA]; exact hT
  have hW0 : s.WarmedH s'.vm := by rw [hvm]; exact State.WarmedH.refl s
  have hat' : ∀ w ∈ vx_at0 own ic cls names, w.before args s' = true := fun w hw => vx_ot_at hW0 hvm.symm (hgood w (List.mem_cons_of_mem _ (List.mem_cons_of_mem _ hw))) (hat w hw)
  have hk' : (Cond.classLink own ik cls).before args s' = true := vx_ot_at hW0 hvm.symm (hgood _ List.mem_cons_self) hk
  have hini' : (Cond.initialized cls).before args s' = true := vx_ot_at hW0 hvm.symm (hgood _ (List.mem_cons_of_mem _ List.mem_cons_self)) hini
  have hU' : vx_Zq Bundle.tN "UNASSIGNED_STACK" Bundle.steD A s' s'.heap := by rw [hhp]; exact vx_Zq.moved hW0.alike (hU.kept hS.2.1)
  have hN' : vx_Zq Bundle.tN "SUPPRESSED_SENTINEL" Bundle.listD A s' s'.heap := by rw [hhp]; exact vx_Zq.moved hW0.alike (hN.kept hS.2.1)
  have h : ∀ w ∈ Bundle.ownAtoms0 own ic cls names, w.before args s' = true := vx_own hat' (vx_isRefq hU'.1) (vx_isRefq hN'.1) hU'.2.word hN'.2.word
  have hown' : s'.vm.findClass own = some m.cls := by rw [hvm]; exact hown
  have hins : (Cond.instantiable cls 6).before args s' = true := h _ (by simp [Bundle.ownAtoms0])
  obtain ⟨vm₁, cX, kX, hfX, hkX, -, -, X₁, st1⟩ := Y.newCold hexec (own := own) (C := cls) (index := ik) (n := 6) hown' hk' hins hini'
    (g := F0 m pc ls rest) rfl (by rw [hb]; exact d0) (Nat.le_refl _) (Nat.le_refl _)
  generalize hT1 : (T.setVm vm₁).pushCell { cls := cX, slots := kX.instanceTypes.map defaultValue, vm := .none } = T1 at X₁ st1
  have hcat : (Value.ref T.heap.size).category = 1 := rfl
  have hcellA : T1.heap[T.heap.size]? = some (freshCell cX kX) := by rw [← hT1]; exact State.heap_pushCell_size _ _
  have d3' : decode c.code (pc + 3) = .ok (.dup, 1) := by rw [hb]; exact d3
  obtain ⟨U, hsteps, hrun, hend, hW, hsame, ce, hce, hO⟩ := X₁.ctorThrow0 hexec htr (own := own) (cls := cls) (names := names) (ic := ic) hown' hcls hnames h (fun x hx => nomatch hx) hfX hkX hcellA (by rw [hhp, hT]; exact Nat.le_refl _)
    (g := { method := m, pc := pc + 4, locals := ls, stack := .ref T.heap.size :: .ref T.heap.size :: rest, locked := none }) rfl hsize rfl rfl (rest := rest) rfl
    (by rw [hb]; exact d4) (by rw [hb]; exact d7) hout hRframes (by simp only [List.map_cons, List.sum_cons, hcat]; omega) hlocks
  obtain ⟨f1, f2⟩ := vx_frame hsame
  rw [hhp] at f1 f2
  have hWs : s.WarmedH U.vm := State.WarmedH.trans hW0 hW
  have hcl : s.vm.findClass cls = some ce.cls := by
    have h9 := hO.cls
    rw [hvm] at h9
    exact h9
  have hall : s.sameButNew ({ U with vm := s.vm } : State) locs mc ms := by
    subst hA
    obtain ⟨e1, e2⟩ := hsame
    rw [State.setFrames_setFrames] at e1
    have h2 : (T.setVm s.vm).sameButNew ({ U with vm := s.vm } : State) [] (0 + 1) (0 + 6) := ⟨e1, e2⟩
    have h3 := X.same.trans h2
    rw [List.append_nil] at h3
    exact h3.mono hc hs
  refine ⟨U, ?_, .threw T.heap.size, hrun, hend, Or.inr ⟨T.heap.size, rfl, cls, ce, locs, hx U hWs.alike f1 (fun q hq => f2 q hq (fun z hz => nomatch hz)), hce, hO.vm, hcl, hWs, hall, hf⟩⟩
  refine st1 _ ?_
  show Steps p.tables e below (T1.setTop { method := m, pc := pc + 3, locals := ls, stack := .ref T.heap.size :: rest, locked := none }) _
  jvm_step X₁.here [X₁.here.top, hexec, d3', Value.category]
  exact hsteps
/-- 'throw new E("text")': new; dup; ldc; invokespecial; athrow -/
theorem vx_throwS {cc : ByteArray} {pc : Nat} (hexec : p.tables.exec = Jvm.exec) (hb : c.code = cc) (hl : l.stackTraces = false) {own cls text : String} {names : List String} {ik is ic mc ms sa : Nat} {A : Nat → Prop}
    (hown : s.vm.findClass own = some m.cls) (hcls : Bundle.fit cls = true) (hnames : ∀ n ∈ names, Bundle.fit n = true)
    (hk : (Cond.classLink own ik cls).before args s = true) (hini : (Cond.initialized cls).before args s = true) (hstr : vk_R own is text sa s) (hat : ∀ w ∈ vx_atS own ic cls names, w.before args s = true)
    (hgood : ∀ w ∈ Cond.classLink own ik cls :: Cond.initialized cls :: vx_atS own ic cls names, vx_ot w = true)
    (hU : vx_Zq Bundle.tN "UNASSIGNED_STACK" Bundle.steD A s s.heap) (hN : vx_Zq Bundle.tN "SUPPRESSED_SENTINEL" Bundle.listD A s s.heap) (hS : va_S A s.heap H locs) (hsize : ls.size = c.maxLocals)
    (d0 : decode cc pc = .ok (.new ik, 3)) (d3 : decode cc (pc + 3) = .ok (.dup, 1)) (d4 : decode cc (pc + 4) = .ok (.ldc is, 2)) (d6 : decode cc (pc + 6) = .ok (.invokespecial ic, 3)) (d9 : decode cc (pc + 9) = .ok (.athrow, 1))
    (hout : ∀ x ∈ c.exceptionTable.toList, covers x (pc + 9) = false)
    (hRframes : names.length + 3 < R.frames) (hRlocals : (rest.map fun v => v.category).sum + (13 * (names.length + 1) + 43) ≤ R.locals) (hRcells : cells + 1 ≤ R.cells) (hRslots : slots + 6 ≤ R.slots) (hlocks : meth.locks = false)
    (hx : ∀ t : State, s.vm.Alike t.vm → H.size ≤ t.heap.size → (∀ q : Nat, q < H.size → t.heap[q]? = H[q]?) → XC cls s t)
    (hf : ∀ z ∈ locs, free z.base) (hc : cells + 1 ≤ mc) (hs : slots + 6 ≤ ms) :
    W p l e R s m args below meth c H locs cells slots (vx_MQ below Qc XC args s mc ms free) (F0 m pc ls rest) := by
  intro T hT X
  have htr : e.platform.stackTraces = false := (show e.platform.stackTraces = l.stackTraces by rw [X.admits.platform]).trans hl
  have Y := vx_rebase X (R' := { frames := R.frames, locals := R.locals, cells := 1, slots := 6 }) (Nat.le_refl _) (Nat.le_refl _) hRcells hRslots
  obtain ⟨s', hA⟩ : ∃ z, z = (T.setVm s.vm).setFrames (.invoking m args :: below) := ⟨_, rfl⟩
  rw [← hA] at Y
  have hvm : s'.vm = s.vm := by rw [hA]; rfl
  have hhp : s'.heap = H := by rw [hA]; exact hT
  have hW0 : s.WarmedH s'.vm := by rw [hvm]; exact State.WarmedH.refl s
  have hat' : ∀ w ∈ vx_atS own ic cls names, w.before args s' = true := fun w hw => vx_ot_at hW0 hvm.symm (hgood w (List.mem_cons_of_mem _ (List.mem_cons_of_mem _ hw))) (hat w hw)
  have hk' : (Cond.classLink own ik cls).before args s' = true := vx_ot_at hW0 hvm.symm (hgood _ List.mem_cons_self) hk
  have hini' : (Cond.initialized cls).before args s' = true := vx_ot_at hW0 hvm.symm (hgood _ (List.mem_cons_of_mem _ List.mem_cons_self)) hini
  have hU' : vx_Zq Bundle.tN "UNASSIGNED_STACK" Bundle.steD A s' s'.heap := by rw [hhp]; exact vx_Zq.moved hW0.alike (hU.kept hS.2.1)
  have hN' : vx_Zq Bundle.tN "SUPPRESSED_SENTINEL" Bundle.listD A s' s'.heap := by rw [hhp]; exact vx_Zq.moved hW0.alike (hN.kept hS.2.1)
  have h : ∀ w ∈ Bundle.ownAtoms own ic cls names, w.before args s' = true := vx_own hat' (vx_isRefq hU'.1) (vx_isRefq hN'.1) hU'.2.word hN'.2.word
  have hown' : s'.vm.findClass own = some m.cls := by rw [hvm]; exact hown
  have hins : (Cond.instantiable cls 6).before args s' = true := h _ (by simp [Bundle.ownAtoms])
  obtain ⟨vm₁, cX, kX, hfX, hkX, -, -, X₁, st1⟩ := Y.newCold hexec (own := own) (C := cls) (index := ik) (n := 6) hown' hk' hins hini'
    (g := F0 m pc ls rest) rfl (by rw [hb]; exact d0) (Nat.le_refl _) (Nat.le_refl _)
  generalize hT1 : (T.setVm vm₁).pushCell { cls := cX, slots := kX.instanceTypes.map defaultValue, vm := .none } = T1 at X₁ st1
  have hcat : (Value.ref T.heap.size).category = 1 := rfl
  have hcellA : T1.heap[T.heap.size]? = some (freshCell cX kX) := by rw [← hT1]; exact State.heap_pushCell_size _ _
  have d3' : decode c.code (pc + 3) = .ok (.dup, 1) := by rw [hb]; exact d3
  have d4' : decode c.code (pc + 4) = .ok (.ldc is, 2) := by rw [hb]; exact d4
  have hstr' : vk_R own is text sa s' := vk_R.warm hW0 hstr
  obtain ⟨U, hsteps, hrun, hend, hW, hsame, ce, hce, hO⟩ := X₁.ctorThrowS hexec htr (own := own) (cls := cls) (names := names) (ic := ic) hown' hcls hnames h (fun x hx => nomatch hx) hfX hkX hcellA (by rw [hhp, hT]; exact Nat.le_refl _) (msg := .ref sa) rfl
    (g := { method := m, pc := pc + 6, locals := ls, stack := .ref sa :: .ref T.heap.size :: .ref T.heap.size :: rest, locked := none }) rfl hsize rfl rfl (rest := rest) rfl
    (by rw [hb]; exact d6) (by rw [hb]; exact d9) hout hRframes (by simp only [List.map_cons, List.sum_cons, hcat]; omega) hlocks
  obtain ⟨f1, f2⟩ := vx_frame hsame
  rw [hhp] at f1 f2
  have hWs : s.WarmedH U.vm := State.WarmedH.trans hW0 hW
  have hcl : s.vm.findClass cls = some ce.cls := by
    have h9 := hO.cls
    rw [hvm] at h9
    exact h9
  have hall : s.sameButNew ({ U with vm := s.vm } : State) locs mc ms := by
    subst hA
    obtain ⟨e1, e2⟩ := hsame
    rw [State.setFrames_setFrames] at e1
    have h2 : (T.setVm s.vm).sameButNew ({ U with vm := s.vm } : State) [] (0 + 1) (0 + 6) := ⟨e1, e2⟩
    have h3 := X.same.trans h2
    rw [List.append_nil] at h3
    exact h3.mono hc hs
  refine ⟨U, ?_, .threw T.heap.size, hrun, hend, Or.inr ⟨T.heap.size, rfl, cls, ce, locs, hx U hWs.alike f1 (fun q hq => f2 q hq (fun z hz => nomatch hz)), hce, hO.vm, hcl, hWs, hall, hf⟩⟩
  refine st1 _ ?_
  show Steps p.tables e below (T1.setTop { method := m, pc := pc + 3, locals := ls, stack := .ref T.heap.size :: rest, locked := none }) _
  jvm_step X₁.here [X₁.here.top, hexec, d3', Value.category]
  exact X₁.ldcString hexec (own := own) (text := text) (index := is) (a := sa) hown' hstr'.1 hstr'.2
    (g := { method := m, pc := pc + 4, locals := ls, stack := .ref T.heap.size :: .ref T.heap.size :: rest, locked := none }) rfl d4' _ hsteps
/-- 'throw new E("text")', the text by a wide index -/
theorem vx_throwSW {cc : ByteArray} {pc : Nat} (hexec : p.tables.exec = Jvm.exec) (hb : c.code = cc) (hl : l.stackTraces = false) {own cls text : String} {names : List String} {ik is ic mc ms sa : Nat} {A : Nat → Prop}
    (hown : s.vm.findClass own = some m.cls) (hcls : Bundle.fit cls = true) (hnames : ∀ n ∈ names, Bundle.fit n = true)
    (hk : (Cond.classLink own ik cls).before args s = true) (hini : (Cond.initialized cls).before args s = true) (hstr : vk_R own is text sa s) (hat : ∀ w ∈ vx_atS own ic cls names, w.before args s = true)
    (hgood : ∀ w ∈ Cond.classLink own ik cls :: Cond.initialized cls :: vx_atS own ic cls names, vx_ot w = true)
    (hU : vx_Zq Bundle.tN "UNASSIGNED_STACK" Bundle.steD A s s.heap) (hN : vx_Zq Bundle.tN "SUPPRESSED_SENTINEL" Bundle.listD A s s.heap) (hS : va_S A s.heap H locs) (hsize : ls.size = c.maxLocals)
    (d0 : decode cc pc = .ok (.new ik, 3)) (d3 : decode cc (pc + 3) = .ok (.dup, 1)) (d4 : decode cc (pc + 4) = .ok (.ldc_w is, 3)) (d7 : decode cc (pc + 7) = .ok (.invokespecial ic, 3)) (d10 : decode cc (pc + 10) = .ok (.athrow, 1))
    (hout : ∀ x ∈ c.exceptionTable.toList, covers x (pc + 10) = false)
    (hRframes : names.length + 3 < R.frames) (hRlocals : (rest.map fun v => v.category).sum + (13 * (names.length + 1) + 43) ≤ R.locals) (hRcells : cells + 1 ≤ R.cells) (hRslots : slots + 6 ≤ R.slots) (hlocks : meth.locks = false)
    (hx : ∀ t : State, s.vm.Alike t.vm → H.size ≤ t.heap.size → (∀ q : Nat, q < H.size → t.heap[q]? = H[q]?) → XC cls s t)
    (hf : ∀ z ∈ locs, free z.base) (hc : cells + 1 ≤ mc) (hs : slots + 6 ≤ ms) :
    W p l e R s m args below meth c H locs cells slots (vx_MQ below Qc XC args s mc ms free) (F0 m pc ls rest) := by
  intro T hT X
  have htr : e.platform.stackTraces = false := (show e.platform.stackTraces = l.stackTraces by rw [X.admits.platform]).trans hl
  have Y := vx_rebase X (R' := { frames := R.frames, locals := R.locals, cells := 1, slots := 6 }) (Nat.le_refl _) (Nat.le_refl _) hRcells hRslots
  obtain ⟨s', hA⟩ : ∃ z, z = (T.setVm s.vm).setFrames (.invoking m args :: below) := ⟨_, rfl⟩
  rw [← hA] at Y
  have hvm : s'.vm = s.vm := by rw [hA]; rfl
  have hhp : s'.heap = H := by rw [hA]; exact hT
  have hW0 : s.WarmedH s'.vm := by rw [hvm]; exact State.WarmedH.refl s
  have hat' : ∀ w ∈ vx_atS own ic cls names, w.before args s' = true := fun w hw => vx_ot_at hW0 hvm.symm (hgood w (List.mem_cons_of_mem _ (List.mem_cons_of_mem _ hw))) (hat w hw)
  have hk' : (Cond.classLink own ik cls).before args s' = true := vx_ot_at hW0 hvm.symm (hgood _ List.mem_cons_self) hk
  have hini' : (Cond.initialized cls).before args s' = true := vx_ot_at hW0 hvm.symm (hgood _ (List.mem_cons_of_mem _ List.mem_cons_self)) hini
  have hU' : vx_Zq Bundle.tN "UNASSIGNED_STACK" Bundle.steD A s' s'.heap := by rw [hhp]; exact vx_Zq.moved hW0.alike (hU.kept hS.2.1)
  have hN' : vx_Zq Bundle.tN "SUPPRESSED_SENTINEL" Bundle.listD A s' s'.heap := by rw [hhp]; exact vx_Zq.moved hW0.alike (hN.kept hS.2.1)
  have h : ∀ w ∈ Bundle.ownAtoms own ic cls names, w.before args s' = true := vx_own hat' (vx_isRefq hU'.1) (vx_isRefq hN'.1) hU'.2.word hN'.2.word
  have hown' : s'.vm.findClass own = some m.cls := by rw [hvm]; exact hown
  have hins : (Cond.instantiable cls 6).before args s' = true := h _ (by simp [Bundle.ownAtoms])
  obtain ⟨vm₁, cX, kX, hfX, hkX, -, -, X₁, st1⟩ := Y.newCold hexec (own := own) (C := cls) (index := ik) (n := 6) hown' hk' hins hini'
    (g := F0 m pc ls rest) rfl (by rw [hb]; exact d0) (Nat.le_refl _) (Nat.le_refl _)
  generalize hT1 : (T.setVm vm₁).pushCell { cls := cX, slots := kX.instanceTypes.map defaultValue, vm := .none } = T1 at X₁ st1
  have hcat : (Value.ref T.heap.size).category = 1 := rfl
  have hcellA : T1.heap[T.heap.size]? = some (freshCell cX kX) := by rw [← hT1]; exact State.heap_pushCell_size _ _
  have d3' : decode c.code (pc + 3) = .ok (.dup, 1) := by rw [hb]; exact d3
  have d4' : decode c.code (pc + 4) = .ok (.ldc_w is, 3) := by rw [hb]; exact d4
  have hstr' : vk_R own is text sa s' := vk_R.warm hW0 hstr
  obtain ⟨U, hsteps, hrun, hend, hW, hsame, ce, hce, hO⟩ := X₁.ctorThrowS hexec htr (own := own) (cls := cls) (names := names) (ic := ic) hown' hcls hnames h (fun x hx => nomatch hx) hfX hkX hcellA (by rw [hhp, hT]; exact Nat.le_refl _) (msg := .ref sa) rfl
    (g := { method := m, pc := pc + 7, locals := ls, stack := .ref sa :: .ref T.heap.size :: .ref T.heap.size :: rest, locked := none }) rfl hsize rfl rfl (rest := rest) rfl
    (by rw [hb]; exact d7) (by rw [hb]; exact d10) hout hRframes (by simp only [List.map_cons, List.sum_cons, hcat]; omega) hlocks
  obtain ⟨f1, f2⟩ := vx_frame hsame
  rw [hhp] at f1 f2
  have hWs : s.WarmedH U.vm := State.WarmedH.trans hW0 hW
  have hcl : s.vm.findClass cls = some ce.cls := by
    have h9 := hO.cls
    rw [hvm] at h9
    exact h9
  have hall : s.sameButNew ({ U with vm := s.vm } : State) locs mc ms := by
    subst hA
    obtain ⟨e1, e2⟩ := hsame
    rw [State.setFrames_setFrames] at e1
    have h2 : (T.setVm s.vm).sameButNew ({ U with vm := s.vm } : State) [] (0 + 1) (0 + 6) := ⟨e1, e2⟩
    have h3 := X.same.trans h2
    rw [List.append_nil] at h3
    exact h3.mono hc hs
  refine ⟨U, ?_, .threw T.heap.size, hrun, hend, Or.inr ⟨T.heap.size, rfl, cls, ce, locs, hx U hWs.alike f1 (fun q hq => f2 q hq (fun z hz => nomatch hz)), hce, hO.vm, hcl, hWs, hall, hf⟩⟩
  refine st1 _ ?_
  show Steps p.tables e below (T1.setTop { method := m, pc := pc + 3, locals := ls, stack := .ref T.heap.size :: rest, locked := none }) _
  jvm_step X₁.here [X₁.here.top, hexec, d3', Value.category]
  exact X₁.ldcStringW hexec (own := own) (text := text) (index := is) (a := sa) hown' hstr'.1 hstr'.2
    (g := { method := m, pc := pc + 4, locals := ls, stack := .ref T.heap.size :: .ref T.heap.size :: rest, locked := none }) rfl d4' _ hsteps
end Ends
section Bodies
variable {l : Launch}
theorem vx_ofW {y : MethodName} {ws ws' : List Cond} {rm : Room} {Pc : Array Value → State → Prop} {Qc : Array Value → State → Outcome → State → Prop} {XC : String → State → State → Prop} {mc ms : Nat} {free : Addr → Prop} {cc : ByteArray} {maxL : Nat} {ret : Option FieldType}
    (hy : plainName y.cls = true) (hw : ws = Cond.code y cc maxL ret :: ws')
    (body : ∀ p e s m args below meth c s₁, BodyLoose p l y (headSpec ws rm) cc maxL ret e s m args below meth c s₁ → c.maxLocals = maxL → (∀ x ∈ c.exceptionTable.toList, False) → Pc args s →
      W p l e (headSpec ws rm).room s m args below meth c s.heap [] 0 0 (vx_MQ below Qc XC args s mc ms free) (entryFrame m args maxL)) : vx_Met l y ws rm Pc Qc XC mc ms free := by
  refine MetFree.of_bodyS (code := cc) (maxLocals := maxL) (ret := ret) hy ?_ ?_
  · intro args s m h hn
    obtain ⟨meth, c, h1, h2, h3, h4, h5, h6, -, -⟩ := Cond.code_spec hn (atoms_spec (ws := ws) h _ (by rw [hw]; exact List.mem_cons_self))
    exact ⟨meth, c, h1, h2, h3, h4, h5, h6⟩
  · intro p e s m args below meth c s₁ B hml hP _
    have hh0 : s₁.heap = s.heap := by rw [B.state]; rfl
    have ht : ∀ x ∈ c.exceptionTable.toList, False := by
      obtain ⟨meth9, c9, h1, h2, -, -, -, -, h7, -⟩ := Cond.code_spec B.named (atoms_spec (ws := ws) B.pre _ (by rw [hw]; exact List.mem_cons_self))
      cases Option.some.inj (h1.symm.trans B.method)
      cases Option.some.inj (h2.symm.trans (Stand.of_body B).code)
      intro x hx
      rw [Array.isEmpty_iff.mp h7] at hx
      cases hx
    obtain ⟨t, a1, o, b1, b2, b3⟩ := body p e s m args below meth c s₁ B hml ht hP s₁ hh0 (Stand.of_body B)
    exact ⟨t, o, a1, b1, b2, b3⟩
/-- the table of a body with handlers -/
theorem vx_table {p : Program} {x y : MethodName} {S : Spec} {cc bytes : ByteArray} {maxL maxL' : Nat} {ret ret' : Option FieldType} {e : Env} {s s₁ : State} {m : MethodId} {args : Array Value} {below : List Frame} {meth : Method} {c : Code} {hh : List (Nat × Nat × Nat × Nat)}
    (B : BodyLoose p l y S cc maxL ret e s m args below meth c s₁) (h : (Cond.codeWith y bytes maxL' ret' hh).before args s = true) : c.exceptionTable.toList = tableOf hh := by
  obtain ⟨m9, meth9, c9, hn9, h1, h2, -, -, h6, -⟩ := Cond.codeWith_spec h
  cases Option.some.inj (hn9.symm.trans B.named)
  cases Option.some.inj (h1.symm.trans B.method)
  cases Option.some.inj (h2.symm.trans (Stand.of_body B).code)
  rw [← h6, table_eq]
end Bodies
end VXA
/-! ===== END ===== -/
/-! ===== BEGIN a static call of a method with an exception table ===== -/
section VXS
variable {p : Program} {l : Launch} {e : Env} {R : Room} {s : State} {m : MethodId} {args : Array Value} {below : List Frame} {meth : Method} {c : Code} {T : State} {H : Heap} {locs : List Loc} {cells slots : Nat}
abbrev vx_CSW (R : Room) (s : State) (args : Array Value) (own : String) (index : Nat) (y : MethodName) (bytes : ByteArray) (maxL : Nat) (ret : Option FieldType) (hh : List (Nat × Nat × Nat × Nat)) (ws : List Cond) (rm : Room) (mc ms n : Nat) : Prop :=
  (rm.cells = mc ∧ rm.slots = ms ∧ rm.frames + 1 ≤ R.frames ∧ 8 + (maxL + 11) + rm.locals ≤ R.locals ∧ (∀ w ∈ ws, ∀ (a' : Array Value) (U : State), s.WarmedH U.vm → w.before a' U = true) ∧ Cond.codeWith y bytes maxL ret hh ∈ ws) ∧
  (Cond.codeWith y bytes maxL ret hh).before args s = true ∧ (Cond.initialized y.cls).before args s = true ∧ (y.cls ≠ "java/lang/invoke/MethodHandle" ∧ y.cls ≠ "java/lang/invoke/VarHandle") ∧
  (∀ sig, parseMethodDescriptor y.desc = some sig → n = sig.parameters.length) ∧ (Cond.methodLink own index y).before args s = true ∧ (Cond.static y).before args s = true
theorem vx_cwSW {own : String} {index maxL mc ms : Nat} {y : MethodName} {bytes : ByteArray} {ret : Option FieldType} {hh : List (Nat × Nat × Nat × Nat)} {Ts ws ws' : List Cond} {rm : Room} (n : Nat) (ht : ∀ w ∈ Ts, w.before args s = true) (hT : GoodIn Ts (va_wsS own index y ws)) (hw : ws = Cond.codeWith y bytes maxL ret hh :: ws') (hrc : rm.cells = mc) (hrs : rm.slots = ms)
    (hd : y.cls ≠ "java/lang/invoke/MethodHandle" ∧ y.cls ≠ "java/lang/invoke/VarHandle" ∧ (parseMethodDescriptor y.desc).map (fun d => d.parameters.length) = some n) (hR : rm.frames + 1 ≤ R.frames ∧ 8 + (maxL + 11) + rm.locals ≤ R.locals) :
    vx_CSW R s args own index y bytes maxL ret hh ws rm mc ms n := by
  have ok : ∀ w ∈ va_wsS own index y ws, w.before args s = true := fun w h => ht w (hT w h).1
  have hG : GoodIn Ts ws := fun w h => hT w (by unfold va_wsS; exact List.mem_append_right _ h)
  have hc : Cond.codeWith y bytes maxL ret hh ∈ ws := by rw [hw]; exact List.mem_cons_self
  refine ⟨⟨hrc, hrs, hR.1, hR.2, pay_in ht hG, hc⟩, ht _ (hG _ hc).1, ok _ (by simp [va_wsS]), ⟨hd.1, hd.2.1⟩, fun sig h => ?_, ok _ (by simp [va_wsS]), ok _ (by simp [va_wsS])⟩
  have h2 := hd.2.2
  rw [h] at h2
  exact (Option.some.inj h2).symm
theorem vx_callSW (X : Stand p l e R s m args below meth c T locs cells slots) (hexec : p.tables.exec = Jvm.exec) {own : String} {index : Nat} {y : MethodName} {bytes : ByteArray} {maxL : Nat} {ret : Option FieldType} {hh : List (Nat × Nat × Nat × Nat)}
    (hown : s.vm.findClass own = some m.cls) (hlink : (Cond.methodLink own index y).before args s = true) (hstat : (Cond.static y).before args s = true) (hinit : (Cond.initialized y.cls).before args s = true)
    (hcode : (Cond.codeWith y bytes maxL ret hh).before args s = true) (hy : y.cls ≠ "java/lang/invoke/MethodHandle" ∧ y.cls ≠ "java/lang/invoke/VarHandle")
    {W9 : Nat} {Pre : Pt → Array Value → Prop} {Post : Pt → Array Value → Option Value → Pt → Prop} (hK : Back l R p e below s args y 3 W9 Pre Post)
    {g : JFrame} (hg : g.method = m) (hsize : g.locals.size = c.maxLocals) {argsL rest : List Value} (hlen : ∀ sig, parseMethodDescriptor y.desc = some sig → argsL.length = sig.parameters.length)
    (hstack : g.stack = argsL.reverse ++ rest) (hW : 2 * g.monitorRoom + (rest.map fun v => v.category).sum ≤ W9) (hdg : decode c.code g.pc = .ok (.invokestatic index, 3))
    (hpre : ∀ vm₁, s.WarmedH vm₁ → Pre ⟨T.setVm vm₁, locs, cells, slots⟩ argsL.toArray) :
    ∃ (v : Option Value) (vm₁ : Vm) (B : Pt), s.WarmedH vm₁ ∧ Stand p l e R s m args below meth c B.U B.locs B.cells B.slots ∧ Post ⟨T.setVm vm₁, locs, cells, slots⟩ argsL.toArray v B ∧
      ∀ target, Steps p.tables e below (B.U.setTop { g with pc := g.pc + 3, stack := v.toList ++ rest }) target → Steps p.tables e below (T.setTop g) target := by
  obtain ⟨mk, methM, cM, hnamed, hmethM, -, -, -, -, -, -, hsigM⟩ := Cond.codeWith_spec hcode
  have hstatic : methM.isStatic = true := Cond.static_spec hnamed hmethM hstat
  obtain ⟨kP, hkP, -⟩ := className_of_methodNamed hnamed
  have hinitP : kP.init = .initialized := Cond.initialized_spec (findClass_of_methodNamed hnamed) hkP hinit
  obtain ⟨vm₁, X₁, hstep₁⟩ := X.invokestatic hexec hown hlink hnamed hmethM hstatic hkP hinitP hy (g := g) hg (argsL := argsL) (rest := rest) (hlen _ hsigM) hstack hdg
  obtain ⟨v, B, X', hpost, hsteps⟩ := hK m meth c ⟨T.setVm vm₁, locs, cells, slots⟩ { g with stack := rest } (.invokestatic index) mk argsL.toArray X₁ hg hsize hdg hW (X₁.named hnamed) (hpre vm₁ X₁.warmed)
  exact ⟨v, vm₁, B, X₁.warmed, X', hpost, fun target h => hstep₁ _ fun acts => by rw [doInvoke_state]; exact hsteps.trans h⟩
theorem vx_runSW {y : MethodName} {bytes cc : ByteArray} {maxL nL mc ms n index : Nat} {ret : Option FieldType} {hh : List (Nat × Nat × Nat × Nat)} {ws : List Cond} {rm : Room} {Pc : Array Value → State → Prop} {Qc : Array Value → State → Outcome → State → Prop} {free : Addr → Prop} {Ts : List Cond} {own : String} {As rest : List Value} {g : JFrame}
    (S : CallFix p m c cc nL s args Ts own) (hM : Met l y ws rm Pc Qc mc ms free) (cw : vx_CSW R s args own index y bytes maxL ret hh ws rm mc ms n) (hp : PreS s H Pc As)
    (hg : g.method = m) (hn : As.length = n) (hsize : g.locals.size = nL) (hstack : g.stack = As.reverse ++ rest) (hW : 2 * g.monitorRoom + (rest.map fun v => v.category).sum ≤ 8) (hdg : decode cc g.pc = .ok (.invokestatic index, 3)) (hf : cells + mc ≤ R.cells ∧ slots + ms ≤ R.slots) :
    va_Run p l e R s m args below meth c H locs cells slots mc ms g rest (Qc As.toArray) (free) := by
  obtain ⟨⟨hrc, hrs, hfr, hlo, hws, hcw⟩, hcode, hini, hy, hlen, hl, hstt⟩ := cw
  have hK : Back l R p e below s args y 3 8 (PreOf R mc ms Pc) (PostOf Qc mc ms free) := va_backW (hh := hh) (bytes := bytes) (maxL := maxL) (ret := ret) hM hp.1 hrc hrs hfr hlo hws hcw (fun a' U hW => word_at hW (Or.inl (by first | rfl | simp [Cond.onTables, Cond.keeps, Cond.steady])) hini)
  obtain ⟨hx, hb, hml, ho, -⟩ := S
  intro T hT X
  obtain ⟨v, vm₁, ⟨U', l2, c2, s2⟩, hW₁, X', ⟨g', mk, t, L, e1, e2, hq, h1, hL, h2, h3⟩, st⟩ := vx_callSW X hx (hh := hh) (bytes := bytes) (maxL := maxL) (ret := ret) ho hl hstt hini hcode hy hK hg (hsize.trans hml.symm) (argsL := As) (rest := rest) (fun sig h => hn.trans (hlen sig h)) hstack hW (by rw [hb]; exact hdg)
    (fun vm₁ hW₁ => ⟨hf.1, hf.2, hp.2 (T.setVm vm₁) hT hW₁⟩)
  dsimp only [Pt.U, Pt.locs, Pt.cells, Pt.slots] at X' e1 e2 h1 h2 h3 st
  subst h1; subst h2; subst h3
  exact ⟨v, (T.setVm vm₁).calling g' mk As.toArray, t, U', L, hT, X', hL, e1, e2, hq, st⟩
/-- not caught here, past rows that name other classes: it goes on to the caller -/
theorem vx_outP {p : Program} {l : Launch} {e : Env} {R : Room} {s : State} {m : MethodId} {args : Array Value} {below : List Frame} {meth : Method} {c : Code} {H : Heap} {locs : List Loc} {cells slots : Nat} {free : Addr → Prop} {ls : Array Slot} {rest : List Value} {Qc : Array Value → State → Outcome → State → Prop} {XC : String → State → State → Prop}
    {pc : Nat} {own E : String} {ce : Cell} {q : Addr} {mc ms : Nat} (hown : s.vm.findClass own = some m.cls) (hlocks : meth.locks = false)
    (hpass : ∀ z ∈ c.exceptionTable.toList, covers z pc = false ∨ (z.catchType ≠ 0 ∧ ∃ nm : String, (Cond.classLink own z.catchType nm).before args s = true ∧ va_Nc E nm s)) (hcell : H[q]? = some ce) (hv : ce.vm = .none) (hcl : s.vm.findClass E = some ce.cls)
    (hx : ∀ t : State, t.heap = H → s.vm.Alike t.vm → XC E s t) (hf : ∀ z ∈ locs, free z.base) (hc : cells ≤ mc) (hs : slots ≤ ms) :
    vx_W p l e R s m args below meth c H locs cells slots (vx_MQ below Qc XC args s mc ms free) (F0 m pc ls rest) q := by
  intro T hT X
  have hpl : e.platform.magicAccessors = ({} : Platform).magicAccessors := by rw [X.admits.platform]
  obtain ⟨vm', hW', X', st⟩ := X.outThrough hlocks q (g := F0 m pc ls rest) rfl rfl rfl (cell := ce) (by rw [hT]; exact hcell) (by rw [hv]; rfl)
    (by obtain ⟨k9, h9, -⟩ := Vm.findClass_spec hcl; exact ⟨k9, h9⟩) (fun z hz => by
      rcases hpass z hz with h | ⟨hz0, nm, hl1, hn1⟩
      · exact Or.inl h
      · obtain ⟨c6, hc6, hcl6⟩ := Cond.classLink_spec hown hl1 e.platform hpl
        obtain ⟨a8, b8, h1, h2, h3⟩ := hn1
        cases Option.some.inj (h1.symm.trans hcl)
        cases Option.some.inj (h2.symm.trans hc6)
        exact Or.inr ⟨hz0, _, hcl6, h3⟩)
  obtain ⟨g₀, hfr⟩ := X'.frames_eq
  have hcell9 : ((T.setVm vm').setFrames (.throwing q :: below)).heap[q]? = some ce := by
    show T.heap[q]? = some ce
    rw [hT]; exact hcell
  have hend : Ended ((T.setVm vm').setFrames (.throwing q :: below)) below (.threw q) := State.frames_setFrames _ (State.cur_lt_of_frames hfr)
  refine ⟨(T.setVm vm').setFrames (.throwing q :: below), ?_, .threw q, X'.here.running, hend, Or.inr ⟨q, rfl, E, ce, locs, hx _ hT (X'.ends _).1.alike, hcell9, hv, hcl, (X'.ends _).1, (X'.ends _).2.mono hc hs, hf⟩⟩
  rw [X.pushThrowing_eq]
  exact st
/-- a thing of a world lies in the heap -/
theorem vx_lt {D : va_G} {cl : List vw_C} {ws : va_W} {H1 : Heap} (h : va_P D cl ws H1) {k : Nat} {q : Nat × va_E} (hk : ws[k]? = some q) : q.1 < H1.size := (h k q hk).lt
end VXS
/-! ===== END ===== -/
/-! ===== BEGIN methods with a table of their own: called by a name, returning or throwing ===== -/
section VXH
/-! vx_backW, vx_callVX, vx_callSX, vx_callVW, vx_runVW, vx_runVX, vx_runSX, vx_ofWH follow the same proofs as their sisters above (Free/Laws.lean, Shelf42/LK1.lean); vx_outP calls Shelf42/NT130.lean (outThrough). -/
section
variable {l : Launch} {R : Room} {p : Program} {e : Env} {below : List Frame} {s : State} {sargs : Array Value} {y : MethodName} {len W9 : Nat}
theorem vx_backW {ws : List Cond} {rm : Room} {Pc : Array Value → State → Prop} {Qc : Array Value → State → Outcome → State → Prop} {XC : String → State → State → Prop} {mc ms : Nat} {free : Addr → Prop} {bytes : ByteArray} {maxL : Nat} {ret : Option FieldType} {hh : List (Nat × Nat × Nat × Nat)}
    (hM : vx_Met l y ws rm Pc Qc XC mc ms free) (hblind : FrameBlind Pc) (hrc : rm.cells = mc) (hrs : rm.slots = ms)
    (hframes : rm.frames + 1 ≤ R.frames) (hlocals : W9 + (maxL + 11) + rm.locals ≤ R.locals)
    (hws : ∀ w ∈ ws, ∀ a' U, s.WarmedH U.vm → w.before a' U = true) (hcode : Cond.codeWith y bytes maxL ret hh ∈ ws) (hinit : ∀ a' U, s.WarmedH U.vm → (Cond.initialized y.cls).before a' U = true) :
    vx_Back l R p e below s sargs y len W9 (PreOf R mc ms Pc) (PostOf Qc mc ms free) (vx_Post XC mc ms free) := by
  intro m meth c A g ig mk a X hg hsize hdg hW hn hp
  have h1 : (headSpec ws rm).pre.before a A.U = true := atoms_intro fun w hw => hws w hw _ _ X.warmed
  have h2 : (Cond.codeWith y bytes maxL ret hh).before a A.U = true := hws _ hcode _ _ X.warmed
  have h3 : (Cond.initialized y.cls).before a A.U = true := hinit _ _ X.warmed
  have h4 : A.cells + (headSpec ws rm).room.cells ≤ R.cells := by rw [show (headSpec ws rm).room.cells = mc from hrc]; exact hp.1
  have h5 : A.slots + (headSpec ws rm).room.slots ≤ R.slots := by rw [show (headSpec ws rm).room.slots = ms from hrs]; exact hp.2.1
  have hPc : Pc a (A.U.calling g mk a) := hblind _ _ _ _ hp.2.2
  obtain ⟨U, Ls, c0, s0⟩ := A
  dsimp only [Pt.U, Pt.locs, Pt.cells, Pt.slots] at h1 h2 h3 h4 h5 X hn hPc ⊢
  obtain ⟨m9, methY, cY, hn9, hmY, hcY, -, hlY, -⟩ := Cond.codeWith_spec h2
  cases Option.some.inj (hn9.symm.trans hn)
  obtain ⟨kY, hkY, -⟩ := className_of_methodNamed hn
  have hinitY : kY.init = .initialized := Cond.initialized_spec (findClass_of_methodNamed hn) hkY h3
  have h : At U g.method c below := by rw [hg]; exact X.here
  have hlocals9 : W9 + (maxL + 11) + (headSpec ws rm).room.locals ≤ R.locals := hlocals
  have happ : (headSpec ws rm).appliesLoose y e.platform (U.calling g mk a) = true :=
    Spec.appliesLoose_calling (g := g) h hdg hn hkY hinitY
      (X.room_calling (g := g) (R' := (headSpec ws rm).room) hsize hmY hcY hframes (by rw [hlY]; omega) h4 h5) h1
  obtain ⟨mid, hmid⟩ := h.above
  have hfr : (U.setTop g).frames = (.java g :: mid) ++ below := by rw [State.frames_setTop' g h.top, hmid]; rfl
  obtain ⟨o, s₂, hsteps, -, hend, hq⟩ := Steps.callFree hM p X.admits X.cas X.clock (acts := []) hfr happ hPc trivial
  have hq' : vx_Q Qc XC mc ms free a (U.calling g mk a) o s₂ := hq
  rw [State.frames_setTop' g h.top] at hend
  obtain ⟨g₀, hg0⟩ := Option.isSome_iff_exists.mp h.top
  obtain ⟨r, hr⟩ := State.topJava?_eq_some.mp hg0
  have hr' : (({ U with heap := s₂.heap, slotsUsed := s₂.slotsUsed } : State).setVm s₂.vm).frames = .java g₀ :: r := hr
  rcases hq' with ⟨hqc, L, hfe, hL⟩ | ⟨q, rfl, E, ce, L, hx, hce, hcv, hcl, hW₂, hsm, hL⟩
  · obtain ⟨⟨v, rfl⟩, hW₂, e2, q2, q3, q4, q5, q6⟩ := id hfe
    have e3 : s₂ = ({ (U.calling g mk a).setFrames s₂.frames with heap := s₂.heap, slotsUsed := s₂.slotsUsed } : State).setVm s₂.vm := by
      have : s₂ = ({ s₂ with vm := (U.calling g mk a).vm } : State).setVm s₂.vm := rfl
      rw [e2] at this
      exact this
    obtain ⟨c₂, i₂, len₂, hc₂, hd₂, hf₂⟩ := hend
    have hW' : U.WarmedH s₂.vm := hW₂
    have hcc : c₂ = c := by
      have h1 : s₂.code? g.method = U.code? g.method := by
        rw [State.code?_eq, State.code?_eq, hW'.alike.method?]
      exact Option.some.inj (hc₂.symm.trans (h1.trans h.code))
    subst hcc
    have hlen : len₂ = len := by rw [hdg] at hd₂; cases hd₂; rfl
    subst hlen
    have hs₂ : s₂ = (({ U with heap := s₂.heap, slotsUsed := s₂.slotsUsed } : State).setVm s₂.vm).setTop { g with pc := g.pc + len₂, stack := v.toList ++ g.stack } := by
      refine e3.trans ?_
      rw [hf₂, State.calling_eq h.top, State.setFrames_setFrames, State.setTop_of_frames _ hr', hr]
      rfl
    have hsame : U.sameButNew ({ U with heap := s₂.heap, slotsUsed := s₂.slotsUsed } : State) L mc ms := by
      refine ⟨?_, q2, q3, q4, q5, q6⟩
      obtain ⟨t, ht, -⟩ := State.frames_cons hr
      show ({ U with heap := s₂.heap, slotsUsed := s₂.slotsUsed } : State) = { U.setFrames U.frames with heap := s₂.heap, slotsUsed := s₂.slotsUsed }
      rw [State.setFrames_self ht]
    subst hg
    refine Or.inl ⟨v, ⟨(({ U with heap := s₂.heap, slotsUsed := s₂.slotsUsed } : State).setVm s₂.vm), Ls ++ L, c0 + mc, s0 + ms⟩,
      ⟨X.admits, X.cas, X.clock, X.frames, X.room, X.hears, X.method, X.code, (X.here.setHeapUsed s₂.heap s₂.slotsUsed).setVm hW'.alike, X.tail, State.WarmedH.trans X.warmed hW', X.limits, X.bytes, X.same.trans (hsame.setVm s.vm)⟩,
      ⟨g, mk, s₂, L, rfl, rfl, hqc, rfl, hL, rfl, rfl⟩, ?_⟩
    show Steps p.tables e below _ ((({ U with heap := s₂.heap, slotsUsed := s₂.slotsUsed } : State).setVm s₂.vm).setTop { g with pc := g.pc + len₂, stack := v.toList ++ g.stack })
    rw [← hs₂]
    exact hsteps
  · obtain ⟨e2, q2, q3, q4, q5, q6⟩ := id hsm
    have e3 : s₂ = ({ (U.calling g mk a).setFrames s₂.frames with heap := s₂.heap, slotsUsed := s₂.slotsUsed } : State).setVm s₂.vm := by
      have : s₂ = ({ s₂ with vm := (U.calling g mk a).vm } : State).setVm s₂.vm := rfl
      rw [e2] at this
      exact this
    have hf₂ : s₂.frames = .throwing q :: .java g :: U.frames.tail := hend
    have hW' : U.WarmedH s₂.vm := hW₂
    have hs₂ : s₂ = ((({ U with heap := s₂.heap, slotsUsed := s₂.slotsUsed } : State).setVm s₂.vm).setTop g).pushFrame (.throwing q) := by
      refine e3.trans ?_
      rw [hf₂, State.calling_eq h.top, State.setFrames_setFrames, State.pushFrame, State.frames_setTop _ hr', State.setTop_of_frames _ hr', State.setFrames_setFrames, hr]
      rfl
    have hsame : U.sameButNew ({ U with heap := s₂.heap, slotsUsed := s₂.slotsUsed } : State) L mc ms := by
      refine ⟨?_, q2, q3, q4, q5, q6⟩
      obtain ⟨t, ht, -⟩ := State.frames_cons hr
      show ({ U with heap := s₂.heap, slotsUsed := s₂.slotsUsed } : State) = { U.setFrames U.frames with heap := s₂.heap, slotsUsed := s₂.slotsUsed }
      rw [State.setFrames_self ht]
    subst hg
    refine Or.inr ⟨q, ⟨(({ U with heap := s₂.heap, slotsUsed := s₂.slotsUsed } : State).setVm s₂.vm), Ls ++ L, c0 + mc, s0 + ms⟩,
      ⟨X.admits, X.cas, X.clock, X.frames, X.room, X.hears, X.method, X.code, (X.here.setHeapUsed s₂.heap s₂.slotsUsed).setVm hW'.alike, X.tail, State.WarmedH.trans X.warmed hW', X.limits, X.bytes, X.same.trans (hsame.setVm s.vm)⟩,
      ⟨g, mk, s₂, L, E, ce, rfl, rfl, hx, hce, hcv, hcl, rfl, hL, rfl, rfl⟩, ?_⟩
    show Steps p.tables e below _ (((({ U with heap := s₂.heap, slotsUsed := s₂.slotsUsed } : State).setVm s₂.vm).setTop g).pushFrame (.throwing q))
    rw [← hs₂]
    exact hsteps
end
variable {p : Program} {l : Launch} {e : Env} {R : Room} {s : State} {m : MethodId} {args : Array Value} {below : List Frame} {meth : Method} {c : Code} {T : State} {H : Heap} {locs : List Loc} {cells slots : Nat}
theorem vx_callVX (X : Stand p l e R s m args below meth c T locs cells slots) (hexec : p.tables.exec = Jvm.exec) {own C : String} {index : Nat} {y : MethodName} {bytes : ByteArray} {maxL : Nat} {ret : Option FieldType} {hh : List (Nat × Nat × Nat × Nat)}
    (hown : s.vm.findClass own = some m.cls) (hlink : (Cond.methodLink own index y).before args s = true) (hinst : (Cond.instanceMethod y).before args s = true) (hsel : (Cond.selects C y y).before args s = true)
    (hcode : (Cond.codeWith y bytes maxL ret hh).before args s = true) (hy : y.cls ≠ "java/lang/invoke/MethodHandle" ∧ y.cls ≠ "java/lang/invoke/VarHandle")
    {W9 : Nat} {Pre : Pt → Array Value → Prop} {Post : Pt → Array Value → Option Value → Pt → Prop} {PostX : Pt → Array Value → Addr → Pt → Prop} (hK : vx_Back l R p e below s args y 3 W9 Pre Post PostX)
    {b : Addr} {cellB : Cell} (hcell : T.heap[b]? = some cellB) (hobj : cellB.vm.isStatics = false) (hcls : s.vm.findClass C = some cellB.cls)
    {g : JFrame} (hg : g.method = m) (hsize : g.locals.size = c.maxLocals) {argsL rest : List Value} (hlen : ∀ sig, parseMethodDescriptor y.desc = some sig → argsL.length = sig.parameters.length)
    (hstack : g.stack = argsL.reverse ++ .ref b :: rest) (hW : 2 * g.monitorRoom + (rest.map fun v => v.category).sum ≤ W9) (hdg : decode c.code g.pc = .ok (.invokevirtual index, 3))
    (hpre : ∀ vm₁, s.WarmedH vm₁ → Pre ⟨T.setVm vm₁, locs, cells, slots⟩ (Value.ref b :: argsL).toArray) :
    (∃ (v : Option Value) (vm₁ : Vm) (B : Pt), s.WarmedH vm₁ ∧ Stand p l e R s m args below meth c B.U B.locs B.cells B.slots ∧ Post ⟨T.setVm vm₁, locs, cells, slots⟩ (Value.ref b :: argsL).toArray v B ∧
      ∀ target, Steps p.tables e below (B.U.setTop { g with pc := g.pc + 3, stack := v.toList ++ rest }) target → Steps p.tables e below (T.setTop g) target) ∨
    (∃ (q : Addr) (vm₁ : Vm) (B : Pt), s.WarmedH vm₁ ∧ Stand p l e R s m args below meth c B.U B.locs B.cells B.slots ∧ PostX ⟨T.setVm vm₁, locs, cells, slots⟩ (Value.ref b :: argsL).toArray q B ∧
      Steps p.tables e below (T.setTop g) ((B.U.setTop { g with stack := rest }).pushFrame (.throwing q))) := by
  obtain ⟨mk, methM, hnamed, hmethM, hstM, habM⟩ := Cond.instanceMethod_spec hinst
  obtain ⟨m8, methM', cM, hn8, hmethM', -, -, -, -, -, -, hsigM⟩ := Cond.codeWith_spec hcode
  cases Option.some.inj (hn8.symm.trans hnamed)
  cases hmethM.symm.trans hmethM'
  obtain ⟨c2, r2, m2, q1, q2, q3, q4, kP, hkP, hkPi⟩ := Cond.selects_spec hsel
  cases hcls.symm.trans q1
  cases (State.methodFound?_of_named hnamed hy).symm.trans q2
  cases hnamed.symm.trans q3
  have hselP : selectMethod e.platform s.vm cellB.cls mk = .method mk := by rw [Launch.admits_selectMethod X.admits]; exact q4
  obtain ⟨vm₁, X₁, hstep₁⟩ := X.invokevirtual hexec hown hlink hnamed hmethM hstM hkP hkPi hy (a := b) (cell := cellB) hcell
    (fun z h => by rw [h] at hobj; cases hobj) hselP hmethM habM hkP hkPi (g := g) hg (argsL := argsL) (rest := rest) (hlen _ hsigM) hstack hdg
  rcases hK m meth c ⟨T.setVm vm₁, locs, cells, slots⟩ { g with stack := rest } (.invokevirtual index) mk (Value.ref b :: argsL).toArray X₁ hg hsize hdg hW (X₁.named hnamed) (hpre vm₁ X₁.warmed) with ⟨v, B, X', hpost, hsteps⟩ | ⟨q, B, X', hpost, hsteps⟩
  · exact Or.inl ⟨v, vm₁, B, X₁.warmed, X', hpost, fun target h => hstep₁ _ fun acts => by rw [doInvoke_state]; exact hsteps.trans h⟩
  · exact Or.inr ⟨q, vm₁, B, X₁.warmed, X', hpost, hstep₁ _ fun acts => by rw [doInvoke_state]; exact hsteps⟩
theorem vx_callSX (X : Stand p l e R s m args below meth c T locs cells slots) (hexec : p.tables.exec = Jvm.exec) {own : String} {index : Nat} {y : MethodName} {bytes : ByteArray} {maxL : Nat} {ret : Option FieldType} {hh : List (Nat × Nat × Nat × Nat)}
    (hown : s.vm.findClass own = some m.cls) (hlink : (Cond.methodLink own index y).before args s = true) (hstat : (Cond.static y).before args s = true) (hinit : (Cond.initialized y.cls).before args s = true)
    (hcode : (Cond.codeWith y bytes maxL ret hh).before args s = true) (hy : y.cls ≠ "java/lang/invoke/MethodHandle" ∧ y.cls ≠ "java/lang/invoke/VarHandle")
    {W9 : Nat} {Pre : Pt → Array Value → Prop} {Post : Pt → Array Value → Option Value → Pt → Prop} {PostX : Pt → Array Value → Addr → Pt → Prop} (hK : vx_Back l R p e below s args y 3 W9 Pre Post PostX)
    {g : JFrame} (hg : g.method = m) (hsize : g.locals.size = c.maxLocals) {argsL rest : List Value} (hlen : ∀ sig, parseMethodDescriptor y.desc = some sig → argsL.length = sig.parameters.length)
    (hstack : g.stack = argsL.reverse ++ rest) (hW : 2 * g.monitorRoom + (rest.map fun v => v.category).sum ≤ W9) (hdg : decode c.code g.pc = .ok (.invokestatic index, 3))
    (hpre : ∀ vm₁, s.WarmedH vm₁ → Pre ⟨T.setVm vm₁, locs, cells, slots⟩ argsL.toArray) :
    (∃ (v : Option Value) (vm₁ : Vm) (B : Pt), s.WarmedH vm₁ ∧ Stand p l e R s m args below meth c B.U B.locs B.cells B.slots ∧ Post ⟨T.setVm vm₁, locs, cells, slots⟩ argsL.toArray v B ∧
      ∀ target, Steps p.tables e below (B.U.setTop { g with pc := g.pc + 3, stack := v.toList ++ rest }) target → Steps p.tables e below (T.setTop g) target) ∨
    (∃ (q : Addr) (vm₁ : Vm) (B : Pt), s.WarmedH vm₁ ∧ Stand p l e R s m args below meth c B.U B.locs B.cells B.slots ∧ PostX ⟨T.setVm vm₁, locs, cells, slots⟩ argsL.toArray q B ∧
      Steps p.tables e below (T.setTop g) ((B.U.setTop { g with stack := rest }).pushFrame (.throwing q))) := by
  obtain ⟨mk, methM, cM, hnamed, hmethM, -, -, -, -, -, -, hsigM⟩ := Cond.codeWith_spec hcode
  have hstatic : methM.isStatic = true := Cond.static_spec hnamed hmethM hstat
  obtain ⟨kP, hkP, -⟩ := className_of_methodNamed hnamed
  have hinitP : kP.init = .initialized := Cond.initialized_spec (findClass_of_methodNamed hnamed) hkP hinit
  obtain ⟨vm₁, X₁, hstep₁⟩ := X.invokestatic hexec hown hlink hnamed hmethM hstatic hkP hinitP hy (g := g) hg (argsL := argsL) (rest := rest) (hlen _ hsigM) hstack hdg
  rcases hK m meth c ⟨T.setVm vm₁, locs, cells, slots⟩ { g with stack := rest } (.invokestatic index) mk argsL.toArray X₁ hg hsize hdg hW (X₁.named hnamed) (hpre vm₁ X₁.warmed) with ⟨v, B, X', hpost, hsteps⟩ | ⟨q, B, X', hpost, hsteps⟩
  · exact Or.inl ⟨v, vm₁, B, X₁.warmed, X', hpost, fun target h => hstep₁ _ fun acts => by rw [doInvoke_state]; exact hsteps.trans h⟩
  · exact Or.inr ⟨q, vm₁, B, X₁.warmed, X', hpost, hstep₁ _ fun acts => by rw [doInvoke_state]; exact hsteps⟩
theorem vx_callVW (X : Stand p l e R s m args below meth c T locs cells slots) (hexec : p.tables.exec = Jvm.exec) {own C : String} {index : Nat} {y : MethodName} {bytes : ByteArray} {maxL : Nat} {ret : Option FieldType} {hh : List (Nat × Nat × Nat × Nat)}
    (hown : s.vm.findClass own = some m.cls) (hlink : (Cond.methodLink own index y).before args s = true) (hinst : (Cond.instanceMethod y).before args s = true) (hsel : (Cond.selects C y y).before args s = true)
    (hcode : (Cond.codeWith y bytes maxL ret hh).before args s = true) (hy : y.cls ≠ "java/lang/invoke/MethodHandle" ∧ y.cls ≠ "java/lang/invoke/VarHandle")
    {W9 : Nat} {Pre : Pt → Array Value → Prop} {Post : Pt → Array Value → Option Value → Pt → Prop} (hK : Back l R p e below s args y 3 W9 Pre Post)
    {b : Addr} {cellB : Cell} (hcell : T.heap[b]? = some cellB) (hobj : cellB.vm.isStatics = false) (hcls : s.vm.findClass C = some cellB.cls)
    {g : JFrame} (hg : g.method = m) (hsize : g.locals.size = c.maxLocals) {argsL rest : List Value} (hlen : ∀ sig, parseMethodDescriptor y.desc = some sig → argsL.length = sig.parameters.length)
    (hstack : g.stack = argsL.reverse ++ .ref b :: rest) (hW : 2 * g.monitorRoom + (rest.map fun v => v.category).sum ≤ W9) (hdg : decode c.code g.pc = .ok (.invokevirtual index, 3))
    (hpre : ∀ vm₁, s.WarmedH vm₁ → Pre ⟨T.setVm vm₁, locs, cells, slots⟩ (Value.ref b :: argsL).toArray) :
    ∃ (v : Option Value) (vm₁ : Vm) (B : Pt), s.WarmedH vm₁ ∧ Stand p l e R s m args below meth c B.U B.locs B.cells B.slots ∧ Post ⟨T.setVm vm₁, locs, cells, slots⟩ (Value.ref b :: argsL).toArray v B ∧
      ∀ target, Steps p.tables e below (B.U.setTop { g with pc := g.pc + 3, stack := v.toList ++ rest }) target → Steps p.tables e below (T.setTop g) target := by
  obtain ⟨mk, methM, hnamed, hmethM, hstM, habM⟩ := Cond.instanceMethod_spec hinst
  obtain ⟨m8, methM', cM, hn8, hmethM', -, -, -, -, -, -, hsigM⟩ := Cond.codeWith_spec hcode
  cases Option.some.inj (hn8.symm.trans hnamed)
  cases hmethM.symm.trans hmethM'
  obtain ⟨c2, r2, m2, q1, q2, q3, q4, kP, hkP, hkPi⟩ := Cond.selects_spec hsel
  cases hcls.symm.trans q1
  cases (State.methodFound?_of_named hnamed hy).symm.trans q2
  cases hnamed.symm.trans q3
  have hselP : selectMethod e.platform s.vm cellB.cls mk = .method mk := by rw [Launch.admits_selectMethod X.admits]; exact q4
  obtain ⟨vm₁, X₁, hstep₁⟩ := X.invokevirtual hexec hown hlink hnamed hmethM hstM hkP hkPi hy (a := b) (cell := cellB) hcell
    (fun z h => by rw [h] at hobj; cases hobj) hselP hmethM habM hkP hkPi (g := g) hg (argsL := argsL) (rest := rest) (hlen _ hsigM) hstack hdg
  obtain ⟨v, B, X', hpost, hsteps⟩ := hK m meth c ⟨T.setVm vm₁, locs, cells, slots⟩ { g with stack := rest } (.invokevirtual index) mk (Value.ref b :: argsL).toArray X₁ hg hsize hdg hW (X₁.named hnamed) (hpre vm₁ X₁.warmed)
  exact ⟨v, vm₁, B, X₁.warmed, X', hpost, fun target h => hstep₁ _ fun acts => by rw [doInvoke_state]; exact hsteps.trans h⟩
abbrev vx_CVW (R : Room) (s : State) (args : Array Value) (own C : String) (index : Nat) (y : MethodName) (bytes : ByteArray) (maxL : Nat) (ret : Option FieldType) (hh : List (Nat × Nat × Nat × Nat)) (ws : List Cond) (rm : Room) (mc ms n : Nat) : Prop :=
  (rm.cells = mc ∧ rm.slots = ms ∧ rm.frames + 1 ≤ R.frames ∧ 8 + (maxL + 11) + rm.locals ≤ R.locals ∧ (∀ w ∈ ws, ∀ (a' : Array Value) (U : State), s.WarmedH U.vm → w.before a' U = true) ∧ Cond.codeWith y bytes maxL ret hh ∈ ws) ∧
  (Cond.codeWith y bytes maxL ret hh).before args s = true ∧ (Cond.initialized y.cls).before args s = true ∧ (y.cls ≠ "java/lang/invoke/MethodHandle" ∧ y.cls ≠ "java/lang/invoke/VarHandle") ∧
  (∀ sig, parseMethodDescriptor y.desc = some sig → n = sig.parameters.length) ∧ (Cond.methodLink own index y).before args s = true ∧ (Cond.instanceMethod y).before args s = true ∧ (Cond.selects C y y).before args s = true
theorem vx_cwVW {own C : String} {index maxL mc ms : Nat} {y : MethodName} {bytes : ByteArray} {ret : Option FieldType} {hh : List (Nat × Nat × Nat × Nat)} {Ts ws ws' : List Cond} {rm : Room} (n : Nat) (ht : ∀ w ∈ Ts, w.before args s = true) (hT : GoodIn Ts (wsV own index C y ws)) (hw : ws = Cond.codeWith y bytes maxL ret hh :: ws') (hrc : rm.cells = mc) (hrs : rm.slots = ms)
    (hd : y.cls = C ∧ y.cls ≠ "java/lang/invoke/MethodHandle" ∧ y.cls ≠ "java/lang/invoke/VarHandle" ∧ (parseMethodDescriptor y.desc).map (fun d => d.parameters.length) = some n) (hR : rm.frames + 1 ≤ R.frames ∧ 8 + (maxL + 11) + rm.locals ≤ R.locals) :
    vx_CVW R s args own C index y bytes maxL ret hh ws rm mc ms n := by
  obtain ⟨hC, hd⟩ := hd
  subst hC
  have ok : ∀ w ∈ wsV own index y.cls y ws, w.before args s = true := fun w h => ht w (hT w h).1
  have hG : GoodIn Ts ws := fun w h => hT w (by unfold wsV; exact List.mem_append_right _ h)
  have hc : Cond.codeWith y bytes maxL ret hh ∈ ws := by rw [hw]; exact List.mem_cons_self
  refine ⟨⟨hrc, hrs, hR.1, hR.2, pay_in ht hG, hc⟩, ht _ (hG _ hc).1, ok _ (by simp [wsV]), ⟨hd.1, hd.2.1⟩, fun sig h => ?_, ok _ (by simp [wsV]), ok _ (by simp [wsV]), ok _ (by simp [wsV])⟩
  have h2 := hd.2.2
  rw [h] at h2
  exact (Option.some.inj h2).symm
theorem vx_runVW {y : MethodName} {bytes cc : ByteArray} {maxL nL mc ms n index : Nat} {ret : Option FieldType} {hh : List (Nat × Nat × Nat × Nat)} {ws : List Cond} {rm : Room} {Pc : Array Value → State → Prop} {Qc : Array Value → State → Outcome → State → Prop} {free : Addr → Prop} {Ts : List Cond} {own C : String} {b : Addr} {As rest : List Value} {g : JFrame}
    (S : CallFix p m c cc nL s args Ts own) (hM : Met l y ws rm Pc Qc mc ms free) (cw : vx_CVW R s args own C index y bytes maxL ret hh ws rm mc ms n) (hp : PreV s H C b Pc As)
    (hg : g.method = m) (hn : As.length = n) (hsize : g.locals.size = nL) (hstack : g.stack = As.reverse ++ .ref b :: rest) (hW : 2 * g.monitorRoom + (rest.map fun v => v.category).sum ≤ 8) (hdg : decode cc g.pc = .ok (.invokevirtual index, 3)) (hf : cells + mc ≤ R.cells ∧ slots + ms ≤ R.slots) :
    va_Run p l e R s m args below meth c H locs cells slots mc ms g rest (Qc (Value.ref b :: As).toArray) free := by
  obtain ⟨⟨hrc, hrs, hfr, hlo, hws, hcw⟩, hcode, hini, hy, hlen, hl, hin, hse⟩ := cw
  have hK : Back l R p e below s args y 3 8 (PreOf R mc ms Pc) (PostOf Qc mc ms free) := va_backW (hh := hh) (bytes := bytes) (maxL := maxL) (ret := ret) hM hp.1 hrc hrs hfr hlo hws hcw (fun a' U hW => word_at hW (Or.inl (by first | rfl | simp [Cond.onTables, Cond.keeps, Cond.steady])) hini)
  obtain ⟨hx, hb, hml, ho, -⟩ := S
  obtain ⟨-, ⟨cellB, hcB, hoB, hclB⟩, hPc⟩ := hp
  intro T hT X
  obtain ⟨v, vm₁, ⟨U', l2, c2, s2⟩, hW₁, X', ⟨g', mk, t, L, e1, e2, hq, h1, hL, h2, h3⟩, st⟩ := vx_callVW X hx (C := C) (hh := hh) (bytes := bytes) (maxL := maxL) (ret := ret) ho hl hin hse hcode hy hK (by rw [hT]; exact hcB) hoB hclB hg (hsize.trans hml.symm) (argsL := As) (rest := rest) (fun sig h => hn.trans (hlen sig h)) hstack hW (by rw [hb]; exact hdg)
    (fun vm₁ hW₁ => ⟨hf.1, hf.2, hPc (T.setVm vm₁) hT hW₁⟩)
  dsimp only [Pt.U, Pt.locs, Pt.cells, Pt.slots] at X' e1 e2 h1 h2 h3 st
  subst h1; subst h2; subst h3
  exact ⟨v, (T.setVm vm₁).calling g' mk (Value.ref b :: As).toArray, t, U', L, hT, X', hL, e1, e2, hq, st⟩
section
variable {y : MethodName} {bytes cc : ByteArray} {maxL nL mc ms n index : Nat} {ret : Option FieldType} {ws : List Cond} {rm : Room} {Pc : Array Value → State → Prop} {Qc : Array Value → State → Outcome → State → Prop} {XC : String → State → State → Prop} {free : Addr → Prop} {Ts : List Cond} {own C : String} {b : Addr} {As rest : List Value} {g : JFrame}
theorem vx_runVX {hh : List (Nat × Nat × Nat × Nat)} (S : CallFix p m c cc nL s args Ts own) (hM : vx_Met l y ws rm Pc Qc XC mc ms free) (cw : vx_CVW R s args own C index y bytes maxL ret hh ws rm mc ms n) (hp : PreV s H C b Pc As)
    (hg : g.method = m) (hn : As.length = n) (hsize : g.locals.size = nL) (hstack : g.stack = As.reverse ++ .ref b :: rest) (hW : 2 * g.monitorRoom + (rest.map fun v => v.category).sum ≤ 8) (hdg : decode cc g.pc = .ok (.invokevirtual index, 3)) (hf : cells + mc ≤ R.cells ∧ slots + ms ≤ R.slots) :
    vx_Run p l e R s m args below meth c H locs cells slots mc ms g rest (Qc (Value.ref b :: As).toArray) XC free := by
  obtain ⟨⟨hrc, hrs, hfr, hlo, hws, hcw⟩, hcode, hini, hy, hlen, hl, hin, hse⟩ := cw
  have hK : vx_Back l R p e below s args y 3 8 (PreOf R mc ms Pc) (PostOf Qc mc ms free) (vx_Post XC mc ms free) := vx_backW (hh := hh) (bytes := bytes) (maxL := maxL) (ret := ret) hM hp.1 hrc hrs hfr hlo hws hcw (fun a' U hW => word_at hW (Or.inl (by first | rfl | simp [Cond.onTables, Cond.keeps, Cond.steady])) hini)
  obtain ⟨hx, hb, hml, ho, -⟩ := S
  obtain ⟨-, ⟨cellB, hcB, hoB, hclB⟩, hPc⟩ := hp
  intro T hT X
  rcases vx_callVX X hx (C := C) (hh := hh) (bytes := bytes) (maxL := maxL) (ret := ret) ho hl hin hse hcode hy hK (by rw [hT]; exact hcB) hoB hclB hg (hsize.trans hml.symm) (argsL := As) (rest := rest) (fun sig h => hn.trans (hlen sig h)) hstack hW (by rw [hb]; exact hdg)
    (fun vm₁ hW₁ => ⟨hf.1, hf.2, hPc (T.setVm vm₁) hT hW₁⟩) with ⟨v, vm₁, ⟨U', l2, c2, s2⟩, hW₁, X', ⟨g', mk, t, L, e1, e2, hq, h1, hL, h2, h3⟩, st⟩ | ⟨q, vm₁, ⟨U', l2, c2, s2⟩, hW₁, X', ⟨g', mk, t, L, E, ce, e1, e2, hq, hce, hcv, hcl, h1, hL, h2, h3⟩, st⟩
  · dsimp only [Pt.U, Pt.locs, Pt.cells, Pt.slots] at X' e1 e2 h1 h2 h3 st
    subst h1; subst h2; subst h3
    exact Or.inl ⟨v, (T.setVm vm₁).calling g' mk (Value.ref b :: As).toArray, t, U', L, hT, X', hL, e1, e2, hq, st⟩
  · dsimp only [Pt.U, Pt.locs, Pt.cells, Pt.slots] at X' e1 e2 h1 h2 h3 st hcl
    subst h1; subst h2; subst h3
    exact Or.inr ⟨q, (T.setVm vm₁).calling g' mk (Value.ref b :: As).toArray, t, U', L, E, ce, hT, X', hL, e1, e2, hq, hce, hcv, vx_cls hW₁ hcl, st⟩
theorem vx_runSX {hh : List (Nat × Nat × Nat × Nat)} (S : CallFix p m c cc nL s args Ts own) (hM : vx_Met l y ws rm Pc Qc XC mc ms free) (cw : vx_CSW R s args own index y bytes maxL ret hh ws rm mc ms n) (hp : PreS s H Pc As)
    (hg : g.method = m) (hn : As.length = n) (hsize : g.locals.size = nL) (hstack : g.stack = As.reverse ++ rest) (hW : 2 * g.monitorRoom + (rest.map fun v => v.category).sum ≤ 8) (hdg : decode cc g.pc = .ok (.invokestatic index, 3)) (hf : cells + mc ≤ R.cells ∧ slots + ms ≤ R.slots) :
    vx_Run p l e R s m args below meth c H locs cells slots mc ms g rest (Qc As.toArray) XC free := by
  obtain ⟨⟨hrc, hrs, hfr, hlo, hws, hcw⟩, hcode, hini, hy, hlen, hl, hstt⟩ := cw
  have hK : vx_Back l R p e below s args y 3 8 (PreOf R mc ms Pc) (PostOf Qc mc ms free) (vx_Post XC mc ms free) := vx_backW (hh := hh) (bytes := bytes) (maxL := maxL) (ret := ret) hM hp.1 hrc hrs hfr hlo hws hcw (fun a' U hW => word_at hW (Or.inl (by first | rfl | simp [Cond.onTables, Cond.keeps, Cond.steady])) hini)
  obtain ⟨hx, hb, hml, ho, -⟩ := S
  intro T hT X
  rcases vx_callSX X hx (hh := hh) (bytes := bytes) (maxL := maxL) (ret := ret) ho hl hstt hini hcode hy hK hg (hsize.trans hml.symm) (argsL := As) (rest := rest) (fun sig h => hn.trans (hlen sig h)) hstack hW (by rw [hb]; exact hdg)
    (fun vm₁ hW₁ => ⟨hf.1, hf.2, hp.2 (T.setVm vm₁) hT hW₁⟩) with ⟨v, vm₁, ⟨U', l2, c2, s2⟩, hW₁, X', ⟨g', mk, t, L, e1, e2, hq, h1, hL, h2, h3⟩, st⟩ | ⟨q, vm₁, ⟨U', l2, c2, s2⟩, hW₁, X', ⟨g', mk, t, L, E, ce, e1, e2, hq, hce, hcv, hcl, h1, hL, h2, h3⟩, st⟩
  · dsimp only [Pt.U, Pt.locs, Pt.cells, Pt.slots] at X' e1 e2 h1 h2 h3 st
    subst h1; subst h2; subst h3
    exact Or.inl ⟨v, (T.setVm vm₁).calling g' mk As.toArray, t, U', L, hT, X', hL, e1, e2, hq, st⟩
  · dsimp only [Pt.U, Pt.locs, Pt.cells, Pt.slots] at X' e1 e2 h1 h2 h3 st hcl
    subst h1; subst h2; subst h3
    exact Or.inr ⟨q, (T.setVm vm₁).calling g' mk As.toArray, t, U', L, E, ce, hT, X', hL, e1, e2, hq, hce, hcv, vx_cls hW₁ hcl, st⟩
end
end VXH
theorem vx_ofWH {l : Launch} {y : MethodName} {ws ws' : List Cond} {rm : Room} {Pc : Array Value → State → Prop} {Qc : Array Value → State → Outcome → State → Prop} {XC : String → State → State → Prop} {mc ms : Nat} {free : Addr → Prop} {cc : ByteArray} {maxL : Nat} {ret : Option FieldType} {hh : List (Nat × Nat × Nat × Nat)}
    (hy : plainName y.cls = true) (hw : ws = Cond.codeWith y cc maxL ret hh :: ws')
    (body : ∀ p e s m args below meth c s₁, BodyLoose p l y (headSpec ws rm) cc maxL ret e s m args below meth c s₁ → c.maxLocals = maxL → Pc args s →
      W p l e (headSpec ws rm).room s m args below meth c s.heap [] 0 0 (vx_MQ below Qc XC args s mc ms free) (entryFrame m args maxL)) : vx_Met l y ws rm Pc Qc XC mc ms free := by
  refine MetFree.of_bodyS (code := cc) (maxLocals := maxL) (ret := ret) hy ?_ ?_
  · intro args s m h hn
    obtain ⟨m9, meth, c, hn9, h1, h2, h3, h4, -, h5, h6, -⟩ := Cond.codeWith_spec (atoms_spec (ws := ws) h _ (by rw [hw]; exact List.mem_cons_self))
    cases hn.symm.trans hn9
    exact ⟨meth, c, h1, h2, h3, h4, h5, h6⟩
  · intro p e s m args below meth c s₁ B hml hP _
    have hh0 : s₁.heap = s.heap := by rw [B.state]; rfl
    obtain ⟨t, a1, o, b1, b2, b3⟩ := body p e s m args below meth c s₁ B hml hP s₁ hh0 (Stand.of_body B)
    exact ⟨t, o, a1, b1, b2, b3⟩
/-! ===== END ===== -/
end
section
/-! ===== BEGIN printed: names, fields, word lists, decode rows ===== -/
def RX0 : String := "BatchDoser$Bins"
def TX0 : u_T := fun k => match k with
  | 0 => ("BatchDoser$Bins", "margins", "[I", true)
  | 1 => ("BatchDoser$Bins", "flights", "[I", true)
  | 2 => ("BatchDoser$Bins", "registers", "[I", true)
  | _ => ("BatchDoser$Bins", "untraced", "[I", true)
def tyX0 : Nat → FieldType := fun k => match k with
  | 0 => .array .int
  | 1 => .array .int
  | 2 => .array .int
  | _ => .array .int
abbrev wsX00 : List Cond := u_ws RX0 TX0 4
theorem nmX0 : ∀ a, a < 4 → ∀ b, b < 4 → a ≠ b → (TX0 a).2.1 ≠ (TX0 b).2.1 := by decide +kernel
theorem tyX0_ok : ∀ k, k < 4 → parseFieldDescriptor (TX0 k).2.2.1 = some (tyX0 k) := by decide +kernel
abbrev cX0_init : ByteArray := prog_2_method_1_code
def yX0_init : MethodName := ⟨RX0, "<init>", "()V"⟩
abbrev cX0_learn : ByteArray := prog_2_method_2_code
def yX0_learn : MethodName := ⟨RX0, "learn", "(II)V"⟩
def RX1 : String := "BatchDoser$Dosing"
def TX1 : u_T := fun k => match k with
  | 0 => ("BatchDoser$Dosing", "scale", "LBatchDoser$Scale;", true)
  | 1 => ("BatchDoser$Dosing", "bins", "LBatchDoser$Bins;", true)
  | 2 => ("BatchDoser$Dosing", "lots", "LBatchDoser$Lots;", true)
  | 3 => ("BatchDoser$Dosing", "recipe", "LBatchDoser$Recipe;", true)
  | 4 => ("BatchDoser$Dosing", "state", "I", false)
  | 5 => ("BatchDoser$Dosing", "alarm", "I", false)
  | 6 => ("BatchDoser$Dosing", "heldState", "I", false)
  | 7 => ("BatchDoser$Dosing", "stateTicks", "I", false)
  | 8 => ("BatchDoser$Dosing", "idleTicks", "I", false)
  | 9 => ("BatchDoser$Dosing", "step", "I", false)
  | 10 => ("BatchDoser$Dosing", "jogs", "I", false)
  | 11 => ("BatchDoser$Dosing", "greatestNet", "I", false)
  | 12 => ("BatchDoser$Dosing", "isTared", "Z", false)
  | 13 => ("BatchDoser$Dosing", "isWeighed", "Z", false)
  | 14 => ("BatchDoser$Dosing", "started", "I", false)
  | _ => ("BatchDoser$Dosing", "finished", "I", false)
def tyX1 : Nat → FieldType := fun k => match k with
  | 0 => .object "BatchDoser$Scale"
  | 1 => .object "BatchDoser$Bins"
  | 2 => .object "BatchDoser$Lots"
  | 3 => .object "BatchDoser$Recipe"
  | 4 => .int
  | 5 => .int
  | 6 => .int
  | 7 => .int
  | 8 => .int
  | 9 => .int
  | 10 => .int
  | 11 => .int
  | 12 => .boolean
  | 13 => .boolean
  | 14 => .int
  | _ => .int
abbrev wsX10 : List Cond := u_ws RX1 TX1 16
theorem nmX1 : ∀ a, a < 16 → ∀ b, b < 16 → a ≠ b → (TX1 a).2.1 ≠ (TX1 b).2.1 := by decide +kernel
theorem tyX1_ok : ∀ k, k < 16 → parseFieldDescriptor (TX1 k).2.2.1 = some (tyX1 k) := by decide +kernel
abbrev cX1_init : ByteArray := prog_3_method_1_code
def yX1_init : MethodName := ⟨RX1, "<init>", "()V"⟩
abbrev cX1_bring : ByteArray := prog_3_method_2_code
def yX1_bring : MethodName := ⟨RX1, "bring", "(I)V"⟩
abbrev cX1_gateOf : ByteArray := prog_3_method_3_code
def yX1_gateOf : MethodName := ⟨RX1, "gateOf", "(I)I"⟩
abbrev cX1_startBatch : ByteArray := prog_3_method_4_code
def yX1_startBatch : MethodName := ⟨RX1, "startBatch", "()I"⟩
abbrev cX1_halt : ByteArray := prog_3_method_5_code
def yX1_halt : MethodName := ⟨RX1, "halt", "(I)V"⟩
abbrev cX1_goOn : ByteArray := prog_3_method_6_code
def yX1_goOn : MethodName := ⟨RX1, "goOn", "()V"⟩
abbrev cX1_breakOff : ByteArray := prog_3_method_7_code
def yX1_breakOff : MethodName := ⟨RX1, "breakOff", "()I"⟩
abbrev cX1_tareStep : ByteArray := prog_3_method_8_code
def yX1_tareStep : MethodName := ⟨RX1, "tareStep", "()V"⟩
abbrev cX1_feed : ByteArray := prog_3_method_9_code
def yX1_feed : MethodName := ⟨RX1, "feed", "()V"⟩
abbrev cX1_weigh : ByteArray := prog_3_method_10_code
def yX1_weigh : MethodName := ⟨RX1, "weigh", "()V"⟩
abbrev cX1_jog : ByteArray := prog_3_method_11_code
def yX1_jog : MethodName := ⟨RX1, "jog", "()V"⟩
abbrev cX1_finishStep : ByteArray := prog_3_method_12_code
def yX1_finishStep : MethodName := ⟨RX1, "finishStep", "()V"⟩
abbrev cX1_beginStep : ByteArray := prog_3_method_13_code
def yX1_beginStep : MethodName := ⟨RX1, "beginStep", "(I)V"⟩
abbrev cX1_enter : ByteArray := prog_3_method_14_code
def yX1_enter : MethodName := ⟨RX1, "enter", "(I)V"⟩
abbrev cX1_bookNet : ByteArray := prog_3_method_15_code
def yX1_bookNet : MethodName := ⟨RX1, "bookNet", "()I"⟩
abbrev cX1_stepBin : ByteArray := prog_3_method_16_code
def yX1_stepBin : MethodName := ⟨RX1, "stepBin", "()I"⟩
abbrev cX1_target : ByteArray := prog_3_method_17_code
def yX1_target : MethodName := ⟨RX1, "target", "()I"⟩
def RX2 : String := "BatchDoser$Lots"
def TX2 : u_T := fun k => match k with
  | 0 => ("BatchDoser$Lots", "binOf", "[I", true)
  | 1 => ("BatchDoser$Lots", "filled", "[I", true)
  | 2 => ("BatchDoser$Lots", "left", "[I", true)
  | 3 => ("BatchDoser$Lots", "usage", "[I", true)
  | _ => ("BatchDoser$Lots", "count", "I", false)
def tyX2 : Nat → FieldType := fun k => match k with
  | 0 => .array .int
  | 1 => .array .int
  | 2 => .array .int
  | 3 => .array .int
  | _ => .int
abbrev wsX20 : List Cond := u_ws RX2 TX2 5
theorem nmX2 : ∀ a, a < 5 → ∀ b, b < 5 → a ≠ b → (TX2 a).2.1 ≠ (TX2 b).2.1 := by decide +kernel
theorem tyX2_ok : ∀ k, k < 5 → parseFieldDescriptor (TX2 k).2.2.1 = some (tyX2 k) := by decide +kernel
abbrev cX2_init : ByteArray := prog_4_method_1_code
def yX2_init : MethodName := ⟨RX2, "<init>", "()V"⟩
abbrev cX2_store : ByteArray := prog_4_method_2_code
def yX2_store : MethodName := ⟨RX2, "store", "(II)I"⟩
abbrev cX2_takeOut : ByteArray := prog_4_method_3_code
def yX2_takeOut : MethodName := ⟨RX2, "takeOut", "(III)I"⟩
abbrev cX2_leftIn : ByteArray := prog_4_method_4_code
def yX2_leftIn : MethodName := ⟨RX2, "leftIn", "(I)I"⟩
abbrev cX2_goneFrom : ByteArray := prog_4_method_5_code
def yX2_goneFrom : MethodName := ⟨RX2, "goneFrom", "(I)I"⟩
abbrev cX2_usedFor : ByteArray := prog_4_method_6_code
def yX2_usedFor : MethodName := ⟨RX2, "usedFor", "(II)I"⟩
abbrev cX2_firstBatchOf : ByteArray := prog_4_method_7_code
def yX2_firstBatchOf : MethodName := ⟨RX2, "firstBatchOf", "(II)I"⟩
abbrev cX2_place : ByteArray := prog_4_method_8_code
def yX2_place : MethodName := ⟨RX2, "place", "(II)I"⟩
def RX3 : String := "BatchDoser$Recipe"
def TX3 : u_T := fun k => match k with
  | 0 => ("BatchDoser$Recipe", "stepBins", "[I", true)
  | 1 => ("BatchDoser$Recipe", "targets", "[I", true)
  | 2 => ("BatchDoser$Recipe", "tolerances", "[I", true)
  | _ => ("BatchDoser$Recipe", "count", "I", false)
def tyX3 : Nat → FieldType := fun k => match k with
  | 0 => .array .int
  | 1 => .array .int
  | 2 => .array .int
  | _ => .int
abbrev wsX30 : List Cond := u_ws RX3 TX3 4
theorem nmX3 : ∀ a, a < 4 → ∀ b, b < 4 → a ≠ b → (TX3 a).2.1 ≠ (TX3 b).2.1 := by decide +kernel
theorem tyX3_ok : ∀ k, k < 4 → parseFieldDescriptor (TX3 k).2.2.1 = some (tyX3 k) := by decide +kernel
abbrev cX3_init : ByteArray := prog_5_method_1_code
def yX3_init : MethodName := ⟨RX3, "<init>", "()V"⟩
abbrev cX3_append : ByteArray := prog_5_method_2_code
def yX3_append : MethodName := ⟨RX3, "append", "(III)V"⟩
def RX4 : String := "BatchDoser$Scale"
def TX4 : u_T := fun k => match k with
  | 0 => ("BatchDoser$Scale", "zeroPoint", "I", false)
  | 1 => ("BatchDoser$Scale", "tare", "I", false)
  | 2 => ("BatchDoser$Scale", "width", "I", false)
  | 3 => ("BatchDoser$Scale", "arrived", "I", false)
  | 4 => ("BatchDoser$Scale", "latest", "I", false)
  | 5 => ("BatchDoser$Scale", "second", "I", false)
  | 6 => ("BatchDoser$Scale", "third", "I", false)
  | _ => ("BatchDoser$Scale", "fourth", "I", false)
def tyX4 : Nat → FieldType := fun k => match k with
  | 0 => .int
  | 1 => .int
  | 2 => .int
  | 3 => .int
  | 4 => .int
  | 5 => .int
  | 6 => .int
  | _ => .int
abbrev wsX40 : List Cond := u_ws RX4 TX4 8
theorem nmX4 : ∀ a, a < 8 → ∀ b, b < 8 → a ≠ b → (TX4 a).2.1 ≠ (TX4 b).2.1 := by decide +kernel
theorem tyX4_ok : ∀ k, k < 8 → parseFieldDescriptor (TX4 k).2.2.1 = some (tyX4 k) := by decide +kernel
abbrev cX4_init : ByteArray := prog_6_method_1_code
def yX4_init : MethodName := ⟨RX4, "<init>", "()V"⟩
abbrev cX4_take : ByteArray := prog_6_method_2_code
def yX4_take : MethodName := ⟨RX4, "take", "(I)V"⟩
abbrev cX4_isCalm : ByteArray := prog_6_method_3_code
def yX4_isCalm : MethodName := ⟨RX4, "isCalm", "()Z"⟩
abbrev cX4_grossNow : ByteArray := prog_6_method_4_code
def yX4_grossNow : MethodName := ⟨RX4, "grossNow", "()I"⟩
abbrev cX4_netNow : ByteArray := prog_6_method_5_code
def yX4_netNow : MethodName := ⟨RX4, "netNow", "()I"⟩
abbrev cX4_trackZero : ByteArray := prog_6_method_6_code
def yX4_trackZero : MethodName := ⟨RX4, "trackZero", "()V"⟩
def RX5 : String := "BatchDoser"
def TX5 : u_T := fun k => match k with
  | 0 => ("BatchDoser", "dosing", "LBatchDoser$Dosing;", true)
  | 1 => ("BatchDoser", "scale", "LBatchDoser$Scale;", true)
  | 2 => ("BatchDoser", "bins", "LBatchDoser$Bins;", true)
  | 3 => ("BatchDoser", "lots", "LBatchDoser$Lots;", true)
  | 4 => ("BatchDoser", "recipe", "LBatchDoser$Recipe;", true)
  | _ => ("BatchDoser", "carriedThousandths", "J", false)
def tyX5 : Nat → FieldType := fun k => match k with
  | 0 => .object "BatchDoser$Dosing"
  | 1 => .object "BatchDoser$Scale"
  | 2 => .object "BatchDoser$Bins"
  | 3 => .object "BatchDoser$Lots"
  | 4 => .object "BatchDoser$Recipe"
  | _ => .long
abbrev wsX50 : List Cond := u_ws RX5 TX5 6
theorem nmX5 : ∀ a, a < 6 → ∀ b, b < 6 → a ≠ b → (TX5 a).2.1 ≠ (TX5 b).2.1 := by decide +kernel
theorem tyX5_ok : ∀ k, k < 6 → parseFieldDescriptor (TX5 k).2.2.1 = some (tyX5 k) := by decide +kernel
abbrev cX5_init : ByteArray := prog_1_method_1_code
def yX5_init : MethodName := ⟨RX5, "<init>", "()V"⟩
abbrev cX5_tick : ByteArray := prog_1_method_2_code
def yX5_tick : MethodName := ⟨RX5, "tick", "(I)I"⟩
abbrev cX5_ticks : ByteArray := prog_1_method_3_code
def yX5_ticks : MethodName := ⟨RX5, "ticks", "(II)I"⟩
abbrev cX5_zero : ByteArray := prog_1_method_4_code
def yX5_zero : MethodName := ⟨RX5, "zero", "()I"⟩
abbrev cX5_setBand : ByteArray := prog_1_method_5_code
def yX5_setBand : MethodName := ⟨RX5, "setBand", "(I)I"⟩
abbrev cX5_gross : ByteArray := prog_1_method_6_code
def yX5_gross : MethodName := ⟨RX5, "gross", "()I"⟩
abbrev cX5_net : ByteArray := prog_1_method_7_code
def yX5_net : MethodName := ⟨RX5, "net", "()I"⟩
abbrev cX5_isSettled : ByteArray := prog_1_method_8_code
def yX5_isSettled : MethodName := ⟨RX5, "isSettled", "()Z"⟩
abbrev cX5_fill : ByteArray := prog_1_method_9_code
def yX5_fill : MethodName := ⟨RX5, "fill", "(II)I"⟩
abbrev cX5_setMargin : ByteArray := prog_1_method_10_code
def yX5_setMargin : MethodName := ⟨RX5, "setMargin", "(II)I"⟩
abbrev cX5_flight : ByteArray := prog_1_method_11_code
def yX5_flight : MethodName := ⟨RX5, "flight", "(I)I"⟩
abbrev cX5_gate : ByteArray := prog_1_method_12_code
def yX5_gate : MethodName := ⟨RX5, "gate", "(I)I"⟩
abbrev cX5_stock : ByteArray := prog_1_method_13_code
def yX5_stock : MethodName := ⟨RX5, "stock", "(I)I"⟩
abbrev cX5_register : ByteArray := prog_1_method_14_code
def yX5_register : MethodName := ⟨RX5, "register", "(I)I"⟩
abbrev cX5_registerByLots : ByteArray := prog_1_method_15_code
def yX5_registerByLots : MethodName := ⟨RX5, "registerByLots", "(I)I"⟩
abbrev cX5_leftOf : ByteArray := prog_1_method_16_code
def yX5_leftOf : MethodName := ⟨RX5, "leftOf", "(I)I"⟩
abbrev cX5_firstBatch : ByteArray := prog_1_method_17_code
def yX5_firstBatch : MethodName := ⟨RX5, "firstBatch", "(I)I"⟩
abbrev cX5_used : ByteArray := prog_1_method_18_code
def yX5_used : MethodName := ⟨RX5, "used", "(II)I"⟩
abbrev cX5_addStep : ByteArray := prog_1_method_19_code
def yX5_addStep : MethodName := ⟨RX5, "addStep", "(III)I"⟩
abbrev cX5_clearRecipe : ByteArray := prog_1_method_20_code
def yX5_clearRecipe : MethodName := ⟨RX5, "clearRecipe", "()I"⟩
abbrev cX5_start : ByteArray := prog_1_method_21_code
def yX5_start : MethodName := ⟨RX5, "start", "()I"⟩
abbrev cX5_hold : ByteArray := prog_1_method_22_code
def yX5_hold : MethodName := ⟨RX5, "hold", "()I"⟩
abbrev cX5_resume : ByteArray := prog_1_method_23_code
def yX5_resume : MethodName := ⟨RX5, "resume", "()I"⟩
abbrev cX5_abort : ByteArray := prog_1_method_24_code
def yX5_abort : MethodName := ⟨RX5, "abort", "()I"⟩
abbrev cX5_state : ByteArray := prog_1_method_25_code
def yX5_state : MethodName := ⟨RX5, "state", "()I"⟩
abbrev cX5_alarm : ByteArray := prog_1_method_26_code
def yX5_alarm : MethodName := ⟨RX5, "alarm", "()I"⟩
abbrev cX5_step : ByteArray := prog_1_method_27_code
def yX5_step : MethodName := ⟨RX5, "step", "()I"⟩
abbrev cX5_jogs : ByteArray := prog_1_method_28_code
def yX5_jogs : MethodName := ⟨RX5, "jogs", "()I"⟩
abbrev cX5_batches : ByteArray := prog_1_method_29_code
def yX5_batches : MethodName := ⟨RX5, "batches", "()I"⟩
abbrev cX5_done : ByteArray := prog_1_method_30_code
def yX5_done : MethodName := ⟨RX5, "done", "()I"⟩
abbrev cX5_belt : ByteArray := prog_1_method_31_code
def yX5_belt : MethodName := ⟨RX5, "belt", "(III)J"⟩
abbrev cX5_needLot : ByteArray := prog_1_method_32_code
def yX5_needLot : MethodName := ⟨RX5, "needLot", "(I)V"⟩
abbrev cX5_needBatch : ByteArray := prog_1_method_33_code
def yX5_needBatch : MethodName := ⟨RX5, "needBatch", "(I)V"⟩
abbrev cX5_needBin : ByteArray := prog_1_method_34_code
def yX5_needBin : MethodName := ⟨RX5, "needBin", "(I)V"⟩
abbrev cX5_needReading : ByteArray := prog_1_method_35_code
def yX5_needReading : MethodName := ⟨RX5, "needReading", "(I)V"⟩
abbrev cX5_needArgument : ByteArray := prog_1_method_36_code
def yX5_needArgument : MethodName := ⟨RX5, "needArgument", "(Z)V"⟩
abbrev cX5_needState : ByteArray := prog_1_method_37_code
def yX5_needState : MethodName := ⟨RX5, "needState", "(Z)V"⟩
abbrev cX5_isWithin : ByteArray := prog_1_method_38_code
def yX5_isWithin : MethodName := ⟨RX5, "isWithin", "(III)Z"⟩
abbrev cX5_at : ByteArray := prog_1_method_39_code
def yX5_at : MethodName := ⟨RX5, "at", "([II)I"⟩
abbrev cX5_put : ByteArray := prog_1_method_40_code
def yX5_put : MethodName := ⟨RX5, "put", "([III)V"⟩
abbrev cX5_increase : ByteArray := prog_1_method_41_code
def yX5_increase : MethodName := ⟨RX5, "increase", "([III)V"⟩
def RX6 : String := "BatchDoserModel"
def TX6 : u_T := fun k => match k with
  | 0 => ("BatchDoserModel", "readings", "[I", true)
  | 1 => ("BatchDoserModel", "arrived", "I", false)
  | 2 => ("BatchDoserModel", "reading", "I", false)
  | 3 => ("BatchDoserModel", "zero", "I", false)
  | 4 => ("BatchDoserModel", "tare", "I", false)
  | 5 => ("BatchDoserModel", "band", "I", false)
  | 6 => ("BatchDoserModel", "margins", "[I", true)
  | 7 => ("BatchDoserModel", "flights", "[I", true)
  | 8 => ("BatchDoserModel", "registers", "[I", true)
  | 9 => ("BatchDoserModel", "untraced", "[I", true)
  | 10 => ("BatchDoserModel", "lotBins", "[I", true)
  | 11 => ("BatchDoserModel", "amounts", "[I", true)
  | 12 => ("BatchDoserModel", "lefts", "[I", true)
  | 13 => ("BatchDoserModel", "firsts", "[I", true)
  | 14 => ("BatchDoserModel", "uses", "[I", true)
  | 15 => ("BatchDoserModel", "lots", "I", false)
  | 16 => ("BatchDoserModel", "bins", "[I", true)
  | 17 => ("BatchDoserModel", "targets", "[I", true)
  | 18 => ("BatchDoserModel", "tolerances", "[I", true)
  | 19 => ("BatchDoserModel", "steps", "I", false)
  | 20 => ("BatchDoserModel", "state", "I", false)
  | 21 => ("BatchDoserModel", "alarm", "I", false)
  | 22 => ("BatchDoserModel", "held", "I", false)
  | 23 => ("BatchDoserModel", "step", "I", false)
  | 24 => ("BatchDoserModel", "inState", "I", false)
  | 25 => ("BatchDoserModel", "idle", "I", false)
  | 26 => ("BatchDoserModel", "jogs", "I", false)
  | 27 => ("BatchDoserModel", "greatest", "I", false)
  | 28 => ("BatchDoserModel", "weighed", "Z", false)
  | 29 => ("BatchDoserModel", "tared", "Z", false)
  | 30 => ("BatchDoserModel", "batches", "I", false)
  | 31 => ("BatchDoserModel", "done", "I", false)
  | 32 => ("BatchDoserModel", "carried", "J", false)
  | _ => ("BatchDoserModel", "last", "I", false)
def tyX6 : Nat → FieldType := fun k => match k with
  | 0 => .array .int
  | 1 => .int
  | 2 => .int
  | 3 => .int
  | 4 => .int
  | 5 => .int
  | 6 => .array .int
  | 7 => .array .int
  | 8 => .array .int
  | 9 => .array .int
  | 10 => .array .int
  | 11 => .array .int
  | 12 => .array .int
  | 13 => .array .int
  | 14 => .array .int
  | 15 => .int
  | 16 => .array .int
  | 17 => .array .int
  | 18 => .array .int
  | 19 => .int
  | 20 => .int
  | 21 => .int
  | 22 => .int
  | 23 => .int
  | 24 => .int
  | 25 => .int
  | 26 => .int
  | 27 => .int
  | 28 => .boolean
  | 29 => .boolean
  | 30 => .int
  | 31 => .int
  | 32 => .long
  | _ => .int
abbrev wsX60 : List Cond := u_ws RX6 TX6 34
theorem nmX6 : ∀ a, a < 34 → ∀ b, b < 34 → a ≠ b → (TX6 a).2.1 ≠ (TX6 b).2.1 := by decide +kernel
theorem tyX6_ok : ∀ k, k < 34 → parseFieldDescriptor (TX6 k).2.2.1 = some (tyX6 k) := by decide +kernel
abbrev cX6_init : ByteArray := prog_8_method_1_code
def yX6_init : MethodName := ⟨RX6, "<init>", "()V"⟩
abbrev cX6_thrown : ByteArray := prog_8_method_2_code
def yX6_thrown : MethodName := ⟨RX6, "thrown", "()I"⟩
abbrev cX6_in : ByteArray := prog_8_method_3_code
def yX6_in : MethodName := ⟨RX6, "in", "(III)Z"⟩
abbrev cX6_goes : ByteArray := prog_8_method_4_code
def yX6_goes : MethodName := ⟨RX6, "goes", "(ZZZ)Z"⟩
abbrev cX6_isBin : ByteArray := prog_8_method_5_code
def yX6_isBin : MethodName := ⟨RX6, "isBin", "(I)Z"⟩
abbrev cX6_isLot : ByteArray := prog_8_method_6_code
def yX6_isLot : MethodName := ⟨RX6, "isLot", "(I)Z"⟩
abbrev cX6_settles : ByteArray := prog_8_method_7_code
def yX6_settles : MethodName := ⟨RX6, "settles", "()Z"⟩
abbrev cX6_grossNow : ByteArray := prog_8_method_8_code
def yX6_grossNow : MethodName := ⟨RX6, "grossNow", "()I"⟩
abbrev cX6_netNow : ByteArray := prog_8_method_9_code
def yX6_netNow : MethodName := ⟨RX6, "netNow", "()I"⟩
abbrev cX6_becomes : ByteArray := prog_8_method_10_code
def yX6_becomes : MethodName := ⟨RX6, "becomes", "(I)V"⟩
abbrev cX6_holds : ByteArray := prog_8_method_11_code
def yX6_holds : MethodName := ⟨RX6, "holds", "(I)V"⟩
abbrev cX6_tracks : ByteArray := prog_8_method_12_code
def yX6_tracks : MethodName := ⟨RX6, "tracks", "()V"⟩
abbrev cX6_down : ByteArray := prog_8_method_13_code
def yX6_down : MethodName := ⟨RX6, "down", "(II)I"⟩
abbrev cX6_weighs : ByteArray := prog_8_method_14_code
def yX6_weighs : MethodName := ⟨RX6, "weighs", "()V"⟩
abbrev cX6_goesOn : ByteArray := prog_8_method_15_code
def yX6_goesOn : MethodName := ⟨RX6, "goesOn", "()V"⟩
abbrev cX6_brings : ByteArray := prog_8_method_16_code
def yX6_brings : MethodName := ⟨RX6, "brings", "(I)I"⟩
abbrev cX6_tick : ByteArray := prog_8_method_17_code
def yX6_tick : MethodName := ⟨RX6, "tick", "(I)I"⟩
abbrev cX6_ticks : ByteArray := prog_8_method_18_code
def yX6_ticks : MethodName := ⟨RX6, "ticks", "(II)I"⟩
abbrev cX6_zero : ByteArray := prog_8_method_19_code
def yX6_zero : MethodName := ⟨RX6, "zero", "()I"⟩
abbrev cX6_setBand : ByteArray := prog_8_method_20_code
def yX6_setBand : MethodName := ⟨RX6, "setBand", "(I)I"⟩
abbrev cX6_gross : ByteArray := prog_8_method_21_code
def yX6_gross : MethodName := ⟨RX6, "gross", "()I"⟩
abbrev cX6_net : ByteArray := prog_8_method_22_code
def yX6_net : MethodName := ⟨RX6, "net", "()I"⟩
abbrev cX6_isSettled : ByteArray := prog_8_method_23_code
def yX6_isSettled : MethodName := ⟨RX6, "isSettled", "()Z"⟩
abbrev cX6_fill : ByteArray := prog_8_method_24_code
def yX6_fill : MethodName := ⟨RX6, "fill", "(II)I"⟩
abbrev cX6_setMargin : ByteArray := prog_8_method_25_code
def yX6_setMargin : MethodName := ⟨RX6, "setMargin", "(II)I"⟩
abbrev cX6_flight : ByteArray := prog_8_method_26_code
def yX6_flight : MethodName := ⟨RX6, "flight", "(I)I"⟩
abbrev cX6_gate : ByteArray := prog_8_method_27_code
def yX6_gate : MethodName := ⟨RX6, "gate", "(I)I"⟩
abbrev cX6_stock : ByteArray := prog_8_method_28_code
def yX6_stock : MethodName := ⟨RX6, "stock", "(I)I"⟩
abbrev cX6_register : ByteArray := prog_8_method_29_code
def yX6_register : MethodName := ⟨RX6, "register", "(I)I"⟩
abbrev cX6_registerByLots : ByteArray := prog_8_method_30_code
def yX6_registerByLots : MethodName := ⟨RX6, "registerByLots", "(I)I"⟩
abbrev cX6_leftOf : ByteArray := prog_8_method_31_code
def yX6_leftOf : MethodName := ⟨RX6, "leftOf", "(I)I"⟩
abbrev cX6_firstBatch : ByteArray := prog_8_method_32_code
def yX6_firstBatch : MethodName := ⟨RX6, "firstBatch", "(I)I"⟩
abbrev cX6_used : ByteArray := prog_8_method_33_code
def yX6_used : MethodName := ⟨RX6, "used", "(II)I"⟩
abbrev cX6_books : ByteArray := prog_8_method_34_code
def yX6_books : MethodName := ⟨RX6, "books", "()I"⟩
abbrev cX6_addStep : ByteArray := prog_8_method_35_code
def yX6_addStep : MethodName := ⟨RX6, "addStep", "(III)I"⟩
abbrev cX6_clearRecipe : ByteArray := prog_8_method_36_code
def yX6_clearRecipe : MethodName := ⟨RX6, "clearRecipe", "()I"⟩
abbrev cX6_begins : ByteArray := prog_8_method_37_code
def yX6_begins : MethodName := ⟨RX6, "begins", "(I)V"⟩
abbrev cX6_finishes : ByteArray := prog_8_method_38_code
def yX6_finishes : MethodName := ⟨RX6, "finishes", "()V"⟩
abbrev cX6_start : ByteArray := prog_8_method_39_code
def yX6_start : MethodName := ⟨RX6, "start", "()I"⟩
abbrev cX6_hold : ByteArray := prog_8_method_40_code
def yX6_hold : MethodName := ⟨RX6, "hold", "()I"⟩
abbrev cX6_resume : ByteArray := prog_8_method_41_code
def yX6_resume : MethodName := ⟨RX6, "resume", "()I"⟩
abbrev cX6_abort : ByteArray := prog_8_method_42_code
def yX6_abort : MethodName := ⟨RX6, "abort", "()I"⟩
abbrev cX6_state : ByteArray := prog_8_method_43_code
def yX6_state : MethodName := ⟨RX6, "state", "()I"⟩
abbrev cX6_alarm : ByteArray := prog_8_method_44_code
def yX6_alarm : MethodName := ⟨RX6, "alarm", "()I"⟩
abbrev cX6_step : ByteArray := prog_8_method_45_code
def yX6_step : MethodName := ⟨RX6, "step", "()I"⟩
abbrev cX6_jogs : ByteArray := prog_8_method_46_code
def yX6_jogs : MethodName := ⟨RX6, "jogs", "()I"⟩
abbrev cX6_batches : ByteArray := prog_8_method_47_code
def yX6_batches : MethodName := ⟨RX6, "batches", "()I"⟩
abbrev cX6_done : ByteArray := prog_8_method_48_code
def yX6_done : MethodName := ⟨RX6, "done", "()I"⟩
abbrev cX6_belt : ByteArray := prog_8_method_49_code
def yX6_belt : MethodName := ⟨RX6, "belt", "(III)J"⟩
def RJ9 : String := "java/lang/Math"
def TJ9 : u_T := fun k => match k with
  | _ => ("", "", "", false)
def tyJ9 : Nat → FieldType := fun k => match k with
  | _ => .int
abbrev wsJ90 : List Cond := u_ws RJ9 TJ9 0
theorem nmJ9 : ∀ a, a < 0 → ∀ b, b < 0 → a ≠ b → (TJ9 a).2.1 ≠ (TJ9 b).2.1 := by decide +kernel
theorem tyJ9_ok : ∀ k, k < 0 → parseFieldDescriptor (TJ9 k).2.2.1 = some (tyJ9 k) := by decide +kernel
abbrev cJ9_floorDiv_7cf53 : ByteArray := prog_13_method_47_code
def yJ9_floorDiv_7cf53 : MethodName := ⟨RJ9, "floorDiv", "(II)I"⟩
abbrev cJ9_max_7cf53 : ByteArray := prog_13_method_65_code
def yJ9_max_7cf53 : MethodName := ⟨RJ9, "max", "(II)I"⟩
abbrev cJ9_min_7cf53 : ByteArray := prog_13_method_69_code
def yJ9_min_7cf53 : MethodName := ⟨RJ9, "min", "(II)I"⟩
def RJ0 : String := "java/lang/String"
def TJ0 : u_T := fun k => match k with
  | _ => ("", "", "", false)
def tyJ0 : Nat → FieldType := fun k => match k with
  | _ => .int
abbrev wsJ00 : List Cond := u_ws RJ0 TJ0 0
theorem nmJ0 : ∀ a, a < 0 → ∀ b, b < 0 → a ≠ b → (TJ0 a).2.1 ≠ (TJ0 b).2.1 := by decide +kernel
theorem tyJ0_ok : ∀ k, k < 0 → parseFieldDescriptor (TJ0 k).2.2.1 = some (tyJ0 k) := by decide +kernel
def RL : String := "BatchDoserLaw"
abbrev cL_tick : ByteArray := method_3_code
def yL_tick : MethodName := ⟨RL, "tick", "(LBatchDoser;I[J)I"⟩
abbrev cL_ticks : ByteArray := method_4_code
def yL_ticks : MethodName := ⟨RL, "ticks", "(LBatchDoser;II[J)I"⟩
abbrev cL_zero : ByteArray := method_5_code
def yL_zero : MethodName := ⟨RL, "zero", "(LBatchDoser;[J)I"⟩
abbrev cL_setBand : ByteArray := method_6_code
def yL_setBand : MethodName := ⟨RL, "setBand", "(LBatchDoser;I[J)I"⟩
abbrev cL_fill : ByteArray := method_7_code
def yL_fill : MethodName := ⟨RL, "fill", "(LBatchDoser;II[J)I"⟩
abbrev cL_setMargin : ByteArray := method_8_code
def yL_setMargin : MethodName := ⟨RL, "setMargin", "(LBatchDoser;II[J)I"⟩
abbrev cL_flight : ByteArray := method_9_code
def yL_flight : MethodName := ⟨RL, "flight", "(LBatchDoser;I[J)I"⟩
abbrev cL_gate : ByteArray := method_10_code
def yL_gate : MethodName := ⟨RL, "gate", "(LBatchDoser;I[J)I"⟩
abbrev cL_stock : ByteArray := method_11_code
def yL_stock : MethodName := ⟨RL, "stock", "(LBatchDoser;I[J)I"⟩
abbrev cL_register : ByteArray := method_12_code
def yL_register : MethodName := ⟨RL, "register", "(LBatchDoser;I[J)I"⟩
abbrev cL_registerByLots : ByteArray := method_13_code
def yL_registerByLots : MethodName := ⟨RL, "registerByLots", "(LBatchDoser;I[J)I"⟩
abbrev cL_leftOf : ByteArray := method_14_code
def yL_leftOf : MethodName := ⟨RL, "leftOf", "(LBatchDoser;I[J)I"⟩
abbrev cL_firstBatch : ByteArray := method_15_code
def yL_firstBatch : MethodName := ⟨RL, "firstBatch", "(LBatchDoser;I[J)I"⟩
abbrev cL_used : ByteArray := method_16_code
def yL_used : MethodName := ⟨RL, "used", "(LBatchDoser;II[J)I"⟩
abbrev cL_addStep : ByteArray := method_17_code
def yL_addStep : MethodName := ⟨RL, "addStep", "(LBatchDoser;III[J)I"⟩
abbrev cL_clearRecipe : ByteArray := method_18_code
def yL_clearRecipe : MethodName := ⟨RL, "clearRecipe", "(LBatchDoser;[J)I"⟩
abbrev cL_start : ByteArray := method_19_code
def yL_start : MethodName := ⟨RL, "start", "(LBatchDoser;[J)I"⟩
abbrev cL_hold : ByteArray := method_20_code
def yL_hold : MethodName := ⟨RL, "hold", "(LBatchDoser;[J)I"⟩
abbrev cL_resume : ByteArray := method_21_code
def yL_resume : MethodName := ⟨RL, "resume", "(LBatchDoser;[J)I"⟩
abbrev cL_abort : ByteArray := method_22_code
def yL_abort : MethodName := ⟨RL, "abort", "(LBatchDoser;[J)I"⟩
abbrev cL_belt : ByteArray := method_23_code
def yL_belt : MethodName := ⟨RL, "belt", "(LBatchDoser;III[J)I"⟩
abbrev cL_law : ByteArray := code
def yL_law : MethodName := ⟨RL, "law", "([I)Z"⟩
end
section
/-! the claim's own tables for the mini machine -/
abbrev m_cl : List vw_C := [(RX0, TX0, 4), (RX1, TX1, 16), (RX2, TX2, 5), (RX3, TX3, 4), (RX4, TX4, 8), (RX5, TX5, 6), (RX6, TX6, 34)]
def m_str : List (String × Nat × String) := [("BatchDoser", 197, "out of range"), ("BatchDoser", 202, "not now"), ("BatchDoser", 193, "no such bin"), ("BatchDoser", 186, "no such lot"), ("BatchDoser", 191, "no such batch")]
theorem m_mat0 : Cond.initialized "java/lang/Math" ∈ lw_tbl := List.mem_append_right _ (List.mem_of_getElem? (i := 12) (by decide +kernel))
theorem m_max10 : Cond.static Lib.Math.max.name ∈ lw_tbl := List.mem_append_right _ (List.mem_of_getElem? (i := 245) (by decide +kernel))
theorem m_max20 : Cond.code Lib.Math.max.name Lib.Math.max.code 2 (some .int) ∈ lw_tbl := List.mem_append_right _ (List.mem_of_getElem? (i := 246) (by decide +kernel))
theorem m_min10 : Cond.static Lib.Math.min.name ∈ lw_tbl := List.mem_append_right _ (List.mem_of_getElem? (i := 248) (by decide +kernel))
theorem m_min20 : Cond.code Lib.Math.min.name Lib.Math.min.code 2 (some .int) ∈ lw_tbl := List.mem_append_right _ (List.mem_of_getElem? (i := 249) (by decide +kernel))
theorem m_obj10 : Cond.instanceMethod Lib.objectInit ∈ lw_tbl := List.mem_append_right _ (List.mem_of_getElem? (i := 21) (by decide +kernel))
theorem m_obj20 : Cond.code Lib.objectInit ⟨#[0xb1]⟩ 1 none ∈ lw_tbl := List.mem_append_right _ (List.mem_of_getElem? (i := 22) (by decide +kernel))
theorem m_inX0 : ∀ w ∈ u_ws RX0 TX0 4, w ∈ lw_tbl := by decide +kernel
theorem m_igX0 : ∀ w ∈ u_ws RX0 TX0 4, goodWord w = true := by decide +kernel
theorem m_inX1 : ∀ w ∈ u_ws RX1 TX1 16, w ∈ lw_tbl := by decide +kernel
theorem m_igX1 : ∀ w ∈ u_ws RX1 TX1 16, goodWord w = true := by decide +kernel
theorem m_inX2 : ∀ w ∈ u_ws RX2 TX2 5, w ∈ lw_tbl := by decide +kernel
theorem m_igX2 : ∀ w ∈ u_ws RX2 TX2 5, goodWord w = true := by decide +kernel
theorem m_inX3 : ∀ w ∈ u_ws RX3 TX3 4, w ∈ lw_tbl := by decide +kernel
theorem m_igX3 : ∀ w ∈ u_ws RX3 TX3 4, goodWord w = true := by decide +kernel
theorem m_inX4 : ∀ w ∈ u_ws RX4 TX4 8, w ∈ lw_tbl := by decide +kernel
theorem m_igX4 : ∀ w ∈ u_ws RX4 TX4 8, goodWord w = true := by decide +kernel
theorem m_inX5 : ∀ w ∈ u_ws RX5 TX5 6, w ∈ lw_tbl := by decide +kernel
theorem m_igX5 : ∀ w ∈ u_ws RX5 TX5 6, goodWord w = true := by decide +kernel
theorem m_inX6 : ∀ w ∈ u_ws RX6 TX6 34, w ∈ lw_tbl := by decide +kernel
theorem m_igX6 : ∀ w ∈ u_ws RX6 TX6 34, goodWord w = true := by decide +kernel
end
section
section MI
/-! ===== the mini machine: objects and arrays have numbers, references are numbers; the kit's rows over it ===== -/
def m_isN : Cond → Bool
  | .fieldLinkNest .. => true
  | .methodLinkNest .. => true
  | .castable .. => true
  | .declares .. => true
  | _ => false
def m_ws : List Cond := lw_tbl.filter goodWord
def m_nw : List Cond := lw_tbl.filter m_isN
theorem m_ws_in {w : Cond} (h : w ∈ lw_tbl) (g : goodWord w = true) : w ∈ m_ws := List.mem_filter.mpr ⟨h, g⟩
theorem m_nw_in {w : Cond} (h : w ∈ lw_tbl) (g : m_isN w = true) : w ∈ m_nw := List.mem_filter.mpr ⟨h, g⟩
theorem m_ws_good {w : Cond} (h : w ∈ m_ws) : goodWord w = true := (List.mem_filter.mp h).2
theorem m_nw_is {w : Cond} (h : w ∈ m_nw) : m_isN w = true := (List.mem_filter.mp h).2
theorem m_isN_on {w : Cond} (h : m_isN w = true) : w.onTables = true := by
  cases w <;> first | rfl | (simp [m_isN] at h; done)
theorem m_Nw_warm {w : Cond} (hN : m_isN w = true) {s U : State} (hW : s.WarmedH U.vm) (h : va_Nw w s) : va_Nw w U := by
  cases w <;> first
    | (simp [m_isN] at hN; done)
    | exact va_Nw.warmF hW h
    | exact va_Nw.warmM hW h
    | exact va_Nw.warmD hW h
    | exact va_tabs rfl (rfl : (s.setVm U.vm).vm = U.vm) (by rw [Cond.castable_setVm hW.alike]; exact h)
theorem m_mat : Cond.initialized "java/lang/Math" ∈ m_ws := m_ws_in m_mat0 rfl
theorem m_max1 : Cond.static Lib.Math.max.name ∈ m_ws := m_ws_in m_max10 rfl
theorem m_max2 : Cond.code Lib.Math.max.name Lib.Math.max.code 2 (some .int) ∈ m_ws := m_ws_in m_max20 rfl
theorem m_min1 : Cond.static Lib.Math.min.name ∈ m_ws := m_ws_in m_min10 rfl
theorem m_min2 : Cond.code Lib.Math.min.name Lib.Math.min.code 2 (some .int) ∈ m_ws := m_ws_in m_min20 rfl
theorem m_obj1 : Cond.instanceMethod Lib.objectInit ∈ m_ws := m_ws_in m_obj10 rfl
theorem m_obj2 : Cond.code Lib.objectInit ⟨#[0xb1]⟩ 1 none ∈ m_ws := m_ws_in m_obj20 rfl
theorem m_cl_ok : ∀ (ci : Nat) (C : String) (T : u_T) (N : Nat), m_cl[ci]? = some (C, T, N) → (∀ w ∈ u_ws C T N, w ∈ m_ws) ∧ ∃ ty0 : Nat → FieldType, (∀ k, k < N → parseFieldDescriptor (T k).2.2.1 = some (ty0 k)) ∧ ∀ a, a < N → ∀ b, b < N → a ≠ b → (T a).2.1 ≠ (T b).2.1 := by
  intro ci C T N h
  match ci, h with
  | 0, h => cases h; exact ⟨fun w hw => m_ws_in (m_inX0 w hw) (m_igX0 w hw), tyX0, tyX0_ok, nmX0⟩
  | 1, h => cases h; exact ⟨fun w hw => m_ws_in (m_inX1 w hw) (m_igX1 w hw), tyX1, tyX1_ok, nmX1⟩
  | 2, h => cases h; exact ⟨fun w hw => m_ws_in (m_inX2 w hw) (m_igX2 w hw), tyX2, tyX2_ok, nmX2⟩
  | 3, h => cases h; exact ⟨fun w hw => m_ws_in (m_inX3 w hw) (m_igX3 w hw), tyX3, tyX3_ok, nmX3⟩
  | 4, h => cases h; exact ⟨fun w hw => m_ws_in (m_inX4 w hw) (m_igX4 w hw), tyX4, tyX4_ok, nmX4⟩
  | 5, h => cases h; exact ⟨fun w hw => m_ws_in (m_inX5 w hw) (m_igX5 w hw), tyX5, tyX5_ok, nmX5⟩
  | 6, h => cases h; exact ⟨fun w hw => m_ws_in (m_inX6 w hw) (m_igX6 w hw), tyX6, tyX6_ok, nmX6⟩
  | k + 7, h => cases h
/-- what a start gives beside the good words: the nest mates' words, the texts, two statics -/
def m_Env (A : Nat → Prop) (sa : Nat → Nat) (U : State) (H : Heap) : Prop :=
  (∀ w ∈ m_nw, va_Nw w U) ∧ (∀ (k : Nat) (q : String × Nat × String), m_str[k]? = some q → vk_R q.1 q.2.1 q.2.2 (sa k) U) ∧ vx_Zq Bundle.tN "UNASSIGNED_STACK" Bundle.steD A U H ∧ vx_Zq Bundle.tN "SUPPRESSED_SENTINEL" Bundle.listD A U H
theorem m_Env_same {A : Nat → Prop} {sa : Nat → Nat} {u U : State} {H : Heap} (h : u.vm = U.vm) (hE : m_Env A sa u H) : m_Env A sa U H :=
  ⟨fun w hw => va_Nw.same (m_isN_on (m_nw_is hw)) h (hE.1 w hw), fun k q hq => vk_R.same h.symm (hE.2.1 k q hq), vx_Zq.moved (by rw [← h]; exact Vm.Alike.refl _) hE.2.2.1, vx_Zq.moved (by rw [← h]; exact Vm.Alike.refl _) hE.2.2.2⟩
/-- the callee's: warmed, another heap, fewer cells that may change -/
theorem m_Env_for {A B : Nat → Prop} {sa : Nat → Nat} {s U : State} {H : Heap} {locs : List Loc} (hE : m_Env A sa s s.heap) (hS : va_S A s.heap H locs) (hW : s.WarmedH U.vm) (hAB : ∀ q, B q → A q) : m_Env B sa U H :=
  ⟨fun w hw => m_Nw_warm (m_nw_is hw) hW (hE.1 w hw), fun k q hq => vk_R.warm hW (hE.2.1 k q hq), (vx_Zq.moved hW.alike (hE.2.2.1.kept hS.2.1)).narrow hAB, (vx_Zq.moved hW.alike (hE.2.2.2.kept hS.2.1)).narrow hAB⟩
abbrev m_E : Type := vp_A ⊕ (Nat × List Value)
abbrev m_H : Type := List m_E
abbrev m_ia (n : Nat) (f : Nat → Int32) : m_E := .inl (n, .inl f)
abbrev m_la (n : Nat) (f : Nat → Int64) : m_E := .inl (n, .inr (.inl f))
abbrev m_ob (ci : Nat) (fs : List Value) : m_E := .inr (ci, fs)
def m_v (ad : Nat → Nat) : Value → Value
  | .ref q => .ref (ad q)
  | v => v
theorem m_v_cat (ad : Nat → Nat) (v : Value) : (m_v ad v).category = v.category := by cases v <;> rfl
theorem m_v_cats (ad : Nat → Nat) (l : List Value) : ((l.map (m_v ad)).map fun v => v.category) = l.map fun v => v.category := by
  rw [List.map_map]; exact List.map_congr_left fun v _ => m_v_cat ad v
def m_kc (cI cL : ClassId) (a : vp_A) : ClassId := match a.2 with
  | .inl _ => cI
  | _ => cL
def m_c (cI cL : ClassId) (ad : Nat → Nat) : m_E → va_E
  | .inl a => .inl (m_kc cI cL a, a)
  | .inr o => .inr (o.1, o.2.map (m_v ad))
def m_w (cI cL : ClassId) (ad : Nat → Nat) (h : m_H) : va_W := h.mapIdx (fun i c => (ad i, m_c cI cL ad c))
theorem m_w_get {cI cL : ClassId} {ad : Nat → Nat} {h : m_H} (i : Nat) : (m_w cI cL ad h)[i]? = (h[i]?).map (fun c => (ad i, m_c cI cL ad c)) := by simp [m_w]
theorem m_w_at {cI cL : ClassId} {ad : Nat → Nat} {h : m_H} {i : Nat} {c : m_E} (hi : h[i]? = some c) : (m_w cI cL ad h)[i]? = some (ad i, m_c cI cL ad c) := by rw [m_w_get, hi]; rfl
theorem m_w_set {cI cL : ClassId} {ad : Nat → Nat} {h : m_H} (i : Nat) (c : m_E) : (m_w cI cL ad h).set i (ad i, m_c cI cL ad c) = m_w cI cL ad (h.set i c) := by
  apply List.ext_getElem?
  intro j
  rw [m_w_get, List.getElem?_set, List.getElem?_set, m_w_get]
  have hlen : (m_w cI cL ad h).length = h.length := by simp [m_w]
  by_cases hij : i = j
  · subst hij
    simp only [if_true, hlen]
    by_cases hl : i < h.length <;> simp [hl]
  · simp only [if_neg hij]
theorem m_w_app {cI cL : ClassId} {ad : Nat → Nat} {h : m_H} (c : m_E) : m_w cI cL ad (h ++ [c]) = m_w cI cL ad h ++ [(ad h.length, m_c cI cL ad c)] := by
  simp [m_w, List.mapIdx_append]
theorem m_w_in {cI cL : ClassId} {ad : Nat → Nat} {h : m_H} {k : Nat} {q : Nat × va_E} (hk : (m_w cI cL ad h)[k]? = some q) : ∃ c, h[k]? = some c ∧ q = (ad k, m_c cI cL ad c) := by
  rw [m_w_get] at hk
  cases hc : h[k]? with
  | none => rw [hc] at hk; cases hk
  | some c => rw [hc] at hk; exact ⟨c, rfl, (Option.some.inj hk).symm⟩
def m_tys (cI cL : ClassId) : List (ClassId × FieldType) := [(cI, .int), (cL, .long)]
/-- references stay below a number -/
def m_rv (n : Nat) : Value → Bool
  | .ref q => decide (q < n)
  | _ => true
def m_rc (n : Nat) : m_E → Bool
  | .inl _ => true
  | .inr o => o.2.all (m_rv n)
def m_rb (n : Nat) (ls : List (Nat × Value)) (st : List Value) : Bool := ls.all (fun q => m_rv n q.2) && st.all (m_rv n)
theorem m_v_same {n : Nat} {ad ad' : Nat → Nat} (hag : ∀ i, i < n → ad' i = ad i) {v : Value} (hv : m_rv n v = true) : m_v ad' v = m_v ad v := by
  cases v <;> first | rfl | (simp only [m_rv, decide_eq_true_eq] at hv; simp only [m_v]; rw [hag _ hv])
theorem m_st_same {n : Nat} {ad ad' : Nat → Nat} (hag : ∀ i, i < n → ad' i = ad i) {st : List Value} (hv : st.all (m_rv n) = true) : st.map (m_v ad') = st.map (m_v ad) :=
  List.map_congr_left fun v h => m_v_same hag (List.all_eq_true.mp hv v h)
theorem m_ls_same {n : Nat} {ad ad' : Nat → Nat} (hag : ∀ i, i < n → ad' i = ad i) {ls : List (Nat × Value)} (hv : ls.all (fun q => m_rv n q.2) = true) : ls.map (fun q => (q.1, m_v ad' q.2)) = ls.map (fun q => (q.1, m_v ad q.2)) :=
  List.map_congr_left fun q h => by rw [m_v_same hag (List.all_eq_true.mp hv q h)]
theorem m_w_same {cI cL : ClassId} {n : Nat} {ad ad' : Nat → Nat} (hag : ∀ i, i < n → ad' i = ad i) {h : m_H} (hn : h.length ≤ n) (hv : h.all (m_rc n) = true) : m_w cI cL ad' h = m_w cI cL ad h := by
  apply List.ext_getElem?
  intro j
  rw [m_w_get, m_w_get]
  cases hc : h[j]? with
  | none => rfl
  | some c =>
    have hj : j < n := Nat.lt_of_lt_of_le (List.getElem?_eq_some_iff.mp hc).1 hn
    have hrc := List.all_eq_true.mp hv c (List.mem_of_getElem? hc)
    simp only [Option.map_some, hag j hj]
    cases c with
    | inl a => rfl
    | inr o =>
      simp only [m_rc] at hrc
      simp only [m_c, m_st_same hag hrc]
def m_get (ls : List (Nat × Value)) (i : Nat) : Option Value := (ls.find? (fun q => q.1 == i)).map Prod.snd
def m_put (ls : List (Nat × Value)) (i : Nat) (v : Value) : List (Nat × Value) := (i, v) :: ls.filter (fun q => !(q.1 == i) && !(q.1 + 1 == i && q.2.category == 2))
def m_put2 (ls : List (Nat × Value)) (i : Nat) (v : Value) : List (Nat × Value) := (i, v) :: ls.filter (fun q => !(q.1 == i) && (!(q.1 == i + 1) && !(q.1 + 1 == i && q.2.category == 2)))
theorem m_get_mem {ls : List (Nat × Value)} {i : Nat} {v : Value} (h : m_get ls i = some v) : (i, v) ∈ ls := by
  unfold m_get at h
  cases hf : ls.find? (fun q => q.1 == i) with
  | none => rw [hf] at h; cases h
  | some q =>
    rw [hf] at h
    have h1 := List.find?_some hf
    have h2 := List.mem_of_find?_eq_some hf
    cases h
    have : q.1 = i := by simpa using h1
    rw [← this]; exact h2
theorem m_get_at {ls : List (Nat × Value)} {i nL : Nat} {v : Value} {ad : Nat → Nat} {lsA : Array Slot} (hL : lv_has lsA nL (ls.map (fun q => (q.1, m_v ad q.2)))) (h : m_get ls i = some v) : lsA[i]? = some (.val (m_v ad v)) :=
  hL.2.2 (i, m_v ad v) (List.mem_map.mpr ⟨(i, v), m_get_mem h, rfl⟩)
theorem m_put_map {ls : List (Nat × Value)} {i : Nat} {v : Value} {ad : Nat → Nat} : (i, m_v ad v) :: (ls.map (fun q => (q.1, m_v ad q.2))).filter (fun q => !(q.1 == i) && !(q.1 + 1 == i && q.2.category == 2)) = (m_put ls i v).map (fun q => (q.1, m_v ad q.2)) := by
  simp only [m_put, List.map_cons, List.filter_map]
  congr 2
  apply List.filter_congr
  intro q _
  simp only [Function.comp, m_v_cat]
theorem m_put2_map {ls : List (Nat × Value)} {i : Nat} {v : Value} {ad : Nat → Nat} : (i, m_v ad v) :: (ls.map (fun q => (q.1, m_v ad q.2))).filter (fun q => !(q.1 == i) && (!(q.1 == i + 1) && !(q.1 + 1 == i && q.2.category == 2))) = (m_put2 ls i v).map (fun q => (q.1, m_v ad q.2)) := by
  simp only [m_put2, List.map_cons, List.filter_map]
  congr 2
  apply List.filter_congr
  intro q _
  simp only [Function.comp, m_v_cat]
theorem m_lsl (ad : Nat → Nat) (vs : List Value) : (lg_sl (vs.map (m_v ad))).length = (lg_sl vs).length := by
  induction vs with
  | nil => rfl
  | cons v t ih =>
    simp only [lg_sl, List.map_cons, List.flatMap_cons, List.length_append] at ih ⊢
    rw [ih, m_v_cat]
    by_cases hc : v.category = 2 <;> simp [hc]
theorem m_largs (ad : Nat → Nat) (vs : List Value) : ∀ i, lv_args i (vs.map (m_v ad)) = (lv_args i vs).map (fun q => (q.1, m_v ad q.2)) := by
  induction vs with
  | nil => intro i; rfl
  | cons v t ih =>
    intro i
    simp only [List.map_cons, lv_args, m_v_cat, ih]
/-- a method's standing facts -/
def m_At (D : va_G) (cI cL : ClassId) (sa : Nat → Nat) (y : MethodName) (cc : ByteArray) (nL : Nat) (ret : Option FieldType) (A : Nat → Prop) (TB : List ExceptionTableEntry) (p : Program) (l : Launch) (s : State) (m : MethodId) (args : Array Value) (meth : Method) (c : Code) : Prop :=
  p.tables.exec = Jvm.exec ∧ c.code = cc ∧ c.maxLocals = nL ∧ meth.sig.returnType = ret ∧ meth.locks = false ∧ meth.name = y.name ∧ s.vm.findClass y.cls = some m.cls ∧ (∀ w ∈ m_ws, w.before args s = true) ∧ va_K D m_cl (m_tys cI cL) s ∧ m_Env A sa s s.heap ∧ (∀ q, s.heap.size ≤ q → A q) ∧ l.stackTraces = false ∧ c.exceptionTable.toList = TB
/-- from this point, with this mini heap, the goal is reached -/
def m_Go (D : va_G) (cI cL : ClassId) (ad0 : Nat → Nat) (n0 nL : Nat) (A : Nat → Prop) (p : Program) (l : Launch) (e : Env) (R : Room) (s : State) (m : MethodId) (args : Array Value) (below : List Frame) (meth : Method) (c : Code) (Q : State → Prop) (pc : Nat) (ls : List (Nat × Value)) (st : List Value) (h : m_H) (cu su : Nat) : Prop :=
  ∀ (ad : Nat → Nat) (H : Heap) (locs : List Loc) (lsA : Array Slot), n0 ≤ h.length → (∀ i, (i < n0 ∨ h.length ≤ i) → ad i = ad0 i) → va_P D m_cl (m_w cI cL ad h) H → va_D A (m_w cI cL ad h) → va_S A s.heap H locs → lv_has lsA nL (ls.map (fun q => (q.1, m_v ad q.2))) →
    W p l e R s m args below meth c H locs cu su Q (F0 m pc lsA (st.map (m_v ad)))
variable {D : va_G} {cI cL : ClassId} {sa : Nat → Nat} {y : MethodName} {cc : ByteArray} {nL : Nat} {ret : Option FieldType} {A : Nat → Prop} {TB : List ExceptionTableEntry} {p : Program} {l : Launch} {e : Env} {R : Room} {s : State} {m : MethodId} {args : Array Value} {below : List Frame} {meth : Method} {c : Code} {Q : State → Prop} {ad0 : Nat → Nat} {n0 pc pc0 : Nat} {ls : List (Nat × Value)} {st : List Value} {h : m_H} {cu su : Nat}
theorem m_ex (X : m_At D cI cL sa y cc nL ret A TB p l s m args meth c) : p.tables.exec = Jvm.exec := X.1
theorem m_cb (X : m_At D cI cL sa y cc nL ret A TB p l s m args meth c) : c.code = cc := X.2.1
theorem m_ml (X : m_At D cI cL sa y cc nL ret A TB p l s m args meth c) : c.maxLocals = nL := X.2.2.1
theorem m_rt (X : m_At D cI cL sa y cc nL ret A TB p l s m args meth c) : meth.sig.returnType = ret := X.2.2.2.1
theorem m_lk (X : m_At D cI cL sa y cc nL ret A TB p l s m args meth c) : meth.locks = false := X.2.2.2.2.1
theorem m_nm (X : m_At D cI cL sa y cc nL ret A TB p l s m args meth c) : meth.name = y.name := X.2.2.2.2.2.1
theorem m_ow (X : m_At D cI cL sa y cc nL ret A TB p l s m args meth c) : s.vm.findClass y.cls = some m.cls := X.2.2.2.2.2.2.1
theorem m_wd (X : m_At D cI cL sa y cc nL ret A TB p l s m args meth c) : ∀ w ∈ m_ws, w.before args s = true := X.2.2.2.2.2.2.2.1
theorem m_kn (X : m_At D cI cL sa y cc nL ret A TB p l s m args meth c) : va_K D m_cl (m_tys cI cL) s := X.2.2.2.2.2.2.2.2.1
theorem m_ev (X : m_At D cI cL sa y cc nL ret A TB p l s m args meth c) : m_Env A sa s s.heap := X.2.2.2.2.2.2.2.2.2.1
theorem m_up (X : m_At D cI cL sa y cc nL ret A TB p l s m args meth c) : ∀ q, s.heap.size ≤ q → A q := X.2.2.2.2.2.2.2.2.2.2.1
theorem m_nt (X : m_At D cI cL sa y cc nL ret A TB p l s m args meth c) : l.stackTraces = false := X.2.2.2.2.2.2.2.2.2.2.2.1
theorem m_tb (X : m_At D cI cL sa y cc nL ret A TB p l s m args meth c) : c.exceptionTable.toList = TB := X.2.2.2.2.2.2.2.2.2.2.2.2
theorem m_iload {i : Nat} {x : Int32} (X : m_At D cI cL sa y cc nL ret A TB p l s m args meth c) (hd : decode cc pc0 = .ok (.iload i, 2)) (hl : m_get ls i = some (.int x)) (hp : pc = pc0) (kk : m_Go D cI cL ad0 n0 nL A p l e R s m args below meth c Q (pc0 + 2) ls (.int x :: st) h cu su) : m_Go D cI cL ad0 n0 nL A p l e R s m args below meth c Q pc ls (st) h cu su := by
  subst hp
  intro ad H locs lsA hn hag hP hD hS hL
  exact lv_iload (m_ex X) (m_cb X) hd (m_get_at hL hl) (kk ad H locs lsA hn hag hP hD hS hL)
theorem m_iload_n {k : Fin 4} {x : Int32} (X : m_At D cI cL sa y cc nL ret A TB p l s m args meth c) (hd : decode cc pc0 = .ok (.iload_n k, 1)) (hl : m_get ls (k : Nat) = some (.int x)) (hp : pc = pc0) (kk : m_Go D cI cL ad0 n0 nL A p l e R s m args below meth c Q (pc0 + 1) ls (.int x :: st) h cu su) : m_Go D cI cL ad0 n0 nL A p l e R s m args below meth c Q pc ls (st) h cu su := by
  subst hp
  intro ad H locs lsA hn hag hP hD hS hL
  exact lv_iload_n (m_ex X) (m_cb X) hd rfl (m_get_at hL hl) (kk ad H locs lsA hn hag hP hD hS hL)
theorem m_lload {i : Nat} {x : Int64} (X : m_At D cI cL sa y cc nL ret A TB p l s m args meth c) (hd : decode cc pc0 = .ok (.lload i, 2)) (hl : m_get ls i = some (.long x)) (hp : pc = pc0) (kk : m_Go D cI cL ad0 n0 nL A p l e R s m args below meth c Q (pc0 + 2) ls (.long x :: st) h cu su) : m_Go D cI cL ad0 n0 nL A p l e R s m args below meth c Q pc ls (st) h cu su := by
  subst hp
  intro ad H locs lsA hn hag hP hD hS hL
  exact lv_lload (m_ex X) (m_cb X) hd (m_get_at hL hl) (kk ad H locs lsA hn hag hP hD hS hL)
theorem m_lload_n {k : Fin 4} {x : Int64} (X : m_At D cI cL sa y cc nL ret A TB p l s m args meth c) (hd : decode cc pc0 = .ok (.lload_n k, 1)) (hl : m_get ls (k : Nat) = some (.long x)) (hp : pc = pc0) (kk : m_Go D cI cL ad0 n0 nL A p l e R s m args below meth c Q (pc0 + 1) ls (.long x :: st) h cu su) : m_Go D cI cL ad0 n0 nL A p l e R s m args below meth c Q pc ls (st) h cu su := by
  subst hp
  intro ad H locs lsA hn hag hP hD hS hL
  exact lv_lload_n (m_ex X) (m_cb X) hd rfl (m_get_at hL hl) (kk ad H locs lsA hn hag hP hD hS hL)
theorem m_aload {i x : Nat} (X : m_At D cI cL sa y cc nL ret A TB p l s m args meth c) (hd : decode cc pc0 = .ok (.aload i, 2)) (hl : m_get ls i = some (.ref x)) (hp : pc = pc0) (kk : m_Go D cI cL ad0 n0 nL A p l e R s m args below meth c Q (pc0 + 2) ls (.ref x :: st) h cu su) : m_Go D cI cL ad0 n0 nL A p l e R s m args below meth c Q pc ls (st) h cu su := by
  subst hp
  intro ad H locs lsA hn hag hP hD hS hL
  exact lv_aload (m_ex X) (m_cb X) hd (m_get_at hL hl) (kk ad H locs lsA hn hag hP hD hS hL)
theorem m_aload_n {k : Fin 4} {x : Nat} (X : m_At D cI cL sa y cc nL ret A TB p l s m args meth c) (hd : decode cc pc0 = .ok (.aload_n k, 1)) (hl : m_get ls (k : Nat) = some (.ref x)) (hp : pc = pc0) (kk : m_Go D cI cL ad0 n0 nL A p l e R s m args below meth c Q (pc0 + 1) ls (.ref x :: st) h cu su) : m_Go D cI cL ad0 n0 nL A p l e R s m args below meth c Q pc ls (st) h cu su := by
  subst hp
  intro ad H locs lsA hn hag hP hD hS hL
  exact lv_aload_n (m_ex X) (m_cb X) hd rfl (m_get_at hL hl) (kk ad H locs lsA hn hag hP hD hS hL)
theorem m_iconst {n : Int} {v : Int32} (X : m_At D cI cL sa y cc nL ret A TB p l s m args meth c) (hd : decode cc pc0 = .ok (.iconst n, 1)) (hv : Int32.ofInt n = v) (hp : pc = pc0) (kk : m_Go D cI cL ad0 n0 nL A p l e R s m args below meth c Q (pc0 + 1) ls (.int v :: st) h cu su) : m_Go D cI cL ad0 n0 nL A p l e R s m args below meth c Q pc ls (st) h cu su := by
  subst hp
  intro ad H locs lsA hn hag hP hD hS hL
  exact lv_iconst (m_ex X) (m_cb X) hd hv (kk ad H locs lsA hn hag hP hD hS hL)
theorem m_bipush {n : Int} {v : Int32} (X : m_At D cI cL sa y cc nL ret A TB p l s m args meth c) (hd : decode cc pc0 = .ok (.bipush n, 2)) (hv : (Int8.ofInt n).toInt32 = v) (hp : pc = pc0) (kk : m_Go D cI cL ad0 n0 nL A p l e R s m args below meth c Q (pc0 + 2) ls (.int v :: st) h cu su) : m_Go D cI cL ad0 n0 nL A p l e R s m args below meth c Q pc ls (st) h cu su := by
  subst hp
  intro ad H locs lsA hn hag hP hD hS hL
  exact lv_bipush (m_ex X) (m_cb X) hd hv (kk ad H locs lsA hn hag hP hD hS hL)
theorem m_sipush {n : Int} {v : Int32} (X : m_At D cI cL sa y cc nL ret A TB p l s m args meth c) (hd : decode cc pc0 = .ok (.sipush n, 3)) (hv : (Int16.ofInt n).toInt32 = v) (hp : pc = pc0) (kk : m_Go D cI cL ad0 n0 nL A p l e R s m args below meth c Q (pc0 + 3) ls (.int v :: st) h cu su) : m_Go D cI cL ad0 n0 nL A p l e R s m args below meth c Q pc ls (st) h cu su := by
  subst hp
  intro ad H locs lsA hn hag hP hD hS hL
  exact lv_sipush (m_ex X) (m_cb X) hd hv (kk ad H locs lsA hn hag hP hD hS hL)
theorem m_lconst {n : Fin 2} {v : Int64} (X : m_At D cI cL sa y cc nL ret A TB p l s m args meth c) (hd : decode cc pc0 = .ok (.lconst n, 1)) (hv : Int64.ofNat (n : Nat) = v) (hp : pc = pc0) (kk : m_Go D cI cL ad0 n0 nL A p l e R s m args below meth c Q (pc0 + 1) ls (.long v :: st) h cu su) : m_Go D cI cL ad0 n0 nL A p l e R s m args below meth c Q pc ls (st) h cu su := by
  subst hp
  intro ad H locs lsA hn hag hP hD hS hL
  exact lv_lconst (m_ex X) (m_cb X) hd hv (kk ad H locs lsA hn hag hP hD hS hL)
theorem m_ldc {k : Nat} {v : Int32} (X : m_At D cI cL sa y cc nL ret A TB p l s m args meth c) (hd : decode cc pc0 = .ok (.ldc k, 2)) (hw : Cond.constant y.cls k v ∈ m_ws) (hp : pc = pc0) (kk : m_Go D cI cL ad0 n0 nL A p l e R s m args below meth c Q (pc0 + 2) ls (.int v :: st) h cu su) : m_Go D cI cL ad0 n0 nL A p l e R s m args below meth c Q pc ls st h cu su := by
  subst hp
  intro ad H locs lsA hn hag hP hD hS hL
  exact lv_ldc (m_ex X) (m_cb X) (m_ow X) (m_wd X _ hw) hd (kk ad H locs lsA hn hag hP hD hS hL)
theorem m_ldc2 {k : Nat} {v : Int64} (X : m_At D cI cL sa y cc nL ret A TB p l s m args meth c) (hd : decode cc pc0 = .ok (.ldc2_w k, 3)) (hw : Cond.constantLong y.cls k v ∈ m_ws) (hp : pc = pc0) (kk : m_Go D cI cL ad0 n0 nL A p l e R s m args below meth c Q (pc0 + 3) ls (.long v :: st) h cu su) : m_Go D cI cL ad0 n0 nL A p l e R s m args below meth c Q pc ls st h cu su := by
  subst hp
  intro ad H locs lsA hn hag hP hD hS hL
  exact lv_ldc2 (m_ex X) (m_cb X) (m_ow X) (m_wd X _ hw) hd (kk ad H locs lsA hn hag hP hD hS hL)
theorem m_iadd {x z : Int32} (X : m_At D cI cL sa y cc nL ret A TB p l s m args meth c) (hd : decode cc pc0 = .ok (.iadd, 1))  (hp : pc = pc0) (kk : m_Go D cI cL ad0 n0 nL A p l e R s m args below meth c Q (pc0 + 1) ls (.int (x + z) :: st) h cu su) : m_Go D cI cL ad0 n0 nL A p l e R s m args below meth c Q pc ls (.int z :: .int x :: st) h cu su := by
  subst hp
  intro ad H locs lsA hn hag hP hD hS hL
  exact lv_iadd (m_ex X) (m_cb X) hd  (kk ad H locs lsA hn hag hP hD hS hL)
theorem m_isub {x z : Int32} (X : m_At D cI cL sa y cc nL ret A TB p l s m args meth c) (hd : decode cc pc0 = .ok (.isub, 1))  (hp : pc = pc0) (kk : m_Go D cI cL ad0 n0 nL A p l e R s m args below meth c Q (pc0 + 1) ls (.int (x - z) :: st) h cu su) : m_Go D cI cL ad0 n0 nL A p l e R s m args below meth c Q pc ls (.int z :: .int x :: st) h cu su := by
  subst hp
  intro ad H locs lsA hn hag hP hD hS hL
  exact lv_isub (m_ex X) (m_cb X) hd  (kk ad H locs lsA hn hag hP hD hS hL)
theorem m_imul {x z : Int32} (X : m_At D cI cL sa y cc nL ret A TB p l s m args meth c) (hd : decode cc pc0 = .ok (.imul, 1))  (hp : pc = pc0) (kk : m_Go D cI cL ad0 n0 nL A p l e R s m args below meth c Q (pc0 + 1) ls (.int (x * z) :: st) h cu su) : m_Go D cI cL ad0 n0 nL A p l e R s m args below meth c Q pc ls (.int z :: .int x :: st) h cu su := by
  subst hp
  intro ad H locs lsA hn hag hP hD hS hL
  exact lv_imul (m_ex X) (m_cb X) hd  (kk ad H locs lsA hn hag hP hD hS hL)
theorem m_iand {x z : Int32} (X : m_At D cI cL sa y cc nL ret A TB p l s m args meth c) (hd : decode cc pc0 = .ok (.iand, 1))  (hp : pc = pc0) (kk : m_Go D cI cL ad0 n0 nL A p l e R s m args below meth c Q (pc0 + 1) ls (.int (x &&& z) :: st) h cu su) : m_Go D cI cL ad0 n0 nL A p l e R s m args below meth c Q pc ls (.int z :: .int x :: st) h cu su := by
  subst hp
  intro ad H locs lsA hn hag hP hD hS hL
  exact lv_iand (m_ex X) (m_cb X) hd  (kk ad H locs lsA hn hag hP hD hS hL)
theorem m_ixor {x z : Int32} (X : m_At D cI cL sa y cc nL ret A TB p l s m args meth c) (hd : decode cc pc0 = .ok (.ixor, 1))  (hp : pc = pc0) (kk : m_Go D cI cL ad0 n0 nL A p l e R s m args below meth c Q (pc0 + 1) ls (.int (x ^^^ z) :: st) h cu su) : m_Go D cI cL ad0 n0 nL A p l e R s m args below meth c Q pc ls (.int z :: .int x :: st) h cu su := by
  subst hp
  intro ad H locs lsA hn hag hP hD hS hL
  exact lv_ixor (m_ex X) (m_cb X) hd  (kk ad H locs lsA hn hag hP hD hS hL)
theorem m_idiv {x z : Int32} (X : m_At D cI cL sa y cc nL ret A TB p l s m args meth c) (hd : decode cc pc0 = .ok (.idiv, 1)) (hz : ¬ z = 0) (hp : pc = pc0) (kk : m_Go D cI cL ad0 n0 nL A p l e R s m args below meth c Q (pc0 + 1) ls (.int (x / z) :: st) h cu su) : m_Go D cI cL ad0 n0 nL A p l e R s m args below meth c Q pc ls (.int z :: .int x :: st) h cu su := by
  subst hp
  intro ad H locs lsA hn hag hP hD hS hL
  exact lv_idiv (m_ex X) (m_cb X) hd hz (kk ad H locs lsA hn hag hP hD hS hL)
theorem m_irem {x z : Int32} (X : m_At D cI cL sa y cc nL ret A TB p l s m args meth c) (hd : decode cc pc0 = .ok (.irem, 1)) (hz : ¬ z = 0) (hp : pc = pc0) (kk : m_Go D cI cL ad0 n0 nL A p l e R s m args below meth c Q (pc0 + 1) ls (.int (x - x / z * z) :: st) h cu su) : m_Go D cI cL ad0 n0 nL A p l e R s m args below meth c Q pc ls (.int z :: .int x :: st) h cu su := by
  subst hp
  intro ad H locs lsA hn hag hP hD hS hL
  exact lv_irem (m_ex X) (m_cb X) hd hz (kk ad H locs lsA hn hag hP hD hS hL)
theorem m_ineg {x : Int32} (X : m_At D cI cL sa y cc nL ret A TB p l s m args meth c) (hd : decode cc pc0 = .ok (.ineg, 1))  (hp : pc = pc0) (kk : m_Go D cI cL ad0 n0 nL A p l e R s m args below meth c Q (pc0 + 1) ls (.int (-x) :: st) h cu su) : m_Go D cI cL ad0 n0 nL A p l e R s m args below meth c Q pc ls (.int x :: st) h cu su := by
  subst hp
  intro ad H locs lsA hn hag hP hD hS hL
  exact lv_ineg (m_ex X) (m_cb X) hd  (kk ad H locs lsA hn hag hP hD hS hL)
theorem m_ladd {x z : Int64} (X : m_At D cI cL sa y cc nL ret A TB p l s m args meth c) (hd : decode cc pc0 = .ok (.ladd, 1))  (hp : pc = pc0) (kk : m_Go D cI cL ad0 n0 nL A p l e R s m args below meth c Q (pc0 + 1) ls (.long (x + z) :: st) h cu su) : m_Go D cI cL ad0 n0 nL A p l e R s m args below meth c Q pc ls (.long z :: .long x :: st) h cu su := by
  subst hp
  intro ad H locs lsA hn hag hP hD hS hL
  exact lv_ladd (m_ex X) (m_cb X) hd  (kk ad H locs lsA hn hag hP hD hS hL)
theorem m_lmul {x z : Int64} (X : m_At D cI cL sa y cc nL ret A TB p l s m args meth c) (hd : decode cc pc0 = .ok (.lmul, 1))  (hp : pc = pc0) (kk : m_Go D cI cL ad0 n0 nL A p l e R s m args below meth c Q (pc0 + 1) ls (.long (x * z) :: st) h cu su) : m_Go D cI cL ad0 n0 nL A p l e R s m args below meth c Q pc ls (.long z :: .long x :: st) h cu su := by
  subst hp
  intro ad H locs lsA hn hag hP hD hS hL
  exact lv_lmul (m_ex X) (m_cb X) hd  (kk ad H locs lsA hn hag hP hD hS hL)
theorem m_ldiv {x z : Int64} (X : m_At D cI cL sa y cc nL ret A TB p l s m args meth c) (hd : decode cc pc0 = .ok (.ldiv, 1)) (hz : ¬ z = 0) (hp : pc = pc0) (kk : m_Go D cI cL ad0 n0 nL A p l e R s m args below meth c Q (pc0 + 1) ls (.long (x / z) :: st) h cu su) : m_Go D cI cL ad0 n0 nL A p l e R s m args below meth c Q pc ls (.long z :: .long x :: st) h cu su := by
  subst hp
  intro ad H locs lsA hn hag hP hD hS hL
  exact lv_ldiv (m_ex X) (m_cb X) hd hz (kk ad H locs lsA hn hag hP hD hS hL)
theorem m_i2l {x : Int32} (X : m_At D cI cL sa y cc nL ret A TB p l s m args meth c) (hd : decode cc pc0 = .ok (.i2l, 1))  (hp : pc = pc0) (kk : m_Go D cI cL ad0 n0 nL A p l e R s m args below meth c Q (pc0 + 1) ls (.long x.toInt64 :: st) h cu su) : m_Go D cI cL ad0 n0 nL A p l e R s m args below meth c Q pc ls (.int x :: st) h cu su := by
  subst hp
  intro ad H locs lsA hn hag hP hD hS hL
  exact lv_i2l (m_ex X) (m_cb X) hd rfl (kk ad H locs lsA hn hag hP hD hS hL)
theorem m_lcmp {x z : Int64} (X : m_At D cI cL sa y cc nL ret A TB p l s m args meth c) (hd : decode cc pc0 = .ok (.lcmp, 1)) (hp : pc = pc0) (kk : m_Go D cI cL ad0 n0 nL A p l e R s m args below meth c Q (pc0 + 1) ls (.int (lg_cmp x z) :: st) h cu su) : m_Go D cI cL ad0 n0 nL A p l e R s m args below meth c Q pc ls (.long z :: .long x :: st) h cu su := by
  subst hp
  intro ad H locs lsA hn hag hP hD hS hL
  exact W.lcmp (m_ex X) (m_cb X) hd (kk ad H locs lsA hn hag hP hD hS hL)
theorem m_dup {v : Value} (X : m_At D cI cL sa y cc nL ret A TB p l s m args meth c) (hd : decode cc pc0 = .ok (.dup, 1)) (hv : v.category = 1) (hp : pc = pc0) (kk : m_Go D cI cL ad0 n0 nL A p l e R s m args below meth c Q (pc0 + 1) ls (v :: v :: st) h cu su) : m_Go D cI cL ad0 n0 nL A p l e R s m args below meth c Q pc ls (v :: st) h cu su := by
  subst hp
  intro ad H locs lsA hn hag hP hD hS hL
  exact lv_dup (m_ex X) (m_cb X) hd ((m_v_cat ad v).trans hv) (kk ad H locs lsA hn hag hP hD hS hL)
theorem m_pop {v : Value} (X : m_At D cI cL sa y cc nL ret A TB p l s m args meth c) (hd : decode cc pc0 = .ok (.pop, 1)) (hv : v.category = 1) (hp : pc = pc0) (kk : m_Go D cI cL ad0 n0 nL A p l e R s m args below meth c Q (pc0 + 1) ls (st) h cu su) : m_Go D cI cL ad0 n0 nL A p l e R s m args below meth c Q pc ls (v :: st) h cu su := by
  subst hp
  intro ad H locs lsA hn hag hP hD hS hL
  exact lv_pop (m_ex X) (m_cb X) hd ((m_v_cat ad v).trans hv) (kk ad H locs lsA hn hag hP hD hS hL)
theorem m_dup2 {v u : Value} (X : m_At D cI cL sa y cc nL ret A TB p l s m args meth c) (hd : decode cc pc0 = .ok (.dup2, 1)) (hv : v.category = 1) (hu : u.category = 1) (hp : pc = pc0) (kk : m_Go D cI cL ad0 n0 nL A p l e R s m args below meth c Q (pc0 + 1) ls (v :: u :: v :: u :: st) h cu su) : m_Go D cI cL ad0 n0 nL A p l e R s m args below meth c Q pc ls (v :: u :: st) h cu su := by
  subst hp
  intro ad H locs lsA hn hag hP hD hS hL
  exact lv_dup2_11 (m_ex X) (m_cb X) hd ((m_v_cat ad v).trans hv) ((m_v_cat ad u).trans hu) (kk ad H locs lsA hn hag hP hD hS hL)
theorem m_istore {i : Nat} {x : Int32} (X : m_At D cI cL sa y cc nL ret A TB p l s m args meth c) (hd : decode cc pc0 = .ok (.istore i, 2)) (hi : i < nL) (hp : pc = pc0) (kk : m_Go D cI cL ad0 n0 nL A p l e R s m args below meth c Q (pc0 + 2) (m_put ls i (.int x)) st h cu su) : m_Go D cI cL ad0 n0 nL A p l e R s m args below meth c Q pc ls (.int x :: st) h cu su := by
  subst hp
  intro ad H locs lsA hn hag hP hD hS hL
  exact lv_istore (m_ex X) (m_cb X) hd  hL hi (m_put_map (v := .int x)) (fun ls' hL' => kk ad H locs ls' hn hag hP hD hS hL')
theorem m_istore_n {k : Fin 4} {x : Int32} (X : m_At D cI cL sa y cc nL ret A TB p l s m args meth c) (hd : decode cc pc0 = .ok (.istore_n k, 1)) (hi : (k : Nat) < nL) (hp : pc = pc0) (kk : m_Go D cI cL ad0 n0 nL A p l e R s m args below meth c Q (pc0 + 1) (m_put ls (k : Nat) (.int x)) st h cu su) : m_Go D cI cL ad0 n0 nL A p l e R s m args below meth c Q pc ls (.int x :: st) h cu su := by
  subst hp
  intro ad H locs lsA hn hag hP hD hS hL
  exact lv_istore_n (m_ex X) (m_cb X) hd rfl hL hi (m_put_map (v := .int x)) (fun ls' hL' => kk ad H locs ls' hn hag hP hD hS hL')
theorem m_lstore {i : Nat} {x : Int64} (X : m_At D cI cL sa y cc nL ret A TB p l s m args meth c) (hd : decode cc pc0 = .ok (.lstore i, 2)) (hi : i + 1 < nL) (hp : pc = pc0) (kk : m_Go D cI cL ad0 n0 nL A p l e R s m args below meth c Q (pc0 + 2) (m_put2 ls i (.long x)) st h cu su) : m_Go D cI cL ad0 n0 nL A p l e R s m args below meth c Q pc ls (.long x :: st) h cu su := by
  subst hp
  intro ad H locs lsA hn hag hP hD hS hL
  exact lv_lstore (m_ex X) (m_cb X) hd  hL hi (m_put2_map (v := .long x)) (fun ls' hL' => kk ad H locs ls' hn hag hP hD hS hL')
theorem m_lstore_n {k : Fin 4} {x : Int64} (X : m_At D cI cL sa y cc nL ret A TB p l s m args meth c) (hd : decode cc pc0 = .ok (.lstore_n k, 1)) (hi : (k : Nat) + 1 < nL) (hp : pc = pc0) (kk : m_Go D cI cL ad0 n0 nL A p l e R s m args below meth c Q (pc0 + 1) (m_put2 ls (k : Nat) (.long x)) st h cu su) : m_Go D cI cL ad0 n0 nL A p l e R s m args below meth c Q pc ls (.long x :: st) h cu su := by
  subst hp
  intro ad H locs lsA hn hag hP hD hS hL
  exact lv_lstore_n (m_ex X) (m_cb X) hd rfl hL hi (m_put2_map (v := .long x)) (fun ls' hL' => kk ad H locs ls' hn hag hP hD hS hL')
theorem m_astore {i x : Nat} (X : m_At D cI cL sa y cc nL ret A TB p l s m args meth c) (hd : decode cc pc0 = .ok (.astore i, 2)) (hi : i < nL) (hp : pc = pc0) (kk : m_Go D cI cL ad0 n0 nL A p l e R s m args below meth c Q (pc0 + 2) (m_put ls i (.ref x)) st h cu su) : m_Go D cI cL ad0 n0 nL A p l e R s m args below meth c Q pc ls (.ref x :: st) h cu su := by
  subst hp
  intro ad H locs lsA hn hag hP hD hS hL
  exact lv_astore (m_ex X) (m_cb X) hd  hL hi (m_put_map (v := .ref x)) (fun ls' hL' => kk ad H locs ls' hn hag hP hD hS hL')
theorem m_astore_n {k : Fin 4} {x : Nat} (X : m_At D cI cL sa y cc nL ret A TB p l s m args meth c) (hd : decode cc pc0 = .ok (.astore_n k, 1)) (hi : (k : Nat) < nL) (hp : pc = pc0) (kk : m_Go D cI cL ad0 n0 nL A p l e R s m args below meth c Q (pc0 + 1) (m_put ls (k : Nat) (.ref x)) st h cu su) : m_Go D cI cL ad0 n0 nL A p l e R s m args below meth c Q pc ls (.ref x :: st) h cu su := by
  subst hp
  intro ad H locs lsA hn hag hP hD hS hL
  exact lv_astore_n (m_ex X) (m_cb X) hd rfl hL hi (m_put_map (v := .ref x)) (fun ls' hL' => kk ad H locs ls' hn hag hP hD hS hL')
theorem m_iinc {i : Nat} {n : Int} {x : Int32} (X : m_At D cI cL sa y cc nL ret A TB p l s m args meth c) (hd : decode cc pc0 = .ok (.iinc i n, 3)) (hl : m_get ls i = some (.int x)) (hi : i < nL) (hp : pc = pc0) (kk : m_Go D cI cL ad0 n0 nL A p l e R s m args below meth c Q (pc0 + 3) (m_put ls i (.int (x + Int32.ofInt n))) st h cu su) : m_Go D cI cL ad0 n0 nL A p l e R s m args below meth c Q pc ls st h cu su := by
  subst hp
  intro ad H locs lsA hn hag hP hD hS hL
  have hm : (i, m_v ad (.int x)) ∈ ls.map (fun q => (q.1, m_v ad q.2)) := List.mem_map.mpr ⟨(i, .int x), m_get_mem hl, rfl⟩
  obtain ⟨k, hk⟩ := List.mem_iff_getElem?.mp hm
  exact lv_iinc (m_ex X) (m_cb X) hd hL (k := k) hk rfl hi (m_put_map (v := .int (x + Int32.ofInt n))) (fun ls' hL' => kk ad H locs ls' hn hag hP hD hS hL')
theorem m_if_eq {x : Int32} {off : Int} {tgt : Nat} (X : m_At D cI cL sa y cc nL ret A TB p l s m args meth c) (hd : decode cc pc0 = .ok (.ifCond .eq off, 3)) (ht : (pc0 : Int) + off = (tgt : Int)) (hp : pc = pc0) (kt : x = 0 → m_Go D cI cL ad0 n0 nL A p l e R s m args below meth c Q tgt ls st h cu su) (kf : ¬ x = 0 → m_Go D cI cL ad0 n0 nL A p l e R s m args below meth c Q (pc0 + 3) ls st h cu su) : m_Go D cI cL ad0 n0 nL A p l e R s m args below meth c Q pc ls (.int x :: st) h cu su := by
  subst hp
  intro ad H locs lsA hn hag hP hD hS hL
  exact lv_if_eq (m_ex X) (m_cb X) hd ht (fun q => kt q ad H locs lsA hn hag hP hD hS hL) (fun q => kf q ad H locs lsA hn hag hP hD hS hL)
theorem m_icmp_eq {x z : Int32} {off : Int} {tgt : Nat} (X : m_At D cI cL sa y cc nL ret A TB p l s m args meth c) (hd : decode cc pc0 = .ok (.if_icmp .eq off, 3)) (ht : (pc0 : Int) + off = (tgt : Int)) (hp : pc = pc0) (kt : x = z → m_Go D cI cL ad0 n0 nL A p l e R s m args below meth c Q tgt ls st h cu su) (kf : ¬ x = z → m_Go D cI cL ad0 n0 nL A p l e R s m args below meth c Q (pc0 + 3) ls st h cu su) : m_Go D cI cL ad0 n0 nL A p l e R s m args below meth c Q pc ls (.int z :: .int x :: st) h cu su := by
  subst hp
  intro ad H locs lsA hn hag hP hD hS hL
  exact lv_icmp_eq (m_ex X) (m_cb X) hd ht (fun q => kt q ad H locs lsA hn hag hP hD hS hL) (fun q => kf q ad H locs lsA hn hag hP hD hS hL)
theorem m_if_ne {x : Int32} {off : Int} {tgt : Nat} (X : m_At D cI cL sa y cc nL ret A TB p l s m args meth c) (hd : decode cc pc0 = .ok (.ifCond .ne off, 3)) (ht : (pc0 : Int) + off = (tgt : Int)) (hp : pc = pc0) (kt : ¬ x = 0 → m_Go D cI cL ad0 n0 nL A p l e R s m args below meth c Q tgt ls st h cu su) (kf : x = 0 → m_Go D cI cL ad0 n0 nL A p l e R s m args below meth c Q (pc0 + 3) ls st h cu su) : m_Go D cI cL ad0 n0 nL A p l e R s m args below meth c Q pc ls (.int x :: st) h cu su := by
  subst hp
  intro ad H locs lsA hn hag hP hD hS hL
  exact lv_if_ne (m_ex X) (m_cb X) hd ht (fun q => kt q ad H locs lsA hn hag hP hD hS hL) (fun q => kf q ad H locs lsA hn hag hP hD hS hL)
theorem m_icmp_ne {x z : Int32} {off : Int} {tgt : Nat} (X : m_At D cI cL sa y cc nL ret A TB p l s m args meth c) (hd : decode cc pc0 = .ok (.if_icmp .ne off, 3)) (ht : (pc0 : Int) + off = (tgt : Int)) (hp : pc = pc0) (kt : ¬ x = z → m_Go D cI cL ad0 n0 nL A p l e R s m args below meth c Q tgt ls st h cu su) (kf : x = z → m_Go D cI cL ad0 n0 nL A p l e R s m args below meth c Q (pc0 + 3) ls st h cu su) : m_Go D cI cL ad0 n0 nL A p l e R s m args below meth c Q pc ls (.int z :: .int x :: st) h cu su := by
  subst hp
  intro ad H locs lsA hn hag hP hD hS hL
  exact lv_icmp_ne (m_ex X) (m_cb X) hd ht (fun q => kt q ad H locs lsA hn hag hP hD hS hL) (fun q => kf q ad H locs lsA hn hag hP hD hS hL)
theorem m_if_lt {x : Int32} {off : Int} {tgt : Nat} (X : m_At D cI cL sa y cc nL ret A TB p l s m args meth c) (hd : decode cc pc0 = .ok (.ifCond .lt off, 3)) (ht : (pc0 : Int) + off = (tgt : Int)) (hp : pc = pc0) (kt : x < 0 → m_Go D cI cL ad0 n0 nL A p l e R s m args below meth c Q tgt ls st h cu su) (kf : ¬ x < 0 → m_Go D cI cL ad0 n0 nL A p l e R s m args below meth c Q (pc0 + 3) ls st h cu su) : m_Go D cI cL ad0 n0 nL A p l e R s m args below meth c Q pc ls (.int x :: st) h cu su := by
  subst hp
  intro ad H locs lsA hn hag hP hD hS hL
  exact lv_if_lt (m_ex X) (m_cb X) hd ht (fun q => kt q ad H locs lsA hn hag hP hD hS hL) (fun q => kf q ad H locs lsA hn hag hP hD hS hL)
theorem m_icmp_lt {x z : Int32} {off : Int} {tgt : Nat} (X : m_At D cI cL sa y cc nL ret A TB p l s m args meth c) (hd : decode cc pc0 = .ok (.if_icmp .lt off, 3)) (ht : (pc0 : Int) + off = (tgt : Int)) (hp : pc = pc0) (kt : x < z → m_Go D cI cL ad0 n0 nL A p l e R s m args below meth c Q tgt ls st h cu su) (kf : ¬ x < z → m_Go D cI cL ad0 n0 nL A p l e R s m args below meth c Q (pc0 + 3) ls st h cu su) : m_Go D cI cL ad0 n0 nL A p l e R s m args below meth c Q pc ls (.int z :: .int x :: st) h cu su := by
  subst hp
  intro ad H locs lsA hn hag hP hD hS hL
  exact lv_icmp_lt (m_ex X) (m_cb X) hd ht (fun q => kt q ad H locs lsA hn hag hP hD hS hL) (fun q => kf q ad H locs lsA hn hag hP hD hS hL)
theorem m_if_ge {x : Int32} {off : Int} {tgt : Nat} (X : m_At D cI cL sa y cc nL ret A TB p l s m args meth c) (hd : decode cc pc0 = .ok (.ifCond .ge off, 3)) (ht : (pc0 : Int) + off = (tgt : Int)) (hp : pc = pc0) (kt : 0 ≤ x → m_Go D cI cL ad0 n0 nL A p l e R s m args below meth c Q tgt ls st h cu su) (kf : ¬ 0 ≤ x → m_Go D cI cL ad0 n0 nL A p l e R s m args below meth c Q (pc0 + 3) ls st h cu su) : m_Go D cI cL ad0 n0 nL A p l e R s m args below meth c Q pc ls (.int x :: st) h cu su := by
  subst hp
  intro ad H locs lsA hn hag hP hD hS hL
  exact lv_if_ge (m_ex X) (m_cb X) hd ht (fun q => kt q ad H locs lsA hn hag hP hD hS hL) (fun q => kf q ad H locs lsA hn hag hP hD hS hL)
theorem m_icmp_ge {x z : Int32} {off : Int} {tgt : Nat} (X : m_At D cI cL sa y cc nL ret A TB p l s m args meth c) (hd : decode cc pc0 = .ok (.if_icmp .ge off, 3)) (ht : (pc0 : Int) + off = (tgt : Int)) (hp : pc = pc0) (kt : z ≤ x → m_Go D cI cL ad0 n0 nL A p l e R s m args below meth c Q tgt ls st h cu su) (kf : ¬ z ≤ x → m_Go D cI cL ad0 n0 nL A p l e R s m args below meth c Q (pc0 + 3) ls st h cu su) : m_Go D cI cL ad0 n0 nL A p l e R s m args below meth c Q pc ls (.int z :: .int x :: st) h cu su := by
  subst hp
  intro ad H locs lsA hn hag hP hD hS hL
  exact lv_icmp_ge (m_ex X) (m_cb X) hd ht (fun q => kt q ad H locs lsA hn hag hP hD hS hL) (fun q => kf q ad H locs lsA hn hag hP hD hS hL)
theorem m_if_gt {x : Int32} {off : Int} {tgt : Nat} (X : m_At D cI cL sa y cc nL ret A TB p l s m args meth c) (hd : decode cc pc0 = .ok (.ifCond .gt off, 3)) (ht : (pc0 : Int) + off = (tgt : Int)) (hp : pc = pc0) (kt : 0 < x → m_Go D cI cL ad0 n0 nL A p l e R s m args below meth c Q tgt ls st h cu su) (kf : ¬ 0 < x → m_Go D cI cL ad0 n0 nL A p l e R s m args below meth c Q (pc0 + 3) ls st h cu su) : m_Go D cI cL ad0 n0 nL A p l e R s m args below meth c Q pc ls (.int x :: st) h cu su := by
  subst hp
  intro ad H locs lsA hn hag hP hD hS hL
  exact lv_if_gt (m_ex X) (m_cb X) hd ht (fun q => kt q ad H locs lsA hn hag hP hD hS hL) (fun q => kf q ad H locs lsA hn hag hP hD hS hL)
theorem m_icmp_gt {x z : Int32} {off : Int} {tgt : Nat} (X : m_At D cI cL sa y cc nL ret A TB p l s m args meth c) (hd : decode cc pc0 = .ok (.if_icmp .gt off, 3)) (ht : (pc0 : Int) + off = (tgt : Int)) (hp : pc = pc0) (kt : z < x → m_Go D cI cL ad0 n0 nL A p l e R s m args below meth c Q tgt ls st h cu su) (kf : ¬ z < x → m_Go D cI cL ad0 n0 nL A p l e R s m args below meth c Q (pc0 + 3) ls st h cu su) : m_Go D cI cL ad0 n0 nL A p l e R s m args below meth c Q pc ls (.int z :: .int x :: st) h cu su := by
  subst hp
  intro ad H locs lsA hn hag hP hD hS hL
  exact lv_icmp_gt (m_ex X) (m_cb X) hd ht (fun q => kt q ad H locs lsA hn hag hP hD hS hL) (fun q => kf q ad H locs lsA hn hag hP hD hS hL)
theorem m_if_le {x : Int32} {off : Int} {tgt : Nat} (X : m_At D cI cL sa y cc nL ret A TB p l s m args meth c) (hd : decode cc pc0 = .ok (.ifCond .le off, 3)) (ht : (pc0 : Int) + off = (tgt : Int)) (hp : pc = pc0) (kt : x ≤ 0 → m_Go D cI cL ad0 n0 nL A p l e R s m args below meth c Q tgt ls st h cu su) (kf : ¬ x ≤ 0 → m_Go D cI cL ad0 n0 nL A p l e R s m args below meth c Q (pc0 + 3) ls st h cu su) : m_Go D cI cL ad0 n0 nL A p l e R s m args below meth c Q pc ls (.int x :: st) h cu su := by
  subst hp
  intro ad H locs lsA hn hag hP hD hS hL
  exact lv_if_le (m_ex X) (m_cb X) hd ht (fun q => kt q ad H locs lsA hn hag hP hD hS hL) (fun q => kf q ad H locs lsA hn hag hP hD hS hL)
theorem m_icmp_le {x z : Int32} {off : Int} {tgt : Nat} (X : m_At D cI cL sa y cc nL ret A TB p l s m args meth c) (hd : decode cc pc0 = .ok (.if_icmp .le off, 3)) (ht : (pc0 : Int) + off = (tgt : Int)) (hp : pc = pc0) (kt : x ≤ z → m_Go D cI cL ad0 n0 nL A p l e R s m args below meth c Q tgt ls st h cu su) (kf : ¬ x ≤ z → m_Go D cI cL ad0 n0 nL A p l e R s m args below meth c Q (pc0 + 3) ls st h cu su) : m_Go D cI cL ad0 n0 nL A p l e R s m args below meth c Q pc ls (.int z :: .int x :: st) h cu su := by
  subst hp
  intro ad H locs lsA hn hag hP hD hS hL
  exact lv_icmp_le (m_ex X) (m_cb X) hd ht (fun q => kt q ad H locs lsA hn hag hP hD hS hL) (fun q => kf q ad H locs lsA hn hag hP hD hS hL)
theorem m_goto {off : Int} {tgt : Nat} (X : m_At D cI cL sa y cc nL ret A TB p l s m args meth c) (hd : decode cc pc0 = .ok (.goto off, 3)) (ht : (pc0 : Int) + off = (tgt : Int)) (hp : pc = pc0) (kk : m_Go D cI cL ad0 n0 nL A p l e R s m args below meth c Q tgt ls st h cu su) : m_Go D cI cL ad0 n0 nL A p l e R s m args below meth c Q pc ls st h cu su := by
  subst hp
  intro ad H locs lsA hn hag hP hD hS hL
  exact lv_goto (m_ex X) (m_cb X) hd ht (kk ad H locs lsA hn hag hP hD hS hL)
theorem m_tabOut {dflt lo hi : Int} {offs : Array Int} {len : Nat} {x : Int32} {tgt : Nat} (X : m_At D cI cL sa y cc nL ret A TB p l s m args meth c) (hd : decode cc pc0 = .ok (.tableswitch dflt lo hi offs, len)) (hx : x.toInt < lo ∨ hi < x.toInt) (ht : (pc0 : Int) + dflt = (tgt : Int)) (hp : pc = pc0) (kk : m_Go D cI cL ad0 n0 nL A p l e R s m args below meth c Q tgt ls st h cu su) : m_Go D cI cL ad0 n0 nL A p l e R s m args below meth c Q pc ls (.int x :: st) h cu su := by
  subst hp
  intro ad H locs lsA hn hag hP hD hS hL
  exact lv_tableOut (m_ex X) (m_cb X) hd hx ht (kk ad H locs lsA hn hag hP hD hS hL)
theorem m_tabIn {dflt lo hi off : Int} {offs : Array Int} {len : Nat} {x : Int32} {tgt : Nat} (X : m_At D cI cL sa y cc nL ret A TB p l s m args meth c) (hd : decode cc pc0 = .ok (.tableswitch dflt lo hi offs, len)) (h1 : ¬ x.toInt < lo) (h2 : ¬ hi < x.toInt) (ho : offs[(x.toInt - lo).toNat]? = some off) (ht : (pc0 : Int) + off = (tgt : Int)) (hp : pc = pc0) (kk : m_Go D cI cL ad0 n0 nL A p l e R s m args below meth c Q tgt ls st h cu su) : m_Go D cI cL ad0 n0 nL A p l e R s m args below meth c Q pc ls (.int x :: st) h cu su := by
  subst hp
  intro ad H locs lsA hn hag hP hD hS hL
  exact lv_tableIn (m_ex X) (m_cb X) hd h1 h2 ho ht (kk ad H locs lsA hn hag hP hD hS hL)
theorem m_hp {h1 : m_H} (hh : h = h1) (kk : m_Go D cI cL ad0 n0 nL A p l e R s m args below meth c Q pc ls st h1 cu su) : m_Go D cI cL ad0 n0 nL A p l e R s m args below meth c Q pc ls st h cu su := hh ▸ kk
theorem m_sp {st1 : List Value} (hh : st = st1) (kk : m_Go D cI cL ad0 n0 nL A p l e R s m args below meth c Q pc ls st1 h cu su) : m_Go D cI cL ad0 n0 nL A p l e R s m args below meth c Q pc ls st h cu su := hh ▸ kk
theorem m_lp {l1 : List (Nat × Value)} (ks : List Nat) (hh : lv_pick ls ks = l1) (kk : m_Go D cI cL ad0 n0 nL A p l e R s m args below meth c Q pc l1 st h cu su) : m_Go D cI cL ad0 n0 nL A p l e R s m args below meth c Q pc ls st h cu su := by
  intro ad H locs lsA hn hag hP hD hS hL
  refine kk ad H locs lsA hn hag hP hD hS (lv_sub hL ks ?_)
  rw [← hh]
  unfold lv_pick
  rw [List.map_filterMap]
  congr 1
  funext k
  rw [List.getElem?_map]
theorem m_wid {cu1 su1 : Nat} (h1 : cu ≤ cu1) (h2 : su ≤ su1) (kk : m_Go D cI cL ad0 n0 nL A p l e R s m args below meth c Q pc ls st h cu1 su1) : m_Go D cI cL ad0 n0 nL A p l e R s m args below meth c Q pc ls st h cu su := fun ad H locs lsA hn hag hP hD hS hL => W.widen h1 h2 (kk ad H locs lsA hn hag hP hD hS hL)
/-- the field link 'idx' of class own names field j of the mini class ci -/
def m_FL (own : String) (idx ci j : Nat) : Prop := ∃ (C : String) (T : u_T) (N : Nat), m_cl[ci]? = some (C, T, N) ∧ j < N ∧ (Cond.fieldLink own idx (T j).1 (T j).2.1 (T j).2.2.1 ∈ m_ws ∨ ∃ host, Cond.fieldLinkNest own idx (T j).1 (T j).2.1 (T j).2.2.1 host ∈ m_nw)
/-- .. and it isn't final, of type ty -/
def m_FP (ci j : Nat) (ty : FieldType) : Prop := ∃ (C : String) (T : u_T) (N : Nat), m_cl[ci]? = some (C, T, N) ∧ (T j).2.2.2 = false ∧ parseFieldDescriptor (T j).2.2.1 = some ty
def m_FF (own : String) (ci j : Nat) (ty : FieldType) : Prop := ∃ (C : String) (T : u_T) (N : Nat), m_cl[ci]? = some (C, T, N) ∧ (T j).2.2.2 = true ∧ (T j).1 = own ∧ parseFieldDescriptor (T j).2.2.1 = some ty
theorem m_getf {idx ci j q : Nat} {fs : List Value} {v : Value} (X : m_At D cI cL sa y cc nL ret A TB p l s m args meth c) (hd : decode cc pc0 = .ok (.getfield idx, 3)) (hf : m_FL y.cls idx ci j) (hq : h[q]? = some (m_ob ci fs)) (hv : fs[j]? = some v) (hp : pc = pc0) (kk : m_Go D cI cL ad0 n0 nL A p l e R s m args below meth c Q (pc0 + 3) ls (v :: st) h cu su) : m_Go D cI cL ad0 n0 nL A p l e R s m args below meth c Q pc ls (.ref q :: st) h cu su := by
  subst hp
  intro ad H locs lsA hn hag hP hD hS hL
  obtain ⟨C, T, N, hc, hj, hw⟩ := hf
  have hv' : (fs.map (m_v ad))[j]? = some (m_v ad v) := by rw [List.getElem?_map, hv]; rfl
  have hin := (m_cl_ok ci C T N hc).1
  rcases hw with hw | ⟨host, hw⟩
  · exact va_get (m_ex X) (m_cb X) (m_wd X) hin (m_ow X) (m_kn X) hP q (m_w_at hq) hc j hj (m_wd X _ hw) (fun _ h9 => h9) hv' hd (kk ad H locs lsA hn hag hP hD hS hL)
  · exact va_getN (m_ex X) (m_cb X) (m_wd X) hin (m_ow X) (m_kn X) hP q (m_w_at hq) hc j hj (va_Nw.use (m_isN_on (m_nw_is hw)) ((m_ev X).1 _ hw)) (fun _ h9 => h9) hv' hd (kk ad H locs lsA hn hag hP hD hS hL)
theorem m_putf {idx ci j q : Nat} {fs : List Value} {v : Value} {ty : FieldType} (X : m_At D cI cL sa y cc nL ret A TB p l s m args meth c) (hd : decode cc pc0 = .ok (.putfield idx, 3)) (hf : m_FL y.cls idx ci j) (hg : m_FP ci j ty) (hq : h[q]? = some (m_ob ci fs)) (hj2 : j < fs.length) (hn9 : ∀ ad : Nat → Nat, narrow ty (m_v ad v) = m_v ad v) (hn8 : ∀ ad : Nat → Nat, fits ty (m_v ad v) = true) (hp : pc = pc0) (kk : m_Go D cI cL ad0 n0 nL A p l e R s m args below meth c Q (pc0 + 3) ls st (h.set q (m_ob ci (fs.set j v))) cu su) : m_Go D cI cL ad0 n0 nL A p l e R s m args below meth c Q pc ls (v :: .ref q :: st) h cu su := by
  subst hp
  intro ad H locs lsA hn hag hP hD hS hL
  obtain ⟨C, T, N, hc, hj, hw⟩ := hf
  obtain ⟨C', T', N', hc', hfin, hty⟩ := hg
  cases Option.some.inj (hc.symm.trans hc')
  obtain ⟨hin, ty0, hty0, hnm⟩ := m_cl_ok ci C T N hc
  have hset : ∀ (H1 : Heap) (locs1 : List Loc), va_P D m_cl ((m_w cI cL ad h).set q (ad q, .inr (ci, (fs.map (m_v ad)).set j (m_v ad v)))) H1 → va_D A ((m_w cI cL ad h).set q (ad q, .inr (ci, (fs.map (m_v ad)).set j (m_v ad v)))) → va_S A s.heap H1 locs1 → W p l e R s m args below meth c H1 locs1 cu su Q (F0 m (pc + 3) lsA (st.map (m_v ad))) := by
    intro H1 locs1 hP1 hD1 hS1
    have e1 : (m_w cI cL ad h).set q (ad q, .inr (ci, (fs.map (m_v ad)).set j (m_v ad v))) = m_w cI cL ad (h.set q (m_ob ci (fs.set j v))) := by
      rw [← m_w_set]; simp only [m_c, List.map_set]
    rw [e1] at hP1 hD1
    exact kk ad H1 locs1 lsA (by rw [List.length_set]; exact hn) (by rw [List.length_set]; exact hag) hP1 hD1 hS1 hL
  have hl2 : j < (fs.map (m_v ad)).length := by rw [List.length_map]; exact hj2
  rcases hw with hw | ⟨host, hw⟩
  · exact va_put (m_ex X) (m_cb X) (m_wd X) hin ty0 hty0 hnm (m_ow X) (m_kn X) hP hD hS q (m_w_at hq) hc j hj (m_wd X _ hw) (fun _ h9 => h9) hfin hty (hn9 ad) (hn8 ad) hl2 hd hset
  · exact va_putN (m_ex X) (m_cb X) (m_wd X) hin ty0 hty0 hnm (m_ow X) (m_kn X) hP hD hS q (m_w_at hq) hc j hj (va_Nw.use (m_isN_on (m_nw_is hw)) ((m_ev X).1 _ hw)) (fun _ h9 => h9) hfin hty (hn9 ad) (hn8 ad) hl2 hd hset
theorem m_putF {idx ci j q : Nat} {fs : List Value} {v : Value} {ty : FieldType} (X : m_At D cI cL sa y cc nL ret A TB p l s m args meth c) (hd : decode cc pc0 = .ok (.putfield idx, 3)) (hf : m_FL y.cls idx ci j) (hg : m_FF y.cls ci j ty) (hi : y.name = "<init>") (hw0 : ∀ (C : String) (T : u_T) (N : Nat), m_cl[ci]? = some (C, T, N) → Cond.fieldLink y.cls idx (T j).1 (T j).2.1 (T j).2.2.1 ∈ m_ws) (hq : h[q]? = some (m_ob ci fs)) (hj2 : j < fs.length) (hn9 : ∀ ad : Nat → Nat, narrow ty (m_v ad v) = m_v ad v) (hn8 : ∀ ad : Nat → Nat, fits ty (m_v ad v) = true) (hp : pc = pc0) (kk : m_Go D cI cL ad0 n0 nL A p l e R s m args below meth c Q (pc0 + 3) ls st (h.set q (m_ob ci (fs.set j v))) cu su) : m_Go D cI cL ad0 n0 nL A p l e R s m args below meth c Q pc ls (v :: .ref q :: st) h cu su := by
  subst hp
  intro ad H locs lsA hn hag hP hD hS hL
  obtain ⟨C, T, N, hc, hj, hw⟩ := hf
  obtain ⟨C', T', N', hc', hfin, hdecl, hty⟩ := hg
  cases Option.some.inj (hc.symm.trans hc')
  obtain ⟨hin, ty0, hty0, hnm⟩ := m_cl_ok ci C T N hc
  have hset : ∀ (H1 : Heap) (locs1 : List Loc), va_P D m_cl ((m_w cI cL ad h).set q (ad q, .inr (ci, (fs.map (m_v ad)).set j (m_v ad v)))) H1 → va_D A ((m_w cI cL ad h).set q (ad q, .inr (ci, (fs.map (m_v ad)).set j (m_v ad v)))) → va_S A s.heap H1 locs1 → W p l e R s m args below meth c H1 locs1 cu su Q (F0 m (pc + 3) lsA (st.map (m_v ad))) := by
    intro H1 locs1 hP1 hD1 hS1
    have e1 : (m_w cI cL ad h).set q (ad q, .inr (ci, (fs.map (m_v ad)).set j (m_v ad v))) = m_w cI cL ad (h.set q (m_ob ci (fs.set j v))) := by
      rw [← m_w_set]; simp only [m_c, List.map_set]
    rw [e1] at hP1 hD1
    exact kk ad H1 locs1 lsA (by rw [List.length_set]; exact hn) (by rw [List.length_set]; exact hag) hP1 hD1 hS1 hL
  exact va_putF (m_ex X) (m_cb X) (m_wd X) hin ty0 hty0 hnm (m_ow X) (m_kn X) hP hD hS q (m_w_at hq) hc j hj (m_wd X _ (hw0 C T N hc)) (fun _ h9 => h9) hfin ((m_nm X).trans hi) hdecl hty (hn9 ad) (hn8 ad) (by rw [List.length_map]; exact hj2) hd hset
/-! arrays -/
theorem m_iald {q n : Nat} {f : Nat → Int32} {i : Int32} (X : m_At D cI cL sa y cc nL ret A TB p l s m args meth c) (hd : decode cc pc0 = .ok (.iaload, 1)) (hq : h[q]? = some (m_ia n f)) (hi : vp_in i n) (hp : pc = pc0) (kk : m_Go D cI cL ad0 n0 nL A p l e R s m args below meth c Q (pc0 + 1) ls (.int (f i.toNatClampNeg) :: st) h cu su) : m_Go D cI cL ad0 n0 nL A p l e R s m args below meth c Q pc ls (.int i :: .ref q :: st) h cu su := by
  subst hp
  intro ad H locs lsA hn hag hP hD hS hL
  exact va_iald (m_ex X) (m_cb X) (m_kn X) hP q 0 (m_w_at hq) rfl hi hd (kk ad H locs lsA hn hag hP hD hS hL)
theorem m_lald {q n : Nat} {f : Nat → Int64} {i : Int32} (X : m_At D cI cL sa y cc nL ret A TB p l s m args meth c) (hd : decode cc pc0 = .ok (.laload, 1)) (hq : h[q]? = some (m_la n f)) (hi : vp_in i n) (hp : pc = pc0) (kk : m_Go D cI cL ad0 n0 nL A p l e R s m args below meth c Q (pc0 + 1) ls (.long (f i.toNatClampNeg) :: st) h cu su) : m_Go D cI cL ad0 n0 nL A p l e R s m args below meth c Q pc ls (.int i :: .ref q :: st) h cu su := by
  subst hp
  intro ad H locs lsA hn hag hP hD hS hL
  exact va_lald (m_ex X) (m_cb X) (m_kn X) hP q 1 (m_w_at hq) rfl hi hd (kk ad H locs lsA hn hag hP hD hS hL)
theorem m_alen {q n : Nat} {f : Nat → Int32} (X : m_At D cI cL sa y cc nL ret A TB p l s m args meth c) (hd : decode cc pc0 = .ok (.arraylength, 1)) (hq : h[q]? = some (m_ia n f)) (hp : pc = pc0) (kk : m_Go D cI cL ad0 n0 nL A p l e R s m args below meth c Q (pc0 + 1) ls (.int (Int32.ofNat n) :: st) h cu su) : m_Go D cI cL ad0 n0 nL A p l e R s m args below meth c Q pc ls (.ref q :: st) h cu su := by
  subst hp
  intro ad H locs lsA hn hag hP hD hS hL
  exact va_alen (m_ex X) (m_cb X) (m_kn X) hP q 0 (m_w_at hq) rfl rfl hd (kk ad H locs lsA hn hag hP hD hS hL)
theorem m_iast {q n : Nat} {f : Nat → Int32} {i x : Int32} (X : m_At D cI cL sa y cc nL ret A TB p l s m args meth c) (hd : decode cc pc0 = .ok (.iastore, 1)) (hq : h[q]? = some (m_ia n f)) (hi : vp_in i n) (hp : pc = pc0) (kk : m_Go D cI cL ad0 n0 nL A p l e R s m args below meth c Q (pc0 + 1) ls st (h.set q (m_ia n (upd f i.toNatClampNeg x))) cu su) : m_Go D cI cL ad0 n0 nL A p l e R s m args below meth c Q pc ls (.int x :: .int i :: .ref q :: st) h cu su := by
  subst hp
  intro ad H locs lsA hn hag hP hD hS hL
  refine va_iast (m_ex X) (m_cb X) (m_kn X) hP hD hS q 0 (m_w_at hq) rfl hi hd (fun H1 locs1 hP1 hD1 hS1 => ?_)
  have e1 : (m_w cI cL ad h).set q (ad q, .inl (cI, n, .inl (upd f i.toNatClampNeg x))) = m_w cI cL ad (h.set q (m_ia n (upd f i.toNatClampNeg x))) := by rw [← m_w_set]; rfl
  have hP2 : va_P D m_cl ((m_w cI cL ad h).set q (ad q, .inl (cI, n, .inl (upd f i.toNatClampNeg x)))) H1 := hP1
  have hD2 : va_D A ((m_w cI cL ad h).set q (ad q, .inl (cI, n, .inl (upd f i.toNatClampNeg x)))) := hD1
  rw [e1] at hP2 hD2
  exact kk ad H1 locs1 lsA (by rw [List.length_set]; exact hn) (by rw [List.length_set]; exact hag) hP2 hD2 hS1 hL
theorem m_last {q n : Nat} {f : Nat → Int64} {i : Int32} {x : Int64} (X : m_At D cI cL sa y cc nL ret A TB p l s m args meth c) (hd : decode cc pc0 = .ok (.lastore, 1)) (hq : h[q]? = some (m_la n f)) (hi : vp_in i n) (hp : pc = pc0) (kk : m_Go D cI cL ad0 n0 nL A p l e R s m args below meth c Q (pc0 + 1) ls st (h.set q (m_la n (vp_updL f i.toNatClampNeg x))) cu su) : m_Go D cI cL ad0 n0 nL A p l e R s m args below meth c Q pc ls (.long x :: .int i :: .ref q :: st) h cu su := by
  subst hp
  intro ad H locs lsA hn hag hP hD hS hL
  refine va_last (m_ex X) (m_cb X) (m_kn X) hP hD hS q 1 (m_w_at hq) rfl hi hd (fun H1 locs1 hP1 hD1 hS1 => ?_)
  have e1 : (m_w cI cL ad h).set q (ad q, .inl (cL, n, .inr (.inl (vp_updL f i.toNatClampNeg x)))) = m_w cI cL ad (h.set q (m_la n (vp_updL f i.toNatClampNeg x))) := by rw [← m_w_set]; rfl
  have hP2 : va_P D m_cl ((m_w cI cL ad h).set q (ad q, .inl (cL, n, .inr (.inl (vp_updL f i.toNatClampNeg x))))) H1 := hP1
  have hD2 : va_D A ((m_w cI cL ad h).set q (ad q, .inl (cL, n, .inr (.inl (vp_updL f i.toNatClampNeg x))))) := hD1
  rw [e1] at hP2 hD2
  exact kk ad H1 locs1 lsA (by rw [List.length_set]; exact hn) (by rw [List.length_set]; exact hag) hP2 hD2 hS1 hL
/-! Math -/
theorem m_mmax {k : Nat} {x z : Int32} (X : m_At D cI cL sa y cc nL ret A TB p l s m args meth c) (hd : decode cc pc0 = .ok (.invokestatic k, 3)) (hw : Cond.methodLink y.cls k Lib.Math.max.name ∈ m_ws) (hfr : 1 ≤ R.frames) (hlo : (st.map fun v => v.category).sum + 13 ≤ R.locals) (hc : cu ≤ R.cells) (hs : su ≤ R.slots) (hp : pc = pc0) (kk : m_Go D cI cL ad0 n0 nL A p l e R s m args below meth c Q (pc0 + 3) ls (.int (if x < z then z else x) :: st) h cu su) : m_Go D cI cL ad0 n0 nL A p l e R s m args below meth c Q pc ls (.int z :: .int x :: st) h cu su := by
  subst hp
  intro ad H locs lsA hn hag hP hD hS hL
  exact va_mmax (m_ex X) (m_cb X) ((m_ml X).trans hL.1.symm) (m_ow X) (m_wd X _ hw) (m_wd X _ m_max1) (m_wd X _ m_mat) (m_wd X _ m_max2) hfr (by rw [m_v_cats]; exact hlo) hc hs hd (kk ad H locs lsA hn hag hP hD hS hL)
theorem m_mmin {k : Nat} {x z : Int32} (X : m_At D cI cL sa y cc nL ret A TB p l s m args meth c) (hd : decode cc pc0 = .ok (.invokestatic k, 3)) (hw : Cond.methodLink y.cls k Lib.Math.min.name ∈ m_ws) (hfr : 1 ≤ R.frames) (hlo : (st.map fun v => v.category).sum + 13 ≤ R.locals) (hc : cu ≤ R.cells) (hs : su ≤ R.slots) (hp : pc = pc0) (kk : m_Go D cI cL ad0 n0 nL A p l e R s m args below meth c Q (pc0 + 3) ls (.int (if z < x then z else x) :: st) h cu su) : m_Go D cI cL ad0 n0 nL A p l e R s m args below meth c Q pc ls (.int z :: .int x :: st) h cu su := by
  subst hp
  intro ad H locs lsA hn hag hP hD hS hL
  exact va_mmin (m_ex X) (m_cb X) ((m_ml X).trans hL.1.symm) (m_ow X) (m_wd X _ hw) (m_wd X _ m_min1) (m_wd X _ m_mat) (m_wd X _ m_min2) hfr (by rw [m_v_cats]; exact hlo) hc hs hd (kk ad H locs lsA hn hag hP hD hS hL)
theorem m_obI {k q : Nat} (X : m_At D cI cL sa y cc nL ret A TB p l s m args meth c) (hd : decode cc pc0 = .ok (.invokespecial k, 3)) (hw : Cond.methodLink y.cls k Lib.objectInit ∈ m_ws) (hfr : 1 ≤ R.frames) (hlo : (st.map fun v => v.category).sum + 12 ≤ R.locals) (hp : pc = pc0) (kk : m_Go D cI cL ad0 n0 nL A p l e R s m args below meth c Q (pc0 + 3) ls st h cu su) : m_Go D cI cL ad0 n0 nL A p l e R s m args below meth c Q pc ls (.ref q :: st) h cu su := by
  subst hp
  intro ad H locs lsA hn hag hP hD hS hL
  have hlo9 : ((st.map (m_v ad)).map fun v => v.category).sum + 12 ≤ R.locals := by rw [m_v_cats]; exact hlo
  exact W.objInit (m_ex X) (m_cb X) (m_ow X) (m_wd X _ hw) (m_wd X _ m_obj1) (m_wd X _ m_obj2) rfl (by show lsA.size = c.maxLocals; rw [m_ml X]; exact hL.1) rfl hd hfr (by
    have e9 : 2 * (F0 m pc lsA (List.map (m_v ad) (.ref q :: st))).monitorRoom = 0 := by first | rfl | simp [JFrame.monitorRoom]
    rw [e9]; omega) (kk ad H locs lsA hn hag hP hD hS hL)
/-! new things -/
theorem m_upd_ag {n : Nat} {ad : Nat → Nat} {q : Nat} : ∀ i, i < n → (fun j => if j = n then q else ad j) i = ad i := fun i hi => if_neg (Nat.ne_of_lt hi)
theorem m_new {k ci N : Nat} {C : String} {T : u_T} {fs : List Value} (X : m_At D cI cL sa y cc nL ret A TB p l s m args meth c) (hd : decode cc pc0 = .ok (.new k, 3)) (hcl : m_cl[ci]? = some (C, T, N)) (h1 : Cond.classLink y.cls k C ∈ m_ws) (h2 : Cond.instantiable C N ∈ m_ws) (h3 : Cond.initialized C ∈ m_ws) (ty : Nat → FieldType) (hty : ∀ k, k < N → parseFieldDescriptor (T k).2.2.1 = some (ty k)) (hfs : ∀ j, j < N → defaultValue (ty j) = vp_V fs j) (hnr : fs.all (m_rv 0) = true) (hrb : m_rb h.length ls st = true) (hrh : h.all (m_rc h.length) = true) (hcc : cu + 1 ≤ R.cells) (hss : su + N ≤ R.slots) (hp : pc = pc0) (kk : m_Go D cI cL ad0 n0 nL A p l e R s m args below meth c Q (pc0 + 3) ls (.ref h.length :: st) (h ++ [m_ob ci fs]) (cu + 1) (su + N)) : m_Go D cI cL ad0 n0 nL A p l e R s m args below meth c Q pc ls st h cu su := by
  subst hp
  intro ad H locs lsA hn hag hP hD hS hL
  simp only [m_rb, Bool.and_eq_true] at hrb
  refine va_new (fs := fs) (m_ex X) (m_cb X) (m_wd X) (m_cl_ok ci C T N hcl).1 ty hty (m_ow X) (m_wd X _ h1) (m_wd X _ h2) (m_wd X _ h3) (m_kn X) hP hD hS (m_up X) hcl hfs hcc hss hd (fun q H1 hP1 hD1 hS1 => ?_)
  have ha := m_upd_ag (n := h.length) (ad := ad) (q := q)
  have e0 : fs.map (m_v (fun j => if j = h.length then q else ad j)) = fs := by
    have : fs.map (m_v (fun j => if j = h.length then q else ad j)) = fs.map id := List.map_congr_left fun v hv => by
      have := List.all_eq_true.mp hnr v hv
      cases v <;> first | rfl | (simp [m_rv] at this; done)
    rw [this, List.map_id]
  have e1 : m_w cI cL (fun j => if j = h.length then q else ad j) (h ++ [m_ob ci fs]) = m_w cI cL ad h ++ [(q, .inr (ci, fs))] := by
    rw [m_w_app, m_w_same ha (Nat.le_refl _) hrh]; simp only [m_c, e0, if_true]
  have k9 := kk (fun j => if j = h.length then q else ad j) H1 locs lsA (by rw [List.length_append]; omega) (fun i hi => by
    rw [List.length_append, List.length_singleton] at hi
    have hne : i ≠ h.length := by omega
    rw [if_neg hne]; exact hag i (by omega)) (by rw [e1]; exact hP1) (by rw [e1]; exact hD1) hS1 (by rw [m_ls_same ha hrb.1]; exact hL)
  rw [List.map_cons, m_st_same ha hrb.2] at k9
  have e2 : m_v (fun j => if j = h.length then q else ad j) (.ref h.length) = .ref q := by simp [m_v]
  rw [e2] at k9
  exact k9
theorem m_newa {at9 : ArrayType} {ty : FieldType} {n : Int32} {N : Nat} {a0 : vp_A} (X : m_At D cI cL sa y cc nL ret A TB p l s m args meth c) (hd : decode cc pc0 = .ok (.newarray at9, 2)) (hw : Cond.arrayClass (newarray.typeOf at9) ∈ m_ws) (hty : newarray.typeOf at9 = ty) (hk : (ty = .int ∧ ∃ f, a0.2 = .inl f) ∨ (ty = .long ∧ ∃ f, a0.2 = .inr (.inl f))) (ha : ∀ cA : ClassId, vp_cell cA a0 = arrV cA N (fun _ => defaultValue ty)) (hn0 : ¬ n < 0) (hN : n.toNatClampNeg = N) (hby : N * componentBytes ty ≤ 536870912) (hrb : m_rb h.length ls st = true) (hrh : h.all (m_rc h.length) = true) (hcc : cu + 1 ≤ R.cells) (hss : su + N ≤ R.slots) (hp : pc = pc0) (kk : m_Go D cI cL ad0 n0 nL A p l e R s m args below meth c Q (pc0 + 2) ls (.ref h.length :: st) (h ++ [.inl a0]) (cu + 1) (su + N)) : m_Go D cI cL ad0 n0 nL A p l e R s m args below meth c Q pc ls (.int n :: st) h cu su := by
  subst hp
  intro ad H locs lsA hn hag hP hD hS hL
  simp only [m_rb, Bool.and_eq_true] at hrb
  refine va_newa (m_ex X) (m_cb X) (m_wd X _ hw) hty (m_kn X) hP hD hS (m_up X) ha hn0 hN hby hcc hss hd (fun q cA H1 hK1 hP1 hD1 hS1 => ?_)
  have hcA : cA = m_kc cI cL a0 := by
    have h9 := (hK1.2 2 (cA, ty) rfl).2
    rcases hk with ⟨rfl, f, hf⟩ | ⟨rfl, f, hf⟩
    · have h8 := ((m_kn X).2 0 (cI, .int) rfl).2
      simp only [m_kc, hf]
      exact Option.some.inj (Eq.trans (Eq.symm h9) h8)
    · have h8 := ((m_kn X).2 1 (cL, .long) rfl).2
      simp only [m_kc, hf]
      exact Option.some.inj (Eq.trans (Eq.symm h9) h8)
  subst hcA
  have ha := m_upd_ag (n := h.length) (ad := ad) (q := q)
  have e1 : m_w cI cL (fun j => if j = h.length then q else ad j) (h ++ [.inl a0]) = m_w cI cL ad h ++ [(q, .inl (m_kc cI cL a0, a0))] := by
    rw [m_w_app, m_w_same ha (Nat.le_refl _) hrh]; simp only [m_c, if_true]
  have k9 := kk (fun j => if j = h.length then q else ad j) H1 locs lsA (by rw [List.length_append]; omega) (fun i hi => by
    rw [List.length_append, List.length_singleton] at hi
    have hne : i ≠ h.length := by omega
    rw [if_neg hne]; exact hag i (by omega)) (by rw [e1]; exact hP1) (by rw [e1]; exact hD1) hS1 (by rw [m_ls_same ha hrb.1]; exact hL)
  rw [List.map_cons, m_st_same ha hrb.2] at k9
  have e2 : m_v (fun j => if j = h.length then q else ad j) (.ref h.length) = .ref q := by simp [m_v]
  rw [e2] at k9
  exact k9
end MI
end
section
section MC
/-! ===== contracts: the whole mini heap in, an outcome and the whole mini heap out ===== -/
/-- a method: name, bytes, locals, return, rank (how deep its calls go), cells and slots that it may make -/
abbrev m_M : Type := MethodName × ByteArray × Nat × Option FieldType × Nat × Nat × Nat
abbrev m_My (M : m_M) : MethodName := M.1
abbrev m_Mb (M : m_M) : ByteArray := M.2.1
abbrev m_Ml (M : m_M) : Nat := M.2.2.1
abbrev m_Mr (M : m_M) : Option FieldType := M.2.2.2.1
abbrev m_Mk (M : m_M) : Nat := M.2.2.2.2.1
abbrev m_Mc (M : m_M) : Nat := M.2.2.2.2.2.1
abbrev m_Ms (M : m_M) : Nat := M.2.2.2.2.2.2
def m_rm (M : m_M) : Room := { frames := m_Mk M, cells := m_Mc M, slots := m_Ms M, locals := 32 * m_Mk M }
def m_Ws (M : m_M) : List Cond := Cond.code (m_My M) (m_Mb M) (m_Ml M) (m_Mr M) :: m_ws
def m_WsH (M : m_M) (hh : List (Nat × Nat × Nat × Nat)) : List Cond := Cond.codeWith (m_My M) (m_Mb M) (m_Ml M) (m_Mr M) hh :: m_ws
/-- returned with a value, or thrown -/
abbrev m_Om : Type := (Option Value × m_H) ⊕ (String × m_H)
def m_Q (D : va_G) (cI cL : ClassId) (ad : Nat → Nat) (n0 : Nat) (A : Nat → Prop) (om : m_Om) : Array Value → State → Outcome → State → Prop := fun _ st oc t =>
  ∃ (v : Option Value) (hf : m_H) (ad' : Nat → Nat), om = .inl (v, hf) ∧ oc = .returned (v.map (m_v ad')) ∧ n0 ≤ hf.length ∧ (∀ i, (i < n0 ∨ hf.length ≤ i) → ad' i = ad i) ∧ va_P D m_cl (m_w cI cL ad' hf) t.heap ∧ va_D A (m_w cI cL ad' hf) ∧ va_F A st t
def m_XC (D : va_G) (cI cL : ClassId) (ad : Nat → Nat) (n0 : Nat) (A : Nat → Prop) (om : m_Om) : String → State → State → Prop := fun E st t =>
  ∃ (hf : m_H) (ad' : Nat → Nat), om = .inr (E, hf) ∧ n0 ≤ hf.length ∧ (∀ i, (i < n0 ∨ hf.length ≤ i) → ad' i = ad i) ∧ va_P D m_cl (m_w cI cL ad' hf) t.heap ∧ va_D A (m_w cI cL ad' hf) ∧ va_F A st t
def m_Pre (D : va_G) (cI cL : ClassId) (sa ad : Nat → Nat) (h : m_H) (sz : Nat) (as : List Value) : Array Value → State → Prop := va_Pc (as.map (m_v ad)) (fun U => U.heap.size = sz ∧ va_P D m_cl (m_w cI cL ad h) U.heap ∧ va_D (fun _ => True) (m_w cI cL ad h) ∧ va_K D m_cl (m_tys cI cL) U ∧ m_Env (va_A (m_w cI cL ad h) sz) sa U U.heap)
abbrev m_VQ (D : va_G) (cI cL : ClassId) (ad : Nat → Nat) (n0 : Nat) (A : Nat → Prop) (om : m_Om) (below : List Frame) (args : Array Value) (s : State) (mc ms : Nat) : State → Prop := vx_MQ below (m_Q D cI cL ad n0 A om) (m_XC D cI cL ad n0 A om) args s mc ms A
def m_Ctr (M : m_M) (as : List Value) (h : m_H) (om : m_Om) : Prop := ∀ (l : Launch) (D : va_G) (cI cL : ClassId) (sa ad : Nat → Nat) (sz : Nat), l.stackTraces = false →
  vx_Met l (m_My M) (m_Ws M) (m_rm M) (m_Pre D cI cL sa ad h sz as) (m_Q D cI cL ad h.length (va_A (m_w cI cL ad h) sz) om) (m_XC D cI cL ad h.length (va_A (m_w cI cL ad h) sz) om) (m_Mc M) (m_Ms M) (va_A (m_w cI cL ad h) sz)
def m_CtrH (M : m_M) (hh : List (Nat × Nat × Nat × Nat)) (as : List Value) (h : m_H) (om : m_Om) : Prop := ∀ (l : Launch) (D : va_G) (cI cL : ClassId) (sa ad : Nat → Nat) (sz : Nat), l.stackTraces = false →
  vx_Met l (m_My M) (m_WsH M hh) (m_rm M) (m_Pre D cI cL sa ad h sz as) (m_Q D cI cL ad h.length (va_A (m_w cI cL ad h) sz) om) (m_XC D cI cL ad h.length (va_A (m_w cI cL ad h) sz) om) (m_Mc M) (m_Ms M) (va_A (m_w cI cL ad h) sz)
theorem m_blind {D : va_G} {cI cL : ClassId} {sa ad : Nat → Nat} {h : m_H} {sz : Nat} {as : List Value} : FrameBlind (m_Pre D cI cL sa ad h sz as) := fun a U g mk q => by
  obtain ⟨q0, q1, q2, q3, q4, q5⟩ := q
  exact ⟨q0, q1, q2, q3, va_K.moved (u := U) (U := U.calling g mk a) (Vm.Alike.refl U.vm) q4, m_Env_same (u := U) (U := U.calling g mk a) rfl q5⟩
/-- a method's body: walk it from its entry -/
theorem m_intro {M : m_M} {as : List Value} {h : m_H} {om : m_Om} (hy : plainName (m_My M).cls = true) (hsz : (lg_sl as).length ≤ m_Ml M)
    (body : ∀ {D : va_G} {cI cL : ClassId} {sa : Nat → Nat} {A : Nat → Prop} {p : Program} {l : Launch} {e : Env} {s : State} {m : MethodId} {args : Array Value} {below : List Frame} {meth : Method} {c : Code} {ad : Nat → Nat}, m_At D cI cL sa (m_My M) (m_Mb M) (m_Ml M) (m_Mr M) A [] p l s m args meth c →
      m_Go D cI cL ad h.length (m_Ml M) A p l e (m_rm M) s m args below meth c (m_VQ D cI cL ad h.length A om below args s (m_Mc M) (m_Ms M)) 0 (lv_args 0 as) [] h 0 0) : m_Ctr M as h om := by
  intro l D cI cL sa ad sz hl
  refine vx_ofW (cc := m_Mb M) (maxL := m_Ml M) (ret := m_Mr M) hy rfl ?_
  intro p e s m args below meth c s₁ B hml ht hv
  obtain ⟨rfl, hsz9, hP, hD0, hK, hE⟩ := hv
  subst hsz9
  have hD := hD0.self (sz := s.heap.size)
  have hts := atoms_spec (ws := m_Ws M) B.pre
  have X : m_At D cI cL sa (m_My M) (m_Mb M) (m_Ml M) (m_Mr M) (va_A (m_w cI cL ad h) s.heap.size) [] p l s m (as.map (m_v ad)).toArray meth c :=
    ⟨B.exec, B.bytes, hml, B.returns, B.notSynchronized, (name_of_methodNamed B.named B.method).1, findClass_of_methodNamed B.named, fun w hw => hts w (List.mem_cons_of_mem _ hw), hK, hE, fun q hq => Or.inr hq, hl, List.eq_nil_iff_forall_not_mem.mpr ht⟩
  have hl9 := lv_entry (as.map (m_v ad)) (n := m_Ml M) (by rw [m_lsl]; exact hsz)
  rw [m_largs] at hl9
  rw [lg_entry_eq]
  exact body X ad s.heap [] _ (Nat.le_refl _) (fun _ _ => rfl) hP hD va_S.rf hl9
theorem m_introH {M : m_M} {hh : List (Nat × Nat × Nat × Nat)} {as : List Value} {h : m_H} {om : m_Om} (hy : plainName (m_My M).cls = true) (hsz : (lg_sl as).length ≤ m_Ml M)
    (body : ∀ {D : va_G} {cI cL : ClassId} {sa : Nat → Nat} {A : Nat → Prop} {p : Program} {l : Launch} {e : Env} {s : State} {m : MethodId} {args : Array Value} {below : List Frame} {meth : Method} {c : Code} {ad : Nat → Nat}, m_At D cI cL sa (m_My M) (m_Mb M) (m_Ml M) (m_Mr M) A (tableOf hh) p l s m args meth c →
      m_Go D cI cL ad h.length (m_Ml M) A p l e (m_rm M) s m args below meth c (m_VQ D cI cL ad h.length A om below args s (m_Mc M) (m_Ms M)) 0 (lv_args 0 as) [] h 0 0) : m_CtrH M hh as h om := by
  intro l D cI cL sa ad sz hl
  refine vx_ofWH (cc := m_Mb M) (maxL := m_Ml M) (ret := m_Mr M) (hh := hh) hy rfl ?_
  intro p e s m args below meth c s₁ B hml hv
  obtain ⟨rfl, hsz9, hP, hD0, hK, hE⟩ := hv
  subst hsz9
  have hD := hD0.self (sz := s.heap.size)
  have hts := atoms_spec (ws := m_WsH M hh) B.pre
  have X : m_At D cI cL sa (m_My M) (m_Mb M) (m_Ml M) (m_Mr M) (va_A (m_w cI cL ad h) s.heap.size) (tableOf hh) p l s m (as.map (m_v ad)).toArray meth c :=
    ⟨B.exec, B.bytes, hml, B.returns, B.notSynchronized, (name_of_methodNamed B.named B.method).1, findClass_of_methodNamed B.named, fun w hw => hts w (List.mem_cons_of_mem _ hw), hK, hE, fun q hq => Or.inr hq, hl, vx_table (x := m_My M) B (hts _ List.mem_cons_self)⟩
  have hl9 := lv_entry (as.map (m_v ad)) (n := m_Ml M) (by rw [m_lsl]; exact hsz)
  rw [m_largs] at hl9
  rw [lg_entry_eq]
  exact body X ad s.heap [] _ (Nat.le_refl _) (fun _ _ => rfl) hP hD va_S.rf hl9
theorem m_met {M : m_M} {as : List Value} {h h' : m_H} {v : Option Value} (hC : m_Ctr M as h (.inl (v, h'))) (l : Launch) (D : va_G) (cI cL : ClassId) (sa ad : Nat → Nat) (sz : Nat) (hl : l.stackTraces = false) :
    Met l (m_My M) (m_Ws M) (m_rm M) (m_Pre D cI cL sa ad h sz as) (m_Q D cI cL ad h.length (va_A (m_w cI cL ad h) sz) (.inl (v, h'))) (m_Mc M) (m_Ms M) (va_A (m_w cI cL ad h) sz) :=
  MetFree.mono (hC l D cI cL sa ad sz hl) (fun _ _ h => h) (fun _ _ _ _ _ h => h) (fun a st o t _ hq => by
    rcases hq with ⟨h1, L, h2, h3⟩ | ⟨q, ho, E, ce, L, hx, -⟩
    · exact ⟨h1, L, h2, h3⟩
    · obtain ⟨hf, ad', he, -⟩ := hx
      cases he)
theorem m_metH {M : m_M} {hh : List (Nat × Nat × Nat × Nat)} {as : List Value} {h h' : m_H} {v : Option Value} (hC : m_CtrH M hh as h (.inl (v, h'))) (l : Launch) (D : va_G) (cI cL : ClassId) (sa ad : Nat → Nat) (sz : Nat) (hl : l.stackTraces = false) :
    Met l (m_My M) (m_WsH M hh) (m_rm M) (m_Pre D cI cL sa ad h sz as) (m_Q D cI cL ad h.length (va_A (m_w cI cL ad h) sz) (.inl (v, h'))) (m_Mc M) (m_Ms M) (va_A (m_w cI cL ad h) sz) :=
  MetFree.mono (hC l D cI cL sa ad sz hl) (fun _ _ h => h) (fun _ _ _ _ _ h => h) (fun a st o t _ hq => by
    rcases hq with ⟨h1, L, h2, h3⟩ | ⟨q, ho, E, ce, L, hx, -⟩
    · exact ⟨h1, L, h2, h3⟩
    · obtain ⟨hf, ad', he, -⟩ := hx
      cases he)
/-- what is known of a method by name -/
def m_MK (M : m_M) (n : Nat) : Prop := Cond.code (m_My M) (m_Mb M) (m_Ml M) (m_Mr M) ∈ m_ws ∧ Cond.initialized (m_My M).cls ∈ m_ws ∧ ((m_My M).cls ≠ "java/lang/invoke/MethodHandle" ∧ (m_My M).cls ≠ "java/lang/invoke/VarHandle" ∧ (parseMethodDescriptor (m_My M).desc).map (fun d => d.parameters.length) = some n)
def m_MKH (M : m_M) (hh : List (Nat × Nat × Nat × Nat)) (n : Nat) : Prop := Cond.codeWith (m_My M) (m_Mb M) (m_Ml M) (m_Mr M) hh ∈ m_ws ∧ Cond.initialized (m_My M).cls ∈ m_ws ∧ ((m_My M).cls ≠ "java/lang/invoke/MethodHandle" ∧ (m_My M).cls ≠ "java/lang/invoke/VarHandle" ∧ (parseMethodDescriptor (m_My M).desc).map (fun d => d.parameters.length) = some n)
def m_LK (own : String) (k : Nat) (M : m_M) : Prop := Cond.methodLink own k (m_My M) ∈ m_ws ∨ ∃ host, Cond.methodLinkNest own k (m_My M) host ∈ m_nw
theorem m_good {M : m_M} {n : Nat} (hK : m_MK M n) : GoodIn m_ws (m_Ws M) := fun w hw => by
  rcases List.mem_cons.mp hw with rfl | hw
  · exact ⟨hK.1, good_of_word (m_ws_good hK.1)⟩
  · exact ⟨hw, good_of_word (m_ws_good hw)⟩
variable {D : va_G} {cI cL : ClassId} {sa : Nat → Nat} {y : MethodName} {cc : ByteArray} {nL : Nat} {ret : Option FieldType} {A : Nat → Prop} {TB : List ExceptionTableEntry} {p : Program} {l : Launch} {e : Env} {R : Room} {s : State} {m : MethodId} {args : Array Value} {below : List Frame} {meth : Method} {c : Code} {Q : State → Prop} {ad0 : Nat → Nat} {n0 pc pc0 : Nat} {ls : List (Nat × Value)} {st : List Value} {h : m_H} {cu su : Nat} {om : m_Om} {mc ms : Nat}
theorem m_AB {ws : va_W} {H : Heap} {locs : List Loc} (X : m_At D cI cL sa y cc nL ret A TB p l s m args meth c) (hD : va_D A ws) (hS : va_S A s.heap H locs) : ∀ q, va_A ws H.size q → A q := by
  rintro q (⟨k, e9, hk⟩ | hq)
  · exact hD.2 k (q, e9) hk
  · exact m_up X q (Nat.le_trans hS.1 hq)
theorem m_pre {ad : Nat → Nat} {H : Heap} {locs : List Loc} {as : List Value} (X : m_At D cI cL sa y cc nL ret A TB p l s m args meth c) (hP : va_P D m_cl (m_w cI cL ad h) H) (hD : va_D A (m_w cI cL ad h)) (hS : va_S A s.heap H locs) : ∀ U : State, U.heap = H → s.WarmedH U.vm → m_Pre D cI cL sa ad h H.size as (as.map (m_v ad)).toArray U := by
  intro U hU hW
  refine ⟨rfl, by rw [hU], by rw [hU]; exact hP, hD.weaken (fun _ _ _ _ => trivial), va_K.moved hW.alike (m_kn X), ?_⟩
  rw [hU]
  exact m_Env_for (m_ev X) hS hW (m_AB X hD hS)
theorem m_fix (X : m_At D cI cL sa y cc nL ret A TB p l s m args meth c) : CallFix p m c cc nL s args m_ws y.cls := ⟨m_ex X, m_cb X, m_ml X, m_ow X, m_wd X⟩
theorem m_ag {ad ad' : Nat → Nat} {n : Nat} (h0 : ∀ i, (i < n ∨ n ≤ i) → ad' i = ad i) : ad' = ad := funext fun i => h0 i (Nat.lt_or_ge i n)
theorem m_optmap {ad : Nat → Nat} {v : Option Value} {rest : List Value} : (v.map (m_v ad)).toList ++ rest.map (m_v ad) = (v.toList ++ rest).map (m_v ad) := by cases v <;> rfl
/-- behind a call that makes nothing -/
theorem m_after {h' : m_H} {v : Option Value} {rest stA : List Value} {ad : Nat → Nat} {H : Heap} {locs : List Loc} {lsA : Array Slot} {mc2 ms2 : Nat} {a2 : Array Value} (X : m_At D cI cL sa y cc nL ret A TB p l s m args meth c)
    (hr : va_Run p l e R s m args below meth c H locs cu su mc2 ms2 (F0 m pc lsA stA) (rest.map (m_v ad)) (m_Q D cI cL ad h.length (va_A (m_w cI cL ad h) H.size) (.inl (v, h')) a2) (va_A (m_w cI cL ad h) H.size)) (hlen : h'.length = h.length)
    (hn : n0 ≤ h.length) (hag : ∀ i, (i < n0 ∨ h.length ≤ i) → ad i = ad0 i) (hD : va_D A (m_w cI cL ad h)) (hS : va_S A s.heap H locs) (hL : lv_has lsA nL (ls.map (fun q => (q.1, m_v ad q.2))))
    (kk : m_Go D cI cL ad0 n0 nL A p l e R s m args below meth c Q (pc + 3) ls (v.toList ++ rest) h' (cu + mc2) (su + ms2)) : W p l e R s m args below meth c H locs cu su Q (F0 m pc lsA stA) := by
  intro T hT XX
  obtain ⟨v9, st₀, t, T', L, h0, X', hL', e1, e2, ⟨vv, hf, ad', he, hoc, hn', hag', hP', hD', hF⟩, st9⟩ := hr T hT XX
  cases he
  have had : ad' = ad := m_ag (n := h.length) (fun i hi => hag' i (by rw [hlen]; exact hi))
  subst had
  cases hoc
  have hAB := m_AB X hD hS
  obtain ⟨k1, k2, k3⟩ := vx_keep h0 e1 hS (fun q _ hq => hAB q hq) hAB hL' hF
  obtain ⟨t2, a1, b1⟩ := kk ad' T'.heap (locs ++ L) lsA (by rw [hlen]; exact hn) (by rw [hlen]; exact hag) (by rw [e1]; exact hP') (hD'.weaken (fun _ q _ hq => hAB q.1 hq)) k3 hL T' rfl X'
  refine ⟨t2, st9 t2 ?_, b1⟩
  rw [m_optmap]
  exact a1
/-- behind a call that may make things -/
theorem m_afterA {h' : m_H} {v : Option Value} {rest stA : List Value} {ad : Nat → Nat} {H : Heap} {locs : List Loc} {lsA : Array Slot} {mc2 ms2 : Nat} {a2 : Array Value} (X : m_At D cI cL sa y cc nL ret A TB p l s m args meth c)
    (hr : va_Run p l e R s m args below meth c H locs cu su mc2 ms2 (F0 m pc lsA stA) (rest.map (m_v ad)) (m_Q D cI cL ad h.length (va_A (m_w cI cL ad h) H.size) (.inl (v, h')) a2) (va_A (m_w cI cL ad h) H.size)) (hlen : h.length ≤ h'.length) (hrb : m_rb h.length ls rest = true)
    (hn : n0 ≤ h.length) (hag : ∀ i, (i < n0 ∨ h.length ≤ i) → ad i = ad0 i) (hD : va_D A (m_w cI cL ad h)) (hS : va_S A s.heap H locs) (hL : lv_has lsA nL (ls.map (fun q => (q.1, m_v ad q.2))))
    (kk : m_Go D cI cL ad0 n0 nL A p l e R s m args below meth c Q (pc + 3) ls (v.toList ++ rest) h' (cu + mc2) (su + ms2)) : W p l e R s m args below meth c H locs cu su Q (F0 m pc lsA stA) := by
  simp only [m_rb, Bool.and_eq_true] at hrb
  intro T hT XX
  obtain ⟨v9, st₀, t, T', L, h0, X', hL', e1, e2, ⟨vv, hf, ad', he, hoc, hn', hag', hP', hD', hF⟩, st9⟩ := hr T hT XX
  cases he
  cases hoc
  have ha : ∀ i, i < h.length → ad' i = ad i := fun i hi => hag' i (Or.inl hi)
  have hAB := m_AB X hD hS
  obtain ⟨k1, k2, k3⟩ := vx_keep h0 e1 hS (fun q _ hq => hAB q hq) hAB hL' hF
  obtain ⟨t2, a1, b1⟩ := kk ad' T'.heap (locs ++ L) lsA (by omega) (fun i hi => (hag' i (by omega)).trans (hag i (by omega))) (by rw [e1]; exact hP') (hD'.weaken (fun _ q _ hq => hAB q.1 hq)) k3 (by rw [m_ls_same ha hrb.1]; exact hL) T' rfl X'
  refine ⟨t2, st9 t2 ?_, b1⟩
  rw [← m_st_same ha hrb.2, m_optmap]
  exact a1
/-! ends -/
theorem m_iret {x : Int32} (X : m_At D cI cL sa y cc nL ret A TB p l s m args meth c) (hd : decode cc pc0 = .ok (.ireturn, 1)) (hr : ret = some .int) (ho : om = .inl (some (.int x), h)) (hc : cu ≤ mc) (hs : su ≤ ms) (hp : pc = pc0) : m_Go D cI cL ad0 n0 nL A p l e R s m args below meth c (m_VQ D cI cL ad0 n0 A om below args s mc ms) pc ls [.int x] h cu su := by
  subst hp
  intro ad H locs lsA hn hag hP hD hS hL
  exact W.widen hc hs (vx_ret (W.iret (m_ex X) (m_cb X) ((m_rt X).trans hr) (fun t ht hW => ⟨_, h, ad, ho, rfl, hn, hag, by rw [ht]; exact hP, hD, hS.F ht⟩) hS.2.2 hd (m_lk X)))
theorem m_zret {x : Int32} {ty : FieldType} (X : m_At D cI cL sa y cc nL ret A TB p l s m args meth c) (hd : decode cc pc0 = .ok (.ireturn, 1)) (hr : ret = some ty) (hx : narrow ty (.int x) = .int x) (ho : om = .inl (some (.int x), h)) (hc : cu ≤ mc) (hs : su ≤ ms) (hp : pc = pc0) : m_Go D cI cL ad0 n0 nL A p l e R s m args below meth c (m_VQ D cI cL ad0 n0 A om below args s mc ms) pc ls [.int x] h cu su := by
  subst hp
  intro ad H locs lsA hn hag hP hD hS hL
  exact W.widen hc hs (vx_ret (W.zret (m_ex X) (m_cb X) ((m_rt X).trans hr) hx (fun t ht hW => ⟨_, h, ad, ho, rfl, hn, hag, by rw [ht]; exact hP, hD, hS.F ht⟩) hS.2.2 hd (m_lk X)))
theorem m_lret {x : Int64} (X : m_At D cI cL sa y cc nL ret A TB p l s m args meth c) (hd : decode cc pc0 = .ok (.lreturn, 1)) (hr : ret = some .long) (ho : om = .inl (some (.long x), h)) (hc : cu ≤ mc) (hs : su ≤ ms) (hp : pc = pc0) : m_Go D cI cL ad0 n0 nL A p l e R s m args below meth c (m_VQ D cI cL ad0 n0 A om below args s mc ms) pc ls [.long x] h cu su := by
  subst hp
  intro ad H locs lsA hn hag hP hD hS hL
  exact W.widen hc hs (vx_ret (W.lret (m_ex X) (m_cb X) ((m_rt X).trans hr) (fun t ht hW => ⟨_, h, ad, ho, rfl, hn, hag, by rw [ht]; exact hP, hD, hS.F ht⟩) hS.2.2 hd (m_lk X)))
theorem m_vret (X : m_At D cI cL sa y cc nL ret A TB p l s m args meth c) (hd : decode cc pc0 = .ok (.return_, 1)) (hr : ret = none) (ho : om = .inl (none, h)) (hc : cu ≤ mc) (hs : su ≤ ms) (hp : pc = pc0) : m_Go D cI cL ad0 n0 nL A p l e R s m args below meth c (m_VQ D cI cL ad0 n0 A om below args s mc ms) pc ls [] h cu su := by
  subst hp
  intro ad H locs lsA hn hag hP hD hS hL
  exact W.widen hc hs (vx_ret (W.vret (m_ex X) (m_cb X) ((m_rt X).trans hr) (fun t ht hW => ⟨_, h, ad, ho, rfl, hn, hag, by rw [ht]; exact hP, hD, hS.F ht⟩) hS.2.2 hd (m_lk X)))

theorem m_callS {M : m_M} {h' : m_H} {v : Option Value} {rest : List Value} {k n : Nat} {as : List Value} (X : m_At D cI cL sa y cc nL ret A TB p l s m args meth c) (hd : decode cc pc0 = .ok (.invokestatic k, 3)) (hk : m_LK y.cls k M) (hK : m_MK M n) (hst : Cond.static (m_My M) ∈ m_ws) (hC : m_Ctr M as h (.inl (v, h'))) (hs9 : st = as.reverse ++ rest) (hn9 : as.length = n) (hlen : h'.length = h.length) (hro : (rest.map fun v => v.category).sum ≤ 8) (hrk : m_Mk M + 1 ≤ R.frames) (hrl : 8 + (m_Ml M + 11) + 32 * m_Mk M ≤ R.locals) (hcc : cu + m_Mc M ≤ R.cells) (hss : su + m_Ms M ≤ R.slots) (hp : pc = pc0)
    (kk : m_Go D cI cL ad0 n0 nL A p l e R s m args below meth c Q (pc0 + 3) ls (v.toList ++ rest) h' (cu + m_Mc M) (su + m_Ms M)) : m_Go D cI cL ad0 n0 nL A p l e R s m args below meth c Q pc ls st h cu su := by
  subst hp
  subst hs9
  intro ad H locs lsA hn hag hP hD hS hL
  have hM := m_met hC l D cI cL sa ad H.size (m_nt X)
  have hpre : PreS s H (m_Pre D cI cL sa ad h H.size as) (as.map (m_v ad)) := ⟨m_blind, m_pre X hP hD hS⟩
  refine (fun hr => m_after X hr hlen hn hag hD hS hL kk) (?_ : va_Run p l e R s m args below meth c H locs cu su _ _ (F0 m pc lsA (((as.reverse ++ rest) : List Value).map (m_v ad))) (rest.map (m_v ad)) (m_Q D cI cL ad h.length (va_A (m_w cI cL ad h) H.size) (.inl (v, h')) (as.map (m_v ad)).toArray) (va_A (m_w cI cL ad h) H.size))
  rcases hk with hk | ⟨host, hk⟩
  · exact va_runS (m_fix X) hM ⟨callB_of n (m_wd X) (m_good hK) rfl rfl rfl (m_wd X _ hK.2.1) (m_wd X _ hk) hK.2.2 ⟨hrk, hrl⟩, m_wd X _ hst⟩ hpre rfl (by rw [List.length_map]; exact hn9) hL.1 (by simp [List.map_append, List.map_reverse]) (lv_room (by rw [m_v_cats]; exact hro)) hd ⟨hcc, hss⟩
  · exact va_runSN (m_fix X) hM ⟨va_cnB n (m_wd X) (m_good hK) rfl rfl rfl ((m_ev X).1 _ hk) (m_wd X _ hK.2.1) hK.2.2 ⟨hrk, hrl⟩, m_wd X _ hst, trivial⟩ hpre rfl (by rw [List.length_map]; exact hn9) hL.1 (by simp [List.map_append, List.map_reverse]) (lv_room (by rw [m_v_cats]; exact hro)) hd ⟨hcc, hss⟩
theorem m_callV {M : m_M} {h' : m_H} {v : Option Value} {rest : List Value} {k n : Nat} {as : List Value} {q : Nat} {ci : Nat} {fs : List Value} (X : m_At D cI cL sa y cc nL ret A TB p l s m args meth c) (hd : decode cc pc0 = .ok (.invokevirtual k, 3)) (hk : m_LK y.cls k M) (hK : m_MK M n) (hin : Cond.instanceMethod (m_My M) ∈ m_ws) (hse : Cond.selects (m_My M).cls (m_My M) (m_My M) ∈ m_ws) (hq : h[q]? = some (m_ob ci fs)) (hci : (m_cl[ci]?).map Prod.fst = some (m_My M).cls) (hC : m_Ctr M (.ref q :: as) h (.inl (v, h'))) (hs9 : st = as.reverse ++ .ref q :: rest) (hn9 : as.length = n) (hlen : h'.length = h.length) (hro : (rest.map fun v => v.category).sum ≤ 8) (hrk : m_Mk M + 1 ≤ R.frames) (hrl : 8 + (m_Ml M + 11) + 32 * m_Mk M ≤ R.locals) (hcc : cu + m_Mc M ≤ R.cells) (hss : su + m_Ms M ≤ R.slots) (hp : pc = pc0)
    (kk : m_Go D cI cL ad0 n0 nL A p l e R s m args below meth c Q (pc0 + 3) ls (v.toList ++ rest) h' (cu + m_Mc M) (su + m_Ms M)) : m_Go D cI cL ad0 n0 nL A p l e R s m args below meth c Q pc ls st h cu su := by
  subst hp
  subst hs9
  intro ad H locs lsA hn hag hP hD hS hL
  have hM := m_met hC l D cI cL sa ad H.size (m_nt X)
  have hrec : ∃ cell : Cell, H[ad q]? = some cell ∧ cell.vm.isStatics = false ∧ s.vm.findClass (m_My M).cls = some cell.cls := by
    cases hcx : m_cl[ci]? with
    | none => rw [hcx] at hci; cases hci
    | some cq =>
      rw [hcx] at hci
      have e9 : cq.1 = (m_My M).cls := Option.some.inj hci
      rw [← e9]
      exact va_recv (m_kn X) hP hcx (m_w_at hq)
  have hpre : PreV s H (m_My M).cls (ad q) (m_Pre D cI cL sa ad h H.size (.ref q :: as)) (as.map (m_v ad)) := ⟨m_blind, hrec, m_pre (as := .ref q :: as) X hP hD hS⟩
  refine (fun hr => m_after X hr hlen hn hag hD hS hL kk) (?_ : va_Run p l e R s m args below meth c H locs cu su _ _ (F0 m pc lsA (((as.reverse ++ .ref q :: rest) : List Value).map (m_v ad))) (rest.map (m_v ad)) (m_Q D cI cL ad h.length (va_A (m_w cI cL ad h) H.size) (.inl (v, h')) (Value.ref (ad q) :: as.map (m_v ad)).toArray) (va_A (m_w cI cL ad h) H.size))
  rcases hk with hk | ⟨host, hk⟩
  · exact va_runV (m_fix X) hM ⟨callB_of n (m_wd X) (m_good hK) rfl rfl rfl (m_wd X _ hK.2.1) (m_wd X _ hk) hK.2.2 ⟨hrk, hrl⟩, m_wd X _ hin, m_wd X _ hse⟩ hpre rfl (by rw [List.length_map]; exact hn9) hL.1 (by simp [List.map_append, List.map_reverse, m_v]) (lv_room (by rw [m_v_cats]; exact hro)) hd ⟨hcc, hss⟩
  · exact va_runVN (m_fix X) hM ⟨va_cnB n (m_wd X) (m_good hK) rfl rfl rfl ((m_ev X).1 _ hk) (m_wd X _ hK.2.1) hK.2.2 ⟨hrk, hrl⟩, m_wd X _ hin, m_wd X _ hse⟩ hpre rfl (by rw [List.length_map]; exact hn9) hL.1 (by simp [List.map_append, List.map_reverse, m_v]) (lv_room (by rw [m_v_cats]; exact hro)) hd ⟨hcc, hss⟩
theorem m_callI {M : m_M} {h' : m_H} {v : Option Value} {rest : List Value} {k n : Nat} {as : List Value} {q : Nat} (X : m_At D cI cL sa y cc nL ret A TB p l s m args meth c) (hd : decode cc pc0 = .ok (.invokespecial k, 3)) (hk : m_LK y.cls k M) (hK : m_MK M n) (hin : Cond.instanceMethod (m_My M) ∈ m_ws) (hini : (m_My M).name = "<init>") (hrn : m_Mr M = none) (hC : m_Ctr M (.ref q :: as) h (.inl (v, h'))) (hs9 : st = as.reverse ++ .ref q :: rest) (hn9 : as.length = n) (hlen : h.length ≤ h'.length) (hrb : m_rb h.length ls rest = true) (hro : (rest.map fun v => v.category).sum ≤ 8) (hrk : m_Mk M + 1 ≤ R.frames) (hrl : 8 + (m_Ml M + 11) + 32 * m_Mk M ≤ R.locals) (hcc : cu + m_Mc M ≤ R.cells) (hss : su + m_Ms M ≤ R.slots) (hp : pc = pc0)
    (kk : m_Go D cI cL ad0 n0 nL A p l e R s m args below meth c Q (pc0 + 3) ls (v.toList ++ rest) h' (cu + m_Mc M) (su + m_Ms M)) : m_Go D cI cL ad0 n0 nL A p l e R s m args below meth c Q pc ls st h cu su := by
  subst hp
  subst hs9
  intro ad H locs lsA hn hag hP hD hS hL
  have hM := m_met hC l D cI cL sa ad H.size (m_nt X)
  have hpre : PreS s H (m_Pre D cI cL sa ad h H.size (.ref q :: as)) (.ref (ad q) :: as.map (m_v ad)) := ⟨m_blind, m_pre (as := .ref q :: as) X hP hD hS⟩
  obtain ⟨My, Mb, Ml, Mr, Mk, Mc, Ms⟩ := M
  cases hrn
  refine (fun hr => m_afterA X hr hlen hrb hn hag hD hS hL kk) (?_ : va_Run p l e R s m args below meth c H locs cu su _ _ (F0 m pc lsA (((as.reverse ++ .ref q :: rest) : List Value).map (m_v ad))) (rest.map (m_v ad)) (m_Q D cI cL ad h.length (va_A (m_w cI cL ad h) H.size) (.inl (v, h')) (Value.ref (ad q) :: as.map (m_v ad)).toArray) (va_A (m_w cI cL ad h) H.size))
  rcases hk with hk | ⟨host, hk⟩
  · exact va_runI (m_fix X) hM ⟨callB_of n (m_wd X) (m_good hK) rfl rfl rfl (m_wd X _ hK.2.1) (m_wd X _ hk) hK.2.2 ⟨hrk, hrl⟩, hini, m_wd X _ hin⟩ hpre rfl (by rw [List.length_map]; exact hn9) hL.1 (by simp [List.map_append, List.map_reverse, m_v]) (lv_room (by rw [m_v_cats]; exact hro)) hd ⟨hcc, hss⟩
  · exact va_runIN (m_fix X) hM ⟨va_cnB n (m_wd X) (m_good hK) rfl rfl rfl ((m_ev X).1 _ hk) (m_wd X _ hK.2.1) hK.2.2 ⟨hrk, hrl⟩, hini, m_wd X _ hin⟩ hpre rfl (by rw [List.length_map]; exact hn9) hL.1 (by simp [List.map_append, List.map_reverse, m_v]) (lv_room (by rw [m_v_cats]; exact hro)) hd ⟨hcc, hss⟩
theorem m_callH {M : m_M} {hh : List (Nat × Nat × Nat × Nat)} {h' : m_H} {v : Option Value} {rest : List Value} {k n : Nat} {as : List Value} (X : m_At D cI cL sa y cc nL ret A TB p l s m args meth c) (hd : decode cc pc0 = .ok (.invokestatic k, 3)) (hk : Cond.methodLink y.cls k (m_My M) ∈ m_ws) (hK : m_MKH M hh n) (hst : Cond.static (m_My M) ∈ m_ws) (hC : m_CtrH M hh as h (.inl (v, h'))) (hs9 : st = as.reverse ++ rest) (hn9 : as.length = n) (hlen : h'.length = h.length) (hro : (rest.map fun v => v.category).sum ≤ 8) (hrk : m_Mk M + 1 ≤ R.frames) (hrl : 8 + (m_Ml M + 11) + 32 * m_Mk M ≤ R.locals) (hcc : cu + m_Mc M ≤ R.cells) (hss : su + m_Ms M ≤ R.slots) (hp : pc = pc0)
    (kk : m_Go D cI cL ad0 n0 nL A p l e R s m args below meth c Q (pc0 + 3) ls (v.toList ++ rest) h' (cu + m_Mc M) (su + m_Ms M)) : m_Go D cI cL ad0 n0 nL A p l e R s m args below meth c Q pc ls st h cu su := by
  subst hp
  subst hs9
  intro ad H locs lsA hn hag hP hD hS hL
  have hM := m_metH hC l D cI cL sa ad H.size (m_nt X)
  have hpre : PreS s H (m_Pre D cI cL sa ad h H.size as) (as.map (m_v ad)) := ⟨m_blind, m_pre X hP hD hS⟩
  have hG : GoodIn m_ws (m_WsH M hh) := fun w hw => by
    rcases List.mem_cons.mp hw with rfl | hw
    · exact ⟨hK.1, good_of_word (m_ws_good hK.1)⟩
    · exact ⟨hw, good_of_word (m_ws_good hw)⟩
  refine (fun hr => m_after X hr hlen hn hag hD hS hL kk) (?_ : va_Run p l e R s m args below meth c H locs cu su _ _ (F0 m pc lsA (((as.reverse ++ rest) : List Value).map (m_v ad))) (rest.map (m_v ad)) (m_Q D cI cL ad h.length (va_A (m_w cI cL ad h) H.size) (.inl (v, h')) (as.map (m_v ad)).toArray) (va_A (m_w cI cL ad h) H.size))
  refine vx_runSW (hh := hh) (bytes := m_Mb M) (maxL := m_Ml M) (ret := m_Mr M) (n := n) (m_fix X) hM ⟨⟨rfl, rfl, hrk, hrl, pay_in (m_wd X) hG, List.mem_cons_self⟩, m_wd X _ hK.1, m_wd X _ hK.2.1, ⟨hK.2.2.1, hK.2.2.2.1⟩, fun sig h9 => ?_, m_wd X _ hk, m_wd X _ hst⟩ hpre rfl (by rw [List.length_map]; exact hn9) hL.1 (by simp [List.map_append, List.map_reverse]) (lv_room (by rw [m_v_cats]; exact hro)) hd ⟨hcc, hss⟩
  have h2 := hK.2.2.2.2
  rw [h9] at h2
  exact (Option.some.inj h2).symm
theorem m_thS_x {M : m_M} {h' : m_H} {E : String} {rest : List Value} {k n : Nat} {as : List Value} (X : m_At D cI cL sa y cc nL ret A TB p l s m args meth c) (hd : decode cc pc0 = .ok (.invokestatic k, 3)) (hk : Cond.methodLink y.cls k (m_My M) ∈ m_ws) (hK : m_MK M n) (hst : Cond.static (m_My M) ∈ m_ws) (hC : m_Ctr M as h (.inr (E, h'))) (hs9 : st = as.reverse ++ rest) (hn9 : as.length = n) (hlen : h'.length = h.length) (hro : (rest.map fun v => v.category).sum ≤ 8) (hrk : m_Mk M + 1 ≤ R.frames) (hrl : 8 + (m_Ml M + 11) + 32 * m_Mk M ≤ R.locals) (hcc : cu + m_Mc M ≤ R.cells) (hss : su + m_Ms M ≤ R.slots) (hp : pc = pc0)
    (kx : ∀ (ad : Nat → Nat) (H1 : Heap) (locs1 : List Loc) (lsA : Array Slot) (q9 : Addr) (ce : Cell), n0 ≤ h'.length → (∀ i, (i < n0 ∨ h'.length ≤ i) → ad i = ad0 i) → va_P D m_cl (m_w cI cL ad h') H1 → va_D A (m_w cI cL ad h') → va_S A s.heap H1 locs1 → lv_has lsA nL (ls.map (fun q => (q.1, m_v ad q.2))) → H1[q9]? = some ce → ce.vm = .none → s.vm.findClass E = some ce.cls → vx_W p l e R s m args below meth c H1 locs1 (cu + m_Mc M) (su + m_Ms M) Q (F0 m pc0 lsA (rest.map (m_v ad))) q9) : m_Go D cI cL ad0 n0 nL A p l e R s m args below meth c Q pc ls st h cu su := by
  subst hp
  subst hs9
  intro ad H locs lsA hn hag hP hD hS hL
  have hM := hC l D cI cL sa ad H.size (m_nt X)
  have hpre : PreS s H (m_Pre D cI cL sa ad h H.size as) (as.map (m_v ad)) := ⟨m_blind, m_pre X hP hD hS⟩
  have hr : vx_Run p l e R s m args below meth c H locs cu su _ _ (F0 m pc lsA (((as.reverse ++ rest) : List Value).map (m_v ad))) (rest.map (m_v ad)) _ _ _ := vx_runS (m_fix X) hM ⟨callB_of n (m_wd X) (m_good hK) rfl rfl rfl (m_wd X _ hK.2.1) (m_wd X _ hk) hK.2.2 ⟨hrk, hrl⟩, m_wd X _ hst⟩ hpre rfl (by rw [List.length_map]; exact hn9) hL.1 (by simp [List.map_append, List.map_reverse]) (lv_room (by rw [m_v_cats]; exact hro)) hd ⟨hcc, hss⟩
  intro T hT XX
  rcases hr T hT XX with ⟨v9, st₀, t, T', L, h0, X', hL', e1, e2, ⟨vv, hf, ad', he, -⟩, -⟩ | ⟨q9, st₀, t, T', L, E9, ce, h0, X', hL', e1, e2, ⟨hf, ad', he, hn', hag', hP', hD', hF⟩, hce, hcv, hcl, st9⟩
  · cases he
  · cases he
    have had : ad' = ad := m_ag (n := h.length) (fun i hi => hag' i (by rw [hlen]; exact hi))
    subst had
    have hAB := m_AB X hD hS
    obtain ⟨k1, k2, k3⟩ := vx_keep h0 e1 hS (fun q _ hq => hAB q hq) hAB hL' hF
    obtain ⟨t2, a1, b1⟩ := kx ad' T'.heap (locs ++ L) lsA q9 ce (by rw [hlen]; exact hn) (by rw [hlen]; exact hag) (by rw [e1]; exact hP') (hD'.weaken (fun _ q _ hq => hAB q.1 hq)) k3 hL (by rw [e1]; exact hce) hcv hcl T' rfl X'
    exact ⟨t2, st9.trans a1, b1⟩
theorem m_thrS {M : m_M} {h' : m_H} {E : String} {rest : List Value} {k n : Nat} {as : List Value} (X : m_At D cI cL sa y cc nL ret A TB p l s m args meth c) (hd : decode cc pc0 = .ok (.invokestatic k, 3)) (hk : Cond.methodLink y.cls k (m_My M) ∈ m_ws) (hK : m_MK M n) (hst : Cond.static (m_My M) ∈ m_ws) (hC : m_Ctr M as h (.inr (E, h'))) (hs9 : st = as.reverse ++ rest) (hn9 : as.length = n) (hlen : h'.length = h.length) (hro : (rest.map fun v => v.category).sum ≤ 8) (hrk : m_Mk M + 1 ≤ R.frames) (hrl : 8 + (m_Ml M + 11) + 32 * m_Mk M ≤ R.locals) (hcc : cu + m_Mc M ≤ R.cells) (hss : su + m_Ms M ≤ R.slots) (hp : pc = pc0) (htb : TB = []) (ho : om = .inr (E, h')) (hmc : cu + m_Mc M ≤ mc) (hms : su + m_Ms M ≤ ms) : m_Go D cI cL ad0 n0 nL A p l e R s m args below meth c (m_VQ D cI cL ad0 n0 A om below args s mc ms) pc ls st h cu su := by
  refine m_thS_x X hd hk hK hst hC hs9 hn9 hlen hro hrk hrl hcc hss hp (fun ad H1 locs1 lsA q9 ce hn hag hP hD hS hL hce hcv hcl => ?_)
  refine vx_widen hmc hms (vx_out (fun x hx => ?_) (m_lk X) hce hcv hcl (fun t ht hal => ⟨h', ad, ho, hn, hag, by rw [ht]; exact hP, hD, hS.F ht⟩) hS.2.2 (Nat.le_refl _) (Nat.le_refl _))
  rw [m_tb X, htb] at hx
  cases hx
theorem m_thV_x {M : m_M} {h' : m_H} {E : String} {rest : List Value} {k n : Nat} {as : List Value} {q : Nat} {ci : Nat} {fs : List Value} (X : m_At D cI cL sa y cc nL ret A TB p l s m args meth c) (hd : decode cc pc0 = .ok (.invokevirtual k, 3)) (hk : Cond.methodLink y.cls k (m_My M) ∈ m_ws) (hK : m_MK M n) (hin : Cond.instanceMethod (m_My M) ∈ m_ws) (hse : Cond.selects (m_My M).cls (m_My M) (m_My M) ∈ m_ws) (hq : h[q]? = some (m_ob ci fs)) (hci : (m_cl[ci]?).map Prod.fst = some (m_My M).cls) (hC : m_Ctr M (.ref q :: as) h (.inr (E, h'))) (hs9 : st = as.reverse ++ .ref q :: rest) (hn9 : as.length = n) (hlen : h'.length = h.length) (hro : (rest.map fun v => v.category).sum ≤ 8) (hrk : m_Mk M + 1 ≤ R.frames) (hrl : 8 + (m_Ml M + 11) + 32 * m_Mk M ≤ R.locals) (hcc : cu + m_Mc M ≤ R.cells) (hss : su + m_Ms M ≤ R.slots) (hp : pc = pc0)
    (kx : ∀ (ad : Nat → Nat) (H1 : Heap) (locs1 : List Loc) (lsA : Array Slot) (q9 : Addr) (ce : Cell), n0 ≤ h'.length → (∀ i, (i < n0 ∨ h'.length ≤ i) → ad i = ad0 i) → va_P D m_cl (m_w cI cL ad h') H1 → va_D A (m_w cI cL ad h') → va_S A s.heap H1 locs1 → lv_has lsA nL (ls.map (fun q => (q.1, m_v ad q.2))) → H1[q9]? = some ce → ce.vm = .none → s.vm.findClass E = some ce.cls → vx_W p l e R s m args below meth c H1 locs1 (cu + m_Mc M) (su + m_Ms M) Q (F0 m pc0 lsA (rest.map (m_v ad))) q9) : m_Go D cI cL ad0 n0 nL A p l e R s m args below meth c Q pc ls st h cu su := by
  subst hp
  subst hs9
  intro ad H locs lsA hn hag hP hD hS hL
  have hM := hC l D cI cL sa ad H.size (m_nt X)
  have hrec : ∃ cell : Cell, H[ad q]? = some cell ∧ cell.vm.isStatics = false ∧ s.vm.findClass (m_My M).cls = some cell.cls := by
    cases hcx : m_cl[ci]? with
    | none => rw [hcx] at hci; cases hci
    | some cq =>
      rw [hcx] at hci
      have e9 : cq.1 = (m_My M).cls := Option.some.inj hci
      rw [← e9]
      exact va_recv (m_kn X) hP hcx (m_w_at hq)
  have hpre : PreV s H (m_My M).cls (ad q) (m_Pre D cI cL sa ad h H.size (.ref q :: as)) (as.map (m_v ad)) := ⟨m_blind, hrec, m_pre (as := .ref q :: as) X hP hD hS⟩
  have hr : vx_Run p l e R s m args below meth c H locs cu su _ _ (F0 m pc lsA (((as.reverse ++ .ref q :: rest) : List Value).map (m_v ad))) (rest.map (m_v ad)) _ _ _ := vx_runV (m_fix X) hM ⟨callB_of n (m_wd X) (m_good hK) rfl rfl rfl (m_wd X _ hK.2.1) (m_wd X _ hk) hK.2.2 ⟨hrk, hrl⟩, m_wd X _ hin, m_wd X _ hse⟩ hpre rfl (by rw [List.length_map]; exact hn9) hL.1 (by simp [List.map_append, List.map_reverse, m_v]) (lv_room (by rw [m_v_cats]; exact hro)) hd ⟨hcc, hss⟩
  intro T hT XX
  rcases hr T hT XX with ⟨v9, st₀, t, T', L, h0, X', hL', e1, e2, ⟨vv, hf, ad', he, -⟩, -⟩ | ⟨q9, st₀, t, T', L, E9, ce, h0, X', hL', e1, e2, ⟨hf, ad', he, hn', hag', hP', hD', hF⟩, hce, hcv, hcl, st9⟩
  · cases he
  · cases he
    have had : ad' = ad := m_ag (n := h.length) (fun i hi => hag' i (by rw [hlen]; exact hi))
    subst had
    have hAB := m_AB X hD hS
    obtain ⟨k1, k2, k3⟩ := vx_keep h0 e1 hS (fun q _ hq => hAB q hq) hAB hL' hF
    obtain ⟨t2, a1, b1⟩ := kx ad' T'.heap (locs ++ L) lsA q9 ce (by rw [hlen]; exact hn) (by rw [hlen]; exact hag) (by rw [e1]; exact hP') (hD'.weaken (fun _ q _ hq => hAB q.1 hq)) k3 hL (by rw [e1]; exact hce) hcv hcl T' rfl X'
    exact ⟨t2, st9.trans a1, b1⟩
theorem m_thrV {M : m_M} {h' : m_H} {E : String} {rest : List Value} {k n : Nat} {as : List Value} {q : Nat} {ci : Nat} {fs : List Value} (X : m_At D cI cL sa y cc nL ret A TB p l s m args meth c) (hd : decode cc pc0 = .ok (.invokevirtual k, 3)) (hk : Cond.methodLink y.cls k (m_My M) ∈ m_ws) (hK : m_MK M n) (hin : Cond.instanceMethod (m_My M) ∈ m_ws) (hse : Cond.selects (m_My M).cls (m_My M) (m_My M) ∈ m_ws) (hq : h[q]? = some (m_ob ci fs)) (hci : (m_cl[ci]?).map Prod.fst = some (m_My M).cls) (hC : m_Ctr M (.ref q :: as) h (.inr (E, h'))) (hs9 : st = as.reverse ++ .ref q :: rest) (hn9 : as.length = n) (hlen : h'.length = h.length) (hro : (rest.map fun v => v.category).sum ≤ 8) (hrk : m_Mk M + 1 ≤ R.frames) (hrl : 8 + (m_Ml M + 11) + 32 * m_Mk M ≤ R.locals) (hcc : cu + m_Mc M ≤ R.cells) (hss : su + m_Ms M ≤ R.slots) (hp : pc = pc0) (htb : TB = []) (ho : om = .inr (E, h')) (hmc : cu + m_Mc M ≤ mc) (hms : su + m_Ms M ≤ ms) : m_Go D cI cL ad0 n0 nL A p l e R s m args below meth c (m_VQ D cI cL ad0 n0 A om below args s mc ms) pc ls st h cu su := by
  refine m_thV_x X hd hk hK hin hse hq hci hC hs9 hn9 hlen hro hrk hrl hcc hss hp (fun ad H1 locs1 lsA q9 ce hn hag hP hD hS hL hce hcv hcl => ?_)
  refine vx_widen hmc hms (vx_out (fun x hx => ?_) (m_lk X) hce hcv hcl (fun t ht hal => ⟨h', ad, ho, hn, hag, by rw [ht]; exact hP, hD, hS.F ht⟩) hS.2.2 (Nat.le_refl _) (Nat.le_refl _))
  rw [m_tb X, htb] at hx
  cases hx
theorem m_throw {ik is ic j : Nat} {E text : String} {names : List String} (X : m_At D cI cL sa y cc nL ret A TB p l s m args meth c) (d0 : decode cc pc0 = .ok (.new ik, 3)) (d3 : decode cc (pc0 + 3) = .ok (.dup, 1)) (d4 : decode cc (pc0 + 4) = .ok (.ldc is, 2)) (d6 : decode cc (pc0 + 6) = .ok (.invokespecial ic, 3)) (d9 : decode cc (pc0 + 9) = .ok (.athrow, 1))
    (hE : Bundle.fit E = true) (hnm : ∀ n ∈ names, Bundle.fit n = true) (h1 : Cond.classLink y.cls ik E ∈ m_ws) (h2 : Cond.initialized E ∈ m_ws) (hj : m_str[j]? = some (y.cls, is, text)) (hat : ∀ w ∈ vx_atS y.cls ic E names, w ∈ m_ws ∨ w ∈ m_nw) (htb : TB = [])
    (hfr : names.length + 3 < R.frames) (hlo : (st.map fun v => v.category).sum + (13 * (names.length + 1) + 43) ≤ R.locals) (hcc : cu + 1 ≤ R.cells) (hss : su + 6 ≤ R.slots) (ho : om = .inr (E, h)) (hmc : cu + 1 ≤ mc) (hms : su + 6 ≤ ms) (hp : pc = pc0) : m_Go D cI cL ad0 n0 nL A p l e R s m args below meth c (m_VQ D cI cL ad0 n0 A om below args s mc ms) pc ls st h cu su := by
  subst hp
  intro ad H locs lsA hn hag hP hD hS hL
  have hw : ∀ w ∈ vx_atS y.cls ic E names, w.before args s = true := fun w hw => by
    rcases hat w hw with h9 | h9
    · exact m_wd X _ h9
    · exact va_Nw.use (m_isN_on (m_nw_is h9)) ((m_ev X).1 _ h9)
  have hg : ∀ w ∈ Cond.classLink y.cls ik E :: Cond.initialized E :: vx_atS y.cls ic E names, vx_ot w = true := fun w hw => by
    have g1 : w ∈ m_ws ∨ w ∈ m_nw := by
      rcases List.mem_cons.mp hw with rfl | hw
      · exact Or.inl h1
      · rcases List.mem_cons.mp hw with rfl | hw
        · exact Or.inl h2
        · exact hat w hw
    unfold vx_ot
    rcases g1 with g | g
    · rw [m_ws_good g, Bool.or_true]
    · rw [m_isN_on (m_nw_is g), Bool.true_or]
  exact vx_throwS (A := A) (m_ex X) (m_cb X) (m_nt X) (m_ow X) hE hnm (m_wd X _ h1) (m_wd X _ h2) ((m_ev X).2.1 j _ hj) hw hg (m_ev X).2.2.1 (m_ev X).2.2.2 hS (hL.1.trans (m_ml X).symm) d0 d3 d4 d6 d9 (fun x hx => by rw [m_tb X, htb] at hx; cases hx) hfr (by rw [m_v_cats]; exact hlo) hcc hss (m_lk X)
    (fun t hal hz hk => ⟨h, ad, ho, hn, hag, fun k q hkq => (hP k q hkq).kept (hk q.1 (hP k q hkq).lt), hD, ⟨Nat.le_trans hS.1 hz, fun q h1 h2 => (hk q (Nat.lt_of_lt_of_le h1 hS.1)).trans (hS.2.1 q h1 h2)⟩⟩) hS.2.2 hmc hms
end MC
end

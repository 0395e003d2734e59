section LA10
theorem m_inst : ∀ (k : Nat) (C : String) (T : u_T) (N : Nat), m_cl[k]? = some (C, T, N) → Cond.instantiable C N ∈ m_ws := by
  intro k C T N h
  match k, h with
  | 0, h => cases h; exact ni_X0
  | 1, h => cases h; exact ni_X1
  | 2, h => cases h; exact ni_X2
  | 3, h => cases h; exact ni_X3
  | 4, h => cases h; exact ni_X4
  | 5, h => cases h; exact ni_X5
  | k + 6, h => cases h
theorem m_hflag {l : Launch} (hflags : l.flags = flags0) : l.stackTraces = false := by
  unfold Launch.stackTraces
  rw [hflags]
  decide +kernel
theorem sw_0 : Cond.stringRef "BatchDoser" 193 "no such bin" ∈ lw_tbl := by decide +kernel
theorem sw_1 : Cond.stringRef "BatchDoser" 197 "out of range" ∈ lw_tbl := by decide +kernel
theorem sw_2 : Cond.stringRef "BatchDoser" 202 "not now" ∈ lw_tbl := by decide +kernel
theorem sw_3 : Cond.stringRef "BatchDoser" 186 "no such lot" ∈ lw_tbl := by decide +kernel
theorem sw_4 : Cond.stringRef "BatchDoser" 191 "no such batch" ∈ lw_tbl := by decide +kernel
theorem zw_0 : Cond.laysStatic Bundle.tN "UNASSIGNED_STACK" Bundle.steD ∈ lw_tbl := by decide +kernel
theorem zw_1 : Cond.laysStatic Bundle.tN "SUPPRESSED_SENTINEL" Bundle.listD ∈ lw_tbl := by decide +kernel
theorem zw_2 : Cond.initialized Bundle.tN ∈ lw_tbl := by decide +kernel
theorem lw_env {s : State} {b : Nat} (hts : ∀ w ∈ lw_tbl, w.before #[Value.ref b] s = true) (hgv : (Jvm.Cond.and given_1 narrow_1).before #[Value.ref b] s = true) : ∃ sa : Nat → Nat, m_Env (fun q : Nat => s.heap.size ≤ q) sa s s.heap := by
  have hs := flat_of_before _ hgv
  obtain ⟨t0, -, -, -, u0, -⟩ := Cond.exactly_spec (show (Cond.exactly (.string "BatchDoser" 193) "java/lang/String").before #[Value.ref b] s = true from hs _ (by decide +kernel))
  obtain ⟨t1, -, -, -, u1, -⟩ := Cond.exactly_spec (show (Cond.exactly (.string "BatchDoser" 197) "java/lang/String").before #[Value.ref b] s = true from hs _ (by decide +kernel))
  obtain ⟨t2, -, -, -, u2, -⟩ := Cond.exactly_spec (show (Cond.exactly (.string "BatchDoser" 202) "java/lang/String").before #[Value.ref b] s = true from hs _ (by decide +kernel))
  obtain ⟨t3, -, -, -, u3, -⟩ := Cond.exactly_spec (show (Cond.exactly (.string "BatchDoser" 186) "java/lang/String").before #[Value.ref b] s = true from hs _ (by decide +kernel))
  obtain ⟨t4, -, -, -, u4, -⟩ := Cond.exactly_spec (show (Cond.exactly (.string "BatchDoser" 191) "java/lang/String").before #[Value.ref b] s = true from hs _ (by decide +kernel))
  refine ⟨fun k => match k with | 0 => t0 | 1 => t1 | 2 => t2 | 3 => t3 | _ => t4, fun w hw => va_Nw.of (m_isN_on (m_nw_is hw)) (hts w (List.mem_filter.mp hw).1), fun k q hq => ?_, ?_, ?_⟩
  · match k, hq with
    | 0, hq => cases hq; exact vk_R.of (hts _ sw_0) u0
    | 1, hq => cases hq; exact vk_R.of (hts _ sw_1) u1
    | 2, hq => cases hq; exact vk_R.of (hts _ sw_2) u2
    | 3, hq => cases hq; exact vk_R.of (hts _ sw_3) u3
    | 4, hq => cases hq; exact vk_R.of (hts _ sw_4) u4
    | k + 5, hq => cases hq
  · exact vx_Zqof (hts _ zw_0) (hts _ zw_2) (hs _ (by decide +kernel)) (fun q h1 => Nat.not_le.mpr h1)
  · exact vx_Zqof (hts _ zw_1) (hts _ zw_2) (hs _ (by decide +kernel)) (fun q h1 => Nat.not_le.mpr h1)
theorem lw_kn {s : State} {b : Nat} (hwd : ∀ w ∈ m_ws, w.before #[Value.ref b] s = true) : ∃ (D : va_G) (cI cL : ClassId), va_K D m_cl (m_tys cI cL) s := by
  obtain ⟨c5, i5, -⟩ := u_known (C := RX5) (T := TX5) (N := 6) hwd (m_cl_ok 5 RX5 TX5 6 rfl).1 (hwd _ (m_inst 5 RX5 TX5 6 rfl))
  have hk : ∀ k : Nat, ∃ (cC : ClassId) (iS : Nat → Nat), ∀ q : vw_C, m_cl[k]? = some q → u_Kn s q.1 q.2.1 q.2.2 cC iS := by
    intro k
    cases hq : m_cl[k]? with
    | none => exact ⟨c5, i5, fun q h => by cases h⟩
    | some q =>
      obtain ⟨C, T, N⟩ := q
      obtain ⟨cC, iS, h⟩ := u_known hwd (m_cl_ok k C T N hq).1 (hwd _ (m_inst k C T N hq))
      exact ⟨cC, iS, fun q h9 => by cases h9; exact h⟩
  obtain ⟨cI, kI9, compI, h1, h2, h3⟩ := Cond.arrayClass_spec (hwd _ aw_int)
  refine ⟨(fun k => (hk k).choose, fun k => (hk k).choose_spec.choose), cI, cI, fun k q hq => (hk k).choose_spec.choose_spec q hq, fun k q hq => ?_⟩
  match k, hq with
  | 0, hq => cases hq; exact ⟨fun n z => ⟨fun k h => (by cases h), kI9, h2, compI, h3⟩, h1⟩
  | k + 1, hq => cases hq
theorem lw_go {D : va_G} {cI cL : ClassId} {sa : Nat → Nat} {yn yd : String} {TB : List ExceptionTableEntry} {p : Program} {l : Launch} {e : Env} {s : State} {m : MethodId} {below : List Frame} {meth : Method} {c : Code} {b L : Nat} {xs : Nat → Int32} (X : m_At D cI cL sa ⟨RL, yn, yd⟩ code 1 ret (fun q : Nat => s.heap.size ≤ q) TB p l s m #[Value.ref b] meth c) (hX : va_X b L xs s s.heap) (hbl : b < s.heap.size) (hL : L < 2 ^ 31) : m_Go D cI cL (fun _ => b) 0 1 (fun q : Nat => s.heap.size ≤ q) p l e room_1 s m #[Value.ref b] below meth c (lw_Z below #[Value.ref b] s) 0 [(0, .ref m_BI)] [] [] 0 0 := by
  have hbA : ¬ (fun q : Nat => s.heap.size ≤ q) b := Nat.not_le.mpr hbl
  refine m_aload_n X dL_law_0 rfl rfl ?_
  refine m_lp (l1 := []) [] rfl ?_
  refine m_callGHA (M := M_L_isHeld) (hh := H_L_isHeld) (as := [.ref m_BI]) (rest := []) X dL_law_1 ll_L_178 mk_L_isHeld st_L_isHeld (c_L_isHeld hL) m_Bl_Sc (fun ad H locs hag hD hS U hU hW => m_scr X hX hbl hbA rfl (Nat.le_of_ble_eq_true rfl) ad H locs hag hD hS U hU hW) rfl rfl (fun v h' q => Nat.zero_le _) rfl (Nat.le_of_ble_eq_true rfl) (Nat.le_of_ble_eq_true rfl) (Nat.le_of_ble_eq_true rfl) (Nat.le_of_ble_eq_true rfl) (Nat.le_of_ble_eq_true rfl) rfl (fun v h' q => ?_)
  obtain ⟨rfl, -⟩ := q
  intro ad H locs lsA hn hag hP hD hS hL9
  exact va_forget (fun q hq => hS.2.2 q hq) (W.widen (Nat.le_of_ble_eq_true rfl) (Nat.le_of_ble_eq_true rfl) (lw_ret (m_ex X) (m_cb X) (m_rt X) (m_lk X) dL_law_4))
theorem whole_start {p : Program} {e : Env} {s : State} {m : MethodId} {below : List Frame} {meth : Method} {c : Code} (l : Launch) (hflags : l.flags = flags0) {b L : Nat} {xs : Nat → Int32} (hL : L ≤ 260) (C0 : lw_At p s m meth c b L xs) : W p l e room_1 s m #[Value.ref b] below meth c s.heap [] 0 0 (lw_Z below #[Value.ref b] s) (entryFrame m ([Value.ref b] : List Value).toArray 1) := by
  obtain ⟨hx, hb, hr, hml, hown, hts, hX, hbl, hlocks, hgv⟩ := C0
  have hwd : ∀ w ∈ m_ws, w.before #[Value.ref b] s = true := fun w hw => hts w (List.mem_filter.mp hw).1
  obtain ⟨sa, hE⟩ := lw_env hts hgv
  obtain ⟨D, cI, cL, hK⟩ := lw_kn hwd
  have X : m_At D cI cL sa ⟨RL, meth.name, ""⟩ code 1 ret (fun q : Nat => s.heap.size ≤ q) c.exceptionTable.toList p l s m #[Value.ref b] meth c :=
    ⟨hx, hb, hml, hr, hlocks, rfl, hown, hwd, hK, hE, fun q h9 => h9, m_hflag hflags, rfl⟩
  have G := lw_go (below := below) (e := e) X hX hbl (by omega)
  have hl := lv_entry ([.ref b]) (n := 1) (Nat.le_of_ble_eq_true rfl)
  rw [lg_entry_eq]
  exact G (fun _ => b) s.heap [] _ (Nat.zero_le _) (fun _ _ => rfl) (fun k q h9 => by simp [m_w] at h9) ⟨fun i j p q h9 => by simp [m_w] at h9, fun k q h9 => by simp [m_w] at h9⟩ va_S.rf hl
end LA10

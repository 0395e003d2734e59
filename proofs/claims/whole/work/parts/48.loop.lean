section ML4
variable {D : va_G} {cI cL : ClassId} {sa : Nat → Nat} {yn yd : String} {TB : List ExceptionTableEntry} {p : Program} {l : Launch} {e : Env} {s : State} {m : MethodId} {below : List Frame} {meth : Method} {c : Code} {b L : Nat} {xs : Nat → Int32} {n LL BB i cu su : Nat} {v : m_V} {a : m_R} {x : Int64} {lq : Int32} {f : Nat → Int64}
theorem lw_out {ls : List (Nat × Value)} {h : m_H} (X : m_At D cI cL sa ⟨RL, yn, yd⟩ code 8 ret (fun q : Nat => s.heap.size ≤ q) TB p l s m #[Value.ref b] meth c) (hcu : cu ≤ 1061) (hsu : su ≤ 9782) : m_Go D cI cL (fun _ => b) 0 8 (fun q : Nat => s.heap.size ≤ q) p l e room_1 s m #[Value.ref b] below meth c (lw_Z below #[Value.ref b] s) 1495 ls [.int 1] h cu su := by
  intro ad H locs lsA hn hag hP hD hS hL
  exact va_forget (fun q hq => hS.2.2 q hq) (W.widen hcu hsu (lw_ret (m_ex X) (m_cb X) (m_rt X) (m_lk X) dL_law_1495))
theorem lw_turn (X : m_At D cI cL sa ⟨RL, yn, yd⟩ code 8 ret (fun q : Nat => s.heap.size ≤ q) TB p l s m #[Value.ref b] meth c) (hN : ∀ q ∈ m_ncs, va_Nc q.1 q.2 s) (hX : va_X b L xs s s.heap) (hbl : b < s.heap.size) (hbA : ¬ (fun q : Nat => s.heap.size ≤ q) b) (hL9 : L ≤ 2048) (hi : 4 * i + 4 ≤ L) (h : Inv n LL BB v a) (hn : n ≤ 50 * i) (hcu : cu ≤ 32 + i) (hsu : su ≤ 1560 + 6 * i) (ih : lw_next D cI cL p l e s m below meth c b (i + 1)) {z : Int32} : m_Go D cI cL (fun _ => b) 0 8 (fun q : Nat => s.heap.size ≤ q) p l e room_1 s m #[Value.ref b] below meth c (lw_Z below #[Value.ref b] s) 39 [(4, .int (nI (4 * i))), (3, .ref 31), (2, .ref 17), (1, .ref 0), (0, .ref m_BI)] [.int z] (hL v a x v a x lq [m_la 1 f]) cu su := by
  by_cases hz : 0 ≤ z.toInt ∧ z.toInt ≤ 29
  · obtain ⟨j, hj, ez⟩ : ∃ j : Nat, j < 30 ∧ z.toInt = (j : Int) := ⟨z.toInt.toNat, by omega, by omega⟩
    match j, hj with
    | 0, _ =>
      refine m_tabIn (tgt := 172) (off := 133) X dL_law_39 (by rw [ez]; decide) (by rw [ez]; decide) (by rw [ez]; rfl) (by decide) rfl ?_
      exact lw_c0 X hN hX hbl hbA hL9 hi h hn hcu hsu ih
    | 1, _ =>
      refine m_tabIn (tgt := 228) (off := 189) X dL_law_39 (by rw [ez]; decide) (by rw [ez]; decide) (by rw [ez]; rfl) (by decide) rfl ?_
      exact lw_c1 X hN hX hbl hbA hL9 hi h hn hcu hsu ih
    | 2, _ =>
      refine m_tabIn (tgt := 296) (off := 257) X dL_law_39 (by rw [ez]; decide) (by rw [ez]; decide) (by rw [ez]; rfl) (by decide) rfl ?_
      exact lw_c2 X hN hX hbl hbA hL9 hi h hn hcu hsu ih
    | 3, _ =>
      refine m_tabIn (tgt := 340) (off := 301) X dL_law_39 (by rw [ez]; decide) (by rw [ez]; decide) (by rw [ez]; rfl) (by decide) rfl ?_
      exact lw_c3 X hN hX hbl hbA hL9 hi h hn hcu hsu ih
    | 4, _ =>
      refine m_tabIn (tgt := 396) (off := 357) X dL_law_39 (by rw [ez]; decide) (by rw [ez]; decide) (by rw [ez]; rfl) (by decide) rfl ?_
      exact lw_c4 X hN hX hbl hbA hL9 hi h hn hcu hsu ih
    | 5, _ =>
      refine m_tabIn (tgt := 409) (off := 370) X dL_law_39 (by rw [ez]; decide) (by rw [ez]; decide) (by rw [ez]; rfl) (by decide) rfl ?_
      exact lw_c5 X hN hX hbl hbA hL9 hi h hn hcu hsu ih
    | 6, _ =>
      refine m_tabIn (tgt := 422) (off := 383) X dL_law_39 (by rw [ez]; decide) (by rw [ez]; decide) (by rw [ez]; rfl) (by decide) rfl ?_
      exact lw_c6 X hN hX hbl hbA hL9 hi h hn hcu hsu ih
    | 7, _ =>
      refine m_tabIn (tgt := 435) (off := 396) X dL_law_39 (by rw [ez]; decide) (by rw [ez]; decide) (by rw [ez]; rfl) (by decide) rfl ?_
      exact lw_c7 X hN hX hbl hbA hL9 hi h hn hcu hsu ih
    | 8, _ =>
      refine m_tabIn (tgt := 503) (off := 464) X dL_law_39 (by rw [ez]; decide) (by rw [ez]; decide) (by rw [ez]; rfl) (by decide) rfl ?_
      exact lw_c8 X hN hX hbl hbA hL9 hi h hn hcu hsu ih
    | 9, _ =>
      refine m_tabIn (tgt := 571) (off := 532) X dL_law_39 (by rw [ez]; decide) (by rw [ez]; decide) (by rw [ez]; rfl) (by decide) rfl ?_
      exact lw_c9 X hN hX hbl hbA hL9 hi h hn hcu hsu ih
    | 10, _ =>
      refine m_tabIn (tgt := 627) (off := 588) X dL_law_39 (by rw [ez]; decide) (by rw [ez]; decide) (by rw [ez]; rfl) (by decide) rfl ?_
      exact lw_c10 X hN hX hbl hbA hL9 hi h hn hcu hsu ih
    | 11, _ =>
      refine m_tabIn (tgt := 683) (off := 644) X dL_law_39 (by rw [ez]; decide) (by rw [ez]; decide) (by rw [ez]; rfl) (by decide) rfl ?_
      exact lw_c11 X hN hX hbl hbA hL9 hi h hn hcu hsu ih
    | 12, _ =>
      refine m_tabIn (tgt := 739) (off := 700) X dL_law_39 (by rw [ez]; decide) (by rw [ez]; decide) (by rw [ez]; rfl) (by decide) rfl ?_
      exact lw_c12 X hN hX hbl hbA hL9 hi h hn hcu hsu ih
    | 13, _ =>
      refine m_tabIn (tgt := 795) (off := 756) X dL_law_39 (by rw [ez]; decide) (by rw [ez]; decide) (by rw [ez]; rfl) (by decide) rfl ?_
      exact lw_c13 X hN hX hbl hbA hL9 hi h hn hcu hsu ih
    | 14, _ =>
      refine m_tabIn (tgt := 851) (off := 812) X dL_law_39 (by rw [ez]; decide) (by rw [ez]; decide) (by rw [ez]; rfl) (by decide) rfl ?_
      exact lw_c14 X hN hX hbl hbA hL9 hi h hn hcu hsu ih
    | 15, _ =>
      refine m_tabIn (tgt := 907) (off := 868) X dL_law_39 (by rw [ez]; decide) (by rw [ez]; decide) (by rw [ez]; rfl) (by decide) rfl ?_
      exact lw_c15 X hN hX hbl hbA hL9 hi h hn hcu hsu ih
    | 16, _ =>
      refine m_tabIn (tgt := 963) (off := 924) X dL_law_39 (by rw [ez]; decide) (by rw [ez]; decide) (by rw [ez]; rfl) (by decide) rfl ?_
      exact lw_c16 X hN hX hbl hbA hL9 hi h hn hcu hsu ih
    | 17, _ =>
      refine m_tabIn (tgt := 1031) (off := 992) X dL_law_39 (by rw [ez]; decide) (by rw [ez]; decide) (by rw [ez]; rfl) (by decide) rfl ?_
      exact lw_c17 X hN hX hbl hbA hL9 hi h hn hcu hsu ih
    | 18, _ =>
      refine m_tabIn (tgt := 1111) (off := 1072) X dL_law_39 (by rw [ez]; decide) (by rw [ez]; decide) (by rw [ez]; rfl) (by decide) rfl ?_
      exact lw_c18 X hN hX hbl hbA hL9 hi h hn hcu hsu ih
    | 19, _ =>
      refine m_tabIn (tgt := 1155) (off := 1116) X dL_law_39 (by rw [ez]; decide) (by rw [ez]; decide) (by rw [ez]; rfl) (by decide) rfl ?_
      exact lw_c19 X hN hX hbl hbA hL9 hi h hn hcu hsu ih
    | 20, _ =>
      refine m_tabIn (tgt := 1199) (off := 1160) X dL_law_39 (by rw [ez]; decide) (by rw [ez]; decide) (by rw [ez]; rfl) (by decide) rfl ?_
      exact lw_c20 X hN hX hbl hbA hL9 hi h hn hcu hsu ih
    | 21, _ =>
      refine m_tabIn (tgt := 1243) (off := 1204) X dL_law_39 (by rw [ez]; decide) (by rw [ez]; decide) (by rw [ez]; rfl) (by decide) rfl ?_
      exact lw_c21 X hN hX hbl hbA hL9 hi h hn hcu hsu ih
    | 22, _ =>
      refine m_tabIn (tgt := 1287) (off := 1248) X dL_law_39 (by rw [ez]; decide) (by rw [ez]; decide) (by rw [ez]; rfl) (by decide) rfl ?_
      exact lw_c22 X hN hX hbl hbA hL9 hi h hn hcu hsu ih
    | 23, _ =>
      refine m_tabIn (tgt := 1331) (off := 1292) X dL_law_39 (by rw [ez]; decide) (by rw [ez]; decide) (by rw [ez]; rfl) (by decide) rfl ?_
      exact lw_c23 X hN hX hbl hbA hL9 hi h hn hcu hsu ih
    | 24, _ =>
      refine m_tabIn (tgt := 1344) (off := 1305) X dL_law_39 (by rw [ez]; decide) (by rw [ez]; decide) (by rw [ez]; rfl) (by decide) rfl ?_
      exact lw_c24 X hN hX hbl hbA hL9 hi h hn hcu hsu ih
    | 25, _ =>
      refine m_tabIn (tgt := 1357) (off := 1318) X dL_law_39 (by rw [ez]; decide) (by rw [ez]; decide) (by rw [ez]; rfl) (by decide) rfl ?_
      exact lw_c25 X hN hX hbl hbA hL9 hi h hn hcu hsu ih
    | 26, _ =>
      refine m_tabIn (tgt := 1370) (off := 1331) X dL_law_39 (by rw [ez]; decide) (by rw [ez]; decide) (by rw [ez]; rfl) (by decide) rfl ?_
      exact lw_c26 X hN hX hbl hbA hL9 hi h hn hcu hsu ih
    | 27, _ =>
      refine m_tabIn (tgt := 1383) (off := 1344) X dL_law_39 (by rw [ez]; decide) (by rw [ez]; decide) (by rw [ez]; rfl) (by decide) rfl ?_
      exact lw_c27 X hN hX hbl hbA hL9 hi h hn hcu hsu ih
    | 28, _ =>
      refine m_tabIn (tgt := 1396) (off := 1357) X dL_law_39 (by rw [ez]; decide) (by rw [ez]; decide) (by rw [ez]; rfl) (by decide) rfl ?_
      exact lw_c28 X hN hX hbl hbA hL9 hi h hn hcu hsu ih
    | 29, _ =>
      refine m_tabIn (tgt := 1409) (off := 1370) X dL_law_39 (by rw [ez]; decide) (by rw [ez]; decide) (by rw [ez]; rfl) (by decide) rfl ?_
      exact lw_c29 X hN hX hbl hbA hL9 hi h hn hcu hsu ih
    | j + 30, hj => exact absurd hj (by omega)
  · refine m_tabOut (tgt := 1488) X dL_law_39 (by omega) (by decide) rfl ?_
    refine m_iinc (i := 4) (n := 4) X dL_law_1488 rfl (by decide) rfl ?_
    refine m_goto (tgt := 23) X dL_law_1491 (by decide) rfl ?_
    refine m_lp (l1 := [(4, .int (nI (4 * (i + 1)))), (3, .ref 31), (2, .ref 17), (1, .ref 0), (0, .ref m_BI)]) [0, 1, 2, 3, 4] (by rw [← nI_4]; rfl) ?_
    exact ih _ _ _ _ _ _ _ _ _ _ h (by omega) (by omega) (by omega)
theorem lw_head (X : m_At D cI cL sa ⟨RL, yn, yd⟩ code 8 ret (fun q : Nat => s.heap.size ≤ q) TB p l s m #[Value.ref b] meth c) (hN : ∀ q ∈ m_ncs, va_Nc q.1 q.2 s) (hX : va_X b L xs s s.heap) (hbl : b < s.heap.size) (hbA : ¬ (fun q : Nat => s.heap.size ≤ q) b) (hL9 : L ≤ 2048) (hi9 : i ≤ 513) (h : Inv n LL BB v a) (hn : n ≤ 50 * i) (hcu : cu ≤ 32 + i) (hsu : su ≤ 1560 + 6 * i) (ih : 4 * i + 4 ≤ L → lw_next D cI cL p l e s m below meth c b (i + 1)) : m_Go D cI cL (fun _ => b) 0 8 (fun q : Nat => s.heap.size ≤ q) p l e room_1 s m #[Value.ref b] below meth c (lw_Z below #[Value.ref b] s) 23 [(4, .int (nI (4 * i))), (3, .ref 31), (2, .ref 17), (1, .ref 0), (0, .ref m_BI)] [] (hL v a x v a x lq [m_la 1 f]) cu su := by
  refine m_iload X dL_law_23 rfl rfl ?_
  refine m_aload_n X dL_law_25 rfl rfl ?_
  refine m_slen X hX hbl hbA dL_law_26 (Nat.le_of_ble_eq_true rfl) rfl ?_
  refine m_iconst (v := 4) X dL_law_27 (by decide) rfl ?_
  refine m_isub X dL_law_28 rfl ?_
  refine m_icmp_gt (tgt := 1494) X dL_law_29 (by decide) rfl (fun q => ?_) (fun q => ?_)
  · refine m_iconst (v := 1) X dL_law_1494 (by decide) rfl ?_
    exact lw_out X (by omega) (by omega)
  · have e4 : (4 : Int32).toInt = 4 := rfl
    have eL : (nI L).toInt = L := nI_toInt (by omega)
    have ei : (nI (4 * i)).toInt = ((4 * i : Nat) : Int) := nI_toInt (by omega)
    rw [i_lt, Jvm.Kit.i32_sub (by rw [eL, e4]; omega) (by rw [eL, e4]; omega), eL, e4, ei] at q
    have hi : 4 * i + 4 ≤ L := by omega
    refine m_aload_n X dL_law_32 rfl rfl ?_
    refine m_iload X dL_law_33 rfl rfl ?_
    refine m_sld X hX hbl hbA dL_law_35 (sc_in0 hi hL9) (Nat.le_of_ble_eq_true rfl) rfl ?_
    refine m_bipush (v := 31) X dL_law_36 (by decide) rfl ?_
    refine m_iand X dL_law_38 rfl ?_
    exact lw_turn X hN hX hbl hbA hL9 hi h hn hcu hsu (ih hi)
theorem lw_loop (X : m_At D cI cL sa ⟨RL, yn, yd⟩ code 8 ret (fun q : Nat => s.heap.size ≤ q) TB p l s m #[Value.ref b] meth c) (hN : ∀ q ∈ m_ncs, va_Nc q.1 q.2 s) (hX : va_X b L xs s s.heap) (hbl : b < s.heap.size) (hbA : ¬ (fun q : Nat => s.heap.size ≤ q) b) (hL9 : L ≤ 2048) : ∀ (g i : Nat), g + i = 513 → lw_next D cI cL p l e s m below meth c b i := by
  intro g
  induction g with
  | zero =>
    intro i hi n LL BB v a x lq f cu su h hn hcu hsu
    exact lw_head X hN hX hbl hbA hL9 (by omega) h hn hcu hsu (fun q => absurd q (by omega))
  | succ g ih =>
    intro i hi n LL BB v a x lq f cu su h hn hcu hsu
    exact lw_head X hN hX hbl hbA hL9 (by omega) h hn hcu hsu (fun _ => ih (i + 1) (by omega))
def lw_f0 : Nat → Int64 := fun _ => 0
theorem lw_go (X : m_At D cI cL sa ⟨RL, yn, yd⟩ code 8 ret (fun q : Nat => s.heap.size ≤ q) TB p l s m #[Value.ref b] meth c) (hN : ∀ q ∈ m_ncs, va_Nc q.1 q.2 s) (hX : va_X b L xs s s.heap) (hbl : b < s.heap.size) (hbA : ¬ (fun q : Nat => s.heap.size ≤ q) b) (hL9 : L ≤ 2048) : m_Go D cI cL (fun _ => b) 0 8 (fun q : Nat => s.heap.size ≤ q) p l e room_1 s m #[Value.ref b] below meth c (lw_Z below #[Value.ref b] s) 0 [(0, .ref m_BI)] [] [] 0 0 := by
  refine m_newB (ci := 5) (C := RX5) (T := TX5) (N := 6) (fs := [.null, .null, .null, .null, .null, .long 0]) X dL_law_0 rfl nc_L_8 ni_X5 nn_X5 tyX5 tyX5_ok (by decide +kernel) rfl (Nat.le_of_ble_eq_true rfl) rfl rfl (Nat.le_of_ble_eq_true rfl) (Nat.le_of_ble_eq_true rfl) rfl ?_
  refine m_dup X dL_law_3 rfl rfl ?_
  refine m_callIB (as := []) (v := none) (h' := hC v00 a00 0 []) X dL_law_4 lk_L_83 mk_X5_init in_X5_init rfl rfl c_X5_new rfl rfl (Nat.le_of_ble_eq_true rfl) (Nat.le_of_ble_eq_true rfl) rfl (Nat.le_of_ble_eq_true rfl) (Nat.le_of_ble_eq_true rfl) (Nat.le_of_ble_eq_true rfl) (Nat.le_of_ble_eq_true rfl) (Nat.le_of_ble_eq_true rfl) rfl ?_
  refine m_astore_n X dL_law_7 (by decide) rfl ?_
  refine m_newB (ci := 6) (C := RX6) (T := TX6) (N := 34) (fs := [.null, .int 0, .int 0, .int 0, .int 0, .int 0, .null, .null, .null, .null, .null, .null, .null, .null, .null, .int 0, .null, .null, .null, .int 0, .int 0, .int 0, .int 0, .int 0, .int 0, .int 0, .int 0, .int 0, .int 0, .int 0, .int 0, .int 0, .long 0, .int 0]) X dL_law_8 rfl nc_L_84 ni_X6 nn_X6 tyX6 tyX6_ok (by decide +kernel) rfl (Nat.le_of_ble_eq_true rfl) rfl rfl (Nat.le_of_ble_eq_true rfl) (Nat.le_of_ble_eq_true rfl) rfl ?_
  refine m_dup X dL_law_11 rfl rfl ?_
  refine m_hp (h1 := hC v00 a00 0 [m_ob 6 [.null, .int 0, .int 0, .int 0, .int 0, .int 0, .null, .null, .null, .null, .null, .null, .null, .null, .null, .int 0, .null, .null, .null, .int 0, .int 0, .int 0, .int 0, .int 0, .int 0, .int 0, .int 0, .int 0, .int 0, .int 0, .int 0, .int 0, .long 0, .int 0]]) rfl ?_
  refine m_callIB (as := []) (v := none) (h' := hL v00 a00 0 v00 a00 0 0 []) X dL_law_12 lk_L_86 mk_X6_init in_X6_init rfl rfl c_X6_new rfl rfl (Nat.le_of_ble_eq_true rfl) (Nat.le_of_ble_eq_true rfl) rfl (Nat.le_of_ble_eq_true rfl) (Nat.le_of_ble_eq_true rfl) (Nat.le_of_ble_eq_true rfl) (Nat.le_of_ble_eq_true rfl) (Nat.le_of_ble_eq_true rfl) rfl ?_
  refine m_astore_n X dL_law_15 (by decide) rfl ?_
  refine m_iconst (v := 1) X dL_law_16 (by decide) rfl ?_
  refine m_newaB (ty := .long) (N := 1) (a0 := (1, .inr (.inl lw_f0))) X dL_law_17 aw_long rfl (Or.inr ⟨rfl, _, rfl⟩) (fun _ => rfl) (by decide) (by decide) (by decide) (Nat.le_of_ble_eq_true rfl) rfl rfl (Nat.le_of_ble_eq_true rfl) (Nat.le_of_ble_eq_true rfl) rfl ?_
  refine m_astore_n X dL_law_19 (by decide) rfl ?_
  refine m_iconst (v := 0) X dL_law_20 (by decide) rfl ?_
  refine m_istore X dL_law_21 (by decide) rfl ?_
  refine m_hp (h1 := hL v00 a00 0 v00 a00 0 0 [m_la 1 lw_f0]) rfl ?_
  refine m_lp (l1 := [(4, .int (nI (4 * 0))), (3, .ref 31), (2, .ref 17), (1, .ref 0), (0, .ref m_BI)]) [0, 1, 2, 3, 4] rfl ?_
  exact lw_loop X hN hX hbl hbA hL9 513 0 rfl _ _ _ _ _ _ _ _ _ _ inv_new (by omega) (by show 32 ≤ 32; omega) (by show 1560 ≤ 1560; omega)
end ML4

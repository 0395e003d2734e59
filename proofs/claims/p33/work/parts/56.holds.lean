section LA9
section
variable {D : va_G} {cI cL : ClassId} {sa : Nat → Nat} {y : MethodName} {cc : ByteArray} {nL : Nat} {ret : Option FieldType} {A : Nat → Prop} {TB : List ExceptionTableEntry} {p : Program} {l : Launch} {e : Env} {R : Room} {s : State} {m : MethodId} {args : Array Value} {below : List Frame} {meth : Method} {c : Code} {Q : State → Prop} {ad0 : Nat → Nat} {n0 pc pc0 : Nat} {ls : List (Nat × Value)} {st : List Value} {h : m_H} {cu su : Nat} {P : Option Value → m_H → Prop} {mc ms : Nat}
theorem m_from {b9 LX k9 bb kk : Nat} {xs : Nat → Int32} {rest : List Value} (X : m_At D cI cL sa y cc nL ret A TB p l s m args meth c) (hX : va_X b9 LX xs s s.heap) (hbl : b9 < s.heap.size) (hbA : ¬ A b9) (hb9 : ad0 m_BI = b9) (hB9 : h.length ≤ m_BI) (hLX : LX < 2 ^ 31) (hk9 : k9 < 2 ^ 31) (h0 : 0 < bb) (hb : bb < 2 ^ 31) (hd : decode cc pc0 = .ok (.invokestatic kk, 3)) (hk : Cond.methodLink y.cls kk yL_from ∈ m_ws) (hro : (rest.map fun v => v.category).sum ≤ 8) (hrk : m_Mk M_L_from + 1 ≤ R.frames) (hrl : 8 + (m_Ml M_L_from + 11) + 32 * m_Mk M_L_from ≤ R.locals) (hcc : cu + m_Mc M_L_from ≤ R.cells) (hss : su + m_Ms M_L_from ≤ R.slots) (hp : pc = pc0)
    (kq : ∀ r : Nat, r < bb → m_Go D cI cL ad0 n0 nL A p l e R s m args below meth c Q (pc0 + 3) ls (.int (nI r) :: rest) h cu su) : m_Go D cI cL ad0 n0 nL A p l e R s m args below meth c Q pc ls (.int (nI bb) :: .int (nI k9) :: .ref m_BI :: rest) h cu su :=
  m_callG (M := M_L_from) (as := [.ref m_BI, .int (nI k9), .int (nI bb)]) X hd hk mk_L_from st_L_from (c_L_from hB9 hk9 h0 hb hLX) m_Bl_Sc (fun ad H locs hag hD hS U hU hW => m_scr X hX hbl hbA hb9 hB9 ad H locs hag hD hS U hU hW) rfl rfl (fun v h' q => by obtain ⟨r, -, -, e9⟩ := q; rw [e9]) hro hrk hrl hcc hss hp (fun v h' q => by
    obtain ⟨r, hr, rfl, rfl⟩ := q
    exact kq r hr)
end
theorem h_head {D : va_G} {cI cL : ClassId} {sa : Nat → Nat} {A : Nat → Prop} {p : Program} {l : Launch} {e : Env} {s : State} {m : MethodId} {args : Array Value} {below : List Frame} {meth : Method} {c : Code} {ad : Nat → Nat} (X : m_At D cI cL sa (m_My M_L_holds) (m_Mb M_L_holds) (m_Ml M_L_holds) (m_Mr M_L_holds) A [] p l s m args meth c) {b9 LX : Nat} {xs : Nat → Int32} (hX : va_X b9 LX xs s s.heap) (hbl : b9 < s.heap.size) (hbA : ¬ A b9) (hb9 : ad m_BI = b9) (hLX : LX < 2 ^ 31) {n L B ev cu su : Nat} {v : m_V} {a : m_R} {x : Int64} {w : Int32} {fm fb fr fl fu fv : Nat → Int32} (hev : ev ≤ 240) (h : J n L B v a) (hM : PM n v fm) (hA : PA B a fb fr fl fu fv) (hn : n ≤ 24 * ev) (hw : wB ev w) (hcu : cu ≤ 23 + ev) (hsu : su ≤ 921 + 6 * ev) (ih : ev < 240 → lh_next D cI cL A p l e s m args below meth c ad (ev + 1)) : m_Go D cI cL ad ([] : m_H).length (m_Ml M_L_holds) A p l e (m_rm M_L_holds) s m args below meth c (m_VP D cI cL ad ([] : m_H).length A (pH) below args s (m_Mc M_L_holds) (m_Ms M_L_holds)) 104 [(13, .int (nI ev)), (12, .int 1), (11, .int w), (9, .long x), (8, .int (nI L)), (7, .ref 22), (6, .ref 21), (5, .ref 20), (4, .ref 19), (3, .ref 18), (2, .ref 17), (1, .ref 0), (0, .ref m_BI)] [] (hW v a x fm fb fr fl fu fv) cu su := by
  refine m_iload X dL_holds_104 rfl rfl ?_
  refine m_sipush (v := 240) X dL_holds_106 (by decide) rfl ?_
  refine m_icmp_ge (tgt := 767) X dL_holds_109 (by decide) rfl (fun b109 => ?_) (fun b109 => ?_)
  · replace b109 : 240 ≤ nI ev := b109
    refine m_iload X dL_holds_767 rfl rfl ?_
    exact m_toP (v := some (.int 1)) (hf := (hW v a x fm fb fr fl fu fv)) ⟨rfl, rfl⟩ (m_zret X dL_holds_769 rfl (by decide) rfl (show cu ≤ 263 by omega) (show su ≤ 2361 by omega) rfl)
  · replace b109 : ¬ 240 ≤ nI ev := b109
    have hlt : ev < 240 := by
      rw [show (240 : Int32) = nI 240 from rfl, nI_leI (by decide) (by omega)] at b109
      omega
    refine m_iload X dL_holds_112 rfl rfl ?_
    refine m_if_eq (tgt := 767) X dL_holds_114 (by decide) rfl (fun b114 => absurd b114 (by decide)) (fun b114 => ?_)
    refine m_aload_n X dL_holds_117 rfl rfl ?_
    refine m_iconst (v := 2) X dL_holds_118 (by decide) rfl ?_
    refine m_iload X dL_holds_119 rfl rfl ?_
    refine m_imul X dL_holds_121 rfl ?_
    refine m_top (x1 := nI (2 * ev)) (nI_mul 2 ev) ?_
    refine m_iconst (v := 1) X dL_holds_122 (by decide) rfl ?_
    refine m_iadd X dL_holds_123 rfl ?_
    refine m_top (x1 := nI (2 * ev + 1)) (nI_add (2 * ev) 1) ?_
    refine m_bipush (v := 60) X dL_holds_124 (by decide) rfl ?_
    refine m_from (k9 := 2 * ev + 1) (bb := 60) X hX hbl hbA hb9 (Nat.le_of_ble_eq_true rfl) hLX (by omega) (by decide) (by decide) dL_holds_126 ll_L_135 (Nat.le_of_ble_eq_true rfl) (Nat.le_of_ble_eq_true rfl) (Nat.le_of_ble_eq_true rfl) (show cu ≤ 263 by omega) (show su ≤ 2361 by omega) rfl (fun W9 hW9 => ?_)
    refine m_ist (l1 := [(14, .int (nI W9)), (13, .int (nI ev)), (12, .int 1), (11, .int w), (9, .long x), (8, .int (nI L)), (7, .ref 22), (6, .ref 21), (5, .ref 20), (4, .ref 19), (3, .ref 18), (2, .ref 17), (1, .ref 0), (0, .ref m_BI)]) X dL_holds_129 (Nat.le_of_ble_eq_true rfl) rfl rfl ?_
    refine m_aload_n X dL_holds_131 rfl rfl ?_
    refine m_iconst (v := 2) X dL_holds_132 (by decide) rfl ?_
    refine m_iload X dL_holds_133 rfl rfl ?_
    refine m_imul X dL_holds_135 rfl ?_
    refine m_top (x1 := nI (2 * ev)) (nI_mul 2 ev) ?_
    refine m_iconst (v := 2) X dL_holds_136 (by decide) rfl ?_
    refine m_iadd X dL_holds_137 rfl ?_
    refine m_top (x1 := nI (2 * ev + 2)) (nI_add (2 * ev) 2) ?_
    refine m_ldc X dL_holds_138 cs_L_139 rfl ?_
    refine m_from (k9 := 2 * ev + 2) (bb := 100000) X hX hbl hbA hb9 (Nat.le_of_ble_eq_true rfl) hLX (by omega) (by decide) (by decide) dL_holds_140 ll_L_135 (Nat.le_of_ble_eq_true rfl) (Nat.le_of_ble_eq_true rfl) (Nat.le_of_ble_eq_true rfl) (show cu ≤ 263 by omega) (show su ≤ 2361 by omega) rfl (fun Z hZ => ?_)
    refine m_ist (l1 := [(15, .int (nI Z)), (14, .int (nI W9)), (13, .int (nI ev)), (12, .int 1), (11, .int w), (9, .long x), (8, .int (nI L)), (7, .ref 22), (6, .ref 21), (5, .ref 20), (4, .ref 19), (3, .ref 18), (2, .ref 17), (1, .ref 0), (0, .ref m_BI)]) X dL_holds_143 (Nat.le_of_ble_eq_true rfl) rfl rfl ?_
    refine m_lp (l1 := [(15, .int (nI Z)), (14, .int (nI W9)), (13, .int (nI ev)), (12, .int 1), (11, .int w), (9, .long x), (8, .int (nI L)), (7, .ref 22), (6, .ref 21), (5, .ref 20), (4, .ref 19), (3, .ref 18), (2, .ref 17), (1, .ref 0), (0, .ref m_BI)]) [0, 1, 2, 3, 4, 5, 6, 7, 8, 9, 10, 11, 12, 13, 14] rfl ?_
    exact h_145 X hlt h hM hA hn hw hcu hsu hW9 hZ (h_tail X hlt (ih hlt))
theorem h_loop {D : va_G} {cI cL : ClassId} {sa : Nat → Nat} {A : Nat → Prop} {p : Program} {l : Launch} {e : Env} {s : State} {m : MethodId} {args : Array Value} {below : List Frame} {meth : Method} {c : Code} {ad : Nat → Nat} (X : m_At D cI cL sa (m_My M_L_holds) (m_Mb M_L_holds) (m_Ml M_L_holds) (m_Mr M_L_holds) A [] p l s m args meth c) {b9 LX : Nat} {xs : Nat → Int32} (hX : va_X b9 LX xs s s.heap) (hbl : b9 < s.heap.size) (hbA : ¬ A b9) (hb9 : ad m_BI = b9) (hLX : LX < 2 ^ 31) : ∀ (g9 ev : Nat), g9 + ev = 240 → lh_next D cI cL A p l e s m args below meth c ad ev := by
  intro g9
  induction g9 with
  | zero =>
    intro ev hg n L B v a x w fm fb fr fl fu fv cu su h hM hA hn hw hcu hsu
    exact h_head X hX hbl hbA hb9 hLX (by omega) h hM hA hn hw hcu hsu (fun q => absurd q (by omega))
  | succ g9 ih =>
    intro ev hg n L B v a x w fm fb fr fl fu fv cu su h hM hA hn hw hcu hsu
    exact h_head X hX hbl hbA hb9 hLX (by omega) h hM hA hn hw hcu hsu (fun _ => ih (ev + 1) (by omega))
def fb0 : Nat → Int32 := upd (upd (upd (upd (upd (upd (upd (upd z0 0 50) 1 20) 4 50) 5 20) 8 50) 9 20) 12 50) 13 20
theorem PM_new : PM 0 v00 (upd z0 7 3) := ⟨rfl, rfl, rfl, rfl, rfl, rfl, rfl, rfl, rfl, fun _ => rfl, rfl, rfl, Int32.sub_self (a := 0), Int32.sub_self (a := 0), rfl, rfl, rfl, rfl, rfl, rfl, rfl⟩
theorem PA_new : PA 0 a00 fb0 z0 z0 z0 z0 := by
  refine ⟨?_, fun k hk => ⟨rfl, rfl, rfl⟩, fun k hk => ⟨rfl, rfl, rfl⟩, fun _ k hk j hj => rfl⟩
  intro k hk
  have : k = 0 ∨ k = 1 ∨ k = 2 ∨ k = 3 := by omega
  rcases this with rfl | rfl | rfl | rfl
  · exact ⟨rfl, rfl, rfl, rfl⟩
  · exact ⟨rfl, rfl, rfl, rfl⟩
  · exact ⟨rfl, rfl, rfl, rfl⟩
  · exact ⟨rfl, rfl, rfl, rfl⟩
theorem w_new {r : Nat} (h : r < 40) : wB 0 (nI r - 10) := by
  have e1 : (nI r).toInt = r := nI_toInt (by omega)
  have e2 : (10 : Int32).toInt = 10 := rfl
  unfold wB
  rw [Jvm.Kit.i32_sub (by rw [e1, e2]; omega) (by rw [e1, e2]; omega), e1, e2]
  omega
theorem c_L_holds {LX : Nat} {xs : Nat → Int32} (hLX : LX < 2 ^ 31) : m_CtrG M_L_holds (m_Ws M_L_holds) [.ref m_BI] [] (m_Sc LX xs) pH := by
  refine m_introG (by decide +kernel) (Nat.le_of_ble_eq_true rfl) (fun {D cI cL sa A p l e s m args below meth c ad} X hE => ?_)
  have hX := hE.1
  have hbl := hE.2.1
  have hbA := hE.2.2
  have hb9 : ad m_BI = ad m_BI := rfl
  refine m_lp (l1 := [(0, .ref m_BI)]) [0] rfl ?_
  refine m_newB (ci := 5) (C := RX5) (T := TX5) (N := 6) (fs := [.null, .null, .null, .null, .null, .long 0]) X dL_holds_0 rfl nc_L_41 ni_X5 nn_X5 tyX5 tyX5_ok (by decide +kernel) rfl (Nat.le_of_ble_eq_true rfl) rfl rfl (Nat.le_of_ble_eq_true rfl) (Nat.le_of_ble_eq_true rfl) rfl ?_
  refine m_dup X dL_holds_3 rfl rfl ?_
  refine m_callIB (as := []) (v := none) (h' := hC v00 a00 0 []) X dL_holds_4 lk_L_134 mk_X5_init in_X5_init rfl rfl c_X5_new rfl rfl (Nat.le_of_ble_eq_true rfl) (Nat.le_of_ble_eq_true rfl) rfl (Nat.le_of_ble_eq_true rfl) (Nat.le_of_ble_eq_true rfl) (Nat.le_of_ble_eq_true rfl) (Nat.le_of_ble_eq_true rfl) (Nat.le_of_ble_eq_true rfl) rfl ?_
  refine m_astore_n X dL_holds_7 (by decide) rfl ?_
  refine m_lp (l1 := [(1, .ref 0), (0, .ref m_BI)]) [0, 1] rfl ?_
  refine m_bipush (v := 24) X dL_holds_8 (by decide) rfl ?_
  refine m_newaB (ty := .int) (N := 24) (a0 := (24, .inl z0)) X dL_holds_10 aw_int rfl ⟨rfl, _, rfl⟩ (fun _ => rfl) (by decide) (by decide) (by decide) (Nat.le_of_ble_eq_true rfl) rfl rfl (Nat.le_of_ble_eq_true rfl) (Nat.le_of_ble_eq_true rfl) rfl ?_
  refine m_hp (h1 := hC v00 a00 0 [m_ia 24 z0]) rfl ?_
  refine m_sp (st1 := [.ref 17]) rfl ?_
  refine m_astore_n X dL_holds_12 (by decide) rfl ?_
  refine m_lp (l1 := [(2, .ref 17), (1, .ref 0), (0, .ref m_BI)]) [0, 1, 2] rfl ?_
  refine m_bipush (v := 16) X dL_holds_13 (by decide) rfl ?_
  refine m_newaB (ty := .int) (N := 16) (a0 := (16, .inl z0)) X dL_holds_15 aw_int rfl ⟨rfl, _, rfl⟩ (fun _ => rfl) (by decide) (by decide) (by decide) (Nat.le_of_ble_eq_true rfl) rfl rfl (Nat.le_of_ble_eq_true rfl) (Nat.le_of_ble_eq_true rfl) rfl ?_
  refine m_hp (h1 := hC v00 a00 0 [m_ia 24 z0, m_ia 16 z0]) rfl ?_
  refine m_sp (st1 := [.ref 18]) rfl ?_
  refine m_astore_n X dL_holds_17 (by decide) rfl ?_
  refine m_lp (l1 := [(3, .ref 18), (2, .ref 17), (1, .ref 0), (0, .ref m_BI)]) [0, 1, 2, 3] rfl ?_
  refine m_bipush (v := 18) X dL_holds_18 (by decide) rfl ?_
  refine m_newaB (ty := .int) (N := 18) (a0 := (18, .inl z0)) X dL_holds_20 aw_int rfl ⟨rfl, _, rfl⟩ (fun _ => rfl) (by decide) (by decide) (by decide) (Nat.le_of_ble_eq_true rfl) rfl rfl (Nat.le_of_ble_eq_true rfl) (Nat.le_of_ble_eq_true rfl) rfl ?_
  refine m_hp (h1 := hC v00 a00 0 [m_ia 24 z0, m_ia 16 z0, m_ia 18 z0]) rfl ?_
  refine m_sp (st1 := [.ref 19]) rfl ?_
  refine m_astore X dL_holds_22 (by decide) rfl ?_
  refine m_lp (l1 := [(4, .ref 19), (3, .ref 18), (2, .ref 17), (1, .ref 0), (0, .ref m_BI)]) [0, 1, 2, 3, 4] rfl ?_
  refine m_bipush (v := 24) X dL_holds_24 (by decide) rfl ?_
  refine m_newaB (ty := .int) (N := 24) (a0 := (24, .inl z0)) X dL_holds_26 aw_int rfl ⟨rfl, _, rfl⟩ (fun _ => rfl) (by decide) (by decide) (by decide) (Nat.le_of_ble_eq_true rfl) rfl rfl (Nat.le_of_ble_eq_true rfl) (Nat.le_of_ble_eq_true rfl) rfl ?_
  refine m_hp (h1 := hC v00 a00 0 [m_ia 24 z0, m_ia 16 z0, m_ia 18 z0, m_ia 24 z0]) rfl ?_
  refine m_sp (st1 := [.ref 20]) rfl ?_
  refine m_astore X dL_holds_28 (by decide) rfl ?_
  refine m_lp (l1 := [(5, .ref 20), (4, .ref 19), (3, .ref 18), (2, .ref 17), (1, .ref 0), (0, .ref m_BI)]) [0, 1, 2, 3, 4, 5] rfl ?_
  refine m_bipush (v := 8) X dL_holds_30 (by decide) rfl ?_
  refine m_newaB (ty := .int) (N := 8) (a0 := (8, .inl z0)) X dL_holds_32 aw_int rfl ⟨rfl, _, rfl⟩ (fun _ => rfl) (by decide) (by decide) (by decide) (Nat.le_of_ble_eq_true rfl) rfl rfl (Nat.le_of_ble_eq_true rfl) (Nat.le_of_ble_eq_true rfl) rfl ?_
  refine m_hp (h1 := hC v00 a00 0 [m_ia 24 z0, m_ia 16 z0, m_ia 18 z0, m_ia 24 z0, m_ia 8 z0]) rfl ?_
  refine m_sp (st1 := [.ref 21]) rfl ?_
  refine m_astore X dL_holds_34 (by decide) rfl ?_
  refine m_lp (l1 := [(6, .ref 21), (5, .ref 20), (4, .ref 19), (3, .ref 18), (2, .ref 17), (1, .ref 0), (0, .ref m_BI)]) [0, 1, 2, 3, 4, 5, 6] rfl ?_
  refine m_bipush (v := 64) X dL_holds_36 (by decide) rfl ?_
  refine m_newaB (ty := .int) (N := 64) (a0 := (64, .inl z0)) X dL_holds_38 aw_int rfl ⟨rfl, _, rfl⟩ (fun _ => rfl) (by decide) (by decide) (by decide) (Nat.le_of_ble_eq_true rfl) rfl rfl (Nat.le_of_ble_eq_true rfl) (Nat.le_of_ble_eq_true rfl) rfl ?_
  refine m_hp (h1 := hC v00 a00 0 [m_ia 24 z0, m_ia 16 z0, m_ia 18 z0, m_ia 24 z0, m_ia 8 z0, m_ia 64 z0]) rfl ?_
  refine m_sp (st1 := [.ref 22]) rfl ?_
  refine m_astore X dL_holds_40 (by decide) rfl ?_
  refine m_lp (l1 := [(7, .ref 22), (6, .ref 21), (5, .ref 20), (4, .ref 19), (3, .ref 18), (2, .ref 17), (1, .ref 0), (0, .ref m_BI)]) [0, 1, 2, 3, 4, 5, 6, 7] rfl ?_
  refine m_hp (h1 := (hW v00 a00 0 z0 z0 z0 z0 z0 z0)) rfl ?_
  refine m_iconst (v := 0) X dL_holds_42 (by decide) rfl ?_
  refine m_ist (l1 := [(8, .int 0), (7, .ref 22), (6, .ref 21), (5, .ref 20), (4, .ref 19), (3, .ref 18), (2, .ref 17), (1, .ref 0), (0, .ref m_BI)]) X dL_holds_43 (Nat.le_of_ble_eq_true rfl) rfl rfl ?_
  refine m_lconst (v := 0) X dL_holds_45 (by decide) rfl ?_
  refine m_lstore X dL_holds_46 (Nat.le_of_ble_eq_true rfl) rfl ?_
  refine m_lp (l1 := [(9, .long 0), (8, .int 0), (7, .ref 22), (6, .ref 21), (5, .ref 20), (4, .ref 19), (3, .ref 18), (2, .ref 17), (1, .ref 0), (0, .ref m_BI)]) [0, 1, 2, 3, 4, 5, 6, 7, 8, 9] rfl ?_
  refine m_aload_n X dL_holds_48 rfl rfl ?_
  refine m_iconst (v := 0) X dL_holds_49 (by decide) rfl ?_
  refine m_bipush (v := 40) X dL_holds_50 (by decide) rfl ?_
  refine m_from (k9 := 0) (bb := 40) X hX hbl hbA hb9 (Nat.le_of_ble_eq_true rfl) hLX (by decide) (by decide) (by decide) dL_holds_52 ll_L_135 (Nat.le_of_ble_eq_true rfl) (Nat.le_of_ble_eq_true rfl) (Nat.le_of_ble_eq_true rfl) (Nat.le_of_ble_eq_true rfl) (Nat.le_of_ble_eq_true rfl) rfl (fun r9 hr9 => ?_)
  refine m_bipush (v := 10) X dL_holds_55 (by decide) rfl ?_
  refine m_isub X dL_holds_57 rfl ?_
  refine m_ist (l1 := [(11, .int ((nI r9) - 10)), (9, .long 0), (8, .int 0), (7, .ref 22), (6, .ref 21), (5, .ref 20), (4, .ref 19), (3, .ref 18), (2, .ref 17), (1, .ref 0), (0, .ref m_BI)]) X dL_holds_58 (Nat.le_of_ble_eq_true rfl) rfl rfl ?_
  refine m_aload_n X dL_holds_60 rfl rfl ?_
  refine m_bipush (v := 7) X dL_holds_61 (by decide) rfl ?_
  refine m_iconst (v := 3) X dL_holds_63 (by decide) rfl ?_
  refine m_ast (k := 7) (h1 := (hW v00 a00 0 (upd z0 7 3) z0 z0 z0 z0 z0)) X dL_holds_64 hW_g0 (vp_in_nI (n := 7) (by decide) (by decide)) (rfl) rfl rfl ?_
  refine m_iconst (v := 1) X dL_holds_65 (by decide) rfl ?_
  refine m_ist (l1 := [(12, .int 1), (11, .int ((nI r9) - 10)), (9, .long 0), (8, .int 0), (7, .ref 22), (6, .ref 21), (5, .ref 20), (4, .ref 19), (3, .ref 18), (2, .ref 17), (1, .ref 0), (0, .ref m_BI)]) X dL_holds_66 (Nat.le_of_ble_eq_true rfl) rfl rfl ?_
  refine m_iconst (v := 0) X dL_holds_68 (by decide) rfl ?_
  refine m_ist (l1 := [(13, .int 0), (12, .int 1), (11, .int ((nI r9) - 10)), (9, .long 0), (8, .int 0), (7, .ref 22), (6, .ref 21), (5, .ref 20), (4, .ref 19), (3, .ref 18), (2, .ref 17), (1, .ref 0), (0, .ref m_BI)]) X dL_holds_69 (Nat.le_of_ble_eq_true rfl) rfl rfl ?_
  refine m_iload X dL_holds_71 rfl rfl ?_
  refine m_iconst (v := 4) X dL_holds_73 (by decide) rfl ?_
  refine m_icmp_ge (tgt := 101) X dL_holds_74 (by decide) rfl (fun b74 => absurd b74 (by decide)) (fun b74 => ?_)
  refine m_aload_n X dL_holds_77 rfl rfl ?_
  refine m_iconst (v := 4) X dL_holds_78 (by decide) rfl ?_
  refine m_iload X dL_holds_79 rfl rfl ?_
  refine m_imul X dL_holds_81 rfl ?_
  refine m_top (x1 := 0) (by decide) ?_
  refine m_bipush (v := 50) X dL_holds_82 (by decide) rfl ?_
  refine m_ast (k := 0) (h1 := (hW v00 a00 0 (upd z0 7 3) (upd z0 0 50) z0 z0 z0 z0)) X dL_holds_84 hW_g1 (vp_in_nI (n := 0) (by decide) (by decide)) (rfl) rfl rfl ?_
  refine m_aload_n X dL_holds_85 rfl rfl ?_
  refine m_iconst (v := 4) X dL_holds_86 (by decide) rfl ?_
  refine m_iload X dL_holds_87 rfl rfl ?_
  refine m_imul X dL_holds_89 rfl ?_
  refine m_top (x1 := 0) (by decide) ?_
  refine m_iconst (v := 1) X dL_holds_90 (by decide) rfl ?_
  refine m_iadd X dL_holds_91 rfl ?_
  refine m_top (x1 := 1) (by decide) ?_
  refine m_bipush (v := 20) X dL_holds_92 (by decide) rfl ?_
  refine m_ast (k := 1) (h1 := (hW v00 a00 0 (upd z0 7 3) (upd (upd z0 0 50) 1 20) z0 z0 z0 z0)) X dL_holds_94 hW_g1 (vp_in_nI (n := 1) (by decide) (by decide)) (rfl) rfl rfl ?_
  refine m_inc (x1 := 1) (l1 := [(13, .int 1), (12, .int 1), (11, .int ((nI r9) - 10)), (9, .long 0), (8, .int 0), (7, .ref 22), (6, .ref 21), (5, .ref 20), (4, .ref 19), (3, .ref 18), (2, .ref 17), (1, .ref 0), (0, .ref m_BI)]) X dL_holds_95 rfl (Nat.le_of_ble_eq_true rfl) (by decide) rfl rfl ?_
  refine m_goto (tgt := 71) X dL_holds_98 (by decide) rfl ?_
  refine m_iload X dL_holds_71 rfl rfl ?_
  refine m_iconst (v := 4) X dL_holds_73 (by decide) rfl ?_
  refine m_icmp_ge (tgt := 101) X dL_holds_74 (by decide) rfl (fun b74 => absurd b74 (by decide)) (fun b74 => ?_)
  refine m_aload_n X dL_holds_77 rfl rfl ?_
  refine m_iconst (v := 4) X dL_holds_78 (by decide) rfl ?_
  refine m_iload X dL_holds_79 rfl rfl ?_
  refine m_imul X dL_holds_81 rfl ?_
  refine m_top (x1 := 4) (by decide) ?_
  refine m_bipush (v := 50) X dL_holds_82 (by decide) rfl ?_
  refine m_ast (k := 4) (h1 := (hW v00 a00 0 (upd z0 7 3) (upd (upd (upd z0 0 50) 1 20) 4 50) z0 z0 z0 z0)) X dL_holds_84 hW_g1 (vp_in_nI (n := 4) (by decide) (by decide)) (rfl) rfl rfl ?_
  refine m_aload_n X dL_holds_85 rfl rfl ?_
  refine m_iconst (v := 4) X dL_holds_86 (by decide) rfl ?_
  refine m_iload X dL_holds_87 rfl rfl ?_
  refine m_imul X dL_holds_89 rfl ?_
  refine m_top (x1 := 4) (by decide) ?_
  refine m_iconst (v := 1) X dL_holds_90 (by decide) rfl ?_
  refine m_iadd X dL_holds_91 rfl ?_
  refine m_top (x1 := 5) (by decide) ?_
  refine m_bipush (v := 20) X dL_holds_92 (by decide) rfl ?_
  refine m_ast (k := 5) (h1 := (hW v00 a00 0 (upd z0 7 3) (upd (upd (upd (upd z0 0 50) 1 20) 4 50) 5 20) z0 z0 z0 z0)) X dL_holds_94 hW_g1 (vp_in_nI (n := 5) (by decide) (by decide)) (rfl) rfl rfl ?_
  refine m_inc (x1 := 2) (l1 := [(13, .int 2), (12, .int 1), (11, .int ((nI r9) - 10)), (9, .long 0), (8, .int 0), (7, .ref 22), (6, .ref 21), (5, .ref 20), (4, .ref 19), (3, .ref 18), (2, .ref 17), (1, .ref 0), (0, .ref m_BI)]) X dL_holds_95 rfl (Nat.le_of_ble_eq_true rfl) (by decide) rfl rfl ?_
  refine m_goto (tgt := 71) X dL_holds_98 (by decide) rfl ?_
  refine m_iload X dL_holds_71 rfl rfl ?_
  refine m_iconst (v := 4) X dL_holds_73 (by decide) rfl ?_
  refine m_icmp_ge (tgt := 101) X dL_holds_74 (by decide) rfl (fun b74 => absurd b74 (by decide)) (fun b74 => ?_)
  refine m_aload_n X dL_holds_77 rfl rfl ?_
  refine m_iconst (v := 4) X dL_holds_78 (by decide) rfl ?_
  refine m_iload X dL_holds_79 rfl rfl ?_
  refine m_imul X dL_holds_81 rfl ?_
  refine m_top (x1 := 8) (by decide) ?_
  refine m_bipush (v := 50) X dL_holds_82 (by decide) rfl ?_
  refine m_ast (k := 8) (h1 := (hW v00 a00 0 (upd z0 7 3) (upd (upd (upd (upd (upd z0 0 50) 1 20) 4 50) 5 20) 8 50) z0 z0 z0 z0)) X dL_holds_84 hW_g1 (vp_in_nI (n := 8) (by decide) (by decide)) (rfl) rfl rfl ?_
  refine m_aload_n X dL_holds_85 rfl rfl ?_
  refine m_iconst (v := 4) X dL_holds_86 (by decide) rfl ?_
  refine m_iload X dL_holds_87 rfl rfl ?_
  refine m_imul X dL_holds_89 rfl ?_
  refine m_top (x1 := 8) (by decide) ?_
  refine m_iconst (v := 1) X dL_holds_90 (by decide) rfl ?_
  refine m_iadd X dL_holds_91 rfl ?_
  refine m_top (x1 := 9) (by decide) ?_
  refine m_bipush (v := 20) X dL_holds_92 (by decide) rfl ?_
  refine m_ast (k := 9) (h1 := (hW v00 a00 0 (upd z0 7 3) (upd (upd (upd (upd (upd (upd z0 0 50) 1 20) 4 50) 5 20) 8 50) 9 20) z0 z0 z0 z0)) X dL_holds_94 hW_g1 (vp_in_nI (n := 9) (by decide) (by decide)) (rfl) rfl rfl ?_
  refine m_inc (x1 := 3) (l1 := [(13, .int 3), (12, .int 1), (11, .int ((nI r9) - 10)), (9, .long 0), (8, .int 0), (7, .ref 22), (6, .ref 21), (5, .ref 20), (4, .ref 19), (3, .ref 18), (2, .ref 17), (1, .ref 0), (0, .ref m_BI)]) X dL_holds_95 rfl (Nat.le_of_ble_eq_true rfl) (by decide) rfl rfl ?_
  refine m_goto (tgt := 71) X dL_holds_98 (by decide) rfl ?_
  refine m_iload X dL_holds_71 rfl rfl ?_
  refine m_iconst (v := 4) X dL_holds_73 (by decide) rfl ?_
  refine m_icmp_ge (tgt := 101) X dL_holds_74 (by decide) rfl (fun b74 => absurd b74 (by decide)) (fun b74 => ?_)
  refine m_aload_n X dL_holds_77 rfl rfl ?_
  refine m_iconst (v := 4) X dL_holds_78 (by decide) rfl ?_
  refine m_iload X dL_holds_79 rfl rfl ?_
  refine m_imul X dL_holds_81 rfl ?_
  refine m_top (x1 := 12) (by decide) ?_
  refine m_bipush (v := 50) X dL_holds_82 (by decide) rfl ?_
  refine m_ast (k := 12) (h1 := (hW v00 a00 0 (upd z0 7 3) (upd (upd (upd (upd (upd (upd (upd z0 0 50) 1 20) 4 50) 5 20) 8 50) 9 20) 12 50) z0 z0 z0 z0)) X dL_holds_84 hW_g1 (vp_in_nI (n := 12) (by decide) (by decide)) (rfl) rfl rfl ?_
  refine m_aload_n X dL_holds_85 rfl rfl ?_
  refine m_iconst (v := 4) X dL_holds_86 (by decide) rfl ?_
  refine m_iload X dL_holds_87 rfl rfl ?_
  refine m_imul X dL_holds_89 rfl ?_
  refine m_top (x1 := 12) (by decide) ?_
  refine m_iconst (v := 1) X dL_holds_90 (by decide) rfl ?_
  refine m_iadd X dL_holds_91 rfl ?_
  refine m_top (x1 := 13) (by decide) ?_
  refine m_bipush (v := 20) X dL_holds_92 (by decide) rfl ?_
  refine m_ast (k := 13) (h1 := (hW v00 a00 0 (upd z0 7 3) (upd (upd (upd (upd (upd (upd (upd (upd z0 0 50) 1 20) 4 50) 5 20) 8 50) 9 20) 12 50) 13 20) z0 z0 z0 z0)) X dL_holds_94 hW_g1 (vp_in_nI (n := 13) (by decide) (by decide)) (rfl) rfl rfl ?_
  refine m_inc (x1 := 4) (l1 := [(13, .int 4), (12, .int 1), (11, .int ((nI r9) - 10)), (9, .long 0), (8, .int 0), (7, .ref 22), (6, .ref 21), (5, .ref 20), (4, .ref 19), (3, .ref 18), (2, .ref 17), (1, .ref 0), (0, .ref m_BI)]) X dL_holds_95 rfl (Nat.le_of_ble_eq_true rfl) (by decide) rfl rfl ?_
  refine m_goto (tgt := 71) X dL_holds_98 (by decide) rfl ?_
  refine m_iload X dL_holds_71 rfl rfl ?_
  refine m_iconst (v := 4) X dL_holds_73 (by decide) rfl ?_
  refine m_icmp_ge (tgt := 101) X dL_holds_74 (by decide) rfl (fun b74 => ?_) (fun b74 => absurd b74 (by decide))
  refine m_iconst (v := 0) X dL_holds_101 (by decide) rfl ?_
  refine m_ist (l1 := [(13, .int 0), (12, .int 1), (11, .int ((nI r9) - 10)), (9, .long 0), (8, .int 0), (7, .ref 22), (6, .ref 21), (5, .ref 20), (4, .ref 19), (3, .ref 18), (2, .ref 17), (1, .ref 0), (0, .ref m_BI)]) X dL_holds_102 (Nat.le_of_ble_eq_true rfl) rfl rfl ?_
  refine m_lp (l1 := [(13, .int (nI 0)), (12, .int 1), (11, .int (nI r9 - 10)), (9, .long 0), (8, .int (nI 0)), (7, .ref 22), (6, .ref 21), (5, .ref 20), (4, .ref 19), (3, .ref 18), (2, .ref 17), (1, .ref 0), (0, .ref m_BI)]) [0, 1, 2, 3, 4, 5, 6, 7, 8, 9, 10, 11, 12] rfl ?_
  exact h_loop X hX hbl hbA hb9 hLX 240 0 rfl 0 0 0 v00 a00 0 (nI r9 - 10) (upd z0 7 3) fb0 z0 z0 z0 z0 _ _ J_new PM_new PA_new (Nat.zero_le _) (w_new hr9) (Nat.le_of_ble_eq_true rfl) (Nat.le_of_ble_eq_true rfl)
theorem c_L_isHeld {LX : Nat} {xs : Nat → Int32} (hLX : LX < 2 ^ 31) : m_CtrG M_L_isHeld (m_WsH M_L_isHeld H_L_isHeld) [.ref m_BI] [] (m_Sc LX xs) pH := by
  refine m_introGH (by decide +kernel) (Nat.le_of_ble_eq_true rfl) (fun {D cI cL sa A p l e s m args below meth c ad} X hE => ?_)
  refine m_lp (l1 := [(0, .ref m_BI)]) [0] rfl ?_
  refine m_aload_n X dL_isHeld_0 rfl rfl ?_
  refine m_lp (l1 := []) [] rfl ?_
  refine m_callGA (M := M_L_holds) (as := [.ref m_BI]) (rest := []) X dL_isHeld_1 ll_L_171 mk_L_holds st_L_holds (c_L_holds hLX) m_Bl_Sc (fun ad H locs hag hD hS U hU hW => m_scr X hE.1 hE.2.1 hE.2.2 rfl (Nat.le_of_ble_eq_true rfl) ad H locs hag hD hS U hU hW) rfl rfl (fun v h' q => Nat.zero_le _) rfl (Nat.le_of_ble_eq_true rfl) (Nat.le_of_ble_eq_true rfl) (Nat.le_of_ble_eq_true rfl) (Nat.le_of_ble_eq_true rfl) (Nat.le_of_ble_eq_true rfl) rfl (fun v h' q => ?_)
  obtain ⟨rfl, hl⟩ := q
  exact m_toP (v := some (.int 1)) (hf := h') ⟨rfl, hl⟩ (m_zret X dL_isHeld_4 rfl (by decide) rfl (Nat.le_of_ble_eq_true rfl) (Nat.le_of_ble_eq_true rfl) rfl)
end LA9

section LA8
/-- the law's answer: true -/
def pH : Option Value → m_H → Prop := fun o h => o = some (.int 1) ∧ h.length = 23
/-- the weight, after ev events -/
def wB (ev : Nat) (w : Int32) : Prop := -(10 + 2 * (ev : Int)) ≤ w.toInt ∧ w.toInt ≤ 30 + 40 * (ev : Int)
theorem w_mono {ev : Nat} {w : Int32} (h : wB ev w) : wB (ev + 1) w := by
  unfold wB at h ⊢
  omega
theorem w_step {ev : Nat} {w gx dx rx : Int32} (he : ev < 240) (hw : wB ev w) (g0 : 0 ≤ gx.toInt) (g1 : gx.toInt ≤ 38) (d0 : -2 ≤ dx.toInt) (d1 : dx.toInt ≤ 2) (hr : rx = 0 ∨ rx = w) : wB (ev + 1) (w + (gx + dx - rx)) := by
  unfold wB at hw ⊢
  have e0 : (0 : Int32).toInt = 0 := rfl
  have e1 : (gx + dx).toInt = gx.toInt + dx.toInt := Jvm.Kit.i32_add (by omega) (by omega)
  have e2 : (gx + dx - rx).toInt = gx.toInt + dx.toInt - rx.toInt := by
    rw [Jvm.Kit.i32_sub (by rw [e1]; rcases hr with h | h <;> rw [h] <;> omega) (by rw [e1]; rcases hr with h | h <;> rw [h] <;> omega), e1]
  have e3 : (w + (gx + dx - rx)).toInt = w.toInt + (gx.toInt + dx.toInt - rx.toInt) := by
    rw [Jvm.Kit.i32_add (by rw [e2]; rcases hr with h | h <;> rw [h] <;> omega) (by rw [e2]; rcases hr with h | h <;> rw [h] <;> omega), e2]
  rw [e3]
  rcases hr with h | h
  · rw [h, e0]; omega
  · rw [h]; omega
theorem w_rd {ev : Nat} {w : Int32} (he : ev ≤ 240) (h : wB ev w) : -1000 ≤ w ∧ w ≤ 100000 := by
  unfold wB at h
  have e1 : (-1000 : Int32).toInt = -1000 := rfl
  have e2 : (100000 : Int32).toInt = 100000 := rfl
  rw [i_le, i_le, e1, e2]
  omega
theorem z_lo {lo z M : Nat} (h1 : lo ≤ z) (h2 : z ≤ M) (hM : M < 2 ^ 31) : nI lo ≤ nI z ∧ nI z ≤ nI M := ⟨(nI_leI (by omega) (by omega)).mpr h1, (nI_leI (by omega) hM).mpr h2⟩
theorem lg_same (z : Int64) : lg_cmp z z = 0 := by unfold lg_cmp; simp
/-- the loop's next turn -/
def lh_next (D : va_G) (cI cL : ClassId) (A : Nat → Prop) (p : Program) (l : Launch) (e : Env) (s : State) (m : MethodId) (args : Array Value) (below : List Frame) (meth : Method) (c : Code) (ad : Nat → Nat) (ev : Nat) : Prop := ∀ (n L B : Nat) (v : m_V) (a : m_R) (x : Int64) (w : Int32) (fm fb fr fl fu fv : Nat → Int32) (cu su : Nat), J n L B v a → PM n v fm → PA B a fb fr fl fu fv → n ≤ 24 * ev → wB ev w → cu ≤ 23 + ev → su ≤ 921 + 6 * ev → m_Go D cI cL ad ([] : m_H).length (m_Ml M_L_holds) A p l e (m_rm M_L_holds) s m args below meth c (m_VP D cI cL ad ([] : m_H).length A (pH) below args s (m_Mc M_L_holds) (m_Ms M_L_holds)) 104 [(13, .int (nI ev)), (12, .int 1), (11, .int w), (9, .long x), (8, .int (nI L)), (7, .ref 22), (6, .ref 21), (5, .ref 20), (4, .ref 19), (3, .ref 18), (2, .ref 17), (1, .ref 0), (0, .ref m_BI)] [] (hW v a x fm fb fr fl fu fv) cu su
/-- behind an event -/
def lh_tail (D : va_G) (cI cL : ClassId) (A : Nat → Prop) (p : Program) (l : Launch) (e : Env) (s : State) (m : MethodId) (args : Array Value) (below : List Frame) (meth : Method) (c : Code) (ad : Nat → Nat) (ev : Nat) : Prop := ∀ (n L B : Nat) (v : m_V) (a : m_R) (x : Int64) (w : Int32) (fm fb fr fl fu fv : Nat → Int32) (cu su : Nat), J n L B v a → PM n v fm → PA B a fb fr fl fu fv → n ≤ 24 * (ev + 1) → wB (ev + 1) w → cu ≤ 23 + (ev + 1) → su ≤ 921 + 6 * (ev + 1) → m_Go D cI cL ad ([] : m_H).length (m_Ml M_L_holds) A p l e (m_rm M_L_holds) s m args below meth c (m_VP D cI cL ad ([] : m_H).length A (pH) below args s (m_Mc M_L_holds) (m_Ms M_L_holds)) 730 [(12, .int 1), (13, .int (nI ev)), (11, .int w), (9, .long x), (8, .int (nI L)), (7, .ref 22), (6, .ref 21), (5, .ref 20), (4, .ref 19), (3, .ref 18), (2, .ref 17), (1, .ref 0), (0, .ref m_BI)] [] (hW v a x fm fb fr fl fu fv) cu su
theorem c_tick1 {v : m_V} {a : m_R} {x : Int64} {t : m_H} {r : Int32} {T : Nat} (hT : T = 1) (hr : -1000 ≤ r ∧ r ≤ 100000) (hk : kI v a) : m_Ctr M_X5_tick [.ref 0, .int r] (hC v a x t) (.inl (some (.int ((sTicks r T v a).1 10)), hC (sTicks r T v a).1 (sTicks r T v a).2 x t)) := by
  subst hT
  exact c_X5_tick hr hk
theorem h_tail {D : va_G} {cI cL : ClassId} {sa : Nat → Nat} {A : Nat → Prop} {p : Program} {l : Launch} {e : Env} {s : State} {m : MethodId} {args : Array Value} {below : List Frame} {meth : Method} {c : Code} {ad : Nat → Nat} (X : m_At D cI cL sa (m_My M_L_holds) (m_Mb M_L_holds) (m_Ml M_L_holds) (m_Mr M_L_holds) A [] p l s m args meth c) {ev : Nat} (hev : ev < 240) (hnx : lh_next D cI cL A p l e s m args below meth c ad (ev + 1)) : lh_tail D cI cL A p l e s m args below meth c ad ev := by
  intro n L B v a x w fm fb fr fl fu fv cu su h hM hA hn hw hcu hsu
  refine m_iload X dL_holds_730 rfl rfl ?_
  refine m_if_eq (tgt := 758) X dL_holds_732 (by decide) rfl (fun b732 => absurd b732 (by decide)) (fun b732 => ?_)
  refine m_aload_n X dL_holds_735 rfl rfl ?_
  refine m_aload_n X dL_holds_736 rfl rfl ?_
  refine m_aload_n X dL_holds_737 rfl rfl ?_
  refine m_aload X dL_holds_738 rfl rfl ?_
  refine m_aload X dL_holds_740 rfl rfl ?_
  refine m_aload X dL_holds_742 rfl rfl ?_
  refine m_aload X dL_holds_744 rfl rfl ?_
  refine m_iload X dL_holds_746 rfl rfl ?_
  refine m_cS8 X dL_holds_748 lk_L_167 mk_L_isTold st_L_isTold (c_L_isTold (by omega) h hM hA) rfl (Nat.le_of_ble_eq_true rfl) (Nat.le_of_ble_eq_true rfl) (Nat.le_of_ble_eq_true rfl) (show cu ≤ 263 by omega) (show su ≤ 2361 by omega) rfl ?_
  refine m_if_eq (tgt := 758) X dL_holds_751 (by decide) rfl (fun b751 => absurd b751 (by decide)) (fun b751 => ?_)
  refine m_iconst (v := 1) X dL_holds_754 (by decide) rfl ?_
  refine m_goto (tgt := 759) X dL_holds_755 (by decide) rfl ?_
  refine m_ist (l1 := [(12, .int 1), (13, .int (nI ev)), (11, .int w), (9, .long x), (8, .int (nI L)), (7, .ref 22), (6, .ref 21), (5, .ref 20), (4, .ref 19), (3, .ref 18), (2, .ref 17), (1, .ref 0), (0, .ref m_BI)]) X dL_holds_759 (Nat.le_of_ble_eq_true rfl) rfl rfl ?_
  refine m_inc (x1 := nI (ev + 1)) (l1 := [(13, .int (nI (ev + 1))), (12, .int 1), (11, .int w), (9, .long x), (8, .int (nI L)), (7, .ref 22), (6, .ref 21), (5, .ref 20), (4, .ref 19), (3, .ref 18), (2, .ref 17), (1, .ref 0), (0, .ref m_BI)]) X dL_holds_761 rfl (Nat.le_of_ble_eq_true rfl) ((nI_succ ev).symm) rfl rfl ?_
  refine m_goto (tgt := 104) X dL_holds_764 (by decide) rfl ?_
  refine m_lp (l1 := [(13, .int (nI (ev + 1))), (12, .int 1), (11, .int w), (9, .long x), (8, .int (nI L)), (7, .ref 22), (6, .ref 21), (5, .ref 20), (4, .ref 19), (3, .ref 18), (2, .ref 17), (1, .ref 0), (0, .ref m_BI)]) [0, 1, 2, 3, 4, 5, 6, 7, 8, 9, 10, 11, 12] rfl ?_
  exact hnx _ _ _ _ _ _ _ _ _ _ _ _ _ _ _ h hM hA hn hw (show cu ≤ 23 + (ev + 1) by omega) (show su ≤ 921 + 6 * (ev + 1) by omega)
theorem m2_int {z : Nat} (h : z < 5) : (nI z - 2).toInt = (z : Int) - 2 := by
  have e2 : (2 : Int32).toInt = 2 := rfl
  have e1 : (nI z).toInt = z := nI_toInt (by omega)
  rw [Jvm.Kit.i32_sub (by rw [e1, e2]; omega) (by rw [e1, e2]; omega), e1, e2]
theorem h_tick {D : va_G} {cI cL : ClassId} {sa : Nat → Nat} {A : Nat → Prop} {p : Program} {l : Launch} {e : Env} {s : State} {m : MethodId} {args : Array Value} {below : List Frame} {meth : Method} {c : Code} {ad : Nat → Nat} (X : m_At D cI cL sa (m_My M_L_holds) (m_Mb M_L_holds) (m_Ml M_L_holds) (m_Mr M_L_holds) A [] p l s m args meth c) {n L B ev W9 Z cu su : Nat} {v : m_V} {a : m_R} {x : Int64} {w : Int32} {fm fb fr fl fu fv : Nat → Int32} (hev : ev < 240) (h : J n L B v a) (hM : PM n v fm) (hA : PA B a fb fr fl fu fv) (hn : n ≤ 24 * ev) (hw : wB ev w) (hcu : cu ≤ 23 + ev) (hsu : su ≤ 921 + 6 * ev) (hW60 : W9 < 60) (hZ : Z < 100000) (ht : lh_tail D cI cL A p l e s m args below meth c ad ev) : m_Go D cI cL ad ([] : m_H).length (m_Ml M_L_holds) A p l e (m_rm M_L_holds) s m args below meth c (m_VP D cI cL ad ([] : m_H).length A (pH) below args s (m_Mc M_L_holds) (m_Ms M_L_holds)) 504 [(15, .int (nI Z)), (14, .int (nI W9)), (13, .int (nI ev)), (12, .int 1), (11, .int w), (9, .long x), (8, .int (nI L)), (7, .ref 22), (6, .ref 21), (5, .ref 20), (4, .ref 19), (3, .ref 18), (2, .ref 17), (1, .ref 0), (0, .ref m_BI)] [] (hW v a x fm fb fr fl fu fv) cu su := by
  have hI := h.1
  have h0 := hI.1
  have hX9 := h.2.1
  have hL8 := h.2.2.2.1
  have hk := inv_kI hI
  have e8 : v 8 = nI L := h0.2.2.2.2.2.1
  have e20 : v 20 = nI B := h0.2.2.2.2.2.2.1
  have k605 : ∀ (gx w2 : Int32), wB (ev + 1) w2 → m_Go D cI cL ad ([] : m_H).length (m_Ml M_L_holds) A p l e (m_rm M_L_holds) s m args below meth c (m_VP D cI cL ad ([] : m_H).length A (pH) below args s (m_Mc M_L_holds) (m_Ms M_L_holds)) 605 [(11, .int w2), (16, .int gx), (15, .int (nI Z)), (14, .int (nI W9)), (13, .int (nI ev)), (12, .int 1), (9, .long x), (8, .int (nI L)), (7, .ref 22), (6, .ref 21), (5, .ref 20), (4, .ref 19), (3, .ref 18), (2, .ref 17), (1, .ref 0), (0, .ref m_BI)] [] (hW v a x fm fb fr fl fu fv) cu su := by
    intro gx w2 hw2
    have hr : -1000 ≤ w2 ∧ w2 ≤ 100000 := w_rd (by omega) hw2
    have k658 : ∀ T : Nat, 1 ≤ T → T ≤ 24 → m_Go D cI cL ad ([] : m_H).length (m_Ml M_L_holds) A p l e (m_rm M_L_holds) s m args below meth c (m_VP D cI cL ad ([] : m_H).length A (pH) below args s (m_Mc M_L_holds) (m_Ms M_L_holds)) 658 [(11, .int w2), (16, .int gx), (15, .int (nI Z)), (14, .int (nI W9)), (13, .int (nI ev)), (12, .int 1), (9, .long x), (8, .int (nI L)), (7, .ref 22), (6, .ref 21), (5, .ref 20), (4, .ref 19), (3, .ref 18), (2, .ref 17), (1, .ref 0), (0, .ref m_BI)] [.int (nI T)] (hW v a x fm fb fr fl fu fv) cu su := by
      intro T hT1 hT
      have k693 : ∀ gm gb gr gl gu gv : Nat → Int32, PM (n + T) (sTicks w2 T v a).1 gm → PA B (sTicks w2 T v a).2 gb gr gl gu gv → m_Go D cI cL ad ([] : m_H).length (m_Ml M_L_holds) A p l e (m_rm M_L_holds) s m args below meth c (m_VP D cI cL ad ([] : m_H).length A (pH) below args s (m_Mc M_L_holds) (m_Ms M_L_holds)) 693 [(18, .int (nI T)), (17, .int (nI T)), (11, .int w2), (16, .int gx), (15, .int (nI Z)), (14, .int (nI W9)), (13, .int (nI ev)), (12, .int 1), (9, .long x), (8, .int (nI L)), (7, .ref 22), (6, .ref 21), (5, .ref 20), (4, .ref 19), (3, .ref 18), (2, .ref 17), (1, .ref 0), (0, .ref m_BI)] [] (hW v a x gm gb gr gl gu gv) cu su := by
        intro gm gb gr gl gu gv hM2 hA2
        refine m_iload X dL_holds_693 rfl rfl ?_
        refine m_iconst (v := 1) X dL_holds_695 (by decide) rfl ?_
        refine m_icmp_ne (tgt := 708) X dL_holds_696 (by decide) rfl (fun b696 => ?_) (fun b696 => ?_)
        · replace b696 : ¬ nI T = 1 := b696
          refine m_aload_n X dL_holds_708 rfl rfl ?_
          refine m_iload X dL_holds_709 rfl rfl ?_
          refine m_iload X dL_holds_711 rfl rfl ?_
          refine m_cV2 X dL_holds_713 lk_L_164 mk_X5_ticks in_X5_ticks se_X5_ticks rfl rfl (c_X5_ticks hr hT1 (by omega) (fun i hi => inv_kI (J_ticks (n := n) hr h i (by omega)).1)) rfl (Nat.le_of_ble_eq_true rfl) (Nat.le_of_ble_eq_true rfl) (Nat.le_of_ble_eq_true rfl) (show cu ≤ 263 by omega) (show su ≤ 2361 by omega) rfl ?_
          refine m_aload_n X dL_holds_716 rfl rfl ?_
          refine m_bipush (v := 8) X dL_holds_717 (by decide) rfl ?_
          refine m_ald (k := 8) (x := (sTicks w2 T v a).1 10) X dL_holds_719 hW_g0 (vp_in_nI (n := 8) (by decide) (by decide)) (rfl) (pm8 hM2) rfl ?_
          refine m_icmp_ne (tgt := 727) X dL_holds_720 (by decide) rfl (fun b720 => absurd b720 (not_not_intro rfl)) (fun b720 => ?_)
          refine m_iconst (v := 1) X dL_holds_723 (by decide) rfl ?_
          refine m_goto (tgt := 728) X dL_holds_724 (by decide) rfl ?_
          refine m_ist (l1 := [(12, .int 1), (18, .int (nI T)), (17, .int (nI T)), (11, .int w2), (16, .int gx), (15, .int (nI Z)), (14, .int (nI W9)), (13, .int (nI ev)), (9, .long x), (8, .int (nI L)), (7, .ref 22), (6, .ref 21), (5, .ref 20), (4, .ref 19), (3, .ref 18), (2, .ref 17), (1, .ref 0), (0, .ref m_BI)]) X dL_holds_728 (Nat.le_of_ble_eq_true rfl) rfl rfl ?_
          refine m_lp (l1 := [(12, .int 1), (13, .int (nI ev)), (11, .int w2), (9, .long x), (8, .int (nI L)), (7, .ref 22), (6, .ref 21), (5, .ref 20), (4, .ref 19), (3, .ref 18), (2, .ref 17), (1, .ref 0), (0, .ref m_BI)]) [0, 7, 3, 8, 9, 10, 11, 12, 13, 14, 15, 16, 17] rfl ?_
          exact ht _ _ _ _ _ _ _ _ _ _ _ _ _ _ _ (J_ticks (n := n) hr h T (by omega)) hM2 hA2 (show n + T ≤ 24 * (ev + 1) by omega) hw2 (show cu ≤ 23 + (ev + 1) by omega) (show su ≤ 921 + 6 * (ev + 1) by omega)
        · replace b696 : nI T = 1 := b696
          have hT : T = 1 := (nI_eq (b := 1) (by omega) (by decide)).mp b696
          refine m_aload_n X dL_holds_699 rfl rfl ?_
          refine m_iload X dL_holds_700 rfl rfl ?_
          refine m_cV1 X dL_holds_702 lk_L_161 mk_X5_tick in_X5_tick se_X5_tick rfl rfl (c_tick1 hT hr hk) rfl (Nat.le_of_ble_eq_true rfl) (Nat.le_of_ble_eq_true rfl) (Nat.le_of_ble_eq_true rfl) (show cu ≤ 263 by omega) (show su ≤ 2361 by omega) rfl ?_
          refine m_goto (tgt := 716) X dL_holds_705 (by decide) rfl ?_
          refine m_aload_n X dL_holds_716 rfl rfl ?_
          refine m_bipush (v := 8) X dL_holds_717 (by decide) rfl ?_
          refine m_ald (k := 8) (x := (sTicks w2 T v a).1 10) X dL_holds_719 hW_g0 (vp_in_nI (n := 8) (by decide) (by decide)) (rfl) (pm8 hM2) rfl ?_
          refine m_icmp_ne (tgt := 727) X dL_holds_720 (by decide) rfl (fun b720 => absurd b720 (not_not_intro rfl)) (fun b720 => ?_)
          refine m_iconst (v := 1) X dL_holds_723 (by decide) rfl ?_
          refine m_goto (tgt := 728) X dL_holds_724 (by decide) rfl ?_
          refine m_ist (l1 := [(12, .int 1), (18, .int (nI T)), (17, .int (nI T)), (11, .int w2), (16, .int gx), (15, .int (nI Z)), (14, .int (nI W9)), (13, .int (nI ev)), (9, .long x), (8, .int (nI L)), (7, .ref 22), (6, .ref 21), (5, .ref 20), (4, .ref 19), (3, .ref 18), (2, .ref 17), (1, .ref 0), (0, .ref m_BI)]) X dL_holds_728 (Nat.le_of_ble_eq_true rfl) rfl rfl ?_
          refine m_lp (l1 := [(12, .int 1), (13, .int (nI ev)), (11, .int w2), (9, .long x), (8, .int (nI L)), (7, .ref 22), (6, .ref 21), (5, .ref 20), (4, .ref 19), (3, .ref 18), (2, .ref 17), (1, .ref 0), (0, .ref m_BI)]) [0, 7, 3, 8, 9, 10, 11, 12, 13, 14, 15, 16, 17] rfl ?_
          exact ht _ _ _ _ _ _ _ _ _ _ _ _ _ _ _ (J_ticks (n := n) hr h T (by omega)) hM2 hA2 (show n + T ≤ 24 * (ev + 1) by omega) hw2 (show cu ≤ 23 + (ev + 1) by omega) (show su ≤ 921 + 6 * (ev + 1) by omega)
      have loop : ∀ (k9 i : Nat) (gm gb gr gl gu gv : Nat → Int32), i + k9 = T → PM (n + i) (sTicks w2 i v a).1 gm → PA B (sTicks w2 i v a).2 gb gr gl gu gv → m_Go D cI cL ad ([] : m_H).length (m_Ml M_L_holds) A p l e (m_rm M_L_holds) s m args below meth c (m_VP D cI cL ad ([] : m_H).length A (pH) below args s (m_Mc M_L_holds) (m_Ms M_L_holds)) 663 [(18, .int (nI i)), (17, .int (nI T)), (11, .int w2), (16, .int gx), (15, .int (nI Z)), (14, .int (nI W9)), (13, .int (nI ev)), (12, .int 1), (9, .long x), (8, .int (nI L)), (7, .ref 22), (6, .ref 21), (5, .ref 20), (4, .ref 19), (3, .ref 18), (2, .ref 17), (1, .ref 0), (0, .ref m_BI)] [] (hW v a x gm gb gr gl gu gv) cu su := by
        intro k9
        induction k9 with
        | zero =>
          intro i gm gb gr gl gu gv hi hM2 hA2
          have hiT : i = T := by omega
          subst hiT
          refine m_iload X dL_holds_663 rfl rfl ?_
          refine m_iload X dL_holds_665 rfl rfl ?_
          refine m_icmp_ge (tgt := 693) X dL_holds_667 (by decide) rfl (fun _ => ?_) (fun b667 => absurd (Int32.le_refl _) b667)
          exact k693 gm gb gr gl gu gv hM2 hA2
        | succ k9 ih =>
          intro i gm gb gr gl gu gv hi hM2 hA2
          have hlt : i < T := by omega
          refine m_iload X dL_holds_663 rfl rfl ?_
          refine m_iload X dL_holds_665 rfl rfl ?_
          refine m_icmp_ge (tgt := 693) X dL_holds_667 (by decide) rfl (fun b667 => absurd b667 (nI_ge hlt (by omega))) (fun b667 => ?_)
          refine m_aload_n X dL_holds_670 rfl rfl ?_
          refine m_aload_n X dL_holds_671 rfl rfl ?_
          refine m_aload X dL_holds_672 rfl rfl ?_
          refine m_aload X dL_holds_674 rfl rfl ?_
          refine m_aload X dL_holds_676 rfl rfl ?_
          refine m_aload X dL_holds_678 rfl rfl ?_
          refine m_iload X dL_holds_680 rfl rfl ?_
          refine m_iload X dL_holds_682 rfl rfl ?_
          refine m_pS8 (M := M_L_bring) X dL_holds_684 ll_L_157 mk_L_bring st_L_bring (c_L_bring (by omega) hr (J_ticks (n := n) hr h i (by omega)) hM2 hA2) (oW_len) (Nat.le_of_ble_eq_true rfl) (Nat.le_of_ble_eq_true rfl) (Nat.le_of_ble_eq_true rfl) (show cu ≤ 263 by omega) (show su ≤ 2361 by omega) rfl ?_
          rintro _ _ ⟨rfl, km, kb, kr, kl, ku, kv, rfl, hM3, hA3⟩
          refine m_inc (x1 := nI (i + 1)) (l1 := [(18, .int (nI (i + 1))), (17, .int (nI T)), (11, .int w2), (16, .int gx), (15, .int (nI Z)), (14, .int (nI W9)), (13, .int (nI ev)), (12, .int 1), (9, .long x), (8, .int (nI L)), (7, .ref 22), (6, .ref 21), (5, .ref 20), (4, .ref 19), (3, .ref 18), (2, .ref 17), (1, .ref 0), (0, .ref m_BI)]) X dL_holds_687 rfl (Nat.le_of_ble_eq_true rfl) ((nI_succ i).symm) rfl rfl ?_
          refine m_goto (tgt := 663) X dL_holds_690 (by decide) rfl ?_
          refine m_lp (l1 := [(18, .int (nI (i + 1))), (17, .int (nI T)), (11, .int w2), (16, .int gx), (15, .int (nI Z)), (14, .int (nI W9)), (13, .int (nI ev)), (12, .int 1), (9, .long x), (8, .int (nI L)), (7, .ref 22), (6, .ref 21), (5, .ref 20), (4, .ref 19), (3, .ref 18), (2, .ref 17), (1, .ref 0), (0, .ref m_BI)]) [0, 1, 2, 3, 4, 5, 6, 7, 8, 9, 10, 11, 12, 13, 14, 15, 16, 17] rfl ?_
          exact ih (i + 1) km kb kr kl ku kv (by omega) hM3 hA3
      refine m_ist (l1 := [(17, .int (nI T)), (11, .int w2), (16, .int gx), (15, .int (nI Z)), (14, .int (nI W9)), (13, .int (nI ev)), (12, .int 1), (9, .long x), (8, .int (nI L)), (7, .ref 22), (6, .ref 21), (5, .ref 20), (4, .ref 19), (3, .ref 18), (2, .ref 17), (1, .ref 0), (0, .ref m_BI)]) X dL_holds_658 (Nat.le_of_ble_eq_true rfl) rfl rfl ?_
      refine m_iconst (v := 0) X dL_holds_660 (by decide) rfl ?_
      refine m_ist (l1 := [(18, .int 0), (17, .int (nI T)), (11, .int w2), (16, .int gx), (15, .int (nI Z)), (14, .int (nI W9)), (13, .int (nI ev)), (12, .int 1), (9, .long x), (8, .int (nI L)), (7, .ref 22), (6, .ref 21), (5, .ref 20), (4, .ref 19), (3, .ref 18), (2, .ref 17), (1, .ref 0), (0, .ref m_BI)]) X dL_holds_661 (Nat.le_of_ble_eq_true rfl) rfl rfl ?_
      exact loop T 0 fm fb fr fl fu fv (by omega) hM hA
    refine m_aload_n X dL_holds_605 rfl rfl ?_
    refine m_bipush (v := 8) X dL_holds_606 (by decide) rfl ?_
    refine m_ald (k := 8) (x := v 10) X dL_holds_608 hW_g0 (vp_in_nI (n := 8) (by decide) (by decide)) (rfl) (pm8 hM) rfl ?_
    refine m_iconst (v := 4) X dL_holds_609 (by decide) rfl ?_
    refine m_icmp_eq (tgt := 621) X dL_holds_610 (by decide) rfl (fun b610 => ?_) (fun b610 => ?_)
    · replace b610 : v 10 = 4 := b610
      refine m_iconst (v := 1) X dL_holds_621 (by decide) rfl ?_
      refine m_iload X dL_holds_622 rfl rfl ?_
      refine m_iconst (v := 4) X dL_holds_624 (by decide) rfl ?_
      refine m_irem X dL_holds_625 (by decide) rfl ?_
      refine m_top (x1 := nI (Z % 4)) (nI_modI (m := 4) (by omega) (by decide) (by decide)) ?_
      refine m_iadd X dL_holds_626 rfl ?_
      refine m_top (x1 := nI (1 + Z % 4)) (nI_add 1 (Z % 4)) ?_
      refine m_goto (tgt := 658) X dL_holds_627 (by decide) rfl ?_
      exact k658 (1 + Z % 4) (by omega) (by omega)
    · replace b610 : ¬ v 10 = 4 := b610
      refine m_aload_n X dL_holds_613 rfl rfl ?_
      refine m_bipush (v := 8) X dL_holds_614 (by decide) rfl ?_
      refine m_ald (k := 8) (x := v 10) X dL_holds_616 hW_g0 (vp_in_nI (n := 8) (by decide) (by decide)) (rfl) (pm8 hM) rfl ?_
      refine m_iconst (v := 1) X dL_holds_617 (by decide) rfl ?_
      refine m_icmp_ne (tgt := 630) X dL_holds_618 (by decide) rfl (fun b618 => ?_) (fun b618 => ?_)
      · replace b618 : ¬ v 10 = 1 := b618
        refine m_iload X dL_holds_630 rfl rfl ?_
        refine m_bipush (v := 10) X dL_holds_632 (by decide) rfl ?_
        refine m_irem X dL_holds_634 (by decide) rfl ?_
        refine m_top (x1 := nI (W9 % 10)) (nI_modI (m := 10) (by omega) (by decide) (by decide)) ?_
        refine m_bipush (v := 9) X dL_holds_635 (by decide) rfl ?_
        refine m_icmp_ne (tgt := 657) X dL_holds_637 (by decide) rfl (fun b637 => ?_) (fun b637 => ?_)
        · replace b637 : ¬ nI (W9 % 10) = 9 := b637
          refine m_iconst (v := 1) X dL_holds_657 (by decide) rfl ?_
          refine m_top (x1 := nI 1) rfl ?_
          exact k658 1 (by omega) (by omega)
        · replace b637 : nI (W9 % 10) = 9 := b637
          refine m_iload X dL_holds_640 rfl rfl ?_
          refine m_iconst (v := 3) X dL_holds_642 (by decide) rfl ?_
          refine m_irem X dL_holds_643 (by decide) rfl ?_
          refine m_top (x1 := nI (Z % 3)) (nI_modI (m := 3) (by omega) (by decide) (by decide)) ?_
          refine m_if_ne (tgt := 657) X dL_holds_644 (by decide) rfl (fun b644 => ?_) (fun b644 => ?_)
          · replace b644 : ¬ nI (Z % 3) = 0 := b644
            refine m_iconst (v := 1) X dL_holds_657 (by decide) rfl ?_
            refine m_top (x1 := nI 1) rfl ?_
            exact k658 1 (by omega) (by omega)
          · replace b644 : nI (Z % 3) = 0 := b644
            refine m_iconst (v := 1) X dL_holds_647 (by decide) rfl ?_
            refine m_iload X dL_holds_648 rfl rfl ?_
            refine m_bipush (v := 24) X dL_holds_650 (by decide) rfl ?_
            refine m_irem X dL_holds_652 (by decide) rfl ?_
            refine m_top (x1 := nI (Z % 24)) (nI_modI (m := 24) (by omega) (by decide) (by decide)) ?_
            refine m_iadd X dL_holds_653 rfl ?_
            refine m_top (x1 := nI (1 + Z % 24)) (nI_add 1 (Z % 24)) ?_
            refine m_goto (tgt := 658) X dL_holds_654 (by decide) rfl ?_
            exact k658 (1 + Z % 24) (by omega) (by omega)
      · replace b618 : v 10 = 1 := b618
        refine m_iconst (v := 1) X dL_holds_621 (by decide) rfl ?_
        refine m_iload X dL_holds_622 rfl rfl ?_
        refine m_iconst (v := 4) X dL_holds_624 (by decide) rfl ?_
        refine m_irem X dL_holds_625 (by decide) rfl ?_
        refine m_top (x1 := nI (Z % 4)) (nI_modI (m := 4) (by omega) (by decide) (by decide)) ?_
        refine m_iadd X dL_holds_626 rfl ?_
        refine m_top (x1 := nI (1 + Z % 4)) (nI_add 1 (Z % 4)) ?_
        refine m_goto (tgt := 658) X dL_holds_627 (by decide) rfl ?_
        exact k658 (1 + Z % 4) (by omega) (by omega)
  have k601 : ∀ gx dx rx : Int32, 0 ≤ gx.toInt → gx.toInt ≤ 38 → -2 ≤ dx.toInt → dx.toInt ≤ 2 → (rx = 0 ∨ rx = w) → m_Go D cI cL ad ([] : m_H).length (m_Ml M_L_holds) A p l e (m_rm M_L_holds) s m args below meth c (m_VP D cI cL ad ([] : m_H).length A (pH) below args s (m_Mc M_L_holds) (m_Ms M_L_holds)) 601 [(16, .int gx), (15, .int (nI Z)), (14, .int (nI W9)), (13, .int (nI ev)), (12, .int 1), (11, .int w), (9, .long x), (8, .int (nI L)), (7, .ref 22), (6, .ref 21), (5, .ref 20), (4, .ref 19), (3, .ref 18), (2, .ref 17), (1, .ref 0), (0, .ref m_BI)] [.int rx, .int (gx + dx), .int w] (hW v a x fm fb fr fl fu fv) cu su := by
    intro gx dx rx g0 g1 d0 d1 hrx
    refine m_isub X dL_holds_601 rfl ?_
    refine m_iadd X dL_holds_602 rfl ?_
    refine m_ist (l1 := [(11, .int (w + ((gx + dx) - rx))), (16, .int gx), (15, .int (nI Z)), (14, .int (nI W9)), (13, .int (nI ev)), (12, .int 1), (9, .long x), (8, .int (nI L)), (7, .ref 22), (6, .ref 21), (5, .ref 20), (4, .ref 19), (3, .ref 18), (2, .ref 17), (1, .ref 0), (0, .ref m_BI)]) X dL_holds_603 (Nat.le_of_ble_eq_true rfl) rfl rfl ?_
    exact k605 gx _ (w_step hev hw g0 g1 d0 d1 hrx)
  have k579 : ∀ gx dx : Int32, 0 ≤ gx.toInt → gx.toInt ≤ 38 → -2 ≤ dx.toInt → dx.toInt ≤ 2 → m_Go D cI cL ad ([] : m_H).length (m_Ml M_L_holds) A p l e (m_rm M_L_holds) s m args below meth c (m_VP D cI cL ad ([] : m_H).length A (pH) below args s (m_Mc M_L_holds) (m_Ms M_L_holds)) 579 [(16, .int gx), (15, .int (nI Z)), (14, .int (nI W9)), (13, .int (nI ev)), (12, .int 1), (11, .int w), (9, .long x), (8, .int (nI L)), (7, .ref 22), (6, .ref 21), (5, .ref 20), (4, .ref 19), (3, .ref 18), (2, .ref 17), (1, .ref 0), (0, .ref m_BI)] [.int dx, .int gx, .int w] (hW v a x fm fb fr fl fu fv) cu su := by
    intro gx dx g0 g1 d0 d1
    refine m_iadd X dL_holds_579 rfl ?_
    refine m_aload_n X dL_holds_580 rfl rfl ?_
    refine m_bipush (v := 8) X dL_holds_581 (by decide) rfl ?_
    refine m_ald (k := 8) (x := v 10) X dL_holds_583 hW_g0 (vp_in_nI (n := 8) (by decide) (by decide)) (rfl) (pm8 hM) rfl ?_
    refine m_if_ne (tgt := 600) X dL_holds_584 (by decide) rfl (fun b584 => ?_) (fun b584 => ?_)
    · replace b584 : ¬ v 10 = 0 := b584
      refine m_iconst (v := 0) X dL_holds_600 (by decide) rfl ?_
      exact k601 gx dx 0 g0 g1 d0 d1 (Or.inl rfl)
    · replace b584 : v 10 = 0 := b584
      refine m_iload X dL_holds_587 rfl rfl ?_
      refine m_bipush (v := 50) X dL_holds_589 (by decide) rfl ?_
      refine m_irem X dL_holds_591 (by decide) rfl ?_
      refine m_top (x1 := nI (Z % 50)) (nI_modI (m := 50) (by omega) (by decide) (by decide)) ?_
      refine m_if_ne (tgt := 600) X dL_holds_592 (by decide) rfl (fun b592 => ?_) (fun b592 => ?_)
      · replace b592 : ¬ nI (Z % 50) = 0 := b592
        refine m_iconst (v := 0) X dL_holds_600 (by decide) rfl ?_
        exact k601 gx dx 0 g0 g1 d0 d1 (Or.inl rfl)
      · replace b592 : nI (Z % 50) = 0 := b592
        refine m_iload X dL_holds_595 rfl rfl ?_
        refine m_goto (tgt := 601) X dL_holds_597 (by decide) rfl ?_
        exact k601 gx dx w g0 g1 d0 d1 (Or.inr rfl)
  have k548 : ∀ gx : Int32, 0 ≤ gx.toInt → gx.toInt ≤ 38 → m_Go D cI cL ad ([] : m_H).length (m_Ml M_L_holds) A p l e (m_rm M_L_holds) s m args below meth c (m_VP D cI cL ad ([] : m_H).length A (pH) below args s (m_Mc M_L_holds) (m_Ms M_L_holds)) 548 [(15, .int (nI Z)), (14, .int (nI W9)), (13, .int (nI ev)), (12, .int 1), (11, .int w), (9, .long x), (8, .int (nI L)), (7, .ref 22), (6, .ref 21), (5, .ref 20), (4, .ref 19), (3, .ref 18), (2, .ref 17), (1, .ref 0), (0, .ref m_BI)] [.int gx] (hW v a x fm fb fr fl fu fv) cu su := by
    intro gx g0 g1
    refine m_ist (l1 := [(16, .int gx), (15, .int (nI Z)), (14, .int (nI W9)), (13, .int (nI ev)), (12, .int 1), (11, .int w), (9, .long x), (8, .int (nI L)), (7, .ref 22), (6, .ref 21), (5, .ref 20), (4, .ref 19), (3, .ref 18), (2, .ref 17), (1, .ref 0), (0, .ref m_BI)]) X dL_holds_548 (Nat.le_of_ble_eq_true rfl) rfl rfl ?_
    refine m_iload X dL_holds_550 rfl rfl ?_
    refine m_iload X dL_holds_552 rfl rfl ?_
    refine m_iload X dL_holds_554 rfl rfl ?_
    refine m_sipush (v := 300) X dL_holds_556 (by decide) rfl ?_
    refine m_idiv X dL_holds_559 (by decide) rfl ?_
    refine m_top (x1 := nI (Z / 300)) (nI_divI (m := 300) (by omega) (by decide)) ?_
    refine m_iconst (v := 5) X dL_holds_560 (by decide) rfl ?_
    refine m_irem X dL_holds_561 (by decide) rfl ?_
    refine m_top (x1 := nI (Z / 300 % 5)) (nI_modI (m := 5) (by omega) (by decide) (by decide)) ?_
    refine m_if_ne (tgt := 578) X dL_holds_562 (by decide) rfl (fun b562 => ?_) (fun b562 => ?_)
    · replace b562 : ¬ nI (Z / 300 % 5) = 0 := b562
      refine m_iconst (v := 0) X dL_holds_578 (by decide) rfl ?_
      exact k579 gx 0 g0 g1 (by decide) (by decide)
    · replace b562 : nI (Z / 300 % 5) = 0 := b562
      refine m_iload X dL_holds_565 rfl rfl ?_
      refine m_sipush (v := 1500) X dL_holds_567 (by decide) rfl ?_
      refine m_idiv X dL_holds_570 (by decide) rfl ?_
      refine m_top (x1 := nI (Z / 1500)) (nI_divI (m := 1500) (by omega) (by decide)) ?_
      refine m_iconst (v := 5) X dL_holds_571 (by decide) rfl ?_
      refine m_irem X dL_holds_572 (by decide) rfl ?_
      refine m_top (x1 := nI (Z / 1500 % 5)) (nI_modI (m := 5) (by omega) (by decide) (by decide)) ?_
      refine m_iconst (v := 2) X dL_holds_573 (by decide) rfl ?_
      refine m_isub X dL_holds_574 rfl ?_
      refine m_goto (tgt := 579) X dL_holds_575 (by decide) rfl ?_
      exact k579 gx ((nI (Z / 1500 % 5)) - 2) g0 g1 (by rw [m2_int (by omega)]; omega) (by rw [m2_int (by omega)]; omega)
  refine m_aload_n X dL_holds_504 rfl rfl ?_
  refine m_bipush (v := 8) X dL_holds_505 (by decide) rfl ?_
  refine m_ald (k := 8) (x := v 10) X dL_holds_507 hW_g0 (vp_in_nI (n := 8) (by decide) (by decide)) (rfl) (pm8 hM) rfl ?_
  refine m_iconst (v := 2) X dL_holds_508 (by decide) rfl ?_
  refine m_icmp_ne (tgt := 523) X dL_holds_509 (by decide) rfl (fun b509 => ?_) (fun b509 => ?_)
  · replace b509 : ¬ v 10 = 2 := b509
    refine m_aload_n X dL_holds_523 rfl rfl ?_
    refine m_bipush (v := 8) X dL_holds_524 (by decide) rfl ?_
    refine m_ald (k := 8) (x := v 10) X dL_holds_526 hW_g0 (vp_in_nI (n := 8) (by decide) (by decide)) (rfl) (pm8 hM) rfl ?_
    refine m_iconst (v := 3) X dL_holds_527 (by decide) rfl ?_
    refine m_icmp_eq (tgt := 539) X dL_holds_528 (by decide) rfl (fun b528 => ?_) (fun b528 => ?_)
    · replace b528 : v 10 = 3 := b528
      refine m_iload X dL_holds_539 rfl rfl ?_
      refine m_bipush (v := 9) X dL_holds_541 (by decide) rfl ?_
      refine m_irem X dL_holds_543 (by decide) rfl ?_
      refine m_top (x1 := nI (Z % 9)) (nI_modI (m := 9) (by omega) (by decide) (by decide)) ?_
      refine m_goto (tgt := 548) X dL_holds_544 (by decide) rfl ?_
      exact k548 (nI (Z % 9)) (by rw [nI_toInt (by omega)]; omega) (by rw [nI_toInt (by omega)]; omega)
    · replace b528 : ¬ v 10 = 3 := b528
      refine m_aload_n X dL_holds_531 rfl rfl ?_
      refine m_bipush (v := 8) X dL_holds_532 (by decide) rfl ?_
      refine m_ald (k := 8) (x := v 10) X dL_holds_534 hW_g0 (vp_in_nI (n := 8) (by decide) (by decide)) (rfl) (pm8 hM) rfl ?_
      refine m_iconst (v := 5) X dL_holds_535 (by decide) rfl ?_
      refine m_icmp_ne (tgt := 547) X dL_holds_536 (by decide) rfl (fun b536 => ?_) (fun b536 => ?_)
      · replace b536 : ¬ v 10 = 5 := b536
        refine m_iconst (v := 0) X dL_holds_547 (by decide) rfl ?_
        exact k548 0 (by decide) (by decide)
      · replace b536 : v 10 = 5 := b536
        refine m_iload X dL_holds_539 rfl rfl ?_
        refine m_bipush (v := 9) X dL_holds_541 (by decide) rfl ?_
        refine m_irem X dL_holds_543 (by decide) rfl ?_
        refine m_top (x1 := nI (Z % 9)) (nI_modI (m := 9) (by omega) (by decide) (by decide)) ?_
        refine m_goto (tgt := 548) X dL_holds_544 (by decide) rfl ?_
        exact k548 (nI (Z % 9)) (by rw [nI_toInt (by omega)]; omega) (by rw [nI_toInt (by omega)]; omega)
  · replace b509 : v 10 = 2 := b509
    refine m_bipush (v := 9) X dL_holds_512 (by decide) rfl ?_
    refine m_iload X dL_holds_514 rfl rfl ?_
    refine m_bipush (v := 30) X dL_holds_516 (by decide) rfl ?_
    refine m_irem X dL_holds_518 (by decide) rfl ?_
    refine m_top (x1 := nI (Z % 30)) (nI_modI (m := 30) (by omega) (by decide) (by decide)) ?_
    refine m_iadd X dL_holds_519 rfl ?_
    refine m_top (x1 := nI (9 + Z % 30)) (nI_add 9 (Z % 30)) ?_
    refine m_goto (tgt := 548) X dL_holds_520 (by decide) rfl ?_
    exact k548 (nI (9 + Z % 30)) (by rw [nI_toInt (by omega)]; omega) (by rw [nI_toInt (by omega)]; omega)
theorem h_acts {D : va_G} {cI cL : ClassId} {sa : Nat → Nat} {A : Nat → Prop} {p : Program} {l : Launch} {e : Env} {s : State} {m : MethodId} {args : Array Value} {below : List Frame} {meth : Method} {c : Code} {ad : Nat → Nat} (X : m_At D cI cL sa (m_My M_L_holds) (m_Mb M_L_holds) (m_Ml M_L_holds) (m_Mr M_L_holds) A [] p l s m args meth c) {n L B ev W9 Z cu su : Nat} {v : m_V} {a : m_R} {x : Int64} {w : Int32} {fm fb fr fl fu fv : Nat → Int32} (hev : ev < 240) (h : J n L B v a) (hM : PM n v fm) (hA : PA B a fb fr fl fu fv) (hn : n ≤ 24 * ev) (hw : wB ev w) (hcu : cu ≤ 23 + ev) (hsu : su ≤ 921 + 6 * ev) (hW60 : W9 < 60) (hZ : Z < 100000) (ht : lh_tail D cI cL A p l e s m args below meth c ad ev) : m_Go D cI cL ad ([] : m_H).length (m_Ml M_L_holds) A p l e (m_rm M_L_holds) s m args below meth c (m_VP D cI cL ad ([] : m_H).length A (pH) below args s (m_Mc M_L_holds) (m_Ms M_L_holds)) 479 [(15, .int (nI Z)), (14, .int (nI W9)), (13, .int (nI ev)), (12, .int 1), (11, .int w), (9, .long x), (8, .int (nI L)), (7, .ref 22), (6, .ref 21), (5, .ref 20), (4, .ref 19), (3, .ref 18), (2, .ref 17), (1, .ref 0), (0, .ref m_BI)] [] (hW v a x fm fb fr fl fu fv) cu su := by
  have hI := h.1
  have h0 := hI.1
  have hX9 := h.2.1
  have hL8 := h.2.2.2.1
  have hk := inv_kI hI
  have e8 : v 8 = nI L := h0.2.2.2.2.2.1
  have e20 : v 20 = nI B := h0.2.2.2.2.2.2.1
  refine m_aload_n X dL_holds_479 rfl rfl ?_
  refine m_aload_n X dL_holds_480 rfl rfl ?_
  refine m_aload_n X dL_holds_481 rfl rfl ?_
  refine m_aload X dL_holds_482 rfl rfl ?_
  refine m_aload X dL_holds_484 rfl rfl ?_
  refine m_aload X dL_holds_486 rfl rfl ?_
  refine m_aload X dL_holds_488 rfl rfl ?_
  refine m_iload X dL_holds_490 rfl rfl ?_
  refine m_iload X dL_holds_492 rfl rfl ?_
  refine m_iload X dL_holds_494 rfl rfl ?_
  refine m_pS10 (M := M_L_acts) X dL_holds_496 ll_L_153 mk_L_acts st_L_acts (c_L_acts (by omega) h hM hA hZ) (oA_len) (Nat.le_of_ble_eq_true rfl) (Nat.le_of_ble_eq_true rfl) (Nat.le_of_ble_eq_true rfl) (show cu + 1 ≤ 263 by omega) (show su + 6 ≤ 2361 by omega) rfl ?_
  rintro _ _ ⟨rfl, v2, a2, B2, km, kb, kr, kl, ku, kv, rfl, hJ2, hM3, hA3⟩
  refine m_ist (l1 := [(12, .int 1), (15, .int (nI Z)), (14, .int (nI W9)), (13, .int (nI ev)), (11, .int w), (9, .long x), (8, .int (nI L)), (7, .ref 22), (6, .ref 21), (5, .ref 20), (4, .ref 19), (3, .ref 18), (2, .ref 17), (1, .ref 0), (0, .ref m_BI)]) X dL_holds_499 (Nat.le_of_ble_eq_true rfl) rfl rfl ?_
  refine m_goto (tgt := 730) X dL_holds_501 (by decide) rfl ?_
  refine m_lp (l1 := [(12, .int 1), (13, .int (nI ev)), (11, .int w), (9, .long x), (8, .int (nI L)), (7, .ref 22), (6, .ref 21), (5, .ref 20), (4, .ref 19), (3, .ref 18), (2, .ref 17), (1, .ref 0), (0, .ref m_BI)]) [0, 3, 4, 5, 6, 7, 8, 9, 10, 11, 12, 13, 14] rfl ?_
  exact ht _ _ _ _ _ _ _ _ _ _ _ _ _ _ _ (hJ2) (hM3) (hA3) (show n ≤ 24 * (ev + 1) by omega) (w_mono hw) (show cu + 1 ≤ 23 + (ev + 1) by omega) (show su + 6 ≤ 921 + 6 * (ev + 1) by omega)
theorem h_belt {D : va_G} {cI cL : ClassId} {sa : Nat → Nat} {A : Nat → Prop} {p : Program} {l : Launch} {e : Env} {s : State} {m : MethodId} {args : Array Value} {below : List Frame} {meth : Method} {c : Code} {ad : Nat → Nat} (X : m_At D cI cL sa (m_My M_L_holds) (m_Mb M_L_holds) (m_Ml M_L_holds) (m_Mr M_L_holds) A [] p l s m args meth c) {n L B ev W9 Z cu su : Nat} {v : m_V} {a : m_R} {x : Int64} {w : Int32} {fm fb fr fl fu fv : Nat → Int32} (hev : ev < 240) (h : J n L B v a) (hM : PM n v fm) (hA : PA B a fb fr fl fu fv) (hn : n ≤ 24 * ev) (hw : wB ev w) (hcu : cu ≤ 23 + ev) (hsu : su ≤ 921 + 6 * ev) (hW60 : W9 < 60) (hZ : Z < 100000) (ht : lh_tail D cI cL A p l e s m args below meth c ad ev) : m_Go D cI cL ad ([] : m_H).length (m_Ml M_L_holds) A p l e (m_rm M_L_holds) s m args below meth c (m_VP D cI cL ad ([] : m_H).length A (pH) below args s (m_Mc M_L_holds) (m_Ms M_L_holds)) 384 [(15, .int (nI Z)), (14, .int (nI W9)), (13, .int (nI ev)), (12, .int 1), (11, .int w), (9, .long x), (8, .int (nI L)), (7, .ref 22), (6, .ref 21), (5, .ref 20), (4, .ref 19), (3, .ref 18), (2, .ref 17), (1, .ref 0), (0, .ref m_BI)] [] (hW v a x fm fb fr fl fu fv) cu su := by
  have hI := h.1
  have h0 := hI.1
  have hX9 := h.2.1
  have hL8 := h.2.2.2.1
  have hk := inv_kI hI
  have e8 : v 8 = nI L := h0.2.2.2.2.2.1
  have e20 : v 20 = nI B := h0.2.2.2.2.2.2.1
  refine m_lload X dL_holds_384 rfl rfl ?_
  refine m_lconst (v := 1) X dL_holds_386 (by decide) rfl ?_
  refine m_iload X dL_holds_387 rfl rfl ?_
  refine m_sipush (v := 10001) X dL_holds_389 (by decide) rfl ?_
  refine m_irem X dL_holds_392 (by decide) rfl ?_
  refine m_top (x1 := nI (Z % 10001)) (nI_modI (m := 10001) (by omega) (by decide) (by decide)) ?_
  refine m_i2l X dL_holds_393 rfl ?_
  refine m_lmul X dL_holds_394 rfl ?_
  refine m_iload X dL_holds_395 rfl rfl ?_
  refine m_sipush (v := 1001) X dL_holds_397 (by decide) rfl ?_
  refine m_irem X dL_holds_400 (by decide) rfl ?_
  refine m_top (x1 := nI (Z % 1001)) (nI_modI (m := 1001) (by omega) (by decide) (by decide)) ?_
  refine m_i2l X dL_holds_401 rfl ?_
  refine m_lmul X dL_holds_402 rfl ?_
  refine m_iconst (v := 1) X dL_holds_403 (by decide) rfl ?_
  refine m_iload X dL_holds_404 rfl rfl ?_
  refine m_bipush (v := 100) X dL_holds_406 (by decide) rfl ?_
  refine m_irem X dL_holds_408 (by decide) rfl ?_
  refine m_top (x1 := nI (Z % 100)) (nI_modI (m := 100) (by omega) (by decide) (by decide)) ?_
  refine m_iadd X dL_holds_409 rfl ?_
  refine m_top (x1 := nI (1 + Z % 100)) (nI_add 1 (Z % 100)) ?_
  refine m_i2l X dL_holds_410 rfl ?_
  refine m_lmul X dL_holds_411 rfl ?_
  refine m_ladd X dL_holds_412 rfl ?_
  refine m_sp (st1 := [.long (x + (nI (Z % 10001)).toInt64 * (nI (Z % 1001)).toInt64 * (nI (1 + Z % 100)).toInt64)]) (by rw [Int64.one_mul]) ?_
  refine m_lstore X dL_holds_413 (Nat.le_of_ble_eq_true rfl) rfl ?_
  refine m_lp (l1 := [(9, .long (x + (nI (Z % 10001)).toInt64 * (nI (Z % 1001)).toInt64 * (nI (1 + Z % 100)).toInt64)), (15, .int (nI Z)), (14, .int (nI W9)), (13, .int (nI ev)), (12, .int 1), (11, .int w), (8, .int (nI L)), (7, .ref 22), (6, .ref 21), (5, .ref 20), (4, .ref 19), (3, .ref 18), (2, .ref 17), (1, .ref 0), (0, .ref m_BI)]) [0, 1, 2, 3, 4, 5, 6, 7, 8, 9, 10, 11, 12, 13, 14] rfl ?_
  refine m_aload_n X dL_holds_415 rfl rfl ?_
  refine m_iload X dL_holds_416 rfl rfl ?_
  refine m_sipush (v := 10001) X dL_holds_418 (by decide) rfl ?_
  refine m_irem X dL_holds_421 (by decide) rfl ?_
  refine m_top (x1 := nI (Z % 10001)) (nI_modI (m := 10001) (by omega) (by decide) (by decide)) ?_
  refine m_iload X dL_holds_422 rfl rfl ?_
  refine m_sipush (v := 1001) X dL_holds_424 (by decide) rfl ?_
  refine m_irem X dL_holds_427 (by decide) rfl ?_
  refine m_top (x1 := nI (Z % 1001)) (nI_modI (m := 1001) (by omega) (by decide) (by decide)) ?_
  refine m_iconst (v := 1) X dL_holds_428 (by decide) rfl ?_
  refine m_iload X dL_holds_429 rfl rfl ?_
  refine m_bipush (v := 100) X dL_holds_431 (by decide) rfl ?_
  refine m_irem X dL_holds_433 (by decide) rfl ?_
  refine m_top (x1 := nI (Z % 100)) (nI_modI (m := 100) (by omega) (by decide) (by decide)) ?_
  refine m_iadd X dL_holds_434 rfl ?_
  refine m_top (x1 := nI (1 + Z % 100)) (nI_add 1 (Z % 100)) ?_
  refine m_cV3 X dL_holds_435 lk_L_147 mk_X5_belt in_X5_belt se_X5_belt rfl rfl (c_X5_belt (z_lo (lo := 0) (M := 10000) (by omega) (by omega) (by decide)) (z_lo (lo := 0) (M := 1000) (by omega) (by omega) (by decide)) (z_lo (lo := 1) (M := 100) (by omega) (by omega) (by decide))) rfl (Nat.le_of_ble_eq_true rfl) (Nat.le_of_ble_eq_true rfl) (Nat.le_of_ble_eq_true rfl) (show cu ≤ 263 by omega) (show su ≤ 2361 by omega) rfl ?_
  refine m_lload X dL_holds_438 rfl rfl ?_
  refine m_ldc2 X dL_holds_440 cs_L_151 rfl ?_
  refine m_ldiv X dL_holds_443 (by decide) rfl ?_
  refine m_lcmp X dL_holds_444 rfl ?_
  refine m_if_ne (tgt := 452) X dL_holds_445 (by decide) rfl (fun b445 => absurd b445 (not_not_intro (lg_same _))) (fun b445 => ?_)
  refine m_iconst (v := 1) X dL_holds_448 (by decide) rfl ?_
  refine m_goto (tgt := 453) X dL_holds_449 (by decide) rfl ?_
  refine m_ist (l1 := [(12, .int 1), (9, .long (x + (nI (Z % 10001)).toInt64 * (nI (Z % 1001)).toInt64 * (nI (1 + Z % 100)).toInt64)), (15, .int (nI Z)), (14, .int (nI W9)), (13, .int (nI ev)), (11, .int w), (8, .int (nI L)), (7, .ref 22), (6, .ref 21), (5, .ref 20), (4, .ref 19), (3, .ref 18), (2, .ref 17), (1, .ref 0), (0, .ref m_BI)]) X dL_holds_453 (Nat.le_of_ble_eq_true rfl) rfl rfl ?_
  refine m_goto (tgt := 730) X dL_holds_455 (by decide) rfl ?_
  refine m_lp (l1 := [(12, .int 1), (13, .int (nI ev)), (11, .int w), (9, .long (x + (nI (Z % 10001)).toInt64 * (nI (Z % 1001)).toInt64 * (nI (1 + Z % 100)).toInt64)), (8, .int (nI L)), (7, .ref 22), (6, .ref 21), (5, .ref 20), (4, .ref 19), (3, .ref 18), (2, .ref 17), (1, .ref 0), (0, .ref m_BI)]) [0, 4, 5, 1, 6, 7, 8, 9, 10, 11, 12, 13, 14] rfl ?_
  exact ht _ _ _ _ _ _ _ _ _ _ _ _ _ _ _ (h) (hM) (hA) (show n ≤ 24 * (ev + 1) by omega) (w_mono hw) (show cu ≤ 23 + (ev + 1) by omega) (show su ≤ 921 + 6 * (ev + 1) by omega)
theorem h_377 {D : va_G} {cI cL : ClassId} {sa : Nat → Nat} {A : Nat → Prop} {p : Program} {l : Launch} {e : Env} {s : State} {m : MethodId} {args : Array Value} {below : List Frame} {meth : Method} {c : Code} {ad : Nat → Nat} (X : m_At D cI cL sa (m_My M_L_holds) (m_Mb M_L_holds) (m_Ml M_L_holds) (m_Mr M_L_holds) A [] p l s m args meth c) {n L B ev W9 Z cu su : Nat} {v : m_V} {a : m_R} {x : Int64} {w : Int32} {fm fb fr fl fu fv : Nat → Int32} (hev : ev < 240) (h : J n L B v a) (hM : PM n v fm) (hA : PA B a fb fr fl fu fv) (hn : n ≤ 24 * ev) (hw : wB ev w) (hcu : cu ≤ 23 + ev) (hsu : su ≤ 921 + 6 * ev) (hW60 : W9 < 60) (hZ : Z < 100000) (ht : lh_tail D cI cL A p l e s m args below meth c ad ev) : m_Go D cI cL ad ([] : m_H).length (m_Ml M_L_holds) A p l e (m_rm M_L_holds) s m args below meth c (m_VP D cI cL ad ([] : m_H).length A (pH) below args s (m_Mc M_L_holds) (m_Ms M_L_holds)) 377 [(15, .int (nI Z)), (14, .int (nI W9)), (13, .int (nI ev)), (12, .int 1), (11, .int w), (9, .long x), (8, .int (nI L)), (7, .ref 22), (6, .ref 21), (5, .ref 20), (4, .ref 19), (3, .ref 18), (2, .ref 17), (1, .ref 0), (0, .ref m_BI)] [] (hW v a x fm fb fr fl fu fv) cu su := by
  have hI := h.1
  have h0 := hI.1
  have hX9 := h.2.1
  have hL8 := h.2.2.2.1
  have hk := inv_kI hI
  have e8 : v 8 = nI L := h0.2.2.2.2.2.1
  have e20 : v 20 = nI B := h0.2.2.2.2.2.2.1
  refine m_iload X dL_holds_377 rfl rfl ?_
  refine m_bipush (v := 8) X dL_holds_379 (by decide) rfl ?_
  refine m_icmp_ne (tgt := 458) X dL_holds_381 (by decide) rfl (fun b381 => ?_) (fun b381 => ?_)
  · replace b381 : ¬ nI W9 = 8 := b381
    refine m_iload X dL_holds_458 rfl rfl ?_
    refine m_bipush (v := 6) X dL_holds_460 (by decide) rfl ?_
    refine m_icmp_lt (tgt := 479) X dL_holds_462 (by decide) rfl (fun b462 => ?_) (fun b462 => ?_)
    · replace b462 : nI W9 < 6 := b462
      exact h_acts X hev h hM hA hn hw hcu hsu hW60 hZ ht
    · replace b462 : ¬ nI W9 < 6 := b462
      refine m_iload X dL_holds_465 rfl rfl ?_
      refine m_bipush (v := 14) X dL_holds_467 (by decide) rfl ?_
      refine m_icmp_ge (tgt := 504) X dL_holds_469 (by decide) rfl (fun b469 => ?_) (fun b469 => ?_)
      · replace b469 : 14 ≤ nI W9 := b469
        exact h_tick X hev h hM hA hn hw hcu hsu hW60 hZ ht
      · replace b469 : ¬ 14 ≤ nI W9 := b469
        refine m_aload_n X dL_holds_472 rfl rfl ?_
        refine m_bipush (v := 8) X dL_holds_473 (by decide) rfl ?_
        refine m_ald (k := 8) (x := v 10) X dL_holds_475 hW_g0 (vp_in_nI (n := 8) (by decide) (by decide)) (rfl) (pm8 hM) rfl ?_
        refine m_if_ne (tgt := 504) X dL_holds_476 (by decide) rfl (fun b476 => ?_) (fun b476 => ?_)
        · replace b476 : ¬ v 10 = 0 := b476
          exact h_tick X hev h hM hA hn hw hcu hsu hW60 hZ ht
        · replace b476 : v 10 = 0 := b476
          exact h_acts X hev h hM hA hn hw hcu hsu hW60 hZ ht
  · replace b381 : nI W9 = 8 := b381
    exact h_belt X hev h hM hA hn hw hcu hsu hW60 hZ ht
theorem h_step {D : va_G} {cI cL : ClassId} {sa : Nat → Nat} {A : Nat → Prop} {p : Program} {l : Launch} {e : Env} {s : State} {m : MethodId} {args : Array Value} {below : List Frame} {meth : Method} {c : Code} {ad : Nat → Nat} (X : m_At D cI cL sa (m_My M_L_holds) (m_Mb M_L_holds) (m_Ml M_L_holds) (m_Mr M_L_holds) A [] p l s m args meth c) {n L B ev W9 Z cu su : Nat} {v : m_V} {a : m_R} {x : Int64} {w : Int32} {fm fb fr fl fu fv : Nat → Int32} (hev : ev < 240) (h : J n L B v a) (hM : PM n v fm) (hA : PA B a fb fr fl fu fv) (hn : n ≤ 24 * ev) (hw : wB ev w) (hcu : cu ≤ 23 + ev) (hsu : su ≤ 921 + 6 * ev) (hW60 : W9 < 60) (hZ : Z < 100000) (hs0 : v 10 = 0) (h6 : ¬ 6 ≤ v 9) (ht : lh_tail D cI cL A p l e s m args below meth c ad ev) : m_Go D cI cL ad ([] : m_H).length (m_Ml M_L_holds) A p l e (m_rm M_L_holds) s m args below meth c (m_VP D cI cL ad ([] : m_H).length A (pH) below args s (m_Mc M_L_holds) (m_Ms M_L_holds)) 279 [(15, .int (nI Z)), (14, .int (nI W9)), (13, .int (nI ev)), (12, .int 1), (11, .int w), (9, .long x), (8, .int (nI L)), (7, .ref 22), (6, .ref 21), (5, .ref 20), (4, .ref 19), (3, .ref 18), (2, .ref 17), (1, .ref 0), (0, .ref m_BI)] [] (hW v a x fm fb fr fl fu fv) cu su := by
  have hI := h.1
  have h0 := hI.1
  have hX9 := h.2.1
  have hL8 := h.2.2.2.1
  have hk := inv_kI hI
  have e8 : v 8 = nI L := h0.2.2.2.2.2.1
  have e20 : v 20 = nI B := h0.2.2.2.2.2.2.1
  obtain ⟨S, hS6, e9⟩ := h0.1.2.1
  have hS : S < 6 := by
    rw [e9, show (6 : Int32) = nI 6 from rfl, nI_leI (by decide) (by omega)] at h6
    omega
  refine m_iconst (v := 3) X dL_holds_279 (by decide) rfl ?_
  refine m_aload_n X dL_holds_280 rfl rfl ?_
  refine m_bipush (v := 21) X dL_holds_281 (by decide) rfl ?_
  refine m_ald (k := 21) (x := v 9) X dL_holds_283 hW_g0 (vp_in_nI (n := 21) (by decide) (by decide)) (rfl) (pm21 hM) rfl ?_
  refine m_imul X dL_holds_284 rfl ?_
  refine m_top (x1 := nI (3 * S)) (by rw [e9]; exact nI_mul 3 S) ?_
  refine m_ist (l1 := [(16, .int (nI (3 * S))), (15, .int (nI Z)), (14, .int (nI W9)), (13, .int (nI ev)), (12, .int 1), (11, .int w), (9, .long x), (8, .int (nI L)), (7, .ref 22), (6, .ref 21), (5, .ref 20), (4, .ref 19), (3, .ref 18), (2, .ref 17), (1, .ref 0), (0, .ref m_BI)]) X dL_holds_285 (Nat.le_of_ble_eq_true rfl) rfl rfl ?_
  refine m_aload X dL_holds_287 rfl rfl ?_
  refine m_iload X dL_holds_289 rfl rfl ?_
  refine m_iload X dL_holds_291 rfl rfl ?_
  refine m_iconst (v := 4) X dL_holds_293 (by decide) rfl ?_
  refine m_irem X dL_holds_294 (by decide) rfl ?_
  refine m_top (x1 := nI (Z % 4)) (nI_modI (m := 4) (by omega) (by decide) (by decide)) ?_
  refine m_ast (k := (3 * S)) (h1 := (hW v a x fm fb (upd fr (3 * S) (nI (Z % 4))) fl fu fv)) X dL_holds_295 hW_g2 (vp_in_nI (by omega) (by decide)) (nI_clamp (by omega)) rfl rfl ?_
  refine m_aload X dL_holds_296 rfl rfl ?_
  refine m_iload X dL_holds_298 rfl rfl ?_
  refine m_iconst (v := 1) X dL_holds_300 (by decide) rfl ?_
  refine m_iadd X dL_holds_301 rfl ?_
  refine m_top (x1 := nI (3 * S + 1)) (nI_add (3 * S) 1) ?_
  refine m_iconst (v := 1) X dL_holds_302 (by decide) rfl ?_
  refine m_iload X dL_holds_303 rfl rfl ?_
  refine m_iconst (v := 4) X dL_holds_305 (by decide) rfl ?_
  refine m_idiv X dL_holds_306 (by decide) rfl ?_
  refine m_top (x1 := nI (Z / 4)) (nI_divI (m := 4) (by omega) (by decide)) ?_
  refine m_sipush (v := 300) X dL_holds_307 (by decide) rfl ?_
  refine m_irem X dL_holds_310 (by decide) rfl ?_
  refine m_top (x1 := nI (Z / 4 % 300)) (nI_modI (m := 300) (by omega) (by decide) (by decide)) ?_
  refine m_iadd X dL_holds_311 rfl ?_
  refine m_top (x1 := nI (1 + Z / 4 % 300)) (nI_add 1 (Z / 4 % 300)) ?_
  refine m_ast (k := (3 * S + 1)) (h1 := (hW v a x fm fb (upd (upd fr (3 * S) (nI (Z % 4))) (3 * S + 1) (nI (1 + Z / 4 % 300))) fl fu fv)) X dL_holds_312 hW_g2 (vp_in_nI (by omega) (by decide)) (nI_clamp (by omega)) rfl rfl ?_
  refine m_aload X dL_holds_313 rfl rfl ?_
  refine m_iload X dL_holds_315 rfl rfl ?_
  refine m_iconst (v := 2) X dL_holds_317 (by decide) rfl ?_
  refine m_iadd X dL_holds_318 rfl ?_
  refine m_top (x1 := nI (3 * S + 2)) (nI_add (3 * S) 2) ?_
  refine m_iload X dL_holds_319 rfl rfl ?_
  refine m_sipush (v := 1200) X dL_holds_321 (by decide) rfl ?_
  refine m_idiv X dL_holds_324 (by decide) rfl ?_
  refine m_top (x1 := nI (Z / 1200)) (nI_divI (m := 1200) (by omega) (by decide)) ?_
  refine m_bipush (v := 20) X dL_holds_325 (by decide) rfl ?_
  refine m_irem X dL_holds_327 (by decide) rfl ?_
  refine m_top (x1 := nI (Z / 1200 % 20)) (nI_modI (m := 20) (by omega) (by decide) (by decide)) ?_
  refine m_ast (k := (3 * S + 2)) (h1 := (hW v a x fm fb (upd (upd (upd fr (3 * S) (nI (Z % 4))) (3 * S + 1) (nI (1 + Z / 4 % 300))) (3 * S + 2) (nI (Z / 1200 % 20))) fl fu fv)) X dL_holds_328 hW_g2 (vp_in_nI (by omega) (by decide)) (nI_clamp (by omega)) rfl rfl ?_
  refine m_aload_n X dL_holds_329 rfl rfl ?_
  refine m_bipush (v := 21) X dL_holds_330 (by decide) rfl ?_
  refine m_dup2 X dL_holds_332 rfl rfl rfl ?_
  refine m_ald (k := 21) (x := v 9) X dL_holds_333 hW_g0 (vp_in_nI (n := 21) (by decide) (by decide)) (rfl) (pm21 hM) rfl ?_
  refine m_iconst (v := 1) X dL_holds_334 (by decide) rfl ?_
  refine m_iadd X dL_holds_335 rfl ?_
  refine m_ast (k := 21) (h1 := (hW v a x (upd fm 21 ((v 9) + 1)) fb (upd (upd (upd fr (3 * S) (nI (Z % 4))) (3 * S + 1) (nI (1 + Z / 4 % 300))) (3 * S + 2) (nI (Z / 1200 % 20))) fl fu fv)) X dL_holds_336 hW_g0 (vp_in_nI (n := 21) (by decide) (by decide)) (rfl) rfl rfl ?_
  refine m_aload_n X dL_holds_337 rfl rfl ?_
  refine m_aload X dL_holds_338 rfl rfl ?_
  refine m_iload X dL_holds_340 rfl rfl ?_
  refine m_ald (k := (3 * S)) (x := nI (Z % 4)) X dL_holds_342 hW_g2 (vp_in_nI (by omega) (by decide)) (nI_clamp (by omega)) (by rw [upd_ne (by omega), upd_ne (by omega)]; exact upd_eq) rfl ?_
  refine m_aload X dL_holds_343 rfl rfl ?_
  refine m_iload X dL_holds_345 rfl rfl ?_
  refine m_iconst (v := 1) X dL_holds_347 (by decide) rfl ?_
  refine m_iadd X dL_holds_348 rfl ?_
  refine m_top (x1 := nI (3 * S + 1)) (nI_add (3 * S) 1) ?_
  refine m_ald (k := (3 * S + 1)) (x := nI (1 + Z / 4 % 300)) X dL_holds_349 hW_g2 (vp_in_nI (by omega) (by decide)) (nI_clamp (by omega)) (by rw [upd_ne (by omega)]; exact upd_eq) rfl ?_
  refine m_aload X dL_holds_350 rfl rfl ?_
  refine m_iload X dL_holds_352 rfl rfl ?_
  refine m_iconst (v := 2) X dL_holds_354 (by decide) rfl ?_
  refine m_iadd X dL_holds_355 rfl ?_
  refine m_top (x1 := nI (3 * S + 2)) (nI_add (3 * S) 2) ?_
  refine m_ald (k := (3 * S + 2)) (x := nI (Z / 1200 % 20)) X dL_holds_356 hW_g2 (vp_in_nI (by omega) (by decide)) (nI_clamp (by omega)) (upd_eq) rfl ?_
  refine m_cV3 X dL_holds_357 lk_L_143 mk_X5_addStep in_X5_addStep se_X5_addStep rfl rfl (c_X5_addStep (z_lo (lo := 0) (M := 3) (by omega) (by omega) (by decide)) (z_lo (lo := 1) (M := 10000) (by omega) (by omega) (by decide)) (z_lo (lo := 0) (M := 1000) (by omega) (by omega) (by decide)) hs0 (by rw [e9]; exact vp_in_nI hS (by decide))) rfl (Nat.le_of_ble_eq_true rfl) (Nat.le_of_ble_eq_true rfl) (Nat.le_of_ble_eq_true rfl) (show cu ≤ 263 by omega) (show su ≤ 2361 by omega) rfl ?_
  refine m_aload_n X dL_holds_360 rfl rfl ?_
  refine m_bipush (v := 21) X dL_holds_361 (by decide) rfl ?_
  refine m_ald (k := 21) (x := ((v 9) + 1)) X dL_holds_363 hW_g0 (vp_in_nI (n := 21) (by decide) (by decide)) (rfl) (rfl) rfl ?_
  refine m_icmp_ne (tgt := 371) X dL_holds_364 (by decide) rfl (fun b364 => absurd b364 (not_not_intro rfl)) (fun b364 => ?_)
  refine m_iconst (v := 1) X dL_holds_367 (by decide) rfl ?_
  refine m_goto (tgt := 372) X dL_holds_368 (by decide) rfl ?_
  refine m_ist (l1 := [(12, .int 1), (16, .int (nI (3 * S))), (15, .int (nI Z)), (14, .int (nI W9)), (13, .int (nI ev)), (11, .int w), (9, .long x), (8, .int (nI L)), (7, .ref 22), (6, .ref 21), (5, .ref 20), (4, .ref 19), (3, .ref 18), (2, .ref 17), (1, .ref 0), (0, .ref m_BI)]) X dL_holds_372 (Nat.le_of_ble_eq_true rfl) rfl rfl ?_
  refine m_goto (tgt := 730) X dL_holds_374 (by decide) rfl ?_
  refine m_lp (l1 := [(12, .int 1), (13, .int (nI ev)), (11, .int w), (9, .long x), (8, .int (nI L)), (7, .ref 22), (6, .ref 21), (5, .ref 20), (4, .ref 19), (3, .ref 18), (2, .ref 17), (1, .ref 0), (0, .ref m_BI)]) [0, 4, 5, 6, 7, 8, 9, 10, 11, 12, 13, 14, 15] rfl ?_
  exact ht _ _ _ _ _ _ _ _ _ _ _ _ _ _ _ (J_addStep (z_lo (lo := 0) (M := 3) (by omega) (by omega) (by decide)) (z_lo (lo := 1) (M := 10000) (by omega) (by omega) (by decide)) (z_lo (lo := 0) (M := 1000) (by omega) (by omega) (by decide)) (by rw [e9]; exact vp_in_nI hS (by decide)) h) (PM_step hM) (⟨hA.1, PR_app hS e9 hA.2.1, hA.2.2.1, hA.2.2.2⟩) (show n ≤ 24 * (ev + 1) by omega) (w_mono hw) (show cu ≤ 23 + (ev + 1) by omega) (show su ≤ 921 + 6 * (ev + 1) by omega)
theorem h_263 {D : va_G} {cI cL : ClassId} {sa : Nat → Nat} {A : Nat → Prop} {p : Program} {l : Launch} {e : Env} {s : State} {m : MethodId} {args : Array Value} {below : List Frame} {meth : Method} {c : Code} {ad : Nat → Nat} (X : m_At D cI cL sa (m_My M_L_holds) (m_Mb M_L_holds) (m_Ml M_L_holds) (m_Mr M_L_holds) A [] p l s m args meth c) {n L B ev W9 Z cu su : Nat} {v : m_V} {a : m_R} {x : Int64} {w : Int32} {fm fb fr fl fu fv : Nat → Int32} (hev : ev < 240) (h : J n L B v a) (hM : PM n v fm) (hA : PA B a fb fr fl fu fv) (hn : n ≤ 24 * ev) (hw : wB ev w) (hcu : cu ≤ 23 + ev) (hsu : su ≤ 921 + 6 * ev) (hW60 : W9 < 60) (hZ : Z < 100000) (ht : lh_tail D cI cL A p l e s m args below meth c ad ev) : m_Go D cI cL ad ([] : m_H).length (m_Ml M_L_holds) A p l e (m_rm M_L_holds) s m args below meth c (m_VP D cI cL ad ([] : m_H).length A (pH) below args s (m_Mc M_L_holds) (m_Ms M_L_holds)) 263 [(15, .int (nI Z)), (14, .int (nI W9)), (13, .int (nI ev)), (12, .int 1), (11, .int w), (9, .long x), (8, .int (nI L)), (7, .ref 22), (6, .ref 21), (5, .ref 20), (4, .ref 19), (3, .ref 18), (2, .ref 17), (1, .ref 0), (0, .ref m_BI)] [] (hW v a x fm fb fr fl fu fv) cu su := by
  have hI := h.1
  have h0 := hI.1
  have hX9 := h.2.1
  have hL8 := h.2.2.2.1
  have hk := inv_kI hI
  have e8 : v 8 = nI L := h0.2.2.2.2.2.1
  have e20 : v 20 = nI B := h0.2.2.2.2.2.2.1
  refine m_aload_n X dL_holds_263 rfl rfl ?_
  refine m_bipush (v := 8) X dL_holds_264 (by decide) rfl ?_
  refine m_ald (k := 8) (x := v 10) X dL_holds_266 hW_g0 (vp_in_nI (n := 8) (by decide) (by decide)) (rfl) (pm8 hM) rfl ?_
  refine m_if_ne (tgt := 377) X dL_holds_267 (by decide) rfl (fun b267 => ?_) (fun b267 => ?_)
  · replace b267 : ¬ v 10 = 0 := b267
    exact h_377 X hev h hM hA hn hw hcu hsu hW60 hZ ht
  · replace b267 : v 10 = 0 := b267
    refine m_aload_n X dL_holds_270 rfl rfl ?_
    refine m_bipush (v := 21) X dL_holds_271 (by decide) rfl ?_
    refine m_ald (k := 21) (x := v 9) X dL_holds_273 hW_g0 (vp_in_nI (n := 21) (by decide) (by decide)) (rfl) (pm21 hM) rfl ?_
    refine m_bipush (v := 6) X dL_holds_274 (by decide) rfl ?_
    refine m_icmp_ge (tgt := 377) X dL_holds_276 (by decide) rfl (fun b276 => ?_) (fun b276 => ?_)
    · replace b276 : 6 ≤ v 9 := b276
      exact h_377 X hev h hM hA hn hw hcu hsu hW60 hZ ht
    · replace b276 : ¬ 6 ≤ v 9 := b276
      exact h_step X hev h hM hA hn hw hcu hsu hW60 hZ b267 b276 ht
theorem h_250 {D : va_G} {cI cL : ClassId} {sa : Nat → Nat} {A : Nat → Prop} {p : Program} {l : Launch} {e : Env} {s : State} {m : MethodId} {args : Array Value} {below : List Frame} {meth : Method} {c : Code} {ad : Nat → Nat} (X : m_At D cI cL sa (m_My M_L_holds) (m_Mb M_L_holds) (m_Ml M_L_holds) (m_Mr M_L_holds) A [] p l s m args meth c) {n L B ev W9 Z cu su : Nat} {v : m_V} {a : m_R} {x : Int64} {w : Int32} {fm fb fr fl fu fv : Nat → Int32} (hev : ev < 240) (h : J n L B v a) (hM : PM n v fm) (hA : PA B a fb fr fl fu fv) (hn : n ≤ 24 * ev) (hw : wB ev w) (hcu : cu ≤ 23 + ev) (hsu : su ≤ 921 + 6 * ev) (hW60 : W9 < 60) (hZ : Z < 100000) (ht : lh_tail D cI cL A p l e s m args below meth c ad ev) : m_Go D cI cL ad ([] : m_H).length (m_Ml M_L_holds) A p l e (m_rm M_L_holds) s m args below meth c (m_VP D cI cL ad ([] : m_H).length A (pH) below args s (m_Mc M_L_holds) (m_Ms M_L_holds)) 250 [(15, .int (nI Z)), (14, .int (nI W9)), (13, .int (nI ev)), (12, .int 1), (11, .int w), (9, .long x), (8, .int (nI L)), (7, .ref 22), (6, .ref 21), (5, .ref 20), (4, .ref 19), (3, .ref 18), (2, .ref 17), (1, .ref 0), (0, .ref m_BI)] [] (hW v a x fm fb fr fl fu fv) cu su := by
  have hI := h.1
  have h0 := hI.1
  have hX9 := h.2.1
  have hL8 := h.2.2.2.1
  have hk := inv_kI hI
  have e8 : v 8 = nI L := h0.2.2.2.2.2.1
  have e20 : v 20 = nI B := h0.2.2.2.2.2.2.1
  refine m_iload X dL_holds_250 rfl rfl ?_
  refine m_bipush (v := 7) X dL_holds_252 (by decide) rfl ?_
  refine m_icmp_eq (tgt := 263) X dL_holds_254 (by decide) rfl (fun b254 => ?_) (fun b254 => ?_)
  · replace b254 : nI W9 = 7 := b254
    exact h_263 X hev h hM hA hn hw hcu hsu hW60 hZ ht
  · replace b254 : ¬ nI W9 = 7 := b254
    refine m_iload X dL_holds_257 rfl rfl ?_
    refine m_iconst (v := 2) X dL_holds_259 (by decide) rfl ?_
    refine m_icmp_ge (tgt := 377) X dL_holds_260 (by decide) rfl (fun b260 => ?_) (fun b260 => ?_)
    · replace b260 : 2 ≤ nI ev := b260
      exact h_377 X hev h hM hA hn hw hcu hsu hW60 hZ ht
    · replace b260 : ¬ 2 ≤ nI ev := b260
      exact h_263 X hev h hM hA hn hw hcu hsu hW60 hZ ht
theorem h_fill {D : va_G} {cI cL : ClassId} {sa : Nat → Nat} {A : Nat → Prop} {p : Program} {l : Launch} {e : Env} {s : State} {m : MethodId} {args : Array Value} {below : List Frame} {meth : Method} {c : Code} {ad : Nat → Nat} (X : m_At D cI cL sa (m_My M_L_holds) (m_Mb M_L_holds) (m_Ml M_L_holds) (m_Mr M_L_holds) A [] p l s m args meth c) {n L B ev W9 Z cu su : Nat} {v : m_V} {a : m_R} {x : Int64} {w : Int32} {fm fb fr fl fu fv : Nat → Int32} (hev : ev < 240) (h : J n L B v a) (hM : PM n v fm) (hA : PA B a fb fr fl fu fv) (hn : n ≤ 24 * ev) (hw : wB ev w) (hcu : cu ≤ 23 + ev) (hsu : su ≤ 921 + 6 * ev) (hW60 : W9 < 60) (hZ : Z < 100000) (hl8 : L < 8) (ht : lh_tail D cI cL A p l e s m args below meth c ad ev) : m_Go D cI cL ad ([] : m_H).length (m_Ml M_L_holds) A p l e (m_rm M_L_holds) s m args below meth c (m_VP D cI cL ad ([] : m_H).length A (pH) below args s (m_Mc M_L_holds) (m_Ms M_L_holds)) 159 [(15, .int (nI Z)), (14, .int (nI W9)), (13, .int (nI ev)), (12, .int 1), (11, .int w), (9, .long x), (8, .int (nI L)), (7, .ref 22), (6, .ref 21), (5, .ref 20), (4, .ref 19), (3, .ref 18), (2, .ref 17), (1, .ref 0), (0, .ref m_BI)] [] (hW v a x fm fb fr fl fu fv) cu su := by
  have hI := h.1
  have h0 := hI.1
  have hX9 := h.2.1
  have hL8 := h.2.2.2.1
  have hk := inv_kI hI
  have e8 : v 8 = nI L := h0.2.2.2.2.2.1
  have e20 : v 20 = nI B := h0.2.2.2.2.2.2.1
  refine m_aload X dL_holds_159 rfl rfl ?_
  refine m_iconst (v := 3) X dL_holds_161 (by decide) rfl ?_
  refine m_iload X dL_holds_162 rfl rfl ?_
  refine m_imul X dL_holds_164 rfl ?_
  refine m_top (x1 := nI (3 * L)) (nI_mul 3 L) ?_
  refine m_iload X dL_holds_165 rfl rfl ?_
  refine m_iconst (v := 4) X dL_holds_167 (by decide) rfl ?_
  refine m_irem X dL_holds_168 (by decide) rfl ?_
  refine m_top (x1 := nI (Z % 4)) (nI_modI (m := 4) (by omega) (by decide) (by decide)) ?_
  refine m_ast (k := (3 * L)) (h1 := (hW v a x fm fb fr (upd fl (3 * L) (nI (Z % 4))) fu fv)) X dL_holds_169 hW_g3 (vp_in_nI (by omega) (by decide)) (nI_clamp (by omega)) rfl rfl ?_
  refine m_aload X dL_holds_170 rfl rfl ?_
  refine m_iconst (v := 3) X dL_holds_172 (by decide) rfl ?_
  refine m_iload X dL_holds_173 rfl rfl ?_
  refine m_imul X dL_holds_175 rfl ?_
  refine m_top (x1 := nI (3 * L)) (nI_mul 3 L) ?_
  refine m_iconst (v := 1) X dL_holds_176 (by decide) rfl ?_
  refine m_iadd X dL_holds_177 rfl ?_
  refine m_top (x1 := nI (3 * L + 1)) (nI_add (3 * L) 1) ?_
  refine m_iconst (v := 1) X dL_holds_178 (by decide) rfl ?_
  refine m_iload X dL_holds_179 rfl rfl ?_
  refine m_iconst (v := 4) X dL_holds_181 (by decide) rfl ?_
  refine m_idiv X dL_holds_182 (by decide) rfl ?_
  refine m_top (x1 := nI (Z / 4)) (nI_divI (m := 4) (by omega) (by decide)) ?_
  refine m_sipush (v := 400) X dL_holds_183 (by decide) rfl ?_
  refine m_irem X dL_holds_186 (by decide) rfl ?_
  refine m_top (x1 := nI (Z / 4 % 400)) (nI_modI (m := 400) (by omega) (by decide) (by decide)) ?_
  refine m_iadd X dL_holds_187 rfl ?_
  refine m_top (x1 := nI (1 + Z / 4 % 400)) (nI_add 1 (Z / 4 % 400)) ?_
  refine m_ast (k := (3 * L + 1)) (h1 := (hW v a x fm fb fr (upd (upd fl (3 * L) (nI (Z % 4))) (3 * L + 1) (nI (1 + Z / 4 % 400))) fu fv)) X dL_holds_188 hW_g3 (vp_in_nI (by omega) (by decide)) (nI_clamp (by omega)) rfl rfl ?_
  refine m_aload X dL_holds_189 rfl rfl ?_
  refine m_iconst (v := 3) X dL_holds_191 (by decide) rfl ?_
  refine m_iload X dL_holds_192 rfl rfl ?_
  refine m_imul X dL_holds_194 rfl ?_
  refine m_top (x1 := nI (3 * L)) (nI_mul 3 L) ?_
  refine m_iconst (v := 2) X dL_holds_195 (by decide) rfl ?_
  refine m_iadd X dL_holds_196 rfl ?_
  refine m_top (x1 := nI (3 * L + 2)) (nI_add (3 * L) 2) ?_
  refine m_iconst (v := 1) X dL_holds_197 (by decide) rfl ?_
  refine m_iload X dL_holds_198 rfl rfl ?_
  refine m_iconst (v := 4) X dL_holds_200 (by decide) rfl ?_
  refine m_idiv X dL_holds_201 (by decide) rfl ?_
  refine m_top (x1 := nI (Z / 4)) (nI_divI (m := 4) (by omega) (by decide)) ?_
  refine m_sipush (v := 400) X dL_holds_202 (by decide) rfl ?_
  refine m_irem X dL_holds_205 (by decide) rfl ?_
  refine m_top (x1 := nI (Z / 4 % 400)) (nI_modI (m := 400) (by omega) (by decide) (by decide)) ?_
  refine m_iadd X dL_holds_206 rfl ?_
  refine m_top (x1 := nI (1 + Z / 4 % 400)) (nI_add 1 (Z / 4 % 400)) ?_
  refine m_ast (k := (3 * L + 2)) (h1 := (hW v a x fm fb fr (upd (upd (upd fl (3 * L) (nI (Z % 4))) (3 * L + 1) (nI (1 + Z / 4 % 400))) (3 * L + 2) (nI (1 + Z / 4 % 400))) fu fv)) X dL_holds_207 hW_g3 (vp_in_nI (by omega) (by decide)) (nI_clamp (by omega)) rfl rfl ?_
  refine m_aload X dL_holds_208 rfl rfl ?_
  refine m_iload X dL_holds_210 rfl rfl ?_
  refine m_iconst (v := (-1)) X dL_holds_212 (by decide) rfl ?_
  refine m_ast (k := L) (h1 := (hW v a x fm fb fr (upd (upd (upd fl (3 * L) (nI (Z % 4))) (3 * L + 1) (nI (1 + Z / 4 % 400))) (3 * L + 2) (nI (1 + Z / 4 % 400))) (upd fu L (-1)) fv)) X dL_holds_213 hW_g4 (vp_in_nI (by omega) (by decide)) (nI_clamp (by omega)) rfl rfl ?_
  refine m_aload_n X dL_holds_214 rfl rfl ?_
  refine m_iload X dL_holds_215 rfl rfl ?_
  refine m_iconst (v := 4) X dL_holds_217 (by decide) rfl ?_
  refine m_irem X dL_holds_218 (by decide) rfl ?_
  refine m_top (x1 := nI (Z % 4)) (nI_modI (m := 4) (by omega) (by decide) (by decide)) ?_
  refine m_iconst (v := 1) X dL_holds_219 (by decide) rfl ?_
  refine m_iload X dL_holds_220 rfl rfl ?_
  refine m_iconst (v := 4) X dL_holds_222 (by decide) rfl ?_
  refine m_idiv X dL_holds_223 (by decide) rfl ?_
  refine m_top (x1 := nI (Z / 4)) (nI_divI (m := 4) (by omega) (by decide)) ?_
  refine m_sipush (v := 400) X dL_holds_224 (by decide) rfl ?_
  refine m_irem X dL_holds_227 (by decide) rfl ?_
  refine m_top (x1 := nI (Z / 4 % 400)) (nI_modI (m := 400) (by omega) (by decide) (by decide)) ?_
  refine m_iadd X dL_holds_228 rfl ?_
  refine m_top (x1 := nI (1 + Z / 4 % 400)) (nI_add 1 (Z / 4 % 400)) ?_
  refine m_cV2 X dL_holds_229 lk_L_140 mk_X5_fill in_X5_fill se_X5_fill rfl rfl (c_X5_fill (z_lo (lo := 0) (M := 3) (by omega) (by omega) (by decide)) (z_lo (lo := 1) (M := 100000) (by omega) (by omega) (by decide)) (by rw [e8]; exact vp_in_nI (by omega) (by decide))) rfl (Nat.le_of_ble_eq_true rfl) (Nat.le_of_ble_eq_true rfl) (Nat.le_of_ble_eq_true rfl) (show cu ≤ 263 by omega) (show su ≤ 2361 by omega) rfl ?_
  refine m_top (x1 := nI L) (e8) ?_
  refine m_iload X dL_holds_232 rfl rfl ?_
  refine m_icmp_ne (tgt := 241) X dL_holds_234 (by decide) rfl (fun b234 => absurd b234 (not_not_intro rfl)) (fun b234 => ?_)
  refine m_iconst (v := 1) X dL_holds_237 (by decide) rfl ?_
  refine m_goto (tgt := 242) X dL_holds_238 (by decide) rfl ?_
  refine m_ist (l1 := [(12, .int 1), (15, .int (nI Z)), (14, .int (nI W9)), (13, .int (nI ev)), (11, .int w), (9, .long x), (8, .int (nI L)), (7, .ref 22), (6, .ref 21), (5, .ref 20), (4, .ref 19), (3, .ref 18), (2, .ref 17), (1, .ref 0), (0, .ref m_BI)]) X dL_holds_242 (Nat.le_of_ble_eq_true rfl) rfl rfl ?_
  refine m_inc (x1 := nI (L + 1)) (l1 := [(8, .int (nI (L + 1))), (12, .int 1), (15, .int (nI Z)), (14, .int (nI W9)), (13, .int (nI ev)), (11, .int w), (9, .long x), (7, .ref 22), (6, .ref 21), (5, .ref 20), (4, .ref 19), (3, .ref 18), (2, .ref 17), (1, .ref 0), (0, .ref m_BI)]) X dL_holds_244 rfl (Nat.le_of_ble_eq_true rfl) ((nI_succ L).symm) rfl rfl ?_
  refine m_goto (tgt := 730) X dL_holds_247 (by decide) rfl ?_
  refine m_lp (l1 := [(12, .int 1), (13, .int (nI ev)), (11, .int w), (9, .long x), (8, .int (nI (L + 1))), (7, .ref 22), (6, .ref 21), (5, .ref 20), (4, .ref 19), (3, .ref 18), (2, .ref 17), (1, .ref 0), (0, .ref m_BI)]) [1, 4, 5, 6, 0, 7, 8, 9, 10, 11, 12, 13, 14] rfl ?_
  exact ht _ _ _ _ _ _ _ _ _ _ _ _ _ _ _ (J_fill hl8 (z_lo (lo := 1) (M := 100000) (by omega) (by omega) (by decide)) h) (PM_lot hM) (⟨hA.1, hA.2.1, PL_fill hl8 e8 hA.2.2.1, hA.2.2.2⟩) (show n ≤ 24 * (ev + 1) by omega) (w_mono hw) (show cu ≤ 23 + (ev + 1) by omega) (show su ≤ 921 + 6 * (ev + 1) by omega)
theorem h_145 {D : va_G} {cI cL : ClassId} {sa : Nat → Nat} {A : Nat → Prop} {p : Program} {l : Launch} {e : Env} {s : State} {m : MethodId} {args : Array Value} {below : List Frame} {meth : Method} {c : Code} {ad : Nat → Nat} (X : m_At D cI cL sa (m_My M_L_holds) (m_Mb M_L_holds) (m_Ml M_L_holds) (m_Mr M_L_holds) A [] p l s m args meth c) {n L B ev W9 Z cu su : Nat} {v : m_V} {a : m_R} {x : Int64} {w : Int32} {fm fb fr fl fu fv : Nat → Int32} (hev : ev < 240) (h : J n L B v a) (hM : PM n v fm) (hA : PA B a fb fr fl fu fv) (hn : n ≤ 24 * ev) (hw : wB ev w) (hcu : cu ≤ 23 + ev) (hsu : su ≤ 921 + 6 * ev) (hW60 : W9 < 60) (hZ : Z < 100000) (ht : lh_tail D cI cL A p l e s m args below meth c ad ev) : m_Go D cI cL ad ([] : m_H).length (m_Ml M_L_holds) A p l e (m_rm M_L_holds) s m args below meth c (m_VP D cI cL ad ([] : m_H).length A (pH) below args s (m_Mc M_L_holds) (m_Ms M_L_holds)) 145 [(15, .int (nI Z)), (14, .int (nI W9)), (13, .int (nI ev)), (12, .int 1), (11, .int w), (9, .long x), (8, .int (nI L)), (7, .ref 22), (6, .ref 21), (5, .ref 20), (4, .ref 19), (3, .ref 18), (2, .ref 17), (1, .ref 0), (0, .ref m_BI)] [] (hW v a x fm fb fr fl fu fv) cu su := by
  have hI := h.1
  have h0 := hI.1
  have hX9 := h.2.1
  have hL8 := h.2.2.2.1
  have hk := inv_kI hI
  have e8 : v 8 = nI L := h0.2.2.2.2.2.1
  have e20 : v 20 = nI B := h0.2.2.2.2.2.2.1
  refine m_iload X dL_holds_145 rfl rfl ?_
  refine m_bipush (v := 6) X dL_holds_147 (by decide) rfl ?_
  refine m_icmp_ne (tgt := 250) X dL_holds_149 (by decide) rfl (fun b149 => ?_) (fun b149 => ?_)
  · replace b149 : ¬ nI W9 = 6 := b149
    exact h_250 X hev h hM hA hn hw hcu hsu hW60 hZ ht
  · replace b149 : nI W9 = 6 := b149
    refine m_iload X dL_holds_152 rfl rfl ?_
    refine m_bipush (v := 8) X dL_holds_154 (by decide) rfl ?_
    refine m_icmp_ge (tgt := 250) X dL_holds_156 (by decide) rfl (fun b156 => ?_) (fun b156 => ?_)
    · replace b156 : 8 ≤ nI L := b156
      exact h_250 X hev h hM hA hn hw hcu hsu hW60 hZ ht
    · replace b156 : ¬ 8 ≤ nI L := b156
      exact h_fill X hev h hM hA hn hw hcu hsu hW60 hZ (by rw [show (8 : Int32) = nI 8 from rfl, nI_leI (by decide) (by omega)] at b156; omega) ht
end LA8

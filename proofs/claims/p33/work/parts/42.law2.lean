section LA2
theorem PL_lot {lb l u f g : Nat → Int32} {i : Nat} {x y : Int32} (hi : i < 8) (h : PL lb l u f g) : PL lb (upd l i x) (upd u i y) (upd f (3 * i + 2) x) (upd g i y) := by
  intro k hk
  obtain ⟨h0, h1, h2⟩ := h k hk
  refine ⟨by rw [upd_ne (by omega)]; exact h0, ?_, ?_⟩
  · by_cases q : k = i
    · rw [q, upd_eq, upd_eq]
    · rw [upd_ne (by omega), upd_ne q]; exact h1
  · by_cases q : k = i
    · rw [q, upd_eq, upd_eq]
    · rw [upd_ne q, upd_ne q]; exact h2
theorem PU_lot {u f : Nat → Int32} {i B' : Nat} {x : Int32} (hi : i < 8) (h : PU (B' + 1) u f) : PU (B' + 1) (upd u (i * 20 + B') (u (i * 20 + B') + x)) (upd f (8 * i + B' % 8) (f (8 * i + B' % 8) + x)) := by
  intro hB k hk j hj
  have e : B' % 8 = B' := Nat.mod_eq_of_lt (by omega)
  rw [e]
  by_cases q : k = i ∧ j = B'
  · rw [q.1, q.2, upd_eq, upd_eq, h hB i hi B' (by omega)]
  · rw [upd_ne (by omega), upd_ne (by omega)]; exact h hB k hk j hj
theorem i_back (x y : Int32) : x - (x - y) = y := by grind
theorem i_gone (x y z : Int32) : x - y + z = x - (y - z) := by grind
theorem mul_lit (n m : Nat) : nI n * nI m = nI (n * m) := nI_mul n m
theorem b_st {n L B : Nat} {v : m_V} {a : m_R} (h : Inv0 n L B v a) : ∃ st bn : Nat, st < 6 ∧ bn < 4 ∧ v 15 = nI st ∧ a 8 st = nI bn ∧ sbin v a = nI bn ∧ stgt v a = a 9 st ∧ stol v a = a 10 st ∧ (v 15).toNatClampNeg = st ∧ (sbin v a).toNatClampNeg = bn := by
  obtain ⟨hA, hR, hN, k1, k2, k3, k4, k5, k6⟩ := h
  obtain ⟨st, hst, e15⟩ := vp_in_of hA.1 (by decide)
  obtain ⟨bn, hbn, ebn⟩ := vp_in_of (k6 st) (by decide)
  have ec : (v 15).toNatClampNeg = st := by rw [e15]; exact nI_clamp (by omega)
  have es : sbin v a = nI bn := by unfold sbin; rw [ec]; exact ebn
  exact ⟨st, bn, hst, hbn, e15, ebn, es, by unfold stgt; rw [ec], by unfold stol; rw [ec], ec, by rw [es]; exact nI_clamp (by omega)⟩
theorem c_L_book {v0 v : m_V} {a0 a : m_R} {x0 : Int64} {fm fb fr fl fu fv : Nat → Int32} {n L B' : Nat} (h : Inv0 n L (B' + 1) v a) (hL8 : L ≤ 8) (hM : PM n v fm) (hA : PA (B' + 1) a fb fr fl fu fv) : m_CtrP M_L_book [.ref 17, .ref 18, .ref 19, .ref 20, .ref 21, .ref 22, .int (nI L)] (hW v0 a0 x0 fm fb fr fl fu fv) (oW v0 a0 x0 (some (.int (sAmt v))) n (B' + 1) v (sBook v a)) := by
  obtain ⟨hPB, hR, hPL, hPU⟩ := hA
  obtain ⟨st, bn, hst, hbn, e15, ebn, es, -, -, ec, esc⟩ := b_st h
  obtain ⟨hiA, hiR, hiN, k1, k2, k3, h20, hIL, k6⟩ := h
  have hB9 : B' < 20 := by omega
  have hr : 0 ≤ (sAmt v).toInt := by have := amt_pos (net v); rw [i_le] at this; exact this
  have eT : sTook (sbin v a) (sAmt v) (v 20 - 1) v a = (sLots (nI bn) (nI B') (a 4) L (sAmt v, a 6, a 7, a 12)) := by
    unfold sTook
    rw [es, h20, nI_pred, k3, nI_clamp (by omega)]
  refine m_introG (by decide +kernel) (Nat.le_of_ble_eq_true rfl) (fun {D cI cL sa A p l e s m args below meth c ad} X _ => ?_)
  refine m_lp (l1 := [(0, .ref 17), (1, .ref 18), (2, .ref 19), (3, .ref 20), (4, .ref 21), (5, .ref 22), (6, .int (nI L))]) [0, 1, 2, 3, 4, 5, 6] rfl ?_
  have after : ∀ gl gu gv : Nat → Int32, PL (a 4) (sLots (nI bn) (nI B') (a 4) L (sAmt v, a 6, a 7, a 12)).2.1 (sLots (nI bn) (nI B') (a 4) L (sAmt v, a 6, a 7, a 12)).2.2.2 gl gu → PU (B' + 1) (sLots (nI bn) (nI B') (a 4) L (sAmt v, a 6, a 7, a 12)).2.2.1 gv → m_Go D cI cL ad ((hW v0 a0 x0 fm fb fr fl fu fv)).length (m_Ml M_L_book) A p l e (m_rm M_L_book) s m args below meth c (m_VP D cI cL ad ((hW v0 a0 x0 fm fb fr fl fu fv)).length A (oW v0 a0 x0 (some (.int (sAmt v))) n (B' + 1) v (sBook v a)) below args s (m_Mc M_L_book) (m_Ms M_L_book)) 179 [(10, .int (nI L)), (9, .int (sAmt v - (sLots (nI bn) (nI B') (a 4) L (sAmt v, a 6, a 7, a 12)).1)), (8, .int (nI bn)), (7, .int (sAmt v)), (0, .ref 17), (1, .ref 18), (2, .ref 19), (3, .ref 20), (4, .ref 21), (5, .ref 22), (6, .int (nI L))] [] (hW v0 a0 x0 fm (upd fb (4 * bn + 2) (a 2 bn + sAmt v)) fr gl gu gv) 0 0 := by
    intro gl gu gv hl hu
    refine m_aload_n X dL_book_179 rfl rfl ?_
    refine m_iconst (v := 4) X dL_book_180 (by decide) rfl ?_
    refine m_iload X dL_book_181 rfl rfl ?_
    refine m_imul X dL_book_183 rfl ?_
    refine m_top (x1 := nI (4 * bn)) (nI_mul 4 bn) ?_
    refine m_iconst (v := 3) X dL_book_184 (by decide) rfl ?_
    refine m_iadd X dL_book_185 rfl ?_
    refine m_top (x1 := nI (4 * bn + 3)) (nI_add (4 * bn) 3) ?_
    refine m_dup2 X dL_book_186 rfl rfl rfl ?_
    refine m_ald (k := (4 * bn + 3)) (x := a 3 bn) X dL_book_187 hW_g1 (vp_in_nI (by omega) (by decide)) (nI_clamp (by omega)) ((upd_ne (by omega)).trans (hPB bn hbn).2.2.2) rfl ?_
    refine m_iload X dL_book_188 rfl rfl ?_
    refine m_iload X dL_book_190 rfl rfl ?_
    refine m_isub X dL_book_192 rfl ?_
    refine m_iadd X dL_book_193 rfl ?_
    refine m_ast (k := (4 * bn + 3)) (h1 := (hW v0 a0 x0 fm (upd (upd fb (4 * bn + 2) (a 2 bn + sAmt v)) (4 * bn + 3) ((a 3 bn) + ((sAmt v) - (sAmt v - (sLots (nI bn) (nI B') (a 4) L (sAmt v, a 6, a 7, a 12)).1)))) fr gl gu gv)) X dL_book_194 hW_g1 (vp_in_nI (by omega) (by decide)) (nI_clamp (by omega)) rfl rfl ?_
    refine m_iload X dL_book_195 rfl rfl ?_
    refine m_toP (v := some (.int (sAmt v))) (hf := (hW v0 a0 x0 fm (upd (upd fb (4 * bn + 2) (a 2 bn + sAmt v)) (4 * bn + 3) ((a 3 bn) + ((sAmt v) - (sAmt v - (sLots (nI bn) (nI B') (a 4) L (sAmt v, a 6, a 7, a 12)).1)))) fr gl gu gv)) ⟨rfl, fm, _, fr, gl, gu, gv, rfl, hM, ?_, hR, ?_, ?_⟩ (m_iret X dL_book_197 rfl rfl (Nat.le_of_ble_eq_true rfl) (Nat.le_of_ble_eq_true rfl) rfl)
    · intro k hk
      obtain ⟨z0, z1, z2, z3⟩ := PB_book (x := a 2 bn + sAmt v) (y := a 3 bn + (sAmt v - (sAmt v - (sLots (nI bn) (nI B') (a 4) L (sAmt v, a 6, a 7, a 12)).1))) hbn hPB k hk
      refine ⟨z0, z1, ?_, ?_⟩
      · show _ = upd (a 2) (sbin v a).toNatClampNeg (a 2 (sbin v a).toNatClampNeg + sAmt v) k
        rw [esc]; exact z2
      · show _ = upd (a 3) (sbin v a).toNatClampNeg (a 3 (sbin v a).toNatClampNeg + (sAmt v - (sAmt v - (sTook (sbin v a) (sAmt v) (v 20 - 1) v a).1))) k
        rw [esc, eT]; exact z3
    · show PL (a 4) (sTook (sbin v a) (sAmt v) (v 20 - 1) v a).2.1 (sTook (sbin v a) (sAmt v) (v 20 - 1) v a).2.2.2 gl gu
      rw [eT]; exact hl
    · show PU (B' + 1) (sTook (sbin v a) (sAmt v) (v 20 - 1) v a).2.2.1 gv
      rw [eT]; exact hu
  have loop : ∀ (k i : Nat) (gl gu gv : Nat → Int32), i + k = L → PL (a 4) (sLots (nI bn) (nI B') (a 4) i (sAmt v, a 6, a 7, a 12)).2.1 (sLots (nI bn) (nI B') (a 4) i (sAmt v, a 6, a 7, a 12)).2.2.2 gl gu → PU (B' + 1) (sLots (nI bn) (nI B') (a 4) i (sAmt v, a 6, a 7, a 12)).2.2.1 gv → m_Go D cI cL ad ((hW v0 a0 x0 fm fb fr fl fu fv)).length (m_Ml M_L_book) A p l e (m_rm M_L_book) s m args below meth c (m_VP D cI cL ad ((hW v0 a0 x0 fm fb fr fl fu fv)).length A (oW v0 a0 x0 (some (.int (sAmt v))) n (B' + 1) v (sBook v a)) below args s (m_Mc M_L_book) (m_Ms M_L_book)) 46 [(10, .int (nI i)), (9, .int (sAmt v - (sLots (nI bn) (nI B') (a 4) i (sAmt v, a 6, a 7, a 12)).1)), (8, .int (nI bn)), (7, .int (sAmt v)), (0, .ref 17), (1, .ref 18), (2, .ref 19), (3, .ref 20), (4, .ref 21), (5, .ref 22), (6, .int (nI L))] [] (hW v0 a0 x0 fm (upd fb (4 * bn + 2) (a 2 bn + sAmt v)) fr gl gu gv) 0 0 := by
    intro k
    induction k with
    | zero =>
      intro i gl gu gv hi hl hu
      have hiL : i = L := by omega
      subst hiL
      refine m_iload X dL_book_46 rfl rfl ?_
      refine m_iload X dL_book_48 rfl rfl ?_
      refine m_icmp_ge (tgt := 179) X dL_book_50 (by decide) rfl (fun _ => ?_) (fun b50 => absurd (Int32.le_refl _) b50)
      exact after gl gu gv hl hu
    | succ k ih =>
      intro i gl gu gv hi hl hu
      have hlt : i < L := by omega
      have hiU := ((lots_steps (bin := nI bn) (lb := a 4) (s := (sAmt v, a 6, a 7, a 12)) hB9 (by omega) hr hIL i (by omega)).2).1 i hlt
      have hneg : ¬ 0 ≤ (sLots (nI bn) (nI B') (a 4) i (sAmt v, a 6, a 7, a 12)).2.2.2 i → (sLots (nI bn) (nI B') (a 4) i (sAmt v, a 6, a 7, a 12)).2.2.2 i = -1 := by
        intro q
        rcases hiU.2.2.2 with h9 | ⟨b9, h9, h8, -⟩
        · exact h9.1
        · rw [h8] at q; exact absurd (nI_pos' (by omega)) q
      obtain ⟨pt, hpt⟩ : ∃ pt, mn2 (sLots (nI bn) (nI B') (a 4) i (sAmt v, a 6, a 7, a 12)).1 ((sLots (nI bn) (nI B') (a 4) i (sAmt v, a 6, a 7, a 12)).2.1 i) = pt := ⟨_, rfl⟩
      have k96 : a 4 i = nI bn → m_Go D cI cL ad ((hW v0 a0 x0 fm fb fr fl fu fv)).length (m_Ml M_L_book) A p l e (m_rm M_L_book) s m args below meth c (m_VP D cI cL ad ((hW v0 a0 x0 fm fb fr fl fu fv)).length A (oW v0 a0 x0 (some (.int (sAmt v))) n (B' + 1) v (sBook v a)) below args s (m_Mc M_L_book) (m_Ms M_L_book)) 96 [(10, .int (nI i)), (9, .int (sAmt v - (sLots (nI bn) (nI B') (a 4) i (sAmt v, a 6, a 7, a 12)).1)), (8, .int (nI bn)), (7, .int (sAmt v)), (0, .ref 17), (1, .ref 18), (2, .ref 19), (3, .ref 20), (4, .ref 21), (5, .ref 22), (6, .int (nI L))] [.int pt] (hW v0 a0 x0 fm (upd fb (4 * bn + 2) (a 2 bn + sAmt v)) fr gl gu gv) 0 0 := by
        intro b61
        have e61 := sLots_yes (cur := nI B') (s := (sAmt v, a 6, a 7, a 12)) b61
        have k149 : m_Go D cI cL ad ((hW v0 a0 x0 fm fb fr fl fu fv)).length (m_Ml M_L_book) A p l e (m_rm M_L_book) s m args below meth c (m_VP D cI cL ad ((hW v0 a0 x0 fm fb fr fl fu fv)).length A (oW v0 a0 x0 (some (.int (sAmt v))) n (B' + 1) v (sBook v a)) below args s (m_Mc M_L_book) (m_Ms M_L_book)) 149 [(9, .int (sAmt v - ((sLots (nI bn) (nI B') (a 4) i (sAmt v, a 6, a 7, a 12)).1 - pt))), (11, .int pt), (10, .int (nI i)), (8, .int (nI bn)), (7, .int (sAmt v)), (0, .ref 17), (1, .ref 18), (2, .ref 19), (3, .ref 20), (4, .ref 21), (5, .ref 22), (6, .int (nI L))] [.int (if 0 < pt ∧ (sLots (nI bn) (nI B') (a 4) i (sAmt v, a 6, a 7, a 12)).2.2.2 i = -1 then nI B' else (sLots (nI bn) (nI B') (a 4) i (sAmt v, a 6, a 7, a 12)).2.2.2 i), .int (nI i), .ref 21] (hW v0 a0 x0 fm (upd fb (4 * bn + 2) (a 2 bn + sAmt v)) fr (upd gl (3 * i + 2) ((sLots (nI bn) (nI B') (a 4) i (sAmt v, a 6, a 7, a 12)).2.1 i - pt)) gu gv) 0 0 := by
          refine m_ast (k := i) (h1 := (hW v0 a0 x0 fm (upd fb (4 * bn + 2) (a 2 bn + sAmt v)) fr (upd gl (3 * i + 2) ((sLots (nI bn) (nI B') (a 4) i (sAmt v, a 6, a 7, a 12)).2.1 i - pt)) (upd gu i (if 0 < pt ∧ (sLots (nI bn) (nI B') (a 4) i (sAmt v, a 6, a 7, a 12)).2.2.2 i = -1 then nI B' else (sLots (nI bn) (nI B') (a 4) i (sAmt v, a 6, a 7, a 12)).2.2.2 i)) gv)) X dL_book_149 hW_g4 (vp_in_nI (by omega) (by decide)) (nI_clamp (by omega)) rfl rfl ?_
          refine m_aload X dL_book_150 rfl rfl ?_
          refine m_bipush (v := 8) X dL_book_152 (by decide) rfl ?_
          refine m_iload X dL_book_154 rfl rfl ?_
          refine m_imul X dL_book_156 rfl ?_
          refine m_top (x1 := nI (8 * i)) (nI_mul 8 i) ?_
          refine m_aload_n X dL_book_157 rfl rfl ?_
          refine m_bipush (v := 19) X dL_book_158 (by decide) rfl ?_
          refine m_ald (k := 19) (x := v 20) X dL_book_160 hW_g0 (vp_in_nI (n := 19) (by decide) (by decide)) (rfl) (pm19 hM) rfl ?_
          refine m_iconst (v := 1) X dL_book_161 (by decide) rfl ?_
          refine m_isub X dL_book_162 rfl ?_
          refine m_top (x1 := nI B') (by rw [h20]; exact nI_pred B') ?_
          refine m_bipush (v := 8) X dL_book_163 (by decide) rfl ?_
          refine m_irem X dL_book_165 (by decide) rfl ?_
          refine m_top (x1 := nI (B' % 8)) (nI_modI (m := 8) (by omega) (by decide) (by decide)) ?_
          refine m_iadd X dL_book_166 rfl ?_
          refine m_top (x1 := nI (8 * i + B' % 8)) (nI_add (8 * i) (B' % 8)) ?_
          refine m_dup2 X dL_book_167 rfl rfl rfl ?_
          refine m_ald (k := (8 * i + B' % 8)) (x := gv (8 * i + B' % 8)) X dL_book_168 hW_g5 (vp_in_nI (by omega) (by decide)) (nI_clamp (by omega)) (rfl) rfl ?_
          refine m_iload X dL_book_169 rfl rfl ?_
          refine m_iadd X dL_book_171 rfl ?_
          refine m_ast (k := (8 * i + B' % 8)) (h1 := (hW v0 a0 x0 fm (upd fb (4 * bn + 2) (a 2 bn + sAmt v)) fr (upd gl (3 * i + 2) ((sLots (nI bn) (nI B') (a 4) i (sAmt v, a 6, a 7, a 12)).2.1 i - pt)) (upd gu i (if 0 < pt ∧ (sLots (nI bn) (nI B') (a 4) i (sAmt v, a 6, a 7, a 12)).2.2.2 i = -1 then nI B' else (sLots (nI bn) (nI B') (a 4) i (sAmt v, a 6, a 7, a 12)).2.2.2 i)) (upd gv (8 * i + B' % 8) ((gv (8 * i + B' % 8)) + pt)))) X dL_book_172 hW_g5 (vp_in_nI (by omega) (by decide)) (nI_clamp (by omega)) rfl rfl ?_
          refine m_inc (x1 := nI (i + 1)) (l1 := [(10, .int (nI (i + 1))), (9, .int (sAmt v - ((sLots (nI bn) (nI B') (a 4) i (sAmt v, a 6, a 7, a 12)).1 - pt))), (11, .int pt), (8, .int (nI bn)), (7, .int (sAmt v)), (0, .ref 17), (1, .ref 18), (2, .ref 19), (3, .ref 20), (4, .ref 21), (5, .ref 22), (6, .int (nI L))]) X dL_book_173 rfl (Nat.le_of_ble_eq_true rfl) ((nI_succ i).symm) rfl rfl ?_
          refine m_goto (tgt := 46) X dL_book_176 (by decide) rfl ?_
          refine m_lp (l1 := [(10, .int (nI (i + 1))), (9, .int (sAmt v - (sLots (nI bn) (nI B') (a 4) (i + 1) (sAmt v, a 6, a 7, a 12)).1)), (8, .int (nI bn)), (7, .int (sAmt v)), (0, .ref 17), (1, .ref 18), (2, .ref 19), (3, .ref 20), (4, .ref 21), (5, .ref 22), (6, .int (nI L))]) [0, 1, 3, 4, 5, 6, 7, 8, 9, 10, 11] (by rw [e61, hpt]; rfl) ?_
          exact ih (i + 1) _ _ _ (by omega) (by rw [e61, hpt, ← i_subneg]; exact PL_lot (by omega) hl) (by rw [e61, hpt, plc_eq (by omega) hB9]; exact PU_lot (by omega) hu)
        refine m_ist (l1 := [(11, .int pt), (10, .int (nI i)), (9, .int (sAmt v - (sLots (nI bn) (nI B') (a 4) i (sAmt v, a 6, a 7, a 12)).1)), (8, .int (nI bn)), (7, .int (sAmt v)), (0, .ref 17), (1, .ref 18), (2, .ref 19), (3, .ref 20), (4, .ref 21), (5, .ref 22), (6, .int (nI L))]) X dL_book_96 (Nat.le_of_ble_eq_true rfl) rfl rfl ?_
        refine m_aload_n X dL_book_98 rfl rfl ?_
        refine m_iconst (v := 3) X dL_book_99 (by decide) rfl ?_
        refine m_iload X dL_book_100 rfl rfl ?_
        refine m_imul X dL_book_102 rfl ?_
        refine m_top (x1 := nI (3 * i)) (nI_mul 3 i) ?_
        refine m_iconst (v := 2) X dL_book_103 (by decide) rfl ?_
        refine m_iadd X dL_book_104 rfl ?_
        refine m_top (x1 := nI (3 * i + 2)) (nI_add (3 * i) 2) ?_
        refine m_dup2 X dL_book_105 rfl rfl rfl ?_
        refine m_ald (k := (3 * i + 2)) (x := (sLots (nI bn) (nI B') (a 4) i (sAmt v, a 6, a 7, a 12)).2.1 i) X dL_book_106 hW_g3 (vp_in_nI (by omega) (by decide)) (nI_clamp (by omega)) ((hl i (by omega)).2.1) rfl ?_
        refine m_iload X dL_book_107 rfl rfl ?_
        refine m_isub X dL_book_109 rfl ?_
        refine m_ast (k := (3 * i + 2)) (h1 := (hW v0 a0 x0 fm (upd fb (4 * bn + 2) (a 2 bn + sAmt v)) fr (upd gl (3 * i + 2) (((sLots (nI bn) (nI B') (a 4) i (sAmt v, a 6, a 7, a 12)).2.1 i) - pt)) gu gv)) X dL_book_110 hW_g3 (vp_in_nI (by omega) (by decide)) (nI_clamp (by omega)) rfl rfl ?_
        refine m_iload X dL_book_111 rfl rfl ?_
        refine m_iload X dL_book_113 rfl rfl ?_
        refine m_iadd X dL_book_115 rfl ?_
        refine m_top (x1 := sAmt v - ((sLots (nI bn) (nI B') (a 4) i (sAmt v, a 6, a 7, a 12)).1 - pt)) (i_gone _ _ _) ?_
        refine m_ist (l1 := [(9, .int (sAmt v - ((sLots (nI bn) (nI B') (a 4) i (sAmt v, a 6, a 7, a 12)).1 - pt))), (11, .int pt), (10, .int (nI i)), (8, .int (nI bn)), (7, .int (sAmt v)), (0, .ref 17), (1, .ref 18), (2, .ref 19), (3, .ref 20), (4, .ref 21), (5, .ref 22), (6, .int (nI L))]) X dL_book_116 (Nat.le_of_ble_eq_true rfl) rfl rfl ?_
        refine m_aload X dL_book_118 rfl rfl ?_
        refine m_iload X dL_book_120 rfl rfl ?_
        refine m_iload X dL_book_122 rfl rfl ?_
        refine m_if_le (tgt := 144) X dL_book_124 (by decide) rfl (fun b124 => ?_) (fun b124 => ?_)
        · replace b124 : pt ≤ 0 := b124
          refine m_aload X dL_book_144 rfl rfl ?_
          refine m_iload X dL_book_146 rfl rfl ?_
          refine m_ald (k := i) (x := (sLots (nI bn) (nI B') (a 4) i (sAmt v, a 6, a 7, a 12)).2.2.2 i) X dL_book_148 hW_g4 (vp_in_nI (by omega) (by decide)) (nI_clamp (by omega)) ((hl i (by omega)).2.2) rfl ?_
          refine m_top (x1 := (if 0 < pt ∧ (sLots (nI bn) (nI B') (a 4) i (sAmt v, a 6, a 7, a 12)).2.2.2 i = -1 then nI B' else (sLots (nI bn) (nI B') (a 4) i (sAmt v, a 6, a 7, a 12)).2.2.2 i)) (by rw [if_neg (fun q => i_nle.mpr q.1 b124)]) ?_
          exact k149
        · replace b124 : ¬ pt ≤ 0 := b124
          refine m_aload X dL_book_127 rfl rfl ?_
          refine m_iload X dL_book_129 rfl rfl ?_
          refine m_ald (k := i) (x := (sLots (nI bn) (nI B') (a 4) i (sAmt v, a 6, a 7, a 12)).2.2.2 i) X dL_book_131 hW_g4 (vp_in_nI (by omega) (by decide)) (nI_clamp (by omega)) ((hl i (by omega)).2.2) rfl ?_
          refine m_if_ge (tgt := 144) X dL_book_132 (by decide) rfl (fun b132 => ?_) (fun b132 => ?_)
          · replace b132 : 0 ≤ (sLots (nI bn) (nI B') (a 4) i (sAmt v, a 6, a 7, a 12)).2.2.2 i := b132
            refine m_aload X dL_book_144 rfl rfl ?_
            refine m_iload X dL_book_146 rfl rfl ?_
            refine m_ald (k := i) (x := (sLots (nI bn) (nI B') (a 4) i (sAmt v, a 6, a 7, a 12)).2.2.2 i) X dL_book_148 hW_g4 (vp_in_nI (by omega) (by decide)) (nI_clamp (by omega)) ((hl i (by omega)).2.2) rfl ?_
            refine m_top (x1 := (if 0 < pt ∧ (sLots (nI bn) (nI B') (a 4) i (sAmt v, a 6, a 7, a 12)).2.2.2 i = -1 then nI B' else (sLots (nI bn) (nI B') (a 4) i (sAmt v, a 6, a 7, a 12)).2.2.2 i)) (by rw [if_neg (fun q => absurd b132 (by rw [q.2]; decide))]) ?_
            exact k149
          · replace b132 : ¬ 0 ≤ (sLots (nI bn) (nI B') (a 4) i (sAmt v, a 6, a 7, a 12)).2.2.2 i := b132
            refine m_aload_n X dL_book_135 rfl rfl ?_
            refine m_bipush (v := 19) X dL_book_136 (by decide) rfl ?_
            refine m_ald (k := 19) (x := v 20) X dL_book_138 hW_g0 (vp_in_nI (n := 19) (by decide) (by decide)) (rfl) (pm19 hM) rfl ?_
            refine m_iconst (v := 1) X dL_book_139 (by decide) rfl ?_
            refine m_isub X dL_book_140 rfl ?_
            refine m_top (x1 := nI B') (by rw [h20]; exact nI_pred B') ?_
            refine m_goto (tgt := 149) X dL_book_141 (by decide) rfl ?_
            refine m_top (x1 := (if 0 < pt ∧ (sLots (nI bn) (nI B') (a 4) i (sAmt v, a 6, a 7, a 12)).2.2.2 i = -1 then nI B' else (sLots (nI bn) (nI B') (a 4) i (sAmt v, a 6, a 7, a 12)).2.2.2 i)) (by rw [if_pos ⟨i_nle.mp b124, hneg b132⟩]) ?_
            exact k149
      replace k96 : m_Go D cI cL ad ((hW v0 a0 x0 fm fb fr fl fu fv)).length (m_Ml M_L_book) A p l e (m_rm M_L_book) s m args below meth c (m_VP D cI cL ad ((hW v0 a0 x0 fm fb fr fl fu fv)).length A (oW v0 a0 x0 (some (.int (sAmt v))) n (B' + 1) v (sBook v a)) below args s (m_Mc M_L_book) (m_Ms M_L_book)) 96 [(10, .int (nI i)), (9, .int (sAmt v - (sLots (nI bn) (nI B') (a 4) i (sAmt v, a 6, a 7, a 12)).1)), (8, .int (nI bn)), (7, .int (sAmt v)), (0, .ref 17), (1, .ref 18), (2, .ref 19), (3, .ref 20), (4, .ref 21), (5, .ref 22), (6, .int (nI L))] [.int pt] (hW v0 a0 x0 fm (upd fb (4 * bn + 2) (a 2 bn + sAmt v)) fr gl gu gv) 0 0 ∨ ¬ a 4 i = nI bn := by
        by_cases q : a 4 i = nI bn
        · exact Or.inl (k96 q)
        · exact Or.inr q
      refine m_iload X dL_book_46 rfl rfl ?_
      refine m_iload X dL_book_48 rfl rfl ?_
      refine m_icmp_ge (tgt := 179) X dL_book_50 (by decide) rfl (fun b50 => absurd b50 (nI_ge hlt (by omega))) (fun b50 => ?_)
      refine m_aload_n X dL_book_53 rfl rfl ?_
      refine m_iconst (v := 3) X dL_book_54 (by decide) rfl ?_
      refine m_iload X dL_book_55 rfl rfl ?_
      refine m_imul X dL_book_57 rfl ?_
      refine m_top (x1 := nI (3 * i)) (nI_mul 3 i) ?_
      refine m_ald (k := (3 * i)) (x := a 4 i) X dL_book_58 hW_g3 (vp_in_nI (by omega) (by decide)) (nI_clamp (by omega)) ((hl i (by omega)).1) rfl ?_
      refine m_iload X dL_book_59 rfl rfl ?_
      refine m_icmp_ne (tgt := 173) X dL_book_61 (by decide) rfl (fun b61 => ?_) (fun b61 => ?_)
      · replace b61 : ¬ a 4 i = nI bn := b61
        have e61 := sLots_no (cur := nI B') (s := (sAmt v, a 6, a 7, a 12)) b61
        refine m_inc (x1 := nI (i + 1)) (l1 := [(10, .int (nI (i + 1))), (9, .int (sAmt v - (sLots (nI bn) (nI B') (a 4) i (sAmt v, a 6, a 7, a 12)).1)), (8, .int (nI bn)), (7, .int (sAmt v)), (0, .ref 17), (1, .ref 18), (2, .ref 19), (3, .ref 20), (4, .ref 21), (5, .ref 22), (6, .int (nI L))]) X dL_book_173 rfl (Nat.le_of_ble_eq_true rfl) ((nI_succ i).symm) rfl rfl ?_
        refine m_goto (tgt := 46) X dL_book_176 (by decide) rfl ?_
        refine m_lp (l1 := [(10, .int (nI (i + 1))), (9, .int (sAmt v - (sLots (nI bn) (nI B') (a 4) (i + 1) (sAmt v, a 6, a 7, a 12)).1)), (8, .int (nI bn)), (7, .int (sAmt v)), (0, .ref 17), (1, .ref 18), (2, .ref 19), (3, .ref 20), (4, .ref 21), (5, .ref 22), (6, .int (nI L))]) [0, 1, 2, 3, 4, 5, 6, 7, 8, 9, 10] (by rw [e61]; rfl) ?_
        exact ih (i + 1) gl gu gv (by omega) (by rw [e61]; exact hl) (by rw [e61]; exact hu)
      · replace b61 : a 4 i = nI bn := b61
        have e61 := sLots_yes (cur := nI B') (s := (sAmt v, a 6, a 7, a 12)) b61
        refine m_iload X dL_book_64 rfl rfl ?_
        refine m_iload X dL_book_66 rfl rfl ?_
        refine m_isub X dL_book_68 rfl ?_
        refine m_top (x1 := (sLots (nI bn) (nI B') (a 4) i (sAmt v, a 6, a 7, a 12)).1) (i_back _ _) ?_
        refine m_aload_n X dL_book_69 rfl rfl ?_
        refine m_iconst (v := 3) X dL_book_70 (by decide) rfl ?_
        refine m_iload X dL_book_71 rfl rfl ?_
        refine m_imul X dL_book_73 rfl ?_
        refine m_top (x1 := nI (3 * i)) (nI_mul 3 i) ?_
        refine m_iconst (v := 2) X dL_book_74 (by decide) rfl ?_
        refine m_iadd X dL_book_75 rfl ?_
        refine m_top (x1 := nI (3 * i + 2)) (nI_add (3 * i) 2) ?_
        refine m_ald (k := (3 * i + 2)) (x := (sLots (nI bn) (nI B') (a 4) i (sAmt v, a 6, a 7, a 12)).2.1 i) X dL_book_76 hW_g3 (vp_in_nI (by omega) (by decide)) (nI_clamp (by omega)) ((hl i (by omega)).2.1) rfl ?_
        refine m_icmp_le (tgt := 91) X dL_book_77 (by decide) rfl (fun b77 => ?_) (fun b77 => ?_)
        · refine m_iload X dL_book_91 rfl rfl ?_
          refine m_iload X dL_book_93 rfl rfl ?_
          refine m_isub X dL_book_95 rfl ?_
          refine m_top (x1 := (sLots (nI bn) (nI B') (a 4) i (sAmt v, a 6, a 7, a 12)).1) (i_back _ _) ?_
          refine m_top (x1 := pt) (by rw [← hpt]; unfold mn2; rw [if_neg (fun q => i_nlt.mpr b77 q)]) ?_
          exact k96.resolve_right (not_not_intro b61)
        · refine m_aload_n X dL_book_80 rfl rfl ?_
          refine m_iconst (v := 3) X dL_book_81 (by decide) rfl ?_
          refine m_iload X dL_book_82 rfl rfl ?_
          refine m_imul X dL_book_84 rfl ?_
          refine m_top (x1 := nI (3 * i)) (nI_mul 3 i) ?_
          refine m_iconst (v := 2) X dL_book_85 (by decide) rfl ?_
          refine m_iadd X dL_book_86 rfl ?_
          refine m_top (x1 := nI (3 * i + 2)) (nI_add (3 * i) 2) ?_
          refine m_ald (k := (3 * i + 2)) (x := (sLots (nI bn) (nI B') (a 4) i (sAmt v, a 6, a 7, a 12)).2.1 i) X dL_book_87 hW_g3 (vp_in_nI (by omega) (by decide)) (nI_clamp (by omega)) ((hl i (by omega)).2.1) rfl ?_
          refine m_goto (tgt := 96) X dL_book_88 (by decide) rfl ?_
          refine m_top (x1 := pt) (by rw [← hpt]; unfold mn2; rw [if_pos (i_nle.mp b77)]) ?_
          exact k96.resolve_right (not_not_intro b61)
  have k15 : m_Go D cI cL ad ((hW v0 a0 x0 fm fb fr fl fu fv)).length (m_Ml M_L_book) A p l e (m_rm M_L_book) s m args below meth c (m_VP D cI cL ad ((hW v0 a0 x0 fm fb fr fl fu fv)).length A (oW v0 a0 x0 (some (.int (sAmt v))) n (B' + 1) v (sBook v a)) below args s (m_Mc M_L_book) (m_Ms M_L_book)) 15 [(0, .ref 17), (1, .ref 18), (2, .ref 19), (3, .ref 20), (4, .ref 21), (5, .ref 22), (6, .int (nI L))] [.int (sAmt v)] (hW v0 a0 x0 fm fb fr fl fu fv) 0 0 := by
    refine m_ist (l1 := [(7, .int (sAmt v)), (0, .ref 17), (1, .ref 18), (2, .ref 19), (3, .ref 20), (4, .ref 21), (5, .ref 22), (6, .int (nI L))]) X dL_book_15 (Nat.le_of_ble_eq_true rfl) rfl rfl ?_
    refine m_aload_n X dL_book_17 rfl rfl ?_
    refine m_iconst (v := 3) X dL_book_18 (by decide) rfl ?_
    refine m_aload_n X dL_book_19 rfl rfl ?_
    refine m_bipush (v := 11) X dL_book_20 (by decide) rfl ?_
    refine m_ald (k := 11) (x := v 15) X dL_book_22 hW_g0 (vp_in_nI (n := 11) (by decide) (by decide)) (rfl) (pm11 hM) rfl ?_
    refine m_imul X dL_book_23 rfl ?_
    refine m_top (x1 := nI (3 * st)) (by rw [e15]; exact nI_mul 3 st) ?_
    refine m_ald (k := (3 * st)) (x := nI bn) X dL_book_24 hW_g2 (vp_in_nI (by omega) (by decide)) (nI_clamp (by omega)) ((hR st hst).1.trans ebn) rfl ?_
    refine m_ist (l1 := [(8, .int (nI bn)), (7, .int (sAmt v)), (0, .ref 17), (1, .ref 18), (2, .ref 19), (3, .ref 20), (4, .ref 21), (5, .ref 22), (6, .int (nI L))]) X dL_book_25 (Nat.le_of_ble_eq_true rfl) rfl rfl ?_
    refine m_iconst (v := 0) X dL_book_27 (by decide) rfl ?_
    refine m_ist (l1 := [(9, .int 0), (8, .int (nI bn)), (7, .int (sAmt v)), (0, .ref 17), (1, .ref 18), (2, .ref 19), (3, .ref 20), (4, .ref 21), (5, .ref 22), (6, .int (nI L))]) X dL_book_28 (Nat.le_of_ble_eq_true rfl) rfl rfl ?_
    refine m_aload_n X dL_book_30 rfl rfl ?_
    refine m_iconst (v := 4) X dL_book_31 (by decide) rfl ?_
    refine m_iload X dL_book_32 rfl rfl ?_
    refine m_imul X dL_book_34 rfl ?_
    refine m_top (x1 := nI (4 * bn)) (nI_mul 4 bn) ?_
    refine m_iconst (v := 2) X dL_book_35 (by decide) rfl ?_
    refine m_iadd X dL_book_36 rfl ?_
    refine m_top (x1 := nI (4 * bn + 2)) (nI_add (4 * bn) 2) ?_
    refine m_dup2 X dL_book_37 rfl rfl rfl ?_
    refine m_ald (k := (4 * bn + 2)) (x := a 2 bn) X dL_book_38 hW_g1 (vp_in_nI (by omega) (by decide)) (nI_clamp (by omega)) ((hPB bn hbn).2.2.1) rfl ?_
    refine m_iload X dL_book_39 rfl rfl ?_
    refine m_iadd X dL_book_41 rfl ?_
    refine m_ast (k := (4 * bn + 2)) (h1 := (hW v0 a0 x0 fm (upd fb (4 * bn + 2) ((a 2 bn) + (sAmt v))) fr fl fu fv)) X dL_book_42 hW_g1 (vp_in_nI (by omega) (by decide)) (nI_clamp (by omega)) rfl rfl ?_
    refine m_iconst (v := 0) X dL_book_43 (by decide) rfl ?_
    refine m_ist (l1 := [(10, .int 0), (9, .int 0), (8, .int (nI bn)), (7, .int (sAmt v)), (0, .ref 17), (1, .ref 18), (2, .ref 19), (3, .ref 20), (4, .ref 21), (5, .ref 22), (6, .int (nI L))]) X dL_book_44 (Nat.le_of_ble_eq_true rfl) rfl rfl ?_
    refine m_lp (l1 := [(10, .int (nI 0)), (9, .int (sAmt v - (sLots (nI bn) (nI B') (a 4) 0 (sAmt v, a 6, a 7, a 12)).1)), (8, .int (nI bn)), (7, .int (sAmt v)), (0, .ref 17), (1, .ref 18), (2, .ref 19), (3, .ref 20), (4, .ref 21), (5, .ref 22), (6, .int (nI L))]) [0, 1, 2, 3, 4, 5, 6, 7, 8, 9, 10] (by rw [show sAmt v - (sLots (nI bn) (nI B') (a 4) 0 (sAmt v, a 6, a 7, a 12)).1 = 0 from Int32.sub_self _]; rfl) ?_
    exact loop L 0 fl fu fv (by omega) hPL hPU
  refine m_aload_n X dL_book_0 rfl rfl ?_
  refine m_cS1 X dL_book_1 lk_L_15 mk_L_net st_L_net (c_L_net hM) rfl (Nat.le_of_ble_eq_true rfl) (Nat.le_of_ble_eq_true rfl) (Nat.le_of_ble_eq_true rfl) (Nat.le_of_ble_eq_true rfl) (Nat.le_of_ble_eq_true rfl) rfl ?_
  refine m_if_le (tgt := 14) X dL_book_4 (by decide) rfl (fun b4 => ?_) (fun b4 => ?_)
  · replace b4 : net v ≤ 0 := b4
    refine m_iconst (v := 0) X dL_book_14 (by decide) rfl ?_
    refine m_top (x1 := sAmt v) (by unfold sAmt mx2; rw [if_neg (fun q => i_nle.mpr q b4)]) ?_
    exact k15
  · replace b4 : ¬ net v ≤ 0 := b4
    refine m_aload_n X dL_book_7 rfl rfl ?_
    refine m_cS1 X dL_book_8 lk_L_15 mk_L_net st_L_net (c_L_net hM) rfl (Nat.le_of_ble_eq_true rfl) (Nat.le_of_ble_eq_true rfl) (Nat.le_of_ble_eq_true rfl) (Nat.le_of_ble_eq_true rfl) (Nat.le_of_ble_eq_true rfl) rfl ?_
    refine m_goto (tgt := 15) X dL_book_11 (by decide) rfl ?_
    refine m_top (x1 := sAmt v) (by unfold sAmt mx2; rw [if_pos (i_nle.mp b4)]) ?_
    exact k15
theorem c_L_bookB {v0 v : m_V} {a0 a : m_R} {x0 : Int64} {fm fb fr fl fu fv : Nat → Int32} {n B L : Nat} (hB1 : 1 ≤ B) (h : Inv0 n L B v a) (hL8 : L ≤ 8) (hM : PM n v fm) (hA : PA B a fb fr fl fu fv) : m_CtrP M_L_book [.ref 17, .ref 18, .ref 19, .ref 20, .ref 21, .ref 22, .int (nI L)] (hW v0 a0 x0 fm fb fr fl fu fv) (oW v0 a0 x0 (some (.int (sAmt v))) n B v (sBook v a)) := by
  obtain ⟨B', rfl⟩ : ∃ B', B = B' + 1 := ⟨B - 1, by omega⟩
  exact c_L_book h hL8 hM hA
theorem fin_iff {S st : Nat} {x y : Int32} (hS : S ≤ 6) (hst : st < 6) (hx : x = nI S) (hy : y = nI st) : x - 1 ≤ y ↔ x ≤ y + 1 := by
  have e1 : (1 : Int32).toInt = 1 := rfl
  have ex : x.toInt = S := by rw [hx]; exact nI_toInt (by omega)
  have ey : y.toInt = st := by rw [hy]; exact nI_toInt (by omega)
  rw [i_le, i_le, Jvm.Kit.i32_sub (by rw [ex, e1]; omega) (by rw [ex, e1]; omega), Jvm.Kit.i32_add (by rw [ey, e1]; omega) (by rw [ey, e1]; omega), ex, ey, e1]
  omega
theorem c_L_end {v0 v : m_V} {a0 a : m_R} {x0 : Int64} {fm fb fr fl fu fv : Nat → Int32} {n B L : Nat} (hB1 : 1 ≤ B) (h : Inv0 n L B v a) (hL8 : L ≤ 8) (hM : PM n v fm) (hA : PA B a fb fr fl fu fv) : m_CtrP M_L_end [.ref 17, .ref 18, .ref 19, .ref 20, .ref 21, .ref 22, .int (nI L)] (hW v0 a0 x0 fm fb fr fl fu fv) (oW v0 a0 x0 none n B (sFinish v) (sBook v a)) := by
  obtain ⟨st, bn, hst, hbn, e15, -⟩ := b_st h
  obtain ⟨S, hS, h9⟩ := h.1.2.1
  refine m_introG (by decide +kernel) (Nat.le_of_ble_eq_true rfl) (fun {D cI cL sa A p l e s m args below meth c ad} X _ => ?_)
  refine m_lp (l1 := [(0, .ref 17), (1, .ref 18), (2, .ref 19), (3, .ref 20), (4, .ref 21), (5, .ref 22), (6, .int (nI L))]) [0, 1, 2, 3, 4, 5, 6] rfl ?_
  refine m_aload_n X dL_end_0 rfl rfl ?_
  refine m_aload_n X dL_end_1 rfl rfl ?_
  refine m_aload_n X dL_end_2 rfl rfl ?_
  refine m_aload_n X dL_end_3 rfl rfl ?_
  refine m_aload X dL_end_4 rfl rfl ?_
  refine m_aload X dL_end_6 rfl rfl ?_
  refine m_iload X dL_end_8 rfl rfl ?_
  refine m_pS7 (M := M_L_book) X dL_end_10 ll_L_19 mk_L_book st_L_book (c_L_bookB hB1 h hL8 hM hA) (oW_len) (Nat.le_of_ble_eq_true rfl) (Nat.le_of_ble_eq_true rfl) (Nat.le_of_ble_eq_true rfl) (Nat.le_of_ble_eq_true rfl) (Nat.le_of_ble_eq_true rfl) rfl ?_
  rintro _ _ ⟨rfl, gm, gb, gr, gl, gu, gv, rfl, hM2, hA2⟩
  refine m_ist (l1 := [(7, .int (sAmt v)), (0, .ref 17), (1, .ref 18), (2, .ref 19), (3, .ref 20), (4, .ref 21), (5, .ref 22), (6, .int (nI L))]) X dL_end_13 (Nat.le_of_ble_eq_true rfl) rfl rfl ?_
  refine m_iload X dL_end_15 rfl rfl ?_
  refine m_if_lt (tgt := 46) X dL_end_17 (by decide) rfl (fun b17 => absurd b17 (i_nlt.mpr (amt_pos (net v)))) (fun b17 => ?_)
  refine m_aload_n X dL_end_20 rfl rfl ?_
  refine m_bipush (v := 11) X dL_end_21 (by decide) rfl ?_
  refine m_ald (k := 11) (x := v 15) X dL_end_23 hW_g0 (vp_in_nI (n := 11) (by decide) (by decide)) (rfl) (pm11 hM2) rfl ?_
  refine m_aload_n X dL_end_24 rfl rfl ?_
  refine m_bipush (v := 21) X dL_end_25 (by decide) rfl ?_
  refine m_ald (k := 21) (x := v 9) X dL_end_27 hW_g0 (vp_in_nI (n := 21) (by decide) (by decide)) (rfl) (pm21 hM2) rfl ?_
  refine m_iconst (v := 1) X dL_end_28 (by decide) rfl ?_
  refine m_isub X dL_end_29 rfl ?_
  refine m_icmp_ge (tgt := 46) X dL_end_30 (by decide) rfl (fun b30 => ?_) (fun b30 => ?_)
  · replace b30 := (fin_iff hS hst h9 e15).mp b30
    refine m_aload_n X dL_end_46 rfl rfl ?_
    refine m_bipush (v := 20) X dL_end_47 (by decide) rfl ?_
    refine m_dup2 X dL_end_49 rfl rfl rfl ?_
    refine m_ald (k := 20) (x := v 21) X dL_end_50 hW_g0 (vp_in_nI (n := 20) (by decide) (by decide)) (rfl) (pm20 hM2) rfl ?_
    refine m_iconst (v := 1) X dL_end_51 (by decide) rfl ?_
    refine m_iadd X dL_end_52 rfl ?_
    refine m_ast (k := 20) (h1 := (hW v0 a0 x0 (upd gm 20 ((v 21) + 1)) gb gr gl gu gv)) X dL_end_53 hW_g0 (vp_in_nI (n := 20) (by decide) (by decide)) (rfl) rfl rfl ?_
    refine m_aload_n X dL_end_54 rfl rfl ?_
    refine m_bipush (v := 9) X dL_end_55 (by decide) rfl ?_
    refine m_iconst (v := 0) X dL_end_57 (by decide) rfl ?_
    refine m_ast (k := 9) (h1 := (hW v0 a0 x0 (upd (upd gm 20 ((v 21) + 1)) 9 0) gb gr gl gu gv)) X dL_end_58 hW_g0 (vp_in_nI (n := 9) (by decide) (by decide)) (rfl) rfl rfl ?_
    refine m_aload_n X dL_end_59 rfl rfl ?_
    refine m_iconst (v := 0) X dL_end_60 (by decide) rfl ?_
    refine m_cS2 X dL_end_61 lk_L_9 mk_L_turn st_L_turn (c_L_turn) rfl (Nat.le_of_ble_eq_true rfl) (Nat.le_of_ble_eq_true rfl) (Nat.le_of_ble_eq_true rfl) (Nat.le_of_ble_eq_true rfl) (Nat.le_of_ble_eq_true rfl) rfl ?_
    have eF : sFinish v = sEnter (upd v 21 (v 21 + 1)) 0 := by
      unfold sFinish
      rw [if_pos b30]
    refine m_toP (v := none) (hf := (hW v0 a0 x0 (gTurn (upd (upd gm 20 ((v 21) + 1)) 9 0) 0) gb gr gl gu gv)) ⟨rfl, _, gb, gr, gl, gu, gv, rfl, ?_, hA2⟩ (m_vret X dL_end_64 rfl rfl (Nat.le_of_ble_eq_true rfl) (Nat.le_of_ble_eq_true rfl) rfl)
    rw [eF]; exact PM_fin hM2
  · replace b30 := fun q => b30 ((fin_iff hS hst h9 e15).mpr q)
    refine m_aload_n X dL_end_33 rfl rfl ?_
    refine m_aload_n X dL_end_34 rfl rfl ?_
    refine m_bipush (v := 11) X dL_end_35 (by decide) rfl ?_
    refine m_ald (k := 11) (x := v 15) X dL_end_37 hW_g0 (vp_in_nI (n := 11) (by decide) (by decide)) (rfl) (pm11 hM2) rfl ?_
    refine m_iconst (v := 1) X dL_end_38 (by decide) rfl ?_
    refine m_iadd X dL_end_39 rfl ?_
    refine m_cS2 X dL_end_40 lk_L_23 mk_L_next st_L_next (c_L_next) rfl (Nat.le_of_ble_eq_true rfl) (Nat.le_of_ble_eq_true rfl) (Nat.le_of_ble_eq_true rfl) (Nat.le_of_ble_eq_true rfl) (Nat.le_of_ble_eq_true rfl) rfl ?_
    refine m_goto (tgt := 64) X dL_end_43 (by decide) rfl ?_
    have eF : sFinish v = sBegin v (v 15 + 1) := by
      unfold sFinish
      rw [if_neg b30]
    refine m_toP (v := none) (hf := (hW v0 a0 x0 (gNext gm (v 15 + 1)) gb gr gl gu gv)) ⟨rfl, _, gb, gr, gl, gu, gv, rfl, ?_, hA2⟩ (m_vret X dL_end_64 rfl rfl (Nat.le_of_ble_eq_true rfl) (Nat.le_of_ble_eq_true rfl) rfl)
    rw [eF]; exact PM_next hM2
end LA2

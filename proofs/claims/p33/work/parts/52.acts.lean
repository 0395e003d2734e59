section LA7
/-- after an event: the answer is true, the class and the law agree again -/
def oA (x0 : Int64) (n L : Nat) : Option Value → m_H → Prop := fun o h => o = some (.int 1) ∧ ∃ (v : m_V) (a : m_R) (B : Nat) (fm fb fr fl fu fv : Nat → Int32), h = hW v a x0 fm fb fr fl fu fv ∧ J n L B v a ∧ PM n v fm ∧ PA B a fb fr fl fu fv
theorem oA_len {x0 : Int64} {n L : Nat} (o : Option Value) (h : m_H) (q : oA x0 n L o h) : h.length = 23 := by
  obtain ⟨-, v, a, B, fm, fb, fr, fl, fu, fv, rfl, -⟩ := q
  rfl
theorem st_le0 {x : Int32} (h : st7 x) (q : x ≤ 0) : x = 0 := by
  rcases h with h | h | h | h | h | h | h
  · exact h
  all_goals (rw [h] at q; exact absurd q (by decide))
theorem st_ge6 {x : Int32} (h : st7 x) (q : 6 ≤ x) : x = 6 := by
  rcases h with h | h | h | h | h | h | h
  iterate 6 (rw [h] at q; exact absurd q (by decide))
  exact h
theorem g_acts0 {D : va_G} {cI cL : ClassId} {sa : Nat → Nat} {A : Nat → Prop} {p : Program} {l : Launch} {e : Env} {s : State} {m : MethodId} {args : Array Value} {below : List Frame} {meth : Method} {c : Code} {ad : Nat → Nat} (X : m_At D cI cL sa (m_My M_L_acts) (m_Mb M_L_acts) (m_Ml M_L_acts) (m_Mr M_L_acts) A [] p l s m args meth c) {h0' : m_H} {v : m_V} {a : m_R} {x0 : Int64} {fm fb fr fl fu fv : Nat → Int32} {n B L W9 Z : Nat} (hn : n < 2 ^ 30) (h : J n L B v a) (hM : PM n v fm) (hA : PA B a fb fr fl fu fv) (hZ : Z < 100000) : m_Go D cI cL ad (h0').length (m_Ml M_L_acts) A p l e (m_rm M_L_acts) s m args below meth c (m_VP D cI cL ad (h0').length A (oA x0 n L) below args s (m_Mc M_L_acts) (m_Ms M_L_acts)) 5 [(0, .ref 0), (1, .ref 17), (2, .ref 18), (3, .ref 19), (4, .ref 20), (5, .ref 21), (6, .ref 22), (7, .int (nI L)), (8, .int (nI W9)), (9, .int (nI Z))] [] (hW v a x0 fm fb fr fl fu fv) 0 0 := by
  have hI := h.1
  have h0 := hI.1
  have hX := h.2.1
  have hL8 := h.2.2.2.1
  have hk := inv_kI hI
  have e8 : v 8 = nI L := h0.2.2.2.2.2.1
  have e20 : v 20 = nI B := h0.2.2.2.2.2.2.1
  have hB20 : B ≤ 20 := h0.2.2.2.2.1
  refine m_aload_n X dL_acts_5 rfl rfl ?_
  refine m_bipush (v := 8) X dL_acts_6 (by decide) rfl ?_
  refine m_ald (k := 8) (x := v 10) X dL_acts_8 hW_g0 (vp_in_nI (n := 8) (by decide) (by decide)) (rfl) (pm8 hM) rfl ?_
  refine m_if_le (tgt := 25) X dL_acts_9 (by decide) rfl (fun b9 => ?_) (fun b9 => ?_)
  · replace b9 : v 10 ≤ 0 := b9
    refine m_iconst (v := 0) X dL_acts_25 (by decide) rfl ?_
    refine m_ist (l1 := [(10, .int 0), (0, .ref 0), (1, .ref 17), (2, .ref 18), (3, .ref 19), (4, .ref 20), (5, .ref 21), (6, .ref 22), (7, .int (nI L)), (8, .int (nI W9)), (9, .int (nI Z))]) X dL_acts_26 (Nat.le_of_ble_eq_true rfl) rfl rfl ?_
    refine m_aload_n X dL_acts_28 rfl rfl ?_
    refine m_bipush (v := 8) X dL_acts_29 (by decide) rfl ?_
    refine m_ald (k := 8) (x := v 10) X dL_acts_31 hW_g0 (vp_in_nI (n := 8) (by decide) (by decide)) (rfl) (pm8 hM) rfl ?_
    refine m_ist (l1 := [(11, .int (v 10)), (10, .int 0), (0, .ref 0), (1, .ref 17), (2, .ref 18), (3, .ref 19), (4, .ref 20), (5, .ref 21), (6, .ref 22), (7, .int (nI L)), (8, .int (nI W9)), (9, .int (nI Z))]) X dL_acts_32 (Nat.le_of_ble_eq_true rfl) rfl rfl ?_
    refine m_iload X dL_acts_34 rfl rfl ?_
    refine m_if_eq (tgt := 44) X dL_acts_36 (by decide) rfl (fun b36 => ?_) (fun b36 => absurd b36 (by decide))
    refine m_aload_n X dL_acts_44 rfl rfl ?_
    refine m_cH1 (M := M_L_held) (hh := H_L_held) X dL_acts_45 ll_L_112 mk_L_held st_L_held (w_held_x (x_X5_hold (fun q => q.1 (st_le0 h0.1.2.2.2.1 b9)))) rfl (Nat.le_of_ble_eq_true rfl) (Nat.le_of_ble_eq_true rfl) (Nat.le_of_ble_eq_true rfl) (Nat.le_of_ble_eq_true rfl) (Nat.le_of_ble_eq_true rfl) rfl ?_
    refine m_iload X dL_acts_48 rfl rfl ?_
    refine m_if_eq (tgt := 58) X dL_acts_50 (by decide) rfl (fun b50 => ?_) (fun b50 => absurd b50 (by decide))
    refine m_bipush (v := (-2)) X dL_acts_58 (by decide) rfl ?_
    refine m_icmp_ne (tgt := 67) X dL_acts_60 (by decide) rfl (fun b60 => absurd b60 (by decide)) (fun b60 => ?_)
    refine m_iconst (v := 1) X dL_acts_63 (by decide) rfl ?_
    refine m_goto (tgt := 68) X dL_acts_64 (by decide) rfl ?_
    refine m_toP (v := some (.int 1)) (hf := (hW v a x0 fm fb fr fl fu fv)) ⟨rfl, v, a, B, fm, fb, fr, fl, fu, fv, rfl, h, ?_, ?_⟩ (m_zret X dL_acts_68 rfl (by decide) rfl (Nat.le_of_ble_eq_true rfl) (Nat.le_of_ble_eq_true rfl) rfl)
    · exact hM
    · exact hA
  · replace b9 : ¬ v 10 ≤ 0 := b9
    refine m_aload_n X dL_acts_12 rfl rfl ?_
    refine m_bipush (v := 8) X dL_acts_13 (by decide) rfl ?_
    refine m_ald (k := 8) (x := v 10) X dL_acts_15 hW_g0 (vp_in_nI (n := 8) (by decide) (by decide)) (rfl) (pm8 hM) rfl ?_
    refine m_bipush (v := 6) X dL_acts_16 (by decide) rfl ?_
    refine m_icmp_ge (tgt := 25) X dL_acts_18 (by decide) rfl (fun b18 => ?_) (fun b18 => ?_)
    · replace b18 : 6 ≤ v 10 := b18
      refine m_iconst (v := 0) X dL_acts_25 (by decide) rfl ?_
      refine m_ist (l1 := [(10, .int 0), (0, .ref 0), (1, .ref 17), (2, .ref 18), (3, .ref 19), (4, .ref 20), (5, .ref 21), (6, .ref 22), (7, .int (nI L)), (8, .int (nI W9)), (9, .int (nI Z))]) X dL_acts_26 (Nat.le_of_ble_eq_true rfl) rfl rfl ?_
      refine m_aload_n X dL_acts_28 rfl rfl ?_
      refine m_bipush (v := 8) X dL_acts_29 (by decide) rfl ?_
      refine m_ald (k := 8) (x := v 10) X dL_acts_31 hW_g0 (vp_in_nI (n := 8) (by decide) (by decide)) (rfl) (pm8 hM) rfl ?_
      refine m_ist (l1 := [(11, .int (v 10)), (10, .int 0), (0, .ref 0), (1, .ref 17), (2, .ref 18), (3, .ref 19), (4, .ref 20), (5, .ref 21), (6, .ref 22), (7, .int (nI L)), (8, .int (nI W9)), (9, .int (nI Z))]) X dL_acts_32 (Nat.le_of_ble_eq_true rfl) rfl rfl ?_
      refine m_iload X dL_acts_34 rfl rfl ?_
      refine m_if_eq (tgt := 44) X dL_acts_36 (by decide) rfl (fun b36 => ?_) (fun b36 => absurd b36 (by decide))
      refine m_aload_n X dL_acts_44 rfl rfl ?_
      refine m_cH1 (M := M_L_held) (hh := H_L_held) X dL_acts_45 ll_L_112 mk_L_held st_L_held (w_held_x (x_X5_hold (fun q => q.2 (st_ge6 h0.1.2.2.2.1 b18)))) rfl (Nat.le_of_ble_eq_true rfl) (Nat.le_of_ble_eq_true rfl) (Nat.le_of_ble_eq_true rfl) (Nat.le_of_ble_eq_true rfl) (Nat.le_of_ble_eq_true rfl) rfl ?_
      refine m_iload X dL_acts_48 rfl rfl ?_
      refine m_if_eq (tgt := 58) X dL_acts_50 (by decide) rfl (fun b50 => ?_) (fun b50 => absurd b50 (by decide))
      refine m_bipush (v := (-2)) X dL_acts_58 (by decide) rfl ?_
      refine m_icmp_ne (tgt := 67) X dL_acts_60 (by decide) rfl (fun b60 => absurd b60 (by decide)) (fun b60 => ?_)
      refine m_iconst (v := 1) X dL_acts_63 (by decide) rfl ?_
      refine m_goto (tgt := 68) X dL_acts_64 (by decide) rfl ?_
      refine m_toP (v := some (.int 1)) (hf := (hW v a x0 fm fb fr fl fu fv)) ⟨rfl, v, a, B, fm, fb, fr, fl, fu, fv, rfl, h, ?_, ?_⟩ (m_zret X dL_acts_68 rfl (by decide) rfl (Nat.le_of_ble_eq_true rfl) (Nat.le_of_ble_eq_true rfl) rfl)
      · exact hM
      · exact hA
    · replace b18 : ¬ 6 ≤ v 10 := b18
      refine m_iconst (v := 1) X dL_acts_21 (by decide) rfl ?_
      refine m_goto (tgt := 26) X dL_acts_22 (by decide) rfl ?_
      refine m_ist (l1 := [(10, .int 1), (0, .ref 0), (1, .ref 17), (2, .ref 18), (3, .ref 19), (4, .ref 20), (5, .ref 21), (6, .ref 22), (7, .int (nI L)), (8, .int (nI W9)), (9, .int (nI Z))]) X dL_acts_26 (Nat.le_of_ble_eq_true rfl) rfl rfl ?_
      refine m_aload_n X dL_acts_28 rfl rfl ?_
      refine m_bipush (v := 8) X dL_acts_29 (by decide) rfl ?_
      refine m_ald (k := 8) (x := v 10) X dL_acts_31 hW_g0 (vp_in_nI (n := 8) (by decide) (by decide)) (rfl) (pm8 hM) rfl ?_
      refine m_ist (l1 := [(11, .int (v 10)), (10, .int 1), (0, .ref 0), (1, .ref 17), (2, .ref 18), (3, .ref 19), (4, .ref 20), (5, .ref 21), (6, .ref 22), (7, .int (nI L)), (8, .int (nI W9)), (9, .int (nI Z))]) X dL_acts_32 (Nat.le_of_ble_eq_true rfl) rfl rfl ?_
      refine m_iload X dL_acts_34 rfl rfl ?_
      refine m_if_eq (tgt := 44) X dL_acts_36 (by decide) rfl (fun b36 => absurd b36 (by decide)) (fun b36 => ?_)
      refine m_aload_n X dL_acts_39 rfl rfl ?_
      refine m_iconst (v := 0) X dL_acts_40 (by decide) rfl ?_
      refine m_cS2 X dL_acts_41 lk_L_26 mk_L_stop st_L_stop (c_L_stop) rfl (Nat.le_of_ble_eq_true rfl) (Nat.le_of_ble_eq_true rfl) (Nat.le_of_ble_eq_true rfl) (Nat.le_of_ble_eq_true rfl) (Nat.le_of_ble_eq_true rfl) rfl ?_
      refine m_aload_n X dL_acts_44 rfl rfl ?_
      refine m_cH1 (M := M_L_held) (hh := H_L_held) X dL_acts_45 ll_L_112 mk_L_held st_L_held (w_held (c_X5_hold (fun q => b9 (by rw [q]; decide)) (fun q => b18 (by rw [q]; decide)))) rfl (Nat.le_of_ble_eq_true rfl) (Nat.le_of_ble_eq_true rfl) (Nat.le_of_ble_eq_true rfl) (Nat.le_of_ble_eq_true rfl) (Nat.le_of_ble_eq_true rfl) rfl ?_
      refine m_iload X dL_acts_48 rfl rfl ?_
      refine m_if_eq (tgt := 58) X dL_acts_50 (by decide) rfl (fun b50 => absurd b50 (by decide)) (fun b50 => ?_)
      refine m_iload X dL_acts_53 rfl rfl ?_
      refine m_goto (tgt := 60) X dL_acts_55 (by decide) rfl ?_
      refine m_icmp_ne (tgt := 67) X dL_acts_60 (by decide) rfl (fun b60 => absurd b60 (not_not_intro rfl)) (fun b60 => ?_)
      refine m_iconst (v := 1) X dL_acts_63 (by decide) rfl ?_
      refine m_goto (tgt := 68) X dL_acts_64 (by decide) rfl ?_
      refine m_toP (v := some (.int 1)) (hf := (hW (sHalt v 0) a x0 (gStop fm 0) fb fr fl fu fv)) ⟨rfl, (sHalt v 0), a, B, _, fb, fr, fl, fu, fv, rfl, J_hold (fun q => b9 (by rw [q]; decide)) (fun q => b18 (by rw [q]; decide)) h, ?_, ?_⟩ (m_zret X dL_acts_68 rfl (by decide) rfl (Nat.le_of_ble_eq_true rfl) (Nat.le_of_ble_eq_true rfl) rfl)
      · exact PM_stop hM
      · exact hA
theorem g_acts1 {D : va_G} {cI cL : ClassId} {sa : Nat → Nat} {A : Nat → Prop} {p : Program} {l : Launch} {e : Env} {s : State} {m : MethodId} {args : Array Value} {below : List Frame} {meth : Method} {c : Code} {ad : Nat → Nat} (X : m_At D cI cL sa (m_My M_L_acts) (m_Mb M_L_acts) (m_Ml M_L_acts) (m_Mr M_L_acts) A [] p l s m args meth c) {h0' : m_H} {v : m_V} {a : m_R} {x0 : Int64} {fm fb fr fl fu fv : Nat → Int32} {n B L W9 Z : Nat} (hn : n < 2 ^ 30) (h : J n L B v a) (hM : PM n v fm) (hA : PA B a fb fr fl fu fv) (hZ : Z < 100000) : m_Go D cI cL ad (h0').length (m_Ml M_L_acts) A p l e (m_rm M_L_acts) s m args below meth c (m_VP D cI cL ad (h0').length A (oA x0 n L) below args s (m_Mc M_L_acts) (m_Ms M_L_acts)) 75 [(0, .ref 0), (1, .ref 17), (2, .ref 18), (3, .ref 19), (4, .ref 20), (5, .ref 21), (6, .ref 22), (7, .int (nI L)), (8, .int (nI W9)), (9, .int (nI Z))] [] (hW v a x0 fm fb fr fl fu fv) 0 0 := by
  have hI := h.1
  have h0 := hI.1
  have hX := h.2.1
  have hL8 := h.2.2.2.1
  have hk := inv_kI hI
  have e8 : v 8 = nI L := h0.2.2.2.2.2.1
  have e20 : v 20 = nI B := h0.2.2.2.2.2.2.1
  have hB20 : B ≤ 20 := h0.2.2.2.2.1
  refine m_aload_n X dL_acts_75 rfl rfl ?_
  refine m_bipush (v := 8) X dL_acts_76 (by decide) rfl ?_
  refine m_ald (k := 8) (x := v 10) X dL_acts_78 hW_g0 (vp_in_nI (n := 8) (by decide) (by decide)) (rfl) (pm8 hM) rfl ?_
  refine m_bipush (v := 6) X dL_acts_79 (by decide) rfl ?_
  refine m_icmp_ne (tgt := 88) X dL_acts_81 (by decide) rfl (fun b81 => ?_) (fun b81 => ?_)
  · replace b81 : ¬ v 10 = 6 := b81
    refine m_iconst (v := 0) X dL_acts_88 (by decide) rfl ?_
    refine m_ist (l1 := [(10, .int 0), (0, .ref 0), (1, .ref 17), (2, .ref 18), (3, .ref 19), (4, .ref 20), (5, .ref 21), (6, .ref 22), (7, .int (nI L)), (8, .int (nI W9)), (9, .int (nI Z))]) X dL_acts_89 (Nat.le_of_ble_eq_true rfl) rfl rfl ?_
    refine m_iload X dL_acts_91 rfl rfl ?_
    refine m_if_eq (tgt := 129) X dL_acts_93 (by decide) rfl (fun b93 => ?_) (fun b93 => absurd b93 (by decide))
    refine m_iload X dL_acts_129 rfl rfl ?_
    refine m_if_eq (tgt := 155) X dL_acts_131 (by decide) rfl (fun b131 => ?_) (fun b131 => absurd b131 (by decide))
    refine m_aload_n X dL_acts_155 rfl rfl ?_
    
    refine m_cH1 (M := M_L_resumed) (hh := H_L_resumed) X dL_acts_156 ll_L_116 mk_L_resumed st_L_resumed (w_resumed_x (x_X5_resume b81)) rfl (Nat.le_of_ble_eq_true rfl) (Nat.le_of_ble_eq_true rfl) (Nat.le_of_ble_eq_true rfl) (Nat.le_of_ble_eq_true rfl) (Nat.le_of_ble_eq_true rfl) rfl ?_
    refine m_iload X dL_acts_159 rfl rfl ?_
    refine m_if_eq (tgt := 171) X dL_acts_161 (by decide) rfl (fun b161 => ?_) (fun b161 => absurd b161 (by decide))
    refine m_bipush (v := (-2)) X dL_acts_171 (by decide) rfl ?_
    refine m_icmp_ne (tgt := 180) X dL_acts_173 (by decide) rfl (fun b173 => absurd b173 (by decide)) (fun b173 => ?_)
    refine m_iconst (v := 1) X dL_acts_176 (by decide) rfl ?_
    refine m_goto (tgt := 181) X dL_acts_177 (by decide) rfl ?_
    refine m_toP (v := some (.int 1)) (hf := (hW v a x0 fm fb fr fl fu fv)) ⟨rfl, v, a, B, fm, fb, fr, fl, fu, fv, rfl, h, ?_, ?_⟩ (m_zret X dL_acts_181 rfl (by decide) rfl (Nat.le_of_ble_eq_true rfl) (Nat.le_of_ble_eq_true rfl) rfl)
    · exact hM
    · exact hA
  · replace b81 : v 10 = 6 := b81
    refine m_iconst (v := 1) X dL_acts_84 (by decide) rfl ?_
    refine m_goto (tgt := 89) X dL_acts_85 (by decide) rfl ?_
    refine m_ist (l1 := [(10, .int 1), (0, .ref 0), (1, .ref 17), (2, .ref 18), (3, .ref 19), (4, .ref 20), (5, .ref 21), (6, .ref 22), (7, .int (nI L)), (8, .int (nI W9)), (9, .int (nI Z))]) X dL_acts_89 (Nat.le_of_ble_eq_true rfl) rfl rfl ?_
    refine m_iload X dL_acts_91 rfl rfl ?_
    refine m_if_eq (tgt := 129) X dL_acts_93 (by decide) rfl (fun b93 => absurd b93 (by decide)) (fun b93 => ?_)
    refine m_aload_n X dL_acts_96 rfl rfl ?_
    refine m_bipush (v := 9) X dL_acts_97 (by decide) rfl ?_
    refine m_ald (k := 9) (x := v 11) X dL_acts_99 hW_g0 (vp_in_nI (n := 9) (by decide) (by decide)) (rfl) (pm9 hM b81) rfl ?_
    refine m_iconst (v := 1) X dL_acts_100 (by decide) rfl ?_
    refine m_icmp_eq (tgt := 112) X dL_acts_101 (by decide) rfl (fun b101 => ?_) (fun b101 => ?_)
    · replace b101 : v 11 = 1 := b101
      refine m_aload_n X dL_acts_112 rfl rfl ?_
      refine m_aload_n X dL_acts_113 rfl rfl ?_
      refine m_aload_n X dL_acts_114 rfl rfl ?_
      refine m_aload X dL_acts_115 rfl rfl ?_
      refine m_aload X dL_acts_117 rfl rfl ?_
      refine m_aload X dL_acts_119 rfl rfl ?_
      refine m_iload X dL_acts_121 rfl rfl ?_
      refine m_pS7 (M := M_L_end) X dL_acts_123 ll_L_29 mk_L_end st_L_end (c_L_end (h0.1.2.2.1 (by rw [b81]; decide)) h0 hL8 hM hA) (oW_len) (Nat.le_of_ble_eq_true rfl) (Nat.le_of_ble_eq_true rfl) (Nat.le_of_ble_eq_true rfl) (Nat.le_of_ble_eq_true rfl) (Nat.le_of_ble_eq_true rfl) rfl ?_
      rintro _ _ ⟨rfl, km, kb, kr, kl, ku, kv, rfl, hM3, hA3⟩
      refine m_goto (tgt := 155) X dL_acts_126 (by decide) rfl ?_
      refine m_aload_n X dL_acts_155 rfl rfl ?_
      have eV : sGoOnV v = sFinish v := by unfold sGoOnV; rw [if_pos b101]
      have eA : sGoOnA v a = sBook v a := by unfold sGoOnA; rw [if_pos b101]
      refine m_cH1 (M := M_L_resumed) (hh := H_L_resumed) X dL_acts_156 ll_L_116 mk_L_resumed st_L_resumed (w_resumed (c_X5_resume b81 hk)) rfl (Nat.le_of_ble_eq_true rfl) (Nat.le_of_ble_eq_true rfl) (Nat.le_of_ble_eq_true rfl) (Nat.le_of_ble_eq_true rfl) (Nat.le_of_ble_eq_true rfl) rfl ?_
      refine m_iload X dL_acts_159 rfl rfl ?_
      refine m_if_eq (tgt := 171) X dL_acts_161 (by decide) rfl (fun b161 => absurd b161 (by decide)) (fun b161 => ?_)
      refine m_aload_n X dL_acts_164 rfl rfl ?_
      refine m_bipush (v := 8) X dL_acts_165 (by decide) rfl ?_
      refine m_ald (k := 8) (x := sFinish v 10) X dL_acts_167 hW_g0 (vp_in_nI (n := 8) (by decide) (by decide)) (rfl) (pm8 hM3) rfl ?_
      refine m_goto (tgt := 173) X dL_acts_168 (by decide) rfl ?_
      refine m_icmp_ne (tgt := 180) X dL_acts_173 (by decide) rfl (fun b173 => absurd b173 (not_not_intro (by rw [eV]; try rfl))) (fun b173 => ?_)
      refine m_iconst (v := 1) X dL_acts_176 (by decide) rfl ?_
      refine m_goto (tgt := 181) X dL_acts_177 (by decide) rfl ?_
      refine m_toP (v := some (.int 1)) (hf := (hW (sGoOnV v) (sGoOnA v a) x0 km kb kr kl ku kv)) ⟨rfl, (sGoOnV v), (sGoOnA v a), B, km, kb, kr, kl, ku, kv, rfl, J_goOn b81 h, ?_, ?_⟩ (m_zret X dL_acts_181 rfl (by decide) rfl (Nat.le_of_ble_eq_true rfl) (Nat.le_of_ble_eq_true rfl) rfl)
      · exact (by rw [eV]; exact hM3)
      · exact (by rw [eA]; exact hA3)
    · replace b101 : ¬ v 11 = 1 := b101
      refine m_aload_n X dL_acts_104 rfl rfl ?_
      refine m_bipush (v := 9) X dL_acts_105 (by decide) rfl ?_
      refine m_ald (k := 9) (x := v 11) X dL_acts_107 hW_g0 (vp_in_nI (n := 9) (by decide) (by decide)) (rfl) (pm9 hM b81) rfl ?_
      refine m_iconst (v := 2) X dL_acts_108 (by decide) rfl ?_
      refine m_icmp_ne (tgt := 129) X dL_acts_109 (by decide) rfl (fun b109 => ?_) (fun b109 => ?_)
      · replace b109 : ¬ v 11 = 2 := b109
        refine m_iload X dL_acts_129 rfl rfl ?_
        refine m_if_eq (tgt := 155) X dL_acts_131 (by decide) rfl (fun b131 => absurd b131 (by decide)) (fun b131 => ?_)
        refine m_aload_n X dL_acts_134 rfl rfl ?_
        refine m_bipush (v := 9) X dL_acts_135 (by decide) rfl ?_
        refine m_iconst (v := 0) X dL_acts_137 (by decide) rfl ?_
        refine m_ast (k := 9) (h1 := (hW v a x0 (upd fm 9 0) fb fr fl fu fv)) X dL_acts_138 hW_g0 (vp_in_nI (n := 9) (by decide) (by decide)) (rfl) rfl rfl ?_
        refine m_aload_n X dL_acts_139 rfl rfl ?_
        refine m_bipush (v := 13) X dL_acts_140 (by decide) rfl ?_
        refine m_aload_n X dL_acts_142 rfl rfl ?_
        refine m_bipush (v := 14) X dL_acts_143 (by decide) rfl ?_
        refine m_ald (k := 14) (x := fm 14) X dL_acts_145 hW_g0 (vp_in_nI (n := 14) (by decide) (by decide)) (rfl) (rfl) rfl ?_
        refine m_ast (k := 13) (h1 := (hW v a x0 (upd (upd fm 9 0) 13 (fm 14)) fb fr fl fu fv)) X dL_acts_146 hW_g0 (vp_in_nI (n := 13) (by decide) (by decide)) (rfl) rfl rfl ?_
        refine m_aload_n X dL_acts_147 rfl rfl ?_
        refine m_aload_n X dL_acts_148 rfl rfl ?_
        refine m_bipush (v := 10) X dL_acts_149 (by decide) rfl ?_
        refine m_ald (k := 10) (x := v 12) X dL_acts_151 hW_g0 (vp_in_nI (n := 10) (by decide) (by decide)) (rfl) (show fm 10 = v 12 from pm10 hM) rfl ?_
        refine m_cS2 X dL_acts_152 lk_L_9 mk_L_turn st_L_turn (c_L_turn) rfl (Nat.le_of_ble_eq_true rfl) (Nat.le_of_ble_eq_true rfl) (Nat.le_of_ble_eq_true rfl) (Nat.le_of_ble_eq_true rfl) (Nat.le_of_ble_eq_true rfl) rfl ?_
        refine m_aload_n X dL_acts_155 rfl rfl ?_
        have eV : sGoOnV v = sEnter (upd v 14 0) (v 12) := by unfold sGoOnV; rw [if_neg b101, if_pos b109]
        have eA : sGoOnA v a = a := by unfold sGoOnA; rw [if_neg b101, if_pos b109]
        refine m_cH1 (M := M_L_resumed) (hh := H_L_resumed) X dL_acts_156 ll_L_116 mk_L_resumed st_L_resumed (w_resumed (c_X5_resume b81 hk)) rfl (Nat.le_of_ble_eq_true rfl) (Nat.le_of_ble_eq_true rfl) (Nat.le_of_ble_eq_true rfl) (Nat.le_of_ble_eq_true rfl) (Nat.le_of_ble_eq_true rfl) rfl ?_
        refine m_iload X dL_acts_159 rfl rfl ?_
        refine m_if_eq (tgt := 171) X dL_acts_161 (by decide) rfl (fun b161 => absurd b161 (by decide)) (fun b161 => ?_)
        refine m_aload_n X dL_acts_164 rfl rfl ?_
        refine m_bipush (v := 8) X dL_acts_165 (by decide) rfl ?_
        refine m_ald (k := 8) (x := v 12) X dL_acts_167 hW_g0 (vp_in_nI (n := 8) (by decide) (by decide)) (rfl) (rfl) rfl ?_
        refine m_goto (tgt := 173) X dL_acts_168 (by decide) rfl ?_
        refine m_icmp_ne (tgt := 180) X dL_acts_173 (by decide) rfl (fun b173 => absurd b173 (not_not_intro (by rw [eV]; try rfl))) (fun b173 => ?_)
        refine m_iconst (v := 1) X dL_acts_176 (by decide) rfl ?_
        refine m_goto (tgt := 181) X dL_acts_177 (by decide) rfl ?_
        refine m_toP (v := some (.int 1)) (hf := (hW (sGoOnV v) (sGoOnA v a) x0 (gTurn (upd (upd fm 9 0) 13 (fm 14)) (v 12)) fb fr fl fu fv)) ⟨rfl, (sGoOnV v), (sGoOnA v a), B, _, fb, fr, fl, fu, fv, rfl, J_goOn b81 h, ?_, ?_⟩ (m_zret X dL_acts_181 rfl (by decide) rfl (Nat.le_of_ble_eq_true rfl) (Nat.le_of_ble_eq_true rfl) rfl)
        · exact (by rw [eV]; exact PM_resume (st5_n6 (h0.1.2.2.2.2.1 b81)) hM)
        · exact (by rw [eA]; exact hA)
      · replace b109 : v 11 = 2 := b109
        refine m_aload_n X dL_acts_112 rfl rfl ?_
        refine m_aload_n X dL_acts_113 rfl rfl ?_
        refine m_aload_n X dL_acts_114 rfl rfl ?_
        refine m_aload X dL_acts_115 rfl rfl ?_
        refine m_aload X dL_acts_117 rfl rfl ?_
        refine m_aload X dL_acts_119 rfl rfl ?_
        refine m_iload X dL_acts_121 rfl rfl ?_
        refine m_pS7 (M := M_L_end) X dL_acts_123 ll_L_29 mk_L_end st_L_end (c_L_end (h0.1.2.2.1 (by rw [b81]; decide)) h0 hL8 hM hA) (oW_len) (Nat.le_of_ble_eq_true rfl) (Nat.le_of_ble_eq_true rfl) (Nat.le_of_ble_eq_true rfl) (Nat.le_of_ble_eq_true rfl) (Nat.le_of_ble_eq_true rfl) rfl ?_
        rintro _ _ ⟨rfl, km, kb, kr, kl, ku, kv, rfl, hM3, hA3⟩
        refine m_goto (tgt := 155) X dL_acts_126 (by decide) rfl ?_
        refine m_aload_n X dL_acts_155 rfl rfl ?_
        have eV : sGoOnV v = sFinish v := by unfold sGoOnV; rw [if_neg b101, if_neg (not_not_intro b109)]
        have eA : sGoOnA v a = sBook v a := by unfold sGoOnA; rw [if_neg b101, if_neg (not_not_intro b109)]
        refine m_cH1 (M := M_L_resumed) (hh := H_L_resumed) X dL_acts_156 ll_L_116 mk_L_resumed st_L_resumed (w_resumed (c_X5_resume b81 hk)) rfl (Nat.le_of_ble_eq_true rfl) (Nat.le_of_ble_eq_true rfl) (Nat.le_of_ble_eq_true rfl) (Nat.le_of_ble_eq_true rfl) (Nat.le_of_ble_eq_true rfl) rfl ?_
        refine m_iload X dL_acts_159 rfl rfl ?_
        refine m_if_eq (tgt := 171) X dL_acts_161 (by decide) rfl (fun b161 => absurd b161 (by decide)) (fun b161 => ?_)
        refine m_aload_n X dL_acts_164 rfl rfl ?_
        refine m_bipush (v := 8) X dL_acts_165 (by decide) rfl ?_
        refine m_ald (k := 8) (x := sFinish v 10) X dL_acts_167 hW_g0 (vp_in_nI (n := 8) (by decide) (by decide)) (rfl) (pm8 hM3) rfl ?_
        refine m_goto (tgt := 173) X dL_acts_168 (by decide) rfl ?_
        refine m_icmp_ne (tgt := 180) X dL_acts_173 (by decide) rfl (fun b173 => absurd b173 (not_not_intro (by rw [eV]; try rfl))) (fun b173 => ?_)
        refine m_iconst (v := 1) X dL_acts_176 (by decide) rfl ?_
        refine m_goto (tgt := 181) X dL_acts_177 (by decide) rfl ?_
        refine m_toP (v := some (.int 1)) (hf := (hW (sGoOnV v) (sGoOnA v a) x0 km kb kr kl ku kv)) ⟨rfl, (sGoOnV v), (sGoOnA v a), B, km, kb, kr, kl, ku, kv, rfl, J_goOn b81 h, ?_, ?_⟩ (m_zret X dL_acts_181 rfl (by decide) rfl (Nat.le_of_ble_eq_true rfl) (Nat.le_of_ble_eq_true rfl) rfl)
        · exact (by rw [eV]; exact hM3)
        · exact (by rw [eA]; exact hA3)
theorem g_acts2 {D : va_G} {cI cL : ClassId} {sa : Nat → Nat} {A : Nat → Prop} {p : Program} {l : Launch} {e : Env} {s : State} {m : MethodId} {args : Array Value} {below : List Frame} {meth : Method} {c : Code} {ad : Nat → Nat} (X : m_At D cI cL sa (m_My M_L_acts) (m_Mb M_L_acts) (m_Ml M_L_acts) (m_Mr M_L_acts) A [] p l s m args meth c) {h0' : m_H} {v : m_V} {a : m_R} {x0 : Int64} {fm fb fr fl fu fv : Nat → Int32} {n B L W9 Z : Nat} (hn : n < 2 ^ 30) (h : J n L B v a) (hM : PM n v fm) (hA : PA B a fb fr fl fu fv) (hZ : Z < 100000) : m_Go D cI cL ad (h0').length (m_Ml M_L_acts) A p l e (m_rm M_L_acts) s m args below meth c (m_VP D cI cL ad (h0').length A (oA x0 n L) below args s (m_Mc M_L_acts) (m_Ms M_L_acts)) 195 [(0, .ref 0), (1, .ref 17), (2, .ref 18), (3, .ref 19), (4, .ref 20), (5, .ref 21), (6, .ref 22), (7, .int (nI L)), (8, .int (nI W9)), (9, .int (nI Z))] [] (hW v a x0 fm fb fr fl fu fv) 0 0 := by
  have hI := h.1
  have h0 := hI.1
  have hX := h.2.1
  have hL8 := h.2.2.2.1
  have hk := inv_kI hI
  have e8 : v 8 = nI L := h0.2.2.2.2.2.1
  have e20 : v 20 = nI B := h0.2.2.2.2.2.2.1
  have hB20 : B ≤ 20 := h0.2.2.2.2.1
  refine m_aload_n X dL_acts_195 rfl rfl ?_
  refine m_bipush (v := 8) X dL_acts_196 (by decide) rfl ?_
  refine m_ald (k := 8) (x := v 10) X dL_acts_198 hW_g0 (vp_in_nI (n := 8) (by decide) (by decide)) (rfl) (pm8 hM) rfl ?_
  refine m_if_eq (tgt := 206) X dL_acts_199 (by decide) rfl (fun b199 => ?_) (fun b199 => ?_)
  · replace b199 : v 10 = 0 := b199
    refine m_iconst (v := 0) X dL_acts_206 (by decide) rfl ?_
    refine m_ist (l1 := [(10, .int 0), (0, .ref 0), (1, .ref 17), (2, .ref 18), (3, .ref 19), (4, .ref 20), (5, .ref 21), (6, .ref 22), (7, .int (nI L)), (8, .int (nI W9)), (9, .int (nI Z))]) X dL_acts_207 (Nat.le_of_ble_eq_true rfl) rfl rfl ?_
    refine m_iload X dL_acts_209 rfl rfl ?_
    refine m_if_eq (tgt := 239) X dL_acts_211 (by decide) rfl (fun b211 => ?_) (fun b211 => absurd b211 (by decide))
    refine m_iconst (v := 0) X dL_acts_239 (by decide) rfl ?_
    refine m_ist (l1 := [(11, .int 0), (10, .int 0), (0, .ref 0), (1, .ref 17), (2, .ref 18), (3, .ref 19), (4, .ref 20), (5, .ref 21), (6, .ref 22), (7, .int (nI L)), (8, .int (nI W9)), (9, .int (nI Z))]) X dL_acts_240 (Nat.le_of_ble_eq_true rfl) rfl rfl ?_
    refine m_iload X dL_acts_242 rfl rfl ?_
    refine m_if_eq (tgt := 257) X dL_acts_244 (by decide) rfl (fun b244 => ?_) (fun b244 => absurd b244 (by decide))
    refine m_aload_n X dL_acts_257 rfl rfl ?_
    refine m_cH1 (M := M_L_aborted) (hh := H_L_aborted) X dL_acts_258 ll_L_119 mk_L_aborted st_L_aborted (w_aborted_x (x_X5_abort b199)) rfl (Nat.le_of_ble_eq_true rfl) (Nat.le_of_ble_eq_true rfl) (Nat.le_of_ble_eq_true rfl) (Nat.le_of_ble_eq_true rfl) (Nat.le_of_ble_eq_true rfl) rfl ?_
    refine m_iload X dL_acts_261 rfl rfl ?_
    refine m_if_eq (tgt := 271) X dL_acts_263 (by decide) rfl (fun b263 => ?_) (fun b263 => absurd b263 (by decide))
    refine m_bipush (v := (-2)) X dL_acts_271 (by decide) rfl ?_
    refine m_icmp_ne (tgt := 280) X dL_acts_273 (by decide) rfl (fun b273 => absurd b273 (by decide)) (fun b273 => ?_)
    refine m_iconst (v := 1) X dL_acts_276 (by decide) rfl ?_
    refine m_goto (tgt := 281) X dL_acts_277 (by decide) rfl ?_
    refine m_toP (v := some (.int 1)) (hf := (hW v a x0 fm fb fr fl fu fv)) ⟨rfl, v, a, B, fm, fb, fr, fl, fu, fv, rfl, h, ?_, ?_⟩ (m_zret X dL_acts_281 rfl (by decide) rfl (Nat.le_of_ble_eq_true rfl) (Nat.le_of_ble_eq_true rfl) rfl)
    · exact hM
    · exact hA
  · replace b199 : ¬ v 10 = 0 := b199
    refine m_iconst (v := 1) X dL_acts_202 (by decide) rfl ?_
    refine m_goto (tgt := 207) X dL_acts_203 (by decide) rfl ?_
    refine m_ist (l1 := [(10, .int 1), (0, .ref 0), (1, .ref 17), (2, .ref 18), (3, .ref 19), (4, .ref 20), (5, .ref 21), (6, .ref 22), (7, .int (nI L)), (8, .int (nI W9)), (9, .int (nI Z))]) X dL_acts_207 (Nat.le_of_ble_eq_true rfl) rfl rfl ?_
    refine m_iload X dL_acts_209 rfl rfl ?_
    refine m_if_eq (tgt := 239) X dL_acts_211 (by decide) rfl (fun b211 => absurd b211 (by decide)) (fun b211 => ?_)
    refine m_aload_n X dL_acts_214 rfl rfl ?_
    refine m_bipush (v := 18) X dL_acts_215 (by decide) rfl ?_
    refine m_ald (k := 18) (x := v 18) X dL_acts_217 hW_g0 (vp_in_nI (n := 18) (by decide) (by decide)) (rfl) (pm18 hM) rfl ?_
    refine m_iconst (v := 1) X dL_acts_218 (by decide) rfl ?_
    refine m_icmp_ne (tgt := 239) X dL_acts_219 (by decide) rfl (fun b219 => ?_) (fun b219 => ?_)
    · replace b219 : ¬ v 18 = 1 := b219
      have e18 : v 18 = 0 := h.2.2.2.2.2.resolve_right b219
      refine m_iconst (v := 0) X dL_acts_239 (by decide) rfl ?_
      refine m_ist (l1 := [(11, .int 0), (10, .int 1), (0, .ref 0), (1, .ref 17), (2, .ref 18), (3, .ref 19), (4, .ref 20), (5, .ref 21), (6, .ref 22), (7, .int (nI L)), (8, .int (nI W9)), (9, .int (nI Z))]) X dL_acts_240 (Nat.le_of_ble_eq_true rfl) rfl rfl ?_
      refine m_iload X dL_acts_242 rfl rfl ?_
      refine m_if_eq (tgt := 257) X dL_acts_244 (by decide) rfl (fun b244 => absurd b244 (by decide)) (fun b244 => ?_)
      refine m_aload_n X dL_acts_247 rfl rfl ?_
      refine m_bipush (v := 9) X dL_acts_248 (by decide) rfl ?_
      refine m_iconst (v := 0) X dL_acts_250 (by decide) rfl ?_
      refine m_ast (k := 9) (h1 := (hW v a x0 (upd fm 9 0) fb fr fl fu fv)) X dL_acts_251 hW_g0 (vp_in_nI (n := 9) (by decide) (by decide)) (rfl) rfl rfl ?_
      refine m_aload_n X dL_acts_252 rfl rfl ?_
      refine m_iconst (v := 0) X dL_acts_253 (by decide) rfl ?_
      refine m_cS2 X dL_acts_254 lk_L_9 mk_L_turn st_L_turn (c_L_turn) rfl (Nat.le_of_ble_eq_true rfl) (Nat.le_of_ble_eq_true rfl) (Nat.le_of_ble_eq_true rfl) (Nat.le_of_ble_eq_true rfl) (Nat.le_of_ble_eq_true rfl) rfl ?_
      refine m_aload_n X dL_acts_257 rfl rfl ?_
      refine m_cH1 (M := M_L_aborted) (hh := H_L_aborted) X dL_acts_258 ll_L_119 mk_L_aborted st_L_aborted (w_aborted (c_X5_abort b199 hk)) rfl (Nat.le_of_ble_eq_true rfl) (Nat.le_of_ble_eq_true rfl) (Nat.le_of_ble_eq_true rfl) (Nat.le_of_ble_eq_true rfl) (Nat.le_of_ble_eq_true rfl) rfl ?_
      refine m_iload X dL_acts_261 rfl rfl ?_
      refine m_if_eq (tgt := 271) X dL_acts_263 (by decide) rfl (fun b263 => absurd b263 (by decide)) (fun b263 => ?_)
      refine m_iload X dL_acts_266 rfl rfl ?_
      refine m_goto (tgt := 273) X dL_acts_268 (by decide) rfl ?_
      refine m_icmp_ne (tgt := 280) X dL_acts_273 (by decide) rfl (fun b273 => absurd b273 (not_not_intro (by rw [if_pos e18]))) (fun b273 => ?_)
      refine m_iconst (v := 1) X dL_acts_276 (by decide) rfl ?_
      refine m_goto (tgt := 281) X dL_acts_277 (by decide) rfl ?_
      refine m_toP (v := some (.int 1)) (hf := (hW (sEnter v 0) (if v 18 = 0 then a else sBook v a) x0 (gTurn (upd fm 9 0) 0) fb fr fl fu fv)) ⟨rfl, (sEnter v 0), (if v 18 = 0 then a else sBook v a), B, _, fb, fr, fl, fu, fv, rfl, J_abort b199 h, ?_, ?_⟩ (m_zret X dL_acts_281 rfl (by decide) rfl (Nat.le_of_ble_eq_true rfl) (Nat.le_of_ble_eq_true rfl) rfl)
      · exact PM_abort hM
      · exact (by rw [if_pos e18]; exact hA)
    · replace b219 : v 18 = 1 := b219
      have e18 : ¬ v 18 = 0 := by rw [b219]; decide
      refine m_aload_n X dL_acts_222 rfl rfl ?_
      refine m_aload_n X dL_acts_223 rfl rfl ?_
      refine m_aload_n X dL_acts_224 rfl rfl ?_
      refine m_aload X dL_acts_225 rfl rfl ?_
      refine m_aload X dL_acts_227 rfl rfl ?_
      refine m_aload X dL_acts_229 rfl rfl ?_
      refine m_iload X dL_acts_231 rfl rfl ?_
      refine m_pS7 (M := M_L_book) X dL_acts_233 ll_L_19 mk_L_book st_L_book (c_L_bookB (h0.1.2.2.1 b199) h0 hL8 hM hA) (oW_len) (Nat.le_of_ble_eq_true rfl) (Nat.le_of_ble_eq_true rfl) (Nat.le_of_ble_eq_true rfl) (Nat.le_of_ble_eq_true rfl) (Nat.le_of_ble_eq_true rfl) rfl ?_
      rintro _ _ ⟨rfl, km, kb, kr, kl, ku, kv, rfl, hM3, hA3⟩
      refine m_goto (tgt := 240) X dL_acts_236 (by decide) rfl ?_
      refine m_ist (l1 := [(11, .int (sAmt v)), (10, .int 1), (0, .ref 0), (1, .ref 17), (2, .ref 18), (3, .ref 19), (4, .ref 20), (5, .ref 21), (6, .ref 22), (7, .int (nI L)), (8, .int (nI W9)), (9, .int (nI Z))]) X dL_acts_240 (Nat.le_of_ble_eq_true rfl) rfl rfl ?_
      refine m_iload X dL_acts_242 rfl rfl ?_
      refine m_if_eq (tgt := 257) X dL_acts_244 (by decide) rfl (fun b244 => absurd b244 (by decide)) (fun b244 => ?_)
      refine m_aload_n X dL_acts_247 rfl rfl ?_
      refine m_bipush (v := 9) X dL_acts_248 (by decide) rfl ?_
      refine m_iconst (v := 0) X dL_acts_250 (by decide) rfl ?_
      refine m_ast (k := 9) (h1 := (hW v a x0 (upd km 9 0) kb kr kl ku kv)) X dL_acts_251 hW_g0 (vp_in_nI (n := 9) (by decide) (by decide)) (rfl) rfl rfl ?_
      refine m_aload_n X dL_acts_252 rfl rfl ?_
      refine m_iconst (v := 0) X dL_acts_253 (by decide) rfl ?_
      refine m_cS2 X dL_acts_254 lk_L_9 mk_L_turn st_L_turn (c_L_turn) rfl (Nat.le_of_ble_eq_true rfl) (Nat.le_of_ble_eq_true rfl) (Nat.le_of_ble_eq_true rfl) (Nat.le_of_ble_eq_true rfl) (Nat.le_of_ble_eq_true rfl) rfl ?_
      refine m_aload_n X dL_acts_257 rfl rfl ?_
      refine m_cH1 (M := M_L_aborted) (hh := H_L_aborted) X dL_acts_258 ll_L_119 mk_L_aborted st_L_aborted (w_aborted (c_X5_abort b199 hk)) rfl (Nat.le_of_ble_eq_true rfl) (Nat.le_of_ble_eq_true rfl) (Nat.le_of_ble_eq_true rfl) (Nat.le_of_ble_eq_true rfl) (Nat.le_of_ble_eq_true rfl) rfl ?_
      refine m_iload X dL_acts_261 rfl rfl ?_
      refine m_if_eq (tgt := 271) X dL_acts_263 (by decide) rfl (fun b263 => absurd b263 (by decide)) (fun b263 => ?_)
      refine m_iload X dL_acts_266 rfl rfl ?_
      refine m_goto (tgt := 273) X dL_acts_268 (by decide) rfl ?_
      refine m_icmp_ne (tgt := 280) X dL_acts_273 (by decide) rfl (fun b273 => absurd b273 (not_not_intro (by rw [if_neg e18]))) (fun b273 => ?_)
      refine m_iconst (v := 1) X dL_acts_276 (by decide) rfl ?_
      refine m_goto (tgt := 281) X dL_acts_277 (by decide) rfl ?_
      refine m_toP (v := some (.int 1)) (hf := (hW (sEnter v 0) (if v 18 = 0 then a else sBook v a) x0 (gTurn (upd km 9 0) 0) kb kr kl ku kv)) ⟨rfl, (sEnter v 0), (if v 18 = 0 then a else sBook v a), B, _, kb, kr, kl, ku, kv, rfl, J_abort b199 h, ?_, ?_⟩ (m_zret X dL_acts_281 rfl (by decide) rfl (Nat.le_of_ble_eq_true rfl) (Nat.le_of_ble_eq_true rfl) rfl)
      · exact PM_abort hM3
      · exact (by rw [if_neg e18]; exact hA3)
theorem bi_n0 {v : m_V} (h : ¬ bi (calm v) = 0) : calm v := Classical.not_not.mp (fun q => h (bi_0.mpr q))
theorem lt_500 {x : Int32} (h : 501 ≤ x) : ¬ x ≤ 500 := by
  have e1 : (500 : Int32).toInt = 500 := rfl
  have e2 : (501 : Int32).toInt = 501 := rfl
  rw [i_le] at h ⊢
  omega
theorem gt_500 {x : Int32} (h : x ≤ -501) : ¬ -500 ≤ x := by
  have e1 : (-500 : Int32).toInt = -500 := rfl
  have e2 : (-501 : Int32).toInt = -501 := rfl
  rw [i_le] at h ⊢
  omega
theorem rg_500 {x : Int32} (h1 : ¬ 501 ≤ x) (h2 : ¬ x ≤ -501) : -500 ≤ x ∧ x ≤ 500 := by
  have e1 : (-500 : Int32).toInt = -500 := rfl
  have e2 : (-501 : Int32).toInt = -501 := rfl
  have e3 : (500 : Int32).toInt = 500 := rfl
  have e4 : (501 : Int32).toInt = 501 := rfl
  rw [i_le] at h1 h2 ⊢
  rw [i_le]
  omega
theorem g_acts3 {D : va_G} {cI cL : ClassId} {sa : Nat → Nat} {A : Nat → Prop} {p : Program} {l : Launch} {e : Env} {s : State} {m : MethodId} {args : Array Value} {below : List Frame} {meth : Method} {c : Code} {ad : Nat → Nat} (X : m_At D cI cL sa (m_My M_L_acts) (m_Mb M_L_acts) (m_Ml M_L_acts) (m_Mr M_L_acts) A [] p l s m args meth c) {h0' : m_H} {v : m_V} {a : m_R} {x0 : Int64} {fm fb fr fl fu fv : Nat → Int32} {n B L W9 Z : Nat} (hn : n < 2 ^ 30) (h : J n L B v a) (hM : PM n v fm) (hA : PA B a fb fr fl fu fv) (hZ : Z < 100000) : m_Go D cI cL ad (h0').length (m_Ml M_L_acts) A p l e (m_rm M_L_acts) s m args below meth c (m_VP D cI cL ad (h0').length A (oA x0 n L) below args s (m_Mc M_L_acts) (m_Ms M_L_acts)) 288 [(0, .ref 0), (1, .ref 17), (2, .ref 18), (3, .ref 19), (4, .ref 20), (5, .ref 21), (6, .ref 22), (7, .int (nI L)), (8, .int (nI W9)), (9, .int (nI Z))] [] (hW v a x0 fm fb fr fl fu fv) 0 0 := by
  have hI := h.1
  have h0 := hI.1
  have hX := h.2.1
  have hL8 := h.2.2.2.1
  have hk := inv_kI hI
  have e8 : v 8 = nI L := h0.2.2.2.2.2.1
  have e20 : v 20 = nI B := h0.2.2.2.2.2.2.1
  have hB20 : B ≤ 20 := h0.2.2.2.2.1
  refine m_aload_n X dL_acts_288 rfl rfl ?_
  refine m_bipush (v := 8) X dL_acts_289 (by decide) rfl ?_
  refine m_ald (k := 8) (x := v 10) X dL_acts_291 hW_g0 (vp_in_nI (n := 8) (by decide) (by decide)) (rfl) (pm8 hM) rfl ?_
  refine m_if_ne (tgt := 324) X dL_acts_292 (by decide) rfl (fun b292 => ?_) (fun b292 => ?_)
  · replace b292 : ¬ v 10 = 0 := b292
    refine m_iconst (v := 0) X dL_acts_324 (by decide) rfl ?_
    refine m_ist (l1 := [(10, .int 0), (0, .ref 0), (1, .ref 17), (2, .ref 18), (3, .ref 19), (4, .ref 20), (5, .ref 21), (6, .ref 22), (7, .int (nI L)), (8, .int (nI W9)), (9, .int (nI Z))]) X dL_acts_325 (Nat.le_of_ble_eq_true rfl) rfl rfl ?_
    refine m_aload_n X dL_acts_327 rfl rfl ?_
    refine m_iconst (v := 5) X dL_acts_328 (by decide) rfl ?_
    refine m_ald (k := 5) (x := v 0) X dL_acts_329 hW_g0 (vp_in_nI (n := 5) (by decide) (by decide)) (rfl) (pm5 hM) rfl ?_
    refine m_ist (l1 := [(11, .int (v 0)), (10, .int 0), (0, .ref 0), (1, .ref 17), (2, .ref 18), (3, .ref 19), (4, .ref 20), (5, .ref 21), (6, .ref 22), (7, .int (nI L)), (8, .int (nI W9)), (9, .int (nI Z))]) X dL_acts_330 (Nat.le_of_ble_eq_true rfl) rfl rfl ?_
    refine m_aload_n X dL_acts_332 rfl rfl ?_
    refine m_iconst (v := 5) X dL_acts_333 (by decide) rfl ?_
    refine m_iload X dL_acts_334 rfl rfl ?_
    refine m_if_eq (tgt := 345) X dL_acts_336 (by decide) rfl (fun b336 => ?_) (fun b336 => absurd b336 (by decide))
    refine m_aload_n X dL_acts_345 rfl rfl ?_
    refine m_iconst (v := 5) X dL_acts_346 (by decide) rfl ?_
    refine m_ald (k := 5) (x := v 0) X dL_acts_347 hW_g0 (vp_in_nI (n := 5) (by decide) (by decide)) (rfl) (pm5 hM) rfl ?_
    refine m_ast (k := 5) (h1 := (hW v a x0 (upd fm 5 (v 0)) fb fr fl fu fv)) X dL_acts_348 hW_g0 (vp_in_nI (n := 5) (by decide) (by decide)) (rfl) rfl rfl ?_
    refine m_aload_n X dL_acts_349 rfl rfl ?_
    refine m_cH1 (M := M_L_zeroed) (hh := H_L_zeroed) X dL_acts_350 ll_L_122 mk_L_zeroed st_L_zeroed (w_zeroed_x (x_X5_zero1 (fun q => b292 q.1))) rfl (Nat.le_of_ble_eq_true rfl) (Nat.le_of_ble_eq_true rfl) (Nat.le_of_ble_eq_true rfl) (Nat.le_of_ble_eq_true rfl) (Nat.le_of_ble_eq_true rfl) rfl ?_
    refine m_iload X dL_acts_353 rfl rfl ?_
    refine m_if_eq (tgt := 363) X dL_acts_355 (by decide) rfl (fun b355 => ?_) (fun b355 => absurd b355 (by decide))
    refine m_bipush (v := (-2)) X dL_acts_363 (by decide) rfl ?_
    refine m_icmp_ne (tgt := 372) X dL_acts_365 (by decide) rfl (fun b365 => absurd b365 (by decide)) (fun b365 => ?_)
    refine m_iconst (v := 1) X dL_acts_368 (by decide) rfl ?_
    refine m_goto (tgt := 373) X dL_acts_369 (by decide) rfl ?_
    refine m_toP (v := some (.int 1)) (hf := (hW v a x0 (upd fm 5 (v 0)) fb fr fl fu fv)) ⟨rfl, v, a, B, _, fb, fr, fl, fu, fv, rfl, h, ?_, ?_⟩ (m_zret X dL_acts_373 rfl (by decide) rfl (Nat.le_of_ble_eq_true rfl) (Nat.le_of_ble_eq_true rfl) rfl)
    · exact PM_same rfl hM
    · exact hA
  · replace b292 : v 10 = 0 := b292
    refine m_aload_n X dL_acts_295 rfl rfl ?_
    refine m_cS1 X dL_acts_296 lk_L_33 mk_L_isSettled st_L_isSettled (c_L_isSettled hn hM h0.2.1.2.1 hX.1.1 hX.1.2.1 hX.1.2.2.1 hX.1.2.2.2) rfl (Nat.le_of_ble_eq_true rfl) (Nat.le_of_ble_eq_true rfl) (Nat.le_of_ble_eq_true rfl) (Nat.le_of_ble_eq_true rfl) (Nat.le_of_ble_eq_true rfl) rfl ?_
    refine m_if_eq (tgt := 324) X dL_acts_299 (by decide) rfl (fun b299 => ?_) (fun b299 => ?_)
    · replace b299 : bi (calm v) = 0 := b299
      refine m_iconst (v := 0) X dL_acts_324 (by decide) rfl ?_
      refine m_ist (l1 := [(10, .int 0), (0, .ref 0), (1, .ref 17), (2, .ref 18), (3, .ref 19), (4, .ref 20), (5, .ref 21), (6, .ref 22), (7, .int (nI L)), (8, .int (nI W9)), (9, .int (nI Z))]) X dL_acts_325 (Nat.le_of_ble_eq_true rfl) rfl rfl ?_
      refine m_aload_n X dL_acts_327 rfl rfl ?_
      refine m_iconst (v := 5) X dL_acts_328 (by decide) rfl ?_
      refine m_ald (k := 5) (x := v 0) X dL_acts_329 hW_g0 (vp_in_nI (n := 5) (by decide) (by decide)) (rfl) (pm5 hM) rfl ?_
      refine m_ist (l1 := [(11, .int (v 0)), (10, .int 0), (0, .ref 0), (1, .ref 17), (2, .ref 18), (3, .ref 19), (4, .ref 20), (5, .ref 21), (6, .ref 22), (7, .int (nI L)), (8, .int (nI W9)), (9, .int (nI Z))]) X dL_acts_330 (Nat.le_of_ble_eq_true rfl) rfl rfl ?_
      refine m_aload_n X dL_acts_332 rfl rfl ?_
      refine m_iconst (v := 5) X dL_acts_333 (by decide) rfl ?_
      refine m_iload X dL_acts_334 rfl rfl ?_
      refine m_if_eq (tgt := 345) X dL_acts_336 (by decide) rfl (fun b336 => ?_) (fun b336 => absurd b336 (by decide))
      refine m_aload_n X dL_acts_345 rfl rfl ?_
      refine m_iconst (v := 5) X dL_acts_346 (by decide) rfl ?_
      refine m_ald (k := 5) (x := v 0) X dL_acts_347 hW_g0 (vp_in_nI (n := 5) (by decide) (by decide)) (rfl) (pm5 hM) rfl ?_
      refine m_ast (k := 5) (h1 := (hW v a x0 (upd fm 5 (v 0)) fb fr fl fu fv)) X dL_acts_348 hW_g0 (vp_in_nI (n := 5) (by decide) (by decide)) (rfl) rfl rfl ?_
      refine m_aload_n X dL_acts_349 rfl rfl ?_
      refine m_cH1 (M := M_L_zeroed) (hh := H_L_zeroed) X dL_acts_350 ll_L_122 mk_L_zeroed st_L_zeroed (w_zeroed_x (x_X5_zero1 (fun q => (bi_0.mp b299) q.2))) rfl (Nat.le_of_ble_eq_true rfl) (Nat.le_of_ble_eq_true rfl) (Nat.le_of_ble_eq_true rfl) (Nat.le_of_ble_eq_true rfl) (Nat.le_of_ble_eq_true rfl) rfl ?_
      refine m_iload X dL_acts_353 rfl rfl ?_
      refine m_if_eq (tgt := 363) X dL_acts_355 (by decide) rfl (fun b355 => ?_) (fun b355 => absurd b355 (by decide))
      refine m_bipush (v := (-2)) X dL_acts_363 (by decide) rfl ?_
      refine m_icmp_ne (tgt := 372) X dL_acts_365 (by decide) rfl (fun b365 => absurd b365 (by decide)) (fun b365 => ?_)
      refine m_iconst (v := 1) X dL_acts_368 (by decide) rfl ?_
      refine m_goto (tgt := 373) X dL_acts_369 (by decide) rfl ?_
      refine m_toP (v := some (.int 1)) (hf := (hW v a x0 (upd fm 5 (v 0)) fb fr fl fu fv)) ⟨rfl, v, a, B, _, fb, fr, fl, fu, fv, rfl, h, ?_, ?_⟩ (m_zret X dL_acts_373 rfl (by decide) rfl (Nat.le_of_ble_eq_true rfl) (Nat.le_of_ble_eq_true rfl) rfl)
      · exact PM_same rfl hM
      · exact hA
    · replace b299 : ¬ bi (calm v) = 0 := b299
      refine m_aload_n X dL_acts_302 rfl rfl ?_
      refine m_iconst (v := 0) X dL_acts_303 (by decide) rfl ?_
      refine m_ald (k := 0) (x := v 4) X dL_acts_304 hW_g0 (vp_in_nI (n := 0) (by decide) (by decide)) (rfl) (pm0 hM) rfl ?_
      refine m_sipush (v := 501) X dL_acts_305 (by decide) rfl ?_
      refine m_icmp_ge (tgt := 324) X dL_acts_308 (by decide) rfl (fun b308 => ?_) (fun b308 => ?_)
      · replace b308 : 501 ≤ v 4 := b308
        refine m_iconst (v := 0) X dL_acts_324 (by decide) rfl ?_
        refine m_ist (l1 := [(10, .int 0), (0, .ref 0), (1, .ref 17), (2, .ref 18), (3, .ref 19), (4, .ref 20), (5, .ref 21), (6, .ref 22), (7, .int (nI L)), (8, .int (nI W9)), (9, .int (nI Z))]) X dL_acts_325 (Nat.le_of_ble_eq_true rfl) rfl rfl ?_
        refine m_aload_n X dL_acts_327 rfl rfl ?_
        refine m_iconst (v := 5) X dL_acts_328 (by decide) rfl ?_
        refine m_ald (k := 5) (x := v 0) X dL_acts_329 hW_g0 (vp_in_nI (n := 5) (by decide) (by decide)) (rfl) (pm5 hM) rfl ?_
        refine m_ist (l1 := [(11, .int (v 0)), (10, .int 0), (0, .ref 0), (1, .ref 17), (2, .ref 18), (3, .ref 19), (4, .ref 20), (5, .ref 21), (6, .ref 22), (7, .int (nI L)), (8, .int (nI W9)), (9, .int (nI Z))]) X dL_acts_330 (Nat.le_of_ble_eq_true rfl) rfl rfl ?_
        refine m_aload_n X dL_acts_332 rfl rfl ?_
        refine m_iconst (v := 5) X dL_acts_333 (by decide) rfl ?_
        refine m_iload X dL_acts_334 rfl rfl ?_
        refine m_if_eq (tgt := 345) X dL_acts_336 (by decide) rfl (fun b336 => ?_) (fun b336 => absurd b336 (by decide))
        refine m_aload_n X dL_acts_345 rfl rfl ?_
        refine m_iconst (v := 5) X dL_acts_346 (by decide) rfl ?_
        refine m_ald (k := 5) (x := v 0) X dL_acts_347 hW_g0 (vp_in_nI (n := 5) (by decide) (by decide)) (rfl) (pm5 hM) rfl ?_
        refine m_ast (k := 5) (h1 := (hW v a x0 (upd fm 5 (v 0)) fb fr fl fu fv)) X dL_acts_348 hW_g0 (vp_in_nI (n := 5) (by decide) (by decide)) (rfl) rfl rfl ?_
        refine m_aload_n X dL_acts_349 rfl rfl ?_
        refine m_cH1 (M := M_L_zeroed) (hh := H_L_zeroed) X dL_acts_350 ll_L_122 mk_L_zeroed st_L_zeroed (w_zeroed_x (x_X5_zero2 b292 (bi_n0 b299) (fun q => lt_500 b308 q.2))) rfl (Nat.le_of_ble_eq_true rfl) (Nat.le_of_ble_eq_true rfl) (Nat.le_of_ble_eq_true rfl) (Nat.le_of_ble_eq_true rfl) (Nat.le_of_ble_eq_true rfl) rfl ?_
        refine m_iload X dL_acts_353 rfl rfl ?_
        refine m_if_eq (tgt := 363) X dL_acts_355 (by decide) rfl (fun b355 => ?_) (fun b355 => absurd b355 (by decide))
        refine m_bipush (v := (-2)) X dL_acts_363 (by decide) rfl ?_
        refine m_icmp_ne (tgt := 372) X dL_acts_365 (by decide) rfl (fun b365 => absurd b365 (by decide)) (fun b365 => ?_)
        refine m_iconst (v := 1) X dL_acts_368 (by decide) rfl ?_
        refine m_goto (tgt := 373) X dL_acts_369 (by decide) rfl ?_
        refine m_toP (v := some (.int 1)) (hf := (hW v a x0 (upd fm 5 (v 0)) fb fr fl fu fv)) ⟨rfl, v, a, B, _, fb, fr, fl, fu, fv, rfl, h, ?_, ?_⟩ (m_zret X dL_acts_373 rfl (by decide) rfl (Nat.le_of_ble_eq_true rfl) (Nat.le_of_ble_eq_true rfl) rfl)
        · exact PM_same rfl hM
        · exact hA
      · replace b308 : ¬ 501 ≤ v 4 := b308
        refine m_aload_n X dL_acts_311 rfl rfl ?_
        refine m_iconst (v := 0) X dL_acts_312 (by decide) rfl ?_
        refine m_ald (k := 0) (x := v 4) X dL_acts_313 hW_g0 (vp_in_nI (n := 0) (by decide) (by decide)) (rfl) (pm0 hM) rfl ?_
        refine m_sipush (v := (-501)) X dL_acts_314 (by decide) rfl ?_
        refine m_icmp_le (tgt := 324) X dL_acts_317 (by decide) rfl (fun b317 => ?_) (fun b317 => ?_)
        · replace b317 : v 4 ≤ -501 := b317
          refine m_iconst (v := 0) X dL_acts_324 (by decide) rfl ?_
          refine m_ist (l1 := [(10, .int 0), (0, .ref 0), (1, .ref 17), (2, .ref 18), (3, .ref 19), (4, .ref 20), (5, .ref 21), (6, .ref 22), (7, .int (nI L)), (8, .int (nI W9)), (9, .int (nI Z))]) X dL_acts_325 (Nat.le_of_ble_eq_true rfl) rfl rfl ?_
          refine m_aload_n X dL_acts_327 rfl rfl ?_
          refine m_iconst (v := 5) X dL_acts_328 (by decide) rfl ?_
          refine m_ald (k := 5) (x := v 0) X dL_acts_329 hW_g0 (vp_in_nI (n := 5) (by decide) (by decide)) (rfl) (pm5 hM) rfl ?_
          refine m_ist (l1 := [(11, .int (v 0)), (10, .int 0), (0, .ref 0), (1, .ref 17), (2, .ref 18), (3, .ref 19), (4, .ref 20), (5, .ref 21), (6, .ref 22), (7, .int (nI L)), (8, .int (nI W9)), (9, .int (nI Z))]) X dL_acts_330 (Nat.le_of_ble_eq_true rfl) rfl rfl ?_
          refine m_aload_n X dL_acts_332 rfl rfl ?_
          refine m_iconst (v := 5) X dL_acts_333 (by decide) rfl ?_
          refine m_iload X dL_acts_334 rfl rfl ?_
          refine m_if_eq (tgt := 345) X dL_acts_336 (by decide) rfl (fun b336 => ?_) (fun b336 => absurd b336 (by decide))
          refine m_aload_n X dL_acts_345 rfl rfl ?_
          refine m_iconst (v := 5) X dL_acts_346 (by decide) rfl ?_
          refine m_ald (k := 5) (x := v 0) X dL_acts_347 hW_g0 (vp_in_nI (n := 5) (by decide) (by decide)) (rfl) (pm5 hM) rfl ?_
          refine m_ast (k := 5) (h1 := (hW v a x0 (upd fm 5 (v 0)) fb fr fl fu fv)) X dL_acts_348 hW_g0 (vp_in_nI (n := 5) (by decide) (by decide)) (rfl) rfl rfl ?_
          refine m_aload_n X dL_acts_349 rfl rfl ?_
          refine m_cH1 (M := M_L_zeroed) (hh := H_L_zeroed) X dL_acts_350 ll_L_122 mk_L_zeroed st_L_zeroed (w_zeroed_x (x_X5_zero2 b292 (bi_n0 b299) (fun q => gt_500 b317 q.1))) rfl (Nat.le_of_ble_eq_true rfl) (Nat.le_of_ble_eq_true rfl) (Nat.le_of_ble_eq_true rfl) (Nat.le_of_ble_eq_true rfl) (Nat.le_of_ble_eq_true rfl) rfl ?_
          refine m_iload X dL_acts_353 rfl rfl ?_
          refine m_if_eq (tgt := 363) X dL_acts_355 (by decide) rfl (fun b355 => ?_) (fun b355 => absurd b355 (by decide))
          refine m_bipush (v := (-2)) X dL_acts_363 (by decide) rfl ?_
          refine m_icmp_ne (tgt := 372) X dL_acts_365 (by decide) rfl (fun b365 => absurd b365 (by decide)) (fun b365 => ?_)
          refine m_iconst (v := 1) X dL_acts_368 (by decide) rfl ?_
          refine m_goto (tgt := 373) X dL_acts_369 (by decide) rfl ?_
          refine m_toP (v := some (.int 1)) (hf := (hW v a x0 (upd fm 5 (v 0)) fb fr fl fu fv)) ⟨rfl, v, a, B, _, fb, fr, fl, fu, fv, rfl, h, ?_, ?_⟩ (m_zret X dL_acts_373 rfl (by decide) rfl (Nat.le_of_ble_eq_true rfl) (Nat.le_of_ble_eq_true rfl) rfl)
          · exact PM_same rfl hM
          · exact hA
        · replace b317 : ¬ v 4 ≤ -501 := b317
          refine m_iconst (v := 1) X dL_acts_320 (by decide) rfl ?_
          refine m_goto (tgt := 325) X dL_acts_321 (by decide) rfl ?_
          refine m_ist (l1 := [(10, .int 1), (0, .ref 0), (1, .ref 17), (2, .ref 18), (3, .ref 19), (4, .ref 20), (5, .ref 21), (6, .ref 22), (7, .int (nI L)), (8, .int (nI W9)), (9, .int (nI Z))]) X dL_acts_325 (Nat.le_of_ble_eq_true rfl) rfl rfl ?_
          refine m_aload_n X dL_acts_327 rfl rfl ?_
          refine m_iconst (v := 5) X dL_acts_328 (by decide) rfl ?_
          refine m_ald (k := 5) (x := v 0) X dL_acts_329 hW_g0 (vp_in_nI (n := 5) (by decide) (by decide)) (rfl) (pm5 hM) rfl ?_
          refine m_ist (l1 := [(11, .int (v 0)), (10, .int 1), (0, .ref 0), (1, .ref 17), (2, .ref 18), (3, .ref 19), (4, .ref 20), (5, .ref 21), (6, .ref 22), (7, .int (nI L)), (8, .int (nI W9)), (9, .int (nI Z))]) X dL_acts_330 (Nat.le_of_ble_eq_true rfl) rfl rfl ?_
          refine m_aload_n X dL_acts_332 rfl rfl ?_
          refine m_iconst (v := 5) X dL_acts_333 (by decide) rfl ?_
          refine m_iload X dL_acts_334 rfl rfl ?_
          refine m_if_eq (tgt := 345) X dL_acts_336 (by decide) rfl (fun b336 => absurd b336 (by decide)) (fun b336 => ?_)
          refine m_aload_n X dL_acts_339 rfl rfl ?_
          refine m_iconst (v := 0) X dL_acts_340 (by decide) rfl ?_
          refine m_ald (k := 0) (x := v 4) X dL_acts_341 hW_g0 (vp_in_nI (n := 0) (by decide) (by decide)) (rfl) (pm0 hM) rfl ?_
          refine m_goto (tgt := 348) X dL_acts_342 (by decide) rfl ?_
          refine m_ast (k := 5) (h1 := (hW v a x0 (upd fm 5 (v 4)) fb fr fl fu fv)) X dL_acts_348 hW_g0 (vp_in_nI (n := 5) (by decide) (by decide)) (rfl) rfl rfl ?_
          refine m_aload_n X dL_acts_349 rfl rfl ?_
          refine m_cH1 (M := M_L_zeroed) (hh := H_L_zeroed) X dL_acts_350 ll_L_122 mk_L_zeroed st_L_zeroed (w_zeroed (c_X5_zero b292 (bi_n0 b299) (rg_500 b308 b317))) rfl (Nat.le_of_ble_eq_true rfl) (Nat.le_of_ble_eq_true rfl) (Nat.le_of_ble_eq_true rfl) (Nat.le_of_ble_eq_true rfl) (Nat.le_of_ble_eq_true rfl) rfl ?_
          refine m_iload X dL_acts_353 rfl rfl ?_
          refine m_if_eq (tgt := 363) X dL_acts_355 (by decide) rfl (fun b355 => absurd b355 (by decide)) (fun b355 => ?_)
          refine m_iload X dL_acts_358 rfl rfl ?_
          refine m_goto (tgt := 365) X dL_acts_360 (by decide) rfl ?_
          refine m_icmp_ne (tgt := 372) X dL_acts_365 (by decide) rfl (fun b365 => absurd b365 (not_not_intro rfl)) (fun b365 => ?_)
          refine m_iconst (v := 1) X dL_acts_368 (by decide) rfl ?_
          refine m_goto (tgt := 373) X dL_acts_369 (by decide) rfl ?_
          refine m_toP (v := some (.int 1)) (hf := (hW (upd v 0 (v 4)) a x0 (upd fm 5 (v 4)) fb fr fl fu fv)) ⟨rfl, (upd v 0 (v 4)), a, B, _, fb, fr, fl, fu, fv, rfl, J_zero (rg_500 b308 b317) h, ?_, ?_⟩ (m_zret X dL_acts_373 rfl (by decide) rfl (Nat.le_of_ble_eq_true rfl) (Nat.le_of_ble_eq_true rfl) rfl)
          · exact PM_zero (v 4) hM
          · exact hA
theorem z_in {z M : Nat} (h : z ≤ M) (hM : M < 2 ^ 31) : 0 ≤ nI z ∧ nI z ≤ nI M := ⟨nI_pos' (by omega), (nI_leI (by omega) hM).mpr h⟩
theorem g_acts4 {D : va_G} {cI cL : ClassId} {sa : Nat → Nat} {A : Nat → Prop} {p : Program} {l : Launch} {e : Env} {s : State} {m : MethodId} {args : Array Value} {below : List Frame} {meth : Method} {c : Code} {ad : Nat → Nat} (X : m_At D cI cL sa (m_My M_L_acts) (m_Mb M_L_acts) (m_Ml M_L_acts) (m_Mr M_L_acts) A [] p l s m args meth c) {h0' : m_H} {v : m_V} {a : m_R} {x0 : Int64} {fm fb fr fl fu fv : Nat → Int32} {n B L W9 Z : Nat} (hn : n < 2 ^ 30) (h : J n L B v a) (hM : PM n v fm) (hA : PA B a fb fr fl fu fv) (hZ : Z < 100000) : m_Go D cI cL ad (h0').length (m_Ml M_L_acts) A p l e (m_rm M_L_acts) s m args below meth c (m_VP D cI cL ad (h0').length A (oA x0 n L) below args s (m_Mc M_L_acts) (m_Ms M_L_acts)) 380 [(0, .ref 0), (1, .ref 17), (2, .ref 18), (3, .ref 19), (4, .ref 20), (5, .ref 21), (6, .ref 22), (7, .int (nI L)), (8, .int (nI W9)), (9, .int (nI Z))] [] (hW v a x0 fm fb fr fl fu fv) 0 0 := by
  have hI := h.1
  have h0 := hI.1
  have hX := h.2.1
  have hL8 := h.2.2.2.1
  have hk := inv_kI hI
  have e8 : v 8 = nI L := h0.2.2.2.2.2.1
  have e20 : v 20 = nI B := h0.2.2.2.2.2.2.1
  have hB20 : B ≤ 20 := h0.2.2.2.2.1
  refine m_aload_n X dL_acts_380 rfl rfl ?_
  refine m_bipush (v := 7) X dL_acts_381 (by decide) rfl ?_
  refine m_ald (k := 7) (x := v 2) X dL_acts_383 hW_g0 (vp_in_nI (n := 7) (by decide) (by decide)) (rfl) (pm7 hM) rfl ?_
  refine m_ist (l1 := [(10, .int (v 2)), (0, .ref 0), (1, .ref 17), (2, .ref 18), (3, .ref 19), (4, .ref 20), (5, .ref 21), (6, .ref 22), (7, .int (nI L)), (8, .int (nI W9)), (9, .int (nI Z))]) X dL_acts_384 (Nat.le_of_ble_eq_true rfl) rfl rfl ?_
  refine m_aload_n X dL_acts_386 rfl rfl ?_
  refine m_bipush (v := 7) X dL_acts_387 (by decide) rfl ?_
  refine m_iload X dL_acts_389 rfl rfl ?_
  refine m_bipush (v := 7) X dL_acts_391 (by decide) rfl ?_
  refine m_irem X dL_acts_393 (by decide) rfl ?_
  refine m_top (x1 := nI (Z % 7)) (nI_modI (m := 7) (by omega) (by decide) (by decide)) ?_
  refine m_ast (k := 7) (h1 := (hW v a x0 (upd fm 7 (nI (Z % 7))) fb fr fl fu fv)) X dL_acts_394 hW_g0 (vp_in_nI (n := 7) (by decide) (by decide)) (rfl) rfl rfl ?_
  refine m_aload_n X dL_acts_395 rfl rfl ?_
  refine m_iload X dL_acts_396 rfl rfl ?_
  refine m_bipush (v := 7) X dL_acts_398 (by decide) rfl ?_
  refine m_irem X dL_acts_400 (by decide) rfl ?_
  refine m_top (x1 := nI (Z % 7)) (nI_modI (m := 7) (by omega) (by decide) (by decide)) ?_
  refine m_cV1 X dL_acts_401 lk_L_125 mk_X5_setBand in_X5_setBand se_X5_setBand rfl rfl (c_X5_setBand (z_in (show Z % 7 ≤ 50 by omega) (by decide))) rfl (Nat.le_of_ble_eq_true rfl) (Nat.le_of_ble_eq_true rfl) (Nat.le_of_ble_eq_true rfl) (Nat.le_of_ble_eq_true rfl) (Nat.le_of_ble_eq_true rfl) rfl ?_
  refine m_iload X dL_acts_404 rfl rfl ?_
  refine m_icmp_ne (tgt := 413) X dL_acts_406 (by decide) rfl (fun b406 => absurd b406 (not_not_intro rfl)) (fun b406 => ?_)
  refine m_iconst (v := 1) X dL_acts_409 (by decide) rfl ?_
  refine m_goto (tgt := 414) X dL_acts_410 (by decide) rfl ?_
  refine m_toP (v := some (.int 1)) (hf := (hW (upd v 2 (nI (Z % 7))) a x0 (upd fm 7 (nI (Z % 7))) fb fr fl fu fv)) ⟨rfl, (upd v 2 (nI (Z % 7))), a, B, _, fb, fr, fl, fu, fv, rfl, J_band h, ?_, ?_⟩ (m_zret X dL_acts_414 rfl (by decide) rfl (Nat.le_of_ble_eq_true rfl) (Nat.le_of_ble_eq_true rfl) rfl)
  · exact PM_band _ hM
  · exact hA
theorem g_acts5 {D : va_G} {cI cL : ClassId} {sa : Nat → Nat} {A : Nat → Prop} {p : Program} {l : Launch} {e : Env} {s : State} {m : MethodId} {args : Array Value} {below : List Frame} {meth : Method} {c : Code} {ad : Nat → Nat} (X : m_At D cI cL sa (m_My M_L_acts) (m_Mb M_L_acts) (m_Ml M_L_acts) (m_Mr M_L_acts) A [] p l s m args meth c) {h0' : m_H} {v : m_V} {a : m_R} {x0 : Int64} {fm fb fr fl fu fv : Nat → Int32} {n B L W9 Z : Nat} (hn : n < 2 ^ 30) (h : J n L B v a) (hM : PM n v fm) (hA : PA B a fb fr fl fu fv) (hZ : Z < 100000) : m_Go D cI cL ad (h0').length (m_Ml M_L_acts) A p l e (m_rm M_L_acts) s m args below meth c (m_VP D cI cL ad (h0').length A (oA x0 n L) below args s (m_Mc M_L_acts) (m_Ms M_L_acts)) 421 [(0, .ref 0), (1, .ref 17), (2, .ref 18), (3, .ref 19), (4, .ref 20), (5, .ref 21), (6, .ref 22), (7, .int (nI L)), (8, .int (nI W9)), (9, .int (nI Z))] [] (hW v a x0 fm fb fr fl fu fv) 0 0 := by
  have hI := h.1
  have h0 := hI.1
  have hX := h.2.1
  have hL8 := h.2.2.2.1
  have hk := inv_kI hI
  have e8 : v 8 = nI L := h0.2.2.2.2.2.1
  have e20 : v 20 = nI B := h0.2.2.2.2.2.2.1
  have hB20 : B ≤ 20 := h0.2.2.2.2.1
  refine m_aload_n X dL_acts_421 rfl rfl ?_
  refine m_iload X dL_acts_422 rfl rfl ?_
  refine m_iconst (v := 4) X dL_acts_424 (by decide) rfl ?_
  refine m_irem X dL_acts_425 (by decide) rfl ?_
  refine m_top (x1 := nI (Z % 4)) (nI_modI (m := 4) (by omega) (by decide) (by decide)) ?_
  refine m_iconst (v := 4) X dL_acts_426 (by decide) rfl ?_
  refine m_imul X dL_acts_427 rfl ?_
  refine m_top (x1 := nI (4 * (Z % 4))) (by rw [Nat.mul_comm]; exact nI_mul (Z % 4) 4) ?_
  refine m_ald (k := (4 * (Z % 4))) (x := a 0 (Z % 4)) X dL_acts_428 hW_g1 (vp_in_nI (by omega) (by decide)) (nI_clamp (by omega)) ((hA.1 (Z % 4) (by omega)).1) rfl ?_
  refine m_ist (l1 := [(10, .int (a 0 (Z % 4))), (0, .ref 0), (1, .ref 17), (2, .ref 18), (3, .ref 19), (4, .ref 20), (5, .ref 21), (6, .ref 22), (7, .int (nI L)), (8, .int (nI W9)), (9, .int (nI Z))]) X dL_acts_429 (Nat.le_of_ble_eq_true rfl) rfl rfl ?_
  refine m_aload_n X dL_acts_431 rfl rfl ?_
  refine m_iload X dL_acts_432 rfl rfl ?_
  refine m_iconst (v := 4) X dL_acts_434 (by decide) rfl ?_
  refine m_irem X dL_acts_435 (by decide) rfl ?_
  refine m_top (x1 := nI (Z % 4)) (nI_modI (m := 4) (by omega) (by decide) (by decide)) ?_
  refine m_iconst (v := 4) X dL_acts_436 (by decide) rfl ?_
  refine m_imul X dL_acts_437 rfl ?_
  refine m_top (x1 := nI (4 * (Z % 4))) (by rw [Nat.mul_comm]; exact nI_mul (Z % 4) 4) ?_
  refine m_iload X dL_acts_438 rfl rfl ?_
  refine m_iconst (v := 4) X dL_acts_440 (by decide) rfl ?_
  refine m_idiv X dL_acts_441 (by decide) rfl ?_
  refine m_top (x1 := nI (Z / 4)) (nI_divI (m := 4) (by omega) (by decide)) ?_
  refine m_bipush (v := 90) X dL_acts_442 (by decide) rfl ?_
  refine m_irem X dL_acts_444 (by decide) rfl ?_
  refine m_top (x1 := nI (Z / 4 % 90)) (nI_modI (m := 90) (by omega) (by decide) (by decide)) ?_
  refine m_ast (k := (4 * (Z % 4))) (h1 := (hW v a x0 fm (upd fb (4 * (Z % 4)) (nI (Z / 4 % 90))) fr fl fu fv)) X dL_acts_445 hW_g1 (vp_in_nI (by omega) (by decide)) (nI_clamp (by omega)) rfl rfl ?_
  refine m_aload_n X dL_acts_446 rfl rfl ?_
  refine m_iload X dL_acts_447 rfl rfl ?_
  refine m_iconst (v := 4) X dL_acts_449 (by decide) rfl ?_
  refine m_irem X dL_acts_450 (by decide) rfl ?_
  refine m_top (x1 := nI (Z % 4)) (nI_modI (m := 4) (by omega) (by decide) (by decide)) ?_
  refine m_iload X dL_acts_451 rfl rfl ?_
  refine m_iconst (v := 4) X dL_acts_453 (by decide) rfl ?_
  refine m_idiv X dL_acts_454 (by decide) rfl ?_
  refine m_top (x1 := nI (Z / 4)) (nI_divI (m := 4) (by omega) (by decide)) ?_
  refine m_bipush (v := 90) X dL_acts_455 (by decide) rfl ?_
  refine m_irem X dL_acts_457 (by decide) rfl ?_
  refine m_top (x1 := nI (Z / 4 % 90)) (nI_modI (m := 90) (by omega) (by decide) (by decide)) ?_
  refine m_cV2 X dL_acts_458 lk_L_128 mk_X5_setMargin in_X5_setMargin se_X5_setMargin rfl rfl (c_X5_setMargin (z_in (M := 3) (by omega) (by decide)) (z_in (M := 1000) (by omega) (by decide))) rfl (Nat.le_of_ble_eq_true rfl) (Nat.le_of_ble_eq_true rfl) (Nat.le_of_ble_eq_true rfl) (Nat.le_of_ble_eq_true rfl) (Nat.le_of_ble_eq_true rfl) rfl ?_
  refine m_top (x1 := a 0 (Z % 4)) (by rw [nI_clamp (by omega)]) ?_
  refine m_iload X dL_acts_461 rfl rfl ?_
  refine m_icmp_ne (tgt := 470) X dL_acts_463 (by decide) rfl (fun b463 => absurd b463 (not_not_intro rfl)) (fun b463 => ?_)
  refine m_iconst (v := 1) X dL_acts_466 (by decide) rfl ?_
  refine m_goto (tgt := 471) X dL_acts_467 (by decide) rfl ?_
  refine m_toP (v := some (.int 1)) (hf := (hW v (va_up a 0 (upd (a 0) (nI (Z % 4)).toNatClampNeg (nI (Z / 4 % 90)))) x0 fm (upd fb (4 * (Z % 4)) (nI (Z / 4 % 90))) fr fl fu fv)) ⟨rfl, v, (va_up a 0 (upd (a 0) (nI (Z % 4)).toNatClampNeg (nI (Z / 4 % 90)))), B, _, _, fr, fl, fu, fv, rfl, J_margin (by rw [nI_toInt (by omega)]; omega) h, ?_, ?_⟩ (m_zret X dL_acts_471 rfl (by decide) rfl (Nat.le_of_ble_eq_true rfl) (Nat.le_of_ble_eq_true rfl) rfl)
  · exact hM
  · exact (by rw [nI_clamp (by omega)]; exact ⟨PB_margin (by omega) hA.1, hA.2.1, hA.2.2.1, hA.2.2.2⟩)
theorem g_acts6 {D : va_G} {cI cL : ClassId} {sa : Nat → Nat} {A : Nat → Prop} {p : Program} {l : Launch} {e : Env} {s : State} {m : MethodId} {args : Array Value} {below : List Frame} {meth : Method} {c : Code} {ad : Nat → Nat} (X : m_At D cI cL sa (m_My M_L_acts) (m_Mb M_L_acts) (m_Ml M_L_acts) (m_Mr M_L_acts) A [] p l s m args meth c) {h0' : m_H} {v : m_V} {a : m_R} {x0 : Int64} {fm fb fr fl fu fv : Nat → Int32} {n B L W9 Z : Nat} (hn : n < 2 ^ 30) (h : J n L B v a) (hM : PM n v fm) (hA : PA B a fb fr fl fu fv) (hZ : Z < 100000) : m_Go D cI cL ad (h0').length (m_Ml M_L_acts) A p l e (m_rm M_L_acts) s m args below meth c (m_VP D cI cL ad (h0').length A (oA x0 n L) below args s (m_Mc M_L_acts) (m_Ms M_L_acts)) 472 [(0, .ref 0), (1, .ref 17), (2, .ref 18), (3, .ref 19), (4, .ref 20), (5, .ref 21), (6, .ref 22), (7, .int (nI L)), (8, .int (nI W9)), (9, .int (nI Z))] [] (hW v a x0 fm fb fr fl fu fv) 0 0 := by
  have hI := h.1
  have h0 := hI.1
  have hX := h.2.1
  have hL8 := h.2.2.2.1
  have hk := inv_kI hI
  have e8 : v 8 = nI L := h0.2.2.2.2.2.1
  have e20 : v 20 = nI B := h0.2.2.2.2.2.2.1
  have hB20 : B ≤ 20 := h0.2.2.2.2.1
  refine m_aload_n X dL_acts_472 rfl rfl ?_
  refine m_bipush (v := 8) X dL_acts_473 (by decide) rfl ?_
  refine m_ald (k := 8) (x := v 10) X dL_acts_475 hW_g0 (vp_in_nI (n := 8) (by decide) (by decide)) (rfl) (pm8 hM) rfl ?_
  refine m_if_ne (tgt := 499) X dL_acts_476 (by decide) rfl (fun b476 => ?_) (fun b476 => ?_)
  · replace b476 : ¬ v 10 = 0 := b476
    refine m_iconst (v := 0) X dL_acts_499 (by decide) rfl ?_
    refine m_ist (l1 := [(10, .int 0), (0, .ref 0), (1, .ref 17), (2, .ref 18), (3, .ref 19), (4, .ref 20), (5, .ref 21), (6, .ref 22), (7, .int (nI L)), (8, .int (nI W9)), (9, .int (nI Z))]) X dL_acts_500 (Nat.le_of_ble_eq_true rfl) rfl rfl ?_
    refine m_iload X dL_acts_502 rfl rfl ?_
    refine m_if_eq (tgt := 520) X dL_acts_504 (by decide) rfl (fun b504 => ?_) (fun b504 => absurd b504 (by decide))
    refine m_aload_n X dL_acts_520 rfl rfl ?_
    refine m_cH1 (M := M_L_started) (hh := H_L_started) X dL_acts_521 ll_L_131 mk_L_started st_L_started (w_started_x (x_X5_start (fun q => b476 q.1))) rfl (Nat.le_of_ble_eq_true rfl) (Nat.le_of_ble_eq_true rfl) (Nat.le_of_ble_eq_true rfl) (Nat.le_of_ble_eq_true rfl) (Nat.le_of_ble_eq_true rfl) rfl ?_
    refine m_iload X dL_acts_524 rfl rfl ?_
    refine m_if_eq (tgt := 538) X dL_acts_526 (by decide) rfl (fun b526 => ?_) (fun b526 => absurd b526 (by decide))
    refine m_bipush (v := (-2)) X dL_acts_538 (by decide) rfl ?_
    refine m_icmp_ne (tgt := 547) X dL_acts_540 (by decide) rfl (fun b540 => absurd b540 (by decide)) (fun b540 => ?_)
    refine m_iconst (v := 1) X dL_acts_543 (by decide) rfl ?_
    refine m_goto (tgt := 548) X dL_acts_544 (by decide) rfl ?_
    refine m_toP (v := some (.int 1)) (hf := (hW v a x0 fm fb fr fl fu fv)) ⟨rfl, v, a, B, fm, fb, fr, fl, fu, fv, rfl, h, ?_, ?_⟩ (m_zret X dL_acts_548 rfl (by decide) rfl (Nat.le_of_ble_eq_true rfl) (Nat.le_of_ble_eq_true rfl) rfl)
    · exact hM
    · exact hA
  · replace b476 : v 10 = 0 := b476
    refine m_aload_n X dL_acts_479 rfl rfl ?_
    refine m_bipush (v := 21) X dL_acts_480 (by decide) rfl ?_
    refine m_ald (k := 21) (x := v 9) X dL_acts_482 hW_g0 (vp_in_nI (n := 21) (by decide) (by decide)) (rfl) (pm21 hM) rfl ?_
    refine m_if_le (tgt := 499) X dL_acts_483 (by decide) rfl (fun b483 => ?_) (fun b483 => ?_)
    · replace b483 : v 9 ≤ 0 := b483
      refine m_iconst (v := 0) X dL_acts_499 (by decide) rfl ?_
      refine m_ist (l1 := [(10, .int 0), (0, .ref 0), (1, .ref 17), (2, .ref 18), (3, .ref 19), (4, .ref 20), (5, .ref 21), (6, .ref 22), (7, .int (nI L)), (8, .int (nI W9)), (9, .int (nI Z))]) X dL_acts_500 (Nat.le_of_ble_eq_true rfl) rfl rfl ?_
      refine m_iload X dL_acts_502 rfl rfl ?_
      refine m_if_eq (tgt := 520) X dL_acts_504 (by decide) rfl (fun b504 => ?_) (fun b504 => absurd b504 (by decide))
      refine m_aload_n X dL_acts_520 rfl rfl ?_
      refine m_cH1 (M := M_L_started) (hh := H_L_started) X dL_acts_521 ll_L_131 mk_L_started st_L_started (w_started_x (x_X5_start (fun q => q.2.1 b483))) rfl (Nat.le_of_ble_eq_true rfl) (Nat.le_of_ble_eq_true rfl) (Nat.le_of_ble_eq_true rfl) (Nat.le_of_ble_eq_true rfl) (Nat.le_of_ble_eq_true rfl) rfl ?_
      refine m_iload X dL_acts_524 rfl rfl ?_
      refine m_if_eq (tgt := 538) X dL_acts_526 (by decide) rfl (fun b526 => ?_) (fun b526 => absurd b526 (by decide))
      refine m_bipush (v := (-2)) X dL_acts_538 (by decide) rfl ?_
      refine m_icmp_ne (tgt := 547) X dL_acts_540 (by decide) rfl (fun b540 => absurd b540 (by decide)) (fun b540 => ?_)
      refine m_iconst (v := 1) X dL_acts_543 (by decide) rfl ?_
      refine m_goto (tgt := 548) X dL_acts_544 (by decide) rfl ?_
      refine m_toP (v := some (.int 1)) (hf := (hW v a x0 fm fb fr fl fu fv)) ⟨rfl, v, a, B, fm, fb, fr, fl, fu, fv, rfl, h, ?_, ?_⟩ (m_zret X dL_acts_548 rfl (by decide) rfl (Nat.le_of_ble_eq_true rfl) (Nat.le_of_ble_eq_true rfl) rfl)
      · exact hM
      · exact hA
    · replace b483 : ¬ v 9 ≤ 0 := b483
      refine m_aload_n X dL_acts_486 rfl rfl ?_
      refine m_bipush (v := 19) X dL_acts_487 (by decide) rfl ?_
      refine m_ald (k := 19) (x := v 20) X dL_acts_489 hW_g0 (vp_in_nI (n := 19) (by decide) (by decide)) (rfl) (pm19 hM) rfl ?_
      refine m_bipush (v := 20) X dL_acts_490 (by decide) rfl ?_
      refine m_icmp_ge (tgt := 499) X dL_acts_492 (by decide) rfl (fun b492 => ?_) (fun b492 => ?_)
      · replace b492 : 20 ≤ v 20 := b492
        refine m_iconst (v := 0) X dL_acts_499 (by decide) rfl ?_
        refine m_ist (l1 := [(10, .int 0), (0, .ref 0), (1, .ref 17), (2, .ref 18), (3, .ref 19), (4, .ref 20), (5, .ref 21), (6, .ref 22), (7, .int (nI L)), (8, .int (nI W9)), (9, .int (nI Z))]) X dL_acts_500 (Nat.le_of_ble_eq_true rfl) rfl rfl ?_
        refine m_iload X dL_acts_502 rfl rfl ?_
        refine m_if_eq (tgt := 520) X dL_acts_504 (by decide) rfl (fun b504 => ?_) (fun b504 => absurd b504 (by decide))
        refine m_aload_n X dL_acts_520 rfl rfl ?_
        refine m_cH1 (M := M_L_started) (hh := H_L_started) X dL_acts_521 ll_L_131 mk_L_started st_L_started (w_started_x (x_X5_start (fun q => q.2.2 b492))) rfl (Nat.le_of_ble_eq_true rfl) (Nat.le_of_ble_eq_true rfl) (Nat.le_of_ble_eq_true rfl) (Nat.le_of_ble_eq_true rfl) (Nat.le_of_ble_eq_true rfl) rfl ?_
        refine m_iload X dL_acts_524 rfl rfl ?_
        refine m_if_eq (tgt := 538) X dL_acts_526 (by decide) rfl (fun b526 => ?_) (fun b526 => absurd b526 (by decide))
        refine m_bipush (v := (-2)) X dL_acts_538 (by decide) rfl ?_
        refine m_icmp_ne (tgt := 547) X dL_acts_540 (by decide) rfl (fun b540 => absurd b540 (by decide)) (fun b540 => ?_)
        refine m_iconst (v := 1) X dL_acts_543 (by decide) rfl ?_
        refine m_goto (tgt := 548) X dL_acts_544 (by decide) rfl ?_
        refine m_toP (v := some (.int 1)) (hf := (hW v a x0 fm fb fr fl fu fv)) ⟨rfl, v, a, B, fm, fb, fr, fl, fu, fv, rfl, h, ?_, ?_⟩ (m_zret X dL_acts_548 rfl (by decide) rfl (Nat.le_of_ble_eq_true rfl) (Nat.le_of_ble_eq_true rfl) rfl)
        · exact hM
        · exact hA
      · replace b492 : ¬ 20 ≤ v 20 := b492
        refine m_iconst (v := 1) X dL_acts_495 (by decide) rfl ?_
        refine m_goto (tgt := 500) X dL_acts_496 (by decide) rfl ?_
        refine m_ist (l1 := [(10, .int 1), (0, .ref 0), (1, .ref 17), (2, .ref 18), (3, .ref 19), (4, .ref 20), (5, .ref 21), (6, .ref 22), (7, .int (nI L)), (8, .int (nI W9)), (9, .int (nI Z))]) X dL_acts_500 (Nat.le_of_ble_eq_true rfl) rfl rfl ?_
        refine m_iload X dL_acts_502 rfl rfl ?_
        refine m_if_eq (tgt := 520) X dL_acts_504 (by decide) rfl (fun b504 => absurd b504 (by decide)) (fun b504 => ?_)
        refine m_aload_n X dL_acts_507 rfl rfl ?_
        refine m_bipush (v := 19) X dL_acts_508 (by decide) rfl ?_
        refine m_dup2 X dL_acts_510 rfl rfl rfl ?_
        refine m_ald (k := 19) (x := v 20) X dL_acts_511 hW_g0 (vp_in_nI (n := 19) (by decide) (by decide)) (rfl) (pm19 hM) rfl ?_
        refine m_iconst (v := 1) X dL_acts_512 (by decide) rfl ?_
        refine m_iadd X dL_acts_513 rfl ?_
        refine m_ast (k := 19) (h1 := (hW v a x0 (upd fm 19 ((v 20) + 1)) fb fr fl fu fv)) X dL_acts_514 hW_g0 (vp_in_nI (n := 19) (by decide) (by decide)) (rfl) rfl rfl ?_
        refine m_aload_n X dL_acts_515 rfl rfl ?_
        refine m_iconst (v := 0) X dL_acts_516 (by decide) rfl ?_
        refine m_cS2 X dL_acts_517 lk_L_23 mk_L_next st_L_next (c_L_next) rfl (Nat.le_of_ble_eq_true rfl) (Nat.le_of_ble_eq_true rfl) (Nat.le_of_ble_eq_true rfl) (Nat.le_of_ble_eq_true rfl) (Nat.le_of_ble_eq_true rfl) rfl ?_
        refine m_aload_n X dL_acts_520 rfl rfl ?_
        refine m_cH1 (M := M_L_started) (hh := H_L_started) X dL_acts_521 ll_L_131 mk_L_started st_L_started (w_started (c_X5_start b476 b483 b492)) rfl (Nat.le_of_ble_eq_true rfl) (Nat.le_of_ble_eq_true rfl) (Nat.le_of_ble_eq_true rfl) (Nat.le_of_ble_eq_true rfl) (Nat.le_of_ble_eq_true rfl) rfl ?_
        refine m_iload X dL_acts_524 rfl rfl ?_
        refine m_if_eq (tgt := 538) X dL_acts_526 (by decide) rfl (fun b526 => absurd b526 (by decide)) (fun b526 => ?_)
        refine m_aload_n X dL_acts_529 rfl rfl ?_
        refine m_bipush (v := 19) X dL_acts_530 (by decide) rfl ?_
        refine m_ald (k := 19) (x := v 20 + 1) X dL_acts_532 hW_g0 (vp_in_nI (n := 19) (by decide) (by decide)) (rfl) (rfl) rfl ?_
        refine m_iconst (v := 1) X dL_acts_533 (by decide) rfl ?_
        refine m_isub X dL_acts_534 rfl ?_
        refine m_top (x1 := v 20) (i_p1 _) ?_
        refine m_goto (tgt := 540) X dL_acts_535 (by decide) rfl ?_
        refine m_icmp_ne (tgt := 547) X dL_acts_540 (by decide) rfl (fun b540 => absurd b540 (not_not_intro rfl)) (fun b540 => ?_)
        refine m_iconst (v := 1) X dL_acts_543 (by decide) rfl ?_
        refine m_goto (tgt := 548) X dL_acts_544 (by decide) rfl ?_
        refine m_toP (v := some (.int 1)) (hf := (hW (sBegin (upd v 20 (v 20 + 1)) 0) a x0 (gNext (upd fm 19 ((v 20) + 1)) 0) fb fr fl fu fv)) ⟨rfl, (sBegin (upd v 20 (v 20 + 1)) 0), a, (B + 1), _, fb, fr, fl, fu, fv, rfl, J_start b492 h, ?_, ?_⟩ (m_zret X dL_acts_548 rfl (by decide) rfl (Nat.le_of_ble_eq_true rfl) (Nat.le_of_ble_eq_true rfl) rfl)
        · exact PM_next (PM_start hM)
        · exact ⟨hA.1, hA.2.1, hA.2.2.1, PU_up hA.2.2.2⟩
theorem c_L_acts {v : m_V} {a : m_R} {x0 : Int64} {fm fb fr fl fu fv : Nat → Int32} {n B L W9 Z : Nat} (hn : n < 2 ^ 30) (h : J n L B v a) (hM : PM n v fm) (hA : PA B a fb fr fl fu fv) (hZ : Z < 100000) : m_CtrP M_L_acts [.ref 0, .ref 17, .ref 18, .ref 19, .ref 20, .ref 21, .ref 22, .int (nI L), .int (nI W9), .int (nI Z)] (hW v a x0 fm fb fr fl fu fv) (oA x0 n L) := by
  refine m_introG (by decide +kernel) (Nat.le_of_ble_eq_true rfl) (fun {D cI cL sa A p l e s m args below meth c ad} X _ => ?_)
  refine m_lp (l1 := [(0, .ref 0), (1, .ref 17), (2, .ref 18), (3, .ref 19), (4, .ref 20), (5, .ref 21), (6, .ref 22), (7, .int (nI L)), (8, .int (nI W9)), (9, .int (nI Z))]) [0, 1, 2, 3, 4, 5, 6, 7, 8, 9] rfl ?_
  refine m_iload X dL_acts_0 rfl rfl ?_
  refine m_if_ne (tgt := 69) X dL_acts_2 (by decide) rfl (fun b2 => ?_) (fun b2 => ?_)
  · refine m_iload X dL_acts_69 rfl rfl ?_
    refine m_iconst (v := 1) X dL_acts_71 (by decide) rfl ?_
    refine m_icmp_ne (tgt := 182) X dL_acts_72 (by decide) rfl (fun b72 => ?_) (fun b72 => ?_)
    · refine m_iload X dL_acts_182 rfl rfl ?_
      refine m_iconst (v := 2) X dL_acts_184 (by decide) rfl ?_
      refine m_icmp_ne (tgt := 282) X dL_acts_185 (by decide) rfl (fun b185 => ?_) (fun b185 => ?_)
      · refine m_iload X dL_acts_282 rfl rfl ?_
        refine m_iconst (v := 3) X dL_acts_284 (by decide) rfl ?_
        refine m_icmp_ne (tgt := 374) X dL_acts_285 (by decide) rfl (fun b285 => ?_) (fun b285 => ?_)
        · refine m_iload X dL_acts_374 rfl rfl ?_
          refine m_iconst (v := 4) X dL_acts_376 (by decide) rfl ?_
          refine m_icmp_ne (tgt := 415) X dL_acts_377 (by decide) rfl (fun b377 => ?_) (fun b377 => ?_)
          · refine m_iload X dL_acts_415 rfl rfl ?_
            refine m_iconst (v := 5) X dL_acts_417 (by decide) rfl ?_
            refine m_icmp_ne (tgt := 472) X dL_acts_418 (by decide) rfl (fun b418 => ?_) (fun b418 => ?_)
            · exact g_acts6 X hn h hM hA hZ
            · exact g_acts5 X hn h hM hA hZ
          · exact g_acts4 X hn h hM hA hZ
        · exact g_acts3 X hn h hM hA hZ
      · refine m_iload X dL_acts_188 rfl rfl ?_
        refine m_iconst (v := 3) X dL_acts_190 (by decide) rfl ?_
        refine m_irem X dL_acts_191 (by decide) rfl ?_
        refine m_top (x1 := nI (Z % 3)) (nI_modI (m := 3) (by omega) (by decide) (by decide)) ?_
        refine m_if_ne (tgt := 282) X dL_acts_192 (by decide) rfl (fun b192 => ?_) (fun b192 => ?_)
        · refine m_iload X dL_acts_282 rfl rfl ?_
          refine m_iconst (v := 3) X dL_acts_284 (by decide) rfl ?_
          refine m_icmp_ne (tgt := 374) X dL_acts_285 (by decide) rfl (fun b285 => ?_) (fun b285 => ?_)
          · refine m_iload X dL_acts_374 rfl rfl ?_
            refine m_iconst (v := 4) X dL_acts_376 (by decide) rfl ?_
            refine m_icmp_ne (tgt := 415) X dL_acts_377 (by decide) rfl (fun b377 => ?_) (fun b377 => ?_)
            · refine m_iload X dL_acts_415 rfl rfl ?_
              refine m_iconst (v := 5) X dL_acts_417 (by decide) rfl ?_
              refine m_icmp_ne (tgt := 472) X dL_acts_418 (by decide) rfl (fun b418 => ?_) (fun b418 => ?_)
              · exact g_acts6 X hn h hM hA hZ
              · exact g_acts5 X hn h hM hA hZ
            · exact g_acts4 X hn h hM hA hZ
          · exact g_acts3 X hn h hM hA hZ
        · exact g_acts2 X hn h hM hA hZ
    · exact g_acts1 X hn h hM hA hZ
  · exact g_acts0 X hn h hM hA hZ
end LA7

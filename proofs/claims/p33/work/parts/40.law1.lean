section LA1
theorem c_L_net {v0 v : m_V} {a0 : m_R} {x0 : Int64} {fm fb fr fl fu fv : Nat → Int32} {n : Nat} (hM : PM n v fm) : m_Ctr M_L_net [.ref 17] (hW v0 a0 x0 fm fb fr fl fu fv) (.inl (some (.int (net v)), (hW v0 a0 x0 fm fb fr fl fu fv))) := by
  refine m_intro (by decide +kernel) (Nat.le_of_ble_eq_true rfl) (fun {D cI cL sa A p l e s m args below meth c ad} X => ?_)
  refine m_lp (l1 := [(0, .ref 17)]) [0] rfl ?_
  refine m_aload_n X dL_net_0 rfl rfl ?_
  refine m_iconst (v := 0) X dL_net_1 (by decide) rfl ?_
  refine m_ald (k := 0) (x := v 4) X dL_net_2 hW_g0 (vp_in_nI (n := 0) (by decide) (by decide)) (rfl) (pm0 hM) rfl ?_
  refine m_aload_n X dL_net_3 rfl rfl ?_
  refine m_iconst (v := 5) X dL_net_4 (by decide) rfl ?_
  refine m_ald (k := 5) (x := v 0) X dL_net_5 hW_g0 (vp_in_nI (n := 5) (by decide) (by decide)) (rfl) (pm5 hM) rfl ?_
  refine m_isub X dL_net_6 rfl ?_
  refine m_aload_n X dL_net_7 rfl rfl ?_
  refine m_bipush (v := 6) X dL_net_8 (by decide) rfl ?_
  refine m_ald (k := 6) (x := v 1) X dL_net_10 hW_g0 (vp_in_nI (n := 6) (by decide) (by decide)) (rfl) (pm6 hM) rfl ?_
  refine m_isub X dL_net_11 rfl ?_
  exact m_iret X dL_net_12 rfl rfl (Nat.le_of_ble_eq_true rfl) (Nat.le_of_ble_eq_true rfl) rfl
theorem c_L_turn {v0 : m_V} {a0 : m_R} {x0 : Int64} {fm fb fr fl fu fv : Nat → Int32} {k : Int32} : m_Ctr M_L_turn [.ref 17, .int k] (hW v0 a0 x0 fm fb fr fl fu fv) (.inl (none, (hW v0 a0 x0 (gTurn fm k) fb fr fl fu fv))) := by
  refine m_intro (by decide +kernel) (Nat.le_of_ble_eq_true rfl) (fun {D cI cL sa A p l e s m args below meth c ad} X => ?_)
  refine m_lp (l1 := [(0, .ref 17), (1, .int k)]) [0, 1] rfl ?_
  refine m_aload_n X dL_turn_0 rfl rfl ?_
  refine m_bipush (v := 8) X dL_turn_1 (by decide) rfl ?_
  refine m_iload_n X dL_turn_3 rfl rfl ?_
  refine m_ast (k := 8) (h1 := (hW v0 a0 x0 (upd fm 8 k) fb fr fl fu fv)) X dL_turn_4 hW_g0 (vp_in_nI (n := 8) (by decide) (by decide)) (rfl) rfl rfl ?_
  refine m_aload_n X dL_turn_5 rfl rfl ?_
  refine m_bipush (v := 12) X dL_turn_6 (by decide) rfl ?_
  refine m_aload_n X dL_turn_8 rfl rfl ?_
  refine m_iconst (v := 4) X dL_turn_9 (by decide) rfl ?_
  refine m_ald (k := 4) (x := fm 4) X dL_turn_10 hW_g0 (vp_in_nI (n := 4) (by decide) (by decide)) (rfl) (rfl) rfl ?_
  refine m_ast (k := 12) (h1 := (hW v0 a0 x0 (upd (upd fm 8 k) 12 (fm 4)) fb fr fl fu fv)) X dL_turn_11 hW_g0 (vp_in_nI (n := 12) (by decide) (by decide)) (rfl) rfl rfl ?_
  exact m_vret X dL_turn_12 rfl rfl (Nat.le_of_ble_eq_true rfl) (Nat.le_of_ble_eq_true rfl) rfl
theorem c_L_stop {v0 : m_V} {a0 : m_R} {x0 : Int64} {fm fb fr fl fu fv : Nat → Int32} {k : Int32} : m_Ctr M_L_stop [.ref 17, .int k] (hW v0 a0 x0 fm fb fr fl fu fv) (.inl (none, (hW v0 a0 x0 (gStop fm k) fb fr fl fu fv))) := by
  refine m_intro (by decide +kernel) (Nat.le_of_ble_eq_true rfl) (fun {D cI cL sa A p l e s m args below meth c ad} X => ?_)
  refine m_lp (l1 := [(0, .ref 17), (1, .int k)]) [0, 1] rfl ?_
  refine m_aload_n X dL_stop_0 rfl rfl ?_
  refine m_bipush (v := 10) X dL_stop_1 (by decide) rfl ?_
  refine m_aload_n X dL_stop_3 rfl rfl ?_
  refine m_bipush (v := 8) X dL_stop_4 (by decide) rfl ?_
  refine m_ald (k := 8) (x := fm 8) X dL_stop_6 hW_g0 (vp_in_nI (n := 8) (by decide) (by decide)) (rfl) (rfl) rfl ?_
  refine m_ast (k := 10) (h1 := (hW v0 a0 x0 (upd fm 10 (fm 8)) fb fr fl fu fv)) X dL_stop_7 hW_g0 (vp_in_nI (n := 10) (by decide) (by decide)) (rfl) rfl rfl ?_
  refine m_aload_n X dL_stop_8 rfl rfl ?_
  refine m_bipush (v := 9) X dL_stop_9 (by decide) rfl ?_
  refine m_iload_n X dL_stop_11 rfl rfl ?_
  refine m_ast (k := 9) (h1 := (hW v0 a0 x0 (upd (upd fm 10 (fm 8)) 9 k) fb fr fl fu fv)) X dL_stop_12 hW_g0 (vp_in_nI (n := 9) (by decide) (by decide)) (rfl) rfl rfl ?_
  refine m_aload_n X dL_stop_13 rfl rfl ?_
  refine m_bipush (v := 6) X dL_stop_14 (by decide) rfl ?_
  refine m_cS2 X dL_stop_16 lk_L_9 mk_L_turn st_L_turn (c_L_turn) rfl (Nat.le_of_ble_eq_true rfl) (Nat.le_of_ble_eq_true rfl) (Nat.le_of_ble_eq_true rfl) (Nat.le_of_ble_eq_true rfl) (Nat.le_of_ble_eq_true rfl) rfl ?_
  exact m_vret X dL_stop_19 rfl rfl (Nat.le_of_ble_eq_true rfl) (Nat.le_of_ble_eq_true rfl) rfl
theorem c_L_next {v0 : m_V} {a0 : m_R} {x0 : Int64} {fm fb fr fl fu fv : Nat → Int32} {k : Int32} : m_Ctr M_L_next [.ref 17, .int k] (hW v0 a0 x0 fm fb fr fl fu fv) (.inl (none, (hW v0 a0 x0 (gNext fm k) fb fr fl fu fv))) := by
  refine m_intro (by decide +kernel) (Nat.le_of_ble_eq_true rfl) (fun {D cI cL sa A p l e s m args below meth c ad} X => ?_)
  refine m_lp (l1 := [(0, .ref 17), (1, .int k)]) [0, 1] rfl ?_
  refine m_aload_n X dL_next_0 rfl rfl ?_
  refine m_bipush (v := 11) X dL_next_1 (by decide) rfl ?_
  refine m_iload_n X dL_next_3 rfl rfl ?_
  refine m_ast (k := 11) (h1 := (hW v0 a0 x0 (upd fm 11 k) fb fr fl fu fv)) X dL_next_4 hW_g0 (vp_in_nI (n := 11) (by decide) (by decide)) (rfl) rfl rfl ?_
  refine m_bipush (v := 14) X dL_next_5 (by decide) rfl ?_
  refine m_ist_n (l1 := [(2, .int 14), (0, .ref 17), (1, .int k)]) X dL_next_7 (Nat.le_of_ble_eq_true rfl) rfl rfl ?_
  refine m_iload_n X dL_next_8 rfl rfl ?_
  refine m_bipush (v := 19) X dL_next_9 (by decide) rfl ?_
  refine m_icmp_ge (tgt := 24) X dL_next_11 (by decide) rfl (fun b11 => absurd b11 (by decide)) (fun b11 => ?_)
  refine m_aload_n X dL_next_14 rfl rfl ?_
  refine m_iload_n X dL_next_15 rfl rfl ?_
  refine m_iconst (v := 0) X dL_next_16 (by decide) rfl ?_
  refine m_ast (k := 14) (h1 := (hW v0 a0 x0 (upd (upd fm 11 k) 14 0) fb fr fl fu fv)) X dL_next_17 hW_g0 (vp_in_nI (n := 14) (by decide) (by decide)) (rfl) rfl rfl ?_
  refine m_inc (x1 := 15) (l1 := [(2, .int 15), (0, .ref 17), (1, .int k)]) X dL_next_18 rfl (Nat.le_of_ble_eq_true rfl) (by decide) rfl rfl ?_
  refine m_goto (tgt := 8) X dL_next_21 (by decide) rfl ?_
  refine m_iload_n X dL_next_8 rfl rfl ?_
  refine m_bipush (v := 19) X dL_next_9 (by decide) rfl ?_
  refine m_icmp_ge (tgt := 24) X dL_next_11 (by decide) rfl (fun b11 => absurd b11 (by decide)) (fun b11 => ?_)
  refine m_aload_n X dL_next_14 rfl rfl ?_
  refine m_iload_n X dL_next_15 rfl rfl ?_
  refine m_iconst (v := 0) X dL_next_16 (by decide) rfl ?_
  refine m_ast (k := 15) (h1 := (hW v0 a0 x0 (upd (upd (upd fm 11 k) 14 0) 15 0) fb fr fl fu fv)) X dL_next_17 hW_g0 (vp_in_nI (n := 15) (by decide) (by decide)) (rfl) rfl rfl ?_
  refine m_inc (x1 := 16) (l1 := [(2, .int 16), (0, .ref 17), (1, .int k)]) X dL_next_18 rfl (Nat.le_of_ble_eq_true rfl) (by decide) rfl rfl ?_
  refine m_goto (tgt := 8) X dL_next_21 (by decide) rfl ?_
  refine m_iload_n X dL_next_8 rfl rfl ?_
  refine m_bipush (v := 19) X dL_next_9 (by decide) rfl ?_
  refine m_icmp_ge (tgt := 24) X dL_next_11 (by decide) rfl (fun b11 => absurd b11 (by decide)) (fun b11 => ?_)
  refine m_aload_n X dL_next_14 rfl rfl ?_
  refine m_iload_n X dL_next_15 rfl rfl ?_
  refine m_iconst (v := 0) X dL_next_16 (by decide) rfl ?_
  refine m_ast (k := 16) (h1 := (hW v0 a0 x0 (upd (upd (upd (upd fm 11 k) 14 0) 15 0) 16 0) fb fr fl fu fv)) X dL_next_17 hW_g0 (vp_in_nI (n := 16) (by decide) (by decide)) (rfl) rfl rfl ?_
  refine m_inc (x1 := 17) (l1 := [(2, .int 17), (0, .ref 17), (1, .int k)]) X dL_next_18 rfl (Nat.le_of_ble_eq_true rfl) (by decide) rfl rfl ?_
  refine m_goto (tgt := 8) X dL_next_21 (by decide) rfl ?_
  refine m_iload_n X dL_next_8 rfl rfl ?_
  refine m_bipush (v := 19) X dL_next_9 (by decide) rfl ?_
  refine m_icmp_ge (tgt := 24) X dL_next_11 (by decide) rfl (fun b11 => absurd b11 (by decide)) (fun b11 => ?_)
  refine m_aload_n X dL_next_14 rfl rfl ?_
  refine m_iload_n X dL_next_15 rfl rfl ?_
  refine m_iconst (v := 0) X dL_next_16 (by decide) rfl ?_
  refine m_ast (k := 17) (h1 := (hW v0 a0 x0 (upd (upd (upd (upd (upd fm 11 k) 14 0) 15 0) 16 0) 17 0) fb fr fl fu fv)) X dL_next_17 hW_g0 (vp_in_nI (n := 17) (by decide) (by decide)) (rfl) rfl rfl ?_
  refine m_inc (x1 := 18) (l1 := [(2, .int 18), (0, .ref 17), (1, .int k)]) X dL_next_18 rfl (Nat.le_of_ble_eq_true rfl) (by decide) rfl rfl ?_
  refine m_goto (tgt := 8) X dL_next_21 (by decide) rfl ?_
  refine m_iload_n X dL_next_8 rfl rfl ?_
  refine m_bipush (v := 19) X dL_next_9 (by decide) rfl ?_
  refine m_icmp_ge (tgt := 24) X dL_next_11 (by decide) rfl (fun b11 => absurd b11 (by decide)) (fun b11 => ?_)
  refine m_aload_n X dL_next_14 rfl rfl ?_
  refine m_iload_n X dL_next_15 rfl rfl ?_
  refine m_iconst (v := 0) X dL_next_16 (by decide) rfl ?_
  refine m_ast (k := 18) (h1 := (hW v0 a0 x0 (upd (upd (upd (upd (upd (upd fm 11 k) 14 0) 15 0) 16 0) 17 0) 18 0) fb fr fl fu fv)) X dL_next_17 hW_g0 (vp_in_nI (n := 18) (by decide) (by decide)) (rfl) rfl rfl ?_
  refine m_inc (x1 := 19) (l1 := [(2, .int 19), (0, .ref 17), (1, .int k)]) X dL_next_18 rfl (Nat.le_of_ble_eq_true rfl) (by decide) rfl rfl ?_
  refine m_goto (tgt := 8) X dL_next_21 (by decide) rfl ?_
  refine m_iload_n X dL_next_8 rfl rfl ?_
  refine m_bipush (v := 19) X dL_next_9 (by decide) rfl ?_
  refine m_icmp_ge (tgt := 24) X dL_next_11 (by decide) rfl (fun b11 => ?_) (fun b11 => absurd b11 (by decide))
  refine m_aload_n X dL_next_24 rfl rfl ?_
  refine m_bipush (v := 13) X dL_next_25 (by decide) rfl ?_
  refine m_iconst (v := 0) X dL_next_27 (by decide) rfl ?_
  refine m_ast (k := 13) (h1 := (hW v0 a0 x0 (upd (upd (upd (upd (upd (upd (upd fm 11 k) 14 0) 15 0) 16 0) 17 0) 18 0) 13 0) fb fr fl fu fv)) X dL_next_28 hW_g0 (vp_in_nI (n := 13) (by decide) (by decide)) (rfl) rfl rfl ?_
  refine m_aload_n X dL_next_29 rfl rfl ?_
  refine m_bipush (v := 9) X dL_next_30 (by decide) rfl ?_
  refine m_iconst (v := 0) X dL_next_32 (by decide) rfl ?_
  refine m_ast (k := 9) (h1 := (hW v0 a0 x0 (upd (upd (upd (upd (upd (upd (upd (upd fm 11 k) 14 0) 15 0) 16 0) 17 0) 18 0) 13 0) 9 0) fb fr fl fu fv)) X dL_next_33 hW_g0 (vp_in_nI (n := 9) (by decide) (by decide)) (rfl) rfl rfl ?_
  refine m_aload_n X dL_next_34 rfl rfl ?_
  refine m_iconst (v := 1) X dL_next_35 (by decide) rfl ?_
  refine m_cS2 X dL_next_36 lk_L_9 mk_L_turn st_L_turn (c_L_turn) rfl (Nat.le_of_ble_eq_true rfl) (Nat.le_of_ble_eq_true rfl) (Nat.le_of_ble_eq_true rfl) (Nat.le_of_ble_eq_true rfl) (Nat.le_of_ble_eq_true rfl) rfl ?_
  exact m_vret X dL_next_39 rfl rfl (Nat.le_of_ble_eq_true rfl) (Nat.le_of_ble_eq_true rfl) rfl
def sAp (f : Nat → Int32) : Nat → Int32
  | 0 => 0
  | k + 1 => if f (k / 4) - f (k % 4) ≤ sAp f k then sAp f k else f (k / 4) - f (k % 4)
theorem sAp_calm {n : Nat} {v : m_V} {f : Nat → Int32} (hn : n < 2 ^ 30) (hM : PM n v f) (h3 : v 3 = nI (min n 4)) (r4 : rd (v 4)) (r5 : rd (v 5)) (r6 : rd (v 6)) (r7 : rd (v 7)) : (¬ nI n ≤ 3 ∧ ¬ v 2 < sAp f 16) ↔ calm v := by
  have q0 : rd (f 0) := by rw [pm0 hM]; exact r4
  have q1 : rd (f 1) := by rw [pm1 hM]; exact r5
  have q2 : rd (f 2) := by rw [pm2 hM]; exact r6
  have q3 : rd (f 3) := by rw [pm3 hM]; exact r7
  have q : ∀ j, j < 4 → rd (f j) := by
    intro j hj
    have : j = 0 ∨ j = 1 ∨ j = 2 ∨ j = 3 := by omega
    rcases this with rfl | rfl | rfl | rfl
    · exact q0
    · exact q1
    · exact q2
    · exact q3
  have hd : ∀ k, k < 16 → (f (k / 4) - f (k % 4)).toInt = (f (k / 4)).toInt - (f (k % 4)).toInt := by
    intro k hk
    have a1 := q (k / 4) (by omega)
    have a2 := q (k % 4) (by omega)
    unfold rd at a1 a2
    exact Jvm.Kit.i32_sub (by omega) (by omega)
  have hs : ∀ k, k < 16 → (sAp f (k + 1)).toInt = max (sAp f k).toInt ((f (k / 4)).toInt - (f (k % 4)).toInt) := by
    intro k hk
    rw [← hd k hk]
    show (if f (k / 4) - f (k % 4) ≤ sAp f k then sAp f k else f (k / 4) - f (k % 4)).toInt = _
    by_cases h : f (k / 4) - f (k % 4) ≤ sAp f k
    · rw [if_pos h]; rw [i_le] at h; omega
    · rw [if_neg h]; rw [i_le] at h; omega
  unfold rd at q0 q1 q2 q3
  have e : (sAp f 16).toInt = (mx2 (mx2 (v 4) (v 5)) (mx2 (v 6) (v 7)) - mn2 (mn2 (v 4) (v 5)) (mn2 (v 6) (v 7))).toInt := by
    rw [← pm0 hM, ← pm1 hM, ← pm2 hM, ← pm3 hM]
    have m1 : (mx2 (mx2 (f 0) (f 1)) (mx2 (f 2) (f 3))).toInt = max (max (f 0).toInt (f 1).toInt) (max (f 2).toInt (f 3).toInt) := by simp only [mx2_int]
    have m2 : (mn2 (mn2 (f 0) (f 1)) (mn2 (f 2) (f 3))).toInt = min (min (f 0).toInt (f 1).toInt) (min (f 2).toInt (f 3).toInt) := by simp only [mn2_int]
    rw [Jvm.Kit.i32_sub (by rw [m1, m2]; omega) (by rw [m1, m2]; omega), m1, m2]
    obtain ⟨M, hM9⟩ : ∃ M, M = max (max (f 0).toInt (f 1).toInt) (max (f 2).toInt (f 3).toInt) := ⟨_, rfl⟩
    obtain ⟨m, hm9⟩ : ∃ m, m = min (min (f 0).toInt (f 1).toInt) (min (f 2).toInt (f 3).toInt) := ⟨_, rfl⟩
    have g0 : (f 0).toInt ≤ M ∧ m ≤ (f 0).toInt := by omega
    have g1 : (f 1).toInt ≤ M ∧ m ≤ (f 1).toInt := by omega
    have g2 : (f 2).toInt ≤ M ∧ m ≤ (f 2).toInt := by omega
    have g3 : (f 3).toInt ≤ M ∧ m ≤ (f 3).toInt := by omega
    have hle : ∀ j, j < 4 → (f j).toInt ≤ M ∧ m ≤ (f j).toInt := by
      intro j hj
      have : j = 0 ∨ j = 1 ∨ j = 2 ∨ j = 3 := by omega
      rcases this with rfl | rfl | rfl | rfl
      · exact g0
      · exact g1
      · exact g2
      · exact g3
    have up : ∀ k, k ≤ 16 → (sAp f k).toInt ≤ M - m := by
      intro k
      induction k with
      | zero => intro _; show (0 : Int32).toInt ≤ M - m; rw [show (0 : Int32).toInt = 0 from rfl]; omega
      | succ k ih =>
        intro hk
        have i0 := ih (by omega)
        have i1 := hle (k / 4) (by omega)
        have i2 := hle (k % 4) (by omega)
        rw [hs k (by omega)]
        exact Int.max_le.mpr ⟨i0, by omega⟩
    have lo : ∀ k, k < 16 → ∀ K, k < K → K ≤ 16 → (f (k / 4)).toInt - (f (k % 4)).toInt ≤ (sAp f K).toInt := by
      intro k hk K
      induction K with
      | zero => intro h; exact absurd h (Nat.not_lt_zero k)
      | succ K ih =>
        intro h1 h2
        rw [hs K (by omega)]
        by_cases hc : k = K
        · subst hc; exact Int.le_max_right _ _
        · exact Int.le_trans (ih (by omega) (by omega)) (Int.le_max_left _ _)
    have l01 : (f 0).toInt - (f 1).toInt ≤ (sAp f 16).toInt := lo 1 (by omega) 16 (by omega) (by omega)
    have l02 : (f 0).toInt - (f 2).toInt ≤ (sAp f 16).toInt := lo 2 (by omega) 16 (by omega) (by omega)
    have l03 : (f 0).toInt - (f 3).toInt ≤ (sAp f 16).toInt := lo 3 (by omega) 16 (by omega) (by omega)
    have l10 : (f 1).toInt - (f 0).toInt ≤ (sAp f 16).toInt := lo 4 (by omega) 16 (by omega) (by omega)
    have l12 : (f 1).toInt - (f 2).toInt ≤ (sAp f 16).toInt := lo 6 (by omega) 16 (by omega) (by omega)
    have l13 : (f 1).toInt - (f 3).toInt ≤ (sAp f 16).toInt := lo 7 (by omega) 16 (by omega) (by omega)
    have l20 : (f 2).toInt - (f 0).toInt ≤ (sAp f 16).toInt := lo 8 (by omega) 16 (by omega) (by omega)
    have l21 : (f 2).toInt - (f 1).toInt ≤ (sAp f 16).toInt := lo 9 (by omega) 16 (by omega) (by omega)
    have l23 : (f 2).toInt - (f 3).toInt ≤ (sAp f 16).toInt := lo 11 (by omega) 16 (by omega) (by omega)
    have l30 : (f 3).toInt - (f 0).toInt ≤ (sAp f 16).toInt := lo 12 (by omega) 16 (by omega) (by omega)
    have l31 : (f 3).toInt - (f 1).toInt ≤ (sAp f 16).toInt := lo 13 (by omega) 16 (by omega) (by omega)
    have l32 : (f 3).toInt - (f 2).toInt ≤ (sAp f 16).toInt := lo 14 (by omega) 16 (by omega) (by omega)
    have l00 : (f 0).toInt - (f 0).toInt ≤ (sAp f 16).toInt := lo 0 (by omega) 16 (by omega) (by omega)
    have u16 := up 16 (Nat.le_refl 16)
    rw [← hM9, ← hm9]
    have hM4 : M = (f 0).toInt ∨ M = (f 1).toInt ∨ M = (f 2).toInt ∨ M = (f 3).toInt := by omega
    have hm4 : m = (f 0).toInt ∨ m = (f 1).toInt ∨ m = (f 2).toInt ∨ m = (f 3).toInt := by omega
    clear hM9 hm9 up lo hle hs hd q hM m1 m2
    generalize (f 0).toInt = x0 at *
    generalize (f 1).toInt = x1 at *
    generalize (f 2).toInt = x2 at *
    generalize (f 3).toInt = x3 at *
    generalize (sAp f 16).toInt = S at *
    clear r4 r5 r6 r7 q0 q1 q2 q3
    rcases hM4 with rfl | rfl | rfl | rfl <;> rcases hm4 with h | h | h | h <;> rw [h] at u16 ⊢ <;> omega
  have e2 : sAp f 16 = mx2 (mx2 (v 4) (v 5)) (mx2 (v 6) (v 7)) - mn2 (mn2 (v 4) (v 5)) (mn2 (v 6) (v 7)) := Int32.toInt_inj.mp e
  have h4 : (¬ nI n ≤ 3) ↔ ¬ v 3 < 4 := by
    rw [h3, show (3 : Int32) = nI 3 from rfl, show (4 : Int32) = nI 4 from rfl, nI_leI (by omega) (by decide), nI_ltI (by omega) (by decide)]
    omega
  rw [h4, e2]
theorem c_L_isSettled {v0 v : m_V} {a0 : m_R} {x0 : Int64} {fm fb fr fl fu fv : Nat → Int32} {n : Nat} (hn : n < 2 ^ 30) (hM : PM n v fm) (h3 : v 3 = nI (min n 4)) (r4 : rd (v 4)) (r5 : rd (v 5)) (r6 : rd (v 6)) (r7 : rd (v 7)) : m_Ctr M_L_isSettled [.ref 17] (hW v0 a0 x0 fm fb fr fl fu fv) (.inl (some (.int (bi (calm v))), (hW v0 a0 x0 fm fb fr fl fu fv))) := by
  have hc := sAp_calm hn hM h3 r4 r5 r6 r7
  refine m_intro (by decide +kernel) (Nat.le_of_ble_eq_true rfl) (fun {D cI cL sa A p l e s m args below meth c ad} X => ?_)
  refine m_lp (l1 := [(0, .ref 17)]) [0] rfl ?_
  have after : m_Go D cI cL ad ((hW v0 a0 x0 fm fb fr fl fu fv)).length (m_Ml M_L_isSettled) A p l e (m_rm M_L_isSettled) s m args below meth c (m_VQ D cI cL ad ((hW v0 a0 x0 fm fb fr fl fu fv)).length A (.inl (some (.int (bi (calm v))), (hW v0 a0 x0 fm fb fr fl fu fv))) below args s (m_Mc M_L_isSettled) (m_Ms M_L_isSettled)) 39 [(2, .int (nI 16)), (1, .int (sAp fm 16)), (0, .ref 17)] [] (hW v0 a0 x0 fm fb fr fl fu fv) 0 0 := by
    refine m_aload_n X dL_isSettled_39 rfl rfl ?_
    refine m_iconst (v := 4) X dL_isSettled_40 (by decide) rfl ?_
    refine m_ald (k := 4) (x := nI n) X dL_isSettled_41 hW_g0 (vp_in_nI (n := 4) (by decide) (by decide)) (rfl) (pm4 hM) rfl ?_
    refine m_iconst (v := 3) X dL_isSettled_42 (by decide) rfl ?_
    refine m_icmp_le (tgt := 58) X dL_isSettled_43 (by decide) rfl (fun b43 => ?_) (fun b43 => ?_)
    · refine m_iconst (v := 0) X dL_isSettled_58 (by decide) rfl ?_
      exact m_zret X dL_isSettled_59 rfl (by decide) (by rw [bi_f (fun q => (hc.mpr q).1 b43)]) (Nat.le_of_ble_eq_true rfl) (Nat.le_of_ble_eq_true rfl) rfl
    · refine m_iload_n X dL_isSettled_46 rfl rfl ?_
      refine m_aload_n X dL_isSettled_47 rfl rfl ?_
      refine m_bipush (v := 7) X dL_isSettled_48 (by decide) rfl ?_
      refine m_ald (k := 7) (x := v 2) X dL_isSettled_50 hW_g0 (vp_in_nI (n := 7) (by decide) (by decide)) (rfl) (pm7 hM) rfl ?_
      refine m_icmp_gt (tgt := 58) X dL_isSettled_51 (by decide) rfl (fun b51 => ?_) (fun b51 => ?_)
      · refine m_iconst (v := 0) X dL_isSettled_58 (by decide) rfl ?_
        exact m_zret X dL_isSettled_59 rfl (by decide) (by rw [bi_f (fun q => (hc.mpr q).2 b51)]) (Nat.le_of_ble_eq_true rfl) (Nat.le_of_ble_eq_true rfl) rfl
      · refine m_iconst (v := 1) X dL_isSettled_54 (by decide) rfl ?_
        refine m_goto (tgt := 59) X dL_isSettled_55 (by decide) rfl ?_
        exact m_zret X dL_isSettled_59 rfl (by decide) (by rw [bi_t (hc.mp ⟨b43, b51⟩)]) (Nat.le_of_ble_eq_true rfl) (Nat.le_of_ble_eq_true rfl) rfl
  have loop : ∀ k i, i + k = 16 → m_Go D cI cL ad ((hW v0 a0 x0 fm fb fr fl fu fv)).length (m_Ml M_L_isSettled) A p l e (m_rm M_L_isSettled) s m args below meth c (m_VQ D cI cL ad ((hW v0 a0 x0 fm fb fr fl fu fv)).length A (.inl (some (.int (bi (calm v))), (hW v0 a0 x0 fm fb fr fl fu fv))) below args s (m_Mc M_L_isSettled) (m_Ms M_L_isSettled)) 4 [(2, .int (nI i)), (1, .int (sAp fm i)), (0, .ref 17)] [] (hW v0 a0 x0 fm fb fr fl fu fv) 0 0 := by
    intro k
    induction k with
    | zero =>
      intro i hi
      have hi16 : i = 16 := by omega
      subst hi16
      refine m_iload_n X dL_isSettled_4 rfl rfl ?_
      refine m_bipush (v := 16) X dL_isSettled_5 (by decide) rfl ?_
      refine m_icmp_ge (tgt := 39) X dL_isSettled_7 (by decide) rfl (fun _ => ?_) (fun b7 => absurd (show (16 : Int32) ≤ nI 16 by decide) b7)
      exact after
    | succ k ih =>
      intro i hi
      have hlt : i < 16 := by omega
      refine m_iload_n X dL_isSettled_4 rfl rfl ?_
      refine m_bipush (v := 16) X dL_isSettled_5 (by decide) rfl ?_
      refine m_icmp_ge (tgt := 39) X dL_isSettled_7 (by decide) rfl (fun b7 => absurd b7 (nI_ge (b := 16) hlt (by decide))) (fun b7 => ?_)
      refine m_aload_n X dL_isSettled_10 rfl rfl ?_
      refine m_iload_n X dL_isSettled_11 rfl rfl ?_
      refine m_iconst (v := 4) X dL_isSettled_12 (by decide) rfl ?_
      refine m_idiv X dL_isSettled_13 (by decide) rfl ?_
      refine m_top (x1 := nI (i / 4)) (nI_divI (n := i) (m := 4) (by omega) (by decide)) ?_
      refine m_ald (k := (i / 4)) (x := fm (i / 4)) X dL_isSettled_14 hW_g0 (vp_in_nI (by omega) (by decide)) (nI_clamp (by omega)) (rfl) rfl ?_
      refine m_aload_n X dL_isSettled_15 rfl rfl ?_
      refine m_iload_n X dL_isSettled_16 rfl rfl ?_
      refine m_iconst (v := 4) X dL_isSettled_17 (by decide) rfl ?_
      refine m_irem X dL_isSettled_18 (by decide) rfl ?_
      refine m_top (x1 := nI (i % 4)) (nI_modI (n := i) (m := 4) (by omega) (by decide) (by decide)) ?_
      refine m_ald (k := (i % 4)) (x := fm (i % 4)) X dL_isSettled_19 hW_g0 (vp_in_nI (by omega) (by decide)) (nI_clamp (by omega)) (rfl) rfl ?_
      refine m_isub X dL_isSettled_20 rfl ?_
      refine m_ist_n (l1 := [(3, .int ((fm (i / 4)) - (fm (i % 4)))), (2, .int (nI i)), (1, .int (sAp fm i)), (0, .ref 17)]) X dL_isSettled_21 (Nat.le_of_ble_eq_true rfl) rfl rfl ?_
      refine m_iload_n X dL_isSettled_22 rfl rfl ?_
      refine m_iload_n X dL_isSettled_23 rfl rfl ?_
      refine m_icmp_le (tgt := 31) X dL_isSettled_24 (by decide) rfl (fun b24 => ?_) (fun b24 => ?_)
      · replace b24 : fm (i / 4) - fm (i % 4) ≤ sAp fm i := b24
        refine m_iload_n X dL_isSettled_31 rfl rfl ?_
        have e9 : sAp fm i = sAp fm (i + 1) := by show _ = (if fm (i / 4) - fm (i % 4) ≤ sAp fm i then sAp fm i else fm (i / 4) - fm (i % 4)); rw [if_pos b24]
        refine m_top (x1 := sAp fm (i + 1)) e9 ?_
        refine m_ist_n (l1 := [(1, .int (sAp fm (i + 1))), (3, .int (fm (i / 4) - fm (i % 4))), (2, .int (nI i)), (0, .ref 17)]) X dL_isSettled_32 (Nat.le_of_ble_eq_true rfl) rfl rfl ?_
        refine m_inc (x1 := nI (i + 1)) (l1 := [(2, .int (nI (i + 1))), (1, .int (sAp fm (i + 1))), (3, .int (fm (i / 4) - fm (i % 4))), (0, .ref 17)]) X dL_isSettled_33 rfl (Nat.le_of_ble_eq_true rfl) (nI_succ i).symm rfl rfl ?_
        refine m_goto (tgt := 4) X dL_isSettled_36 (by decide) rfl ?_
        refine m_lp (l1 := [(2, .int (nI (i + 1))), (1, .int (sAp fm (i + 1))), (0, .ref 17)]) [0, 1, 3] rfl ?_
        exact ih (i + 1) (by omega)
      · replace b24 : ¬ fm (i / 4) - fm (i % 4) ≤ sAp fm i := b24
        refine m_iload_n X dL_isSettled_27 rfl rfl ?_
        refine m_goto (tgt := 32) X dL_isSettled_28 (by decide) rfl ?_
        have e9 : fm (i / 4) - fm (i % 4) = sAp fm (i + 1) := by show _ = (if fm (i / 4) - fm (i % 4) ≤ sAp fm i then sAp fm i else fm (i / 4) - fm (i % 4)); rw [if_neg b24]
        refine m_top (x1 := sAp fm (i + 1)) e9 ?_
        refine m_ist_n (l1 := [(1, .int (sAp fm (i + 1))), (3, .int (fm (i / 4) - fm (i % 4))), (2, .int (nI i)), (0, .ref 17)]) X dL_isSettled_32 (Nat.le_of_ble_eq_true rfl) rfl rfl ?_
        refine m_inc (x1 := nI (i + 1)) (l1 := [(2, .int (nI (i + 1))), (1, .int (sAp fm (i + 1))), (3, .int (fm (i / 4) - fm (i % 4))), (0, .ref 17)]) X dL_isSettled_33 rfl (Nat.le_of_ble_eq_true rfl) (nI_succ i).symm rfl rfl ?_
        refine m_goto (tgt := 4) X dL_isSettled_36 (by decide) rfl ?_
        refine m_lp (l1 := [(2, .int (nI (i + 1))), (1, .int (sAp fm (i + 1))), (0, .ref 17)]) [0, 1, 3] rfl ?_
        exact ih (i + 1) (by omega)
  refine m_iconst (v := 0) X dL_isSettled_0 (by decide) rfl ?_
  refine m_ist_n (l1 := [(1, .int 0), (0, .ref 17)]) X dL_isSettled_1 (Nat.le_of_ble_eq_true rfl) rfl rfl ?_
  refine m_iconst (v := 0) X dL_isSettled_2 (by decide) rfl ?_
  refine m_ist_n (l1 := [(2, .int (nI 0)), (1, .int (sAp fm 0)), (0, .ref 17)]) X dL_isSettled_3 (Nat.le_of_ble_eq_true rfl) rfl rfl ?_
  exact loop 16 0 (by omega)
theorem and_pos (x : Int32) : ¬ (x &&& 2147483647) < 0 := by
  have em : ∀ y : Int32, y.toBitVec.msb = decide (y.toInt < 0) := fun y => BitVec.msb_eq_toInt
  have hx := em (x &&& 2147483647)
  rw [Int32.toBitVec_and, BitVec.msb_and, show (2147483647 : Int32).toBitVec.msb = false from by decide, Bool.and_false] at hx
  have h9 := of_decide_eq_false hx.symm
  rw [i_lt]
  exact h9
/-- a number below bb -/
def pFrom (h : m_H) (bb : Nat) : Option Value → m_H → Prop := fun o h' => ∃ r : Nat, r < bb ∧ o = some (.int (nI r)) ∧ h' = h
theorem from_end (x : Int32) {bb : Nat} (h0 : 0 < bb) (hb : bb < 2 ^ 31) : ∃ r : Nat, r < bb ∧ (x &&& 2147483647) - (x &&& 2147483647) / nI bb * nI bb = nI r := by
  obtain ⟨j, hj, e⟩ := nI_of (and_pos x)
  exact ⟨j % bb, Nat.mod_lt _ h0, by rw [e]; exact nI_modI hj h0 hb⟩
theorem c_L_from {h : m_H} {k bb L : Nat} {xs : Nat → Int32} (hB9 : h.length ≤ m_BI) (hk : k < 2 ^ 31) (h0 : 0 < bb) (hb : bb < 2 ^ 31) (hL : L < 2 ^ 31) : m_CtrG M_L_from (m_Ws M_L_from) [.ref m_BI, .int (nI k), .int (nI bb)] h (m_Sc L xs) (pFrom h bb) := by
  refine m_introG (by decide +kernel) (Nat.le_of_ble_eq_true rfl) (fun {D cI cL sa A p l e s m args below meth c ad} X hE => ?_)
  refine m_lp (l1 := [(0, .ref m_BI), (1, .int (nI k)), (2, .int (nI bb))]) [0, 1, 2] rfl ?_
  refine m_aload_n X dL_from_0 rfl rfl ?_
  refine m_slen X hE.1 hE.2.1 hE.2.2 rfl dL_from_1 hB9 rfl ?_
  refine m_if_ne (tgt := 15) X dL_from_2 (by decide) rfl (fun b2 => ?_) (fun b2 => ?_)
  · have hL0 : 0 < L := by
      rcases Nat.eq_zero_or_pos L with q | q
      · exact absurd (by rw [q]; rfl) b2
      · exact q
    refine m_aload_n X dL_from_15 rfl rfl ?_
    refine m_iload_n X dL_from_16 rfl rfl ?_
    refine m_aload_n X dL_from_17 rfl rfl ?_
    refine m_slen X hE.1 hE.2.1 hE.2.2 rfl dL_from_18 hB9 rfl ?_
    refine m_irem X dL_from_19 (b2) rfl ?_
    refine m_top (x1 := nI (k % L)) (nI_modI hk hL0 hL) ?_
    refine m_sld X hE.1 hE.2.1 hE.2.2 rfl dL_from_20 (vp_in_nI (Nat.mod_lt _ hL0) hL) hB9 rfl ?_
    refine m_ldc X dL_from_21 cs_L_7 rfl ?_
    refine m_iload_n X dL_from_23 rfl rfl ?_
    refine m_imul X dL_from_24 rfl ?_
    refine m_ixor X dL_from_25 rfl ?_
    refine m_ist_n (l1 := [(3, .int ((xs (nI (k % L)).toNatClampNeg) ^^^ (107377 * (nI k)))), (0, .ref m_BI), (1, .int (nI k)), (2, .int (nI bb))]) X dL_from_26 (Nat.le_of_ble_eq_true rfl) rfl rfl ?_
    refine m_iload_n X dL_from_27 rfl rfl ?_
    refine m_ldc X dL_from_28 cs_L_8 rfl ?_
    refine m_iand X dL_from_30 rfl ?_
    refine m_iload_n X dL_from_31 rfl rfl ?_
    refine m_irem X dL_from_32 (nI_ne0 h0 hb) rfl ?_
    obtain ⟨r9, hr9, er9⟩ := from_end (((xs (nI (k % L)).toNatClampNeg) ^^^ (107377 * (nI k)))) h0 hb
    refine m_top (x1 := nI r9) er9 ?_
    refine m_toP (v := some (.int (nI r9))) (hf := h) ⟨r9, hr9, rfl, rfl⟩ ?_
    exact m_iret X dL_from_33 rfl rfl (Nat.le_of_ble_eq_true rfl) (Nat.le_of_ble_eq_true rfl) rfl
  · refine m_bipush (v := 89) X dL_from_5 (by decide) rfl ?_
    refine m_iload_n X dL_from_7 rfl rfl ?_
    refine m_imul X dL_from_8 rfl ?_
    refine m_bipush (v := 67) X dL_from_9 (by decide) rfl ?_
    refine m_iadd X dL_from_11 rfl ?_
    refine m_goto (tgt := 26) X dL_from_12 (by decide) rfl ?_
    refine m_ist_n (l1 := [(3, .int ((89 * (nI k)) + 67)), (0, .ref m_BI), (1, .int (nI k)), (2, .int (nI bb))]) X dL_from_26 (Nat.le_of_ble_eq_true rfl) rfl rfl ?_
    refine m_iload_n X dL_from_27 rfl rfl ?_
    refine m_ldc X dL_from_28 cs_L_8 rfl ?_
    refine m_iand X dL_from_30 rfl ?_
    refine m_iload_n X dL_from_31 rfl rfl ?_
    refine m_irem X dL_from_32 (nI_ne0 h0 hb) rfl ?_
    obtain ⟨r9, hr9, er9⟩ := from_end (((89 * (nI k)) + 67)) h0 hb
    refine m_top (x1 := nI r9) er9 ?_
    refine m_toP (v := some (.int (nI r9))) (hf := h) ⟨r9, hr9, rfl, rfl⟩ ?_
    exact m_iret X dL_from_33 rfl rfl (Nat.le_of_ble_eq_true rfl) (Nat.le_of_ble_eq_true rfl) rfl
end LA1

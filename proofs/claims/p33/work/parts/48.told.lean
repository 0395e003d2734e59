section LA5
theorem le_pred {k L : Nat} (h : k < L) (hL : L < 2 ^ 30) : 0 ≤ nI k ∧ nI k ≤ nI L - 1 := by
  obtain ⟨L', rfl⟩ : ∃ L', L = L' + 1 := ⟨L - 1, by omega⟩
  rw [nI_pred]
  exact ⟨nI_pos' (by omega), (nI_leI (by omega) (by omega)).mpr (by omega)⟩
theorem bin_ok {k : Nat} (h : k < 4) : 0 ≤ nI k ∧ nI k ≤ 3 := ⟨nI_pos' (by omega), (nI_leI (b := 3) (by omega) (by decide)).mpr (by omega)⟩
theorem gate_idle {v : m_V} {a : m_R} {b : Int32} (h : v 10 = 0) : sGate v a b = 0 := by
  unfold sGate
  by_cases q : ¬ sbin v a = b
  · rw [if_pos q]
  · rw [if_neg q, if_pos (show ¬ v 10 = 2 by rw [h]; decide), if_neg (show ¬ v 10 = 3 by rw [h]; decide), if_pos (show ¬ v 10 = 5 by rw [h]; decide)]
theorem nI_sub8 {B : Nat} (h : 8 ≤ B) : nI B - 8 = nI (B - 8) := by
  obtain ⟨C, rfl⟩ : ∃ C, B = C + 8 := ⟨B - 8, by omega⟩
  rw [← nI_add C 8, Nat.add_sub_cancel]
  show nI C + 8 - 8 = nI C
  grind
theorem c_L_isTold {v : m_V} {a : m_R} {x0 : Int64} {fm fb fr fl fu fv : Nat → Int32} {n B L : Nat} (hn : n < 2 ^ 30) (h : J n L B v a) (hM : PM n v fm) (hA : PA B a fb fr fl fu fv) : m_Ctr M_L_isTold [.ref 0, .ref 17, .ref 18, .ref 19, .ref 20, .ref 21, .ref 22, .int (nI L)] (hW v a x0 fm fb fr fl fu fv) (.inl (some (.int 1), (hW v a x0 fm fb fr fl fu fv))) := by
  obtain ⟨hPB, hR, hPL, hPU⟩ := hA
  obtain ⟨hI, hX, hG, hL8, hJ⟩ := h
  have h0 := hI.1
  obtain ⟨st, bn, hst, hbn, e15, ebn, es, eg, et, ec, esc⟩ := b_st h0
  have e8 : v 8 = nI L := h0.2.2.2.2.2.1
  have e20 : v 20 = nI B := h0.2.2.2.2.2.2.1
  have hB20 : B ≤ 20 := h0.2.2.2.2.1
  have hF9 : ∀ i, i < L → sFst a i B := fun i hi => (h0.2.2.2.2.2.2.2.1.1 i hi).2.2.2
  refine m_intro (by decide +kernel) (Nat.le_of_ble_eq_true rfl) (fun {D cI cL sa A p l e s m args below meth c ad} X => ?_)
  refine m_lp (l1 := [(0, .ref 0), (1, .ref 17), (2, .ref 18), (3, .ref 19), (4, .ref 20), (5, .ref 21), (6, .ref 22), (7, .int (nI L))]) [0, 1, 2, 3, 4, 5, 6, 7] rfl ?_
  have bins_end : ∀ k9 k, k + k9 = L → m_Go D cI cL ad ((hW v a x0 fm fb fr fl fu fv)).length (m_Ml M_L_isTold) A p l e (m_rm M_L_isTold) s m args below meth c (m_VQ D cI cL ad ((hW v a x0 fm fb fr fl fu fv)).length A (.inl (some (.int 1), (hW v a x0 fm fb fr fl fu fv))) below args s (m_Mc M_L_isTold) (m_Ms M_L_isTold)) 355 [(9, .int (nI k)), (8, .int 1), (0, .ref 0), (1, .ref 17), (2, .ref 18), (3, .ref 19), (4, .ref 20), (5, .ref 21), (6, .ref 22), (7, .int (nI L))] [] (hW v a x0 fm fb fr fl fu fv) 0 0 := by
    intro k9
    induction k9 with
    | zero =>
      intro k hk
      have hkL : k = L := by omega
      subst hkL
      refine m_iload X dL_isTold_355 rfl rfl ?_
      refine m_iload X dL_isTold_357 rfl rfl ?_
      refine m_icmp_ge (tgt := 492) X dL_isTold_359 (by decide) rfl (fun _ => ?_) (fun b359 => absurd (Int32.le_refl _) b359)
      refine m_iload X dL_isTold_492 rfl rfl ?_
      exact m_zret X dL_isTold_494 rfl (by decide) rfl (Nat.le_of_ble_eq_true rfl) (Nat.le_of_ble_eq_true rfl) rfl
    | succ k9 ih =>
      intro k hk
      have hlt : k < L := by omega
      have le_pred8 : 0 ≤ nI k ∧ nI k ≤ v 8 - 1 := by rw [e8]; exact le_pred hlt (by omega)
      have k486 : ∀ j, m_Go D cI cL ad ((hW v a x0 fm fb fr fl fu fv)).length (m_Ml M_L_isTold) A p l e (m_rm M_L_isTold) s m args below meth c (m_VQ D cI cL ad ((hW v a x0 fm fb fr fl fu fv)).length A (.inl (some (.int 1), (hW v a x0 fm fb fr fl fu fv))) below args s (m_Mc M_L_isTold) (m_Ms M_L_isTold)) 486 [(10, .int (nI j)), (9, .int (nI k)), (8, .int 1), (0, .ref 0), (1, .ref 17), (2, .ref 18), (3, .ref 19), (4, .ref 20), (5, .ref 21), (6, .ref 22), (7, .int (nI L))] [] (hW v a x0 fm fb fr fl fu fv) 0 0 := by
        intro j
        refine m_inc (x1 := nI (k + 1)) (l1 := [(9, .int (nI (k + 1))), (10, .int (nI j)), (8, .int 1), (0, .ref 0), (1, .ref 17), (2, .ref 18), (3, .ref 19), (4, .ref 20), (5, .ref 21), (6, .ref 22), (7, .int (nI L))]) X dL_isTold_486 rfl (Nat.le_of_ble_eq_true rfl) ((nI_succ k).symm) rfl rfl ?_
        refine m_goto (tgt := 355) X dL_isTold_489 (by decide) rfl ?_
        refine m_lp (l1 := [(9, .int (nI (k + 1))), (8, .int 1), (0, .ref 0), (1, .ref 17), (2, .ref 18), (3, .ref 19), (4, .ref 20), (5, .ref 21), (6, .ref 22), (7, .int (nI L))]) [0, 2, 3, 4, 5, 6, 7, 8, 9, 10] rfl ?_
        exact ih (k + 1) (by omega)
      have uses : B ≤ 8 → ∀ k7 j, j + k7 = B → m_Go D cI cL ad ((hW v a x0 fm fb fr fl fu fv)).length (m_Ml M_L_isTold) A p l e (m_rm M_L_isTold) s m args below meth c (m_VQ D cI cL ad ((hW v a x0 fm fb fr fl fu fv)).length A (.inl (some (.int 1), (hW v a x0 fm fb fr fl fu fv))) below args s (m_Mc M_L_isTold) (m_Ms M_L_isTold)) 428 [(10, .int (nI j)), (9, .int (nI k)), (8, .int 1), (0, .ref 0), (1, .ref 17), (2, .ref 18), (3, .ref 19), (4, .ref 20), (5, .ref 21), (6, .ref 22), (7, .int (nI L))] [] (hW v a x0 fm fb fr fl fu fv) 0 0 := by
        intro hB8 k7
        induction k7 with
        | zero =>
          intro j hj
          have hjB : j = B := by omega
          subst hjB
          refine m_iload X dL_isTold_428 rfl rfl ?_
          refine m_aload_n X dL_isTold_430 rfl rfl ?_
          refine m_bipush (v := 19) X dL_isTold_431 (by decide) rfl ?_
          refine m_ald (k := 19) (x := nI j) X dL_isTold_433 hW_g0 (vp_in_nI (n := 19) (by decide) (by decide)) rfl ((pm19 hM).trans e20) rfl ?_
          refine m_icmp_ge (tgt := 486) X dL_isTold_434 (by decide) rfl (fun _ => ?_) (fun b434 => absurd (Int32.le_refl _) b434)
          exact k486 _
        | succ k7 ihj =>
          intro j hjj
          have hj : j < B := by omega
          refine m_iload X dL_isTold_428 rfl rfl ?_
          refine m_aload_n X dL_isTold_430 rfl rfl ?_
          refine m_bipush (v := 19) X dL_isTold_431 (by decide) rfl ?_
          refine m_ald (k := 19) (x := nI B) X dL_isTold_433 hW_g0 (vp_in_nI (n := 19) (by decide) (by decide)) (rfl) ((pm19 hM).trans e20) rfl ?_
          refine m_icmp_ge (tgt := 486) X dL_isTold_434 (by decide) rfl (fun b434 => absurd b434 (nI_ge hj (by omega))) (fun b434 => ?_)
          refine m_iload X dL_isTold_437 rfl rfl ?_
          refine m_if_eq (tgt := 486) X dL_isTold_439 (by decide) rfl (fun b439 => absurd b439 (by decide)) (fun b439 => ?_)
          refine m_aload_n X dL_isTold_442 rfl rfl ?_
          refine m_bipush (v := 19) X dL_isTold_443 (by decide) rfl ?_
          refine m_ald (k := 19) (x := nI B) X dL_isTold_445 hW_g0 (vp_in_nI (n := 19) (by decide) (by decide)) (rfl) ((pm19 hM).trans e20) rfl ?_
          refine m_bipush (v := 8) X dL_isTold_446 (by decide) rfl ?_
          refine m_icmp_gt (tgt := 486) X dL_isTold_448 (by decide) rfl (fun b448 => absurd b448 (nI_nlt hB8 (by decide))) (fun b448 => ?_)
          refine m_aload_n X dL_isTold_451 rfl rfl ?_
          refine m_iload X dL_isTold_452 rfl rfl ?_
          refine m_iload X dL_isTold_454 rfl rfl ?_
          refine m_cV2 X dL_isTold_456 lk_L_91 mk_X5_used in_X5_used se_X5_used rfl rfl (c_X5_used (le_pred8) (by rw [e20]; exact le_pred hj (by omega)) (by omega) (by omega)) rfl (Nat.le_of_ble_eq_true rfl) (Nat.le_of_ble_eq_true rfl) (Nat.le_of_ble_eq_true rfl) (Nat.le_of_ble_eq_true rfl) (Nat.le_of_ble_eq_true rfl) rfl ?_
          refine m_aload X dL_isTold_459 rfl rfl ?_
          refine m_bipush (v := 8) X dL_isTold_461 (by decide) rfl ?_
          refine m_iload X dL_isTold_463 rfl rfl ?_
          refine m_imul X dL_isTold_465 rfl ?_
          refine m_top (x1 := nI (8 * k)) (nI_mul 8 k) ?_
          refine m_iload X dL_isTold_466 rfl rfl ?_
          refine m_iadd X dL_isTold_468 rfl ?_
          refine m_top (x1 := nI (8 * k + j)) (nI_add (8 * k) j) ?_
          refine m_ald (k := (8 * k + j)) (x := a 7 (k * 20 + j)) X dL_isTold_469 hW_g5 (vp_in_nI (by omega) (by decide)) (nI_clamp (by omega)) (hPU hB8 k (by omega) j (by omega)) rfl ?_
          refine m_icmp_ne (tgt := 477) X dL_isTold_470 (by decide) rfl (fun b470 => absurd b470 (not_not_intro rfl)) (fun b470 => ?_)
          refine m_iconst (v := 1) X dL_isTold_473 (by decide) rfl ?_
          refine m_goto (tgt := 478) X dL_isTold_474 (by decide) rfl ?_
          refine m_ist (l1 := [(8, .int 1), (10, .int (nI j)), (9, .int (nI k)), (0, .ref 0), (1, .ref 17), (2, .ref 18), (3, .ref 19), (4, .ref 20), (5, .ref 21), (6, .ref 22), (7, .int (nI L))]) X dL_isTold_478 (Nat.le_of_ble_eq_true rfl) rfl rfl ?_
          refine m_inc (x1 := nI (j + 1)) (l1 := [(10, .int (nI (j + 1))), (8, .int 1), (9, .int (nI k)), (0, .ref 0), (1, .ref 17), (2, .ref 18), (3, .ref 19), (4, .ref 20), (5, .ref 21), (6, .ref 22), (7, .int (nI L))]) X dL_isTold_480 rfl (Nat.le_of_ble_eq_true rfl) ((nI_succ j).symm) rfl rfl ?_
          refine m_goto (tgt := 428) X dL_isTold_483 (by decide) rfl ?_
          refine m_lp (l1 := [(10, .int (nI (j + 1))), (9, .int (nI k)), (8, .int 1), (0, .ref 0), (1, .ref 17), (2, .ref 18), (3, .ref 19), (4, .ref 20), (5, .ref 21), (6, .ref 22), (7, .int (nI L))]) [0, 2, 1, 3, 4, 5, 6, 7, 8, 9, 10] rfl ?_
          exact ihj (j + 1) (by omega)
      refine m_iload X dL_isTold_355 rfl rfl ?_
      refine m_iload X dL_isTold_357 rfl rfl ?_
      refine m_icmp_ge (tgt := 492) X dL_isTold_359 (by decide) rfl (fun b359 => absurd b359 (nI_ge hlt (by omega))) (fun b359 => ?_)
      refine m_iload X dL_isTold_362 rfl rfl ?_
      refine m_if_eq (tgt := 492) X dL_isTold_364 (by decide) rfl (fun b364 => absurd b364 (by decide)) (fun b364 => ?_)
      refine m_aload_n X dL_isTold_367 rfl rfl ?_
      refine m_iload X dL_isTold_368 rfl rfl ?_
      refine m_cV1 X dL_isTold_370 lk_L_85 mk_X5_leftOf in_X5_leftOf se_X5_leftOf rfl rfl (c_X5_leftOf (le_pred8) (vp_in_nI (by omega) (by decide))) rfl (Nat.le_of_ble_eq_true rfl) (Nat.le_of_ble_eq_true rfl) (Nat.le_of_ble_eq_true rfl) (Nat.le_of_ble_eq_true rfl) (Nat.le_of_ble_eq_true rfl) rfl ?_
      refine m_top (x1 := a 6 k) (by rw [nI_clamp (by omega)]) ?_
      refine m_aload X dL_isTold_373 rfl rfl ?_
      refine m_iconst (v := 3) X dL_isTold_375 (by decide) rfl ?_
      refine m_iload X dL_isTold_376 rfl rfl ?_
      refine m_imul X dL_isTold_378 rfl ?_
      refine m_top (x1 := nI (3 * k)) (nI_mul 3 k) ?_
      refine m_iconst (v := 2) X dL_isTold_379 (by decide) rfl ?_
      refine m_iadd X dL_isTold_380 rfl ?_
      refine m_top (x1 := nI (3 * k + 2)) (nI_add (3 * k) 2) ?_
      refine m_ald (k := (3 * k + 2)) (x := a 6 k) X dL_isTold_381 hW_g3 (vp_in_nI (by omega) (by decide)) (nI_clamp (by omega)) ((hPL k (by omega)).2.1) rfl ?_
      refine m_icmp_ne (tgt := 403) X dL_isTold_382 (by decide) rfl (fun b382 => absurd b382 (not_not_intro rfl)) (fun b382 => ?_)
      refine m_aload_n X dL_isTold_385 rfl rfl ?_
      refine m_iload X dL_isTold_386 rfl rfl ?_
      refine m_cV1 X dL_isTold_388 lk_L_88 mk_X5_firstBatch in_X5_firstBatch se_X5_firstBatch rfl rfl (c_X5_firstBatch (le_pred8) (by omega) hB20 e20 (hF9 k hlt)) rfl (Nat.le_of_ble_eq_true rfl) (Nat.le_of_ble_eq_true rfl) (Nat.le_of_ble_eq_true rfl) (Nat.le_of_ble_eq_true rfl) (Nat.le_of_ble_eq_true rfl) rfl ?_
      refine m_aload X dL_isTold_391 rfl rfl ?_
      refine m_iload X dL_isTold_393 rfl rfl ?_
      refine m_ald (k := k) (x := a 12 k) X dL_isTold_395 hW_g4 (vp_in_nI (by omega) (by decide)) (nI_clamp (by omega)) ((hPL k (by omega)).2.2) rfl ?_
      refine m_icmp_ne (tgt := 403) X dL_isTold_396 (by decide) rfl (fun b396 => absurd b396 (not_not_intro rfl)) (fun b396 => ?_)
      refine m_iconst (v := 1) X dL_isTold_399 (by decide) rfl ?_
      refine m_goto (tgt := 404) X dL_isTold_400 (by decide) rfl ?_
      refine m_ist (l1 := [(8, .int 1), (9, .int (nI k)), (0, .ref 0), (1, .ref 17), (2, .ref 18), (3, .ref 19), (4, .ref 20), (5, .ref 21), (6, .ref 22), (7, .int (nI L))]) X dL_isTold_404 (Nat.le_of_ble_eq_true rfl) rfl rfl ?_
      refine m_aload_n X dL_isTold_406 rfl rfl ?_
      refine m_bipush (v := 19) X dL_isTold_407 (by decide) rfl ?_
      refine m_ald (k := 19) (x := nI B) X dL_isTold_409 hW_g0 (vp_in_nI (n := 19) (by decide) (by decide)) (rfl) ((pm19 hM).trans e20) rfl ?_
      refine m_bipush (v := 8) X dL_isTold_410 (by decide) rfl ?_
      refine m_icmp_le (tgt := 425) X dL_isTold_412 (by decide) rfl (fun b412 => ?_) (fun b412 => ?_)
      · replace b412 : nI B ≤ 8 := b412
        refine m_iconst (v := 0) X dL_isTold_425 (by decide) rfl ?_
        have hB8 : B ≤ 8 := (nI_leI (b := 8) (by omega) (by decide)).mp b412
        refine m_ist (l1 := [(10, .int (nI 0)), (8, .int 1), (9, .int (nI k)), (0, .ref 0), (1, .ref 17), (2, .ref 18), (3, .ref 19), (4, .ref 20), (5, .ref 21), (6, .ref 22), (7, .int (nI L))]) X dL_isTold_426 (Nat.le_of_ble_eq_true rfl) rfl rfl ?_
        refine m_lp (l1 := [(10, .int (nI 0)), (9, .int (nI k)), (8, .int 1), (0, .ref 0), (1, .ref 17), (2, .ref 18), (3, .ref 19), (4, .ref 20), (5, .ref 21), (6, .ref 22), (7, .int (nI L))]) [0, 2, 1, 3, 4, 5, 6, 7, 8, 9, 10] rfl ?_
        exact uses hB8 B 0 (by omega)
      · replace b412 : ¬ nI B ≤ 8 := b412
        refine m_aload_n X dL_isTold_415 rfl rfl ?_
        refine m_bipush (v := 19) X dL_isTold_416 (by decide) rfl ?_
        refine m_ald (k := 19) (x := nI B) X dL_isTold_418 hW_g0 (vp_in_nI (n := 19) (by decide) (by decide)) (rfl) ((pm19 hM).trans e20) rfl ?_
        refine m_bipush (v := 8) X dL_isTold_419 (by decide) rfl ?_
        refine m_isub X dL_isTold_421 rfl ?_
        refine m_goto (tgt := 426) X dL_isTold_422 (by decide) rfl ?_
        have hB8 : ¬ B ≤ 8 := fun q => b412 ((nI_leI (b := 8) (by omega) (by decide)).mpr q)
        refine m_top (x1 := nI (B - 8)) (nI_sub8 (by omega)) ?_
        refine m_ist (l1 := [(10, .int (nI (B - 8))), (8, .int 1), (9, .int (nI k)), (0, .ref 0), (1, .ref 17), (2, .ref 18), (3, .ref 19), (4, .ref 20), (5, .ref 21), (6, .ref 22), (7, .int (nI L))]) X dL_isTold_426 (Nat.le_of_ble_eq_true rfl) rfl rfl ?_
        refine m_lp (l1 := [(10, .int (nI (B - 8))), (9, .int (nI k)), (8, .int 1), (0, .ref 0), (1, .ref 17), (2, .ref 18), (3, .ref 19), (4, .ref 20), (5, .ref 21), (6, .ref 22), (7, .int (nI L))]) [0, 2, 1, 3, 4, 5, 6, 7, 8, 9, 10] rfl ?_
        refine m_iload X dL_isTold_428 rfl rfl ?_
        refine m_aload_n X dL_isTold_430 rfl rfl ?_
        refine m_bipush (v := 19) X dL_isTold_431 (by decide) rfl ?_
        refine m_ald (k := 19) (x := nI B) X dL_isTold_433 hW_g0 (vp_in_nI (n := 19) (by decide) (by decide)) (rfl) ((pm19 hM).trans e20) rfl ?_
        refine m_icmp_ge (tgt := 486) X dL_isTold_434 (by decide) rfl (fun b434 => absurd b434 (nI_ge (show B - 8 < B by omega) (by omega))) (fun b434 => ?_)
        refine m_iload X dL_isTold_437 rfl rfl ?_
        refine m_if_eq (tgt := 486) X dL_isTold_439 (by decide) rfl (fun b439 => absurd b439 (by decide)) (fun b439 => ?_)
        refine m_aload_n X dL_isTold_442 rfl rfl ?_
        refine m_bipush (v := 19) X dL_isTold_443 (by decide) rfl ?_
        refine m_ald (k := 19) (x := nI B) X dL_isTold_445 hW_g0 (vp_in_nI (n := 19) (by decide) (by decide)) (rfl) ((pm19 hM).trans e20) rfl ?_
        refine m_bipush (v := 8) X dL_isTold_446 (by decide) rfl ?_
        refine m_icmp_gt (tgt := 486) X dL_isTold_448 (by decide) rfl (fun b448 => ?_) (fun b448 => absurd b448 (not_not_intro (nI_lt (a := 8) (show 8 < B by omega) (by omega))))
        exact k486 _
  have bins : ∀ k9 k, k + k9 = 4 → m_Go D cI cL ad ((hW v a x0 fm fb fr fl fu fv)).length (m_Ml M_L_isTold) A p l e (m_rm M_L_isTold) s m args below meth c (m_VQ D cI cL ad ((hW v a x0 fm fb fr fl fu fv)).length A (.inl (some (.int 1), (hW v a x0 fm fb fr fl fu fv))) below args s (m_Mc M_L_isTold) (m_Ms M_L_isTold)) 147 [(9, .int (nI k)), (8, .int 1), (0, .ref 0), (1, .ref 17), (2, .ref 18), (3, .ref 19), (4, .ref 20), (5, .ref 21), (6, .ref 22), (7, .int (nI L))] [] (hW v a x0 fm fb fr fl fu fv) 0 0 := by
    intro k9
    induction k9 with
    | zero =>
      intro k hk
      have hk4 : k = 4 := by omega
      subst hk4
      refine m_iload X dL_isTold_147 rfl rfl ?_
      refine m_iconst (v := 4) X dL_isTold_149 (by decide) rfl ?_
      refine m_icmp_ge (tgt := 352) X dL_isTold_150 (by decide) rfl (fun _ => ?_) (fun b150 => absurd (show (4 : Int32) ≤ nI 4 by decide) b150)
      refine m_iconst (v := 0) X dL_isTold_352 (by decide) rfl ?_
      refine m_ist (l1 := [(9, .int (nI 0)), (8, .int 1), (0, .ref 0), (1, .ref 17), (2, .ref 18), (3, .ref 19), (4, .ref 20), (5, .ref 21), (6, .ref 22), (7, .int (nI L))]) X dL_isTold_353 (Nat.le_of_ble_eq_true rfl) rfl rfl ?_
      exact bins_end L 0 (by omega)
    | succ k9 ih =>
      intro k hk
      have hlt : k < 4 := by omega
      have ein : (nI k).toNatClampNeg = k := nI_clamp (by omega)
      have k266 : m_Go D cI cL ad ((hW v a x0 fm fb fr fl fu fv)).length (m_Ml M_L_isTold) A p l e (m_rm M_L_isTold) s m args below meth c (m_VQ D cI cL ad ((hW v a x0 fm fb fr fl fu fv)).length A (.inl (some (.int 1), (hW v a x0 fm fb fr fl fu fv))) below args s (m_Mc M_L_isTold) (m_Ms M_L_isTold)) 266 [(12, .int (nI L)), (11, .int (sStock (nI k) a L)), (10, .int (sGate v a (nI k))), (9, .int (nI k)), (8, .int 1), (0, .ref 0), (1, .ref 17), (2, .ref 18), (3, .ref 19), (4, .ref 20), (5, .ref 21), (6, .ref 22), (7, .int (nI L))] [] (hW v a x0 fm fb fr fl fu fv) 0 0 := by
        refine m_aload_n X dL_isTold_266 rfl rfl ?_
        refine m_iload X dL_isTold_267 rfl rfl ?_
        refine m_cV1 X dL_isTold_269 lk_L_69 mk_X5_gate in_X5_gate se_X5_gate rfl rfl (c_X5_gate (bin_ok hlt) hI.1.1.1) rfl (Nat.le_of_ble_eq_true rfl) (Nat.le_of_ble_eq_true rfl) (Nat.le_of_ble_eq_true rfl) (Nat.le_of_ble_eq_true rfl) (Nat.le_of_ble_eq_true rfl) rfl ?_
        refine m_iload X dL_isTold_272 rfl rfl ?_
        refine m_icmp_ne (tgt := 343) X dL_isTold_274 (by decide) rfl (fun b274 => absurd b274 (not_not_intro rfl)) (fun b274 => ?_)
        refine m_aload_n X dL_isTold_277 rfl rfl ?_
        refine m_iload X dL_isTold_278 rfl rfl ?_
        refine m_cV1 X dL_isTold_280 lk_L_73 mk_X5_flight in_X5_flight se_X5_flight rfl rfl (c_X5_flight (bin_ok hlt)) rfl (Nat.le_of_ble_eq_true rfl) (Nat.le_of_ble_eq_true rfl) (Nat.le_of_ble_eq_true rfl) (Nat.le_of_ble_eq_true rfl) (Nat.le_of_ble_eq_true rfl) rfl ?_
        refine m_top (x1 := a 1 k) (by rw [ein]) ?_
        refine m_aload_n X dL_isTold_283 rfl rfl ?_
        refine m_iconst (v := 4) X dL_isTold_284 (by decide) rfl ?_
        refine m_iload X dL_isTold_285 rfl rfl ?_
        refine m_imul X dL_isTold_287 rfl ?_
        refine m_top (x1 := nI (4 * k)) (nI_mul 4 k) ?_
        refine m_iconst (v := 1) X dL_isTold_288 (by decide) rfl ?_
        refine m_iadd X dL_isTold_289 rfl ?_
        refine m_top (x1 := nI (4 * k + 1)) (nI_add (4 * k) 1) ?_
        refine m_ald (k := (4 * k + 1)) (x := a 1 k) X dL_isTold_290 hW_g1 (vp_in_nI (by omega) (by decide)) (nI_clamp (by omega)) ((hPB k hlt).2.1) rfl ?_
        refine m_icmp_ne (tgt := 343) X dL_isTold_291 (by decide) rfl (fun b291 => absurd b291 (not_not_intro rfl)) (fun b291 => ?_)
        refine m_aload_n X dL_isTold_294 rfl rfl ?_
        refine m_iload X dL_isTold_295 rfl rfl ?_
        refine m_cV1 X dL_isTold_297 lk_L_76 mk_X5_register in_X5_register se_X5_register rfl rfl (c_X5_register (bin_ok hlt)) rfl (Nat.le_of_ble_eq_true rfl) (Nat.le_of_ble_eq_true rfl) (Nat.le_of_ble_eq_true rfl) (Nat.le_of_ble_eq_true rfl) (Nat.le_of_ble_eq_true rfl) rfl ?_
        refine m_top (x1 := a 2 k) (by rw [ein]) ?_
        refine m_aload_n X dL_isTold_300 rfl rfl ?_
        refine m_iconst (v := 4) X dL_isTold_301 (by decide) rfl ?_
        refine m_iload X dL_isTold_302 rfl rfl ?_
        refine m_imul X dL_isTold_304 rfl ?_
        refine m_top (x1 := nI (4 * k)) (nI_mul 4 k) ?_
        refine m_iconst (v := 2) X dL_isTold_305 (by decide) rfl ?_
        refine m_iadd X dL_isTold_306 rfl ?_
        refine m_top (x1 := nI (4 * k + 2)) (nI_add (4 * k) 2) ?_
        refine m_ald (k := (4 * k + 2)) (x := a 2 k) X dL_isTold_307 hW_g1 (vp_in_nI (by omega) (by decide)) (nI_clamp (by omega)) ((hPB k hlt).2.2.1) rfl ?_
        refine m_icmp_ne (tgt := 343) X dL_isTold_308 (by decide) rfl (fun b308 => absurd b308 (not_not_intro rfl)) (fun b308 => ?_)
        refine m_aload_n X dL_isTold_311 rfl rfl ?_
        refine m_iload X dL_isTold_312 rfl rfl ?_
        refine m_cV1 X dL_isTold_314 lk_L_79 mk_X5_registerByLots in_X5_registerByLots se_X5_registerByLots rfl rfl (c_X5_registerByLots (bin_ok hlt) ⟨L, by omega, e8⟩) rfl (Nat.le_of_ble_eq_true rfl) (Nat.le_of_ble_eq_true rfl) (Nat.le_of_ble_eq_true rfl) (Nat.le_of_ble_eq_true rfl) (Nat.le_of_ble_eq_true rfl) rfl ?_
        refine m_top (x1 := a 2 k) (by rw [ein, e8, nI_clamp (by omega)]; exact (hG k hlt).symm) ?_
        refine m_aload_n X dL_isTold_317 rfl rfl ?_
        refine m_iconst (v := 4) X dL_isTold_318 (by decide) rfl ?_
        refine m_iload X dL_isTold_319 rfl rfl ?_
        refine m_imul X dL_isTold_321 rfl ?_
        refine m_top (x1 := nI (4 * k)) (nI_mul 4 k) ?_
        refine m_iconst (v := 2) X dL_isTold_322 (by decide) rfl ?_
        refine m_iadd X dL_isTold_323 rfl ?_
        refine m_top (x1 := nI (4 * k + 2)) (nI_add (4 * k) 2) ?_
        refine m_ald (k := (4 * k + 2)) (x := a 2 k) X dL_isTold_324 hW_g1 (vp_in_nI (by omega) (by decide)) (nI_clamp (by omega)) ((hPB k hlt).2.2.1) rfl ?_
        refine m_icmp_ne (tgt := 343) X dL_isTold_325 (by decide) rfl (fun b325 => absurd b325 (not_not_intro rfl)) (fun b325 => ?_)
        refine m_aload_n X dL_isTold_328 rfl rfl ?_
        refine m_iload X dL_isTold_329 rfl rfl ?_
        refine m_cV1 X dL_isTold_331 lk_L_82 mk_X5_stock in_X5_stock se_X5_stock rfl rfl (c_X5_stock (bin_ok hlt) ⟨L, by omega, e8⟩) rfl (Nat.le_of_ble_eq_true rfl) (Nat.le_of_ble_eq_true rfl) (Nat.le_of_ble_eq_true rfl) (Nat.le_of_ble_eq_true rfl) (Nat.le_of_ble_eq_true rfl) rfl ?_
        refine m_top (x1 := sStock (nI k) a L) (by rw [e8, nI_clamp (by omega)]) ?_
        refine m_iload X dL_isTold_334 rfl rfl ?_
        refine m_icmp_ne (tgt := 343) X dL_isTold_336 (by decide) rfl (fun b336 => absurd b336 (not_not_intro rfl)) (fun b336 => ?_)
        refine m_iconst (v := 1) X dL_isTold_339 (by decide) rfl ?_
        refine m_goto (tgt := 344) X dL_isTold_340 (by decide) rfl ?_
        refine m_ist (l1 := [(8, .int 1), (12, .int (nI L)), (11, .int (sStock (nI k) a L)), (10, .int (sGate v a (nI k))), (9, .int (nI k)), (0, .ref 0), (1, .ref 17), (2, .ref 18), (3, .ref 19), (4, .ref 20), (5, .ref 21), (6, .ref 22), (7, .int (nI L))]) X dL_isTold_344 (Nat.le_of_ble_eq_true rfl) rfl rfl ?_
        refine m_inc (x1 := nI (k + 1)) (l1 := [(9, .int (nI (k + 1))), (8, .int 1), (12, .int (nI L)), (11, .int (sStock (nI k) a L)), (10, .int (sGate v a (nI k))), (0, .ref 0), (1, .ref 17), (2, .ref 18), (3, .ref 19), (4, .ref 20), (5, .ref 21), (6, .ref 22), (7, .int (nI L))]) X dL_isTold_346 rfl (Nat.le_of_ble_eq_true rfl) ((nI_succ k).symm) rfl rfl ?_
        refine m_goto (tgt := 147) X dL_isTold_349 (by decide) rfl ?_
        refine m_lp (l1 := [(9, .int (nI (k + 1))), (8, .int 1), (0, .ref 0), (1, .ref 17), (2, .ref 18), (3, .ref 19), (4, .ref 20), (5, .ref 21), (6, .ref 22), (7, .int (nI L))]) [0, 1, 5, 6, 7, 8, 9, 10, 11, 12] rfl ?_
        exact ih (k + 1) (by omega)
      have lots : ∀ k7 j, j + k7 = L → m_Go D cI cL ad ((hW v a x0 fm fb fr fl fu fv)).length (m_Ml M_L_isTold) A p l e (m_rm M_L_isTold) s m args below meth c (m_VQ D cI cL ad ((hW v a x0 fm fb fr fl fu fv)).length A (.inl (some (.int 1), (hW v a x0 fm fb fr fl fu fv))) below args s (m_Mc M_L_isTold) (m_Ms M_L_isTold)) 223 [(12, .int (nI j)), (11, .int (sStock (nI k) a j)), (10, .int (sGate v a (nI k))), (9, .int (nI k)), (8, .int 1), (0, .ref 0), (1, .ref 17), (2, .ref 18), (3, .ref 19), (4, .ref 20), (5, .ref 21), (6, .ref 22), (7, .int (nI L))] [] (hW v a x0 fm fb fr fl fu fv) 0 0 := by
        intro k7
        induction k7 with
        | zero =>
          intro j hj
          have hjL : j = L := by omega
          subst hjL
          refine m_iload X dL_isTold_223 rfl rfl ?_
          refine m_iload X dL_isTold_225 rfl rfl ?_
          refine m_icmp_ge (tgt := 266) X dL_isTold_227 (by decide) rfl (fun _ => ?_) (fun b227 => absurd (Int32.le_refl _) b227)
          exact k266
        | succ k7 ihj =>
          intro j hjj
          have hj : j < L := by omega
          refine m_iload X dL_isTold_223 rfl rfl ?_
          refine m_iload X dL_isTold_225 rfl rfl ?_
          refine m_icmp_ge (tgt := 266) X dL_isTold_227 (by decide) rfl (fun b227 => absurd b227 (nI_ge hj (by omega))) (fun b227 => ?_)
          refine m_iload X dL_isTold_230 rfl rfl ?_
          refine m_aload X dL_isTold_232 rfl rfl ?_
          refine m_iconst (v := 3) X dL_isTold_234 (by decide) rfl ?_
          refine m_iload X dL_isTold_235 rfl rfl ?_
          refine m_imul X dL_isTold_237 rfl ?_
          refine m_top (x1 := nI (3 * j)) (nI_mul 3 j) ?_
          refine m_ald (k := (3 * j)) (x := a 4 j) X dL_isTold_238 hW_g3 (vp_in_nI (by omega) (by decide)) (nI_clamp (by omega)) ((hPL j (by omega)).1) rfl ?_
          refine m_iload X dL_isTold_239 rfl rfl ?_
          refine m_icmp_ne (tgt := 256) X dL_isTold_241 (by decide) rfl (fun b241 => ?_) (fun b241 => ?_)
          · replace b241 : ¬ a 4 j = nI k := b241
            refine m_iconst (v := 0) X dL_isTold_256 (by decide) rfl ?_
            refine m_iadd X dL_isTold_257 rfl ?_
            refine m_top (x1 := sStock (nI k) a (j + 1)) (by show _ = sStock (nI k) a j + (if ¬ a 4 j = nI k then 0 else a 6 j); rw [if_pos b241]) ?_
            refine m_ist (l1 := [(11, .int (sStock (nI k) a (j + 1))), (12, .int (nI j)), (10, .int (sGate v a (nI k))), (9, .int (nI k)), (8, .int 1), (0, .ref 0), (1, .ref 17), (2, .ref 18), (3, .ref 19), (4, .ref 20), (5, .ref 21), (6, .ref 22), (7, .int (nI L))]) X dL_isTold_258 (Nat.le_of_ble_eq_true rfl) rfl rfl ?_
            refine m_inc (x1 := nI (j + 1)) (l1 := [(12, .int (nI (j + 1))), (11, .int (sStock (nI k) a (j + 1))), (10, .int (sGate v a (nI k))), (9, .int (nI k)), (8, .int 1), (0, .ref 0), (1, .ref 17), (2, .ref 18), (3, .ref 19), (4, .ref 20), (5, .ref 21), (6, .ref 22), (7, .int (nI L))]) X dL_isTold_260 rfl (Nat.le_of_ble_eq_true rfl) ((nI_succ j).symm) rfl rfl ?_
            refine m_goto (tgt := 223) X dL_isTold_263 (by decide) rfl ?_
            refine m_lp (l1 := [(12, .int (nI (j + 1))), (11, .int (sStock (nI k) a (j + 1))), (10, .int (sGate v a (nI k))), (9, .int (nI k)), (8, .int 1), (0, .ref 0), (1, .ref 17), (2, .ref 18), (3, .ref 19), (4, .ref 20), (5, .ref 21), (6, .ref 22), (7, .int (nI L))]) [0, 1, 2, 3, 4, 5, 6, 7, 8, 9, 10, 11, 12] rfl ?_
            exact ihj (j + 1) (by omega)
          · replace b241 : a 4 j = nI k := b241
            refine m_aload X dL_isTold_244 rfl rfl ?_
            refine m_iconst (v := 3) X dL_isTold_246 (by decide) rfl ?_
            refine m_iload X dL_isTold_247 rfl rfl ?_
            refine m_imul X dL_isTold_249 rfl ?_
            refine m_top (x1 := nI (3 * j)) (nI_mul 3 j) ?_
            refine m_iconst (v := 2) X dL_isTold_250 (by decide) rfl ?_
            refine m_iadd X dL_isTold_251 rfl ?_
            refine m_top (x1 := nI (3 * j + 2)) (nI_add (3 * j) 2) ?_
            refine m_ald (k := (3 * j + 2)) (x := a 6 j) X dL_isTold_252 hW_g3 (vp_in_nI (by omega) (by decide)) (nI_clamp (by omega)) ((hPL j (by omega)).2.1) rfl ?_
            refine m_goto (tgt := 257) X dL_isTold_253 (by decide) rfl ?_
            refine m_iadd X dL_isTold_257 rfl ?_
            refine m_top (x1 := sStock (nI k) a (j + 1)) (by show _ = sStock (nI k) a j + (if ¬ a 4 j = nI k then 0 else a 6 j); rw [if_neg (not_not_intro b241)]) ?_
            refine m_ist (l1 := [(11, .int (sStock (nI k) a (j + 1))), (12, .int (nI j)), (10, .int (sGate v a (nI k))), (9, .int (nI k)), (8, .int 1), (0, .ref 0), (1, .ref 17), (2, .ref 18), (3, .ref 19), (4, .ref 20), (5, .ref 21), (6, .ref 22), (7, .int (nI L))]) X dL_isTold_258 (Nat.le_of_ble_eq_true rfl) rfl rfl ?_
            refine m_inc (x1 := nI (j + 1)) (l1 := [(12, .int (nI (j + 1))), (11, .int (sStock (nI k) a (j + 1))), (10, .int (sGate v a (nI k))), (9, .int (nI k)), (8, .int 1), (0, .ref 0), (1, .ref 17), (2, .ref 18), (3, .ref 19), (4, .ref 20), (5, .ref 21), (6, .ref 22), (7, .int (nI L))]) X dL_isTold_260 rfl (Nat.le_of_ble_eq_true rfl) ((nI_succ j).symm) rfl rfl ?_
            refine m_goto (tgt := 223) X dL_isTold_263 (by decide) rfl ?_
            refine m_lp (l1 := [(12, .int (nI (j + 1))), (11, .int (sStock (nI k) a (j + 1))), (10, .int (sGate v a (nI k))), (9, .int (nI k)), (8, .int 1), (0, .ref 0), (1, .ref 17), (2, .ref 18), (3, .ref 19), (4, .ref 20), (5, .ref 21), (6, .ref 22), (7, .int (nI L))]) [0, 1, 2, 3, 4, 5, 6, 7, 8, 9, 10, 11, 12] rfl ?_
            exact ihj (j + 1) (by omega)
      have k215 : m_Go D cI cL ad ((hW v a x0 fm fb fr fl fu fv)).length (m_Ml M_L_isTold) A p l e (m_rm M_L_isTold) s m args below meth c (m_VQ D cI cL ad ((hW v a x0 fm fb fr fl fu fv)).length A (.inl (some (.int 1), (hW v a x0 fm fb fr fl fu fv))) below args s (m_Mc M_L_isTold) (m_Ms M_L_isTold)) 215 [(9, .int (nI k)), (8, .int 1), (0, .ref 0), (1, .ref 17), (2, .ref 18), (3, .ref 19), (4, .ref 20), (5, .ref 21), (6, .ref 22), (7, .int (nI L))] [.int (sGate v a (nI k))] (hW v a x0 fm fb fr fl fu fv) 0 0 := by
          refine m_ist (l1 := [(10, .int (sGate v a (nI k))), (9, .int (nI k)), (8, .int 1), (0, .ref 0), (1, .ref 17), (2, .ref 18), (3, .ref 19), (4, .ref 20), (5, .ref 21), (6, .ref 22), (7, .int (nI L))]) X dL_isTold_215 (Nat.le_of_ble_eq_true rfl) rfl rfl ?_
          refine m_iconst (v := 0) X dL_isTold_217 (by decide) rfl ?_
          refine m_ist (l1 := [(11, .int 0), (10, .int (sGate v a (nI k))), (9, .int (nI k)), (8, .int 1), (0, .ref 0), (1, .ref 17), (2, .ref 18), (3, .ref 19), (4, .ref 20), (5, .ref 21), (6, .ref 22), (7, .int (nI L))]) X dL_isTold_218 (Nat.le_of_ble_eq_true rfl) rfl rfl ?_
          refine m_iconst (v := 0) X dL_isTold_220 (by decide) rfl ?_
          refine m_ist (l1 := [(12, .int 0), (11, .int 0), (10, .int (sGate v a (nI k))), (9, .int (nI k)), (8, .int 1), (0, .ref 0), (1, .ref 17), (2, .ref 18), (3, .ref 19), (4, .ref 20), (5, .ref 21), (6, .ref 22), (7, .int (nI L))]) X dL_isTold_221 (Nat.le_of_ble_eq_true rfl) rfl rfl ?_
          exact lots L 0 (by omega)
      refine m_iload X dL_isTold_147 rfl rfl ?_
      refine m_iconst (v := 4) X dL_isTold_149 (by decide) rfl ?_
      refine m_icmp_ge (tgt := 352) X dL_isTold_150 (by decide) rfl (fun b150 => absurd b150 (nI_ge (b := 4) hlt (by decide))) (fun b150 => ?_)
      refine m_iload X dL_isTold_153 rfl rfl ?_
      refine m_if_eq (tgt := 352) X dL_isTold_155 (by decide) rfl (fun b155 => absurd b155 (by decide)) (fun b155 => ?_)
      refine m_aload_n X dL_isTold_158 rfl rfl ?_
      refine m_bipush (v := 8) X dL_isTold_159 (by decide) rfl ?_
      refine m_ald (k := 8) (x := v 10) X dL_isTold_161 hW_g0 (vp_in_nI (n := 8) (by decide) (by decide)) (rfl) (pm8 hM) rfl ?_
      refine m_if_eq (tgt := 178) X dL_isTold_162 (by decide) rfl (fun b162 => ?_) (fun b162 => ?_)
      · replace b162 : v 10 = 0 := b162
        refine m_iconst (v := 0) X dL_isTold_178 (by decide) rfl ?_
        refine m_goto (tgt := 215) X dL_isTold_179 (by decide) rfl ?_
        refine m_top (x1 := sGate v a (nI k)) ((gate_idle b162).symm) ?_
        exact k215
      · replace b162 : ¬ v 10 = 0 := b162
        refine m_aload_n X dL_isTold_165 rfl rfl ?_
        refine m_iconst (v := 3) X dL_isTold_166 (by decide) rfl ?_
        refine m_aload_n X dL_isTold_167 rfl rfl ?_
        refine m_bipush (v := 11) X dL_isTold_168 (by decide) rfl ?_
        refine m_ald (k := 11) (x := v 15) X dL_isTold_170 hW_g0 (vp_in_nI (n := 11) (by decide) (by decide)) (rfl) (pm11 hM) rfl ?_
        refine m_imul X dL_isTold_171 rfl ?_
        refine m_top (x1 := nI (3 * st)) (by rw [e15]; exact nI_mul 3 st) ?_
        refine m_ald (k := (3 * st)) (x := nI bn) X dL_isTold_172 hW_g2 (vp_in_nI (by omega) (by decide)) (nI_clamp (by omega)) ((hR st hst).1.trans ebn) rfl ?_
        refine m_iload X dL_isTold_173 rfl rfl ?_
        refine m_icmp_eq (tgt := 182) X dL_isTold_175 (by decide) rfl (fun b175 => ?_) (fun b175 => ?_)
        · replace b175 : nI bn = nI k := b175
          refine m_aload_n X dL_isTold_182 rfl rfl ?_
          refine m_bipush (v := 8) X dL_isTold_183 (by decide) rfl ?_
          refine m_ald (k := 8) (x := v 10) X dL_isTold_185 hW_g0 (vp_in_nI (n := 8) (by decide) (by decide)) (rfl) (pm8 hM) rfl ?_
          refine m_iconst (v := 2) X dL_isTold_186 (by decide) rfl ?_
          refine m_icmp_ne (tgt := 194) X dL_isTold_187 (by decide) rfl (fun b187 => ?_) (fun b187 => ?_)
          · replace b187 : ¬ v 10 = 2 := b187
            refine m_aload_n X dL_isTold_194 rfl rfl ?_
            refine m_bipush (v := 8) X dL_isTold_195 (by decide) rfl ?_
            refine m_ald (k := 8) (x := v 10) X dL_isTold_197 hW_g0 (vp_in_nI (n := 8) (by decide) (by decide)) (rfl) (pm8 hM) rfl ?_
            refine m_iconst (v := 3) X dL_isTold_198 (by decide) rfl ?_
            refine m_icmp_eq (tgt := 210) X dL_isTold_199 (by decide) rfl (fun b199 => ?_) (fun b199 => ?_)
            · replace b199 : v 10 = 3 := b199
              refine m_iconst (v := 1) X dL_isTold_210 (by decide) rfl ?_
              refine m_goto (tgt := 215) X dL_isTold_211 (by decide) rfl ?_
              refine m_top (x1 := sGate v a (nI k)) (by unfold sGate; rw [if_neg (not_not_intro (show sbin v a = nI k by rw [es]; exact b175)), if_pos b187, if_pos b199]) ?_
              exact k215
            · replace b199 : ¬ v 10 = 3 := b199
              refine m_aload_n X dL_isTold_202 rfl rfl ?_
              refine m_bipush (v := 8) X dL_isTold_203 (by decide) rfl ?_
              refine m_ald (k := 8) (x := v 10) X dL_isTold_205 hW_g0 (vp_in_nI (n := 8) (by decide) (by decide)) (rfl) (pm8 hM) rfl ?_
              refine m_iconst (v := 5) X dL_isTold_206 (by decide) rfl ?_
              refine m_icmp_ne (tgt := 214) X dL_isTold_207 (by decide) rfl (fun b207 => ?_) (fun b207 => ?_)
              · replace b207 : ¬ v 10 = 5 := b207
                refine m_iconst (v := 0) X dL_isTold_214 (by decide) rfl ?_
                refine m_top (x1 := sGate v a (nI k)) (by unfold sGate; rw [if_neg (not_not_intro (show sbin v a = nI k by rw [es]; exact b175)), if_pos b187, if_neg b199, if_pos b207]) ?_
                exact k215
              · replace b207 : v 10 = 5 := b207
                refine m_iconst (v := 1) X dL_isTold_210 (by decide) rfl ?_
                refine m_goto (tgt := 215) X dL_isTold_211 (by decide) rfl ?_
                refine m_top (x1 := sGate v a (nI k)) (by unfold sGate; rw [if_neg (not_not_intro (show sbin v a = nI k by rw [es]; exact b175)), if_pos b187, if_neg b199, if_neg (not_not_intro b207)]) ?_
                exact k215
          · replace b187 : v 10 = 2 := b187
            refine m_iconst (v := 2) X dL_isTold_190 (by decide) rfl ?_
            refine m_goto (tgt := 215) X dL_isTold_191 (by decide) rfl ?_
            refine m_top (x1 := sGate v a (nI k)) (by unfold sGate; rw [if_neg (not_not_intro (show sbin v a = nI k by rw [es]; exact b175)), if_neg (not_not_intro b187)]) ?_
            exact k215
        · replace b175 : ¬ nI bn = nI k := b175
          refine m_iconst (v := 0) X dL_isTold_178 (by decide) rfl ?_
          refine m_goto (tgt := 215) X dL_isTold_179 (by decide) rfl ?_
          refine m_top (x1 := sGate v a (nI k)) (by unfold sGate; rw [if_pos (show ¬ sbin v a = nI k by rw [es]; exact b175)]) ?_
          exact k215
  have k115 : m_Go D cI cL ad ((hW v a x0 fm fb fr fl fu fv)).length (m_Ml M_L_isTold) A p l e (m_rm M_L_isTold) s m args below meth c (m_VQ D cI cL ad ((hW v a x0 fm fb fr fl fu fv)).length A (.inl (some (.int 1), (hW v a x0 fm fb fr fl fu fv))) below args s (m_Mc M_L_isTold) (m_Ms M_L_isTold)) 115 [(0, .ref 0), (1, .ref 17), (2, .ref 18), (3, .ref 19), (4, .ref 20), (5, .ref 21), (6, .ref 22), (7, .int (nI L))] [] (hW v a x0 fm fb fr fl fu fv) 0 0 := by
    refine m_aload_n X dL_isTold_115 rfl rfl ?_
    refine m_cV0 X dL_isTold_116 lk_L_63 mk_X5_batches in_X5_batches se_X5_batches rfl rfl (c_X5_batches) rfl (Nat.le_of_ble_eq_true rfl) (Nat.le_of_ble_eq_true rfl) (Nat.le_of_ble_eq_true rfl) (Nat.le_of_ble_eq_true rfl) (Nat.le_of_ble_eq_true rfl) rfl ?_
    refine m_top (x1 := nI B) (e20) ?_
    refine m_aload_n X dL_isTold_119 rfl rfl ?_
    refine m_bipush (v := 19) X dL_isTold_120 (by decide) rfl ?_
    refine m_ald (k := 19) (x := nI B) X dL_isTold_122 hW_g0 (vp_in_nI (n := 19) (by decide) (by decide)) (rfl) ((pm19 hM).trans e20) rfl ?_
    refine m_icmp_ne (tgt := 141) X dL_isTold_123 (by decide) rfl (fun b123 => absurd b123 (not_not_intro rfl)) (fun b123 => ?_)
    refine m_aload_n X dL_isTold_126 rfl rfl ?_
    refine m_cV0 X dL_isTold_127 lk_L_66 mk_X5_done in_X5_done se_X5_done rfl rfl (c_X5_done) rfl (Nat.le_of_ble_eq_true rfl) (Nat.le_of_ble_eq_true rfl) (Nat.le_of_ble_eq_true rfl) (Nat.le_of_ble_eq_true rfl) (Nat.le_of_ble_eq_true rfl) rfl ?_
    refine m_aload_n X dL_isTold_130 rfl rfl ?_
    refine m_bipush (v := 20) X dL_isTold_131 (by decide) rfl ?_
    refine m_ald (k := 20) (x := v 21) X dL_isTold_133 hW_g0 (vp_in_nI (n := 20) (by decide) (by decide)) (rfl) (pm20 hM) rfl ?_
    refine m_icmp_ne (tgt := 141) X dL_isTold_134 (by decide) rfl (fun b134 => absurd b134 (not_not_intro rfl)) (fun b134 => ?_)
    refine m_iconst (v := 1) X dL_isTold_137 (by decide) rfl ?_
    refine m_goto (tgt := 142) X dL_isTold_138 (by decide) rfl ?_
    refine m_ist (l1 := [(8, .int 1), (0, .ref 0), (1, .ref 17), (2, .ref 18), (3, .ref 19), (4, .ref 20), (5, .ref 21), (6, .ref 22), (7, .int (nI L))]) X dL_isTold_142 (Nat.le_of_ble_eq_true rfl) rfl rfl ?_
    refine m_iconst (v := 0) X dL_isTold_144 (by decide) rfl ?_
    refine m_ist (l1 := [(9, .int 0), (8, .int 1), (0, .ref 0), (1, .ref 17), (2, .ref 18), (3, .ref 19), (4, .ref 20), (5, .ref 21), (6, .ref 22), (7, .int (nI L))]) X dL_isTold_145 (Nat.le_of_ble_eq_true rfl) rfl rfl ?_
    exact bins 4 0 (by omega)
  have k93 : m_Go D cI cL ad ((hW v a x0 fm fb fr fl fu fv)).length (m_Ml M_L_isTold) A p l e (m_rm M_L_isTold) s m args below meth c (m_VQ D cI cL ad ((hW v a x0 fm fb fr fl fu fv)).length A (.inl (some (.int 1), (hW v a x0 fm fb fr fl fu fv))) below args s (m_Mc M_L_isTold) (m_Ms M_L_isTold)) 93 [(0, .ref 0), (1, .ref 17), (2, .ref 18), (3, .ref 19), (4, .ref 20), (5, .ref 21), (6, .ref 22), (7, .int (nI L))] [] (hW v a x0 fm fb fr fl fu fv) 0 0 := by
    refine m_aload_n X dL_isTold_93 rfl rfl ?_
    refine m_cV0 X dL_isTold_94 lk_L_60 mk_X5_jogs in_X5_jogs se_X5_jogs rfl rfl (c_X5_jogs) rfl (Nat.le_of_ble_eq_true rfl) (Nat.le_of_ble_eq_true rfl) (Nat.le_of_ble_eq_true rfl) (Nat.le_of_ble_eq_true rfl) (Nat.le_of_ble_eq_true rfl) rfl ?_
    refine m_aload_n X dL_isTold_97 rfl rfl ?_
    refine m_bipush (v := 8) X dL_isTold_98 (by decide) rfl ?_
    refine m_ald (k := 8) (x := v 10) X dL_isTold_100 hW_g0 (vp_in_nI (n := 8) (by decide) (by decide)) (rfl) (pm8 hM) rfl ?_
    refine m_if_ne (tgt := 108) X dL_isTold_101 (by decide) rfl (fun b101 => ?_) (fun b101 => ?_)
    · replace b101 : ¬ v 10 = 0 := b101
      refine m_aload_n X dL_isTold_108 rfl rfl ?_
      refine m_bipush (v := 15) X dL_isTold_109 (by decide) rfl ?_
      refine m_ald (k := 15) (x := v 16) X dL_isTold_111 hW_g0 (vp_in_nI (n := 15) (by decide) (by decide)) (rfl) (pm15 hM) rfl ?_
      refine m_icmp_ne (tgt := 141) X dL_isTold_112 (by decide) rfl (fun b112 => absurd b112 (not_not_intro (by rw [if_neg b101]))) (fun b112 => ?_)
      exact k115
    · replace b101 : v 10 = 0 := b101
      refine m_iconst (v := 0) X dL_isTold_104 (by decide) rfl ?_
      refine m_goto (tgt := 112) X dL_isTold_105 (by decide) rfl ?_
      refine m_icmp_ne (tgt := 141) X dL_isTold_112 (by decide) rfl (fun b112 => absurd b112 (not_not_intro (by rw [if_pos b101]))) (fun b112 => ?_)
      exact k115
  have k71 : m_Go D cI cL ad ((hW v a x0 fm fb fr fl fu fv)).length (m_Ml M_L_isTold) A p l e (m_rm M_L_isTold) s m args below meth c (m_VQ D cI cL ad ((hW v a x0 fm fb fr fl fu fv)).length A (.inl (some (.int 1), (hW v a x0 fm fb fr fl fu fv))) below args s (m_Mc M_L_isTold) (m_Ms M_L_isTold)) 71 [(0, .ref 0), (1, .ref 17), (2, .ref 18), (3, .ref 19), (4, .ref 20), (5, .ref 21), (6, .ref 22), (7, .int (nI L))] [] (hW v a x0 fm fb fr fl fu fv) 0 0 := by
    refine m_aload_n X dL_isTold_71 rfl rfl ?_
    refine m_cV0 X dL_isTold_72 lk_L_57 mk_X5_step in_X5_step se_X5_step rfl rfl (c_X5_step) rfl (Nat.le_of_ble_eq_true rfl) (Nat.le_of_ble_eq_true rfl) (Nat.le_of_ble_eq_true rfl) (Nat.le_of_ble_eq_true rfl) (Nat.le_of_ble_eq_true rfl) rfl ?_
    refine m_aload_n X dL_isTold_75 rfl rfl ?_
    refine m_bipush (v := 8) X dL_isTold_76 (by decide) rfl ?_
    refine m_ald (k := 8) (x := v 10) X dL_isTold_78 hW_g0 (vp_in_nI (n := 8) (by decide) (by decide)) (rfl) (pm8 hM) rfl ?_
    refine m_if_ne (tgt := 86) X dL_isTold_79 (by decide) rfl (fun b79 => ?_) (fun b79 => ?_)
    · replace b79 : ¬ v 10 = 0 := b79
      refine m_aload_n X dL_isTold_86 rfl rfl ?_
      refine m_bipush (v := 11) X dL_isTold_87 (by decide) rfl ?_
      refine m_ald (k := 11) (x := v 15) X dL_isTold_89 hW_g0 (vp_in_nI (n := 11) (by decide) (by decide)) (rfl) (pm11 hM) rfl ?_
      refine m_icmp_ne (tgt := 141) X dL_isTold_90 (by decide) rfl (fun b90 => absurd b90 (not_not_intro (by rw [if_neg b79]))) (fun b90 => ?_)
      exact k93
    · replace b79 : v 10 = 0 := b79
      refine m_iconst (v := (-1)) X dL_isTold_82 (by decide) rfl ?_
      refine m_goto (tgt := 90) X dL_isTold_83 (by decide) rfl ?_
      refine m_icmp_ne (tgt := 141) X dL_isTold_90 (by decide) rfl (fun b90 => absurd b90 (not_not_intro (by rw [if_pos b79]))) (fun b90 => ?_)
      exact k93
  refine m_aload_n X dL_isTold_0 rfl rfl ?_
  refine m_cV0 X dL_isTold_1 lk_L_40 mk_X5_gross in_X5_gross se_X5_gross rfl rfl (c_X5_gross) rfl (Nat.le_of_ble_eq_true rfl) (Nat.le_of_ble_eq_true rfl) (Nat.le_of_ble_eq_true rfl) (Nat.le_of_ble_eq_true rfl) (Nat.le_of_ble_eq_true rfl) rfl ?_
  refine m_aload_n X dL_isTold_4 rfl rfl ?_
  refine m_iconst (v := 0) X dL_isTold_5 (by decide) rfl ?_
  refine m_ald (k := 0) (x := v 4) X dL_isTold_6 hW_g0 (vp_in_nI (n := 0) (by decide) (by decide)) (rfl) (pm0 hM) rfl ?_
  refine m_aload_n X dL_isTold_7 rfl rfl ?_
  refine m_iconst (v := 5) X dL_isTold_8 (by decide) rfl ?_
  refine m_ald (k := 5) (x := v 0) X dL_isTold_9 hW_g0 (vp_in_nI (n := 5) (by decide) (by decide)) (rfl) (pm5 hM) rfl ?_
  refine m_isub X dL_isTold_10 rfl ?_
  refine m_top (x1 := gross v) (rfl) ?_
  refine m_icmp_ne (tgt := 141) X dL_isTold_11 (by decide) rfl (fun b11 => absurd b11 (not_not_intro rfl)) (fun b11 => ?_)
  refine m_aload_n X dL_isTold_14 rfl rfl ?_
  refine m_cV0 X dL_isTold_15 lk_L_46 mk_X5_net in_X5_net se_X5_net rfl rfl (c_X5_net) rfl (Nat.le_of_ble_eq_true rfl) (Nat.le_of_ble_eq_true rfl) (Nat.le_of_ble_eq_true rfl) (Nat.le_of_ble_eq_true rfl) (Nat.le_of_ble_eq_true rfl) rfl ?_
  refine m_aload_n X dL_isTold_18 rfl rfl ?_
  refine m_cS1 X dL_isTold_19 lk_L_15 mk_L_net st_L_net (c_L_net hM) rfl (Nat.le_of_ble_eq_true rfl) (Nat.le_of_ble_eq_true rfl) (Nat.le_of_ble_eq_true rfl) (Nat.le_of_ble_eq_true rfl) (Nat.le_of_ble_eq_true rfl) rfl ?_
  refine m_icmp_ne (tgt := 141) X dL_isTold_22 (by decide) rfl (fun b22 => absurd b22 (not_not_intro rfl)) (fun b22 => ?_)
  refine m_aload_n X dL_isTold_25 rfl rfl ?_
  refine m_cV0 X dL_isTold_26 lk_L_48 mk_X5_isSettled in_X5_isSettled se_X5_isSettled rfl rfl (c_X5_isSettled) rfl (Nat.le_of_ble_eq_true rfl) (Nat.le_of_ble_eq_true rfl) (Nat.le_of_ble_eq_true rfl) (Nat.le_of_ble_eq_true rfl) (Nat.le_of_ble_eq_true rfl) rfl ?_
  refine m_aload_n X dL_isTold_29 rfl rfl ?_
  refine m_cS1 X dL_isTold_30 lk_L_33 mk_L_isSettled st_L_isSettled (c_L_isSettled (v := v) hn hM h0.2.1.2.1 hX.1.1 hX.1.2.1 hX.1.2.2.1 hX.1.2.2.2) rfl (Nat.le_of_ble_eq_true rfl) (Nat.le_of_ble_eq_true rfl) (Nat.le_of_ble_eq_true rfl) (Nat.le_of_ble_eq_true rfl) (Nat.le_of_ble_eq_true rfl) rfl ?_
  refine m_icmp_ne (tgt := 141) X dL_isTold_33 (by decide) rfl (fun b33 => absurd b33 (not_not_intro rfl)) (fun b33 => ?_)
  refine m_aload_n X dL_isTold_36 rfl rfl ?_
  refine m_cV0 X dL_isTold_37 lk_L_51 mk_X5_state in_X5_state se_X5_state rfl rfl (c_X5_state) rfl (Nat.le_of_ble_eq_true rfl) (Nat.le_of_ble_eq_true rfl) (Nat.le_of_ble_eq_true rfl) (Nat.le_of_ble_eq_true rfl) (Nat.le_of_ble_eq_true rfl) rfl ?_
  refine m_aload_n X dL_isTold_40 rfl rfl ?_
  refine m_bipush (v := 8) X dL_isTold_41 (by decide) rfl ?_
  refine m_ald (k := 8) (x := v 10) X dL_isTold_43 hW_g0 (vp_in_nI (n := 8) (by decide) (by decide)) (rfl) (pm8 hM) rfl ?_
  refine m_icmp_ne (tgt := 141) X dL_isTold_44 (by decide) rfl (fun b44 => absurd b44 (not_not_intro rfl)) (fun b44 => ?_)
  refine m_aload_n X dL_isTold_47 rfl rfl ?_
  refine m_cV0 X dL_isTold_48 lk_L_54 mk_X5_alarm in_X5_alarm se_X5_alarm rfl rfl (c_X5_alarm) rfl (Nat.le_of_ble_eq_true rfl) (Nat.le_of_ble_eq_true rfl) (Nat.le_of_ble_eq_true rfl) (Nat.le_of_ble_eq_true rfl) (Nat.le_of_ble_eq_true rfl) rfl ?_
  refine m_aload_n X dL_isTold_51 rfl rfl ?_
  refine m_bipush (v := 8) X dL_isTold_52 (by decide) rfl ?_
  refine m_ald (k := 8) (x := v 10) X dL_isTold_54 hW_g0 (vp_in_nI (n := 8) (by decide) (by decide)) (rfl) (pm8 hM) rfl ?_
  refine m_bipush (v := 6) X dL_isTold_55 (by decide) rfl ?_
  refine m_icmp_ne (tgt := 67) X dL_isTold_57 (by decide) rfl (fun b57 => ?_) (fun b57 => ?_)
  · replace b57 : ¬ v 10 = 6 := b57
    refine m_iconst (v := 0) X dL_isTold_67 (by decide) rfl ?_
    refine m_icmp_ne (tgt := 141) X dL_isTold_68 (by decide) rfl (fun b68 => absurd b68 (not_not_intro (hI.1.1.2.2.2.2.2 b57))) (fun b68 => ?_)
    exact k71
  · replace b57 : v 10 = 6 := b57
    refine m_aload_n X dL_isTold_60 rfl rfl ?_
    refine m_bipush (v := 9) X dL_isTold_61 (by decide) rfl ?_
    refine m_ald (k := 9) (x := v 11) X dL_isTold_63 hW_g0 (vp_in_nI (n := 9) (by decide) (by decide)) (rfl) (pm9 hM b57) rfl ?_
    refine m_goto (tgt := 68) X dL_isTold_64 (by decide) rfl ?_
    refine m_icmp_ne (tgt := 141) X dL_isTold_68 (by decide) rfl (fun b68 => absurd b68 (not_not_intro rfl)) (fun b68 => ?_)
    exact k71
end LA5

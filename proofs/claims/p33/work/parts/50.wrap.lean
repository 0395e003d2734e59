section LA6
theorem xl_98 : Cond.classLink RL 98 "java/lang/IllegalStateException" ∈ m_ws := m_ws_in (List.mem_append_right _ (List.mem_of_getElem? (i := 19) (by decide +kernel))) rfl
theorem xk_2 : Cond.castable "java/lang/IllegalStateException" "java/lang/IllegalStateException" ∈ m_nw := m_nw_in (List.mem_append_right _ (List.mem_of_getElem? (i := 336) (by decide +kernel))) rfl
variable {D : va_G} {cI cL : ClassId} {sa : Nat → Nat} {y : MethodName} {cc : ByteArray} {nL : Nat} {ret : Option FieldType} {A : Nat → Prop} {TB : List ExceptionTableEntry} {p : Program} {l : Launch} {e : Env} {R : Room} {s : State} {m : MethodId} {args : Array Value} {below : List Frame} {meth : Method} {c : Code} {Q : State → Prop} {ad0 : Nat → Nat} {n0 pc pc0 : Nat} {ls : List (Nat × Value)} {st : List Value} {h : m_H} {cu su : Nat} {om : m_Om} {mc ms : Nat}
theorem m_cH1 {x0 : Value} {M : m_M} {hh : List (Nat × Nat × Nat × Nat)} {h' : m_H} {v : Option Value} {rest : List Value} {k : Nat} (X : m_At D cI cL sa y cc nL ret A TB p l s m args meth c) (hd : decode cc pc0 = .ok (.invokestatic k, 3)) (hk : Cond.methodLink y.cls k (m_My M) ∈ m_ws) (hK : m_MKH M hh 1) (hst : Cond.static (m_My M) ∈ m_ws) (hC : m_CtrH M hh [x0] h (.inl (v, h'))) (hlen : h'.length = h.length) (hro : (rest.map fun v => v.category).sum ≤ 8) (hrk : m_Mk M + 1 ≤ R.frames) (hrl : 8 + (m_Ml M + 11) + 32 * m_Mk M ≤ R.locals) (hcc : cu + m_Mc M ≤ R.cells) (hss : su + m_Ms M ≤ R.slots) (hp : pc = pc0)
    (kk : m_Go D cI cL ad0 n0 nL A p l e R s m args below meth c Q (pc0 + 3) ls (v.toList ++ rest) h' (cu + m_Mc M) (su + m_Ms M)) : m_Go D cI cL ad0 n0 nL A p l e R s m args below meth c Q pc ls (x0 :: rest) h cu su := m_callH X hd hk hK hst hC rfl rfl hlen hro hrk hrl hcc hss hp kk
theorem m_handB {hpc : Nat} {n9 : Int32} {i9 : Int} {k9 : Fin 4} {ad : Nat → Nat} {H : Heap} {locs : List Loc} {lsA : Array Slot} {q9 : Addr} (X : m_At D cI cL sa y cc nL ret A TB p l s m args meth c) (hk : decode cc hpc = .ok (.astore_n k9, 1)) (hkn : (k9 : Nat) < nL) (hi : decode cc (hpc + 1) = .ok (.bipush i9, 2)) (hv : (Int8.ofInt i9).toInt32 = n9) (hd : decode cc (hpc + 1 + 2) = .ok (.ireturn, 1)) (hr : ret = some .int) (ho : om = .inl (some (.int n9), h)) (hc : cu ≤ mc) (hs : su ≤ ms)
    (hn : n0 ≤ h.length) (hag : ∀ i, (i < n0 ∨ h.length ≤ i) → ad i = ad0 i) (hP : va_P D m_cl (m_w cI cL ad h) H) (hD : va_D A (m_w cI cL ad h)) (hS : va_S A s.heap H locs) (hL : lv_has lsA nL (ls.map (fun q => (q.1, m_v ad q.2)))) :
    W p l e R s m args below meth c H locs cu su (m_VQ D cI cL ad0 n0 A om below args s mc ms) (F0 m hpc lsA [.ref q9]) := by
  have go : ∀ ls' : Array Slot, W p l e R s m args below meth c H locs cu su (m_VQ D cI cL ad0 n0 A om below args s mc ms) (F0 m (hpc + 1) ls' []) := fun ls' =>
    lv_bipush (m_ex X) (m_cb X) hi hv (W.widen hc hs (vx_ret (W.iret (m_ex X) (m_cb X) ((m_rt X).trans hr) (fun t ht hW => ⟨_, h, ad, ho, rfl, hn, hag, by rw [ht]; exact hP, hD, hS.F ht⟩) hS.2.2 hd (m_lk X))))
  exact lv_astore_n (m_ex X) (m_cb X) hk rfl hL hkn rfl (fun ls' _ => go ls')
theorem w_held {v v9 : m_V} {a a9 : m_R} {x x9 : Int64} {fm fb fr fl fu fv : Nat → Int32} {r9 : Int32} (hC : m_Ctr M_X5_hold [.ref 0] (hW v a x fm fb fr fl fu fv) (.inl (some (.int r9), (hW v9 a9 x9 fm fb fr fl fu fv)))) : m_CtrH M_L_held H_L_held [.ref 0] (hW v a x fm fb fr fl fu fv) (.inl (some (.int r9), (hW v9 a9 x9 fm fb fr fl fu fv))) := by
  refine m_introH (by decide +kernel) (Nat.le_of_ble_eq_true rfl) (fun X => ?_)
  refine m_aload_n X dL_held_0 rfl rfl ?_
  refine m_cV0 X dL_held_1 lk_L_100 mk_X5_hold in_X5_hold se_X5_hold rfl rfl hC rfl (Nat.le_of_ble_eq_true rfl) (Nat.le_of_ble_eq_true rfl) (Nat.le_of_ble_eq_true rfl) (Nat.le_of_ble_eq_true rfl) (Nat.le_of_ble_eq_true rfl) rfl ?_
  exact m_iret X dL_held_4 rfl rfl (Nat.le_of_ble_eq_true rfl) (Nat.le_of_ble_eq_true rfl) rfl
theorem w_held_x {v : m_V} {a : m_R} {x : Int64} {fm fb fr fl fu fv : Nat → Int32} (hC : m_Ctr Mx_X5_hold [.ref 0] (hW v a x fm fb fr fl fu fv) (.inr ("java/lang/IllegalStateException", (hW v a x fm fb fr fl fu fv)))) : m_CtrH M_L_held H_L_held [.ref 0] (hW v a x fm fb fr fl fu fv) (.inl (some (.int (-2)), (hW v a x fm fb fr fl fu fv))) := by
  refine m_introH (by decide +kernel) (Nat.le_of_ble_eq_true rfl) (fun X => ?_)
  refine m_aload_n X dL_held_0 rfl rfl ?_
  refine m_thV_x (M := Mx_X5_hold) X dL_held_1 ll_L_100 mkx_X5_hold in_X5_hold se_X5_hold rfl rfl hC (as := []) rfl rfl rfl (Nat.le_of_ble_eq_true rfl) (Nat.le_of_ble_eq_true rfl) (Nat.le_of_ble_eq_true rfl) (Nat.le_of_ble_eq_true rfl) (Nat.le_of_ble_eq_true rfl) rfl (fun ad H1 locs1 lsA q9 ce hn hag hP hD hS hLA hce hcv hcl => ?_)
  refine vx_catch (m_ow X) [] ⟨0, 4, 5, 98⟩ [] (m_tb X) (fun z hz => by cases hz) (by decide) (by decide) (m_wd X _ xl_98) (va_Nw.use rfl ((m_ev X).1 _ xk_2)) hce hcv hcl ?_
  exact m_handB (om := .inl (some (.int (-2)), (hW v a x fm fb fr fl fu fv))) X dL_held_5 (Nat.le_of_ble_eq_true rfl) dL_held_6 (by decide) dL_held_8 rfl rfl (Nat.le_of_ble_eq_true rfl) (Nat.le_of_ble_eq_true rfl) hn hag hP hD hS hLA
theorem w_resumed {v v9 : m_V} {a a9 : m_R} {x x9 : Int64} {fm fb fr fl fu fv : Nat → Int32} {r9 : Int32} (hC : m_Ctr M_X5_resume [.ref 0] (hW v a x fm fb fr fl fu fv) (.inl (some (.int r9), (hW v9 a9 x9 fm fb fr fl fu fv)))) : m_CtrH M_L_resumed H_L_resumed [.ref 0] (hW v a x fm fb fr fl fu fv) (.inl (some (.int r9), (hW v9 a9 x9 fm fb fr fl fu fv))) := by
  refine m_introH (by decide +kernel) (Nat.le_of_ble_eq_true rfl) (fun X => ?_)
  refine m_aload_n X dL_resumed_0 rfl rfl ?_
  refine m_cV0 X dL_resumed_1 lk_L_95 mk_X5_resume in_X5_resume se_X5_resume rfl rfl hC rfl (Nat.le_of_ble_eq_true rfl) (Nat.le_of_ble_eq_true rfl) (Nat.le_of_ble_eq_true rfl) (Nat.le_of_ble_eq_true rfl) (Nat.le_of_ble_eq_true rfl) rfl ?_
  exact m_iret X dL_resumed_4 rfl rfl (Nat.le_of_ble_eq_true rfl) (Nat.le_of_ble_eq_true rfl) rfl
theorem w_resumed_x {v : m_V} {a : m_R} {x : Int64} {fm fb fr fl fu fv : Nat → Int32} (hC : m_Ctr Mx_X5_resume [.ref 0] (hW v a x fm fb fr fl fu fv) (.inr ("java/lang/IllegalStateException", (hW v a x fm fb fr fl fu fv)))) : m_CtrH M_L_resumed H_L_resumed [.ref 0] (hW v a x fm fb fr fl fu fv) (.inl (some (.int (-2)), (hW v a x fm fb fr fl fu fv))) := by
  refine m_introH (by decide +kernel) (Nat.le_of_ble_eq_true rfl) (fun X => ?_)
  refine m_aload_n X dL_resumed_0 rfl rfl ?_
  refine m_thV_x (M := Mx_X5_resume) X dL_resumed_1 ll_L_95 mkx_X5_resume in_X5_resume se_X5_resume rfl rfl hC (as := []) rfl rfl rfl (Nat.le_of_ble_eq_true rfl) (Nat.le_of_ble_eq_true rfl) (Nat.le_of_ble_eq_true rfl) (Nat.le_of_ble_eq_true rfl) (Nat.le_of_ble_eq_true rfl) rfl (fun ad H1 locs1 lsA q9 ce hn hag hP hD hS hLA hce hcv hcl => ?_)
  refine vx_catch (m_ow X) [] ⟨0, 4, 5, 98⟩ [] (m_tb X) (fun z hz => by cases hz) (by decide) (by decide) (m_wd X _ xl_98) (va_Nw.use rfl ((m_ev X).1 _ xk_2)) hce hcv hcl ?_
  exact m_handB (om := .inl (some (.int (-2)), (hW v a x fm fb fr fl fu fv))) X dL_resumed_5 (Nat.le_of_ble_eq_true rfl) dL_resumed_6 (by decide) dL_resumed_8 rfl rfl (Nat.le_of_ble_eq_true rfl) (Nat.le_of_ble_eq_true rfl) hn hag hP hD hS hLA
theorem w_aborted {v v9 : m_V} {a a9 : m_R} {x x9 : Int64} {fm fb fr fl fu fv : Nat → Int32} {r9 : Int32} (hC : m_Ctr M_X5_abort [.ref 0] (hW v a x fm fb fr fl fu fv) (.inl (some (.int r9), (hW v9 a9 x9 fm fb fr fl fu fv)))) : m_CtrH M_L_aborted H_L_aborted [.ref 0] (hW v a x fm fb fr fl fu fv) (.inl (some (.int r9), (hW v9 a9 x9 fm fb fr fl fu fv))) := by
  refine m_introH (by decide +kernel) (Nat.le_of_ble_eq_true rfl) (fun X => ?_)
  refine m_aload_n X dL_aborted_0 rfl rfl ?_
  refine m_cV0 X dL_aborted_1 lk_L_103 mk_X5_abort in_X5_abort se_X5_abort rfl rfl hC rfl (Nat.le_of_ble_eq_true rfl) (Nat.le_of_ble_eq_true rfl) (Nat.le_of_ble_eq_true rfl) (Nat.le_of_ble_eq_true rfl) (Nat.le_of_ble_eq_true rfl) rfl ?_
  exact m_iret X dL_aborted_4 rfl rfl (Nat.le_of_ble_eq_true rfl) (Nat.le_of_ble_eq_true rfl) rfl
theorem w_aborted_x {v : m_V} {a : m_R} {x : Int64} {fm fb fr fl fu fv : Nat → Int32} (hC : m_Ctr Mx_X5_abort [.ref 0] (hW v a x fm fb fr fl fu fv) (.inr ("java/lang/IllegalStateException", (hW v a x fm fb fr fl fu fv)))) : m_CtrH M_L_aborted H_L_aborted [.ref 0] (hW v a x fm fb fr fl fu fv) (.inl (some (.int (-2)), (hW v a x fm fb fr fl fu fv))) := by
  refine m_introH (by decide +kernel) (Nat.le_of_ble_eq_true rfl) (fun X => ?_)
  refine m_aload_n X dL_aborted_0 rfl rfl ?_
  refine m_thV_x (M := Mx_X5_abort) X dL_aborted_1 ll_L_103 mkx_X5_abort in_X5_abort se_X5_abort rfl rfl hC (as := []) rfl rfl rfl (Nat.le_of_ble_eq_true rfl) (Nat.le_of_ble_eq_true rfl) (Nat.le_of_ble_eq_true rfl) (Nat.le_of_ble_eq_true rfl) (Nat.le_of_ble_eq_true rfl) rfl (fun ad H1 locs1 lsA q9 ce hn hag hP hD hS hLA hce hcv hcl => ?_)
  refine vx_catch (m_ow X) [] ⟨0, 4, 5, 98⟩ [] (m_tb X) (fun z hz => by cases hz) (by decide) (by decide) (m_wd X _ xl_98) (va_Nw.use rfl ((m_ev X).1 _ xk_2)) hce hcv hcl ?_
  exact m_handB (om := .inl (some (.int (-2)), (hW v a x fm fb fr fl fu fv))) X dL_aborted_5 (Nat.le_of_ble_eq_true rfl) dL_aborted_6 (by decide) dL_aborted_8 rfl rfl (Nat.le_of_ble_eq_true rfl) (Nat.le_of_ble_eq_true rfl) hn hag hP hD hS hLA
theorem w_started {v v9 : m_V} {a a9 : m_R} {x x9 : Int64} {fm fb fr fl fu fv : Nat → Int32} {r9 : Int32} (hC : m_Ctr M_X5_start [.ref 0] (hW v a x fm fb fr fl fu fv) (.inl (some (.int r9), (hW v9 a9 x9 fm fb fr fl fu fv)))) : m_CtrH M_L_started H_L_started [.ref 0] (hW v a x fm fb fr fl fu fv) (.inl (some (.int r9), (hW v9 a9 x9 fm fb fr fl fu fv))) := by
  refine m_introH (by decide +kernel) (Nat.le_of_ble_eq_true rfl) (fun X => ?_)
  refine m_aload_n X dL_started_0 rfl rfl ?_
  refine m_cV0 X dL_started_1 lk_L_106 mk_X5_start in_X5_start se_X5_start rfl rfl hC rfl (Nat.le_of_ble_eq_true rfl) (Nat.le_of_ble_eq_true rfl) (Nat.le_of_ble_eq_true rfl) (Nat.le_of_ble_eq_true rfl) (Nat.le_of_ble_eq_true rfl) rfl ?_
  exact m_iret X dL_started_4 rfl rfl (Nat.le_of_ble_eq_true rfl) (Nat.le_of_ble_eq_true rfl) rfl
theorem w_started_x {v : m_V} {a : m_R} {x : Int64} {fm fb fr fl fu fv : Nat → Int32} (hC : m_Ctr Mx_X5_start [.ref 0] (hW v a x fm fb fr fl fu fv) (.inr ("java/lang/IllegalStateException", (hW v a x fm fb fr fl fu fv)))) : m_CtrH M_L_started H_L_started [.ref 0] (hW v a x fm fb fr fl fu fv) (.inl (some (.int (-2)), (hW v a x fm fb fr fl fu fv))) := by
  refine m_introH (by decide +kernel) (Nat.le_of_ble_eq_true rfl) (fun X => ?_)
  refine m_aload_n X dL_started_0 rfl rfl ?_
  refine m_thV_x (M := Mx_X5_start) X dL_started_1 ll_L_106 mkx_X5_start in_X5_start se_X5_start rfl rfl hC (as := []) rfl rfl rfl (Nat.le_of_ble_eq_true rfl) (Nat.le_of_ble_eq_true rfl) (Nat.le_of_ble_eq_true rfl) (Nat.le_of_ble_eq_true rfl) (Nat.le_of_ble_eq_true rfl) rfl (fun ad H1 locs1 lsA q9 ce hn hag hP hD hS hLA hce hcv hcl => ?_)
  refine vx_catch (m_ow X) [] ⟨0, 4, 5, 98⟩ [] (m_tb X) (fun z hz => by cases hz) (by decide) (by decide) (m_wd X _ xl_98) (va_Nw.use rfl ((m_ev X).1 _ xk_2)) hce hcv hcl ?_
  exact m_handB (om := .inl (some (.int (-2)), (hW v a x fm fb fr fl fu fv))) X dL_started_5 (Nat.le_of_ble_eq_true rfl) dL_started_6 (by decide) dL_started_8 rfl rfl (Nat.le_of_ble_eq_true rfl) (Nat.le_of_ble_eq_true rfl) hn hag hP hD hS hLA
theorem w_zeroed {v v9 : m_V} {a a9 : m_R} {x x9 : Int64} {fm fb fr fl fu fv : Nat → Int32} {r9 : Int32} (hC : m_Ctr M_X5_zero [.ref 0] (hW v a x fm fb fr fl fu fv) (.inl (some (.int r9), (hW v9 a9 x9 fm fb fr fl fu fv)))) : m_CtrH M_L_zeroed H_L_zeroed [.ref 0] (hW v a x fm fb fr fl fu fv) (.inl (some (.int r9), (hW v9 a9 x9 fm fb fr fl fu fv))) := by
  refine m_introH (by decide +kernel) (Nat.le_of_ble_eq_true rfl) (fun X => ?_)
  refine m_aload_n X dL_zeroed_0 rfl rfl ?_
  refine m_cV0 X dL_zeroed_1 lk_L_109 mk_X5_zero in_X5_zero se_X5_zero rfl rfl hC rfl (Nat.le_of_ble_eq_true rfl) (Nat.le_of_ble_eq_true rfl) (Nat.le_of_ble_eq_true rfl) (Nat.le_of_ble_eq_true rfl) (Nat.le_of_ble_eq_true rfl) rfl ?_
  exact m_iret X dL_zeroed_4 rfl rfl (Nat.le_of_ble_eq_true rfl) (Nat.le_of_ble_eq_true rfl) rfl
theorem w_zeroed_x {v : m_V} {a : m_R} {x : Int64} {fm fb fr fl fu fv : Nat → Int32} (hC : m_Ctr Mx_X5_zero [.ref 0] (hW v a x fm fb fr fl fu fv) (.inr ("java/lang/IllegalStateException", (hW v a x fm fb fr fl fu fv)))) : m_CtrH M_L_zeroed H_L_zeroed [.ref 0] (hW v a x fm fb fr fl fu fv) (.inl (some (.int (-2)), (hW v a x fm fb fr fl fu fv))) := by
  refine m_introH (by decide +kernel) (Nat.le_of_ble_eq_true rfl) (fun X => ?_)
  refine m_aload_n X dL_zeroed_0 rfl rfl ?_
  refine m_thV_x (M := Mx_X5_zero) X dL_zeroed_1 ll_L_109 mkx_X5_zero in_X5_zero se_X5_zero rfl rfl hC (as := []) rfl rfl rfl (Nat.le_of_ble_eq_true rfl) (Nat.le_of_ble_eq_true rfl) (Nat.le_of_ble_eq_true rfl) (Nat.le_of_ble_eq_true rfl) (Nat.le_of_ble_eq_true rfl) rfl (fun ad H1 locs1 lsA q9 ce hn hag hP hD hS hLA hce hcv hcl => ?_)
  refine vx_catch (m_ow X) [] ⟨0, 4, 5, 98⟩ [] (m_tb X) (fun z hz => by cases hz) (by decide) (by decide) (m_wd X _ xl_98) (va_Nw.use rfl ((m_ev X).1 _ xk_2)) hce hcv hcl ?_
  exact m_handB (om := .inl (some (.int (-2)), (hW v a x fm fb fr fl fu fv))) X dL_zeroed_5 (Nat.le_of_ble_eq_true rfl) dL_zeroed_6 (by decide) dL_zeroed_8 rfl rfl (Nat.le_of_ble_eq_true rfl) (Nat.le_of_ble_eq_true rfl) hn hag hP hD hS hLA
end LA6

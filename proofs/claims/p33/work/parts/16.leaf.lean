section ML
theorem c_X5_isWithin {h : m_H} {x lo hi : Int32} : m_Ctr M_X5_isWithin [.int x, .int lo, .int hi] h (.inl (some (.int (bi (lo ≤ x ∧ x ≤ hi))), h)) := by
  refine m_intro (by decide +kernel) (Nat.le_of_ble_eq_true rfl) (fun X => ?_)
  refine m_iload_n X dX5_isWithin_0 rfl rfl ?_
  refine m_iload_n X dX5_isWithin_1 rfl rfl ?_
  refine m_icmp_lt (tgt := 14) X dX5_isWithin_2 (by decide) rfl (fun b2 => ?_) (fun b2 => ?_)
  · refine m_iconst (v := 0) X dX5_isWithin_14 (by decide) rfl ?_
    exact m_zret X dX5_isWithin_15 rfl (by decide) (by rw [bi_f (fun q => absurd q.1 (by rw [i_nle]; exact b2))]) (Nat.le_of_ble_eq_true rfl) (Nat.le_of_ble_eq_true rfl) rfl
  · rw [i_nlt] at b2
    refine m_iload_n X dX5_isWithin_5 rfl rfl ?_
    refine m_iload_n X dX5_isWithin_6 rfl rfl ?_
    refine m_icmp_gt (tgt := 14) X dX5_isWithin_7 (by decide) rfl (fun b7 => ?_) (fun b7 => ?_)
    · rw [← i_nle] at b7
      refine m_iconst (v := 0) X dX5_isWithin_14 (by decide) rfl ?_
      exact m_zret X dX5_isWithin_15 rfl (by decide) (by rw [bi_f (fun q => absurd q.2 b7)]) (Nat.le_of_ble_eq_true rfl) (Nat.le_of_ble_eq_true rfl) rfl
    · rw [i_nlt] at b7
      refine m_iconst (v := 1) X dX5_isWithin_10 (by decide) rfl ?_
      refine m_goto (tgt := 15) X dX5_isWithin_11 (by decide) rfl ?_
      exact m_zret X dX5_isWithin_15 rfl (by decide) (by rw [bi_t ⟨b2, b7⟩]) (Nat.le_of_ble_eq_true rfl) (Nat.le_of_ble_eq_true rfl) rfl
theorem c_X5_at {h : m_H} {q n : Nat} {f : Nat → Int32} {i : Int32} (hq : h[q]? = some (m_ia n f)) (hn : n < 2 ^ 31) (hi : vp_in i n) : m_Ctr M_X5_at [.ref q, .int i] h (.inl (some (.int (f i.toNatClampNeg)), h)) := by
  refine m_intro (by decide +kernel) (Nat.le_of_ble_eq_true rfl) (fun X => ?_)
  refine m_iload_n X dX5_at_0 rfl rfl ?_
  refine m_if_lt (tgt := 16) X dX5_at_1 (by decide) rfl (fun b1 => absurd b1 (vi_0 hn hi)) (fun b1 => ?_)
  refine m_iload_n X dX5_at_4 rfl rfl ?_
  refine m_aload_n X dX5_at_5 rfl rfl ?_
  refine m_alen X dX5_at_6 hq rfl ?_
  refine m_icmp_ge (tgt := 16) X dX5_at_7 (by decide) rfl (fun b7 => absurd b7 (vi_1 hn hi)) (fun b7 => ?_)
  refine m_aload_n X dX5_at_10 rfl rfl ?_
  refine m_iload_n X dX5_at_11 rfl rfl ?_
  refine m_iald X dX5_at_12 hq (hi) rfl ?_
  refine m_goto (tgt := 17) X dX5_at_13 (by decide) rfl ?_
  exact m_iret X dX5_at_17 rfl (rfl) (Nat.le_of_ble_eq_true rfl) (Nat.le_of_ble_eq_true rfl) rfl
theorem c_X5_put {h : m_H} {q n : Nat} {f : Nat → Int32} {i : Int32} (hq : h[q]? = some (m_ia n f)) (hn : n < 2 ^ 31) (hi : vp_in i n) {x : Int32} : m_Ctr M_X5_put [.ref q, .int i, .int x] h (.inl (none, h.set q (m_ia n (upd f i.toNatClampNeg x)))) := by
  refine m_intro (by decide +kernel) (Nat.le_of_ble_eq_true rfl) (fun X => ?_)
  refine m_iload_n X dX5_put_0 rfl rfl ?_
  refine m_if_lt (tgt := 14) X dX5_put_1 (by decide) rfl (fun b1 => absurd b1 (vi_0 hn hi)) (fun b1 => ?_)
  refine m_iload_n X dX5_put_4 rfl rfl ?_
  refine m_aload_n X dX5_put_5 rfl rfl ?_
  refine m_alen X dX5_put_6 hq rfl ?_
  refine m_icmp_ge (tgt := 14) X dX5_put_7 (by decide) rfl (fun b7 => absurd b7 (vi_1 hn hi)) (fun b7 => ?_)
  refine m_aload_n X dX5_put_10 rfl rfl ?_
  refine m_iload_n X dX5_put_11 rfl rfl ?_
  refine m_iload_n X dX5_put_12 rfl rfl ?_
  refine m_iast X dX5_put_13 hq (hi) rfl ?_
  exact m_vret X dX5_put_14 rfl (rfl) (Nat.le_of_ble_eq_true rfl) (Nat.le_of_ble_eq_true rfl) rfl
theorem c_X5_increase {h : m_H} {q n : Nat} {f : Nat → Int32} {i : Int32} (hq : h[q]? = some (m_ia n f)) (hn : n < 2 ^ 31) (hi : vp_in i n) {x : Int32} : m_Ctr M_X5_increase [.ref q, .int i, .int x] h (.inl (none, h.set q (m_ia n (upd f i.toNatClampNeg (f i.toNatClampNeg + x))))) := by
  refine m_intro (by decide +kernel) (Nat.le_of_ble_eq_true rfl) (fun X => ?_)
  refine m_iload_n X dX5_increase_0 rfl rfl ?_
  refine m_if_lt (tgt := 17) X dX5_increase_1 (by decide) rfl (fun b1 => absurd b1 (vi_0 hn hi)) (fun b1 => ?_)
  refine m_iload_n X dX5_increase_4 rfl rfl ?_
  refine m_aload_n X dX5_increase_5 rfl rfl ?_
  refine m_alen X dX5_increase_6 hq rfl ?_
  refine m_icmp_ge (tgt := 17) X dX5_increase_7 (by decide) rfl (fun b7 => absurd b7 (vi_1 hn hi)) (fun b7 => ?_)
  refine m_aload_n X dX5_increase_10 rfl rfl ?_
  refine m_iload_n X dX5_increase_11 rfl rfl ?_
  refine m_dup2 X dX5_increase_12 rfl rfl rfl ?_
  refine m_iald X dX5_increase_13 hq (hi) rfl ?_
  refine m_iload_n X dX5_increase_14 rfl rfl ?_
  refine m_iadd X dX5_increase_15 rfl ?_
  refine m_iast X dX5_increase_16 hq (hi) rfl ?_
  exact m_vret X dX5_increase_17 rfl (rfl) (Nat.le_of_ble_eq_true rfl) (Nat.le_of_ble_eq_true rfl) rfl
theorem c_X2_place {h : m_H} {x z : Int32} : m_Ctr M_X2_place [.int x, .int z] h (.inl (some (.int (x * 20 + z)), h)) := by
  refine m_intro (by decide +kernel) (Nat.le_of_ble_eq_true rfl) (fun X => ?_)
  refine m_iload_n X dX2_place_0 rfl rfl ?_
  refine m_bipush (v := (20)) X dX2_place_1 (by decide) rfl ?_
  refine m_imul X dX2_place_3 rfl ?_
  refine m_iload_n X dX2_place_4 rfl rfl ?_
  refine m_iadd X dX2_place_5 rfl ?_
  exact m_iret X dX2_place_6 rfl (rfl) (Nat.le_of_ble_eq_true rfl) (Nat.le_of_ble_eq_true rfl) rfl
theorem vx_ofWF {l : Launch} {y : MethodName} {ws ws' : List Cond} {rm : Room} {Pc : Array Value → State → Prop} {Qc : Array Value → State → Outcome → State → Prop} {XC : String → State → State → Prop} {mc ms : Nat} {free : Addr → Prop} {cc : ByteArray} {maxL : Nat} {ret : Option FieldType}
    (hy : plainFor y = true) (hw : ws = Cond.code y cc maxL ret :: ws')
    (body : ∀ p e s m args below meth c s₁, BodyLoose p l y (headSpec ws rm) cc maxL ret e s m args below meth c s₁ → c.maxLocals = maxL → (∀ x ∈ c.exceptionTable.toList, False) → Pc args s →
      W p l e (headSpec ws rm).room s m args below meth c s.heap [] 0 0 (vx_MQ below Qc XC args s mc ms free) (entryFrame m args maxL)) : vx_Met l y ws rm Pc Qc XC mc ms free := by
  refine MetFree.of_bodySF (code := cc) (maxLocals := maxL) (ret := ret) hy ?_ ?_
  · intro args s m h hn
    obtain ⟨meth, c, h1, h2, h3, h4, h5, h6, -, -⟩ := Cond.code_spec hn (atoms_spec (ws := ws) h _ (by rw [hw]; exact List.mem_cons_self))
    exact ⟨meth, c, h1, h2, h3, h4, h5, h6⟩
  · intro p e s m args below meth c s₁ B hml hP _
    have hh0 : s₁.heap = s.heap := by rw [B.state]; rfl
    have ht : ∀ x ∈ c.exceptionTable.toList, False := by
      obtain ⟨meth9, c9, h1, h2, -, -, -, -, h7, -⟩ := Cond.code_spec B.named (atoms_spec (ws := ws) B.pre _ (by rw [hw]; exact List.mem_cons_self))
      cases Option.some.inj (h1.symm.trans B.method)
      cases Option.some.inj (h2.symm.trans (Stand.of_body B).code)
      intro x hx
      rw [Array.isEmpty_iff.mp h7] at hx
      cases hx
    obtain ⟨t, a1, o, b1, b2, b3⟩ := body p e s m args below meth c s₁ B hml ht hP s₁ hh0 (Stand.of_body B)
    exact ⟨t, o, a1, b1, b2, b3⟩
theorem m_introF {M : m_M} {as : List Value} {h : m_H} {om : m_Om} (hy : plainFor (m_My M) = true) (hsz : (lg_sl as).length ≤ m_Ml M)
    (body : ∀ {D : va_G} {cI cL : ClassId} {sa : Nat → Nat} {A : Nat → Prop} {p : Program} {l : Launch} {e : Env} {s : State} {m : MethodId} {args : Array Value} {below : List Frame} {meth : Method} {c : Code} {ad : Nat → Nat}, m_At D cI cL sa (m_My M) (m_Mb M) (m_Ml M) (m_Mr M) A [] p l s m args meth c →
      m_Go D cI cL ad h.length (m_Ml M) A p l e (m_rm M) s m args below meth c (m_VQ D cI cL ad h.length A om below args s (m_Mc M) (m_Ms M)) 0 (lv_args 0 as) [] h 0 0) : m_Ctr M as h om := by
  intro l D cI cL sa ad sz hl
  refine vx_ofWF (cc := m_Mb M) (maxL := m_Ml M) (ret := m_Mr M) hy rfl ?_
  intro p e s m args below meth c s₁ B hml ht hv
  obtain ⟨rfl, hsz9, hP, hD0, hK, hE⟩ := hv
  subst hsz9
  have hD := hD0.self (sz := s.heap.size)
  have hts := atoms_spec (ws := m_Ws M) B.pre
  have X : m_At D cI cL sa (m_My M) (m_Mb M) (m_Ml M) (m_Mr M) (va_A (m_w cI cL ad h) s.heap.size) [] p l s m (as.map (m_v ad)).toArray meth c :=
    ⟨B.exec, B.bytes, hml, B.returns, B.notSynchronized, (name_of_methodNamed B.named B.method).1, findClass_of_methodNamed B.named, fun w hw => hts w (List.mem_cons_of_mem _ hw), hK, hE, fun q hq => Or.inr hq, hl, List.eq_nil_iff_forall_not_mem.mpr ht⟩
  have hl9 := lv_entry (as.map (m_v ad)) (n := m_Ml M) (by rw [m_lsl]; exact hsz)
  rw [m_largs] at hl9
  rw [lg_entry_eq]
  exact body X ad s.heap [] _ (Nat.le_refl _) (fun _ _ => rfl) hP hD va_S.rf hl9
theorem c_J9_floorDiv_7cf53 {h : m_H} {x : Int32} : m_Ctr M_J9_floorDiv_7cf53 [.int x, .int 4] h (.inl (some (.int (fl4 x)), h)) := by
  refine m_introF (by decide +kernel) (Nat.le_of_ble_eq_true rfl) (fun X => ?_)
  refine m_iload_n X dJ9_floorDiv_7cf53_0 rfl rfl ?_
  refine m_iload_n X dJ9_floorDiv_7cf53_1 rfl rfl ?_
  refine m_idiv X dJ9_floorDiv_7cf53_2 (by decide) rfl ?_
  refine m_istore_n X dJ9_floorDiv_7cf53_3 (Nat.le_of_ble_eq_true rfl) rfl ?_
  refine m_iload_n X dJ9_floorDiv_7cf53_4 rfl rfl ?_
  refine m_iload_n X dJ9_floorDiv_7cf53_5 rfl rfl ?_
  refine m_ixor X dJ9_floorDiv_7cf53_6 rfl ?_
  refine m_if_ge (tgt := 21) X dJ9_floorDiv_7cf53_7 (by decide) rfl (fun b7 => ?_) (fun b7 => ?_)
  · refine m_iload_n X dJ9_floorDiv_7cf53_21 rfl rfl ?_
    exact m_iret X dJ9_floorDiv_7cf53_22 rfl (by unfold fl4; try (first | rw [if_pos b7] | rw [if_neg b7] | rw [if_neg (not_not_intro b7)]); try rfl) (Nat.le_of_ble_eq_true rfl) (Nat.le_of_ble_eq_true rfl) rfl
  · refine m_iload_n X dJ9_floorDiv_7cf53_10 rfl rfl ?_
    refine m_iload_n X dJ9_floorDiv_7cf53_11 rfl rfl ?_
    refine m_imul X dJ9_floorDiv_7cf53_12 rfl ?_
    refine m_iload_n X dJ9_floorDiv_7cf53_13 rfl rfl ?_
    refine m_icmp_eq (tgt := 21) X dJ9_floorDiv_7cf53_14 (by decide) rfl (fun b14 => ?_) (fun b14 => ?_)
    · refine m_iload_n X dJ9_floorDiv_7cf53_21 rfl rfl ?_
      exact m_iret X dJ9_floorDiv_7cf53_22 rfl (by unfold fl4; try (first | rw [if_pos b7] | rw [if_neg b7] | rw [if_neg (not_not_intro b7)]); try (first | rw [if_pos b14] | rw [if_neg b14] | rw [if_neg (not_not_intro b14)]); try rfl) (Nat.le_of_ble_eq_true rfl) (Nat.le_of_ble_eq_true rfl) rfl
    · refine m_iload_n X dJ9_floorDiv_7cf53_17 rfl rfl ?_
      refine m_iconst (v := 1) X dJ9_floorDiv_7cf53_18 (by decide) rfl ?_
      refine m_isub X dJ9_floorDiv_7cf53_19 rfl ?_
      exact m_iret X dJ9_floorDiv_7cf53_20 rfl (by unfold fl4; try (first | rw [if_pos b7] | rw [if_neg b7] | rw [if_neg (not_not_intro b7)]); try (first | rw [if_pos b14] | rw [if_neg b14] | rw [if_neg (not_not_intro b14)]); try rfl) (Nat.le_of_ble_eq_true rfl) (Nat.le_of_ble_eq_true rfl) rfl
end ML

section ML3
variable {D : va_G} {cI cL : ClassId} {sa : Nat → Nat} {yn yd : String} {TB : List ExceptionTableEntry} {p : Program} {l : Launch} {e : Env} {s : State} {m : MethodId} {below : List Frame} {meth : Method} {c : Code} {b L : Nat} {xs : Nat → Int32} {n LL BB i cu su : Nat} {v : m_V} {a : m_R} {x : Int64} {lq : Int32} {f : Nat → Int64}
/-- the loop's next turn -/
def lw_next (D : va_G) (cI cL : ClassId) (p : Program) (l : Launch) (e : Env) (s : State) (m : MethodId) (below : List Frame) (meth : Method) (c : Code) (b i : Nat) : Prop :=
  ∀ (n LL BB : Nat) (v : m_V) (a : m_R) (x : Int64) (lq : Int32) (f : Nat → Int64) (cu su : Nat), Inv n LL BB v a → n ≤ 50 * i → cu ≤ 32 + i → su ≤ 1560 + 6 * i → m_Go D cI cL (fun _ => b) 0 8 (fun q : Nat => s.heap.size ≤ q) p l e room_1 s m #[Value.ref b] below meth c (lw_Z below #[Value.ref b] s) 23 [(4, .int (nI (4 * i))), (3, .ref 31), (2, .ref 17), (1, .ref 0), (0, .ref m_BI)] [] (hL v a x v a x lq [m_la 1 f]) cu su
theorem lw_c0 (X : m_At D cI cL sa ⟨RL, yn, yd⟩ code 8 ret (fun q : Nat => s.heap.size ≤ q) TB p l s m #[Value.ref b] meth c) (hN : ∀ q ∈ m_ncs, va_Nc q.1 q.2 s) (hX : va_X b L xs s s.heap) (hbl : b < s.heap.size) (hbA : ¬ (fun q : Nat => s.heap.size ≤ q) b) (hL9 : L ≤ 2048) (hi : 4 * i + 4 ≤ L) (h : Inv n LL BB v a) (hn : n ≤ 50 * i) (hcu : cu ≤ 32 + i) (hsu : su ≤ 1560 + 6 * i) (ih : lw_next D cI cL p l e s m below meth c b (i + 1)) : m_Go D cI cL (fun _ => b) 0 8 (fun q : Nat => s.heap.size ≤ q) p l e room_1 s m #[Value.ref b] below meth c (lw_Z below #[Value.ref b] s) 172 [(4, .int (nI (4 * i))), (3, .ref 31), (2, .ref 17), (1, .ref 0), (0, .ref m_BI)] [] (hL v a x v a x lq [m_la 1 f]) cu su := by
  obtain ⟨k, r, v9, a9, x9, f9, n9, L9, B9, hW, hM, hF, hI, hn9⟩ := s_tick (p0 := (xs (nI (4 * i) + 1).toNatClampNeg)) (lq := lq) (f := f) (x := x) (by omega) h
  refine m_aload_n X dL_law_172 rfl rfl ?_
  refine m_aload_n X dL_law_173 rfl rfl ?_
  refine m_iload X dL_law_174 rfl rfl ?_
  refine m_iconst (v := 1) X dL_law_176 (by decide) rfl ?_
  refine m_iadd X dL_law_177 rfl ?_
  refine m_sld X hX hbl hbA dL_law_178 (sc_in 1 (by decide) hi hL9) (Nat.le_of_ble_eq_true rfl) rfl ?_
  refine m_aload_n X dL_law_179 rfl rfl ?_
  refine m_callN3 (n := 0) X hN dL_law_180 ll_L_87 mk_L_tick st_L_tick hW rfl (Nat.le_of_ble_eq_true rfl) (Nat.le_of_ble_eq_true rfl) (Nat.le_of_ble_eq_true rfl) (show cu + 1 ≤ 1061 by omega) (show su + 6 ≤ 9782 by omega) rfl ?_
  refine m_istore X dL_law_183 (by decide) rfl ?_
  refine m_aload_n X dL_law_185 rfl rfl ?_
  refine m_aload_n X dL_law_186 rfl rfl ?_
  refine m_iload X dL_law_187 rfl rfl ?_
  refine m_iconst (v := 1) X dL_law_189 (by decide) rfl ?_
  refine m_iadd X dL_law_190 rfl ?_
  refine m_sld X hX hbl hbA dL_law_191 (sc_in 1 (by decide) hi hL9) (Nat.le_of_ble_eq_true rfl) rfl ?_
  refine m_cV1 X dL_law_192 lk_L_92 mk_X6_tick in_X6_tick se_X6_tick rfl rfl hM rfl (Nat.le_of_ble_eq_true rfl) (Nat.le_of_ble_eq_true rfl) (Nat.le_of_ble_eq_true rfl) (show cu + 1 + 0 ≤ 1061 by omega) (show su + 6 + 0 ≤ 9782 by omega) rfl ?_
  refine m_istore X dL_law_195 (by decide) rfl ?_
  refine m_aload_n X dL_law_197 rfl rfl ?_
  refine m_cV0 X dL_law_198 lk_L_93 mk_X6_thrown in_X6_thrown se_X6_thrown rfl rfl c_X6_thrown rfl (Nat.le_of_ble_eq_true rfl) (Nat.le_of_ble_eq_true rfl) (Nat.le_of_ble_eq_true rfl) (show cu + 1 + 0 + 0 ≤ 1061 by omega) (show su + 6 + 0 + 0 ≤ 9782 by omega) rfl ?_
  refine m_iload X dL_law_201 rfl rfl ?_
  refine m_icmp_eq (tgt := 208) X dL_law_203 (by decide) rfl (fun _ => ?_) (fun q => absurd rfl q)
  refine m_iload X dL_law_208 rfl rfl ?_
  refine m_if_ne (tgt := 225) X dL_law_210 (by decide) rfl (fun hk => ?_) (fun hk => ?_)
  · skip
    refine m_goto (tgt := 1488) X dL_law_225 (by decide) rfl ?_
    refine m_iinc (i := 4) (n := 4) X dL_law_1488 rfl (by decide) rfl ?_
    refine m_goto (tgt := 23) X dL_law_1491 (by decide) rfl ?_
    refine m_lp (l1 := [(4, .int (nI (4 * (i + 1)))), (3, .ref 31), (2, .ref 17), (1, .ref 0), (0, .ref m_BI)]) [0, 3, 4, 5, 6] (by rw [← nI_4]; rfl) ?_
    exact ih _ _ _ _ _ _ _ _ _ _ hI (by omega) (show cu + 1 + 0 + 0 ≤ 32 + (i + 1) by omega) (show su + 6 + 0 + 0 ≤ 1560 + 6 * (i + 1) by omega)
  · skip
    refine m_aload_n X dL_law_213 rfl rfl ?_
    refine m_iconst (v := 0) X dL_law_214 (by decide) rfl ?_
    refine m_lald X dL_law_215 rfl (vp_in_nI (n := 0) (by decide) (by decide)) rfl ?_
    refine m_iload X dL_law_216 rfl rfl ?_
    refine m_i2l X dL_law_218 rfl ?_
    refine m_lcmp X dL_law_219 rfl ?_
    refine m_if_eq (tgt := 225) X dL_law_220 (by decide) rfl (fun _ => ?_) (fun q => absurd (lg_cmp_0 (hF hk)) q)
    refine m_goto (tgt := 1488) X dL_law_225 (by decide) rfl ?_
    refine m_iinc (i := 4) (n := 4) X dL_law_1488 rfl (by decide) rfl ?_
    refine m_goto (tgt := 23) X dL_law_1491 (by decide) rfl ?_
    refine m_lp (l1 := [(4, .int (nI (4 * (i + 1)))), (3, .ref 31), (2, .ref 17), (1, .ref 0), (0, .ref m_BI)]) [0, 3, 4, 5, 6] (by rw [← nI_4]; rfl) ?_
    exact ih _ _ _ _ _ _ _ _ _ _ hI (by omega) (show cu + 1 + 0 + 0 ≤ 32 + (i + 1) by omega) (show su + 6 + 0 + 0 ≤ 1560 + 6 * (i + 1) by omega)
theorem lw_c1 (X : m_At D cI cL sa ⟨RL, yn, yd⟩ code 8 ret (fun q : Nat => s.heap.size ≤ q) TB p l s m #[Value.ref b] meth c) (hN : ∀ q ∈ m_ncs, va_Nc q.1 q.2 s) (hX : va_X b L xs s s.heap) (hbl : b < s.heap.size) (hbA : ¬ (fun q : Nat => s.heap.size ≤ q) b) (hL9 : L ≤ 2048) (hi : 4 * i + 4 ≤ L) (h : Inv n LL BB v a) (hn : n ≤ 50 * i) (hcu : cu ≤ 32 + i) (hsu : su ≤ 1560 + 6 * i) (ih : lw_next D cI cL p l e s m below meth c b (i + 1)) : m_Go D cI cL (fun _ => b) 0 8 (fun q : Nat => s.heap.size ≤ q) p l e room_1 s m #[Value.ref b] below meth c (lw_Z below #[Value.ref b] s) 228 [(4, .int (nI (4 * i))), (3, .ref 31), (2, .ref 17), (1, .ref 0), (0, .ref m_BI)] [] (hL v a x v a x lq [m_la 1 f]) cu su := by
  obtain ⟨k, r, v9, a9, x9, f9, n9, L9, B9, hW, hM, hF, hI, hn9⟩ := s_ticks (p0 := (xs (nI (4 * i) + 1).toNatClampNeg)) (p1 := (xs (nI (4 * i) + 2).toNatClampNeg)) (lq := lq) (f := f) (x := x) (by omega) h
  refine m_aload_n X dL_law_228 rfl rfl ?_
  refine m_aload_n X dL_law_229 rfl rfl ?_
  refine m_iload X dL_law_230 rfl rfl ?_
  refine m_iconst (v := 1) X dL_law_232 (by decide) rfl ?_
  refine m_iadd X dL_law_233 rfl ?_
  refine m_sld X hX hbl hbA dL_law_234 (sc_in 1 (by decide) hi hL9) (Nat.le_of_ble_eq_true rfl) rfl ?_
  refine m_aload_n X dL_law_235 rfl rfl ?_
  refine m_iload X dL_law_236 rfl rfl ?_
  refine m_iconst (v := 2) X dL_law_238 (by decide) rfl ?_
  refine m_iadd X dL_law_239 rfl ?_
  refine m_sld X hX hbl hbA dL_law_240 (sc_in 2 (by decide) hi hL9) (Nat.le_of_ble_eq_true rfl) rfl ?_
  refine m_aload_n X dL_law_241 rfl rfl ?_
  refine m_callN4 (n := 0) X hN dL_law_242 ll_L_96 mk_L_ticks st_L_ticks hW rfl (Nat.le_of_ble_eq_true rfl) (Nat.le_of_ble_eq_true rfl) (Nat.le_of_ble_eq_true rfl) (show cu + 1 ≤ 1061 by omega) (show su + 6 ≤ 9782 by omega) rfl ?_
  refine m_istore X dL_law_245 (by decide) rfl ?_
  refine m_aload_n X dL_law_247 rfl rfl ?_
  refine m_aload_n X dL_law_248 rfl rfl ?_
  refine m_iload X dL_law_249 rfl rfl ?_
  refine m_iconst (v := 1) X dL_law_251 (by decide) rfl ?_
  refine m_iadd X dL_law_252 rfl ?_
  refine m_sld X hX hbl hbA dL_law_253 (sc_in 1 (by decide) hi hL9) (Nat.le_of_ble_eq_true rfl) rfl ?_
  refine m_aload_n X dL_law_254 rfl rfl ?_
  refine m_iload X dL_law_255 rfl rfl ?_
  refine m_iconst (v := 2) X dL_law_257 (by decide) rfl ?_
  refine m_iadd X dL_law_258 rfl ?_
  refine m_sld X hX hbl hbA dL_law_259 (sc_in 2 (by decide) hi hL9) (Nat.le_of_ble_eq_true rfl) rfl ?_
  refine m_cV2 X dL_law_260 lk_L_99 mk_X6_ticks in_X6_ticks se_X6_ticks rfl rfl hM rfl (Nat.le_of_ble_eq_true rfl) (Nat.le_of_ble_eq_true rfl) (Nat.le_of_ble_eq_true rfl) (show cu + 1 + 0 ≤ 1061 by omega) (show su + 6 + 0 ≤ 9782 by omega) rfl ?_
  refine m_istore X dL_law_263 (by decide) rfl ?_
  refine m_aload_n X dL_law_265 rfl rfl ?_
  refine m_cV0 X dL_law_266 lk_L_93 mk_X6_thrown in_X6_thrown se_X6_thrown rfl rfl c_X6_thrown rfl (Nat.le_of_ble_eq_true rfl) (Nat.le_of_ble_eq_true rfl) (Nat.le_of_ble_eq_true rfl) (show cu + 1 + 0 + 0 ≤ 1061 by omega) (show su + 6 + 0 + 0 ≤ 9782 by omega) rfl ?_
  refine m_iload X dL_law_269 rfl rfl ?_
  refine m_icmp_eq (tgt := 276) X dL_law_271 (by decide) rfl (fun _ => ?_) (fun q => absurd rfl q)
  refine m_iload X dL_law_276 rfl rfl ?_
  refine m_if_ne (tgt := 293) X dL_law_278 (by decide) rfl (fun hk => ?_) (fun hk => ?_)
  · skip
    refine m_goto (tgt := 1488) X dL_law_293 (by decide) rfl ?_
    refine m_iinc (i := 4) (n := 4) X dL_law_1488 rfl (by decide) rfl ?_
    refine m_goto (tgt := 23) X dL_law_1491 (by decide) rfl ?_
    refine m_lp (l1 := [(4, .int (nI (4 * (i + 1)))), (3, .ref 31), (2, .ref 17), (1, .ref 0), (0, .ref m_BI)]) [0, 3, 4, 5, 6] (by rw [← nI_4]; rfl) ?_
    exact ih _ _ _ _ _ _ _ _ _ _ hI (by omega) (show cu + 1 + 0 + 0 ≤ 32 + (i + 1) by omega) (show su + 6 + 0 + 0 ≤ 1560 + 6 * (i + 1) by omega)
  · skip
    refine m_aload_n X dL_law_281 rfl rfl ?_
    refine m_iconst (v := 0) X dL_law_282 (by decide) rfl ?_
    refine m_lald X dL_law_283 rfl (vp_in_nI (n := 0) (by decide) (by decide)) rfl ?_
    refine m_iload X dL_law_284 rfl rfl ?_
    refine m_i2l X dL_law_286 rfl ?_
    refine m_lcmp X dL_law_287 rfl ?_
    refine m_if_eq (tgt := 293) X dL_law_288 (by decide) rfl (fun _ => ?_) (fun q => absurd (lg_cmp_0 (hF hk)) q)
    refine m_goto (tgt := 1488) X dL_law_293 (by decide) rfl ?_
    refine m_iinc (i := 4) (n := 4) X dL_law_1488 rfl (by decide) rfl ?_
    refine m_goto (tgt := 23) X dL_law_1491 (by decide) rfl ?_
    refine m_lp (l1 := [(4, .int (nI (4 * (i + 1)))), (3, .ref 31), (2, .ref 17), (1, .ref 0), (0, .ref m_BI)]) [0, 3, 4, 5, 6] (by rw [← nI_4]; rfl) ?_
    exact ih _ _ _ _ _ _ _ _ _ _ hI (by omega) (show cu + 1 + 0 + 0 ≤ 32 + (i + 1) by omega) (show su + 6 + 0 + 0 ≤ 1560 + 6 * (i + 1) by omega)
theorem lw_c2 (X : m_At D cI cL sa ⟨RL, yn, yd⟩ code 8 ret (fun q : Nat => s.heap.size ≤ q) TB p l s m #[Value.ref b] meth c) (hN : ∀ q ∈ m_ncs, va_Nc q.1 q.2 s) (hX : va_X b L xs s s.heap) (hbl : b < s.heap.size) (hbA : ¬ (fun q : Nat => s.heap.size ≤ q) b) (hL9 : L ≤ 2048) (hi : 4 * i + 4 ≤ L) (h : Inv n LL BB v a) (hn : n ≤ 50 * i) (hcu : cu ≤ 32 + i) (hsu : su ≤ 1560 + 6 * i) (ih : lw_next D cI cL p l e s m below meth c b (i + 1)) : m_Go D cI cL (fun _ => b) 0 8 (fun q : Nat => s.heap.size ≤ q) p l e room_1 s m #[Value.ref b] below meth c (lw_Z below #[Value.ref b] s) 296 [(4, .int (nI (4 * i))), (3, .ref 31), (2, .ref 17), (1, .ref 0), (0, .ref m_BI)] [] (hL v a x v a x lq [m_la 1 f]) cu su := by
  obtain ⟨k, r, v9, a9, x9, f9, n9, L9, B9, hW, hM, hF, hI, hn9⟩ := s_zero  (lq := lq) (f := f) (x := x) (by omega) h
  refine m_aload_n X dL_law_296 rfl rfl ?_
  refine m_aload_n X dL_law_297 rfl rfl ?_
  refine m_callN2 (n := 0) X hN dL_law_298 ll_L_100 mk_L_zero st_L_zero hW rfl (Nat.le_of_ble_eq_true rfl) (Nat.le_of_ble_eq_true rfl) (Nat.le_of_ble_eq_true rfl) (show cu + 1 ≤ 1061 by omega) (show su + 6 ≤ 9782 by omega) rfl ?_
  refine m_istore X dL_law_301 (by decide) rfl ?_
  refine m_aload_n X dL_law_303 rfl rfl ?_
  refine m_cV0 X dL_law_304 lk_L_103 mk_X6_zero in_X6_zero se_X6_zero rfl rfl hM rfl (Nat.le_of_ble_eq_true rfl) (Nat.le_of_ble_eq_true rfl) (Nat.le_of_ble_eq_true rfl) (show cu + 1 + 0 ≤ 1061 by omega) (show su + 6 + 0 ≤ 9782 by omega) rfl ?_
  refine m_istore X dL_law_307 (by decide) rfl ?_
  refine m_aload_n X dL_law_309 rfl rfl ?_
  refine m_cV0 X dL_law_310 lk_L_93 mk_X6_thrown in_X6_thrown se_X6_thrown rfl rfl c_X6_thrown rfl (Nat.le_of_ble_eq_true rfl) (Nat.le_of_ble_eq_true rfl) (Nat.le_of_ble_eq_true rfl) (show cu + 1 + 0 + 0 ≤ 1061 by omega) (show su + 6 + 0 + 0 ≤ 9782 by omega) rfl ?_
  refine m_iload X dL_law_313 rfl rfl ?_
  refine m_icmp_eq (tgt := 320) X dL_law_315 (by decide) rfl (fun _ => ?_) (fun q => absurd rfl q)
  refine m_iload X dL_law_320 rfl rfl ?_
  refine m_if_ne (tgt := 337) X dL_law_322 (by decide) rfl (fun hk => ?_) (fun hk => ?_)
  · skip
    refine m_goto (tgt := 1488) X dL_law_337 (by decide) rfl ?_
    refine m_iinc (i := 4) (n := 4) X dL_law_1488 rfl (by decide) rfl ?_
    refine m_goto (tgt := 23) X dL_law_1491 (by decide) rfl ?_
    refine m_lp (l1 := [(4, .int (nI (4 * (i + 1)))), (3, .ref 31), (2, .ref 17), (1, .ref 0), (0, .ref m_BI)]) [0, 3, 4, 5, 6] (by rw [← nI_4]; rfl) ?_
    exact ih _ _ _ _ _ _ _ _ _ _ hI (by omega) (show cu + 1 + 0 + 0 ≤ 32 + (i + 1) by omega) (show su + 6 + 0 + 0 ≤ 1560 + 6 * (i + 1) by omega)
  · skip
    refine m_aload_n X dL_law_325 rfl rfl ?_
    refine m_iconst (v := 0) X dL_law_326 (by decide) rfl ?_
    refine m_lald X dL_law_327 rfl (vp_in_nI (n := 0) (by decide) (by decide)) rfl ?_
    refine m_iload X dL_law_328 rfl rfl ?_
    refine m_i2l X dL_law_330 rfl ?_
    refine m_lcmp X dL_law_331 rfl ?_
    refine m_if_eq (tgt := 337) X dL_law_332 (by decide) rfl (fun _ => ?_) (fun q => absurd (lg_cmp_0 (hF hk)) q)
    refine m_goto (tgt := 1488) X dL_law_337 (by decide) rfl ?_
    refine m_iinc (i := 4) (n := 4) X dL_law_1488 rfl (by decide) rfl ?_
    refine m_goto (tgt := 23) X dL_law_1491 (by decide) rfl ?_
    refine m_lp (l1 := [(4, .int (nI (4 * (i + 1)))), (3, .ref 31), (2, .ref 17), (1, .ref 0), (0, .ref m_BI)]) [0, 3, 4, 5, 6] (by rw [← nI_4]; rfl) ?_
    exact ih _ _ _ _ _ _ _ _ _ _ hI (by omega) (show cu + 1 + 0 + 0 ≤ 32 + (i + 1) by omega) (show su + 6 + 0 + 0 ≤ 1560 + 6 * (i + 1) by omega)
theorem lw_c3 (X : m_At D cI cL sa ⟨RL, yn, yd⟩ code 8 ret (fun q : Nat => s.heap.size ≤ q) TB p l s m #[Value.ref b] meth c) (hN : ∀ q ∈ m_ncs, va_Nc q.1 q.2 s) (hX : va_X b L xs s s.heap) (hbl : b < s.heap.size) (hbA : ¬ (fun q : Nat => s.heap.size ≤ q) b) (hL9 : L ≤ 2048) (hi : 4 * i + 4 ≤ L) (h : Inv n LL BB v a) (hn : n ≤ 50 * i) (hcu : cu ≤ 32 + i) (hsu : su ≤ 1560 + 6 * i) (ih : lw_next D cI cL p l e s m below meth c b (i + 1)) : m_Go D cI cL (fun _ => b) 0 8 (fun q : Nat => s.heap.size ≤ q) p l e room_1 s m #[Value.ref b] below meth c (lw_Z below #[Value.ref b] s) 340 [(4, .int (nI (4 * i))), (3, .ref 31), (2, .ref 17), (1, .ref 0), (0, .ref m_BI)] [] (hL v a x v a x lq [m_la 1 f]) cu su := by
  obtain ⟨k, r, v9, a9, x9, f9, n9, L9, B9, hW, hM, hF, hI, hn9⟩ := s_setBand (p0 := (xs (nI (4 * i) + 1).toNatClampNeg)) (lq := lq) (f := f) (x := x) (by omega) h
  refine m_aload_n X dL_law_340 rfl rfl ?_
  refine m_aload_n X dL_law_341 rfl rfl ?_
  refine m_iload X dL_law_342 rfl rfl ?_
  refine m_iconst (v := 1) X dL_law_344 (by decide) rfl ?_
  refine m_iadd X dL_law_345 rfl ?_
  refine m_sld X hX hbl hbA dL_law_346 (sc_in 1 (by decide) hi hL9) (Nat.le_of_ble_eq_true rfl) rfl ?_
  refine m_aload_n X dL_law_347 rfl rfl ?_
  refine m_callN3 (n := 0) X hN dL_law_348 ll_L_104 mk_L_setBand st_L_setBand hW rfl (Nat.le_of_ble_eq_true rfl) (Nat.le_of_ble_eq_true rfl) (Nat.le_of_ble_eq_true rfl) (show cu + 1 ≤ 1061 by omega) (show su + 6 ≤ 9782 by omega) rfl ?_
  refine m_istore X dL_law_351 (by decide) rfl ?_
  refine m_aload_n X dL_law_353 rfl rfl ?_
  refine m_aload_n X dL_law_354 rfl rfl ?_
  refine m_iload X dL_law_355 rfl rfl ?_
  refine m_iconst (v := 1) X dL_law_357 (by decide) rfl ?_
  refine m_iadd X dL_law_358 rfl ?_
  refine m_sld X hX hbl hbA dL_law_359 (sc_in 1 (by decide) hi hL9) (Nat.le_of_ble_eq_true rfl) rfl ?_
  refine m_cV1 X dL_law_360 lk_L_106 mk_X6_setBand in_X6_setBand se_X6_setBand rfl rfl hM rfl (Nat.le_of_ble_eq_true rfl) (Nat.le_of_ble_eq_true rfl) (Nat.le_of_ble_eq_true rfl) (show cu + 1 + 0 ≤ 1061 by omega) (show su + 6 + 0 ≤ 9782 by omega) rfl ?_
  refine m_istore X dL_law_363 (by decide) rfl ?_
  refine m_aload_n X dL_law_365 rfl rfl ?_
  refine m_cV0 X dL_law_366 lk_L_93 mk_X6_thrown in_X6_thrown se_X6_thrown rfl rfl c_X6_thrown rfl (Nat.le_of_ble_eq_true rfl) (Nat.le_of_ble_eq_true rfl) (Nat.le_of_ble_eq_true rfl) (show cu + 1 + 0 + 0 ≤ 1061 by omega) (show su + 6 + 0 + 0 ≤ 9782 by omega) rfl ?_
  refine m_iload X dL_law_369 rfl rfl ?_
  refine m_icmp_eq (tgt := 376) X dL_law_371 (by decide) rfl (fun _ => ?_) (fun q => absurd rfl q)
  refine m_iload X dL_law_376 rfl rfl ?_
  refine m_if_ne (tgt := 393) X dL_law_378 (by decide) rfl (fun hk => ?_) (fun hk => ?_)
  · skip
    refine m_goto (tgt := 1488) X dL_law_393 (by decide) rfl ?_
    refine m_iinc (i := 4) (n := 4) X dL_law_1488 rfl (by decide) rfl ?_
    refine m_goto (tgt := 23) X dL_law_1491 (by decide) rfl ?_
    refine m_lp (l1 := [(4, .int (nI (4 * (i + 1)))), (3, .ref 31), (2, .ref 17), (1, .ref 0), (0, .ref m_BI)]) [0, 3, 4, 5, 6] (by rw [← nI_4]; rfl) ?_
    exact ih _ _ _ _ _ _ _ _ _ _ hI (by omega) (show cu + 1 + 0 + 0 ≤ 32 + (i + 1) by omega) (show su + 6 + 0 + 0 ≤ 1560 + 6 * (i + 1) by omega)
  · skip
    refine m_aload_n X dL_law_381 rfl rfl ?_
    refine m_iconst (v := 0) X dL_law_382 (by decide) rfl ?_
    refine m_lald X dL_law_383 rfl (vp_in_nI (n := 0) (by decide) (by decide)) rfl ?_
    refine m_iload X dL_law_384 rfl rfl ?_
    refine m_i2l X dL_law_386 rfl ?_
    refine m_lcmp X dL_law_387 rfl ?_
    refine m_if_eq (tgt := 393) X dL_law_388 (by decide) rfl (fun _ => ?_) (fun q => absurd (lg_cmp_0 (hF hk)) q)
    refine m_goto (tgt := 1488) X dL_law_393 (by decide) rfl ?_
    refine m_iinc (i := 4) (n := 4) X dL_law_1488 rfl (by decide) rfl ?_
    refine m_goto (tgt := 23) X dL_law_1491 (by decide) rfl ?_
    refine m_lp (l1 := [(4, .int (nI (4 * (i + 1)))), (3, .ref 31), (2, .ref 17), (1, .ref 0), (0, .ref m_BI)]) [0, 3, 4, 5, 6] (by rw [← nI_4]; rfl) ?_
    exact ih _ _ _ _ _ _ _ _ _ _ hI (by omega) (show cu + 1 + 0 + 0 ≤ 32 + (i + 1) by omega) (show su + 6 + 0 + 0 ≤ 1560 + 6 * (i + 1) by omega)
theorem lw_c4 (X : m_At D cI cL sa ⟨RL, yn, yd⟩ code 8 ret (fun q : Nat => s.heap.size ≤ q) TB p l s m #[Value.ref b] meth c) (hN : ∀ q ∈ m_ncs, va_Nc q.1 q.2 s) (hX : va_X b L xs s s.heap) (hbl : b < s.heap.size) (hbA : ¬ (fun q : Nat => s.heap.size ≤ q) b) (hL9 : L ≤ 2048) (hi : 4 * i + 4 ≤ L) (h : Inv n LL BB v a) (hn : n ≤ 50 * i) (hcu : cu ≤ 32 + i) (hsu : su ≤ 1560 + 6 * i) (ih : lw_next D cI cL p l e s m below meth c b (i + 1)) : m_Go D cI cL (fun _ => b) 0 8 (fun q : Nat => s.heap.size ≤ q) p l e room_1 s m #[Value.ref b] below meth c (lw_Z below #[Value.ref b] s) 396 [(4, .int (nI (4 * i))), (3, .ref 31), (2, .ref 17), (1, .ref 0), (0, .ref m_BI)] [] (hL v a x v a x lq [m_la 1 f]) cu su := by
  refine m_aload_n X dL_law_396 rfl rfl ?_
  refine m_cV0 X dL_law_397 lk_L_107 mk_X5_gross in_X5_gross se_X5_gross rfl rfl c_X5_gross rfl (Nat.le_of_ble_eq_true rfl) (Nat.le_of_ble_eq_true rfl) (Nat.le_of_ble_eq_true rfl) (show cu + 0 ≤ 1061 by omega) (show su + 0 ≤ 9782 by omega) rfl ?_
  refine m_aload_n X dL_law_400 rfl rfl ?_
  refine m_cV0 X dL_law_401 lk_L_110 mk_X6_gross in_X6_gross se_X6_gross rfl rfl c_X6_gross rfl (Nat.le_of_ble_eq_true rfl) (Nat.le_of_ble_eq_true rfl) (Nat.le_of_ble_eq_true rfl) (show cu + 0 + 0 ≤ 1061 by omega) (show su + 0 + 0 ≤ 9782 by omega) rfl ?_
  refine m_icmp_eq (tgt := 1488) X dL_law_404 (by decide) rfl (fun _ => ?_) (fun q => absurd rfl q)
  refine m_iinc (i := 4) (n := 4) X dL_law_1488 rfl (by decide) rfl ?_
  refine m_goto (tgt := 23) X dL_law_1491 (by decide) rfl ?_
  refine m_lp (l1 := [(4, .int (nI (4 * (i + 1)))), (3, .ref 31), (2, .ref 17), (1, .ref 0), (0, .ref m_BI)]) [0, 1, 2, 3, 4] (by rw [← nI_4]; rfl) ?_
  exact ih _ _ _ _ _ _ _ _ _ _ h (by omega) (show cu + 0 + 0 ≤ 32 + (i + 1) by omega) (show su + 0 + 0 ≤ 1560 + 6 * (i + 1) by omega)
theorem lw_c5 (X : m_At D cI cL sa ⟨RL, yn, yd⟩ code 8 ret (fun q : Nat => s.heap.size ≤ q) TB p l s m #[Value.ref b] meth c) (hN : ∀ q ∈ m_ncs, va_Nc q.1 q.2 s) (hX : va_X b L xs s s.heap) (hbl : b < s.heap.size) (hbA : ¬ (fun q : Nat => s.heap.size ≤ q) b) (hL9 : L ≤ 2048) (hi : 4 * i + 4 ≤ L) (h : Inv n LL BB v a) (hn : n ≤ 50 * i) (hcu : cu ≤ 32 + i) (hsu : su ≤ 1560 + 6 * i) (ih : lw_next D cI cL p l e s m below meth c b (i + 1)) : m_Go D cI cL (fun _ => b) 0 8 (fun q : Nat => s.heap.size ≤ q) p l e room_1 s m #[Value.ref b] below meth c (lw_Z below #[Value.ref b] s) 409 [(4, .int (nI (4 * i))), (3, .ref 31), (2, .ref 17), (1, .ref 0), (0, .ref m_BI)] [] (hL v a x v a x lq [m_la 1 f]) cu su := by
  refine m_aload_n X dL_law_409 rfl rfl ?_
  refine m_cV0 X dL_law_410 lk_L_111 mk_X5_net in_X5_net se_X5_net rfl rfl c_X5_net rfl (Nat.le_of_ble_eq_true rfl) (Nat.le_of_ble_eq_true rfl) (Nat.le_of_ble_eq_true rfl) (show cu + 0 ≤ 1061 by omega) (show su + 0 ≤ 9782 by omega) rfl ?_
  refine m_aload_n X dL_law_413 rfl rfl ?_
  refine m_cV0 X dL_law_414 lk_L_114 mk_X6_net in_X6_net se_X6_net rfl rfl c_X6_net rfl (Nat.le_of_ble_eq_true rfl) (Nat.le_of_ble_eq_true rfl) (Nat.le_of_ble_eq_true rfl) (show cu + 0 + 0 ≤ 1061 by omega) (show su + 0 + 0 ≤ 9782 by omega) rfl ?_
  refine m_icmp_eq (tgt := 1488) X dL_law_417 (by decide) rfl (fun _ => ?_) (fun q => absurd rfl q)
  refine m_iinc (i := 4) (n := 4) X dL_law_1488 rfl (by decide) rfl ?_
  refine m_goto (tgt := 23) X dL_law_1491 (by decide) rfl ?_
  refine m_lp (l1 := [(4, .int (nI (4 * (i + 1)))), (3, .ref 31), (2, .ref 17), (1, .ref 0), (0, .ref m_BI)]) [0, 1, 2, 3, 4] (by rw [← nI_4]; rfl) ?_
  exact ih _ _ _ _ _ _ _ _ _ _ h (by omega) (show cu + 0 + 0 ≤ 32 + (i + 1) by omega) (show su + 0 + 0 ≤ 1560 + 6 * (i + 1) by omega)
theorem lw_c6 (X : m_At D cI cL sa ⟨RL, yn, yd⟩ code 8 ret (fun q : Nat => s.heap.size ≤ q) TB p l s m #[Value.ref b] meth c) (hN : ∀ q ∈ m_ncs, va_Nc q.1 q.2 s) (hX : va_X b L xs s s.heap) (hbl : b < s.heap.size) (hbA : ¬ (fun q : Nat => s.heap.size ≤ q) b) (hL9 : L ≤ 2048) (hi : 4 * i + 4 ≤ L) (h : Inv n LL BB v a) (hn : n ≤ 50 * i) (hcu : cu ≤ 32 + i) (hsu : su ≤ 1560 + 6 * i) (ih : lw_next D cI cL p l e s m below meth c b (i + 1)) : m_Go D cI cL (fun _ => b) 0 8 (fun q : Nat => s.heap.size ≤ q) p l e room_1 s m #[Value.ref b] below meth c (lw_Z below #[Value.ref b] s) 422 [(4, .int (nI (4 * i))), (3, .ref 31), (2, .ref 17), (1, .ref 0), (0, .ref m_BI)] [] (hL v a x v a x lq [m_la 1 f]) cu su := by
  refine m_aload_n X dL_law_422 rfl rfl ?_
  refine m_cV0 X dL_law_423 lk_L_115 mk_X5_isSettled in_X5_isSettled se_X5_isSettled rfl rfl c_X5_isSettled rfl (Nat.le_of_ble_eq_true rfl) (Nat.le_of_ble_eq_true rfl) (Nat.le_of_ble_eq_true rfl) (show cu + 0 ≤ 1061 by omega) (show su + 0 ≤ 9782 by omega) rfl ?_
  refine m_aload_n X dL_law_426 rfl rfl ?_
  refine m_cV0 X dL_law_427 lk_L_119 mk_X6_isSettled in_X6_isSettled se_X6_isSettled rfl rfl (c_X6_isSettled (inv_rS (by omega) h)) rfl (Nat.le_of_ble_eq_true rfl) (Nat.le_of_ble_eq_true rfl) (Nat.le_of_ble_eq_true rfl) (show cu + 0 + 0 ≤ 1061 by omega) (show su + 0 + 0 ≤ 9782 by omega) rfl ?_
  refine m_icmp_eq (tgt := 1488) X dL_law_430 (by decide) rfl (fun _ => ?_) (fun q => absurd rfl q)
  refine m_iinc (i := 4) (n := 4) X dL_law_1488 rfl (by decide) rfl ?_
  refine m_goto (tgt := 23) X dL_law_1491 (by decide) rfl ?_
  refine m_lp (l1 := [(4, .int (nI (4 * (i + 1)))), (3, .ref 31), (2, .ref 17), (1, .ref 0), (0, .ref m_BI)]) [0, 1, 2, 3, 4] (by rw [← nI_4]; rfl) ?_
  exact ih _ _ _ _ _ _ _ _ _ _ h (by omega) (show cu + 0 + 0 ≤ 32 + (i + 1) by omega) (show su + 0 + 0 ≤ 1560 + 6 * (i + 1) by omega)
theorem lw_c7 (X : m_At D cI cL sa ⟨RL, yn, yd⟩ code 8 ret (fun q : Nat => s.heap.size ≤ q) TB p l s m #[Value.ref b] meth c) (hN : ∀ q ∈ m_ncs, va_Nc q.1 q.2 s) (hX : va_X b L xs s s.heap) (hbl : b < s.heap.size) (hbA : ¬ (fun q : Nat => s.heap.size ≤ q) b) (hL9 : L ≤ 2048) (hi : 4 * i + 4 ≤ L) (h : Inv n LL BB v a) (hn : n ≤ 50 * i) (hcu : cu ≤ 32 + i) (hsu : su ≤ 1560 + 6 * i) (ih : lw_next D cI cL p l e s m below meth c b (i + 1)) : m_Go D cI cL (fun _ => b) 0 8 (fun q : Nat => s.heap.size ≤ q) p l e room_1 s m #[Value.ref b] below meth c (lw_Z below #[Value.ref b] s) 435 [(4, .int (nI (4 * i))), (3, .ref 31), (2, .ref 17), (1, .ref 0), (0, .ref m_BI)] [] (hL v a x v a x lq [m_la 1 f]) cu su := by
  obtain ⟨k, r, v9, a9, x9, f9, n9, L9, B9, hW, hM, hF, hI, hn9⟩ := s_fill (p0 := (xs (nI (4 * i) + 1).toNatClampNeg)) (p1 := (xs (nI (4 * i) + 2).toNatClampNeg)) (lq := lq) (f := f) (x := x) (by omega) h
  refine m_aload_n X dL_law_435 rfl rfl ?_
  refine m_aload_n X dL_law_436 rfl rfl ?_
  refine m_iload X dL_law_437 rfl rfl ?_
  refine m_iconst (v := 1) X dL_law_439 (by decide) rfl ?_
  refine m_iadd X dL_law_440 rfl ?_
  refine m_sld X hX hbl hbA dL_law_441 (sc_in 1 (by decide) hi hL9) (Nat.le_of_ble_eq_true rfl) rfl ?_
  refine m_aload_n X dL_law_442 rfl rfl ?_
  refine m_iload X dL_law_443 rfl rfl ?_
  refine m_iconst (v := 2) X dL_law_445 (by decide) rfl ?_
  refine m_iadd X dL_law_446 rfl ?_
  refine m_sld X hX hbl hbA dL_law_447 (sc_in 2 (by decide) hi hL9) (Nat.le_of_ble_eq_true rfl) rfl ?_
  refine m_aload_n X dL_law_448 rfl rfl ?_
  refine m_callN4 (n := 0) X hN dL_law_449 ll_L_120 mk_L_fill st_L_fill hW rfl (Nat.le_of_ble_eq_true rfl) (Nat.le_of_ble_eq_true rfl) (Nat.le_of_ble_eq_true rfl) (show cu + 1 ≤ 1061 by omega) (show su + 6 ≤ 9782 by omega) rfl ?_
  refine m_istore X dL_law_452 (by decide) rfl ?_
  refine m_aload_n X dL_law_454 rfl rfl ?_
  refine m_aload_n X dL_law_455 rfl rfl ?_
  refine m_iload X dL_law_456 rfl rfl ?_
  refine m_iconst (v := 1) X dL_law_458 (by decide) rfl ?_
  refine m_iadd X dL_law_459 rfl ?_
  refine m_sld X hX hbl hbA dL_law_460 (sc_in 1 (by decide) hi hL9) (Nat.le_of_ble_eq_true rfl) rfl ?_
  refine m_aload_n X dL_law_461 rfl rfl ?_
  refine m_iload X dL_law_462 rfl rfl ?_
  refine m_iconst (v := 2) X dL_law_464 (by decide) rfl ?_
  refine m_iadd X dL_law_465 rfl ?_
  refine m_sld X hX hbl hbA dL_law_466 (sc_in 2 (by decide) hi hL9) (Nat.le_of_ble_eq_true rfl) rfl ?_
  refine m_cV2 X dL_law_467 lk_L_122 mk_X6_fill in_X6_fill se_X6_fill rfl rfl hM rfl (Nat.le_of_ble_eq_true rfl) (Nat.le_of_ble_eq_true rfl) (Nat.le_of_ble_eq_true rfl) (show cu + 1 + 0 ≤ 1061 by omega) (show su + 6 + 0 ≤ 9782 by omega) rfl ?_
  refine m_istore X dL_law_470 (by decide) rfl ?_
  refine m_aload_n X dL_law_472 rfl rfl ?_
  refine m_cV0 X dL_law_473 lk_L_93 mk_X6_thrown in_X6_thrown se_X6_thrown rfl rfl c_X6_thrown rfl (Nat.le_of_ble_eq_true rfl) (Nat.le_of_ble_eq_true rfl) (Nat.le_of_ble_eq_true rfl) (show cu + 1 + 0 + 0 ≤ 1061 by omega) (show su + 6 + 0 + 0 ≤ 9782 by omega) rfl ?_
  refine m_iload X dL_law_476 rfl rfl ?_
  refine m_icmp_eq (tgt := 483) X dL_law_478 (by decide) rfl (fun _ => ?_) (fun q => absurd rfl q)
  refine m_iload X dL_law_483 rfl rfl ?_
  refine m_if_ne (tgt := 500) X dL_law_485 (by decide) rfl (fun hk => ?_) (fun hk => ?_)
  · skip
    refine m_goto (tgt := 1488) X dL_law_500 (by decide) rfl ?_
    refine m_iinc (i := 4) (n := 4) X dL_law_1488 rfl (by decide) rfl ?_
    refine m_goto (tgt := 23) X dL_law_1491 (by decide) rfl ?_
    refine m_lp (l1 := [(4, .int (nI (4 * (i + 1)))), (3, .ref 31), (2, .ref 17), (1, .ref 0), (0, .ref m_BI)]) [0, 3, 4, 5, 6] (by rw [← nI_4]; rfl) ?_
    exact ih _ _ _ _ _ _ _ _ _ _ hI (by omega) (show cu + 1 + 0 + 0 ≤ 32 + (i + 1) by omega) (show su + 6 + 0 + 0 ≤ 1560 + 6 * (i + 1) by omega)
  · skip
    refine m_aload_n X dL_law_488 rfl rfl ?_
    refine m_iconst (v := 0) X dL_law_489 (by decide) rfl ?_
    refine m_lald X dL_law_490 rfl (vp_in_nI (n := 0) (by decide) (by decide)) rfl ?_
    refine m_iload X dL_law_491 rfl rfl ?_
    refine m_i2l X dL_law_493 rfl ?_
    refine m_lcmp X dL_law_494 rfl ?_
    refine m_if_eq (tgt := 500) X dL_law_495 (by decide) rfl (fun _ => ?_) (fun q => absurd (lg_cmp_0 (hF hk)) q)
    refine m_goto (tgt := 1488) X dL_law_500 (by decide) rfl ?_
    refine m_iinc (i := 4) (n := 4) X dL_law_1488 rfl (by decide) rfl ?_
    refine m_goto (tgt := 23) X dL_law_1491 (by decide) rfl ?_
    refine m_lp (l1 := [(4, .int (nI (4 * (i + 1)))), (3, .ref 31), (2, .ref 17), (1, .ref 0), (0, .ref m_BI)]) [0, 3, 4, 5, 6] (by rw [← nI_4]; rfl) ?_
    exact ih _ _ _ _ _ _ _ _ _ _ hI (by omega) (show cu + 1 + 0 + 0 ≤ 32 + (i + 1) by omega) (show su + 6 + 0 + 0 ≤ 1560 + 6 * (i + 1) by omega)
theorem lw_c8 (X : m_At D cI cL sa ⟨RL, yn, yd⟩ code 8 ret (fun q : Nat => s.heap.size ≤ q) TB p l s m #[Value.ref b] meth c) (hN : ∀ q ∈ m_ncs, va_Nc q.1 q.2 s) (hX : va_X b L xs s s.heap) (hbl : b < s.heap.size) (hbA : ¬ (fun q : Nat => s.heap.size ≤ q) b) (hL9 : L ≤ 2048) (hi : 4 * i + 4 ≤ L) (h : Inv n LL BB v a) (hn : n ≤ 50 * i) (hcu : cu ≤ 32 + i) (hsu : su ≤ 1560 + 6 * i) (ih : lw_next D cI cL p l e s m below meth c b (i + 1)) : m_Go D cI cL (fun _ => b) 0 8 (fun q : Nat => s.heap.size ≤ q) p l e room_1 s m #[Value.ref b] below meth c (lw_Z below #[Value.ref b] s) 503 [(4, .int (nI (4 * i))), (3, .ref 31), (2, .ref 17), (1, .ref 0), (0, .ref m_BI)] [] (hL v a x v a x lq [m_la 1 f]) cu su := by
  obtain ⟨k, r, v9, a9, x9, f9, n9, L9, B9, hW, hM, hF, hI, hn9⟩ := s_setMargin (p0 := (xs (nI (4 * i) + 1).toNatClampNeg)) (p1 := (xs (nI (4 * i) + 2).toNatClampNeg)) (lq := lq) (f := f) (x := x) (by omega) h
  refine m_aload_n X dL_law_503 rfl rfl ?_
  refine m_aload_n X dL_law_504 rfl rfl ?_
  refine m_iload X dL_law_505 rfl rfl ?_
  refine m_iconst (v := 1) X dL_law_507 (by decide) rfl ?_
  refine m_iadd X dL_law_508 rfl ?_
  refine m_sld X hX hbl hbA dL_law_509 (sc_in 1 (by decide) hi hL9) (Nat.le_of_ble_eq_true rfl) rfl ?_
  refine m_aload_n X dL_law_510 rfl rfl ?_
  refine m_iload X dL_law_511 rfl rfl ?_
  refine m_iconst (v := 2) X dL_law_513 (by decide) rfl ?_
  refine m_iadd X dL_law_514 rfl ?_
  refine m_sld X hX hbl hbA dL_law_515 (sc_in 2 (by decide) hi hL9) (Nat.le_of_ble_eq_true rfl) rfl ?_
  refine m_aload_n X dL_law_516 rfl rfl ?_
  refine m_callN4 (n := 0) X hN dL_law_517 ll_L_123 mk_L_setMargin st_L_setMargin hW rfl (Nat.le_of_ble_eq_true rfl) (Nat.le_of_ble_eq_true rfl) (Nat.le_of_ble_eq_true rfl) (show cu + 1 ≤ 1061 by omega) (show su + 6 ≤ 9782 by omega) rfl ?_
  refine m_istore X dL_law_520 (by decide) rfl ?_
  refine m_aload_n X dL_law_522 rfl rfl ?_
  refine m_aload_n X dL_law_523 rfl rfl ?_
  refine m_iload X dL_law_524 rfl rfl ?_
  refine m_iconst (v := 1) X dL_law_526 (by decide) rfl ?_
  refine m_iadd X dL_law_527 rfl ?_
  refine m_sld X hX hbl hbA dL_law_528 (sc_in 1 (by decide) hi hL9) (Nat.le_of_ble_eq_true rfl) rfl ?_
  refine m_aload_n X dL_law_529 rfl rfl ?_
  refine m_iload X dL_law_530 rfl rfl ?_
  refine m_iconst (v := 2) X dL_law_532 (by decide) rfl ?_
  refine m_iadd X dL_law_533 rfl ?_
  refine m_sld X hX hbl hbA dL_law_534 (sc_in 2 (by decide) hi hL9) (Nat.le_of_ble_eq_true rfl) rfl ?_
  refine m_cV2 X dL_law_535 lk_L_125 mk_X6_setMargin in_X6_setMargin se_X6_setMargin rfl rfl hM rfl (Nat.le_of_ble_eq_true rfl) (Nat.le_of_ble_eq_true rfl) (Nat.le_of_ble_eq_true rfl) (show cu + 1 + 0 ≤ 1061 by omega) (show su + 6 + 0 ≤ 9782 by omega) rfl ?_
  refine m_istore X dL_law_538 (by decide) rfl ?_
  refine m_aload_n X dL_law_540 rfl rfl ?_
  refine m_cV0 X dL_law_541 lk_L_93 mk_X6_thrown in_X6_thrown se_X6_thrown rfl rfl c_X6_thrown rfl (Nat.le_of_ble_eq_true rfl) (Nat.le_of_ble_eq_true rfl) (Nat.le_of_ble_eq_true rfl) (show cu + 1 + 0 + 0 ≤ 1061 by omega) (show su + 6 + 0 + 0 ≤ 9782 by omega) rfl ?_
  refine m_iload X dL_law_544 rfl rfl ?_
  refine m_icmp_eq (tgt := 551) X dL_law_546 (by decide) rfl (fun _ => ?_) (fun q => absurd rfl q)
  refine m_iload X dL_law_551 rfl rfl ?_
  refine m_if_ne (tgt := 568) X dL_law_553 (by decide) rfl (fun hk => ?_) (fun hk => ?_)
  · skip
    refine m_goto (tgt := 1488) X dL_law_568 (by decide) rfl ?_
    refine m_iinc (i := 4) (n := 4) X dL_law_1488 rfl (by decide) rfl ?_
    refine m_goto (tgt := 23) X dL_law_1491 (by decide) rfl ?_
    refine m_lp (l1 := [(4, .int (nI (4 * (i + 1)))), (3, .ref 31), (2, .ref 17), (1, .ref 0), (0, .ref m_BI)]) [0, 3, 4, 5, 6] (by rw [← nI_4]; rfl) ?_
    exact ih _ _ _ _ _ _ _ _ _ _ hI (by omega) (show cu + 1 + 0 + 0 ≤ 32 + (i + 1) by omega) (show su + 6 + 0 + 0 ≤ 1560 + 6 * (i + 1) by omega)
  · skip
    refine m_aload_n X dL_law_556 rfl rfl ?_
    refine m_iconst (v := 0) X dL_law_557 (by decide) rfl ?_
    refine m_lald X dL_law_558 rfl (vp_in_nI (n := 0) (by decide) (by decide)) rfl ?_
    refine m_iload X dL_law_559 rfl rfl ?_
    refine m_i2l X dL_law_561 rfl ?_
    refine m_lcmp X dL_law_562 rfl ?_
    refine m_if_eq (tgt := 568) X dL_law_563 (by decide) rfl (fun _ => ?_) (fun q => absurd (lg_cmp_0 (hF hk)) q)
    refine m_goto (tgt := 1488) X dL_law_568 (by decide) rfl ?_
    refine m_iinc (i := 4) (n := 4) X dL_law_1488 rfl (by decide) rfl ?_
    refine m_goto (tgt := 23) X dL_law_1491 (by decide) rfl ?_
    refine m_lp (l1 := [(4, .int (nI (4 * (i + 1)))), (3, .ref 31), (2, .ref 17), (1, .ref 0), (0, .ref m_BI)]) [0, 3, 4, 5, 6] (by rw [← nI_4]; rfl) ?_
    exact ih _ _ _ _ _ _ _ _ _ _ hI (by omega) (show cu + 1 + 0 + 0 ≤ 32 + (i + 1) by omega) (show su + 6 + 0 + 0 ≤ 1560 + 6 * (i + 1) by omega)
theorem lw_c9 (X : m_At D cI cL sa ⟨RL, yn, yd⟩ code 8 ret (fun q : Nat => s.heap.size ≤ q) TB p l s m #[Value.ref b] meth c) (hN : ∀ q ∈ m_ncs, va_Nc q.1 q.2 s) (hX : va_X b L xs s s.heap) (hbl : b < s.heap.size) (hbA : ¬ (fun q : Nat => s.heap.size ≤ q) b) (hL9 : L ≤ 2048) (hi : 4 * i + 4 ≤ L) (h : Inv n LL BB v a) (hn : n ≤ 50 * i) (hcu : cu ≤ 32 + i) (hsu : su ≤ 1560 + 6 * i) (ih : lw_next D cI cL p l e s m below meth c b (i + 1)) : m_Go D cI cL (fun _ => b) 0 8 (fun q : Nat => s.heap.size ≤ q) p l e room_1 s m #[Value.ref b] below meth c (lw_Z below #[Value.ref b] s) 571 [(4, .int (nI (4 * i))), (3, .ref 31), (2, .ref 17), (1, .ref 0), (0, .ref m_BI)] [] (hL v a x v a x lq [m_la 1 f]) cu su := by
  obtain ⟨k, r, v9, a9, x9, f9, n9, L9, B9, hW, hM, hF, hI, hn9⟩ := s_flight (p0 := (xs (nI (4 * i) + 1).toNatClampNeg)) (lq := lq) (f := f) (x := x) (by omega) h
  refine m_aload_n X dL_law_571 rfl rfl ?_
  refine m_aload_n X dL_law_572 rfl rfl ?_
  refine m_iload X dL_law_573 rfl rfl ?_
  refine m_iconst (v := 1) X dL_law_575 (by decide) rfl ?_
  refine m_iadd X dL_law_576 rfl ?_
  refine m_sld X hX hbl hbA dL_law_577 (sc_in 1 (by decide) hi hL9) (Nat.le_of_ble_eq_true rfl) rfl ?_
  refine m_aload_n X dL_law_578 rfl rfl ?_
  refine m_callN3 (n := 0) X hN dL_law_579 ll_L_126 mk_L_flight st_L_flight hW rfl (Nat.le_of_ble_eq_true rfl) (Nat.le_of_ble_eq_true rfl) (Nat.le_of_ble_eq_true rfl) (show cu + 1 ≤ 1061 by omega) (show su + 6 ≤ 9782 by omega) rfl ?_
  refine m_istore X dL_law_582 (by decide) rfl ?_
  refine m_aload_n X dL_law_584 rfl rfl ?_
  refine m_aload_n X dL_law_585 rfl rfl ?_
  refine m_iload X dL_law_586 rfl rfl ?_
  refine m_iconst (v := 1) X dL_law_588 (by decide) rfl ?_
  refine m_iadd X dL_law_589 rfl ?_
  refine m_sld X hX hbl hbA dL_law_590 (sc_in 1 (by decide) hi hL9) (Nat.le_of_ble_eq_true rfl) rfl ?_
  refine m_cV1 X dL_law_591 lk_L_128 mk_X6_flight in_X6_flight se_X6_flight rfl rfl hM rfl (Nat.le_of_ble_eq_true rfl) (Nat.le_of_ble_eq_true rfl) (Nat.le_of_ble_eq_true rfl) (show cu + 1 + 0 ≤ 1061 by omega) (show su + 6 + 0 ≤ 9782 by omega) rfl ?_
  refine m_istore X dL_law_594 (by decide) rfl ?_
  refine m_aload_n X dL_law_596 rfl rfl ?_
  refine m_cV0 X dL_law_597 lk_L_93 mk_X6_thrown in_X6_thrown se_X6_thrown rfl rfl c_X6_thrown rfl (Nat.le_of_ble_eq_true rfl) (Nat.le_of_ble_eq_true rfl) (Nat.le_of_ble_eq_true rfl) (show cu + 1 + 0 + 0 ≤ 1061 by omega) (show su + 6 + 0 + 0 ≤ 9782 by omega) rfl ?_
  refine m_iload X dL_law_600 rfl rfl ?_
  refine m_icmp_eq (tgt := 607) X dL_law_602 (by decide) rfl (fun _ => ?_) (fun q => absurd rfl q)
  refine m_iload X dL_law_607 rfl rfl ?_
  refine m_if_ne (tgt := 624) X dL_law_609 (by decide) rfl (fun hk => ?_) (fun hk => ?_)
  · skip
    refine m_goto (tgt := 1488) X dL_law_624 (by decide) rfl ?_
    refine m_iinc (i := 4) (n := 4) X dL_law_1488 rfl (by decide) rfl ?_
    refine m_goto (tgt := 23) X dL_law_1491 (by decide) rfl ?_
    refine m_lp (l1 := [(4, .int (nI (4 * (i + 1)))), (3, .ref 31), (2, .ref 17), (1, .ref 0), (0, .ref m_BI)]) [0, 3, 4, 5, 6] (by rw [← nI_4]; rfl) ?_
    exact ih _ _ _ _ _ _ _ _ _ _ hI (by omega) (show cu + 1 + 0 + 0 ≤ 32 + (i + 1) by omega) (show su + 6 + 0 + 0 ≤ 1560 + 6 * (i + 1) by omega)
  · skip
    refine m_aload_n X dL_law_612 rfl rfl ?_
    refine m_iconst (v := 0) X dL_law_613 (by decide) rfl ?_
    refine m_lald X dL_law_614 rfl (vp_in_nI (n := 0) (by decide) (by decide)) rfl ?_
    refine m_iload X dL_law_615 rfl rfl ?_
    refine m_i2l X dL_law_617 rfl ?_
    refine m_lcmp X dL_law_618 rfl ?_
    refine m_if_eq (tgt := 624) X dL_law_619 (by decide) rfl (fun _ => ?_) (fun q => absurd (lg_cmp_0 (hF hk)) q)
    refine m_goto (tgt := 1488) X dL_law_624 (by decide) rfl ?_
    refine m_iinc (i := 4) (n := 4) X dL_law_1488 rfl (by decide) rfl ?_
    refine m_goto (tgt := 23) X dL_law_1491 (by decide) rfl ?_
    refine m_lp (l1 := [(4, .int (nI (4 * (i + 1)))), (3, .ref 31), (2, .ref 17), (1, .ref 0), (0, .ref m_BI)]) [0, 3, 4, 5, 6] (by rw [← nI_4]; rfl) ?_
    exact ih _ _ _ _ _ _ _ _ _ _ hI (by omega) (show cu + 1 + 0 + 0 ≤ 32 + (i + 1) by omega) (show su + 6 + 0 + 0 ≤ 1560 + 6 * (i + 1) by omega)
theorem lw_c10 (X : m_At D cI cL sa ⟨RL, yn, yd⟩ code 8 ret (fun q : Nat => s.heap.size ≤ q) TB p l s m #[Value.ref b] meth c) (hN : ∀ q ∈ m_ncs, va_Nc q.1 q.2 s) (hX : va_X b L xs s s.heap) (hbl : b < s.heap.size) (hbA : ¬ (fun q : Nat => s.heap.size ≤ q) b) (hL9 : L ≤ 2048) (hi : 4 * i + 4 ≤ L) (h : Inv n LL BB v a) (hn : n ≤ 50 * i) (hcu : cu ≤ 32 + i) (hsu : su ≤ 1560 + 6 * i) (ih : lw_next D cI cL p l e s m below meth c b (i + 1)) : m_Go D cI cL (fun _ => b) 0 8 (fun q : Nat => s.heap.size ≤ q) p l e room_1 s m #[Value.ref b] below meth c (lw_Z below #[Value.ref b] s) 627 [(4, .int (nI (4 * i))), (3, .ref 31), (2, .ref 17), (1, .ref 0), (0, .ref m_BI)] [] (hL v a x v a x lq [m_la 1 f]) cu su := by
  obtain ⟨k, r, v9, a9, x9, f9, n9, L9, B9, hW, hM, hF, hI, hn9⟩ := s_gate (p0 := (xs (nI (4 * i) + 1).toNatClampNeg)) (lq := lq) (f := f) (x := x) (by omega) h
  refine m_aload_n X dL_law_627 rfl rfl ?_
  refine m_aload_n X dL_law_628 rfl rfl ?_
  refine m_iload X dL_law_629 rfl rfl ?_
  refine m_iconst (v := 1) X dL_law_631 (by decide) rfl ?_
  refine m_iadd X dL_law_632 rfl ?_
  refine m_sld X hX hbl hbA dL_law_633 (sc_in 1 (by decide) hi hL9) (Nat.le_of_ble_eq_true rfl) rfl ?_
  refine m_aload_n X dL_law_634 rfl rfl ?_
  refine m_callN3 (n := 0) X hN dL_law_635 ll_L_129 mk_L_gate st_L_gate hW rfl (Nat.le_of_ble_eq_true rfl) (Nat.le_of_ble_eq_true rfl) (Nat.le_of_ble_eq_true rfl) (show cu + 1 ≤ 1061 by omega) (show su + 6 ≤ 9782 by omega) rfl ?_
  refine m_istore X dL_law_638 (by decide) rfl ?_
  refine m_aload_n X dL_law_640 rfl rfl ?_
  refine m_aload_n X dL_law_641 rfl rfl ?_
  refine m_iload X dL_law_642 rfl rfl ?_
  refine m_iconst (v := 1) X dL_law_644 (by decide) rfl ?_
  refine m_iadd X dL_law_645 rfl ?_
  refine m_sld X hX hbl hbA dL_law_646 (sc_in 1 (by decide) hi hL9) (Nat.le_of_ble_eq_true rfl) rfl ?_
  refine m_cV1 X dL_law_647 lk_L_131 mk_X6_gate in_X6_gate se_X6_gate rfl rfl hM rfl (Nat.le_of_ble_eq_true rfl) (Nat.le_of_ble_eq_true rfl) (Nat.le_of_ble_eq_true rfl) (show cu + 1 + 0 ≤ 1061 by omega) (show su + 6 + 0 ≤ 9782 by omega) rfl ?_
  refine m_istore X dL_law_650 (by decide) rfl ?_
  refine m_aload_n X dL_law_652 rfl rfl ?_
  refine m_cV0 X dL_law_653 lk_L_93 mk_X6_thrown in_X6_thrown se_X6_thrown rfl rfl c_X6_thrown rfl (Nat.le_of_ble_eq_true rfl) (Nat.le_of_ble_eq_true rfl) (Nat.le_of_ble_eq_true rfl) (show cu + 1 + 0 + 0 ≤ 1061 by omega) (show su + 6 + 0 + 0 ≤ 9782 by omega) rfl ?_
  refine m_iload X dL_law_656 rfl rfl ?_
  refine m_icmp_eq (tgt := 663) X dL_law_658 (by decide) rfl (fun _ => ?_) (fun q => absurd rfl q)
  refine m_iload X dL_law_663 rfl rfl ?_
  refine m_if_ne (tgt := 680) X dL_law_665 (by decide) rfl (fun hk => ?_) (fun hk => ?_)
  · skip
    refine m_goto (tgt := 1488) X dL_law_680 (by decide) rfl ?_
    refine m_iinc (i := 4) (n := 4) X dL_law_1488 rfl (by decide) rfl ?_
    refine m_goto (tgt := 23) X dL_law_1491 (by decide) rfl ?_
    refine m_lp (l1 := [(4, .int (nI (4 * (i + 1)))), (3, .ref 31), (2, .ref 17), (1, .ref 0), (0, .ref m_BI)]) [0, 3, 4, 5, 6] (by rw [← nI_4]; rfl) ?_
    exact ih _ _ _ _ _ _ _ _ _ _ hI (by omega) (show cu + 1 + 0 + 0 ≤ 32 + (i + 1) by omega) (show su + 6 + 0 + 0 ≤ 1560 + 6 * (i + 1) by omega)
  · skip
    refine m_aload_n X dL_law_668 rfl rfl ?_
    refine m_iconst (v := 0) X dL_law_669 (by decide) rfl ?_
    refine m_lald X dL_law_670 rfl (vp_in_nI (n := 0) (by decide) (by decide)) rfl ?_
    refine m_iload X dL_law_671 rfl rfl ?_
    refine m_i2l X dL_law_673 rfl ?_
    refine m_lcmp X dL_law_674 rfl ?_
    refine m_if_eq (tgt := 680) X dL_law_675 (by decide) rfl (fun _ => ?_) (fun q => absurd (lg_cmp_0 (hF hk)) q)
    refine m_goto (tgt := 1488) X dL_law_680 (by decide) rfl ?_
    refine m_iinc (i := 4) (n := 4) X dL_law_1488 rfl (by decide) rfl ?_
    refine m_goto (tgt := 23) X dL_law_1491 (by decide) rfl ?_
    refine m_lp (l1 := [(4, .int (nI (4 * (i + 1)))), (3, .ref 31), (2, .ref 17), (1, .ref 0), (0, .ref m_BI)]) [0, 3, 4, 5, 6] (by rw [← nI_4]; rfl) ?_
    exact ih _ _ _ _ _ _ _ _ _ _ hI (by omega) (show cu + 1 + 0 + 0 ≤ 32 + (i + 1) by omega) (show su + 6 + 0 + 0 ≤ 1560 + 6 * (i + 1) by omega)
theorem lw_c11 (X : m_At D cI cL sa ⟨RL, yn, yd⟩ code 8 ret (fun q : Nat => s.heap.size ≤ q) TB p l s m #[Value.ref b] meth c) (hN : ∀ q ∈ m_ncs, va_Nc q.1 q.2 s) (hX : va_X b L xs s s.heap) (hbl : b < s.heap.size) (hbA : ¬ (fun q : Nat => s.heap.size ≤ q) b) (hL9 : L ≤ 2048) (hi : 4 * i + 4 ≤ L) (h : Inv n LL BB v a) (hn : n ≤ 50 * i) (hcu : cu ≤ 32 + i) (hsu : su ≤ 1560 + 6 * i) (ih : lw_next D cI cL p l e s m below meth c b (i + 1)) : m_Go D cI cL (fun _ => b) 0 8 (fun q : Nat => s.heap.size ≤ q) p l e room_1 s m #[Value.ref b] below meth c (lw_Z below #[Value.ref b] s) 683 [(4, .int (nI (4 * i))), (3, .ref 31), (2, .ref 17), (1, .ref 0), (0, .ref m_BI)] [] (hL v a x v a x lq [m_la 1 f]) cu su := by
  obtain ⟨k, r, v9, a9, x9, f9, n9, L9, B9, hW, hM, hF, hI, hn9⟩ := s_stock (p0 := (xs (nI (4 * i) + 1).toNatClampNeg)) (lq := lq) (f := f) (x := x) (by omega) h
  refine m_aload_n X dL_law_683 rfl rfl ?_
  refine m_aload_n X dL_law_684 rfl rfl ?_
  refine m_iload X dL_law_685 rfl rfl ?_
  refine m_iconst (v := 1) X dL_law_687 (by decide) rfl ?_
  refine m_iadd X dL_law_688 rfl ?_
  refine m_sld X hX hbl hbA dL_law_689 (sc_in 1 (by decide) hi hL9) (Nat.le_of_ble_eq_true rfl) rfl ?_
  refine m_aload_n X dL_law_690 rfl rfl ?_
  refine m_callN3 (n := 0) X hN dL_law_691 ll_L_132 mk_L_stock st_L_stock hW rfl (Nat.le_of_ble_eq_true rfl) (Nat.le_of_ble_eq_true rfl) (Nat.le_of_ble_eq_true rfl) (show cu + 1 ≤ 1061 by omega) (show su + 6 ≤ 9782 by omega) rfl ?_
  refine m_istore X dL_law_694 (by decide) rfl ?_
  refine m_aload_n X dL_law_696 rfl rfl ?_
  refine m_aload_n X dL_law_697 rfl rfl ?_
  refine m_iload X dL_law_698 rfl rfl ?_
  refine m_iconst (v := 1) X dL_law_700 (by decide) rfl ?_
  refine m_iadd X dL_law_701 rfl ?_
  refine m_sld X hX hbl hbA dL_law_702 (sc_in 1 (by decide) hi hL9) (Nat.le_of_ble_eq_true rfl) rfl ?_
  refine m_cV1 X dL_law_703 lk_L_134 mk_X6_stock in_X6_stock se_X6_stock rfl rfl hM rfl (Nat.le_of_ble_eq_true rfl) (Nat.le_of_ble_eq_true rfl) (Nat.le_of_ble_eq_true rfl) (show cu + 1 + 0 ≤ 1061 by omega) (show su + 6 + 0 ≤ 9782 by omega) rfl ?_
  refine m_istore X dL_law_706 (by decide) rfl ?_
  refine m_aload_n X dL_law_708 rfl rfl ?_
  refine m_cV0 X dL_law_709 lk_L_93 mk_X6_thrown in_X6_thrown se_X6_thrown rfl rfl c_X6_thrown rfl (Nat.le_of_ble_eq_true rfl) (Nat.le_of_ble_eq_true rfl) (Nat.le_of_ble_eq_true rfl) (show cu + 1 + 0 + 0 ≤ 1061 by omega) (show su + 6 + 0 + 0 ≤ 9782 by omega) rfl ?_
  refine m_iload X dL_law_712 rfl rfl ?_
  refine m_icmp_eq (tgt := 719) X dL_law_714 (by decide) rfl (fun _ => ?_) (fun q => absurd rfl q)
  refine m_iload X dL_law_719 rfl rfl ?_
  refine m_if_ne (tgt := 736) X dL_law_721 (by decide) rfl (fun hk => ?_) (fun hk => ?_)
  · skip
    refine m_goto (tgt := 1488) X dL_law_736 (by decide) rfl ?_
    refine m_iinc (i := 4) (n := 4) X dL_law_1488 rfl (by decide) rfl ?_
    refine m_goto (tgt := 23) X dL_law_1491 (by decide) rfl ?_
    refine m_lp (l1 := [(4, .int (nI (4 * (i + 1)))), (3, .ref 31), (2, .ref 17), (1, .ref 0), (0, .ref m_BI)]) [0, 3, 4, 5, 6] (by rw [← nI_4]; rfl) ?_
    exact ih _ _ _ _ _ _ _ _ _ _ hI (by omega) (show cu + 1 + 0 + 0 ≤ 32 + (i + 1) by omega) (show su + 6 + 0 + 0 ≤ 1560 + 6 * (i + 1) by omega)
  · skip
    refine m_aload_n X dL_law_724 rfl rfl ?_
    refine m_iconst (v := 0) X dL_law_725 (by decide) rfl ?_
    refine m_lald X dL_law_726 rfl (vp_in_nI (n := 0) (by decide) (by decide)) rfl ?_
    refine m_iload X dL_law_727 rfl rfl ?_
    refine m_i2l X dL_law_729 rfl ?_
    refine m_lcmp X dL_law_730 rfl ?_
    refine m_if_eq (tgt := 736) X dL_law_731 (by decide) rfl (fun _ => ?_) (fun q => absurd (lg_cmp_0 (hF hk)) q)
    refine m_goto (tgt := 1488) X dL_law_736 (by decide) rfl ?_
    refine m_iinc (i := 4) (n := 4) X dL_law_1488 rfl (by decide) rfl ?_
    refine m_goto (tgt := 23) X dL_law_1491 (by decide) rfl ?_
    refine m_lp (l1 := [(4, .int (nI (4 * (i + 1)))), (3, .ref 31), (2, .ref 17), (1, .ref 0), (0, .ref m_BI)]) [0, 3, 4, 5, 6] (by rw [← nI_4]; rfl) ?_
    exact ih _ _ _ _ _ _ _ _ _ _ hI (by omega) (show cu + 1 + 0 + 0 ≤ 32 + (i + 1) by omega) (show su + 6 + 0 + 0 ≤ 1560 + 6 * (i + 1) by omega)
theorem lw_c12 (X : m_At D cI cL sa ⟨RL, yn, yd⟩ code 8 ret (fun q : Nat => s.heap.size ≤ q) TB p l s m #[Value.ref b] meth c) (hN : ∀ q ∈ m_ncs, va_Nc q.1 q.2 s) (hX : va_X b L xs s s.heap) (hbl : b < s.heap.size) (hbA : ¬ (fun q : Nat => s.heap.size ≤ q) b) (hL9 : L ≤ 2048) (hi : 4 * i + 4 ≤ L) (h : Inv n LL BB v a) (hn : n ≤ 50 * i) (hcu : cu ≤ 32 + i) (hsu : su ≤ 1560 + 6 * i) (ih : lw_next D cI cL p l e s m below meth c b (i + 1)) : m_Go D cI cL (fun _ => b) 0 8 (fun q : Nat => s.heap.size ≤ q) p l e room_1 s m #[Value.ref b] below meth c (lw_Z below #[Value.ref b] s) 739 [(4, .int (nI (4 * i))), (3, .ref 31), (2, .ref 17), (1, .ref 0), (0, .ref m_BI)] [] (hL v a x v a x lq [m_la 1 f]) cu su := by
  obtain ⟨k, r, v9, a9, x9, f9, n9, L9, B9, hW, hM, hF, hI, hn9⟩ := s_register (p0 := (xs (nI (4 * i) + 1).toNatClampNeg)) (lq := lq) (f := f) (x := x) (by omega) h
  refine m_aload_n X dL_law_739 rfl rfl ?_
  refine m_aload_n X dL_law_740 rfl rfl ?_
  refine m_iload X dL_law_741 rfl rfl ?_
  refine m_iconst (v := 1) X dL_law_743 (by decide) rfl ?_
  refine m_iadd X dL_law_744 rfl ?_
  refine m_sld X hX hbl hbA dL_law_745 (sc_in 1 (by decide) hi hL9) (Nat.le_of_ble_eq_true rfl) rfl ?_
  refine m_aload_n X dL_law_746 rfl rfl ?_
  refine m_callN3 (n := 0) X hN dL_law_747 ll_L_135 mk_L_register st_L_register hW rfl (Nat.le_of_ble_eq_true rfl) (Nat.le_of_ble_eq_true rfl) (Nat.le_of_ble_eq_true rfl) (show cu + 1 ≤ 1061 by omega) (show su + 6 ≤ 9782 by omega) rfl ?_
  refine m_istore X dL_law_750 (by decide) rfl ?_
  refine m_aload_n X dL_law_752 rfl rfl ?_
  refine m_aload_n X dL_law_753 rfl rfl ?_
  refine m_iload X dL_law_754 rfl rfl ?_
  refine m_iconst (v := 1) X dL_law_756 (by decide) rfl ?_
  refine m_iadd X dL_law_757 rfl ?_
  refine m_sld X hX hbl hbA dL_law_758 (sc_in 1 (by decide) hi hL9) (Nat.le_of_ble_eq_true rfl) rfl ?_
  refine m_cV1 X dL_law_759 lk_L_137 mk_X6_register in_X6_register se_X6_register rfl rfl hM rfl (Nat.le_of_ble_eq_true rfl) (Nat.le_of_ble_eq_true rfl) (Nat.le_of_ble_eq_true rfl) (show cu + 1 + 0 ≤ 1061 by omega) (show su + 6 + 0 ≤ 9782 by omega) rfl ?_
  refine m_istore X dL_law_762 (by decide) rfl ?_
  refine m_aload_n X dL_law_764 rfl rfl ?_
  refine m_cV0 X dL_law_765 lk_L_93 mk_X6_thrown in_X6_thrown se_X6_thrown rfl rfl c_X6_thrown rfl (Nat.le_of_ble_eq_true rfl) (Nat.le_of_ble_eq_true rfl) (Nat.le_of_ble_eq_true rfl) (show cu + 1 + 0 + 0 ≤ 1061 by omega) (show su + 6 + 0 + 0 ≤ 9782 by omega) rfl ?_
  refine m_iload X dL_law_768 rfl rfl ?_
  refine m_icmp_eq (tgt := 775) X dL_law_770 (by decide) rfl (fun _ => ?_) (fun q => absurd rfl q)
  refine m_iload X dL_law_775 rfl rfl ?_
  refine m_if_ne (tgt := 792) X dL_law_777 (by decide) rfl (fun hk => ?_) (fun hk => ?_)
  · skip
    refine m_goto (tgt := 1488) X dL_law_792 (by decide) rfl ?_
    refine m_iinc (i := 4) (n := 4) X dL_law_1488 rfl (by decide) rfl ?_
    refine m_goto (tgt := 23) X dL_law_1491 (by decide) rfl ?_
    refine m_lp (l1 := [(4, .int (nI (4 * (i + 1)))), (3, .ref 31), (2, .ref 17), (1, .ref 0), (0, .ref m_BI)]) [0, 3, 4, 5, 6] (by rw [← nI_4]; rfl) ?_
    exact ih _ _ _ _ _ _ _ _ _ _ hI (by omega) (show cu + 1 + 0 + 0 ≤ 32 + (i + 1) by omega) (show su + 6 + 0 + 0 ≤ 1560 + 6 * (i + 1) by omega)
  · skip
    refine m_aload_n X dL_law_780 rfl rfl ?_
    refine m_iconst (v := 0) X dL_law_781 (by decide) rfl ?_
    refine m_lald X dL_law_782 rfl (vp_in_nI (n := 0) (by decide) (by decide)) rfl ?_
    refine m_iload X dL_law_783 rfl rfl ?_
    refine m_i2l X dL_law_785 rfl ?_
    refine m_lcmp X dL_law_786 rfl ?_
    refine m_if_eq (tgt := 792) X dL_law_787 (by decide) rfl (fun _ => ?_) (fun q => absurd (lg_cmp_0 (hF hk)) q)
    refine m_goto (tgt := 1488) X dL_law_792 (by decide) rfl ?_
    refine m_iinc (i := 4) (n := 4) X dL_law_1488 rfl (by decide) rfl ?_
    refine m_goto (tgt := 23) X dL_law_1491 (by decide) rfl ?_
    refine m_lp (l1 := [(4, .int (nI (4 * (i + 1)))), (3, .ref 31), (2, .ref 17), (1, .ref 0), (0, .ref m_BI)]) [0, 3, 4, 5, 6] (by rw [← nI_4]; rfl) ?_
    exact ih _ _ _ _ _ _ _ _ _ _ hI (by omega) (show cu + 1 + 0 + 0 ≤ 32 + (i + 1) by omega) (show su + 6 + 0 + 0 ≤ 1560 + 6 * (i + 1) by omega)
theorem lw_c13 (X : m_At D cI cL sa ⟨RL, yn, yd⟩ code 8 ret (fun q : Nat => s.heap.size ≤ q) TB p l s m #[Value.ref b] meth c) (hN : ∀ q ∈ m_ncs, va_Nc q.1 q.2 s) (hX : va_X b L xs s s.heap) (hbl : b < s.heap.size) (hbA : ¬ (fun q : Nat => s.heap.size ≤ q) b) (hL9 : L ≤ 2048) (hi : 4 * i + 4 ≤ L) (h : Inv n LL BB v a) (hn : n ≤ 50 * i) (hcu : cu ≤ 32 + i) (hsu : su ≤ 1560 + 6 * i) (ih : lw_next D cI cL p l e s m below meth c b (i + 1)) : m_Go D cI cL (fun _ => b) 0 8 (fun q : Nat => s.heap.size ≤ q) p l e room_1 s m #[Value.ref b] below meth c (lw_Z below #[Value.ref b] s) 795 [(4, .int (nI (4 * i))), (3, .ref 31), (2, .ref 17), (1, .ref 0), (0, .ref m_BI)] [] (hL v a x v a x lq [m_la 1 f]) cu su := by
  obtain ⟨k, r, v9, a9, x9, f9, n9, L9, B9, hW, hM, hF, hI, hn9⟩ := s_registerByLots (p0 := (xs (nI (4 * i) + 1).toNatClampNeg)) (lq := lq) (f := f) (x := x) (by omega) h
  refine m_aload_n X dL_law_795 rfl rfl ?_
  refine m_aload_n X dL_law_796 rfl rfl ?_
  refine m_iload X dL_law_797 rfl rfl ?_
  refine m_iconst (v := 1) X dL_law_799 (by decide) rfl ?_
  refine m_iadd X dL_law_800 rfl ?_
  refine m_sld X hX hbl hbA dL_law_801 (sc_in 1 (by decide) hi hL9) (Nat.le_of_ble_eq_true rfl) rfl ?_
  refine m_aload_n X dL_law_802 rfl rfl ?_
  refine m_callN3 (n := 0) X hN dL_law_803 ll_L_138 mk_L_registerByLots st_L_registerByLots hW rfl (Nat.le_of_ble_eq_true rfl) (Nat.le_of_ble_eq_true rfl) (Nat.le_of_ble_eq_true rfl) (show cu + 1 ≤ 1061 by omega) (show su + 6 ≤ 9782 by omega) rfl ?_
  refine m_istore X dL_law_806 (by decide) rfl ?_
  refine m_aload_n X dL_law_808 rfl rfl ?_
  refine m_aload_n X dL_law_809 rfl rfl ?_
  refine m_iload X dL_law_810 rfl rfl ?_
  refine m_iconst (v := 1) X dL_law_812 (by decide) rfl ?_
  refine m_iadd X dL_law_813 rfl ?_
  refine m_sld X hX hbl hbA dL_law_814 (sc_in 1 (by decide) hi hL9) (Nat.le_of_ble_eq_true rfl) rfl ?_
  refine m_cV1 X dL_law_815 lk_L_140 mk_X6_registerByLots in_X6_registerByLots se_X6_registerByLots rfl rfl hM rfl (Nat.le_of_ble_eq_true rfl) (Nat.le_of_ble_eq_true rfl) (Nat.le_of_ble_eq_true rfl) (show cu + 1 + 0 ≤ 1061 by omega) (show su + 6 + 0 ≤ 9782 by omega) rfl ?_
  refine m_istore X dL_law_818 (by decide) rfl ?_
  refine m_aload_n X dL_law_820 rfl rfl ?_
  refine m_cV0 X dL_law_821 lk_L_93 mk_X6_thrown in_X6_thrown se_X6_thrown rfl rfl c_X6_thrown rfl (Nat.le_of_ble_eq_true rfl) (Nat.le_of_ble_eq_true rfl) (Nat.le_of_ble_eq_true rfl) (show cu + 1 + 0 + 0 ≤ 1061 by omega) (show su + 6 + 0 + 0 ≤ 9782 by omega) rfl ?_
  refine m_iload X dL_law_824 rfl rfl ?_
  refine m_icmp_eq (tgt := 831) X dL_law_826 (by decide) rfl (fun _ => ?_) (fun q => absurd rfl q)
  refine m_iload X dL_law_831 rfl rfl ?_
  refine m_if_ne (tgt := 848) X dL_law_833 (by decide) rfl (fun hk => ?_) (fun hk => ?_)
  · skip
    refine m_goto (tgt := 1488) X dL_law_848 (by decide) rfl ?_
    refine m_iinc (i := 4) (n := 4) X dL_law_1488 rfl (by decide) rfl ?_
    refine m_goto (tgt := 23) X dL_law_1491 (by decide) rfl ?_
    refine m_lp (l1 := [(4, .int (nI (4 * (i + 1)))), (3, .ref 31), (2, .ref 17), (1, .ref 0), (0, .ref m_BI)]) [0, 3, 4, 5, 6] (by rw [← nI_4]; rfl) ?_
    exact ih _ _ _ _ _ _ _ _ _ _ hI (by omega) (show cu + 1 + 0 + 0 ≤ 32 + (i + 1) by omega) (show su + 6 + 0 + 0 ≤ 1560 + 6 * (i + 1) by omega)
  · skip
    refine m_aload_n X dL_law_836 rfl rfl ?_
    refine m_iconst (v := 0) X dL_law_837 (by decide) rfl ?_
    refine m_lald X dL_law_838 rfl (vp_in_nI (n := 0) (by decide) (by decide)) rfl ?_
    refine m_iload X dL_law_839 rfl rfl ?_
    refine m_i2l X dL_law_841 rfl ?_
    refine m_lcmp X dL_law_842 rfl ?_
    refine m_if_eq (tgt := 848) X dL_law_843 (by decide) rfl (fun _ => ?_) (fun q => absurd (lg_cmp_0 (hF hk)) q)
    refine m_goto (tgt := 1488) X dL_law_848 (by decide) rfl ?_
    refine m_iinc (i := 4) (n := 4) X dL_law_1488 rfl (by decide) rfl ?_
    refine m_goto (tgt := 23) X dL_law_1491 (by decide) rfl ?_
    refine m_lp (l1 := [(4, .int (nI (4 * (i + 1)))), (3, .ref 31), (2, .ref 17), (1, .ref 0), (0, .ref m_BI)]) [0, 3, 4, 5, 6] (by rw [← nI_4]; rfl) ?_
    exact ih _ _ _ _ _ _ _ _ _ _ hI (by omega) (show cu + 1 + 0 + 0 ≤ 32 + (i + 1) by omega) (show su + 6 + 0 + 0 ≤ 1560 + 6 * (i + 1) by omega)
theorem lw_c14 (X : m_At D cI cL sa ⟨RL, yn, yd⟩ code 8 ret (fun q : Nat => s.heap.size ≤ q) TB p l s m #[Value.ref b] meth c) (hN : ∀ q ∈ m_ncs, va_Nc q.1 q.2 s) (hX : va_X b L xs s s.heap) (hbl : b < s.heap.size) (hbA : ¬ (fun q : Nat => s.heap.size ≤ q) b) (hL9 : L ≤ 2048) (hi : 4 * i + 4 ≤ L) (h : Inv n LL BB v a) (hn : n ≤ 50 * i) (hcu : cu ≤ 32 + i) (hsu : su ≤ 1560 + 6 * i) (ih : lw_next D cI cL p l e s m below meth c b (i + 1)) : m_Go D cI cL (fun _ => b) 0 8 (fun q : Nat => s.heap.size ≤ q) p l e room_1 s m #[Value.ref b] below meth c (lw_Z below #[Value.ref b] s) 851 [(4, .int (nI (4 * i))), (3, .ref 31), (2, .ref 17), (1, .ref 0), (0, .ref m_BI)] [] (hL v a x v a x lq [m_la 1 f]) cu su := by
  obtain ⟨k, r, v9, a9, x9, f9, n9, L9, B9, hW, hM, hF, hI, hn9⟩ := s_leftOf (p0 := (xs (nI (4 * i) + 1).toNatClampNeg)) (lq := lq) (f := f) (x := x) (by omega) h
  refine m_aload_n X dL_law_851 rfl rfl ?_
  refine m_aload_n X dL_law_852 rfl rfl ?_
  refine m_iload X dL_law_853 rfl rfl ?_
  refine m_iconst (v := 1) X dL_law_855 (by decide) rfl ?_
  refine m_iadd X dL_law_856 rfl ?_
  refine m_sld X hX hbl hbA dL_law_857 (sc_in 1 (by decide) hi hL9) (Nat.le_of_ble_eq_true rfl) rfl ?_
  refine m_aload_n X dL_law_858 rfl rfl ?_
  refine m_callN3 (n := 0) X hN dL_law_859 ll_L_141 mk_L_leftOf st_L_leftOf hW rfl (Nat.le_of_ble_eq_true rfl) (Nat.le_of_ble_eq_true rfl) (Nat.le_of_ble_eq_true rfl) (show cu + 1 ≤ 1061 by omega) (show su + 6 ≤ 9782 by omega) rfl ?_
  refine m_istore X dL_law_862 (by decide) rfl ?_
  refine m_aload_n X dL_law_864 rfl rfl ?_
  refine m_aload_n X dL_law_865 rfl rfl ?_
  refine m_iload X dL_law_866 rfl rfl ?_
  refine m_iconst (v := 1) X dL_law_868 (by decide) rfl ?_
  refine m_iadd X dL_law_869 rfl ?_
  refine m_sld X hX hbl hbA dL_law_870 (sc_in 1 (by decide) hi hL9) (Nat.le_of_ble_eq_true rfl) rfl ?_
  refine m_cV1 X dL_law_871 lk_L_143 mk_X6_leftOf in_X6_leftOf se_X6_leftOf rfl rfl hM rfl (Nat.le_of_ble_eq_true rfl) (Nat.le_of_ble_eq_true rfl) (Nat.le_of_ble_eq_true rfl) (show cu + 1 + 0 ≤ 1061 by omega) (show su + 6 + 0 ≤ 9782 by omega) rfl ?_
  refine m_istore X dL_law_874 (by decide) rfl ?_
  refine m_aload_n X dL_law_876 rfl rfl ?_
  refine m_cV0 X dL_law_877 lk_L_93 mk_X6_thrown in_X6_thrown se_X6_thrown rfl rfl c_X6_thrown rfl (Nat.le_of_ble_eq_true rfl) (Nat.le_of_ble_eq_true rfl) (Nat.le_of_ble_eq_true rfl) (show cu + 1 + 0 + 0 ≤ 1061 by omega) (show su + 6 + 0 + 0 ≤ 9782 by omega) rfl ?_
  refine m_iload X dL_law_880 rfl rfl ?_
  refine m_icmp_eq (tgt := 887) X dL_law_882 (by decide) rfl (fun _ => ?_) (fun q => absurd rfl q)
  refine m_iload X dL_law_887 rfl rfl ?_
  refine m_if_ne (tgt := 904) X dL_law_889 (by decide) rfl (fun hk => ?_) (fun hk => ?_)
  · skip
    refine m_goto (tgt := 1488) X dL_law_904 (by decide) rfl ?_
    refine m_iinc (i := 4) (n := 4) X dL_law_1488 rfl (by decide) rfl ?_
    refine m_goto (tgt := 23) X dL_law_1491 (by decide) rfl ?_
    refine m_lp (l1 := [(4, .int (nI (4 * (i + 1)))), (3, .ref 31), (2, .ref 17), (1, .ref 0), (0, .ref m_BI)]) [0, 3, 4, 5, 6] (by rw [← nI_4]; rfl) ?_
    exact ih _ _ _ _ _ _ _ _ _ _ hI (by omega) (show cu + 1 + 0 + 0 ≤ 32 + (i + 1) by omega) (show su + 6 + 0 + 0 ≤ 1560 + 6 * (i + 1) by omega)
  · skip
    refine m_aload_n X dL_law_892 rfl rfl ?_
    refine m_iconst (v := 0) X dL_law_893 (by decide) rfl ?_
    refine m_lald X dL_law_894 rfl (vp_in_nI (n := 0) (by decide) (by decide)) rfl ?_
    refine m_iload X dL_law_895 rfl rfl ?_
    refine m_i2l X dL_law_897 rfl ?_
    refine m_lcmp X dL_law_898 rfl ?_
    refine m_if_eq (tgt := 904) X dL_law_899 (by decide) rfl (fun _ => ?_) (fun q => absurd (lg_cmp_0 (hF hk)) q)
    refine m_goto (tgt := 1488) X dL_law_904 (by decide) rfl ?_
    refine m_iinc (i := 4) (n := 4) X dL_law_1488 rfl (by decide) rfl ?_
    refine m_goto (tgt := 23) X dL_law_1491 (by decide) rfl ?_
    refine m_lp (l1 := [(4, .int (nI (4 * (i + 1)))), (3, .ref 31), (2, .ref 17), (1, .ref 0), (0, .ref m_BI)]) [0, 3, 4, 5, 6] (by rw [← nI_4]; rfl) ?_
    exact ih _ _ _ _ _ _ _ _ _ _ hI (by omega) (show cu + 1 + 0 + 0 ≤ 32 + (i + 1) by omega) (show su + 6 + 0 + 0 ≤ 1560 + 6 * (i + 1) by omega)
theorem lw_c15 (X : m_At D cI cL sa ⟨RL, yn, yd⟩ code 8 ret (fun q : Nat => s.heap.size ≤ q) TB p l s m #[Value.ref b] meth c) (hN : ∀ q ∈ m_ncs, va_Nc q.1 q.2 s) (hX : va_X b L xs s s.heap) (hbl : b < s.heap.size) (hbA : ¬ (fun q : Nat => s.heap.size ≤ q) b) (hL9 : L ≤ 2048) (hi : 4 * i + 4 ≤ L) (h : Inv n LL BB v a) (hn : n ≤ 50 * i) (hcu : cu ≤ 32 + i) (hsu : su ≤ 1560 + 6 * i) (ih : lw_next D cI cL p l e s m below meth c b (i + 1)) : m_Go D cI cL (fun _ => b) 0 8 (fun q : Nat => s.heap.size ≤ q) p l e room_1 s m #[Value.ref b] below meth c (lw_Z below #[Value.ref b] s) 907 [(4, .int (nI (4 * i))), (3, .ref 31), (2, .ref 17), (1, .ref 0), (0, .ref m_BI)] [] (hL v a x v a x lq [m_la 1 f]) cu su := by
  obtain ⟨k, r, v9, a9, x9, f9, n9, L9, B9, hW, hM, hF, hI, hn9⟩ := s_firstBatch (p0 := (xs (nI (4 * i) + 1).toNatClampNeg)) (lq := lq) (f := f) (x := x) (by omega) h
  refine m_aload_n X dL_law_907 rfl rfl ?_
  refine m_aload_n X dL_law_908 rfl rfl ?_
  refine m_iload X dL_law_909 rfl rfl ?_
  refine m_iconst (v := 1) X dL_law_911 (by decide) rfl ?_
  refine m_iadd X dL_law_912 rfl ?_
  refine m_sld X hX hbl hbA dL_law_913 (sc_in 1 (by decide) hi hL9) (Nat.le_of_ble_eq_true rfl) rfl ?_
  refine m_aload_n X dL_law_914 rfl rfl ?_
  refine m_callN3 (n := 0) X hN dL_law_915 ll_L_144 mk_L_firstBatch st_L_firstBatch hW rfl (Nat.le_of_ble_eq_true rfl) (Nat.le_of_ble_eq_true rfl) (Nat.le_of_ble_eq_true rfl) (show cu + 1 ≤ 1061 by omega) (show su + 6 ≤ 9782 by omega) rfl ?_
  refine m_istore X dL_law_918 (by decide) rfl ?_
  refine m_aload_n X dL_law_920 rfl rfl ?_
  refine m_aload_n X dL_law_921 rfl rfl ?_
  refine m_iload X dL_law_922 rfl rfl ?_
  refine m_iconst (v := 1) X dL_law_924 (by decide) rfl ?_
  refine m_iadd X dL_law_925 rfl ?_
  refine m_sld X hX hbl hbA dL_law_926 (sc_in 1 (by decide) hi hL9) (Nat.le_of_ble_eq_true rfl) rfl ?_
  refine m_cV1 X dL_law_927 lk_L_146 mk_X6_firstBatch in_X6_firstBatch se_X6_firstBatch rfl rfl hM rfl (Nat.le_of_ble_eq_true rfl) (Nat.le_of_ble_eq_true rfl) (Nat.le_of_ble_eq_true rfl) (show cu + 1 + 0 ≤ 1061 by omega) (show su + 6 + 0 ≤ 9782 by omega) rfl ?_
  refine m_istore X dL_law_930 (by decide) rfl ?_
  refine m_aload_n X dL_law_932 rfl rfl ?_
  refine m_cV0 X dL_law_933 lk_L_93 mk_X6_thrown in_X6_thrown se_X6_thrown rfl rfl c_X6_thrown rfl (Nat.le_of_ble_eq_true rfl) (Nat.le_of_ble_eq_true rfl) (Nat.le_of_ble_eq_true rfl) (show cu + 1 + 0 + 0 ≤ 1061 by omega) (show su + 6 + 0 + 0 ≤ 9782 by omega) rfl ?_
  refine m_iload X dL_law_936 rfl rfl ?_
  refine m_icmp_eq (tgt := 943) X dL_law_938 (by decide) rfl (fun _ => ?_) (fun q => absurd rfl q)
  refine m_iload X dL_law_943 rfl rfl ?_
  refine m_if_ne (tgt := 960) X dL_law_945 (by decide) rfl (fun hk => ?_) (fun hk => ?_)
  · skip
    refine m_goto (tgt := 1488) X dL_law_960 (by decide) rfl ?_
    refine m_iinc (i := 4) (n := 4) X dL_law_1488 rfl (by decide) rfl ?_
    refine m_goto (tgt := 23) X dL_law_1491 (by decide) rfl ?_
    refine m_lp (l1 := [(4, .int (nI (4 * (i + 1)))), (3, .ref 31), (2, .ref 17), (1, .ref 0), (0, .ref m_BI)]) [0, 3, 4, 5, 6] (by rw [← nI_4]; rfl) ?_
    exact ih _ _ _ _ _ _ _ _ _ _ hI (by omega) (show cu + 1 + 0 + 0 ≤ 32 + (i + 1) by omega) (show su + 6 + 0 + 0 ≤ 1560 + 6 * (i + 1) by omega)
  · skip
    refine m_aload_n X dL_law_948 rfl rfl ?_
    refine m_iconst (v := 0) X dL_law_949 (by decide) rfl ?_
    refine m_lald X dL_law_950 rfl (vp_in_nI (n := 0) (by decide) (by decide)) rfl ?_
    refine m_iload X dL_law_951 rfl rfl ?_
    refine m_i2l X dL_law_953 rfl ?_
    refine m_lcmp X dL_law_954 rfl ?_
    refine m_if_eq (tgt := 960) X dL_law_955 (by decide) rfl (fun _ => ?_) (fun q => absurd (lg_cmp_0 (hF hk)) q)
    refine m_goto (tgt := 1488) X dL_law_960 (by decide) rfl ?_
    refine m_iinc (i := 4) (n := 4) X dL_law_1488 rfl (by decide) rfl ?_
    refine m_goto (tgt := 23) X dL_law_1491 (by decide) rfl ?_
    refine m_lp (l1 := [(4, .int (nI (4 * (i + 1)))), (3, .ref 31), (2, .ref 17), (1, .ref 0), (0, .ref m_BI)]) [0, 3, 4, 5, 6] (by rw [← nI_4]; rfl) ?_
    exact ih _ _ _ _ _ _ _ _ _ _ hI (by omega) (show cu + 1 + 0 + 0 ≤ 32 + (i + 1) by omega) (show su + 6 + 0 + 0 ≤ 1560 + 6 * (i + 1) by omega)
theorem lw_c16 (X : m_At D cI cL sa ⟨RL, yn, yd⟩ code 8 ret (fun q : Nat => s.heap.size ≤ q) TB p l s m #[Value.ref b] meth c) (hN : ∀ q ∈ m_ncs, va_Nc q.1 q.2 s) (hX : va_X b L xs s s.heap) (hbl : b < s.heap.size) (hbA : ¬ (fun q : Nat => s.heap.size ≤ q) b) (hL9 : L ≤ 2048) (hi : 4 * i + 4 ≤ L) (h : Inv n LL BB v a) (hn : n ≤ 50 * i) (hcu : cu ≤ 32 + i) (hsu : su ≤ 1560 + 6 * i) (ih : lw_next D cI cL p l e s m below meth c b (i + 1)) : m_Go D cI cL (fun _ => b) 0 8 (fun q : Nat => s.heap.size ≤ q) p l e room_1 s m #[Value.ref b] below meth c (lw_Z below #[Value.ref b] s) 963 [(4, .int (nI (4 * i))), (3, .ref 31), (2, .ref 17), (1, .ref 0), (0, .ref m_BI)] [] (hL v a x v a x lq [m_la 1 f]) cu su := by
  obtain ⟨k, r, v9, a9, x9, f9, n9, L9, B9, hW, hM, hF, hI, hn9⟩ := s_used (p0 := (xs (nI (4 * i) + 1).toNatClampNeg)) (p1 := (xs (nI (4 * i) + 2).toNatClampNeg)) (lq := lq) (f := f) (x := x) (by omega) h
  refine m_aload_n X dL_law_963 rfl rfl ?_
  refine m_aload_n X dL_law_964 rfl rfl ?_
  refine m_iload X dL_law_965 rfl rfl ?_
  refine m_iconst (v := 1) X dL_law_967 (by decide) rfl ?_
  refine m_iadd X dL_law_968 rfl ?_
  refine m_sld X hX hbl hbA dL_law_969 (sc_in 1 (by decide) hi hL9) (Nat.le_of_ble_eq_true rfl) rfl ?_
  refine m_aload_n X dL_law_970 rfl rfl ?_
  refine m_iload X dL_law_971 rfl rfl ?_
  refine m_iconst (v := 2) X dL_law_973 (by decide) rfl ?_
  refine m_iadd X dL_law_974 rfl ?_
  refine m_sld X hX hbl hbA dL_law_975 (sc_in 2 (by decide) hi hL9) (Nat.le_of_ble_eq_true rfl) rfl ?_
  refine m_aload_n X dL_law_976 rfl rfl ?_
  refine m_callN4 (n := 0) X hN dL_law_977 ll_L_147 mk_L_used st_L_used hW rfl (Nat.le_of_ble_eq_true rfl) (Nat.le_of_ble_eq_true rfl) (Nat.le_of_ble_eq_true rfl) (show cu + 1 ≤ 1061 by omega) (show su + 6 ≤ 9782 by omega) rfl ?_
  refine m_istore X dL_law_980 (by decide) rfl ?_
  refine m_aload_n X dL_law_982 rfl rfl ?_
  refine m_aload_n X dL_law_983 rfl rfl ?_
  refine m_iload X dL_law_984 rfl rfl ?_
  refine m_iconst (v := 1) X dL_law_986 (by decide) rfl ?_
  refine m_iadd X dL_law_987 rfl ?_
  refine m_sld X hX hbl hbA dL_law_988 (sc_in 1 (by decide) hi hL9) (Nat.le_of_ble_eq_true rfl) rfl ?_
  refine m_aload_n X dL_law_989 rfl rfl ?_
  refine m_iload X dL_law_990 rfl rfl ?_
  refine m_iconst (v := 2) X dL_law_992 (by decide) rfl ?_
  refine m_iadd X dL_law_993 rfl ?_
  refine m_sld X hX hbl hbA dL_law_994 (sc_in 2 (by decide) hi hL9) (Nat.le_of_ble_eq_true rfl) rfl ?_
  refine m_cV2 X dL_law_995 lk_L_149 mk_X6_used in_X6_used se_X6_used rfl rfl hM rfl (Nat.le_of_ble_eq_true rfl) (Nat.le_of_ble_eq_true rfl) (Nat.le_of_ble_eq_true rfl) (show cu + 1 + 0 ≤ 1061 by omega) (show su + 6 + 0 ≤ 9782 by omega) rfl ?_
  refine m_istore X dL_law_998 (by decide) rfl ?_
  refine m_aload_n X dL_law_1000 rfl rfl ?_
  refine m_cV0 X dL_law_1001 lk_L_93 mk_X6_thrown in_X6_thrown se_X6_thrown rfl rfl c_X6_thrown rfl (Nat.le_of_ble_eq_true rfl) (Nat.le_of_ble_eq_true rfl) (Nat.le_of_ble_eq_true rfl) (show cu + 1 + 0 + 0 ≤ 1061 by omega) (show su + 6 + 0 + 0 ≤ 9782 by omega) rfl ?_
  refine m_iload X dL_law_1004 rfl rfl ?_
  refine m_icmp_eq (tgt := 1011) X dL_law_1006 (by decide) rfl (fun _ => ?_) (fun q => absurd rfl q)
  refine m_iload X dL_law_1011 rfl rfl ?_
  refine m_if_ne (tgt := 1028) X dL_law_1013 (by decide) rfl (fun hk => ?_) (fun hk => ?_)
  · skip
    refine m_goto (tgt := 1488) X dL_law_1028 (by decide) rfl ?_
    refine m_iinc (i := 4) (n := 4) X dL_law_1488 rfl (by decide) rfl ?_
    refine m_goto (tgt := 23) X dL_law_1491 (by decide) rfl ?_
    refine m_lp (l1 := [(4, .int (nI (4 * (i + 1)))), (3, .ref 31), (2, .ref 17), (1, .ref 0), (0, .ref m_BI)]) [0, 3, 4, 5, 6] (by rw [← nI_4]; rfl) ?_
    exact ih _ _ _ _ _ _ _ _ _ _ hI (by omega) (show cu + 1 + 0 + 0 ≤ 32 + (i + 1) by omega) (show su + 6 + 0 + 0 ≤ 1560 + 6 * (i + 1) by omega)
  · skip
    refine m_aload_n X dL_law_1016 rfl rfl ?_
    refine m_iconst (v := 0) X dL_law_1017 (by decide) rfl ?_
    refine m_lald X dL_law_1018 rfl (vp_in_nI (n := 0) (by decide) (by decide)) rfl ?_
    refine m_iload X dL_law_1019 rfl rfl ?_
    refine m_i2l X dL_law_1021 rfl ?_
    refine m_lcmp X dL_law_1022 rfl ?_
    refine m_if_eq (tgt := 1028) X dL_law_1023 (by decide) rfl (fun _ => ?_) (fun q => absurd (lg_cmp_0 (hF hk)) q)
    refine m_goto (tgt := 1488) X dL_law_1028 (by decide) rfl ?_
    refine m_iinc (i := 4) (n := 4) X dL_law_1488 rfl (by decide) rfl ?_
    refine m_goto (tgt := 23) X dL_law_1491 (by decide) rfl ?_
    refine m_lp (l1 := [(4, .int (nI (4 * (i + 1)))), (3, .ref 31), (2, .ref 17), (1, .ref 0), (0, .ref m_BI)]) [0, 3, 4, 5, 6] (by rw [← nI_4]; rfl) ?_
    exact ih _ _ _ _ _ _ _ _ _ _ hI (by omega) (show cu + 1 + 0 + 0 ≤ 32 + (i + 1) by omega) (show su + 6 + 0 + 0 ≤ 1560 + 6 * (i + 1) by omega)
theorem lw_c17 (X : m_At D cI cL sa ⟨RL, yn, yd⟩ code 8 ret (fun q : Nat => s.heap.size ≤ q) TB p l s m #[Value.ref b] meth c) (hN : ∀ q ∈ m_ncs, va_Nc q.1 q.2 s) (hX : va_X b L xs s s.heap) (hbl : b < s.heap.size) (hbA : ¬ (fun q : Nat => s.heap.size ≤ q) b) (hL9 : L ≤ 2048) (hi : 4 * i + 4 ≤ L) (h : Inv n LL BB v a) (hn : n ≤ 50 * i) (hcu : cu ≤ 32 + i) (hsu : su ≤ 1560 + 6 * i) (ih : lw_next D cI cL p l e s m below meth c b (i + 1)) : m_Go D cI cL (fun _ => b) 0 8 (fun q : Nat => s.heap.size ≤ q) p l e room_1 s m #[Value.ref b] below meth c (lw_Z below #[Value.ref b] s) 1031 [(4, .int (nI (4 * i))), (3, .ref 31), (2, .ref 17), (1, .ref 0), (0, .ref m_BI)] [] (hL v a x v a x lq [m_la 1 f]) cu su := by
  obtain ⟨k, r, v9, a9, x9, f9, n9, L9, B9, hW, hM, hF, hI, hn9⟩ := s_addStep (p0 := (xs (nI (4 * i) + 1).toNatClampNeg)) (p1 := (xs (nI (4 * i) + 2).toNatClampNeg)) (p2 := (xs (nI (4 * i) + 3).toNatClampNeg)) (lq := lq) (f := f) (x := x) (by omega) h
  refine m_aload_n X dL_law_1031 rfl rfl ?_
  refine m_aload_n X dL_law_1032 rfl rfl ?_
  refine m_iload X dL_law_1033 rfl rfl ?_
  refine m_iconst (v := 1) X dL_law_1035 (by decide) rfl ?_
  refine m_iadd X dL_law_1036 rfl ?_
  refine m_sld X hX hbl hbA dL_law_1037 (sc_in 1 (by decide) hi hL9) (Nat.le_of_ble_eq_true rfl) rfl ?_
  refine m_aload_n X dL_law_1038 rfl rfl ?_
  refine m_iload X dL_law_1039 rfl rfl ?_
  refine m_iconst (v := 2) X dL_law_1041 (by decide) rfl ?_
  refine m_iadd X dL_law_1042 rfl ?_
  refine m_sld X hX hbl hbA dL_law_1043 (sc_in 2 (by decide) hi hL9) (Nat.le_of_ble_eq_true rfl) rfl ?_
  refine m_aload_n X dL_law_1044 rfl rfl ?_
  refine m_iload X dL_law_1045 rfl rfl ?_
  refine m_iconst (v := 3) X dL_law_1047 (by decide) rfl ?_
  refine m_iadd X dL_law_1048 rfl ?_
  refine m_sld X hX hbl hbA dL_law_1049 (sc_in 3 (by decide) hi hL9) (Nat.le_of_ble_eq_true rfl) rfl ?_
  refine m_aload_n X dL_law_1050 rfl rfl ?_
  refine m_callN5 (n := 0) X hN dL_law_1051 ll_L_150 mk_L_addStep st_L_addStep hW rfl (Nat.le_of_ble_eq_true rfl) (Nat.le_of_ble_eq_true rfl) (Nat.le_of_ble_eq_true rfl) (show cu + 1 ≤ 1061 by omega) (show su + 6 ≤ 9782 by omega) rfl ?_
  refine m_istore X dL_law_1054 (by decide) rfl ?_
  refine m_aload_n X dL_law_1056 rfl rfl ?_
  refine m_aload_n X dL_law_1057 rfl rfl ?_
  refine m_iload X dL_law_1058 rfl rfl ?_
  refine m_iconst (v := 1) X dL_law_1060 (by decide) rfl ?_
  refine m_iadd X dL_law_1061 rfl ?_
  refine m_sld X hX hbl hbA dL_law_1062 (sc_in 1 (by decide) hi hL9) (Nat.le_of_ble_eq_true rfl) rfl ?_
  refine m_aload_n X dL_law_1063 rfl rfl ?_
  refine m_iload X dL_law_1064 rfl rfl ?_
  refine m_iconst (v := 2) X dL_law_1066 (by decide) rfl ?_
  refine m_iadd X dL_law_1067 rfl ?_
  refine m_sld X hX hbl hbA dL_law_1068 (sc_in 2 (by decide) hi hL9) (Nat.le_of_ble_eq_true rfl) rfl ?_
  refine m_aload_n X dL_law_1069 rfl rfl ?_
  refine m_iload X dL_law_1070 rfl rfl ?_
  refine m_iconst (v := 3) X dL_law_1072 (by decide) rfl ?_
  refine m_iadd X dL_law_1073 rfl ?_
  refine m_sld X hX hbl hbA dL_law_1074 (sc_in 3 (by decide) hi hL9) (Nat.le_of_ble_eq_true rfl) rfl ?_
  refine m_cV3 X dL_law_1075 lk_L_153 mk_X6_addStep in_X6_addStep se_X6_addStep rfl rfl hM rfl (Nat.le_of_ble_eq_true rfl) (Nat.le_of_ble_eq_true rfl) (Nat.le_of_ble_eq_true rfl) (show cu + 1 + 0 ≤ 1061 by omega) (show su + 6 + 0 ≤ 9782 by omega) rfl ?_
  refine m_istore X dL_law_1078 (by decide) rfl ?_
  refine m_aload_n X dL_law_1080 rfl rfl ?_
  refine m_cV0 X dL_law_1081 lk_L_93 mk_X6_thrown in_X6_thrown se_X6_thrown rfl rfl c_X6_thrown rfl (Nat.le_of_ble_eq_true rfl) (Nat.le_of_ble_eq_true rfl) (Nat.le_of_ble_eq_true rfl) (show cu + 1 + 0 + 0 ≤ 1061 by omega) (show su + 6 + 0 + 0 ≤ 9782 by omega) rfl ?_
  refine m_iload X dL_law_1084 rfl rfl ?_
  refine m_icmp_eq (tgt := 1091) X dL_law_1086 (by decide) rfl (fun _ => ?_) (fun q => absurd rfl q)
  refine m_iload X dL_law_1091 rfl rfl ?_
  refine m_if_ne (tgt := 1108) X dL_law_1093 (by decide) rfl (fun hk => ?_) (fun hk => ?_)
  · skip
    refine m_goto (tgt := 1488) X dL_law_1108 (by decide) rfl ?_
    refine m_iinc (i := 4) (n := 4) X dL_law_1488 rfl (by decide) rfl ?_
    refine m_goto (tgt := 23) X dL_law_1491 (by decide) rfl ?_
    refine m_lp (l1 := [(4, .int (nI (4 * (i + 1)))), (3, .ref 31), (2, .ref 17), (1, .ref 0), (0, .ref m_BI)]) [0, 3, 4, 5, 6] (by rw [← nI_4]; rfl) ?_
    exact ih _ _ _ _ _ _ _ _ _ _ hI (by omega) (show cu + 1 + 0 + 0 ≤ 32 + (i + 1) by omega) (show su + 6 + 0 + 0 ≤ 1560 + 6 * (i + 1) by omega)
  · skip
    refine m_aload_n X dL_law_1096 rfl rfl ?_
    refine m_iconst (v := 0) X dL_law_1097 (by decide) rfl ?_
    refine m_lald X dL_law_1098 rfl (vp_in_nI (n := 0) (by decide) (by decide)) rfl ?_
    refine m_iload X dL_law_1099 rfl rfl ?_
    refine m_i2l X dL_law_1101 rfl ?_
    refine m_lcmp X dL_law_1102 rfl ?_
    refine m_if_eq (tgt := 1108) X dL_law_1103 (by decide) rfl (fun _ => ?_) (fun q => absurd (lg_cmp_0 (hF hk)) q)
    refine m_goto (tgt := 1488) X dL_law_1108 (by decide) rfl ?_
    refine m_iinc (i := 4) (n := 4) X dL_law_1488 rfl (by decide) rfl ?_
    refine m_goto (tgt := 23) X dL_law_1491 (by decide) rfl ?_
    refine m_lp (l1 := [(4, .int (nI (4 * (i + 1)))), (3, .ref 31), (2, .ref 17), (1, .ref 0), (0, .ref m_BI)]) [0, 3, 4, 5, 6] (by rw [← nI_4]; rfl) ?_
    exact ih _ _ _ _ _ _ _ _ _ _ hI (by omega) (show cu + 1 + 0 + 0 ≤ 32 + (i + 1) by omega) (show su + 6 + 0 + 0 ≤ 1560 + 6 * (i + 1) by omega)
theorem lw_c18 (X : m_At D cI cL sa ⟨RL, yn, yd⟩ code 8 ret (fun q : Nat => s.heap.size ≤ q) TB p l s m #[Value.ref b] meth c) (hN : ∀ q ∈ m_ncs, va_Nc q.1 q.2 s) (hX : va_X b L xs s s.heap) (hbl : b < s.heap.size) (hbA : ¬ (fun q : Nat => s.heap.size ≤ q) b) (hL9 : L ≤ 2048) (hi : 4 * i + 4 ≤ L) (h : Inv n LL BB v a) (hn : n ≤ 50 * i) (hcu : cu ≤ 32 + i) (hsu : su ≤ 1560 + 6 * i) (ih : lw_next D cI cL p l e s m below meth c b (i + 1)) : m_Go D cI cL (fun _ => b) 0 8 (fun q : Nat => s.heap.size ≤ q) p l e room_1 s m #[Value.ref b] below meth c (lw_Z below #[Value.ref b] s) 1111 [(4, .int (nI (4 * i))), (3, .ref 31), (2, .ref 17), (1, .ref 0), (0, .ref m_BI)] [] (hL v a x v a x lq [m_la 1 f]) cu su := by
  obtain ⟨k, r, v9, a9, x9, f9, n9, L9, B9, hW, hM, hF, hI, hn9⟩ := s_clearRecipe  (lq := lq) (f := f) (x := x) (by omega) h
  refine m_aload_n X dL_law_1111 rfl rfl ?_
  refine m_aload_n X dL_law_1112 rfl rfl ?_
  refine m_callN2 (n := 0) X hN dL_law_1113 ll_L_154 mk_L_clearRecipe st_L_clearRecipe hW rfl (Nat.le_of_ble_eq_true rfl) (Nat.le_of_ble_eq_true rfl) (Nat.le_of_ble_eq_true rfl) (show cu + 1 ≤ 1061 by omega) (show su + 6 ≤ 9782 by omega) rfl ?_
  refine m_istore X dL_law_1116 (by decide) rfl ?_
  refine m_aload_n X dL_law_1118 rfl rfl ?_
  refine m_cV0 X dL_law_1119 lk_L_156 mk_X6_clearRecipe in_X6_clearRecipe se_X6_clearRecipe rfl rfl hM rfl (Nat.le_of_ble_eq_true rfl) (Nat.le_of_ble_eq_true rfl) (Nat.le_of_ble_eq_true rfl) (show cu + 1 + 0 ≤ 1061 by omega) (show su + 6 + 0 ≤ 9782 by omega) rfl ?_
  refine m_istore X dL_law_1122 (by decide) rfl ?_
  refine m_aload_n X dL_law_1124 rfl rfl ?_
  refine m_cV0 X dL_law_1125 lk_L_93 mk_X6_thrown in_X6_thrown se_X6_thrown rfl rfl c_X6_thrown rfl (Nat.le_of_ble_eq_true rfl) (Nat.le_of_ble_eq_true rfl) (Nat.le_of_ble_eq_true rfl) (show cu + 1 + 0 + 0 ≤ 1061 by omega) (show su + 6 + 0 + 0 ≤ 9782 by omega) rfl ?_
  refine m_iload X dL_law_1128 rfl rfl ?_
  refine m_icmp_eq (tgt := 1135) X dL_law_1130 (by decide) rfl (fun _ => ?_) (fun q => absurd rfl q)
  refine m_iload X dL_law_1135 rfl rfl ?_
  refine m_if_ne (tgt := 1152) X dL_law_1137 (by decide) rfl (fun hk => ?_) (fun hk => ?_)
  · skip
    refine m_goto (tgt := 1488) X dL_law_1152 (by decide) rfl ?_
    refine m_iinc (i := 4) (n := 4) X dL_law_1488 rfl (by decide) rfl ?_
    refine m_goto (tgt := 23) X dL_law_1491 (by decide) rfl ?_
    refine m_lp (l1 := [(4, .int (nI (4 * (i + 1)))), (3, .ref 31), (2, .ref 17), (1, .ref 0), (0, .ref m_BI)]) [0, 3, 4, 5, 6] (by rw [← nI_4]; rfl) ?_
    exact ih _ _ _ _ _ _ _ _ _ _ hI (by omega) (show cu + 1 + 0 + 0 ≤ 32 + (i + 1) by omega) (show su + 6 + 0 + 0 ≤ 1560 + 6 * (i + 1) by omega)
  · skip
    refine m_aload_n X dL_law_1140 rfl rfl ?_
    refine m_iconst (v := 0) X dL_law_1141 (by decide) rfl ?_
    refine m_lald X dL_law_1142 rfl (vp_in_nI (n := 0) (by decide) (by decide)) rfl ?_
    refine m_iload X dL_law_1143 rfl rfl ?_
    refine m_i2l X dL_law_1145 rfl ?_
    refine m_lcmp X dL_law_1146 rfl ?_
    refine m_if_eq (tgt := 1152) X dL_law_1147 (by decide) rfl (fun _ => ?_) (fun q => absurd (lg_cmp_0 (hF hk)) q)
    refine m_goto (tgt := 1488) X dL_law_1152 (by decide) rfl ?_
    refine m_iinc (i := 4) (n := 4) X dL_law_1488 rfl (by decide) rfl ?_
    refine m_goto (tgt := 23) X dL_law_1491 (by decide) rfl ?_
    refine m_lp (l1 := [(4, .int (nI (4 * (i + 1)))), (3, .ref 31), (2, .ref 17), (1, .ref 0), (0, .ref m_BI)]) [0, 3, 4, 5, 6] (by rw [← nI_4]; rfl) ?_
    exact ih _ _ _ _ _ _ _ _ _ _ hI (by omega) (show cu + 1 + 0 + 0 ≤ 32 + (i + 1) by omega) (show su + 6 + 0 + 0 ≤ 1560 + 6 * (i + 1) by omega)
theorem lw_c19 (X : m_At D cI cL sa ⟨RL, yn, yd⟩ code 8 ret (fun q : Nat => s.heap.size ≤ q) TB p l s m #[Value.ref b] meth c) (hN : ∀ q ∈ m_ncs, va_Nc q.1 q.2 s) (hX : va_X b L xs s s.heap) (hbl : b < s.heap.size) (hbA : ¬ (fun q : Nat => s.heap.size ≤ q) b) (hL9 : L ≤ 2048) (hi : 4 * i + 4 ≤ L) (h : Inv n LL BB v a) (hn : n ≤ 50 * i) (hcu : cu ≤ 32 + i) (hsu : su ≤ 1560 + 6 * i) (ih : lw_next D cI cL p l e s m below meth c b (i + 1)) : m_Go D cI cL (fun _ => b) 0 8 (fun q : Nat => s.heap.size ≤ q) p l e room_1 s m #[Value.ref b] below meth c (lw_Z below #[Value.ref b] s) 1155 [(4, .int (nI (4 * i))), (3, .ref 31), (2, .ref 17), (1, .ref 0), (0, .ref m_BI)] [] (hL v a x v a x lq [m_la 1 f]) cu su := by
  obtain ⟨k, r, v9, a9, x9, f9, n9, L9, B9, hW, hM, hF, hI, hn9⟩ := s_start  (lq := lq) (f := f) (x := x) (by omega) h
  refine m_aload_n X dL_law_1155 rfl rfl ?_
  refine m_aload_n X dL_law_1156 rfl rfl ?_
  refine m_callN2 (n := 0) X hN dL_law_1157 ll_L_157 mk_L_start st_L_start hW rfl (Nat.le_of_ble_eq_true rfl) (Nat.le_of_ble_eq_true rfl) (Nat.le_of_ble_eq_true rfl) (show cu + 1 ≤ 1061 by omega) (show su + 6 ≤ 9782 by omega) rfl ?_
  refine m_istore X dL_law_1160 (by decide) rfl ?_
  refine m_aload_n X dL_law_1162 rfl rfl ?_
  refine m_cV0 X dL_law_1163 lk_L_159 mk_X6_start in_X6_start se_X6_start rfl rfl hM rfl (Nat.le_of_ble_eq_true rfl) (Nat.le_of_ble_eq_true rfl) (Nat.le_of_ble_eq_true rfl) (show cu + 1 + 0 ≤ 1061 by omega) (show su + 6 + 0 ≤ 9782 by omega) rfl ?_
  refine m_istore X dL_law_1166 (by decide) rfl ?_
  refine m_aload_n X dL_law_1168 rfl rfl ?_
  refine m_cV0 X dL_law_1169 lk_L_93 mk_X6_thrown in_X6_thrown se_X6_thrown rfl rfl c_X6_thrown rfl (Nat.le_of_ble_eq_true rfl) (Nat.le_of_ble_eq_true rfl) (Nat.le_of_ble_eq_true rfl) (show cu + 1 + 0 + 0 ≤ 1061 by omega) (show su + 6 + 0 + 0 ≤ 9782 by omega) rfl ?_
  refine m_iload X dL_law_1172 rfl rfl ?_
  refine m_icmp_eq (tgt := 1179) X dL_law_1174 (by decide) rfl (fun _ => ?_) (fun q => absurd rfl q)
  refine m_iload X dL_law_1179 rfl rfl ?_
  refine m_if_ne (tgt := 1196) X dL_law_1181 (by decide) rfl (fun hk => ?_) (fun hk => ?_)
  · skip
    refine m_goto (tgt := 1488) X dL_law_1196 (by decide) rfl ?_
    refine m_iinc (i := 4) (n := 4) X dL_law_1488 rfl (by decide) rfl ?_
    refine m_goto (tgt := 23) X dL_law_1491 (by decide) rfl ?_
    refine m_lp (l1 := [(4, .int (nI (4 * (i + 1)))), (3, .ref 31), (2, .ref 17), (1, .ref 0), (0, .ref m_BI)]) [0, 3, 4, 5, 6] (by rw [← nI_4]; rfl) ?_
    exact ih _ _ _ _ _ _ _ _ _ _ hI (by omega) (show cu + 1 + 0 + 0 ≤ 32 + (i + 1) by omega) (show su + 6 + 0 + 0 ≤ 1560 + 6 * (i + 1) by omega)
  · skip
    refine m_aload_n X dL_law_1184 rfl rfl ?_
    refine m_iconst (v := 0) X dL_law_1185 (by decide) rfl ?_
    refine m_lald X dL_law_1186 rfl (vp_in_nI (n := 0) (by decide) (by decide)) rfl ?_
    refine m_iload X dL_law_1187 rfl rfl ?_
    refine m_i2l X dL_law_1189 rfl ?_
    refine m_lcmp X dL_law_1190 rfl ?_
    refine m_if_eq (tgt := 1196) X dL_law_1191 (by decide) rfl (fun _ => ?_) (fun q => absurd (lg_cmp_0 (hF hk)) q)
    refine m_goto (tgt := 1488) X dL_law_1196 (by decide) rfl ?_
    refine m_iinc (i := 4) (n := 4) X dL_law_1488 rfl (by decide) rfl ?_
    refine m_goto (tgt := 23) X dL_law_1491 (by decide) rfl ?_
    refine m_lp (l1 := [(4, .int (nI (4 * (i + 1)))), (3, .ref 31), (2, .ref 17), (1, .ref 0), (0, .ref m_BI)]) [0, 3, 4, 5, 6] (by rw [← nI_4]; rfl) ?_
    exact ih _ _ _ _ _ _ _ _ _ _ hI (by omega) (show cu + 1 + 0 + 0 ≤ 32 + (i + 1) by omega) (show su + 6 + 0 + 0 ≤ 1560 + 6 * (i + 1) by omega)
theorem lw_c20 (X : m_At D cI cL sa ⟨RL, yn, yd⟩ code 8 ret (fun q : Nat => s.heap.size ≤ q) TB p l s m #[Value.ref b] meth c) (hN : ∀ q ∈ m_ncs, va_Nc q.1 q.2 s) (hX : va_X b L xs s s.heap) (hbl : b < s.heap.size) (hbA : ¬ (fun q : Nat => s.heap.size ≤ q) b) (hL9 : L ≤ 2048) (hi : 4 * i + 4 ≤ L) (h : Inv n LL BB v a) (hn : n ≤ 50 * i) (hcu : cu ≤ 32 + i) (hsu : su ≤ 1560 + 6 * i) (ih : lw_next D cI cL p l e s m below meth c b (i + 1)) : m_Go D cI cL (fun _ => b) 0 8 (fun q : Nat => s.heap.size ≤ q) p l e room_1 s m #[Value.ref b] below meth c (lw_Z below #[Value.ref b] s) 1199 [(4, .int (nI (4 * i))), (3, .ref 31), (2, .ref 17), (1, .ref 0), (0, .ref m_BI)] [] (hL v a x v a x lq [m_la 1 f]) cu su := by
  obtain ⟨k, r, v9, a9, x9, f9, n9, L9, B9, hW, hM, hF, hI, hn9⟩ := s_hold  (lq := lq) (f := f) (x := x) (by omega) h
  refine m_aload_n X dL_law_1199 rfl rfl ?_
  refine m_aload_n X dL_law_1200 rfl rfl ?_
  refine m_callN2 (n := 0) X hN dL_law_1201 ll_L_160 mk_L_hold st_L_hold hW rfl (Nat.le_of_ble_eq_true rfl) (Nat.le_of_ble_eq_true rfl) (Nat.le_of_ble_eq_true rfl) (show cu + 1 ≤ 1061 by omega) (show su + 6 ≤ 9782 by omega) rfl ?_
  refine m_istore X dL_law_1204 (by decide) rfl ?_
  refine m_aload_n X dL_law_1206 rfl rfl ?_
  refine m_cV0 X dL_law_1207 lk_L_162 mk_X6_hold in_X6_hold se_X6_hold rfl rfl hM rfl (Nat.le_of_ble_eq_true rfl) (Nat.le_of_ble_eq_true rfl) (Nat.le_of_ble_eq_true rfl) (show cu + 1 + 0 ≤ 1061 by omega) (show su + 6 + 0 ≤ 9782 by omega) rfl ?_
  refine m_istore X dL_law_1210 (by decide) rfl ?_
  refine m_aload_n X dL_law_1212 rfl rfl ?_
  refine m_cV0 X dL_law_1213 lk_L_93 mk_X6_thrown in_X6_thrown se_X6_thrown rfl rfl c_X6_thrown rfl (Nat.le_of_ble_eq_true rfl) (Nat.le_of_ble_eq_true rfl) (Nat.le_of_ble_eq_true rfl) (show cu + 1 + 0 + 0 ≤ 1061 by omega) (show su + 6 + 0 + 0 ≤ 9782 by omega) rfl ?_
  refine m_iload X dL_law_1216 rfl rfl ?_
  refine m_icmp_eq (tgt := 1223) X dL_law_1218 (by decide) rfl (fun _ => ?_) (fun q => absurd rfl q)
  refine m_iload X dL_law_1223 rfl rfl ?_
  refine m_if_ne (tgt := 1240) X dL_law_1225 (by decide) rfl (fun hk => ?_) (fun hk => ?_)
  · skip
    refine m_goto (tgt := 1488) X dL_law_1240 (by decide) rfl ?_
    refine m_iinc (i := 4) (n := 4) X dL_law_1488 rfl (by decide) rfl ?_
    refine m_goto (tgt := 23) X dL_law_1491 (by decide) rfl ?_
    refine m_lp (l1 := [(4, .int (nI (4 * (i + 1)))), (3, .ref 31), (2, .ref 17), (1, .ref 0), (0, .ref m_BI)]) [0, 3, 4, 5, 6] (by rw [← nI_4]; rfl) ?_
    exact ih _ _ _ _ _ _ _ _ _ _ hI (by omega) (show cu + 1 + 0 + 0 ≤ 32 + (i + 1) by omega) (show su + 6 + 0 + 0 ≤ 1560 + 6 * (i + 1) by omega)
  · skip
    refine m_aload_n X dL_law_1228 rfl rfl ?_
    refine m_iconst (v := 0) X dL_law_1229 (by decide) rfl ?_
    refine m_lald X dL_law_1230 rfl (vp_in_nI (n := 0) (by decide) (by decide)) rfl ?_
    refine m_iload X dL_law_1231 rfl rfl ?_
    refine m_i2l X dL_law_1233 rfl ?_
    refine m_lcmp X dL_law_1234 rfl ?_
    refine m_if_eq (tgt := 1240) X dL_law_1235 (by decide) rfl (fun _ => ?_) (fun q => absurd (lg_cmp_0 (hF hk)) q)
    refine m_goto (tgt := 1488) X dL_law_1240 (by decide) rfl ?_
    refine m_iinc (i := 4) (n := 4) X dL_law_1488 rfl (by decide) rfl ?_
    refine m_goto (tgt := 23) X dL_law_1491 (by decide) rfl ?_
    refine m_lp (l1 := [(4, .int (nI (4 * (i + 1)))), (3, .ref 31), (2, .ref 17), (1, .ref 0), (0, .ref m_BI)]) [0, 3, 4, 5, 6] (by rw [← nI_4]; rfl) ?_
    exact ih _ _ _ _ _ _ _ _ _ _ hI (by omega) (show cu + 1 + 0 + 0 ≤ 32 + (i + 1) by omega) (show su + 6 + 0 + 0 ≤ 1560 + 6 * (i + 1) by omega)
theorem lw_c21 (X : m_At D cI cL sa ⟨RL, yn, yd⟩ code 8 ret (fun q : Nat => s.heap.size ≤ q) TB p l s m #[Value.ref b] meth c) (hN : ∀ q ∈ m_ncs, va_Nc q.1 q.2 s) (hX : va_X b L xs s s.heap) (hbl : b < s.heap.size) (hbA : ¬ (fun q : Nat => s.heap.size ≤ q) b) (hL9 : L ≤ 2048) (hi : 4 * i + 4 ≤ L) (h : Inv n LL BB v a) (hn : n ≤ 50 * i) (hcu : cu ≤ 32 + i) (hsu : su ≤ 1560 + 6 * i) (ih : lw_next D cI cL p l e s m below meth c b (i + 1)) : m_Go D cI cL (fun _ => b) 0 8 (fun q : Nat => s.heap.size ≤ q) p l e room_1 s m #[Value.ref b] below meth c (lw_Z below #[Value.ref b] s) 1243 [(4, .int (nI (4 * i))), (3, .ref 31), (2, .ref 17), (1, .ref 0), (0, .ref m_BI)] [] (hL v a x v a x lq [m_la 1 f]) cu su := by
  obtain ⟨k, r, v9, a9, x9, f9, n9, L9, B9, hW, hM, hF, hI, hn9⟩ := s_resume  (lq := lq) (f := f) (x := x) (by omega) h
  refine m_aload_n X dL_law_1243 rfl rfl ?_
  refine m_aload_n X dL_law_1244 rfl rfl ?_
  refine m_callN2 (n := 0) X hN dL_law_1245 ll_L_163 mk_L_resume st_L_resume hW rfl (Nat.le_of_ble_eq_true rfl) (Nat.le_of_ble_eq_true rfl) (Nat.le_of_ble_eq_true rfl) (show cu + 1 ≤ 1061 by omega) (show su + 6 ≤ 9782 by omega) rfl ?_
  refine m_istore X dL_law_1248 (by decide) rfl ?_
  refine m_aload_n X dL_law_1250 rfl rfl ?_
  refine m_cV0 X dL_law_1251 lk_L_165 mk_X6_resume in_X6_resume se_X6_resume rfl rfl hM rfl (Nat.le_of_ble_eq_true rfl) (Nat.le_of_ble_eq_true rfl) (Nat.le_of_ble_eq_true rfl) (show cu + 1 + 0 ≤ 1061 by omega) (show su + 6 + 0 ≤ 9782 by omega) rfl ?_
  refine m_istore X dL_law_1254 (by decide) rfl ?_
  refine m_aload_n X dL_law_1256 rfl rfl ?_
  refine m_cV0 X dL_law_1257 lk_L_93 mk_X6_thrown in_X6_thrown se_X6_thrown rfl rfl c_X6_thrown rfl (Nat.le_of_ble_eq_true rfl) (Nat.le_of_ble_eq_true rfl) (Nat.le_of_ble_eq_true rfl) (show cu + 1 + 0 + 0 ≤ 1061 by omega) (show su + 6 + 0 + 0 ≤ 9782 by omega) rfl ?_
  refine m_iload X dL_law_1260 rfl rfl ?_
  refine m_icmp_eq (tgt := 1267) X dL_law_1262 (by decide) rfl (fun _ => ?_) (fun q => absurd rfl q)
  refine m_iload X dL_law_1267 rfl rfl ?_
  refine m_if_ne (tgt := 1284) X dL_law_1269 (by decide) rfl (fun hk => ?_) (fun hk => ?_)
  · skip
    refine m_goto (tgt := 1488) X dL_law_1284 (by decide) rfl ?_
    refine m_iinc (i := 4) (n := 4) X dL_law_1488 rfl (by decide) rfl ?_
    refine m_goto (tgt := 23) X dL_law_1491 (by decide) rfl ?_
    refine m_lp (l1 := [(4, .int (nI (4 * (i + 1)))), (3, .ref 31), (2, .ref 17), (1, .ref 0), (0, .ref m_BI)]) [0, 3, 4, 5, 6] (by rw [← nI_4]; rfl) ?_
    exact ih _ _ _ _ _ _ _ _ _ _ hI (by omega) (show cu + 1 + 0 + 0 ≤ 32 + (i + 1) by omega) (show su + 6 + 0 + 0 ≤ 1560 + 6 * (i + 1) by omega)
  · skip
    refine m_aload_n X dL_law_1272 rfl rfl ?_
    refine m_iconst (v := 0) X dL_law_1273 (by decide) rfl ?_
    refine m_lald X dL_law_1274 rfl (vp_in_nI (n := 0) (by decide) (by decide)) rfl ?_
    refine m_iload X dL_law_1275 rfl rfl ?_
    refine m_i2l X dL_law_1277 rfl ?_
    refine m_lcmp X dL_law_1278 rfl ?_
    refine m_if_eq (tgt := 1284) X dL_law_1279 (by decide) rfl (fun _ => ?_) (fun q => absurd (lg_cmp_0 (hF hk)) q)
    refine m_goto (tgt := 1488) X dL_law_1284 (by decide) rfl ?_
    refine m_iinc (i := 4) (n := 4) X dL_law_1488 rfl (by decide) rfl ?_
    refine m_goto (tgt := 23) X dL_law_1491 (by decide) rfl ?_
    refine m_lp (l1 := [(4, .int (nI (4 * (i + 1)))), (3, .ref 31), (2, .ref 17), (1, .ref 0), (0, .ref m_BI)]) [0, 3, 4, 5, 6] (by rw [← nI_4]; rfl) ?_
    exact ih _ _ _ _ _ _ _ _ _ _ hI (by omega) (show cu + 1 + 0 + 0 ≤ 32 + (i + 1) by omega) (show su + 6 + 0 + 0 ≤ 1560 + 6 * (i + 1) by omega)
theorem lw_c22 (X : m_At D cI cL sa ⟨RL, yn, yd⟩ code 8 ret (fun q : Nat => s.heap.size ≤ q) TB p l s m #[Value.ref b] meth c) (hN : ∀ q ∈ m_ncs, va_Nc q.1 q.2 s) (hX : va_X b L xs s s.heap) (hbl : b < s.heap.size) (hbA : ¬ (fun q : Nat => s.heap.size ≤ q) b) (hL9 : L ≤ 2048) (hi : 4 * i + 4 ≤ L) (h : Inv n LL BB v a) (hn : n ≤ 50 * i) (hcu : cu ≤ 32 + i) (hsu : su ≤ 1560 + 6 * i) (ih : lw_next D cI cL p l e s m below meth c b (i + 1)) : m_Go D cI cL (fun _ => b) 0 8 (fun q : Nat => s.heap.size ≤ q) p l e room_1 s m #[Value.ref b] below meth c (lw_Z below #[Value.ref b] s) 1287 [(4, .int (nI (4 * i))), (3, .ref 31), (2, .ref 17), (1, .ref 0), (0, .ref m_BI)] [] (hL v a x v a x lq [m_la 1 f]) cu su := by
  obtain ⟨k, r, v9, a9, x9, f9, n9, L9, B9, hW, hM, hF, hI, hn9⟩ := s_abort  (lq := lq) (f := f) (x := x) (by omega) h
  refine m_aload_n X dL_law_1287 rfl rfl ?_
  refine m_aload_n X dL_law_1288 rfl rfl ?_
  refine m_callN2 (n := 0) X hN dL_law_1289 ll_L_166 mk_L_abort st_L_abort hW rfl (Nat.le_of_ble_eq_true rfl) (Nat.le_of_ble_eq_true rfl) (Nat.le_of_ble_eq_true rfl) (show cu + 1 ≤ 1061 by omega) (show su + 6 ≤ 9782 by omega) rfl ?_
  refine m_istore X dL_law_1292 (by decide) rfl ?_
  refine m_aload_n X dL_law_1294 rfl rfl ?_
  refine m_cV0 X dL_law_1295 lk_L_168 mk_X6_abort in_X6_abort se_X6_abort rfl rfl hM rfl (Nat.le_of_ble_eq_true rfl) (Nat.le_of_ble_eq_true rfl) (Nat.le_of_ble_eq_true rfl) (show cu + 1 + 0 ≤ 1061 by omega) (show su + 6 + 0 ≤ 9782 by omega) rfl ?_
  refine m_istore X dL_law_1298 (by decide) rfl ?_
  refine m_aload_n X dL_law_1300 rfl rfl ?_
  refine m_cV0 X dL_law_1301 lk_L_93 mk_X6_thrown in_X6_thrown se_X6_thrown rfl rfl c_X6_thrown rfl (Nat.le_of_ble_eq_true rfl) (Nat.le_of_ble_eq_true rfl) (Nat.le_of_ble_eq_true rfl) (show cu + 1 + 0 + 0 ≤ 1061 by omega) (show su + 6 + 0 + 0 ≤ 9782 by omega) rfl ?_
  refine m_iload X dL_law_1304 rfl rfl ?_
  refine m_icmp_eq (tgt := 1311) X dL_law_1306 (by decide) rfl (fun _ => ?_) (fun q => absurd rfl q)
  refine m_iload X dL_law_1311 rfl rfl ?_
  refine m_if_ne (tgt := 1328) X dL_law_1313 (by decide) rfl (fun hk => ?_) (fun hk => ?_)
  · skip
    refine m_goto (tgt := 1488) X dL_law_1328 (by decide) rfl ?_
    refine m_iinc (i := 4) (n := 4) X dL_law_1488 rfl (by decide) rfl ?_
    refine m_goto (tgt := 23) X dL_law_1491 (by decide) rfl ?_
    refine m_lp (l1 := [(4, .int (nI (4 * (i + 1)))), (3, .ref 31), (2, .ref 17), (1, .ref 0), (0, .ref m_BI)]) [0, 3, 4, 5, 6] (by rw [← nI_4]; rfl) ?_
    exact ih _ _ _ _ _ _ _ _ _ _ hI (by omega) (show cu + 1 + 0 + 0 ≤ 32 + (i + 1) by omega) (show su + 6 + 0 + 0 ≤ 1560 + 6 * (i + 1) by omega)
  · skip
    refine m_aload_n X dL_law_1316 rfl rfl ?_
    refine m_iconst (v := 0) X dL_law_1317 (by decide) rfl ?_
    refine m_lald X dL_law_1318 rfl (vp_in_nI (n := 0) (by decide) (by decide)) rfl ?_
    refine m_iload X dL_law_1319 rfl rfl ?_
    refine m_i2l X dL_law_1321 rfl ?_
    refine m_lcmp X dL_law_1322 rfl ?_
    refine m_if_eq (tgt := 1328) X dL_law_1323 (by decide) rfl (fun _ => ?_) (fun q => absurd (lg_cmp_0 (hF hk)) q)
    refine m_goto (tgt := 1488) X dL_law_1328 (by decide) rfl ?_
    refine m_iinc (i := 4) (n := 4) X dL_law_1488 rfl (by decide) rfl ?_
    refine m_goto (tgt := 23) X dL_law_1491 (by decide) rfl ?_
    refine m_lp (l1 := [(4, .int (nI (4 * (i + 1)))), (3, .ref 31), (2, .ref 17), (1, .ref 0), (0, .ref m_BI)]) [0, 3, 4, 5, 6] (by rw [← nI_4]; rfl) ?_
    exact ih _ _ _ _ _ _ _ _ _ _ hI (by omega) (show cu + 1 + 0 + 0 ≤ 32 + (i + 1) by omega) (show su + 6 + 0 + 0 ≤ 1560 + 6 * (i + 1) by omega)
theorem lw_c23 (X : m_At D cI cL sa ⟨RL, yn, yd⟩ code 8 ret (fun q : Nat => s.heap.size ≤ q) TB p l s m #[Value.ref b] meth c) (hN : ∀ q ∈ m_ncs, va_Nc q.1 q.2 s) (hX : va_X b L xs s s.heap) (hbl : b < s.heap.size) (hbA : ¬ (fun q : Nat => s.heap.size ≤ q) b) (hL9 : L ≤ 2048) (hi : 4 * i + 4 ≤ L) (h : Inv n LL BB v a) (hn : n ≤ 50 * i) (hcu : cu ≤ 32 + i) (hsu : su ≤ 1560 + 6 * i) (ih : lw_next D cI cL p l e s m below meth c b (i + 1)) : m_Go D cI cL (fun _ => b) 0 8 (fun q : Nat => s.heap.size ≤ q) p l e room_1 s m #[Value.ref b] below meth c (lw_Z below #[Value.ref b] s) 1331 [(4, .int (nI (4 * i))), (3, .ref 31), (2, .ref 17), (1, .ref 0), (0, .ref m_BI)] [] (hL v a x v a x lq [m_la 1 f]) cu su := by
  refine m_aload_n X dL_law_1331 rfl rfl ?_
  refine m_cV0 X dL_law_1332 lk_L_169 mk_X5_state in_X5_state se_X5_state rfl rfl c_X5_state rfl (Nat.le_of_ble_eq_true rfl) (Nat.le_of_ble_eq_true rfl) (Nat.le_of_ble_eq_true rfl) (show cu + 0 ≤ 1061 by omega) (show su + 0 ≤ 9782 by omega) rfl ?_
  refine m_aload_n X dL_law_1335 rfl rfl ?_
  refine m_cV0 X dL_law_1336 lk_L_172 mk_X6_state in_X6_state se_X6_state rfl rfl c_X6_state rfl (Nat.le_of_ble_eq_true rfl) (Nat.le_of_ble_eq_true rfl) (Nat.le_of_ble_eq_true rfl) (show cu + 0 + 0 ≤ 1061 by omega) (show su + 0 + 0 ≤ 9782 by omega) rfl ?_
  refine m_icmp_eq (tgt := 1488) X dL_law_1339 (by decide) rfl (fun _ => ?_) (fun q => absurd rfl q)
  refine m_iinc (i := 4) (n := 4) X dL_law_1488 rfl (by decide) rfl ?_
  refine m_goto (tgt := 23) X dL_law_1491 (by decide) rfl ?_
  refine m_lp (l1 := [(4, .int (nI (4 * (i + 1)))), (3, .ref 31), (2, .ref 17), (1, .ref 0), (0, .ref m_BI)]) [0, 1, 2, 3, 4] (by rw [← nI_4]; rfl) ?_
  exact ih _ _ _ _ _ _ _ _ _ _ h (by omega) (show cu + 0 + 0 ≤ 32 + (i + 1) by omega) (show su + 0 + 0 ≤ 1560 + 6 * (i + 1) by omega)
theorem lw_c24 (X : m_At D cI cL sa ⟨RL, yn, yd⟩ code 8 ret (fun q : Nat => s.heap.size ≤ q) TB p l s m #[Value.ref b] meth c) (hN : ∀ q ∈ m_ncs, va_Nc q.1 q.2 s) (hX : va_X b L xs s s.heap) (hbl : b < s.heap.size) (hbA : ¬ (fun q : Nat => s.heap.size ≤ q) b) (hL9 : L ≤ 2048) (hi : 4 * i + 4 ≤ L) (h : Inv n LL BB v a) (hn : n ≤ 50 * i) (hcu : cu ≤ 32 + i) (hsu : su ≤ 1560 + 6 * i) (ih : lw_next D cI cL p l e s m below meth c b (i + 1)) : m_Go D cI cL (fun _ => b) 0 8 (fun q : Nat => s.heap.size ≤ q) p l e room_1 s m #[Value.ref b] below meth c (lw_Z below #[Value.ref b] s) 1344 [(4, .int (nI (4 * i))), (3, .ref 31), (2, .ref 17), (1, .ref 0), (0, .ref m_BI)] [] (hL v a x v a x lq [m_la 1 f]) cu su := by
  refine m_aload_n X dL_law_1344 rfl rfl ?_
  refine m_cV0 X dL_law_1345 lk_L_173 mk_X5_alarm in_X5_alarm se_X5_alarm rfl rfl c_X5_alarm rfl (Nat.le_of_ble_eq_true rfl) (Nat.le_of_ble_eq_true rfl) (Nat.le_of_ble_eq_true rfl) (show cu + 0 ≤ 1061 by omega) (show su + 0 ≤ 9782 by omega) rfl ?_
  refine m_aload_n X dL_law_1348 rfl rfl ?_
  refine m_cV0 X dL_law_1349 lk_L_176 mk_X6_alarm in_X6_alarm se_X6_alarm rfl rfl c_X6_alarm rfl (Nat.le_of_ble_eq_true rfl) (Nat.le_of_ble_eq_true rfl) (Nat.le_of_ble_eq_true rfl) (show cu + 0 + 0 ≤ 1061 by omega) (show su + 0 + 0 ≤ 9782 by omega) rfl ?_
  refine m_icmp_eq (tgt := 1488) X dL_law_1352 (by decide) rfl (fun _ => ?_) (fun q => absurd rfl q)
  refine m_iinc (i := 4) (n := 4) X dL_law_1488 rfl (by decide) rfl ?_
  refine m_goto (tgt := 23) X dL_law_1491 (by decide) rfl ?_
  refine m_lp (l1 := [(4, .int (nI (4 * (i + 1)))), (3, .ref 31), (2, .ref 17), (1, .ref 0), (0, .ref m_BI)]) [0, 1, 2, 3, 4] (by rw [← nI_4]; rfl) ?_
  exact ih _ _ _ _ _ _ _ _ _ _ h (by omega) (show cu + 0 + 0 ≤ 32 + (i + 1) by omega) (show su + 0 + 0 ≤ 1560 + 6 * (i + 1) by omega)
theorem lw_c25 (X : m_At D cI cL sa ⟨RL, yn, yd⟩ code 8 ret (fun q : Nat => s.heap.size ≤ q) TB p l s m #[Value.ref b] meth c) (hN : ∀ q ∈ m_ncs, va_Nc q.1 q.2 s) (hX : va_X b L xs s s.heap) (hbl : b < s.heap.size) (hbA : ¬ (fun q : Nat => s.heap.size ≤ q) b) (hL9 : L ≤ 2048) (hi : 4 * i + 4 ≤ L) (h : Inv n LL BB v a) (hn : n ≤ 50 * i) (hcu : cu ≤ 32 + i) (hsu : su ≤ 1560 + 6 * i) (ih : lw_next D cI cL p l e s m below meth c b (i + 1)) : m_Go D cI cL (fun _ => b) 0 8 (fun q : Nat => s.heap.size ≤ q) p l e room_1 s m #[Value.ref b] below meth c (lw_Z below #[Value.ref b] s) 1357 [(4, .int (nI (4 * i))), (3, .ref 31), (2, .ref 17), (1, .ref 0), (0, .ref m_BI)] [] (hL v a x v a x lq [m_la 1 f]) cu su := by
  refine m_aload_n X dL_law_1357 rfl rfl ?_
  refine m_cV0 X dL_law_1358 lk_L_177 mk_X5_step in_X5_step se_X5_step rfl rfl c_X5_step rfl (Nat.le_of_ble_eq_true rfl) (Nat.le_of_ble_eq_true rfl) (Nat.le_of_ble_eq_true rfl) (show cu + 0 ≤ 1061 by omega) (show su + 0 ≤ 9782 by omega) rfl ?_
  refine m_aload_n X dL_law_1361 rfl rfl ?_
  refine m_cV0 X dL_law_1362 lk_L_180 mk_X6_step in_X6_step se_X6_step rfl rfl c_X6_step rfl (Nat.le_of_ble_eq_true rfl) (Nat.le_of_ble_eq_true rfl) (Nat.le_of_ble_eq_true rfl) (show cu + 0 + 0 ≤ 1061 by omega) (show su + 0 + 0 ≤ 9782 by omega) rfl ?_
  refine m_icmp_eq (tgt := 1488) X dL_law_1365 (by decide) rfl (fun _ => ?_) (fun q => absurd rfl q)
  refine m_iinc (i := 4) (n := 4) X dL_law_1488 rfl (by decide) rfl ?_
  refine m_goto (tgt := 23) X dL_law_1491 (by decide) rfl ?_
  refine m_lp (l1 := [(4, .int (nI (4 * (i + 1)))), (3, .ref 31), (2, .ref 17), (1, .ref 0), (0, .ref m_BI)]) [0, 1, 2, 3, 4] (by rw [← nI_4]; rfl) ?_
  exact ih _ _ _ _ _ _ _ _ _ _ h (by omega) (show cu + 0 + 0 ≤ 32 + (i + 1) by omega) (show su + 0 + 0 ≤ 1560 + 6 * (i + 1) by omega)
theorem lw_c26 (X : m_At D cI cL sa ⟨RL, yn, yd⟩ code 8 ret (fun q : Nat => s.heap.size ≤ q) TB p l s m #[Value.ref b] meth c) (hN : ∀ q ∈ m_ncs, va_Nc q.1 q.2 s) (hX : va_X b L xs s s.heap) (hbl : b < s.heap.size) (hbA : ¬ (fun q : Nat => s.heap.size ≤ q) b) (hL9 : L ≤ 2048) (hi : 4 * i + 4 ≤ L) (h : Inv n LL BB v a) (hn : n ≤ 50 * i) (hcu : cu ≤ 32 + i) (hsu : su ≤ 1560 + 6 * i) (ih : lw_next D cI cL p l e s m below meth c b (i + 1)) : m_Go D cI cL (fun _ => b) 0 8 (fun q : Nat => s.heap.size ≤ q) p l e room_1 s m #[Value.ref b] below meth c (lw_Z below #[Value.ref b] s) 1370 [(4, .int (nI (4 * i))), (3, .ref 31), (2, .ref 17), (1, .ref 0), (0, .ref m_BI)] [] (hL v a x v a x lq [m_la 1 f]) cu su := by
  refine m_aload_n X dL_law_1370 rfl rfl ?_
  refine m_cV0 X dL_law_1371 lk_L_181 mk_X5_jogs in_X5_jogs se_X5_jogs rfl rfl c_X5_jogs rfl (Nat.le_of_ble_eq_true rfl) (Nat.le_of_ble_eq_true rfl) (Nat.le_of_ble_eq_true rfl) (show cu + 0 ≤ 1061 by omega) (show su + 0 ≤ 9782 by omega) rfl ?_
  refine m_aload_n X dL_law_1374 rfl rfl ?_
  refine m_cV0 X dL_law_1375 lk_L_184 mk_X6_jogs in_X6_jogs se_X6_jogs rfl rfl c_X6_jogs rfl (Nat.le_of_ble_eq_true rfl) (Nat.le_of_ble_eq_true rfl) (Nat.le_of_ble_eq_true rfl) (show cu + 0 + 0 ≤ 1061 by omega) (show su + 0 + 0 ≤ 9782 by omega) rfl ?_
  refine m_icmp_eq (tgt := 1488) X dL_law_1378 (by decide) rfl (fun _ => ?_) (fun q => absurd rfl q)
  refine m_iinc (i := 4) (n := 4) X dL_law_1488 rfl (by decide) rfl ?_
  refine m_goto (tgt := 23) X dL_law_1491 (by decide) rfl ?_
  refine m_lp (l1 := [(4, .int (nI (4 * (i + 1)))), (3, .ref 31), (2, .ref 17), (1, .ref 0), (0, .ref m_BI)]) [0, 1, 2, 3, 4] (by rw [← nI_4]; rfl) ?_
  exact ih _ _ _ _ _ _ _ _ _ _ h (by omega) (show cu + 0 + 0 ≤ 32 + (i + 1) by omega) (show su + 0 + 0 ≤ 1560 + 6 * (i + 1) by omega)
theorem lw_c27 (X : m_At D cI cL sa ⟨RL, yn, yd⟩ code 8 ret (fun q : Nat => s.heap.size ≤ q) TB p l s m #[Value.ref b] meth c) (hN : ∀ q ∈ m_ncs, va_Nc q.1 q.2 s) (hX : va_X b L xs s s.heap) (hbl : b < s.heap.size) (hbA : ¬ (fun q : Nat => s.heap.size ≤ q) b) (hL9 : L ≤ 2048) (hi : 4 * i + 4 ≤ L) (h : Inv n LL BB v a) (hn : n ≤ 50 * i) (hcu : cu ≤ 32 + i) (hsu : su ≤ 1560 + 6 * i) (ih : lw_next D cI cL p l e s m below meth c b (i + 1)) : m_Go D cI cL (fun _ => b) 0 8 (fun q : Nat => s.heap.size ≤ q) p l e room_1 s m #[Value.ref b] below meth c (lw_Z below #[Value.ref b] s) 1383 [(4, .int (nI (4 * i))), (3, .ref 31), (2, .ref 17), (1, .ref 0), (0, .ref m_BI)] [] (hL v a x v a x lq [m_la 1 f]) cu su := by
  refine m_aload_n X dL_law_1383 rfl rfl ?_
  refine m_cV0 X dL_law_1384 lk_L_185 mk_X5_batches in_X5_batches se_X5_batches rfl rfl c_X5_batches rfl (Nat.le_of_ble_eq_true rfl) (Nat.le_of_ble_eq_true rfl) (Nat.le_of_ble_eq_true rfl) (show cu + 0 ≤ 1061 by omega) (show su + 0 ≤ 9782 by omega) rfl ?_
  refine m_aload_n X dL_law_1387 rfl rfl ?_
  refine m_cV0 X dL_law_1388 lk_L_188 mk_X6_batches in_X6_batches se_X6_batches rfl rfl c_X6_batches rfl (Nat.le_of_ble_eq_true rfl) (Nat.le_of_ble_eq_true rfl) (Nat.le_of_ble_eq_true rfl) (show cu + 0 + 0 ≤ 1061 by omega) (show su + 0 + 0 ≤ 9782 by omega) rfl ?_
  refine m_icmp_eq (tgt := 1488) X dL_law_1391 (by decide) rfl (fun _ => ?_) (fun q => absurd rfl q)
  refine m_iinc (i := 4) (n := 4) X dL_law_1488 rfl (by decide) rfl ?_
  refine m_goto (tgt := 23) X dL_law_1491 (by decide) rfl ?_
  refine m_lp (l1 := [(4, .int (nI (4 * (i + 1)))), (3, .ref 31), (2, .ref 17), (1, .ref 0), (0, .ref m_BI)]) [0, 1, 2, 3, 4] (by rw [← nI_4]; rfl) ?_
  exact ih _ _ _ _ _ _ _ _ _ _ h (by omega) (show cu + 0 + 0 ≤ 32 + (i + 1) by omega) (show su + 0 + 0 ≤ 1560 + 6 * (i + 1) by omega)
theorem lw_c28 (X : m_At D cI cL sa ⟨RL, yn, yd⟩ code 8 ret (fun q : Nat => s.heap.size ≤ q) TB p l s m #[Value.ref b] meth c) (hN : ∀ q ∈ m_ncs, va_Nc q.1 q.2 s) (hX : va_X b L xs s s.heap) (hbl : b < s.heap.size) (hbA : ¬ (fun q : Nat => s.heap.size ≤ q) b) (hL9 : L ≤ 2048) (hi : 4 * i + 4 ≤ L) (h : Inv n LL BB v a) (hn : n ≤ 50 * i) (hcu : cu ≤ 32 + i) (hsu : su ≤ 1560 + 6 * i) (ih : lw_next D cI cL p l e s m below meth c b (i + 1)) : m_Go D cI cL (fun _ => b) 0 8 (fun q : Nat => s.heap.size ≤ q) p l e room_1 s m #[Value.ref b] below meth c (lw_Z below #[Value.ref b] s) 1396 [(4, .int (nI (4 * i))), (3, .ref 31), (2, .ref 17), (1, .ref 0), (0, .ref m_BI)] [] (hL v a x v a x lq [m_la 1 f]) cu su := by
  refine m_aload_n X dL_law_1396 rfl rfl ?_
  refine m_cV0 X dL_law_1397 lk_L_189 mk_X5_done in_X5_done se_X5_done rfl rfl c_X5_done rfl (Nat.le_of_ble_eq_true rfl) (Nat.le_of_ble_eq_true rfl) (Nat.le_of_ble_eq_true rfl) (show cu + 0 ≤ 1061 by omega) (show su + 0 ≤ 9782 by omega) rfl ?_
  refine m_aload_n X dL_law_1400 rfl rfl ?_
  refine m_cV0 X dL_law_1401 lk_L_192 mk_X6_done in_X6_done se_X6_done rfl rfl c_X6_done rfl (Nat.le_of_ble_eq_true rfl) (Nat.le_of_ble_eq_true rfl) (Nat.le_of_ble_eq_true rfl) (show cu + 0 + 0 ≤ 1061 by omega) (show su + 0 + 0 ≤ 9782 by omega) rfl ?_
  refine m_icmp_eq (tgt := 1488) X dL_law_1404 (by decide) rfl (fun _ => ?_) (fun q => absurd rfl q)
  refine m_iinc (i := 4) (n := 4) X dL_law_1488 rfl (by decide) rfl ?_
  refine m_goto (tgt := 23) X dL_law_1491 (by decide) rfl ?_
  refine m_lp (l1 := [(4, .int (nI (4 * (i + 1)))), (3, .ref 31), (2, .ref 17), (1, .ref 0), (0, .ref m_BI)]) [0, 1, 2, 3, 4] (by rw [← nI_4]; rfl) ?_
  exact ih _ _ _ _ _ _ _ _ _ _ h (by omega) (show cu + 0 + 0 ≤ 32 + (i + 1) by omega) (show su + 0 + 0 ≤ 1560 + 6 * (i + 1) by omega)
theorem lw_c29 (X : m_At D cI cL sa ⟨RL, yn, yd⟩ code 8 ret (fun q : Nat => s.heap.size ≤ q) TB p l s m #[Value.ref b] meth c) (hN : ∀ q ∈ m_ncs, va_Nc q.1 q.2 s) (hX : va_X b L xs s s.heap) (hbl : b < s.heap.size) (hbA : ¬ (fun q : Nat => s.heap.size ≤ q) b) (hL9 : L ≤ 2048) (hi : 4 * i + 4 ≤ L) (h : Inv n LL BB v a) (hn : n ≤ 50 * i) (hcu : cu ≤ 32 + i) (hsu : su ≤ 1560 + 6 * i) (ih : lw_next D cI cL p l e s m below meth c b (i + 1)) : m_Go D cI cL (fun _ => b) 0 8 (fun q : Nat => s.heap.size ≤ q) p l e room_1 s m #[Value.ref b] below meth c (lw_Z below #[Value.ref b] s) 1409 [(4, .int (nI (4 * i))), (3, .ref 31), (2, .ref 17), (1, .ref 0), (0, .ref m_BI)] [] (hL v a x v a x lq [m_la 1 f]) cu su := by
  obtain ⟨k, r, v9, a9, x9, f9, n9, L9, B9, hW, hM, hF, hI, hn9⟩ := s_belt (p0 := (xs (nI (4 * i) + 1).toNatClampNeg)) (p1 := (xs (nI (4 * i) + 2).toNatClampNeg)) (p2 := (xs (nI (4 * i) + 3).toNatClampNeg)) (lq := lq) (f := f) (x := x) (by omega) h
  refine m_aload_n X dL_law_1409 rfl rfl ?_
  refine m_aload_n X dL_law_1410 rfl rfl ?_
  refine m_iload X dL_law_1411 rfl rfl ?_
  refine m_iconst (v := 1) X dL_law_1413 (by decide) rfl ?_
  refine m_iadd X dL_law_1414 rfl ?_
  refine m_sld X hX hbl hbA dL_law_1415 (sc_in 1 (by decide) hi hL9) (Nat.le_of_ble_eq_true rfl) rfl ?_
  refine m_aload_n X dL_law_1416 rfl rfl ?_
  refine m_iload X dL_law_1417 rfl rfl ?_
  refine m_iconst (v := 2) X dL_law_1419 (by decide) rfl ?_
  refine m_iadd X dL_law_1420 rfl ?_
  refine m_sld X hX hbl hbA dL_law_1421 (sc_in 2 (by decide) hi hL9) (Nat.le_of_ble_eq_true rfl) rfl ?_
  refine m_aload_n X dL_law_1422 rfl rfl ?_
  refine m_iload X dL_law_1423 rfl rfl ?_
  refine m_iconst (v := 3) X dL_law_1425 (by decide) rfl ?_
  refine m_iadd X dL_law_1426 rfl ?_
  refine m_sld X hX hbl hbA dL_law_1427 (sc_in 3 (by decide) hi hL9) (Nat.le_of_ble_eq_true rfl) rfl ?_
  refine m_aload_n X dL_law_1428 rfl rfl ?_
  refine m_callN5 (n := 0) X hN dL_law_1429 ll_L_193 mk_L_belt st_L_belt hW rfl (Nat.le_of_ble_eq_true rfl) (Nat.le_of_ble_eq_true rfl) (Nat.le_of_ble_eq_true rfl) (show cu + 1 ≤ 1061 by omega) (show su + 6 ≤ 9782 by omega) rfl ?_
  refine m_istore X dL_law_1432 (by decide) rfl ?_
  refine m_aload_n X dL_law_1434 rfl rfl ?_
  refine m_aload_n X dL_law_1435 rfl rfl ?_
  refine m_iload X dL_law_1436 rfl rfl ?_
  refine m_iconst (v := 1) X dL_law_1438 (by decide) rfl ?_
  refine m_iadd X dL_law_1439 rfl ?_
  refine m_sld X hX hbl hbA dL_law_1440 (sc_in 1 (by decide) hi hL9) (Nat.le_of_ble_eq_true rfl) rfl ?_
  refine m_aload_n X dL_law_1441 rfl rfl ?_
  refine m_iload X dL_law_1442 rfl rfl ?_
  refine m_iconst (v := 2) X dL_law_1444 (by decide) rfl ?_
  refine m_iadd X dL_law_1445 rfl ?_
  refine m_sld X hX hbl hbA dL_law_1446 (sc_in 2 (by decide) hi hL9) (Nat.le_of_ble_eq_true rfl) rfl ?_
  refine m_aload_n X dL_law_1447 rfl rfl ?_
  refine m_iload X dL_law_1448 rfl rfl ?_
  refine m_iconst (v := 3) X dL_law_1450 (by decide) rfl ?_
  refine m_iadd X dL_law_1451 rfl ?_
  refine m_sld X hX hbl hbA dL_law_1452 (sc_in 3 (by decide) hi hL9) (Nat.le_of_ble_eq_true rfl) rfl ?_
  refine m_cV3 X dL_law_1453 lk_L_195 mk_X6_belt in_X6_belt se_X6_belt rfl rfl hM rfl (Nat.le_of_ble_eq_true rfl) (Nat.le_of_ble_eq_true rfl) (Nat.le_of_ble_eq_true rfl) (show cu + 1 + 0 ≤ 1061 by omega) (show su + 6 + 0 ≤ 9782 by omega) rfl ?_
  refine m_lstore X dL_law_1456 (by decide) rfl ?_
  refine m_aload_n X dL_law_1458 rfl rfl ?_
  refine m_cV0 X dL_law_1459 lk_L_93 mk_X6_thrown in_X6_thrown se_X6_thrown rfl rfl c_X6_thrown rfl (Nat.le_of_ble_eq_true rfl) (Nat.le_of_ble_eq_true rfl) (Nat.le_of_ble_eq_true rfl) (show cu + 1 + 0 + 0 ≤ 1061 by omega) (show su + 6 + 0 + 0 ≤ 9782 by omega) rfl ?_
  refine m_iload X dL_law_1462 rfl rfl ?_
  refine m_icmp_eq (tgt := 1469) X dL_law_1464 (by decide) rfl (fun _ => ?_) (fun q => absurd rfl q)
  refine m_iload X dL_law_1469 rfl rfl ?_
  refine m_if_ne (tgt := 1485) X dL_law_1471 (by decide) rfl (fun hk => ?_) (fun hk => ?_)
  · skip
    refine m_goto (tgt := 1488) X dL_law_1485 (by decide) rfl ?_
    refine m_iinc (i := 4) (n := 4) X dL_law_1488 rfl (by decide) rfl ?_
    refine m_goto (tgt := 23) X dL_law_1491 (by decide) rfl ?_
    refine m_lp (l1 := [(4, .int (nI (4 * (i + 1)))), (3, .ref 31), (2, .ref 17), (1, .ref 0), (0, .ref m_BI)]) [0, 3, 4, 5, 6] (by rw [← nI_4]; rfl) ?_
    exact ih _ _ _ _ _ _ _ _ _ _ hI (by omega) (show cu + 1 + 0 + 0 ≤ 32 + (i + 1) by omega) (show su + 6 + 0 + 0 ≤ 1560 + 6 * (i + 1) by omega)
  · skip
    refine m_aload_n X dL_law_1474 rfl rfl ?_
    refine m_iconst (v := 0) X dL_law_1475 (by decide) rfl ?_
    refine m_lald X dL_law_1476 rfl (vp_in_nI (n := 0) (by decide) (by decide)) rfl ?_
    refine m_lload X dL_law_1477 rfl rfl ?_
    refine m_lcmp X dL_law_1479 rfl ?_
    refine m_if_eq (tgt := 1485) X dL_law_1480 (by decide) rfl (fun _ => ?_) (fun q => absurd (lg_cmp_0 (hF hk)) q)
    refine m_goto (tgt := 1488) X dL_law_1485 (by decide) rfl ?_
    refine m_iinc (i := 4) (n := 4) X dL_law_1488 rfl (by decide) rfl ?_
    refine m_goto (tgt := 23) X dL_law_1491 (by decide) rfl ?_
    refine m_lp (l1 := [(4, .int (nI (4 * (i + 1)))), (3, .ref 31), (2, .ref 17), (1, .ref 0), (0, .ref m_BI)]) [0, 3, 4, 5, 6] (by rw [← nI_4]; rfl) ?_
    exact ih _ _ _ _ _ _ _ _ _ _ hI (by omega) (show cu + 1 + 0 + 0 ≤ 32 + (i + 1) by omega) (show su + 6 + 0 + 0 ≤ 1560 + 6 * (i + 1) by omega)
end ML3

section MN2
theorem sLots_yesM {b cur : Int32} {lb : Nat → Int32} {i : Nat} {s : m_L} (h : lb i = b) : sLots b cur lb (i + 1) s =
    ((sLots b cur lb i s).1 - mn2 (sLots b cur lb i s).1 ((sLots b cur lb i s).2.1 i), upd (sLots b cur lb i s).2.1 i ((sLots b cur lb i s).2.1 i - mn2 (sLots b cur lb i s).1 ((sLots b cur lb i s).2.1 i)), upd (sLots b cur lb i s).2.2.1 (plc i cur) ((sLots b cur lb i s).2.2.1 (plc i cur) + mn2 (sLots b cur lb i s).1 ((sLots b cur lb i s).2.1 i)), upd (sLots b cur lb i s).2.2.2 i (if 0 < mn2 (sLots b cur lb i s).1 ((sLots b cur lb i s).2.1 i) ∧ (sLots b cur lb i s).2.2.2 i = -1 then cur else (sLots b cur lb i s).2.2.2 i)) := by
  rw [sLots_yes h, i_subneg ((sLots b cur lb i s).2.1 i)]
set_option maxHeartbeats 8000000 in
theorem c_X6_books {v w : m_V} {a b : m_R} {x z : Int64} {lq : Int32} {t : m_H} (h1 : vp_in (w 15) 6) (h2 : vp_in (sbin w b) 4) (hLo : ∃ L, L ≤ 30 ∧ w 8 = nI L) (hB : ∃ B, B < 20 ∧ w 20 = nI (B + 1)) : m_Ctr M_X6_books [.ref 17] (hL v a x w b z lq t) (.inl (some (.int (sAmt w)), hL v a x w (sBook w b) z lq t)) := by
  refine m_intro (by decide +kernel) (Nat.le_of_ble_eq_true rfl) (fun {D cI cL sa A p l e s m args below meth c ad} X => ?_)
  obtain ⟨L, hL30, hL8⟩ := hLo
  obtain ⟨B, hB20, hb⟩ := hB
  have hcur : w 20 - 1 = nI B := by rw [hb]; exact nI_pred B
  have eL : (w 8).toNatClampNeg = L := by rw [hL8]; exact nI_clamp (by omega)
  have loop : ∀ k i, i + k = L → m_Go D cI cL ad ((hL v a x w b z lq t)).length (m_Ml M_X6_books) A p l e (m_rm M_X6_books) s m args below meth c (m_VQ D cI cL ad ((hL v a x w b z lq t)).length A (.inl (some (.int (sAmt w)), hL v a x w (sBook w b) z lq t)) below args s (m_Mc M_X6_books) (m_Ms M_X6_books)) 41 [(4, .int (nI i)), (3, .int (sLots (sbin w b) (w 20 - 1) (b 4) i (sAmt w, b 6, b 7, b 12)).1), (0, .ref 17), (1, .int (sAmt w)), (2, .int (sbin w b))] [] (hL v a x w (va_up (va_up (va_up (va_up b 2 (upd (b 2) (sbin w b).toNatClampNeg (b 2 (sbin w b).toNatClampNeg + sAmt w))) 6 (sLots (sbin w b) (w 20 - 1) (b 4) i (sAmt w, b 6, b 7, b 12)).2.1) 7 (sLots (sbin w b) (w 20 - 1) (b 4) i (sAmt w, b 6, b 7, b 12)).2.2.1) 12 (sLots (sbin w b) (w 20 - 1) (b 4) i (sAmt w, b 6, b 7, b 12)).2.2.2) z lq t) 0 0 := by
    intro k
    induction k with
    | zero =>
      intro i hi
      have hiL : i = L := by omega
      subst hiL
      refine m_iload X dX6_books_41 rfl rfl ?_
      refine m_aload_n X dX6_books_43 rfl rfl ?_
      refine m_getf (v := .int (w 8)) X dX6_books_44 fl_X6_60 rfl rfl rfl ?_
      refine m_icmp_ge (tgt := 173) X dX6_books_47 (by decide) rfl (fun b47 => ?_) (fun b47 => absurd b47 (not_not_intro (by rw [hL8]; exact Int32.le_refl _)))
      refine m_aload_n X dX6_books_173 rfl rfl ?_
      refine m_getf X dX6_books_174 fl_X6_26 rfl rfl rfl ?_
      refine m_iload_n X dX6_books_177 rfl rfl ?_
      refine m_dup2 X dX6_books_178 rfl rfl rfl ?_
      refine m_iald X dX6_books_179 rfl (h2) rfl ?_
      refine m_iload_n X dX6_books_180 rfl rfl ?_
      refine m_iadd X dX6_books_181 rfl ?_
      refine m_iast X dX6_books_182 rfl (h2) rfl ?_
      refine m_hp hM_a3 ?_
      refine m_iload_n X dX6_books_183 rfl rfl ?_
      exact m_iret X dX6_books_184 rfl (by unfold sBook sOut sTook; rw [i_rsub, eL]; try rfl) (Nat.le_of_ble_eq_true rfl) (Nat.le_of_ble_eq_true rfl) rfl
    | succ k ih =>
      intro i hi
      have hlt : i < L := by omega
      have hin : vp_in (nI i) 30 := vp_in_nI (by omega) (by omega)
      have ein : (nI i).toNatClampNeg = i := nI_clamp (by omega)
      have hpl : vp_in (20 * nI i + w 20 - 1) 600 := by rw [i_place]; exact plc_in (by omega) hB20 hcur
      have epl : (20 * nI i + w 20 - 1).toNatClampNeg = plc i (w 20 - 1) := by unfold plc; rw [i_place]
      refine m_iload X dX6_books_41 rfl rfl ?_
      refine m_aload_n X dX6_books_43 rfl rfl ?_
      refine m_getf (v := .int (w 8)) X dX6_books_44 fl_X6_60 rfl rfl rfl ?_
      refine m_icmp_ge (tgt := 173) X dX6_books_47 (by decide) rfl (fun b47 => absurd b47 (by rw [hL8]; exact nI_ge hlt (by omega))) (fun b47 => ?_)
      refine m_aload_n X dX6_books_50 rfl rfl ?_
      refine m_getf X dX6_books_51 fl_X6_29 rfl rfl rfl ?_
      refine m_iload X dX6_books_54 rfl rfl ?_
      refine m_iald X dX6_books_56 rfl (hin) rfl ?_
      refine m_iload_n X dX6_books_57 rfl rfl ?_
      refine m_icmp_eq (tgt := 65) X dX6_books_58 (by decide) rfl (fun b58 => ?_) (fun b58 => ?_)
      · have e65 := sLots_yesM (cur := w 20 - 1) (s := (sAmt w, b 6, b 7, b 12)) (show b 4 i = sbin w b by rw [← ein]; exact b58)
        refine m_aload_n X dX6_books_65 rfl rfl ?_
        refine m_getf X dX6_books_66 fl_X6_35 rfl rfl rfl ?_
        refine m_iload X dX6_books_69 rfl rfl ?_
        refine m_iald X dX6_books_71 rfl (hin) rfl ?_
        refine m_iload_n X dX6_books_72 rfl rfl ?_
        refine m_icmp_ge (tgt := 86) X dX6_books_73 (by decide) rfl (fun b73 => ?_) (fun b73 => ?_)
        · have c73 : (sLots (sbin w b) (w 20 - 1) (b 4) i (sAmt w, b 6, b 7, b 12)).1 ≤ (sLots (sbin w b) (w 20 - 1) (b 4) i (sAmt w, b 6, b 7, b 12)).2.1 i := by have q := b73; rw [ein] at q; exact q
          refine m_iload_n X dX6_books_86 rfl rfl ?_
          refine m_sp (st1 := [.int (mn2 (sLots (sbin w b) (w 20 - 1) (b 4) i (sAmt w, b 6, b 7, b 12)).1 ((sLots (sbin w b) (w 20 - 1) (b 4) i (sAmt w, b 6, b 7, b 12)).2.1 i))]) (by unfold mn2; rw [if_neg (i_nlt.mpr c73)]; try rfl) ?_
          refine m_istore X dX6_books_87 (Nat.le_of_ble_eq_true rfl) rfl ?_
          refine m_aload_n X dX6_books_89 rfl rfl ?_
          refine m_getf X dX6_books_90 fl_X6_35 rfl rfl rfl ?_
          refine m_iload X dX6_books_93 rfl rfl ?_
          refine m_dup2 X dX6_books_95 rfl rfl rfl ?_
          refine m_iald X dX6_books_96 rfl (hin) rfl ?_
          refine m_iload X dX6_books_97 rfl rfl ?_
          refine m_isub X dX6_books_99 rfl ?_
          refine m_iast X dX6_books_100 rfl (hin) rfl ?_
          refine m_hp hM_a6 ?_
          refine m_iload_n X dX6_books_101 rfl rfl ?_
          refine m_iload X dX6_books_102 rfl rfl ?_
          refine m_isub X dX6_books_104 rfl ?_
          refine m_istore_n X dX6_books_105 (Nat.le_of_ble_eq_true rfl) rfl ?_
          refine m_aload_n X dX6_books_106 rfl rfl ?_
          refine m_getf X dX6_books_107 fl_X6_41 rfl rfl rfl ?_
          refine m_bipush (v := (20)) X dX6_books_110 (by decide) rfl ?_
          refine m_iload X dX6_books_112 rfl rfl ?_
          refine m_imul X dX6_books_114 rfl ?_
          refine m_aload_n X dX6_books_115 rfl rfl ?_
          refine m_getf (v := .int (w 20)) X dX6_books_116 fl_X6_156 rfl rfl rfl ?_
          refine m_iadd X dX6_books_119 rfl ?_
          refine m_iconst (v := 1) X dX6_books_120 (by decide) rfl ?_
          refine m_isub X dX6_books_121 rfl ?_
          refine m_dup2 X dX6_books_122 rfl rfl rfl ?_
          refine m_iald X dX6_books_123 rfl (hpl) rfl ?_
          refine m_iload X dX6_books_124 rfl rfl ?_
          refine m_iadd X dX6_books_126 rfl ?_
          refine m_iast X dX6_books_127 rfl (hpl) rfl ?_
          refine m_hp hM_a7 ?_
          refine m_aload_n X dX6_books_128 rfl rfl ?_
          refine m_getf X dX6_books_129 fl_X6_38 rfl rfl rfl ?_
          refine m_iload X dX6_books_132 rfl rfl ?_
          refine m_iload X dX6_books_134 rfl rfl ?_
          refine m_if_le (tgt := 159) X dX6_books_136 (by decide) rfl (fun b136 => ?_) (fun b136 => ?_)
          · refine m_aload_n X dX6_books_159 rfl rfl ?_
            refine m_getf X dX6_books_160 fl_X6_38 rfl rfl rfl ?_
            refine m_iload X dX6_books_163 rfl rfl ?_
            refine m_iald X dX6_books_165 rfl (hin) rfl ?_
            refine m_iast X dX6_books_166 rfl (hin) rfl ?_
            refine m_hp hM_a12 ?_
            refine m_iinc X dX6_books_167 rfl (Nat.le_of_ble_eq_true rfl) rfl ?_
            refine m_goto (tgt := 41) X dX6_books_170 (by decide) rfl ?_
            refine m_hp (h1 := (hL v a x w (va_up (va_up (va_up (va_up b 2 (upd (b 2) (sbin w b).toNatClampNeg (b 2 (sbin w b).toNatClampNeg + sAmt w))) 6 (sLots (sbin w b) (w 20 - 1) (b 4) (i + 1) (sAmt w, b 6, b 7, b 12)).2.1) 7 (sLots (sbin w b) (w 20 - 1) (b 4) (i + 1) (sAmt w, b 6, b 7, b 12)).2.2.1) 12 (sLots (sbin w b) (w 20 - 1) (b 4) (i + 1) (sAmt w, b 6, b 7, b 12)).2.2.2) z lq t)) (by rw [e65, ein, epl, if_neg (fun q => absurd q.1 (i_nlt.mpr b136))]; rfl) ?_
            refine m_lp (l1 := [(4, .int (nI (i + 1))), (3, .int (sLots (sbin w b) (w 20 - 1) (b 4) (i + 1) (sAmt w, b 6, b 7, b 12)).1), (0, .ref 17), (1, .int (sAmt w)), (2, .int (sbin w b))]) [0, 1, 3, 4, 5] (by rw [e65, nI_succ]; rfl) ?_
            exact ih (i + 1) (by omega)
          · refine m_aload_n X dX6_books_139 rfl rfl ?_
            refine m_getf X dX6_books_140 fl_X6_38 rfl rfl rfl ?_
            refine m_iload X dX6_books_143 rfl rfl ?_
            refine m_iald X dX6_books_145 rfl (hin) rfl ?_
            refine m_iconst (v := (-1)) X dX6_books_146 (by decide) rfl ?_
            refine m_icmp_ne (tgt := 159) X dX6_books_147 (by decide) rfl (fun b147 => ?_) (fun b147 => ?_)
            · have c147 : ¬ (sLots (sbin w b) (w 20 - 1) (b 4) i (sAmt w, b 6, b 7, b 12)).2.2.2 i = -1 := by have q := b147; rw [ein] at q; exact q
              refine m_aload_n X dX6_books_159 rfl rfl ?_
              refine m_getf X dX6_books_160 fl_X6_38 rfl rfl rfl ?_
              refine m_iload X dX6_books_163 rfl rfl ?_
              refine m_iald X dX6_books_165 rfl (hin) rfl ?_
              refine m_iast X dX6_books_166 rfl (hin) rfl ?_
              refine m_hp hM_a12 ?_
              refine m_iinc X dX6_books_167 rfl (Nat.le_of_ble_eq_true rfl) rfl ?_
              refine m_goto (tgt := 41) X dX6_books_170 (by decide) rfl ?_
              refine m_hp (h1 := (hL v a x w (va_up (va_up (va_up (va_up b 2 (upd (b 2) (sbin w b).toNatClampNeg (b 2 (sbin w b).toNatClampNeg + sAmt w))) 6 (sLots (sbin w b) (w 20 - 1) (b 4) (i + 1) (sAmt w, b 6, b 7, b 12)).2.1) 7 (sLots (sbin w b) (w 20 - 1) (b 4) (i + 1) (sAmt w, b 6, b 7, b 12)).2.2.1) 12 (sLots (sbin w b) (w 20 - 1) (b 4) (i + 1) (sAmt w, b 6, b 7, b 12)).2.2.2) z lq t)) (by rw [e65, ein, epl, if_neg (fun q => c147 q.2)]; rfl) ?_
              refine m_lp (l1 := [(4, .int (nI (i + 1))), (3, .int (sLots (sbin w b) (w 20 - 1) (b 4) (i + 1) (sAmt w, b 6, b 7, b 12)).1), (0, .ref 17), (1, .int (sAmt w)), (2, .int (sbin w b))]) [0, 1, 3, 4, 5] (by rw [e65, nI_succ]; rfl) ?_
              exact ih (i + 1) (by omega)
            · have c147 : (sLots (sbin w b) (w 20 - 1) (b 4) i (sAmt w, b 6, b 7, b 12)).2.2.2 i = -1 := by have q := b147; rw [ein] at q; exact q
              refine m_aload_n X dX6_books_150 rfl rfl ?_
              refine m_getf (v := .int (w 20)) X dX6_books_151 fl_X6_156 rfl rfl rfl ?_
              refine m_iconst (v := 1) X dX6_books_154 (by decide) rfl ?_
              refine m_isub X dX6_books_155 rfl ?_
              refine m_goto (tgt := 166) X dX6_books_156 (by decide) rfl ?_
              refine m_iast X dX6_books_166 rfl (hin) rfl ?_
              refine m_hp hM_a12 ?_
              refine m_iinc X dX6_books_167 rfl (Nat.le_of_ble_eq_true rfl) rfl ?_
              refine m_goto (tgt := 41) X dX6_books_170 (by decide) rfl ?_
              refine m_hp (h1 := (hL v a x w (va_up (va_up (va_up (va_up b 2 (upd (b 2) (sbin w b).toNatClampNeg (b 2 (sbin w b).toNatClampNeg + sAmt w))) 6 (sLots (sbin w b) (w 20 - 1) (b 4) (i + 1) (sAmt w, b 6, b 7, b 12)).2.1) 7 (sLots (sbin w b) (w 20 - 1) (b 4) (i + 1) (sAmt w, b 6, b 7, b 12)).2.2.1) 12 (sLots (sbin w b) (w 20 - 1) (b 4) (i + 1) (sAmt w, b 6, b 7, b 12)).2.2.2) z lq t)) (by rw [e65, ein, epl, if_pos ⟨i_nle.mp b136, c147⟩]; rfl) ?_
              refine m_lp (l1 := [(4, .int (nI (i + 1))), (3, .int (sLots (sbin w b) (w 20 - 1) (b 4) (i + 1) (sAmt w, b 6, b 7, b 12)).1), (0, .ref 17), (1, .int (sAmt w)), (2, .int (sbin w b))]) [0, 1, 3, 4, 5] (by rw [e65, nI_succ]; rfl) ?_
              exact ih (i + 1) (by omega)
        · have c73 : ¬ (sLots (sbin w b) (w 20 - 1) (b 4) i (sAmt w, b 6, b 7, b 12)).1 ≤ (sLots (sbin w b) (w 20 - 1) (b 4) i (sAmt w, b 6, b 7, b 12)).2.1 i := by have q := b73; rw [ein] at q; exact q
          refine m_aload_n X dX6_books_76 rfl rfl ?_
          refine m_getf X dX6_books_77 fl_X6_35 rfl rfl rfl ?_
          refine m_iload X dX6_books_80 rfl rfl ?_
          refine m_iald X dX6_books_82 rfl (hin) rfl ?_
          refine m_goto (tgt := 87) X dX6_books_83 (by decide) rfl ?_
          refine m_sp (st1 := [.int (mn2 (sLots (sbin w b) (w 20 - 1) (b 4) i (sAmt w, b 6, b 7, b 12)).1 ((sLots (sbin w b) (w 20 - 1) (b 4) i (sAmt w, b 6, b 7, b 12)).2.1 i))]) (by rw [ein]; unfold mn2; rw [if_pos (i_nle.mp c73)]; try rfl) ?_
          refine m_istore X dX6_books_87 (Nat.le_of_ble_eq_true rfl) rfl ?_
          refine m_aload_n X dX6_books_89 rfl rfl ?_
          refine m_getf X dX6_books_90 fl_X6_35 rfl rfl rfl ?_
          refine m_iload X dX6_books_93 rfl rfl ?_
          refine m_dup2 X dX6_books_95 rfl rfl rfl ?_
          refine m_iald X dX6_books_96 rfl (hin) rfl ?_
          refine m_iload X dX6_books_97 rfl rfl ?_
          refine m_isub X dX6_books_99 rfl ?_
          refine m_iast X dX6_books_100 rfl (hin) rfl ?_
          refine m_hp hM_a6 ?_
          refine m_iload_n X dX6_books_101 rfl rfl ?_
          refine m_iload X dX6_books_102 rfl rfl ?_
          refine m_isub X dX6_books_104 rfl ?_
          refine m_istore_n X dX6_books_105 (Nat.le_of_ble_eq_true rfl) rfl ?_
          refine m_aload_n X dX6_books_106 rfl rfl ?_
          refine m_getf X dX6_books_107 fl_X6_41 rfl rfl rfl ?_
          refine m_bipush (v := (20)) X dX6_books_110 (by decide) rfl ?_
          refine m_iload X dX6_books_112 rfl rfl ?_
          refine m_imul X dX6_books_114 rfl ?_
          refine m_aload_n X dX6_books_115 rfl rfl ?_
          refine m_getf (v := .int (w 20)) X dX6_books_116 fl_X6_156 rfl rfl rfl ?_
          refine m_iadd X dX6_books_119 rfl ?_
          refine m_iconst (v := 1) X dX6_books_120 (by decide) rfl ?_
          refine m_isub X dX6_books_121 rfl ?_
          refine m_dup2 X dX6_books_122 rfl rfl rfl ?_
          refine m_iald X dX6_books_123 rfl (hpl) rfl ?_
          refine m_iload X dX6_books_124 rfl rfl ?_
          refine m_iadd X dX6_books_126 rfl ?_
          refine m_iast X dX6_books_127 rfl (hpl) rfl ?_
          refine m_hp hM_a7 ?_
          refine m_aload_n X dX6_books_128 rfl rfl ?_
          refine m_getf X dX6_books_129 fl_X6_38 rfl rfl rfl ?_
          refine m_iload X dX6_books_132 rfl rfl ?_
          refine m_iload X dX6_books_134 rfl rfl ?_
          refine m_if_le (tgt := 159) X dX6_books_136 (by decide) rfl (fun b136 => ?_) (fun b136 => ?_)
          · refine m_aload_n X dX6_books_159 rfl rfl ?_
            refine m_getf X dX6_books_160 fl_X6_38 rfl rfl rfl ?_
            refine m_iload X dX6_books_163 rfl rfl ?_
            refine m_iald X dX6_books_165 rfl (hin) rfl ?_
            refine m_iast X dX6_books_166 rfl (hin) rfl ?_
            refine m_hp hM_a12 ?_
            refine m_iinc X dX6_books_167 rfl (Nat.le_of_ble_eq_true rfl) rfl ?_
            refine m_goto (tgt := 41) X dX6_books_170 (by decide) rfl ?_
            refine m_hp (h1 := (hL v a x w (va_up (va_up (va_up (va_up b 2 (upd (b 2) (sbin w b).toNatClampNeg (b 2 (sbin w b).toNatClampNeg + sAmt w))) 6 (sLots (sbin w b) (w 20 - 1) (b 4) (i + 1) (sAmt w, b 6, b 7, b 12)).2.1) 7 (sLots (sbin w b) (w 20 - 1) (b 4) (i + 1) (sAmt w, b 6, b 7, b 12)).2.2.1) 12 (sLots (sbin w b) (w 20 - 1) (b 4) (i + 1) (sAmt w, b 6, b 7, b 12)).2.2.2) z lq t)) (by rw [e65, ein, epl, if_neg (fun q => absurd q.1 (i_nlt.mpr b136))]; rfl) ?_
            refine m_lp (l1 := [(4, .int (nI (i + 1))), (3, .int (sLots (sbin w b) (w 20 - 1) (b 4) (i + 1) (sAmt w, b 6, b 7, b 12)).1), (0, .ref 17), (1, .int (sAmt w)), (2, .int (sbin w b))]) [0, 1, 3, 4, 5] (by rw [e65, nI_succ]; rfl) ?_
            exact ih (i + 1) (by omega)
          · refine m_aload_n X dX6_books_139 rfl rfl ?_
            refine m_getf X dX6_books_140 fl_X6_38 rfl rfl rfl ?_
            refine m_iload X dX6_books_143 rfl rfl ?_
            refine m_iald X dX6_books_145 rfl (hin) rfl ?_
            refine m_iconst (v := (-1)) X dX6_books_146 (by decide) rfl ?_
            refine m_icmp_ne (tgt := 159) X dX6_books_147 (by decide) rfl (fun b147 => ?_) (fun b147 => ?_)
            · have c147 : ¬ (sLots (sbin w b) (w 20 - 1) (b 4) i (sAmt w, b 6, b 7, b 12)).2.2.2 i = -1 := by have q := b147; rw [ein] at q; exact q
              refine m_aload_n X dX6_books_159 rfl rfl ?_
              refine m_getf X dX6_books_160 fl_X6_38 rfl rfl rfl ?_
              refine m_iload X dX6_books_163 rfl rfl ?_
              refine m_iald X dX6_books_165 rfl (hin) rfl ?_
              refine m_iast X dX6_books_166 rfl (hin) rfl ?_
              refine m_hp hM_a12 ?_
              refine m_iinc X dX6_books_167 rfl (Nat.le_of_ble_eq_true rfl) rfl ?_
              refine m_goto (tgt := 41) X dX6_books_170 (by decide) rfl ?_
              refine m_hp (h1 := (hL v a x w (va_up (va_up (va_up (va_up b 2 (upd (b 2) (sbin w b).toNatClampNeg (b 2 (sbin w b).toNatClampNeg + sAmt w))) 6 (sLots (sbin w b) (w 20 - 1) (b 4) (i + 1) (sAmt w, b 6, b 7, b 12)).2.1) 7 (sLots (sbin w b) (w 20 - 1) (b 4) (i + 1) (sAmt w, b 6, b 7, b 12)).2.2.1) 12 (sLots (sbin w b) (w 20 - 1) (b 4) (i + 1) (sAmt w, b 6, b 7, b 12)).2.2.2) z lq t)) (by rw [e65, ein, epl, if_neg (fun q => c147 q.2)]; rfl) ?_
              refine m_lp (l1 := [(4, .int (nI (i + 1))), (3, .int (sLots (sbin w b) (w 20 - 1) (b 4) (i + 1) (sAmt w, b 6, b 7, b 12)).1), (0, .ref 17), (1, .int (sAmt w)), (2, .int (sbin w b))]) [0, 1, 3, 4, 5] (by rw [e65, nI_succ]; rfl) ?_
              exact ih (i + 1) (by omega)
            · have c147 : (sLots (sbin w b) (w 20 - 1) (b 4) i (sAmt w, b 6, b 7, b 12)).2.2.2 i = -1 := by have q := b147; rw [ein] at q; exact q
              refine m_aload_n X dX6_books_150 rfl rfl ?_
              refine m_getf (v := .int (w 20)) X dX6_books_151 fl_X6_156 rfl rfl rfl ?_
              refine m_iconst (v := 1) X dX6_books_154 (by decide) rfl ?_
              refine m_isub X dX6_books_155 rfl ?_
              refine m_goto (tgt := 166) X dX6_books_156 (by decide) rfl ?_
              refine m_iast X dX6_books_166 rfl (hin) rfl ?_
              refine m_hp hM_a12 ?_
              refine m_iinc X dX6_books_167 rfl (Nat.le_of_ble_eq_true rfl) rfl ?_
              refine m_goto (tgt := 41) X dX6_books_170 (by decide) rfl ?_
              refine m_hp (h1 := (hL v a x w (va_up (va_up (va_up (va_up b 2 (upd (b 2) (sbin w b).toNatClampNeg (b 2 (sbin w b).toNatClampNeg + sAmt w))) 6 (sLots (sbin w b) (w 20 - 1) (b 4) (i + 1) (sAmt w, b 6, b 7, b 12)).2.1) 7 (sLots (sbin w b) (w 20 - 1) (b 4) (i + 1) (sAmt w, b 6, b 7, b 12)).2.2.1) 12 (sLots (sbin w b) (w 20 - 1) (b 4) (i + 1) (sAmt w, b 6, b 7, b 12)).2.2.2) z lq t)) (by rw [e65, ein, epl, if_pos ⟨i_nle.mp b136, c147⟩]; rfl) ?_
              refine m_lp (l1 := [(4, .int (nI (i + 1))), (3, .int (sLots (sbin w b) (w 20 - 1) (b 4) (i + 1) (sAmt w, b 6, b 7, b 12)).1), (0, .ref 17), (1, .int (sAmt w)), (2, .int (sbin w b))]) [0, 1, 3, 4, 5] (by rw [e65, nI_succ]; rfl) ?_
              exact ih (i + 1) (by omega)
      · have e61 := sLots_no (cur := w 20 - 1) (s := (sAmt w, b 6, b 7, b 12)) (show ¬ b 4 i = sbin w b by rw [← ein]; exact b58)
        refine m_iconst (v := 0) X dX6_books_61 (by decide) rfl ?_
        refine m_goto (tgt := 87) X dX6_books_62 (by decide) rfl ?_
        refine m_istore X dX6_books_87 (Nat.le_of_ble_eq_true rfl) rfl ?_
        refine m_aload_n X dX6_books_89 rfl rfl ?_
        refine m_getf X dX6_books_90 fl_X6_35 rfl rfl rfl ?_
        refine m_iload X dX6_books_93 rfl rfl ?_
        refine m_dup2 X dX6_books_95 rfl rfl rfl ?_
        refine m_iald X dX6_books_96 rfl (hin) rfl ?_
        refine m_iload X dX6_books_97 rfl rfl ?_
        refine m_isub X dX6_books_99 rfl ?_
        refine m_iast X dX6_books_100 rfl (hin) rfl ?_
        refine m_hp hM_a6 ?_
        refine m_iload_n X dX6_books_101 rfl rfl ?_
        refine m_iload X dX6_books_102 rfl rfl ?_
        refine m_isub X dX6_books_104 rfl ?_
        refine m_istore_n X dX6_books_105 (Nat.le_of_ble_eq_true rfl) rfl ?_
        refine m_aload_n X dX6_books_106 rfl rfl ?_
        refine m_getf X dX6_books_107 fl_X6_41 rfl rfl rfl ?_
        refine m_bipush (v := (20)) X dX6_books_110 (by decide) rfl ?_
        refine m_iload X dX6_books_112 rfl rfl ?_
        refine m_imul X dX6_books_114 rfl ?_
        refine m_aload_n X dX6_books_115 rfl rfl ?_
        refine m_getf (v := .int (w 20)) X dX6_books_116 fl_X6_156 rfl rfl rfl ?_
        refine m_iadd X dX6_books_119 rfl ?_
        refine m_iconst (v := 1) X dX6_books_120 (by decide) rfl ?_
        refine m_isub X dX6_books_121 rfl ?_
        refine m_dup2 X dX6_books_122 rfl rfl rfl ?_
        refine m_iald X dX6_books_123 rfl (hpl) rfl ?_
        refine m_iload X dX6_books_124 rfl rfl ?_
        refine m_iadd X dX6_books_126 rfl ?_
        refine m_iast X dX6_books_127 rfl (hpl) rfl ?_
        refine m_hp hM_a7 ?_
        refine m_aload_n X dX6_books_128 rfl rfl ?_
        refine m_getf X dX6_books_129 fl_X6_38 rfl rfl rfl ?_
        refine m_iload X dX6_books_132 rfl rfl ?_
        refine m_iload X dX6_books_134 rfl rfl ?_
        refine m_if_le (tgt := 159) X dX6_books_136 (by decide) rfl (fun b136 => ?_) (fun b136 => absurd b136 (not_not_intro (by decide)))
        refine m_aload_n X dX6_books_159 rfl rfl ?_
        refine m_getf X dX6_books_160 fl_X6_38 rfl rfl rfl ?_
        refine m_iload X dX6_books_163 rfl rfl ?_
        refine m_iald X dX6_books_165 rfl (hin) rfl ?_
        refine m_iast X dX6_books_166 rfl (hin) rfl ?_
        refine m_hp hM_a12 ?_
        refine m_iinc X dX6_books_167 rfl (Nat.le_of_ble_eq_true rfl) rfl ?_
        refine m_goto (tgt := 41) X dX6_books_170 (by decide) rfl ?_
        refine m_hp (h1 := (hL v a x w (va_up (va_up (va_up (va_up b 2 (upd (b 2) (sbin w b).toNatClampNeg (b 2 (sbin w b).toNatClampNeg + sAmt w))) 6 (sLots (sbin w b) (w 20 - 1) (b 4) (i + 1) (sAmt w, b 6, b 7, b 12)).2.1) 7 (sLots (sbin w b) (w 20 - 1) (b 4) (i + 1) (sAmt w, b 6, b 7, b 12)).2.2.1) 12 (sLots (sbin w b) (w 20 - 1) (b 4) (i + 1) (sAmt w, b 6, b 7, b 12)).2.2.2) z lq t)) (by rw [e61, m_upd2, m_upd1, m_upd0]; rfl) ?_
        refine m_lp (l1 := [(4, .int (nI (i + 1))), (3, .int (sLots (sbin w b) (w 20 - 1) (b 4) (i + 1) (sAmt w, b 6, b 7, b 12)).1), (0, .ref 17), (1, .int (sAmt w)), (2, .int (sbin w b))]) [0, 1, 3, 4, 5] (by rw [e61, nI_succ, Int32.sub_zero]; rfl) ?_
        exact ih (i + 1) (by omega)
  have cont : m_Go D cI cL ad ((hL v a x w b z lq t)).length (m_Ml M_X6_books) A p l e (m_rm M_X6_books) s m args below meth c (m_VQ D cI cL ad ((hL v a x w b z lq t)).length A (.inl (some (.int (sAmt w)), hL v a x w (sBook w b) z lq t)) below args s (m_Mc M_X6_books) (m_Ms M_X6_books)) 15 (lv_args 0 [.ref 17]) [.int (sAmt w)] (hL v a x w b z lq t) 0 0 := by
    refine m_istore_n X dX6_books_15 (Nat.le_of_ble_eq_true rfl) rfl ?_
    refine m_aload_n X dX6_books_16 rfl rfl ?_
    refine m_getf X dX6_books_17 fl_X6_44 rfl rfl rfl ?_
    refine m_aload_n X dX6_books_20 rfl rfl ?_
    refine m_getf (v := .int (w 15)) X dX6_books_21 fl_X6_99 rfl rfl rfl ?_
    refine m_iald X dX6_books_24 rfl (h1) rfl ?_
    refine m_istore_n X dX6_books_25 (Nat.le_of_ble_eq_true rfl) rfl ?_
    refine m_iload_n X dX6_books_26 rfl rfl ?_
    refine m_istore_n X dX6_books_27 (Nat.le_of_ble_eq_true rfl) rfl ?_
    refine m_aload_n X dX6_books_28 rfl rfl ?_
    refine m_getf X dX6_books_29 fl_X6_23 rfl rfl rfl ?_
    refine m_iload_n X dX6_books_32 rfl rfl ?_
    refine m_dup2 X dX6_books_33 rfl rfl rfl ?_
    refine m_iald X dX6_books_34 rfl (h2) rfl ?_
    refine m_iload_n X dX6_books_35 rfl rfl ?_
    refine m_iadd X dX6_books_36 rfl ?_
    refine m_iast X dX6_books_37 rfl (h2) rfl ?_
    refine m_hp hM_a2 ?_
    refine m_iconst (v := 0) X dX6_books_38 (by decide) rfl ?_
    refine m_istore X dX6_books_39 (Nat.le_of_ble_eq_true rfl) rfl ?_
    refine m_hp (h1 := (hL v a x w (va_up (va_up (va_up (va_up b 2 (upd (b 2) (sbin w b).toNatClampNeg (b 2 (sbin w b).toNatClampNeg + sAmt w))) 6 (sLots (sbin w b) (w 20 - 1) (b 4) 0 (sAmt w, b 6, b 7, b 12)).2.1) 7 (sLots (sbin w b) (w 20 - 1) (b 4) 0 (sAmt w, b 6, b 7, b 12)).2.2.1) 12 (sLots (sbin w b) (w 20 - 1) (b 4) 0 (sAmt w, b 6, b 7, b 12)).2.2.2) z lq t)) rfl ?_
    refine m_lp (l1 := [(4, .int (nI 0)), (3, .int (sLots (sbin w b) (w 20 - 1) (b 4) 0 (sAmt w, b 6, b 7, b 12)).1), (0, .ref 17), (1, .int (sAmt w)), (2, .int (sbin w b))]) [0, 1, 4, 3, 2] rfl ?_
    exact loop L 0 (by omega)
  refine m_aload_n X dX6_books_0 rfl rfl ?_
  refine m_cV0 X dX6_books_1 lk_X6_102 mk_X6_netNow in_X6_netNow se_X6_netNow rfl rfl (c_X6_netNow) rfl (Nat.le_of_ble_eq_true rfl) (Nat.le_of_ble_eq_true rfl) (Nat.le_of_ble_eq_true rfl) (Nat.le_of_ble_eq_true rfl) (Nat.le_of_ble_eq_true rfl) rfl ?_
  refine m_if_ge (tgt := 11) X dX6_books_4 (by decide) rfl (fun b4 => ?_) (fun b4 => ?_)
  · refine m_aload_n X dX6_books_11 rfl rfl ?_
    refine m_cV0 X dX6_books_12 lk_X6_102 mk_X6_netNow in_X6_netNow se_X6_netNow rfl rfl (c_X6_netNow) rfl (Nat.le_of_ble_eq_true rfl) (Nat.le_of_ble_eq_true rfl) (Nat.le_of_ble_eq_true rfl) (Nat.le_of_ble_eq_true rfl) (Nat.le_of_ble_eq_true rfl) rfl ?_
    refine m_sp (st1 := [.int (sAmt w)]) (by unfold sAmt; rw [amt_eq, if_pos b4]; rfl) ?_
    exact cont
  · refine m_iconst (v := 0) X dX6_books_7 (by decide) rfl ?_
    refine m_goto (tgt := 15) X dX6_books_8 (by decide) rfl ?_
    refine m_sp (st1 := [.int (sAmt w)]) (by unfold sAmt; rw [amt_eq, if_neg b4]; rfl) ?_
    exact cont
theorem c_X6_finishes {v w : m_V} {a b : m_R} {x z : Int64} {lq : Int32} {t : m_H} (h1 : vp_in (w 15) 6) (h2 : vp_in (sbin w b) 4) (hLo : ∃ L, L ≤ 30 ∧ w 8 = nI L) (hB : ∃ B, B < 20 ∧ w 20 = nI (B + 1)) : m_Ctr M_X6_finishes [.ref 17] (hL v a x w b z lq t) (.inl (none, hL v a x (sFinish w) (sBook w b) z lq t)) := by
  refine m_intro (by decide +kernel) (Nat.le_of_ble_eq_true rfl) (fun X => ?_)
  refine m_aload_n X dX6_finishes_0 rfl rfl ?_
  refine m_cV0 X dX6_finishes_1 lk_X6_162 mk_X6_books in_X6_books se_X6_books rfl rfl (c_X6_books h1 h2 hLo hB) rfl (Nat.le_of_ble_eq_true rfl) (Nat.le_of_ble_eq_true rfl) (Nat.le_of_ble_eq_true rfl) (Nat.le_of_ble_eq_true rfl) (Nat.le_of_ble_eq_true rfl) rfl ?_
  refine m_istore_n X dX6_finishes_4 (Nat.le_of_ble_eq_true rfl) rfl ?_
  refine m_iload_n X dX6_finishes_5 rfl rfl ?_
  refine m_if_lt (tgt := 35) X dX6_finishes_6 (by decide) rfl (fun b6 => absurd b6 (i_nlt.mpr (amt_pos _))) (fun b6 => ?_)
  refine m_aload_n X dX6_finishes_9 rfl rfl ?_
  refine m_getf (v := .int (w 15)) X dX6_finishes_10 fl_X6_99 rfl rfl rfl ?_
  refine m_iconst (v := 1) X dX6_finishes_13 (by decide) rfl ?_
  refine m_iadd X dX6_finishes_14 rfl ?_
  refine m_aload_n X dX6_finishes_15 rfl rfl ?_
  refine m_getf (v := .int (w 9)) X dX6_finishes_16 fl_X6_159 rfl rfl rfl ?_
  refine m_icmp_ge (tgt := 35) X dX6_finishes_19 (by decide) rfl (fun b19 => ?_) (fun b19 => ?_)
  · replace b19 : w 9 ≤ w 15 + 1 := b19
    refine m_aload_n X dX6_finishes_35 rfl rfl ?_
    refine m_dup X dX6_finishes_36 rfl rfl ?_
    refine m_getf (v := .int (w 21)) X dX6_finishes_37 fl_X6_168 rfl rfl rfl ?_
    refine m_iconst (v := 1) X dX6_finishes_40 (by decide) rfl ?_
    refine m_iadd X dX6_finishes_41 rfl ?_
    refine m_piM 21 X dX6_finishes_42 fl_X6_168 fp_X6_31 rfl rfl rfl rfl ?_
    refine m_aload_n X dX6_finishes_45 rfl rfl ?_
    refine m_iconst (v := 0) X dX6_finishes_46 (by decide) rfl ?_
    refine m_piM 11 X dX6_finishes_47 fl_X6_88 fp_X6_21 rfl rfl rfl rfl ?_
    refine m_aload_n X dX6_finishes_50 rfl rfl ?_
    refine m_iconst (v := 0) X dX6_finishes_51 (by decide) rfl ?_
    refine m_cV1 X dX6_finishes_52 lk_X6_91 mk_X6_becomes in_X6_becomes se_X6_becomes rfl rfl (c_X6_becomes) rfl (Nat.le_of_ble_eq_true rfl) (Nat.le_of_ble_eq_true rfl) (Nat.le_of_ble_eq_true rfl) (Nat.le_of_ble_eq_true rfl) (Nat.le_of_ble_eq_true rfl) rfl ?_
    exact m_vret X dX6_finishes_55 rfl (by unfold sFinish; rw [if_pos b19]; try rfl) (Nat.le_of_ble_eq_true rfl) (Nat.le_of_ble_eq_true rfl) rfl
  · replace b19 : ¬(w 9 ≤ w 15 + 1) := b19
    refine m_aload_n X dX6_finishes_22 rfl rfl ?_
    refine m_aload_n X dX6_finishes_23 rfl rfl ?_
    refine m_getf (v := .int (w 15)) X dX6_finishes_24 fl_X6_99 rfl rfl rfl ?_
    refine m_iconst (v := 1) X dX6_finishes_27 (by decide) rfl ?_
    refine m_iadd X dX6_finishes_28 rfl ?_
    refine m_cV1 X dX6_finishes_29 lk_X6_165 mk_X6_begins in_X6_begins se_X6_begins rfl rfl (c_X6_begins) rfl (Nat.le_of_ble_eq_true rfl) (Nat.le_of_ble_eq_true rfl) (Nat.le_of_ble_eq_true rfl) (Nat.le_of_ble_eq_true rfl) (Nat.le_of_ble_eq_true rfl) rfl ?_
    refine m_goto (tgt := 55) X dX6_finishes_32 (by decide) rfl ?_
    exact m_vret X dX6_finishes_55 rfl (by unfold sFinish; rw [if_neg b19]; try rfl) (Nat.le_of_ble_eq_true rfl) (Nat.le_of_ble_eq_true rfl) rfl
theorem xor4m (x : Int32) : 0 ≤ x ^^^ 4 ↔ 0 ≤ x := by
  have h : ∀ z : Int32, 0 ≤ z ↔ z.toBitVec.msb = false := by
    intro z
    rw [i_le]
    show (0 : Int32).toInt ≤ z.toBitVec.toInt ↔ _
    rw [BitVec.msb_eq_toInt, show (0 : Int32).toInt = 0 from rfl]
    simp
  rw [h, h, Int32.toBitVec_xor, BitVec.msb_xor, show (4 : Int32).toBitVec.msb = false from rfl]
  simp
theorem dn4_fl4 {x : Int32} (h : -1000000000 ≤ x.toInt) : dn4 x = fl4 x := by
  have e4 : (4 : Int32).toInt = 4 := rfl
  have hlt : x.toInt < 2 ^ 31 := Int32.toInt_lt x
  unfold dn4 fl4
  by_cases h0 : x < 0
  · have hn : ¬ 0 ≤ x ^^^ 4 := by rw [xor4m, i_nle]; exact h0
    rw [if_pos h0, if_neg hn]
    have hx : x.toInt < 0 := by rw [i_lt] at h0; exact h0
    have e3 : ((4 : Int32) - 1 - x).toInt = 3 - x.toInt := by
      rw [show (4 : Int32) - 1 = 3 from rfl, Jvm.Kit.i32_sub (by rw [show (3 : Int32).toInt = 3 from rfl]; omega) (by rw [show (3 : Int32).toInt = 3 from rfl]; omega)]
      rfl
    have eq1 : ((4 - 1 - x) / 4 : Int32).toInt = (3 - x.toInt) / 4 := by
      rw [Int32.toInt_div, e3, e4, Int.tdiv_eq_ediv_of_nonneg (by omega), Jvm.Kit.bmod32 (by omega) (by omega)]
    have eq2 : (-((4 - 1 - x) / 4) : Int32).toInt = -((3 - x.toInt) / 4) := by
      rw [Int32.toInt_neg, eq1, Jvm.Kit.bmod32 (by omega) (by omega)]
    have eq3 : (x / 4).toInt = -((-x.toInt) / 4) := by
      rw [Int32.toInt_div, e4, show x.toInt = -(-x.toInt) by omega, Int.neg_tdiv, Int.tdiv_eq_ediv_of_nonneg (by omega), Jvm.Kit.bmod32 (by omega) (by omega)]
      omega
    have eq4 : (x / 4 * 4).toInt = -((-x.toInt) / 4) * 4 := by
      rw [Jvm.Kit.i32_mul (by rw [eq3, e4]; omega) (by rw [eq3, e4]; omega), eq3, e4]
    by_cases hq : x / 4 * 4 = x
    · rw [if_pos hq]
      have := congrArg Int32.toInt hq
      rw [eq4] at this
      apply Int32.toInt_inj.mp
      rw [eq2, eq3]
      omega
    · rw [if_neg hq]
      have hq2 : ¬ -((-x.toInt) / 4) * 4 = x.toInt := fun q => hq (Int32.toInt_inj.mp (by rw [eq4]; exact q))
      apply Int32.toInt_inj.mp
      rw [eq2, Jvm.Kit.i32_sub (by rw [eq3, show (1 : Int32).toInt = 1 from rfl]; omega) (by rw [eq3, show (1 : Int32).toInt = 1 from rfl]; omega), eq3, show (1 : Int32).toInt = 1 from rfl]
      omega
  · rw [if_neg h0, if_pos ((xor4m x).mpr (i_nlt.mp h0))]
set_option maxHeartbeats 8000000 in
theorem c_X6_weighs {v w : m_V} {a b : m_R} {x z : Int64} {lq : Int32} {t : m_H} (h1 : vp_in (w 15) 6) (h2 : vp_in (sbin w b) 4) (hLo : ∃ L, L ≤ 30 ∧ w 8 = nI L) (hB : ∃ B, B < 20 ∧ w 20 = nI (B + 1)) (h11 : w 11 = 0) (hE : -1000000000 ≤ (sErr w b).toInt) : m_Ctr M_X6_weighs [.ref 17] (hL v a x w b z lq t) (.inl (none, hL v a x (sWeighV w b) (sWeighA w b) z lq t)) := by
  refine m_intro (by decide +kernel) (Nat.le_of_ble_eq_true rfl) (fun {D cI cL sa A p l e s m args below meth c ad} X => ?_)
  have cont : ¬ ¬ w 19 = 0 → m_Go D cI cL ad ((hL v a x w b z lq t)).length (m_Ml M_X6_weighs) A p l e (m_rm M_X6_weighs) s m args below meth c (m_VQ D cI cL ad ((hL v a x w b z lq t)).length A (.inl (none, hL v a x (sWeighV w b) (sWeighA w b) z lq t)) below args s (m_Mc M_X6_weighs) (m_Ms M_X6_weighs)) 78 [(2, .int (sErr w b)), (1, .int (sbin w b)), (0, .ref 17)] [] (hL v a x (upd w 19 1) (sLearn b (sbin w b) (sErr w b)) z lq t) 0 0 := by
    intro b29
    have e1 : sW1 w = (upd w 19 1) := if_neg b29
    have e2 : sW2 w b = (sLearn b (sbin w b) (sErr w b)) := if_neg b29
    refine m_iload_n X dX6_weighs_78 rfl rfl ?_
    refine m_aload_n X dX6_weighs_79 rfl rfl ?_
    refine m_getf X dX6_weighs_80 fl_X6_50 rfl rfl rfl ?_
    refine m_aload_n X dX6_weighs_83 rfl rfl ?_
    refine m_getf (v := .int ((upd w 19 1) 15)) X dX6_weighs_84 fl_X6_99 rfl rfl rfl ?_
    refine m_iald X dX6_weighs_87 rfl (h1) rfl ?_
    refine m_ineg X dX6_weighs_88 rfl ?_
    refine m_icmp_ge (tgt := 126) X dX6_weighs_89 (by decide) rfl (fun b89 => ?_) (fun b89 => ?_)
    · replace b89 : -(stol w b) ≤ sErr w b := b89
      refine m_iload_n X dX6_weighs_126 rfl rfl ?_
      refine m_aload_n X dX6_weighs_127 rfl rfl ?_
      refine m_getf X dX6_weighs_128 fl_X6_50 rfl rfl rfl ?_
      refine m_aload_n X dX6_weighs_131 rfl rfl ?_
      refine m_getf (v := .int ((upd w 19 1) 15)) X dX6_weighs_132 fl_X6_99 rfl rfl rfl ?_
      refine m_iald X dX6_weighs_135 rfl (h1) rfl ?_
      refine m_icmp_le (tgt := 147) X dX6_weighs_136 (by decide) rfl (fun b136 => ?_) (fun b136 => ?_)
      · replace b136 : sErr w b ≤ stol w b := b136
        refine m_aload_n X dX6_weighs_147 rfl rfl ?_
        refine m_cV0 X dX6_weighs_148 lk_X6_119 mk_X6_finishes in_X6_finishes se_X6_finishes rfl rfl (c_X6_finishes h1 h2 hLo hB) rfl (Nat.le_of_ble_eq_true rfl) (Nat.le_of_ble_eq_true rfl) (Nat.le_of_ble_eq_true rfl) (Nat.le_of_ble_eq_true rfl) (Nat.le_of_ble_eq_true rfl) rfl ?_
        exact m_vret X dX6_weighs_151 rfl (by unfold sWeighV sWeighA; rw [e1, e2, if_pos b89, if_pos b89, if_pos b136, if_pos b136]; try rfl) (Nat.le_of_ble_eq_true rfl) (Nat.le_of_ble_eq_true rfl) rfl
      · replace b136 : ¬ sErr w b ≤ stol w b := b136
        refine m_aload_n X dX6_weighs_139 rfl rfl ?_
        refine m_iconst (v := 2) X dX6_weighs_140 (by decide) rfl ?_
        refine m_cV1 X dX6_weighs_141 lk_X6_116 mk_X6_holds in_X6_holds se_X6_holds rfl rfl (c_X6_holds) rfl (Nat.le_of_ble_eq_true rfl) (Nat.le_of_ble_eq_true rfl) (Nat.le_of_ble_eq_true rfl) (Nat.le_of_ble_eq_true rfl) (Nat.le_of_ble_eq_true rfl) rfl ?_
        refine m_goto (tgt := 151) X dX6_weighs_144 (by decide) rfl ?_
        exact m_vret X dX6_weighs_151 rfl (by unfold sWeighV sWeighA; rw [e1, e2, if_pos b89, if_pos b89, if_neg b136, if_neg b136]; try rfl) (Nat.le_of_ble_eq_true rfl) (Nat.le_of_ble_eq_true rfl) rfl
    · replace b89 : ¬ -(stol w b) ≤ sErr w b := b89
      refine m_aload_n X dX6_weighs_92 rfl rfl ?_
      refine m_getf (v := .int ((upd w 19 1) 16)) X dX6_weighs_93 fl_X6_113 rfl rfl rfl ?_
      refine m_iconst (v := 5) X dX6_weighs_96 (by decide) rfl ?_
      refine m_icmp_ge (tgt := 118) X dX6_weighs_97 (by decide) rfl (fun b97 => ?_) (fun b97 => ?_)
      · replace b97 : 5 ≤ w 16 := b97
        refine m_aload_n X dX6_weighs_118 rfl rfl ?_
        refine m_iconst (v := 1) X dX6_weighs_119 (by decide) rfl ?_
        refine m_cV1 X dX6_weighs_120 lk_X6_116 mk_X6_holds in_X6_holds se_X6_holds rfl rfl (c_X6_holds) rfl (Nat.le_of_ble_eq_true rfl) (Nat.le_of_ble_eq_true rfl) (Nat.le_of_ble_eq_true rfl) (Nat.le_of_ble_eq_true rfl) (Nat.le_of_ble_eq_true rfl) rfl ?_
        refine m_goto (tgt := 151) X dX6_weighs_123 (by decide) rfl ?_
        exact m_vret X dX6_weighs_151 rfl (by unfold sWeighV sWeighA; rw [e1, e2, if_neg b89, if_neg b89]; unfold sJog; rw [if_pos (show 5 ≤ (upd w 19 1) 16 from b97)]; try rfl) (Nat.le_of_ble_eq_true rfl) (Nat.le_of_ble_eq_true rfl) rfl
      · replace b97 : ¬ 5 ≤ w 16 := b97
        refine m_aload_n X dX6_weighs_100 rfl rfl ?_
        refine m_dup X dX6_weighs_101 rfl rfl ?_
        refine m_getf (v := .int ((upd w 19 1) 16)) X dX6_weighs_102 fl_X6_113 rfl rfl rfl ?_
        refine m_iconst (v := 1) X dX6_weighs_105 (by decide) rfl ?_
        refine m_iadd X dX6_weighs_106 rfl ?_
        refine m_piM 16 X dX6_weighs_107 fl_X6_113 fp_X6_26 rfl rfl rfl rfl ?_
        refine m_aload_n X dX6_weighs_110 rfl rfl ?_
        refine m_iconst (v := 5) X dX6_weighs_111 (by decide) rfl ?_
        refine m_cV1 X dX6_weighs_112 lk_X6_91 mk_X6_becomes in_X6_becomes se_X6_becomes rfl rfl (c_X6_becomesE h11) rfl (Nat.le_of_ble_eq_true rfl) (Nat.le_of_ble_eq_true rfl) (Nat.le_of_ble_eq_true rfl) (Nat.le_of_ble_eq_true rfl) (Nat.le_of_ble_eq_true rfl) rfl ?_
        refine m_goto (tgt := 151) X dX6_weighs_115 (by decide) rfl ?_
        exact m_vret X dX6_weighs_151 rfl (by unfold sWeighV sWeighA; rw [e1, e2, if_neg b89, if_neg b89]; unfold sJog; rw [if_neg (show ¬ 5 ≤ (upd w 19 1) 16 from b97)]; try rfl) (Nat.le_of_ble_eq_true rfl) (Nat.le_of_ble_eq_true rfl) rfl
  refine m_aload_n X dX6_weighs_0 rfl rfl ?_
  refine m_getf X dX6_weighs_1 fl_X6_44 rfl rfl rfl ?_
  refine m_aload_n X dX6_weighs_4 rfl rfl ?_
  refine m_getf (v := .int (w 15)) X dX6_weighs_5 fl_X6_99 rfl rfl rfl ?_
  refine m_iald X dX6_weighs_8 rfl (h1) rfl ?_
  refine m_sp (st1 := [.int (sbin w b)]) rfl ?_
  refine m_istore_n X dX6_weighs_9 (Nat.le_of_ble_eq_true rfl) rfl ?_
  refine m_aload_n X dX6_weighs_10 rfl rfl ?_
  refine m_cV0 X dX6_weighs_11 lk_X6_102 mk_X6_netNow in_X6_netNow se_X6_netNow rfl rfl (c_X6_netNow) rfl (Nat.le_of_ble_eq_true rfl) (Nat.le_of_ble_eq_true rfl) (Nat.le_of_ble_eq_true rfl) (Nat.le_of_ble_eq_true rfl) (Nat.le_of_ble_eq_true rfl) rfl ?_
  refine m_aload_n X dX6_weighs_14 rfl rfl ?_
  refine m_getf X dX6_weighs_15 fl_X6_47 rfl rfl rfl ?_
  refine m_aload_n X dX6_weighs_18 rfl rfl ?_
  refine m_getf (v := .int (w 15)) X dX6_weighs_19 fl_X6_99 rfl rfl rfl ?_
  refine m_iald X dX6_weighs_22 rfl (h1) rfl ?_
  refine m_isub X dX6_weighs_23 rfl ?_
  refine m_sp (st1 := [.int (sErr w b)]) rfl ?_
  refine m_istore_n X dX6_weighs_24 (Nat.le_of_ble_eq_true rfl) rfl ?_
  refine m_aload_n X dX6_weighs_25 rfl rfl ?_
  refine m_getf (v := .int (w 19)) X dX6_weighs_26 fl_X6_105 rfl rfl rfl ?_
  refine m_if_ne (tgt := 78) X dX6_weighs_29 (by decide) rfl (fun b29 => ?_) (fun b29 => ?_)
  · have e1 : sW1 w = w := if_pos b29
    have e2 : sW2 w b = b := if_pos b29
    refine m_lp (l1 := [(2, .int (sErr w b)), (1, .int (sbin w b)), (0, .ref 17)]) [0, 1, 2] rfl ?_
    refine m_iload_n X dX6_weighs_78 rfl rfl ?_
    refine m_aload_n X dX6_weighs_79 rfl rfl ?_
    refine m_getf X dX6_weighs_80 fl_X6_50 rfl rfl rfl ?_
    refine m_aload_n X dX6_weighs_83 rfl rfl ?_
    refine m_getf (v := .int (w 15)) X dX6_weighs_84 fl_X6_99 rfl rfl rfl ?_
    refine m_iald X dX6_weighs_87 rfl (h1) rfl ?_
    refine m_ineg X dX6_weighs_88 rfl ?_
    refine m_icmp_ge (tgt := 126) X dX6_weighs_89 (by decide) rfl (fun b89 => ?_) (fun b89 => ?_)
    · replace b89 : -(stol w b) ≤ sErr w b := b89
      refine m_iload_n X dX6_weighs_126 rfl rfl ?_
      refine m_aload_n X dX6_weighs_127 rfl rfl ?_
      refine m_getf X dX6_weighs_128 fl_X6_50 rfl rfl rfl ?_
      refine m_aload_n X dX6_weighs_131 rfl rfl ?_
      refine m_getf (v := .int (w 15)) X dX6_weighs_132 fl_X6_99 rfl rfl rfl ?_
      refine m_iald X dX6_weighs_135 rfl (h1) rfl ?_
      refine m_icmp_le (tgt := 147) X dX6_weighs_136 (by decide) rfl (fun b136 => ?_) (fun b136 => ?_)
      · replace b136 : sErr w b ≤ stol w b := b136
        refine m_aload_n X dX6_weighs_147 rfl rfl ?_
        refine m_cV0 X dX6_weighs_148 lk_X6_119 mk_X6_finishes in_X6_finishes se_X6_finishes rfl rfl (c_X6_finishes h1 h2 hLo hB) rfl (Nat.le_of_ble_eq_true rfl) (Nat.le_of_ble_eq_true rfl) (Nat.le_of_ble_eq_true rfl) (Nat.le_of_ble_eq_true rfl) (Nat.le_of_ble_eq_true rfl) rfl ?_
        exact m_vret X dX6_weighs_151 rfl (by unfold sWeighV sWeighA; rw [e1, e2, if_pos b89, if_pos b89, if_pos b136, if_pos b136]; try rfl) (Nat.le_of_ble_eq_true rfl) (Nat.le_of_ble_eq_true rfl) rfl
      · replace b136 : ¬ sErr w b ≤ stol w b := b136
        refine m_aload_n X dX6_weighs_139 rfl rfl ?_
        refine m_iconst (v := 2) X dX6_weighs_140 (by decide) rfl ?_
        refine m_cV1 X dX6_weighs_141 lk_X6_116 mk_X6_holds in_X6_holds se_X6_holds rfl rfl (c_X6_holds) rfl (Nat.le_of_ble_eq_true rfl) (Nat.le_of_ble_eq_true rfl) (Nat.le_of_ble_eq_true rfl) (Nat.le_of_ble_eq_true rfl) (Nat.le_of_ble_eq_true rfl) rfl ?_
        refine m_goto (tgt := 151) X dX6_weighs_144 (by decide) rfl ?_
        exact m_vret X dX6_weighs_151 rfl (by unfold sWeighV sWeighA; rw [e1, e2, if_pos b89, if_pos b89, if_neg b136, if_neg b136]; try rfl) (Nat.le_of_ble_eq_true rfl) (Nat.le_of_ble_eq_true rfl) rfl
    · replace b89 : ¬ -(stol w b) ≤ sErr w b := b89
      refine m_aload_n X dX6_weighs_92 rfl rfl ?_
      refine m_getf (v := .int (w 16)) X dX6_weighs_93 fl_X6_113 rfl rfl rfl ?_
      refine m_iconst (v := 5) X dX6_weighs_96 (by decide) rfl ?_
      refine m_icmp_ge (tgt := 118) X dX6_weighs_97 (by decide) rfl (fun b97 => ?_) (fun b97 => ?_)
      · replace b97 : 5 ≤ w 16 := b97
        refine m_aload_n X dX6_weighs_118 rfl rfl ?_
        refine m_iconst (v := 1) X dX6_weighs_119 (by decide) rfl ?_
        refine m_cV1 X dX6_weighs_120 lk_X6_116 mk_X6_holds in_X6_holds se_X6_holds rfl rfl (c_X6_holds) rfl (Nat.le_of_ble_eq_true rfl) (Nat.le_of_ble_eq_true rfl) (Nat.le_of_ble_eq_true rfl) (Nat.le_of_ble_eq_true rfl) (Nat.le_of_ble_eq_true rfl) rfl ?_
        refine m_goto (tgt := 151) X dX6_weighs_123 (by decide) rfl ?_
        exact m_vret X dX6_weighs_151 rfl (by unfold sWeighV sWeighA; rw [e1, e2, if_neg b89, if_neg b89]; unfold sJog; rw [if_pos (show 5 ≤ w 16 from b97)]; try rfl) (Nat.le_of_ble_eq_true rfl) (Nat.le_of_ble_eq_true rfl) rfl
      · replace b97 : ¬ 5 ≤ w 16 := b97
        refine m_aload_n X dX6_weighs_100 rfl rfl ?_
        refine m_dup X dX6_weighs_101 rfl rfl ?_
        refine m_getf (v := .int (w 16)) X dX6_weighs_102 fl_X6_113 rfl rfl rfl ?_
        refine m_iconst (v := 1) X dX6_weighs_105 (by decide) rfl ?_
        refine m_iadd X dX6_weighs_106 rfl ?_
        refine m_piM 16 X dX6_weighs_107 fl_X6_113 fp_X6_26 rfl rfl rfl rfl ?_
        refine m_aload_n X dX6_weighs_110 rfl rfl ?_
        refine m_iconst (v := 5) X dX6_weighs_111 (by decide) rfl ?_
        refine m_cV1 X dX6_weighs_112 lk_X6_91 mk_X6_becomes in_X6_becomes se_X6_becomes rfl rfl (c_X6_becomesE h11) rfl (Nat.le_of_ble_eq_true rfl) (Nat.le_of_ble_eq_true rfl) (Nat.le_of_ble_eq_true rfl) (Nat.le_of_ble_eq_true rfl) (Nat.le_of_ble_eq_true rfl) rfl ?_
        refine m_goto (tgt := 151) X dX6_weighs_115 (by decide) rfl ?_
        exact m_vret X dX6_weighs_151 rfl (by unfold sWeighV sWeighA; rw [e1, e2, if_neg b89, if_neg b89]; unfold sJog; rw [if_neg (show ¬ 5 ≤ w 16 from b97)]; try rfl) (Nat.le_of_ble_eq_true rfl) (Nat.le_of_ble_eq_true rfl) rfl
  · replace cont := cont (not_not_intro b29)
    refine m_aload_n X dX6_weighs_32 rfl rfl ?_
    refine m_getf X dX6_weighs_33 fl_X6_20 rfl rfl rfl ?_
    refine m_iload_n X dX6_weighs_36 rfl rfl ?_
    refine m_iald X dX6_weighs_37 rfl (h2) rfl ?_
    refine m_iload_n X dX6_weighs_38 rfl rfl ?_
    refine m_iconst (v := 4) X dX6_weighs_39 (by decide) rfl ?_
    refine m_cS2 X dX6_weighs_40 lk_X6_109 mk_X6_down st_X6_down (c_X6_down) rfl (Nat.le_of_ble_eq_true rfl) (Nat.le_of_ble_eq_true rfl) (Nat.le_of_ble_eq_true rfl) (Nat.le_of_ble_eq_true rfl) (Nat.le_of_ble_eq_true rfl) rfl ?_
    refine m_iadd X dX6_weighs_43 rfl ?_
    refine m_sp (st1 := [.int (b 1 (sbin w b).toNatClampNeg + fl4 (sErr w b))]) (by rw [← dn4_fl4 hE]; try rfl) ?_
    refine m_istore_n X dX6_weighs_44 (Nat.le_of_ble_eq_true rfl) rfl ?_
    refine m_aload_n X dX6_weighs_45 rfl rfl ?_
    refine m_getf X dX6_weighs_46 fl_X6_20 rfl rfl rfl ?_
    refine m_iload_n X dX6_weighs_49 rfl rfl ?_
    refine m_iload_n X dX6_weighs_50 rfl rfl ?_
    refine m_if_ge (tgt := 58) X dX6_weighs_51 (by decide) rfl (fun b51 => ?_) (fun b51 => ?_)
    · refine m_iload_n X dX6_weighs_58 rfl rfl ?_
      refine m_sipush (v := (500)) X dX6_weighs_59 (by decide) rfl ?_
      refine m_icmp_le (tgt := 71) X dX6_weighs_62 (by decide) rfl (fun b62 => ?_) (fun b62 => ?_)
      · refine m_iload_n X dX6_weighs_71 rfl rfl ?_
        refine m_sp (st1 := [.int (clampF (b 1 (sbin w b).toNatClampNeg + fl4 (sErr w b))), .int (sbin w b), .ref 20]) (by rw [clampF_eq, if_pos b51, if_pos b62]; try rfl) ?_
        refine m_iast X dX6_weighs_72 rfl (h2) rfl ?_
        refine m_hp hM_a1 ?_
        refine m_aload_n X dX6_weighs_73 rfl rfl ?_
        refine m_iconst (v := 1) X dX6_weighs_74 (by decide) rfl ?_
        refine m_pzM 19 X dX6_weighs_75 fl_X6_105 fp_X6_28 (by decide) rfl rfl rfl rfl ?_
        refine m_hp (h1 := hL v a x (upd w 19 1) (sLearn b (sbin w b) (sErr w b)) z lq t) rfl ?_
        refine m_lp (l1 := [(2, .int (sErr w b)), (1, .int (sbin w b)), (0, .ref 17)]) [1, 2, 3] rfl ?_
        exact cont
      · refine m_sipush (v := (500)) X dX6_weighs_65 (by decide) rfl ?_
        refine m_goto (tgt := 72) X dX6_weighs_68 (by decide) rfl ?_
        refine m_sp (st1 := [.int (clampF (b 1 (sbin w b).toNatClampNeg + fl4 (sErr w b))), .int (sbin w b), .ref 20]) (by rw [clampF_eq, if_pos b51, if_neg b62]; try rfl) ?_
        refine m_iast X dX6_weighs_72 rfl (h2) rfl ?_
        refine m_hp hM_a1 ?_
        refine m_aload_n X dX6_weighs_73 rfl rfl ?_
        refine m_iconst (v := 1) X dX6_weighs_74 (by decide) rfl ?_
        refine m_pzM 19 X dX6_weighs_75 fl_X6_105 fp_X6_28 (by decide) rfl rfl rfl rfl ?_
        refine m_hp (h1 := hL v a x (upd w 19 1) (sLearn b (sbin w b) (sErr w b)) z lq t) rfl ?_
        refine m_lp (l1 := [(2, .int (sErr w b)), (1, .int (sbin w b)), (0, .ref 17)]) [1, 2, 3] rfl ?_
        exact cont
    · refine m_iconst (v := 0) X dX6_weighs_54 (by decide) rfl ?_
      refine m_goto (tgt := 72) X dX6_weighs_55 (by decide) rfl ?_
      refine m_sp (st1 := [.int (clampF (b 1 (sbin w b).toNatClampNeg + fl4 (sErr w b))), .int (sbin w b), .ref 20]) (by rw [clampF_eq, if_neg b51]; try rfl) ?_
      refine m_iast X dX6_weighs_72 rfl (h2) rfl ?_
      refine m_hp hM_a1 ?_
      refine m_aload_n X dX6_weighs_73 rfl rfl ?_
      refine m_iconst (v := 1) X dX6_weighs_74 (by decide) rfl ?_
      refine m_pzM 19 X dX6_weighs_75 fl_X6_105 fp_X6_28 (by decide) rfl rfl rfl rfl ?_
      refine m_hp (h1 := hL v a x (upd w 19 1) (sLearn b (sbin w b) (sErr w b)) z lq t) rfl ?_
      refine m_lp (l1 := [(2, .int (sErr w b)), (1, .int (sbin w b)), (0, .ref 17)]) [1, 2, 3] rfl ?_
      exact cont
/-- the model counts the tick in its state -/
def sCnt (w : m_V) : m_V := upd (upd w 13 (w 13 + 1)) 22 (w 22 + 1)
set_option maxHeartbeats 8000000 in
theorem c_X6_goesOn1 {v w : m_V} {a b : m_R} {x z : Int64} {lq : Int32} {t : m_H} (h1 : vp_in (w 15) 6) (h2 : vp_in (sbin w b) 4) (h11 : w 11 = 0) (hr : rS w b) (hs : w 10 = 1) : m_Ctr M_X6_goesOn [.ref 17] (hL v a x w b z lq t) (.inl (none, hL v a x (sGoV (sCnt w) b) (sGoA (sCnt w) b) z lq t)) := by
  refine m_intro (by decide +kernel) (Nat.le_of_ble_eq_true rfl) (fun X => ?_)
  refine m_aload_n X dX6_goesOn_0 rfl rfl ?_
  refine m_getf (v := .int (w 10)) X dX6_goesOn_1 fl_X6_79 rfl rfl rfl ?_
  refine m_sp (st1 := [.int 1]) (by rw [hs]) ?_
  refine m_istore_n X dX6_goesOn_4 (Nat.le_of_ble_eq_true rfl) rfl ?_
  refine m_aload_n X dX6_goesOn_5 rfl rfl ?_
  refine m_getf X dX6_goesOn_6 fl_X6_44 rfl rfl rfl ?_
  refine m_aload_n X dX6_goesOn_9 rfl rfl ?_
  refine m_getf (v := .int (w 15)) X dX6_goesOn_10 fl_X6_99 rfl rfl rfl ?_
  refine m_iald X dX6_goesOn_13 rfl (h1) rfl ?_
  refine m_sp (st1 := [.int (sbin (sCnt w) b)]) rfl ?_
  refine m_istore_n X dX6_goesOn_14 (Nat.le_of_ble_eq_true rfl) rfl ?_
  refine m_aload_n X dX6_goesOn_15 rfl rfl ?_
  refine m_cV0 X dX6_goesOn_16 lk_X6_102 mk_X6_netNow in_X6_netNow se_X6_netNow rfl rfl (c_X6_netNow) rfl (Nat.le_of_ble_eq_true rfl) (Nat.le_of_ble_eq_true rfl) (Nat.le_of_ble_eq_true rfl) (Nat.le_of_ble_eq_true rfl) (Nat.le_of_ble_eq_true rfl) rfl ?_
  refine m_sp (st1 := [.int (net (sCnt w))]) rfl ?_
  refine m_istore_n X dX6_goesOn_19 (Nat.le_of_ble_eq_true rfl) rfl ?_
  refine m_aload_n X dX6_goesOn_20 rfl rfl ?_
  refine m_dup X dX6_goesOn_21 rfl rfl ?_
  refine m_getf (v := .int (w 22)) X dX6_goesOn_22 fl_X6_82 rfl rfl rfl ?_
  refine m_iconst (v := 1) X dX6_goesOn_25 (by decide) rfl ?_
  refine m_iadd X dX6_goesOn_26 rfl ?_
  refine m_piM 22 X dX6_goesOn_27 fl_X6_82 fp_X6_24 rfl rfl rfl rfl ?_
  refine m_hp (h1 := hL v a x (sCnt w) b z lq t) rfl ?_
  have hu : sCnt w 10 = 1 := hs
  refine m_iload_n X dX6_goesOn_30 rfl rfl ?_
  refine m_iconst (v := 1) X dX6_goesOn_31 (by decide) rfl ?_
  refine m_icmp_ne (tgt := 85) X dX6_goesOn_32 (by decide) rfl (fun b32 => absurd b32 (not_not_intro rfl)) (fun b32 => ?_)
  refine m_aload_n X dX6_goesOn_35 rfl rfl ?_
  refine m_cV0 X dX6_goesOn_36 lk_X6_95 mk_X6_settles in_X6_settles se_X6_settles rfl rfl (c_X6_settles hr) rfl (Nat.le_of_ble_eq_true rfl) (Nat.le_of_ble_eq_true rfl) (Nat.le_of_ble_eq_true rfl) (Nat.le_of_ble_eq_true rfl) (Nat.le_of_ble_eq_true rfl) rfl ?_
  refine m_if_eq (tgt := 85) X dX6_goesOn_39 (by decide) rfl (fun b39 => ?_) (fun b39 => ?_)
  · refine m_iload_n X dX6_goesOn_85 rfl rfl ?_
    refine m_iconst (v := 2) X dX6_goesOn_86 (by decide) rfl ?_
    refine m_icmp_ne (tgt := 118) X dX6_goesOn_87 (by decide) rfl (fun b87 => ?_) (fun b87 => absurd b87 (by decide))
    refine m_iload_n X dX6_goesOn_118 rfl rfl ?_
    refine m_iconst (v := 3) X dX6_goesOn_119 (by decide) rfl ?_
    refine m_icmp_ne (tgt := 151) X dX6_goesOn_120 (by decide) rfl (fun b120 => ?_) (fun b120 => absurd b120 (by decide))
    refine m_iload_n X dX6_goesOn_151 rfl rfl ?_
    refine m_iconst (v := 4) X dX6_goesOn_152 (by decide) rfl ?_
    refine m_icmp_ne (tgt := 178) X dX6_goesOn_153 (by decide) rfl (fun b153 => ?_) (fun b153 => absurd b153 (by decide))
    refine m_iload_n X dX6_goesOn_178 rfl rfl ?_
    refine m_iconst (v := 5) X dX6_goesOn_179 (by decide) rfl ?_
    refine m_icmp_ne (tgt := 196) X dX6_goesOn_180 (by decide) rfl (fun b180 => ?_) (fun b180 => absurd b180 (by decide))
    refine m_iload_n X dX6_goesOn_196 rfl rfl ?_
    refine m_iconst (v := 2) X dX6_goesOn_197 (by decide) rfl ?_
    refine m_icmp_eq (tgt := 206) X dX6_goesOn_198 (by decide) rfl (fun b198 => absurd b198 (by decide)) (fun b198 => ?_)
    refine m_iload_n X dX6_goesOn_201 rfl rfl ?_
    refine m_iconst (v := 3) X dX6_goesOn_202 (by decide) rfl ?_
    refine m_icmp_ne (tgt := 270) X dX6_goesOn_203 (by decide) rfl (fun b203 => ?_) (fun b203 => absurd b203 (by decide))
    exact m_vret X dX6_goesOn_270 rfl (by unfold sGoV sGoA; rw [if_neg (show ¬ sCnt w 10 = 0 by rw [hu]; decide), if_pos hu, if_neg (show ¬ sCnt w 10 = 4 by rw [hu]; decide)]; unfold sTare; rw [if_pos b39]; try rfl) (Nat.le_of_ble_eq_true rfl) (Nat.le_of_ble_eq_true rfl) rfl
  · refine m_aload_n X dX6_goesOn_42 rfl rfl ?_
    refine m_aload_n X dX6_goesOn_43 rfl rfl ?_
    refine m_cV0 X dX6_goesOn_44 lk_X6_72 mk_X6_grossNow in_X6_grossNow se_X6_grossNow rfl rfl (c_X6_grossNow) rfl (Nat.le_of_ble_eq_true rfl) (Nat.le_of_ble_eq_true rfl) (Nat.le_of_ble_eq_true rfl) (Nat.le_of_ble_eq_true rfl) (Nat.le_of_ble_eq_true rfl) rfl ?_
    refine m_piM 1 X dX6_goesOn_47 fl_X6_76 fp_X6_4 rfl rfl rfl rfl ?_
    refine m_aload_n X dX6_goesOn_50 rfl rfl ?_
    refine m_iconst (v := 1) X dX6_goesOn_51 (by decide) rfl ?_
    refine m_pzM 18 X dX6_goesOn_52 fl_X6_122 fp_X6_29 (by decide) rfl rfl rfl rfl ?_
    refine m_aload_n X dX6_goesOn_55 rfl rfl ?_
    refine m_aload_n X dX6_goesOn_56 rfl rfl ?_
    refine m_getf X dX6_goesOn_57 fl_X6_47 rfl rfl rfl ?_
    refine m_aload_n X dX6_goesOn_60 rfl rfl ?_
    refine m_getf (v := .int ((sCnt w) 15)) X dX6_goesOn_61 fl_X6_99 rfl rfl rfl ?_
    refine m_iald X dX6_goesOn_64 rfl (h1) rfl ?_
    refine m_aload_n X dX6_goesOn_65 rfl rfl ?_
    refine m_getf X dX6_goesOn_66 fl_X6_17 rfl rfl rfl ?_
    refine m_iload_n X dX6_goesOn_69 rfl rfl ?_
    refine m_iald X dX6_goesOn_70 rfl (h2) rfl ?_
    refine m_icmp_le (tgt := 78) X dX6_goesOn_71 (by decide) rfl (fun b71 => ?_) (fun b71 => ?_)
    · replace b71 : stgt (sCnt w) b ≤ b 0 (sbin (sCnt w) b).toNatClampNeg := b71
      refine m_iconst (v := 3) X dX6_goesOn_78 (by decide) rfl ?_
      refine m_cV1 X dX6_goesOn_79 lk_X6_91 mk_X6_becomes in_X6_becomes se_X6_becomes rfl rfl (c_X6_becomesE h11) rfl (Nat.le_of_ble_eq_true rfl) (Nat.le_of_ble_eq_true rfl) (Nat.le_of_ble_eq_true rfl) (Nat.le_of_ble_eq_true rfl) (Nat.le_of_ble_eq_true rfl) rfl ?_
      refine m_goto (tgt := 196) X dX6_goesOn_82 (by decide) rfl ?_
      refine m_iload_n X dX6_goesOn_196 rfl rfl ?_
      refine m_iconst (v := 2) X dX6_goesOn_197 (by decide) rfl ?_
      refine m_icmp_eq (tgt := 206) X dX6_goesOn_198 (by decide) rfl (fun b198 => absurd b198 (by decide)) (fun b198 => ?_)
      refine m_iload_n X dX6_goesOn_201 rfl rfl ?_
      refine m_iconst (v := 3) X dX6_goesOn_202 (by decide) rfl ?_
      refine m_icmp_ne (tgt := 270) X dX6_goesOn_203 (by decide) rfl (fun b203 => ?_) (fun b203 => absurd b203 (by decide))
      exact m_vret X dX6_goesOn_270 rfl (by unfold sGoV sGoA; rw [if_neg (show ¬ sCnt w 10 = 0 by rw [hu]; decide), if_pos hu, if_neg (show ¬ sCnt w 10 = 4 by rw [hu]; decide)]; unfold sTare; rw [if_neg b39, if_pos b71]; try rfl) (Nat.le_of_ble_eq_true rfl) (Nat.le_of_ble_eq_true rfl) rfl
    · replace b71 : ¬(stgt (sCnt w) b ≤ b 0 (sbin (sCnt w) b).toNatClampNeg) := b71
      refine m_iconst (v := 2) X dX6_goesOn_74 (by decide) rfl ?_
      refine m_goto (tgt := 79) X dX6_goesOn_75 (by decide) rfl ?_
      refine m_cV1 X dX6_goesOn_79 lk_X6_91 mk_X6_becomes in_X6_becomes se_X6_becomes rfl rfl (c_X6_becomesE h11) rfl (Nat.le_of_ble_eq_true rfl) (Nat.le_of_ble_eq_true rfl) (Nat.le_of_ble_eq_true rfl) (Nat.le_of_ble_eq_true rfl) (Nat.le_of_ble_eq_true rfl) rfl ?_
      refine m_goto (tgt := 196) X dX6_goesOn_82 (by decide) rfl ?_
      refine m_iload_n X dX6_goesOn_196 rfl rfl ?_
      refine m_iconst (v := 2) X dX6_goesOn_197 (by decide) rfl ?_
      refine m_icmp_eq (tgt := 206) X dX6_goesOn_198 (by decide) rfl (fun b198 => absurd b198 (by decide)) (fun b198 => ?_)
      refine m_iload_n X dX6_goesOn_201 rfl rfl ?_
      refine m_iconst (v := 3) X dX6_goesOn_202 (by decide) rfl ?_
      refine m_icmp_ne (tgt := 270) X dX6_goesOn_203 (by decide) rfl (fun b203 => ?_) (fun b203 => absurd b203 (by decide))
      exact m_vret X dX6_goesOn_270 rfl (by unfold sGoV sGoA; rw [if_neg (show ¬ sCnt w 10 = 0 by rw [hu]; decide), if_pos hu, if_neg (show ¬ sCnt w 10 = 4 by rw [hu]; decide)]; unfold sTare; rw [if_neg b39, if_neg b71]; try rfl) (Nat.le_of_ble_eq_true rfl) (Nat.le_of_ble_eq_true rfl) rfl
set_option maxHeartbeats 8000000 in
theorem c_X6_goesOn2 {v w : m_V} {a b : m_R} {x z : Int64} {lq : Int32} {t : m_H} (h1 : vp_in (w 15) 6) (h2 : vp_in (sbin w b) 4) (h11 : w 11 = 0) (hr : rS w b) (hs : w 10 = 2) : m_Ctr M_X6_goesOn [.ref 17] (hL v a x w b z lq t) (.inl (none, hL v a x (sGoV (sCnt w) b) (sGoA (sCnt w) b) z lq t)) := by
  refine m_intro (by decide +kernel) (Nat.le_of_ble_eq_true rfl) (fun X => ?_)
  refine m_aload_n X dX6_goesOn_0 rfl rfl ?_
  refine m_getf (v := .int (w 10)) X dX6_goesOn_1 fl_X6_79 rfl rfl rfl ?_
  refine m_sp (st1 := [.int 2]) (by rw [hs]) ?_
  refine m_istore_n X dX6_goesOn_4 (Nat.le_of_ble_eq_true rfl) rfl ?_
  refine m_aload_n X dX6_goesOn_5 rfl rfl ?_
  refine m_getf X dX6_goesOn_6 fl_X6_44 rfl rfl rfl ?_
  refine m_aload_n X dX6_goesOn_9 rfl rfl ?_
  refine m_getf (v := .int (w 15)) X dX6_goesOn_10 fl_X6_99 rfl rfl rfl ?_
  refine m_iald X dX6_goesOn_13 rfl (h1) rfl ?_
  refine m_sp (st1 := [.int (sbin (sCnt w) b)]) rfl ?_
  refine m_istore_n X dX6_goesOn_14 (Nat.le_of_ble_eq_true rfl) rfl ?_
  refine m_aload_n X dX6_goesOn_15 rfl rfl ?_
  refine m_cV0 X dX6_goesOn_16 lk_X6_102 mk_X6_netNow in_X6_netNow se_X6_netNow rfl rfl (c_X6_netNow) rfl (Nat.le_of_ble_eq_true rfl) (Nat.le_of_ble_eq_true rfl) (Nat.le_of_ble_eq_true rfl) (Nat.le_of_ble_eq_true rfl) (Nat.le_of_ble_eq_true rfl) rfl ?_
  refine m_sp (st1 := [.int (net (sCnt w))]) rfl ?_
  refine m_istore_n X dX6_goesOn_19 (Nat.le_of_ble_eq_true rfl) rfl ?_
  refine m_aload_n X dX6_goesOn_20 rfl rfl ?_
  refine m_dup X dX6_goesOn_21 rfl rfl ?_
  refine m_getf (v := .int (w 22)) X dX6_goesOn_22 fl_X6_82 rfl rfl rfl ?_
  refine m_iconst (v := 1) X dX6_goesOn_25 (by decide) rfl ?_
  refine m_iadd X dX6_goesOn_26 rfl ?_
  refine m_piM 22 X dX6_goesOn_27 fl_X6_82 fp_X6_24 rfl rfl rfl rfl ?_
  refine m_hp (h1 := hL v a x (sCnt w) b z lq t) rfl ?_
  have hu : sCnt w 10 = 2 := hs
  have eA : sAhead (sCnt w) b = b 0 (sbin (sCnt w) b).toNatClampNeg := if_neg (not_not_intro hu)
  refine m_iload_n X dX6_goesOn_30 rfl rfl ?_
  refine m_iconst (v := 1) X dX6_goesOn_31 (by decide) rfl ?_
  refine m_icmp_ne (tgt := 85) X dX6_goesOn_32 (by decide) rfl (fun b32 => ?_) (fun b32 => absurd b32 (by decide))
  refine m_iload_n X dX6_goesOn_85 rfl rfl ?_
  refine m_iconst (v := 2) X dX6_goesOn_86 (by decide) rfl ?_
  refine m_icmp_ne (tgt := 118) X dX6_goesOn_87 (by decide) rfl (fun b87 => absurd b87 (not_not_intro rfl)) (fun b87 => ?_)
  refine m_iload_n X dX6_goesOn_90 rfl rfl ?_
  refine m_aload_n X dX6_goesOn_91 rfl rfl ?_
  refine m_getf X dX6_goesOn_92 fl_X6_47 rfl rfl rfl ?_
  refine m_aload_n X dX6_goesOn_95 rfl rfl ?_
  refine m_getf (v := .int ((sCnt w) 15)) X dX6_goesOn_96 fl_X6_99 rfl rfl rfl ?_
  refine m_iald X dX6_goesOn_99 rfl (h1) rfl ?_
  refine m_aload_n X dX6_goesOn_100 rfl rfl ?_
  refine m_getf X dX6_goesOn_101 fl_X6_17 rfl rfl rfl ?_
  refine m_iload_n X dX6_goesOn_104 rfl rfl ?_
  refine m_iald X dX6_goesOn_105 rfl (h2) rfl ?_
  refine m_isub X dX6_goesOn_106 rfl ?_
  refine m_icmp_lt (tgt := 118) X dX6_goesOn_107 (by decide) rfl (fun b107 => ?_) (fun b107 => ?_)
  · replace b107 : net (sCnt w) < stgt (sCnt w) b - sAhead (sCnt w) b := by rw [eA]; exact b107
    refine m_iload_n X dX6_goesOn_118 rfl rfl ?_
    refine m_iconst (v := 3) X dX6_goesOn_119 (by decide) rfl ?_
    refine m_icmp_ne (tgt := 151) X dX6_goesOn_120 (by decide) rfl (fun b120 => ?_) (fun b120 => absurd b120 (by decide))
    refine m_iload_n X dX6_goesOn_151 rfl rfl ?_
    refine m_iconst (v := 4) X dX6_goesOn_152 (by decide) rfl ?_
    refine m_icmp_ne (tgt := 178) X dX6_goesOn_153 (by decide) rfl (fun b153 => ?_) (fun b153 => absurd b153 (by decide))
    refine m_iload_n X dX6_goesOn_178 rfl rfl ?_
    refine m_iconst (v := 5) X dX6_goesOn_179 (by decide) rfl ?_
    refine m_icmp_ne (tgt := 196) X dX6_goesOn_180 (by decide) rfl (fun b180 => ?_) (fun b180 => absurd b180 (by decide))
    refine m_iload_n X dX6_goesOn_196 rfl rfl ?_
    refine m_iconst (v := 2) X dX6_goesOn_197 (by decide) rfl ?_
    refine m_icmp_eq (tgt := 206) X dX6_goesOn_198 (by decide) rfl (fun b198 => ?_) (fun b198 => absurd b198 (not_not_intro rfl))
    refine m_aload_n X dX6_goesOn_206 rfl rfl ?_
    refine m_iload_n X dX6_goesOn_207 rfl rfl ?_
    refine m_aload_n X dX6_goesOn_208 rfl rfl ?_
    refine m_getf (v := .int ((sCnt w) 17)) X dX6_goesOn_209 fl_X6_128 rfl rfl rfl ?_
    refine m_icmp_le (tgt := 219) X dX6_goesOn_212 (by decide) rfl (fun b212 => ?_) (fun b212 => ?_)
    · have eI : sIdle (sCnt w) = upd (sCnt w) 14 ((sCnt w) 14 + 1) := by unfold sIdle; rw [if_pos b212]
      refine m_aload_n X dX6_goesOn_219 rfl rfl ?_
      refine m_getf (v := .int ((sCnt w) 14)) X dX6_goesOn_220 fl_X6_131 rfl rfl rfl ?_
      refine m_iconst (v := 1) X dX6_goesOn_223 (by decide) rfl ?_
      refine m_iadd X dX6_goesOn_224 rfl ?_
      refine m_piM 14 X dX6_goesOn_225 fl_X6_131 fp_X6_25 rfl rfl rfl rfl ?_
      refine m_aload_n X dX6_goesOn_228 rfl rfl ?_
      refine m_iload_n X dX6_goesOn_229 rfl rfl ?_
      refine m_aload_n X dX6_goesOn_230 rfl rfl ?_
      refine m_getf (v := .int ((sCnt w) 17)) X dX6_goesOn_231 fl_X6_128 rfl rfl rfl ?_
      refine m_icmp_le (tgt := 241) X dX6_goesOn_234 (by decide) rfl (fun b234 => ?_) (fun b234 => absurd b234 (not_not_intro b212))
      refine m_aload_n X dX6_goesOn_241 rfl rfl ?_
      refine m_getf (v := .int ((sCnt w) 17)) X dX6_goesOn_242 fl_X6_128 rfl rfl rfl ?_
      refine m_piM 17 X dX6_goesOn_245 fl_X6_128 fp_X6_27 rfl rfl rfl rfl ?_
      refine m_aload_n X dX6_goesOn_248 rfl rfl ?_
      refine m_getf X dX6_goesOn_249 fl_X6_131 rfl rfl rfl ?_
      refine m_bipush (v := (20)) X dX6_goesOn_252 (by decide) rfl ?_
      refine m_icmp_lt (tgt := 270) X dX6_goesOn_254 (by decide) rfl (fun b254 => ?_) (fun b254 => ?_)
      · have c254 : sIdle (sCnt w) 14 < 20 := by rw [eI]; exact b254
        exact m_vret X dX6_goesOn_270 rfl (by unfold sGoV sGoA; rw [if_neg (show ¬ sCnt w 10 = 0 by rw [hu]; decide), if_neg (show ¬ sCnt w 10 = 1 by rw [hu]; decide), if_pos (Or.inl hu), if_neg (show ¬ sCnt w 10 = 4 by rw [hu]; decide)]; unfold sFeed; rw [if_pos b107, if_pos c254, eI]; try rfl) (Nat.le_of_ble_eq_true rfl) (Nat.le_of_ble_eq_true rfl) rfl
      · have c254 : ¬ sIdle (sCnt w) 14 < 20 := by rw [eI]; exact b254
        refine m_aload_n X dX6_goesOn_257 rfl rfl ?_
        refine m_getf (v := .int ((sCnt w) 10)) X dX6_goesOn_258 fl_X6_79 rfl rfl rfl ?_
        refine m_iload_n X dX6_goesOn_261 rfl rfl ?_
        refine m_icmp_ne (tgt := 270) X dX6_goesOn_262 (by decide) rfl (fun b262 => absurd b262 (not_not_intro hu)) (fun b262 => ?_)
        refine m_aload_n X dX6_goesOn_265 rfl rfl ?_
        refine m_iconst (v := 3) X dX6_goesOn_266 (by decide) rfl ?_
        refine m_cV1 X dX6_goesOn_267 lk_X6_116 mk_X6_holds in_X6_holds se_X6_holds rfl rfl (c_X6_holds) rfl (Nat.le_of_ble_eq_true rfl) (Nat.le_of_ble_eq_true rfl) (Nat.le_of_ble_eq_true rfl) (Nat.le_of_ble_eq_true rfl) (Nat.le_of_ble_eq_true rfl) rfl ?_
        exact m_vret X dX6_goesOn_270 rfl (by unfold sGoV sGoA; rw [if_neg (show ¬ sCnt w 10 = 0 by rw [hu]; decide), if_neg (show ¬ sCnt w 10 = 1 by rw [hu]; decide), if_pos (Or.inl hu), if_neg (show ¬ sCnt w 10 = 4 by rw [hu]; decide)]; unfold sFeed; rw [if_pos b107, if_neg c254, eI]; try rfl) (Nat.le_of_ble_eq_true rfl) (Nat.le_of_ble_eq_true rfl) rfl
    · have eI : sIdle (sCnt w) = upd (upd (sCnt w) 17 (net (sCnt w))) 14 0 := by unfold sIdle; rw [if_neg b212]
      refine m_iconst (v := 0) X dX6_goesOn_215 (by decide) rfl ?_
      refine m_goto (tgt := 225) X dX6_goesOn_216 (by decide) rfl ?_
      refine m_piM 14 X dX6_goesOn_225 fl_X6_131 fp_X6_25 rfl rfl rfl rfl ?_
      refine m_aload_n X dX6_goesOn_228 rfl rfl ?_
      refine m_iload_n X dX6_goesOn_229 rfl rfl ?_
      refine m_aload_n X dX6_goesOn_230 rfl rfl ?_
      refine m_getf (v := .int ((sCnt w) 17)) X dX6_goesOn_231 fl_X6_128 rfl rfl rfl ?_
      refine m_icmp_le (tgt := 241) X dX6_goesOn_234 (by decide) rfl (fun b234 => absurd b234 (b212)) (fun b234 => ?_)
      refine m_iload_n X dX6_goesOn_237 rfl rfl ?_
      refine m_goto (tgt := 245) X dX6_goesOn_238 (by decide) rfl ?_
      refine m_piM 17 X dX6_goesOn_245 fl_X6_128 fp_X6_27 rfl rfl rfl rfl ?_
      refine m_aload_n X dX6_goesOn_248 rfl rfl ?_
      refine m_getf X dX6_goesOn_249 fl_X6_131 rfl rfl rfl ?_
      refine m_bipush (v := (20)) X dX6_goesOn_252 (by decide) rfl ?_
      refine m_icmp_lt (tgt := 270) X dX6_goesOn_254 (by decide) rfl (fun b254 => ?_) (fun b254 => ?_)
      · have c254 : sIdle (sCnt w) 14 < 20 := by rw [eI]; exact b254
        exact m_vret X dX6_goesOn_270 rfl (by unfold sGoV sGoA; rw [if_neg (show ¬ sCnt w 10 = 0 by rw [hu]; decide), if_neg (show ¬ sCnt w 10 = 1 by rw [hu]; decide), if_pos (Or.inl hu), if_neg (show ¬ sCnt w 10 = 4 by rw [hu]; decide)]; unfold sFeed; rw [if_pos b107, if_pos c254, eI]; try rfl) (Nat.le_of_ble_eq_true rfl) (Nat.le_of_ble_eq_true rfl) rfl
      · have c254 : ¬ sIdle (sCnt w) 14 < 20 := by rw [eI]; exact b254
        refine m_aload_n X dX6_goesOn_257 rfl rfl ?_
        refine m_getf (v := .int ((sCnt w) 10)) X dX6_goesOn_258 fl_X6_79 rfl rfl rfl ?_
        refine m_iload_n X dX6_goesOn_261 rfl rfl ?_
        refine m_icmp_ne (tgt := 270) X dX6_goesOn_262 (by decide) rfl (fun b262 => absurd b262 (not_not_intro hu)) (fun b262 => ?_)
        refine m_aload_n X dX6_goesOn_265 rfl rfl ?_
        refine m_iconst (v := 3) X dX6_goesOn_266 (by decide) rfl ?_
        refine m_cV1 X dX6_goesOn_267 lk_X6_116 mk_X6_holds in_X6_holds se_X6_holds rfl rfl (c_X6_holds) rfl (Nat.le_of_ble_eq_true rfl) (Nat.le_of_ble_eq_true rfl) (Nat.le_of_ble_eq_true rfl) (Nat.le_of_ble_eq_true rfl) (Nat.le_of_ble_eq_true rfl) rfl ?_
        exact m_vret X dX6_goesOn_270 rfl (by unfold sGoV sGoA; rw [if_neg (show ¬ sCnt w 10 = 0 by rw [hu]; decide), if_neg (show ¬ sCnt w 10 = 1 by rw [hu]; decide), if_pos (Or.inl hu), if_neg (show ¬ sCnt w 10 = 4 by rw [hu]; decide)]; unfold sFeed; rw [if_pos b107, if_neg c254, eI]; try rfl) (Nat.le_of_ble_eq_true rfl) (Nat.le_of_ble_eq_true rfl) rfl
  · replace b107 : ¬ net (sCnt w) < stgt (sCnt w) b - sAhead (sCnt w) b := by rw [eA]; exact b107
    refine m_aload_n X dX6_goesOn_110 rfl rfl ?_
    refine m_iconst (v := 3) X dX6_goesOn_111 (by decide) rfl ?_
    refine m_cV1 X dX6_goesOn_112 lk_X6_91 mk_X6_becomes in_X6_becomes se_X6_becomes rfl rfl (c_X6_becomesE h11) rfl (Nat.le_of_ble_eq_true rfl) (Nat.le_of_ble_eq_true rfl) (Nat.le_of_ble_eq_true rfl) (Nat.le_of_ble_eq_true rfl) (Nat.le_of_ble_eq_true rfl) rfl ?_
    refine m_goto (tgt := 196) X dX6_goesOn_115 (by decide) rfl ?_
    refine m_iload_n X dX6_goesOn_196 rfl rfl ?_
    refine m_iconst (v := 2) X dX6_goesOn_197 (by decide) rfl ?_
    refine m_icmp_eq (tgt := 206) X dX6_goesOn_198 (by decide) rfl (fun b198 => ?_) (fun b198 => absurd b198 (not_not_intro rfl))
    refine m_aload_n X dX6_goesOn_206 rfl rfl ?_
    refine m_iload_n X dX6_goesOn_207 rfl rfl ?_
    refine m_aload_n X dX6_goesOn_208 rfl rfl ?_
    refine m_getf (v := .int ((sCnt w) 17)) X dX6_goesOn_209 fl_X6_128 rfl rfl rfl ?_
    refine m_icmp_le (tgt := 219) X dX6_goesOn_212 (by decide) rfl (fun b212 => ?_) (fun b212 => ?_)
    · have eI : sIdle (sCnt w) = upd (sCnt w) 14 ((sCnt w) 14 + 1) := by unfold sIdle; rw [if_pos b212]
      refine m_aload_n X dX6_goesOn_219 rfl rfl ?_
      refine m_getf (v := .int ((sCnt w) 14)) X dX6_goesOn_220 fl_X6_131 rfl rfl rfl ?_
      refine m_iconst (v := 1) X dX6_goesOn_223 (by decide) rfl ?_
      refine m_iadd X dX6_goesOn_224 rfl ?_
      refine m_piM 14 X dX6_goesOn_225 fl_X6_131 fp_X6_25 rfl rfl rfl rfl ?_
      refine m_aload_n X dX6_goesOn_228 rfl rfl ?_
      refine m_iload_n X dX6_goesOn_229 rfl rfl ?_
      refine m_aload_n X dX6_goesOn_230 rfl rfl ?_
      refine m_getf (v := .int ((sCnt w) 17)) X dX6_goesOn_231 fl_X6_128 rfl rfl rfl ?_
      refine m_icmp_le (tgt := 241) X dX6_goesOn_234 (by decide) rfl (fun b234 => ?_) (fun b234 => absurd b234 (not_not_intro b212))
      refine m_aload_n X dX6_goesOn_241 rfl rfl ?_
      refine m_getf (v := .int ((sCnt w) 17)) X dX6_goesOn_242 fl_X6_128 rfl rfl rfl ?_
      refine m_piM 17 X dX6_goesOn_245 fl_X6_128 fp_X6_27 rfl rfl rfl rfl ?_
      refine m_aload_n X dX6_goesOn_248 rfl rfl ?_
      refine m_getf X dX6_goesOn_249 fl_X6_131 rfl rfl rfl ?_
      refine m_bipush (v := (20)) X dX6_goesOn_252 (by decide) rfl ?_
      refine m_icmp_lt (tgt := 270) X dX6_goesOn_254 (by decide) rfl (fun b254 => ?_) (fun b254 => ?_)
      · have c254 : sIdle (sCnt w) 14 < 20 := by rw [eI]; exact b254
        exact m_vret X dX6_goesOn_270 rfl (by unfold sGoV sGoA; rw [if_neg (show ¬ sCnt w 10 = 0 by rw [hu]; decide), if_neg (show ¬ sCnt w 10 = 1 by rw [hu]; decide), if_pos (Or.inl hu), if_neg (show ¬ sCnt w 10 = 4 by rw [hu]; decide)]; unfold sFeed; rw [if_neg b107, eI, if_neg (not_not_intro hu)]; try rfl) (Nat.le_of_ble_eq_true rfl) (Nat.le_of_ble_eq_true rfl) rfl
      · have c254 : ¬ sIdle (sCnt w) 14 < 20 := by rw [eI]; exact b254
        refine m_aload_n X dX6_goesOn_257 rfl rfl ?_
        refine m_getf X dX6_goesOn_258 fl_X6_79 rfl rfl rfl ?_
        refine m_iload_n X dX6_goesOn_261 rfl rfl ?_
        refine m_icmp_ne (tgt := 270) X dX6_goesOn_262 (by decide) rfl (fun b262 => ?_) (fun b262 => absurd b262 (by show ¬ (3 : Int32) = 2; decide))
        exact m_vret X dX6_goesOn_270 rfl (by unfold sGoV sGoA; rw [if_neg (show ¬ sCnt w 10 = 0 by rw [hu]; decide), if_neg (show ¬ sCnt w 10 = 1 by rw [hu]; decide), if_pos (Or.inl hu), if_neg (show ¬ sCnt w 10 = 4 by rw [hu]; decide)]; unfold sFeed; rw [if_neg b107, eI, if_neg (not_not_intro hu)]; try rfl) (Nat.le_of_ble_eq_true rfl) (Nat.le_of_ble_eq_true rfl) rfl
    · have eI : sIdle (sCnt w) = upd (upd (sCnt w) 17 (net (sCnt w))) 14 0 := by unfold sIdle; rw [if_neg b212]
      refine m_iconst (v := 0) X dX6_goesOn_215 (by decide) rfl ?_
      refine m_goto (tgt := 225) X dX6_goesOn_216 (by decide) rfl ?_
      refine m_piM 14 X dX6_goesOn_225 fl_X6_131 fp_X6_25 rfl rfl rfl rfl ?_
      refine m_aload_n X dX6_goesOn_228 rfl rfl ?_
      refine m_iload_n X dX6_goesOn_229 rfl rfl ?_
      refine m_aload_n X dX6_goesOn_230 rfl rfl ?_
      refine m_getf (v := .int ((sCnt w) 17)) X dX6_goesOn_231 fl_X6_128 rfl rfl rfl ?_
      refine m_icmp_le (tgt := 241) X dX6_goesOn_234 (by decide) rfl (fun b234 => absurd b234 (b212)) (fun b234 => ?_)
      refine m_iload_n X dX6_goesOn_237 rfl rfl ?_
      refine m_goto (tgt := 245) X dX6_goesOn_238 (by decide) rfl ?_
      refine m_piM 17 X dX6_goesOn_245 fl_X6_128 fp_X6_27 rfl rfl rfl rfl ?_
      refine m_aload_n X dX6_goesOn_248 rfl rfl ?_
      refine m_getf X dX6_goesOn_249 fl_X6_131 rfl rfl rfl ?_
      refine m_bipush (v := (20)) X dX6_goesOn_252 (by decide) rfl ?_
      refine m_icmp_lt (tgt := 270) X dX6_goesOn_254 (by decide) rfl (fun b254 => ?_) (fun b254 => ?_)
      · have c254 : sIdle (sCnt w) 14 < 20 := by rw [eI]; exact b254
        exact m_vret X dX6_goesOn_270 rfl (by unfold sGoV sGoA; rw [if_neg (show ¬ sCnt w 10 = 0 by rw [hu]; decide), if_neg (show ¬ sCnt w 10 = 1 by rw [hu]; decide), if_pos (Or.inl hu), if_neg (show ¬ sCnt w 10 = 4 by rw [hu]; decide)]; unfold sFeed; rw [if_neg b107, eI, if_neg (not_not_intro hu)]; try rfl) (Nat.le_of_ble_eq_true rfl) (Nat.le_of_ble_eq_true rfl) rfl
      · have c254 : ¬ sIdle (sCnt w) 14 < 20 := by rw [eI]; exact b254
        refine m_aload_n X dX6_goesOn_257 rfl rfl ?_
        refine m_getf X dX6_goesOn_258 fl_X6_79 rfl rfl rfl ?_
        refine m_iload_n X dX6_goesOn_261 rfl rfl ?_
        refine m_icmp_ne (tgt := 270) X dX6_goesOn_262 (by decide) rfl (fun b262 => ?_) (fun b262 => absurd b262 (by show ¬ (3 : Int32) = 2; decide))
        exact m_vret X dX6_goesOn_270 rfl (by unfold sGoV sGoA; rw [if_neg (show ¬ sCnt w 10 = 0 by rw [hu]; decide), if_neg (show ¬ sCnt w 10 = 1 by rw [hu]; decide), if_pos (Or.inl hu), if_neg (show ¬ sCnt w 10 = 4 by rw [hu]; decide)]; unfold sFeed; rw [if_neg b107, eI, if_neg (not_not_intro hu)]; try rfl) (Nat.le_of_ble_eq_true rfl) (Nat.le_of_ble_eq_true rfl) rfl
set_option maxHeartbeats 8000000 in
theorem c_X6_goesOn3 {v w : m_V} {a b : m_R} {x z : Int64} {lq : Int32} {t : m_H} (h1 : vp_in (w 15) 6) (h2 : vp_in (sbin w b) 4) (h11 : w 11 = 0) (hr : rS w b) (hs : w 10 = 3) : m_Ctr M_X6_goesOn [.ref 17] (hL v a x w b z lq t) (.inl (none, hL v a x (sGoV (sCnt w) b) (sGoA (sCnt w) b) z lq t)) := by
  refine m_intro (by decide +kernel) (Nat.le_of_ble_eq_true rfl) (fun X => ?_)
  refine m_aload_n X dX6_goesOn_0 rfl rfl ?_
  refine m_getf (v := .int (w 10)) X dX6_goesOn_1 fl_X6_79 rfl rfl rfl ?_
  refine m_sp (st1 := [.int 3]) (by rw [hs]) ?_
  refine m_istore_n X dX6_goesOn_4 (Nat.le_of_ble_eq_true rfl) rfl ?_
  refine m_aload_n X dX6_goesOn_5 rfl rfl ?_
  refine m_getf X dX6_goesOn_6 fl_X6_44 rfl rfl rfl ?_
  refine m_aload_n X dX6_goesOn_9 rfl rfl ?_
  refine m_getf (v := .int (w 15)) X dX6_goesOn_10 fl_X6_99 rfl rfl rfl ?_
  refine m_iald X dX6_goesOn_13 rfl (h1) rfl ?_
  refine m_sp (st1 := [.int (sbin (sCnt w) b)]) rfl ?_
  refine m_istore_n X dX6_goesOn_14 (Nat.le_of_ble_eq_true rfl) rfl ?_
  refine m_aload_n X dX6_goesOn_15 rfl rfl ?_
  refine m_cV0 X dX6_goesOn_16 lk_X6_102 mk_X6_netNow in_X6_netNow se_X6_netNow rfl rfl (c_X6_netNow) rfl (Nat.le_of_ble_eq_true rfl) (Nat.le_of_ble_eq_true rfl) (Nat.le_of_ble_eq_true rfl) (Nat.le_of_ble_eq_true rfl) (Nat.le_of_ble_eq_true rfl) rfl ?_
  refine m_sp (st1 := [.int (net (sCnt w))]) rfl ?_
  refine m_istore_n X dX6_goesOn_19 (Nat.le_of_ble_eq_true rfl) rfl ?_
  refine m_aload_n X dX6_goesOn_20 rfl rfl ?_
  refine m_dup X dX6_goesOn_21 rfl rfl ?_
  refine m_getf (v := .int (w 22)) X dX6_goesOn_22 fl_X6_82 rfl rfl rfl ?_
  refine m_iconst (v := 1) X dX6_goesOn_25 (by decide) rfl ?_
  refine m_iadd X dX6_goesOn_26 rfl ?_
  refine m_piM 22 X dX6_goesOn_27 fl_X6_82 fp_X6_24 rfl rfl rfl rfl ?_
  refine m_hp (h1 := hL v a x (sCnt w) b z lq t) rfl ?_
  have hu : sCnt w 10 = 3 := hs
  have eA : sAhead (sCnt w) b = b 1 (sbin (sCnt w) b).toNatClampNeg := if_pos (by rw [hu]; decide)
  refine m_iload_n X dX6_goesOn_30 rfl rfl ?_
  refine m_iconst (v := 1) X dX6_goesOn_31 (by decide) rfl ?_
  refine m_icmp_ne (tgt := 85) X dX6_goesOn_32 (by decide) rfl (fun b32 => ?_) (fun b32 => absurd b32 (by decide))
  refine m_iload_n X dX6_goesOn_85 rfl rfl ?_
  refine m_iconst (v := 2) X dX6_goesOn_86 (by decide) rfl ?_
  refine m_icmp_ne (tgt := 118) X dX6_goesOn_87 (by decide) rfl (fun b87 => ?_) (fun b87 => absurd b87 (by decide))
  refine m_iload_n X dX6_goesOn_118 rfl rfl ?_
  refine m_iconst (v := 3) X dX6_goesOn_119 (by decide) rfl ?_
  refine m_icmp_ne (tgt := 151) X dX6_goesOn_120 (by decide) rfl (fun b120 => absurd b120 (not_not_intro rfl)) (fun b120 => ?_)
  refine m_iload_n X dX6_goesOn_123 rfl rfl ?_
  refine m_aload_n X dX6_goesOn_124 rfl rfl ?_
  refine m_getf X dX6_goesOn_125 fl_X6_47 rfl rfl rfl ?_
  refine m_aload_n X dX6_goesOn_128 rfl rfl ?_
  refine m_getf (v := .int ((sCnt w) 15)) X dX6_goesOn_129 fl_X6_99 rfl rfl rfl ?_
  refine m_iald X dX6_goesOn_132 rfl (h1) rfl ?_
  refine m_aload_n X dX6_goesOn_133 rfl rfl ?_
  refine m_getf X dX6_goesOn_134 fl_X6_20 rfl rfl rfl ?_
  refine m_iload_n X dX6_goesOn_137 rfl rfl ?_
  refine m_iald X dX6_goesOn_138 rfl (h2) rfl ?_
  refine m_isub X dX6_goesOn_139 rfl ?_
  refine m_icmp_lt (tgt := 151) X dX6_goesOn_140 (by decide) rfl (fun b140 => ?_) (fun b140 => ?_)
  · replace b140 : net (sCnt w) < stgt (sCnt w) b - sAhead (sCnt w) b := by rw [eA]; exact b140
    refine m_iload_n X dX6_goesOn_151 rfl rfl ?_
    refine m_iconst (v := 4) X dX6_goesOn_152 (by decide) rfl ?_
    refine m_icmp_ne (tgt := 178) X dX6_goesOn_153 (by decide) rfl (fun b153 => ?_) (fun b153 => absurd b153 (by decide))
    refine m_iload_n X dX6_goesOn_178 rfl rfl ?_
    refine m_iconst (v := 5) X dX6_goesOn_179 (by decide) rfl ?_
    refine m_icmp_ne (tgt := 196) X dX6_goesOn_180 (by decide) rfl (fun b180 => ?_) (fun b180 => absurd b180 (by decide))
    refine m_iload_n X dX6_goesOn_196 rfl rfl ?_
    refine m_iconst (v := 2) X dX6_goesOn_197 (by decide) rfl ?_
    refine m_icmp_eq (tgt := 206) X dX6_goesOn_198 (by decide) rfl (fun b198 => absurd b198 (by decide)) (fun b198 => ?_)
    refine m_iload_n X dX6_goesOn_201 rfl rfl ?_
    refine m_iconst (v := 3) X dX6_goesOn_202 (by decide) rfl ?_
    refine m_icmp_ne (tgt := 270) X dX6_goesOn_203 (by decide) rfl (fun b203 => absurd b203 (not_not_intro rfl)) (fun b203 => ?_)
    refine m_aload_n X dX6_goesOn_206 rfl rfl ?_
    refine m_iload_n X dX6_goesOn_207 rfl rfl ?_
    refine m_aload_n X dX6_goesOn_208 rfl rfl ?_
    refine m_getf (v := .int ((sCnt w) 17)) X dX6_goesOn_209 fl_X6_128 rfl rfl rfl ?_
    refine m_icmp_le (tgt := 219) X dX6_goesOn_212 (by decide) rfl (fun b212 => ?_) (fun b212 => ?_)
    · have eI : sIdle (sCnt w) = upd (sCnt w) 14 ((sCnt w) 14 + 1) := by unfold sIdle; rw [if_pos b212]
      refine m_aload_n X dX6_goesOn_219 rfl rfl ?_
      refine m_getf (v := .int ((sCnt w) 14)) X dX6_goesOn_220 fl_X6_131 rfl rfl rfl ?_
      refine m_iconst (v := 1) X dX6_goesOn_223 (by decide) rfl ?_
      refine m_iadd X dX6_goesOn_224 rfl ?_
      refine m_piM 14 X dX6_goesOn_225 fl_X6_131 fp_X6_25 rfl rfl rfl rfl ?_
      refine m_aload_n X dX6_goesOn_228 rfl rfl ?_
      refine m_iload_n X dX6_goesOn_229 rfl rfl ?_
      refine m_aload_n X dX6_goesOn_230 rfl rfl ?_
      refine m_getf (v := .int ((sCnt w) 17)) X dX6_goesOn_231 fl_X6_128 rfl rfl rfl ?_
      refine m_icmp_le (tgt := 241) X dX6_goesOn_234 (by decide) rfl (fun b234 => ?_) (fun b234 => absurd b234 (not_not_intro b212))
      refine m_aload_n X dX6_goesOn_241 rfl rfl ?_
      refine m_getf (v := .int ((sCnt w) 17)) X dX6_goesOn_242 fl_X6_128 rfl rfl rfl ?_
      refine m_piM 17 X dX6_goesOn_245 fl_X6_128 fp_X6_27 rfl rfl rfl rfl ?_
      refine m_aload_n X dX6_goesOn_248 rfl rfl ?_
      refine m_getf X dX6_goesOn_249 fl_X6_131 rfl rfl rfl ?_
      refine m_bipush (v := (20)) X dX6_goesOn_252 (by decide) rfl ?_
      refine m_icmp_lt (tgt := 270) X dX6_goesOn_254 (by decide) rfl (fun b254 => ?_) (fun b254 => ?_)
      · have c254 : sIdle (sCnt w) 14 < 20 := by rw [eI]; exact b254
        exact m_vret X dX6_goesOn_270 rfl (by unfold sGoV sGoA; rw [if_neg (show ¬ sCnt w 10 = 0 by rw [hu]; decide), if_neg (show ¬ sCnt w 10 = 1 by rw [hu]; decide), if_pos (Or.inr hu), if_neg (show ¬ sCnt w 10 = 4 by rw [hu]; decide)]; unfold sFeed; rw [if_pos b140, if_pos c254, eI]; try rfl) (Nat.le_of_ble_eq_true rfl) (Nat.le_of_ble_eq_true rfl) rfl
      · have c254 : ¬ sIdle (sCnt w) 14 < 20 := by rw [eI]; exact b254
        refine m_aload_n X dX6_goesOn_257 rfl rfl ?_
        refine m_getf (v := .int ((sCnt w) 10)) X dX6_goesOn_258 fl_X6_79 rfl rfl rfl ?_
        refine m_iload_n X dX6_goesOn_261 rfl rfl ?_
        refine m_icmp_ne (tgt := 270) X dX6_goesOn_262 (by decide) rfl (fun b262 => absurd b262 (not_not_intro hu)) (fun b262 => ?_)
        refine m_aload_n X dX6_goesOn_265 rfl rfl ?_
        refine m_iconst (v := 3) X dX6_goesOn_266 (by decide) rfl ?_
        refine m_cV1 X dX6_goesOn_267 lk_X6_116 mk_X6_holds in_X6_holds se_X6_holds rfl rfl (c_X6_holds) rfl (Nat.le_of_ble_eq_true rfl) (Nat.le_of_ble_eq_true rfl) (Nat.le_of_ble_eq_true rfl) (Nat.le_of_ble_eq_true rfl) (Nat.le_of_ble_eq_true rfl) rfl ?_
        exact m_vret X dX6_goesOn_270 rfl (by unfold sGoV sGoA; rw [if_neg (show ¬ sCnt w 10 = 0 by rw [hu]; decide), if_neg (show ¬ sCnt w 10 = 1 by rw [hu]; decide), if_pos (Or.inr hu), if_neg (show ¬ sCnt w 10 = 4 by rw [hu]; decide)]; unfold sFeed; rw [if_pos b140, if_neg c254, eI]; try rfl) (Nat.le_of_ble_eq_true rfl) (Nat.le_of_ble_eq_true rfl) rfl
    · have eI : sIdle (sCnt w) = upd (upd (sCnt w) 17 (net (sCnt w))) 14 0 := by unfold sIdle; rw [if_neg b212]
      refine m_iconst (v := 0) X dX6_goesOn_215 (by decide) rfl ?_
      refine m_goto (tgt := 225) X dX6_goesOn_216 (by decide) rfl ?_
      refine m_piM 14 X dX6_goesOn_225 fl_X6_131 fp_X6_25 rfl rfl rfl rfl ?_
      refine m_aload_n X dX6_goesOn_228 rfl rfl ?_
      refine m_iload_n X dX6_goesOn_229 rfl rfl ?_
      refine m_aload_n X dX6_goesOn_230 rfl rfl ?_
      refine m_getf (v := .int ((sCnt w) 17)) X dX6_goesOn_231 fl_X6_128 rfl rfl rfl ?_
      refine m_icmp_le (tgt := 241) X dX6_goesOn_234 (by decide) rfl (fun b234 => absurd b234 (b212)) (fun b234 => ?_)
      refine m_iload_n X dX6_goesOn_237 rfl rfl ?_
      refine m_goto (tgt := 245) X dX6_goesOn_238 (by decide) rfl ?_
      refine m_piM 17 X dX6_goesOn_245 fl_X6_128 fp_X6_27 rfl rfl rfl rfl ?_
      refine m_aload_n X dX6_goesOn_248 rfl rfl ?_
      refine m_getf X dX6_goesOn_249 fl_X6_131 rfl rfl rfl ?_
      refine m_bipush (v := (20)) X dX6_goesOn_252 (by decide) rfl ?_
      refine m_icmp_lt (tgt := 270) X dX6_goesOn_254 (by decide) rfl (fun b254 => ?_) (fun b254 => ?_)
      · have c254 : sIdle (sCnt w) 14 < 20 := by rw [eI]; exact b254
        exact m_vret X dX6_goesOn_270 rfl (by unfold sGoV sGoA; rw [if_neg (show ¬ sCnt w 10 = 0 by rw [hu]; decide), if_neg (show ¬ sCnt w 10 = 1 by rw [hu]; decide), if_pos (Or.inr hu), if_neg (show ¬ sCnt w 10 = 4 by rw [hu]; decide)]; unfold sFeed; rw [if_pos b140, if_pos c254, eI]; try rfl) (Nat.le_of_ble_eq_true rfl) (Nat.le_of_ble_eq_true rfl) rfl
      · have c254 : ¬ sIdle (sCnt w) 14 < 20 := by rw [eI]; exact b254
        refine m_aload_n X dX6_goesOn_257 rfl rfl ?_
        refine m_getf (v := .int ((sCnt w) 10)) X dX6_goesOn_258 fl_X6_79 rfl rfl rfl ?_
        refine m_iload_n X dX6_goesOn_261 rfl rfl ?_
        refine m_icmp_ne (tgt := 270) X dX6_goesOn_262 (by decide) rfl (fun b262 => absurd b262 (not_not_intro hu)) (fun b262 => ?_)
        refine m_aload_n X dX6_goesOn_265 rfl rfl ?_
        refine m_iconst (v := 3) X dX6_goesOn_266 (by decide) rfl ?_
        refine m_cV1 X dX6_goesOn_267 lk_X6_116 mk_X6_holds in_X6_holds se_X6_holds rfl rfl (c_X6_holds) rfl (Nat.le_of_ble_eq_true rfl) (Nat.le_of_ble_eq_true rfl) (Nat.le_of_ble_eq_true rfl) (Nat.le_of_ble_eq_true rfl) (Nat.le_of_ble_eq_true rfl) rfl ?_
        exact m_vret X dX6_goesOn_270 rfl (by unfold sGoV sGoA; rw [if_neg (show ¬ sCnt w 10 = 0 by rw [hu]; decide), if_neg (show ¬ sCnt w 10 = 1 by rw [hu]; decide), if_pos (Or.inr hu), if_neg (show ¬ sCnt w 10 = 4 by rw [hu]; decide)]; unfold sFeed; rw [if_pos b140, if_neg c254, eI]; try rfl) (Nat.le_of_ble_eq_true rfl) (Nat.le_of_ble_eq_true rfl) rfl
  · replace b140 : ¬ net (sCnt w) < stgt (sCnt w) b - sAhead (sCnt w) b := by rw [eA]; exact b140
    refine m_aload_n X dX6_goesOn_143 rfl rfl ?_
    refine m_iconst (v := 4) X dX6_goesOn_144 (by decide) rfl ?_
    refine m_cV1 X dX6_goesOn_145 lk_X6_91 mk_X6_becomes in_X6_becomes se_X6_becomes rfl rfl (c_X6_becomesE h11) rfl (Nat.le_of_ble_eq_true rfl) (Nat.le_of_ble_eq_true rfl) (Nat.le_of_ble_eq_true rfl) (Nat.le_of_ble_eq_true rfl) (Nat.le_of_ble_eq_true rfl) rfl ?_
    refine m_goto (tgt := 196) X dX6_goesOn_148 (by decide) rfl ?_
    refine m_iload_n X dX6_goesOn_196 rfl rfl ?_
    refine m_iconst (v := 2) X dX6_goesOn_197 (by decide) rfl ?_
    refine m_icmp_eq (tgt := 206) X dX6_goesOn_198 (by decide) rfl (fun b198 => absurd b198 (by decide)) (fun b198 => ?_)
    refine m_iload_n X dX6_goesOn_201 rfl rfl ?_
    refine m_iconst (v := 3) X dX6_goesOn_202 (by decide) rfl ?_
    refine m_icmp_ne (tgt := 270) X dX6_goesOn_203 (by decide) rfl (fun b203 => absurd b203 (not_not_intro rfl)) (fun b203 => ?_)
    refine m_aload_n X dX6_goesOn_206 rfl rfl ?_
    refine m_iload_n X dX6_goesOn_207 rfl rfl ?_
    refine m_aload_n X dX6_goesOn_208 rfl rfl ?_
    refine m_getf (v := .int ((sCnt w) 17)) X dX6_goesOn_209 fl_X6_128 rfl rfl rfl ?_
    refine m_icmp_le (tgt := 219) X dX6_goesOn_212 (by decide) rfl (fun b212 => ?_) (fun b212 => ?_)
    · have eI : sIdle (sCnt w) = upd (sCnt w) 14 ((sCnt w) 14 + 1) := by unfold sIdle; rw [if_pos b212]
      refine m_aload_n X dX6_goesOn_219 rfl rfl ?_
      refine m_getf (v := .int ((sCnt w) 14)) X dX6_goesOn_220 fl_X6_131 rfl rfl rfl ?_
      refine m_iconst (v := 1) X dX6_goesOn_223 (by decide) rfl ?_
      refine m_iadd X dX6_goesOn_224 rfl ?_
      refine m_piM 14 X dX6_goesOn_225 fl_X6_131 fp_X6_25 rfl rfl rfl rfl ?_
      refine m_aload_n X dX6_goesOn_228 rfl rfl ?_
      refine m_iload_n X dX6_goesOn_229 rfl rfl ?_
      refine m_aload_n X dX6_goesOn_230 rfl rfl ?_
      refine m_getf (v := .int ((sCnt w) 17)) X dX6_goesOn_231 fl_X6_128 rfl rfl rfl ?_
      refine m_icmp_le (tgt := 241) X dX6_goesOn_234 (by decide) rfl (fun b234 => ?_) (fun b234 => absurd b234 (not_not_intro b212))
      refine m_aload_n X dX6_goesOn_241 rfl rfl ?_
      refine m_getf (v := .int ((sCnt w) 17)) X dX6_goesOn_242 fl_X6_128 rfl rfl rfl ?_
      refine m_piM 17 X dX6_goesOn_245 fl_X6_128 fp_X6_27 rfl rfl rfl rfl ?_
      refine m_aload_n X dX6_goesOn_248 rfl rfl ?_
      refine m_getf X dX6_goesOn_249 fl_X6_131 rfl rfl rfl ?_
      refine m_bipush (v := (20)) X dX6_goesOn_252 (by decide) rfl ?_
      refine m_icmp_lt (tgt := 270) X dX6_goesOn_254 (by decide) rfl (fun b254 => ?_) (fun b254 => ?_)
      · have c254 : sIdle (sCnt w) 14 < 20 := by rw [eI]; exact b254
        exact m_vret X dX6_goesOn_270 rfl (by unfold sGoV sGoA; rw [if_neg (show ¬ sCnt w 10 = 0 by rw [hu]; decide), if_neg (show ¬ sCnt w 10 = 1 by rw [hu]; decide), if_pos (Or.inr hu), if_neg (show ¬ sCnt w 10 = 4 by rw [hu]; decide)]; unfold sFeed; rw [if_neg b140, eI, if_pos (show ¬ sCnt w 10 = 2 by rw [hu]; decide)]; try rfl) (Nat.le_of_ble_eq_true rfl) (Nat.le_of_ble_eq_true rfl) rfl
      · have c254 : ¬ sIdle (sCnt w) 14 < 20 := by rw [eI]; exact b254
        refine m_aload_n X dX6_goesOn_257 rfl rfl ?_
        refine m_getf X dX6_goesOn_258 fl_X6_79 rfl rfl rfl ?_
        refine m_iload_n X dX6_goesOn_261 rfl rfl ?_
        refine m_icmp_ne (tgt := 270) X dX6_goesOn_262 (by decide) rfl (fun b262 => ?_) (fun b262 => absurd b262 (by show ¬ (4 : Int32) = 3; decide))
        exact m_vret X dX6_goesOn_270 rfl (by unfold sGoV sGoA; rw [if_neg (show ¬ sCnt w 10 = 0 by rw [hu]; decide), if_neg (show ¬ sCnt w 10 = 1 by rw [hu]; decide), if_pos (Or.inr hu), if_neg (show ¬ sCnt w 10 = 4 by rw [hu]; decide)]; unfold sFeed; rw [if_neg b140, eI, if_pos (show ¬ sCnt w 10 = 2 by rw [hu]; decide)]; try rfl) (Nat.le_of_ble_eq_true rfl) (Nat.le_of_ble_eq_true rfl) rfl
    · have eI : sIdle (sCnt w) = upd (upd (sCnt w) 17 (net (sCnt w))) 14 0 := by unfold sIdle; rw [if_neg b212]
      refine m_iconst (v := 0) X dX6_goesOn_215 (by decide) rfl ?_
      refine m_goto (tgt := 225) X dX6_goesOn_216 (by decide) rfl ?_
      refine m_piM 14 X dX6_goesOn_225 fl_X6_131 fp_X6_25 rfl rfl rfl rfl ?_
      refine m_aload_n X dX6_goesOn_228 rfl rfl ?_
      refine m_iload_n X dX6_goesOn_229 rfl rfl ?_
      refine m_aload_n X dX6_goesOn_230 rfl rfl ?_
      refine m_getf (v := .int ((sCnt w) 17)) X dX6_goesOn_231 fl_X6_128 rfl rfl rfl ?_
      refine m_icmp_le (tgt := 241) X dX6_goesOn_234 (by decide) rfl (fun b234 => absurd b234 (b212)) (fun b234 => ?_)
      refine m_iload_n X dX6_goesOn_237 rfl rfl ?_
      refine m_goto (tgt := 245) X dX6_goesOn_238 (by decide) rfl ?_
      refine m_piM 17 X dX6_goesOn_245 fl_X6_128 fp_X6_27 rfl rfl rfl rfl ?_
      refine m_aload_n X dX6_goesOn_248 rfl rfl ?_
      refine m_getf X dX6_goesOn_249 fl_X6_131 rfl rfl rfl ?_
      refine m_bipush (v := (20)) X dX6_goesOn_252 (by decide) rfl ?_
      refine m_icmp_lt (tgt := 270) X dX6_goesOn_254 (by decide) rfl (fun b254 => ?_) (fun b254 => ?_)
      · have c254 : sIdle (sCnt w) 14 < 20 := by rw [eI]; exact b254
        exact m_vret X dX6_goesOn_270 rfl (by unfold sGoV sGoA; rw [if_neg (show ¬ sCnt w 10 = 0 by rw [hu]; decide), if_neg (show ¬ sCnt w 10 = 1 by rw [hu]; decide), if_pos (Or.inr hu), if_neg (show ¬ sCnt w 10 = 4 by rw [hu]; decide)]; unfold sFeed; rw [if_neg b140, eI, if_pos (show ¬ sCnt w 10 = 2 by rw [hu]; decide)]; try rfl) (Nat.le_of_ble_eq_true rfl) (Nat.le_of_ble_eq_true rfl) rfl
      · have c254 : ¬ sIdle (sCnt w) 14 < 20 := by rw [eI]; exact b254
        refine m_aload_n X dX6_goesOn_257 rfl rfl ?_
        refine m_getf X dX6_goesOn_258 fl_X6_79 rfl rfl rfl ?_
        refine m_iload_n X dX6_goesOn_261 rfl rfl ?_
        refine m_icmp_ne (tgt := 270) X dX6_goesOn_262 (by decide) rfl (fun b262 => ?_) (fun b262 => absurd b262 (by show ¬ (4 : Int32) = 3; decide))
        exact m_vret X dX6_goesOn_270 rfl (by unfold sGoV sGoA; rw [if_neg (show ¬ sCnt w 10 = 0 by rw [hu]; decide), if_neg (show ¬ sCnt w 10 = 1 by rw [hu]; decide), if_pos (Or.inr hu), if_neg (show ¬ sCnt w 10 = 4 by rw [hu]; decide)]; unfold sFeed; rw [if_neg b140, eI, if_pos (show ¬ sCnt w 10 = 2 by rw [hu]; decide)]; try rfl) (Nat.le_of_ble_eq_true rfl) (Nat.le_of_ble_eq_true rfl) rfl
set_option maxHeartbeats 8000000 in
theorem c_X6_goesOn4 {v w : m_V} {a b : m_R} {x z : Int64} {lq : Int32} {t : m_H} (h1 : vp_in (w 15) 6) (h2 : vp_in (sbin w b) 4) (h11 : w 11 = 0) (hr : rS w b) (hs : w 10 = 4) (hLo : ∃ L, L ≤ 30 ∧ w 8 = nI L) (hB : ∃ B, B < 20 ∧ w 20 = nI (B + 1)) (hE : -1000000000 ≤ (sErr w b).toInt) (h13 : w 22 = w 13) : m_Ctr M_X6_goesOn [.ref 17] (hL v a x w b z lq t) (.inl (none, hL v a x (sGoV (sCnt w) b) (sGoA (sCnt w) b) z lq t)) := by
  refine m_intro (by decide +kernel) (Nat.le_of_ble_eq_true rfl) (fun X => ?_)
  refine m_aload_n X dX6_goesOn_0 rfl rfl ?_
  refine m_getf (v := .int (w 10)) X dX6_goesOn_1 fl_X6_79 rfl rfl rfl ?_
  refine m_sp (st1 := [.int 4]) (by rw [hs]) ?_
  refine m_istore_n X dX6_goesOn_4 (Nat.le_of_ble_eq_true rfl) rfl ?_
  refine m_aload_n X dX6_goesOn_5 rfl rfl ?_
  refine m_getf X dX6_goesOn_6 fl_X6_44 rfl rfl rfl ?_
  refine m_aload_n X dX6_goesOn_9 rfl rfl ?_
  refine m_getf (v := .int (w 15)) X dX6_goesOn_10 fl_X6_99 rfl rfl rfl ?_
  refine m_iald X dX6_goesOn_13 rfl (h1) rfl ?_
  refine m_sp (st1 := [.int (sbin (sCnt w) b)]) rfl ?_
  refine m_istore_n X dX6_goesOn_14 (Nat.le_of_ble_eq_true rfl) rfl ?_
  refine m_aload_n X dX6_goesOn_15 rfl rfl ?_
  refine m_cV0 X dX6_goesOn_16 lk_X6_102 mk_X6_netNow in_X6_netNow se_X6_netNow rfl rfl (c_X6_netNow) rfl (Nat.le_of_ble_eq_true rfl) (Nat.le_of_ble_eq_true rfl) (Nat.le_of_ble_eq_true rfl) (Nat.le_of_ble_eq_true rfl) (Nat.le_of_ble_eq_true rfl) rfl ?_
  refine m_sp (st1 := [.int (net (sCnt w))]) rfl ?_
  refine m_istore_n X dX6_goesOn_19 (Nat.le_of_ble_eq_true rfl) rfl ?_
  refine m_aload_n X dX6_goesOn_20 rfl rfl ?_
  refine m_dup X dX6_goesOn_21 rfl rfl ?_
  refine m_getf (v := .int (w 22)) X dX6_goesOn_22 fl_X6_82 rfl rfl rfl ?_
  refine m_iconst (v := 1) X dX6_goesOn_25 (by decide) rfl ?_
  refine m_iadd X dX6_goesOn_26 rfl ?_
  refine m_piM 22 X dX6_goesOn_27 fl_X6_82 fp_X6_24 rfl rfl rfl rfl ?_
  refine m_hp (h1 := hL v a x (sCnt w) b z lq t) rfl ?_
  have hu : sCnt w 10 = 4 := hs
  have e9 : sCnt w 22 = sCnt w 13 := by show w 22 + 1 = w 13 + 1; rw [h13]
  refine m_iload_n X dX6_goesOn_30 rfl rfl ?_
  refine m_iconst (v := 1) X dX6_goesOn_31 (by decide) rfl ?_
  refine m_icmp_ne (tgt := 85) X dX6_goesOn_32 (by decide) rfl (fun b32 => ?_) (fun b32 => absurd b32 (by decide))
  refine m_iload_n X dX6_goesOn_85 rfl rfl ?_
  refine m_iconst (v := 2) X dX6_goesOn_86 (by decide) rfl ?_
  refine m_icmp_ne (tgt := 118) X dX6_goesOn_87 (by decide) rfl (fun b87 => ?_) (fun b87 => absurd b87 (by decide))
  refine m_iload_n X dX6_goesOn_118 rfl rfl ?_
  refine m_iconst (v := 3) X dX6_goesOn_119 (by decide) rfl ?_
  refine m_icmp_ne (tgt := 151) X dX6_goesOn_120 (by decide) rfl (fun b120 => ?_) (fun b120 => absurd b120 (by decide))
  refine m_iload_n X dX6_goesOn_151 rfl rfl ?_
  refine m_iconst (v := 4) X dX6_goesOn_152 (by decide) rfl ?_
  refine m_icmp_ne (tgt := 178) X dX6_goesOn_153 (by decide) rfl (fun b153 => absurd b153 (not_not_intro rfl)) (fun b153 => ?_)
  refine m_aload_n X dX6_goesOn_156 rfl rfl ?_
  refine m_getf (v := .int ((sCnt w) 22)) X dX6_goesOn_157 fl_X6_82 rfl rfl rfl ?_
  refine m_iconst (v := 4) X dX6_goesOn_160 (by decide) rfl ?_
  refine m_icmp_lt (tgt := 178) X dX6_goesOn_161 (by decide) rfl (fun b161 => ?_) (fun b161 => ?_)
  · replace b161 : sCnt w 13 < 4 := by rw [← e9]; exact b161
    refine m_iload_n X dX6_goesOn_178 rfl rfl ?_
    refine m_iconst (v := 5) X dX6_goesOn_179 (by decide) rfl ?_
    refine m_icmp_ne (tgt := 196) X dX6_goesOn_180 (by decide) rfl (fun b180 => ?_) (fun b180 => absurd b180 (by decide))
    refine m_iload_n X dX6_goesOn_196 rfl rfl ?_
    refine m_iconst (v := 2) X dX6_goesOn_197 (by decide) rfl ?_
    refine m_icmp_eq (tgt := 206) X dX6_goesOn_198 (by decide) rfl (fun b198 => absurd b198 (by decide)) (fun b198 => ?_)
    refine m_iload_n X dX6_goesOn_201 rfl rfl ?_
    refine m_iconst (v := 3) X dX6_goesOn_202 (by decide) rfl ?_
    refine m_icmp_ne (tgt := 270) X dX6_goesOn_203 (by decide) rfl (fun b203 => ?_) (fun b203 => absurd b203 (by decide))
    exact m_vret X dX6_goesOn_270 rfl (by unfold sGoV sGoA; rw [if_neg (show ¬ sCnt w 10 = 0 by rw [hu]; decide), if_neg (show ¬ sCnt w 10 = 1 by rw [hu]; decide), if_neg (show ¬ (sCnt w 10 = 2 ∨ sCnt w 10 = 3) by rw [hu]; decide), if_pos hu, if_pos b161, if_pos hu, if_pos b161]; try rfl) (Nat.le_of_ble_eq_true rfl) (Nat.le_of_ble_eq_true rfl) rfl
  · replace b161 : ¬ sCnt w 13 < 4 := by rw [← e9]; exact b161
    refine m_aload_n X dX6_goesOn_164 rfl rfl ?_
    refine m_cV0 X dX6_goesOn_165 lk_X6_95 mk_X6_settles in_X6_settles se_X6_settles rfl rfl (c_X6_settles hr) rfl (Nat.le_of_ble_eq_true rfl) (Nat.le_of_ble_eq_true rfl) (Nat.le_of_ble_eq_true rfl) (Nat.le_of_ble_eq_true rfl) (Nat.le_of_ble_eq_true rfl) rfl ?_
    refine m_if_eq (tgt := 178) X dX6_goesOn_168 (by decide) rfl (fun b168 => ?_) (fun b168 => ?_)
    · refine m_iload_n X dX6_goesOn_178 rfl rfl ?_
      refine m_iconst (v := 5) X dX6_goesOn_179 (by decide) rfl ?_
      refine m_icmp_ne (tgt := 196) X dX6_goesOn_180 (by decide) rfl (fun b180 => ?_) (fun b180 => absurd b180 (by decide))
      refine m_iload_n X dX6_goesOn_196 rfl rfl ?_
      refine m_iconst (v := 2) X dX6_goesOn_197 (by decide) rfl ?_
      refine m_icmp_eq (tgt := 206) X dX6_goesOn_198 (by decide) rfl (fun b198 => absurd b198 (by decide)) (fun b198 => ?_)
      refine m_iload_n X dX6_goesOn_201 rfl rfl ?_
      refine m_iconst (v := 3) X dX6_goesOn_202 (by decide) rfl ?_
      refine m_icmp_ne (tgt := 270) X dX6_goesOn_203 (by decide) rfl (fun b203 => ?_) (fun b203 => absurd b203 (by decide))
      exact m_vret X dX6_goesOn_270 rfl (by unfold sGoV sGoA; rw [if_neg (show ¬ sCnt w 10 = 0 by rw [hu]; decide), if_neg (show ¬ sCnt w 10 = 1 by rw [hu]; decide), if_neg (show ¬ (sCnt w 10 = 2 ∨ sCnt w 10 = 3) by rw [hu]; decide), if_pos hu, if_neg b161, if_pos b168, if_pos hu, if_neg b161, if_pos b168]; try rfl) (Nat.le_of_ble_eq_true rfl) (Nat.le_of_ble_eq_true rfl) rfl
    · refine m_aload_n X dX6_goesOn_171 rfl rfl ?_
      refine m_cV0 X dX6_goesOn_172 lk_X6_125 mk_X6_weighs in_X6_weighs se_X6_weighs rfl rfl (c_X6_weighs h1 h2 hLo hB h11 hE) rfl (Nat.le_of_ble_eq_true rfl) (Nat.le_of_ble_eq_true rfl) (Nat.le_of_ble_eq_true rfl) (Nat.le_of_ble_eq_true rfl) (Nat.le_of_ble_eq_true rfl) rfl ?_
      refine m_goto (tgt := 196) X dX6_goesOn_175 (by decide) rfl ?_
      refine m_iload_n X dX6_goesOn_196 rfl rfl ?_
      refine m_iconst (v := 2) X dX6_goesOn_197 (by decide) rfl ?_
      refine m_icmp_eq (tgt := 206) X dX6_goesOn_198 (by decide) rfl (fun b198 => absurd b198 (by decide)) (fun b198 => ?_)
      refine m_iload_n X dX6_goesOn_201 rfl rfl ?_
      refine m_iconst (v := 3) X dX6_goesOn_202 (by decide) rfl ?_
      refine m_icmp_ne (tgt := 270) X dX6_goesOn_203 (by decide) rfl (fun b203 => ?_) (fun b203 => absurd b203 (by decide))
      exact m_vret X dX6_goesOn_270 rfl (by unfold sGoV sGoA; rw [if_neg (show ¬ sCnt w 10 = 0 by rw [hu]; decide), if_neg (show ¬ sCnt w 10 = 1 by rw [hu]; decide), if_neg (show ¬ (sCnt w 10 = 2 ∨ sCnt w 10 = 3) by rw [hu]; decide), if_pos hu, if_neg b161, if_neg b168, if_pos hu, if_neg b161, if_neg b168]; try rfl) (Nat.le_of_ble_eq_true rfl) (Nat.le_of_ble_eq_true rfl) rfl
set_option maxHeartbeats 8000000 in
theorem c_X6_goesOn5 {v w : m_V} {a b : m_R} {x z : Int64} {lq : Int32} {t : m_H} (h1 : vp_in (w 15) 6) (h2 : vp_in (sbin w b) 4) (h11 : w 11 = 0) (hr : rS w b) (hs : w 10 = 5) (h13 : w 22 = w 13) (h5 : w 13 = 0 ∨ w 13 = 1) : m_Ctr M_X6_goesOn [.ref 17] (hL v a x w b z lq t) (.inl (none, hL v a x (sGoV (sCnt w) b) (sGoA (sCnt w) b) z lq t)) := by
  refine m_intro (by decide +kernel) (Nat.le_of_ble_eq_true rfl) (fun X => ?_)
  refine m_aload_n X dX6_goesOn_0 rfl rfl ?_
  refine m_getf (v := .int (w 10)) X dX6_goesOn_1 fl_X6_79 rfl rfl rfl ?_
  refine m_sp (st1 := [.int 5]) (by rw [hs]) ?_
  refine m_istore_n X dX6_goesOn_4 (Nat.le_of_ble_eq_true rfl) rfl ?_
  refine m_aload_n X dX6_goesOn_5 rfl rfl ?_
  refine m_getf X dX6_goesOn_6 fl_X6_44 rfl rfl rfl ?_
  refine m_aload_n X dX6_goesOn_9 rfl rfl ?_
  refine m_getf (v := .int (w 15)) X dX6_goesOn_10 fl_X6_99 rfl rfl rfl ?_
  refine m_iald X dX6_goesOn_13 rfl (h1) rfl ?_
  refine m_sp (st1 := [.int (sbin (sCnt w) b)]) rfl ?_
  refine m_istore_n X dX6_goesOn_14 (Nat.le_of_ble_eq_true rfl) rfl ?_
  refine m_aload_n X dX6_goesOn_15 rfl rfl ?_
  refine m_cV0 X dX6_goesOn_16 lk_X6_102 mk_X6_netNow in_X6_netNow se_X6_netNow rfl rfl (c_X6_netNow) rfl (Nat.le_of_ble_eq_true rfl) (Nat.le_of_ble_eq_true rfl) (Nat.le_of_ble_eq_true rfl) (Nat.le_of_ble_eq_true rfl) (Nat.le_of_ble_eq_true rfl) rfl ?_
  refine m_sp (st1 := [.int (net (sCnt w))]) rfl ?_
  refine m_istore_n X dX6_goesOn_19 (Nat.le_of_ble_eq_true rfl) rfl ?_
  refine m_aload_n X dX6_goesOn_20 rfl rfl ?_
  refine m_dup X dX6_goesOn_21 rfl rfl ?_
  refine m_getf (v := .int (w 22)) X dX6_goesOn_22 fl_X6_82 rfl rfl rfl ?_
  refine m_iconst (v := 1) X dX6_goesOn_25 (by decide) rfl ?_
  refine m_iadd X dX6_goesOn_26 rfl ?_
  refine m_piM 22 X dX6_goesOn_27 fl_X6_82 fp_X6_24 rfl rfl rfl rfl ?_
  refine m_hp (h1 := hL v a x (sCnt w) b z lq t) rfl ?_
  have hu : sCnt w 10 = 5 := hs
  have e5 : ¬ sCnt w 22 = 2 ↔ sCnt w 13 < 2 := by
    show ¬ w 22 + 1 = 2 ↔ w 13 + 1 < 2
    rw [h13]
    rcases h5 with h5 | h5 <;> rw [h5] <;> decide
  refine m_iload_n X dX6_goesOn_30 rfl rfl ?_
  refine m_iconst (v := 1) X dX6_goesOn_31 (by decide) rfl ?_
  refine m_icmp_ne (tgt := 85) X dX6_goesOn_32 (by decide) rfl (fun b32 => ?_) (fun b32 => absurd b32 (by decide))
  refine m_iload_n X dX6_goesOn_85 rfl rfl ?_
  refine m_iconst (v := 2) X dX6_goesOn_86 (by decide) rfl ?_
  refine m_icmp_ne (tgt := 118) X dX6_goesOn_87 (by decide) rfl (fun b87 => ?_) (fun b87 => absurd b87 (by decide))
  refine m_iload_n X dX6_goesOn_118 rfl rfl ?_
  refine m_iconst (v := 3) X dX6_goesOn_119 (by decide) rfl ?_
  refine m_icmp_ne (tgt := 151) X dX6_goesOn_120 (by decide) rfl (fun b120 => ?_) (fun b120 => absurd b120 (by decide))
  refine m_iload_n X dX6_goesOn_151 rfl rfl ?_
  refine m_iconst (v := 4) X dX6_goesOn_152 (by decide) rfl ?_
  refine m_icmp_ne (tgt := 178) X dX6_goesOn_153 (by decide) rfl (fun b153 => ?_) (fun b153 => absurd b153 (by decide))
  refine m_iload_n X dX6_goesOn_178 rfl rfl ?_
  refine m_iconst (v := 5) X dX6_goesOn_179 (by decide) rfl ?_
  refine m_icmp_ne (tgt := 196) X dX6_goesOn_180 (by decide) rfl (fun b180 => absurd b180 (not_not_intro rfl)) (fun b180 => ?_)
  refine m_aload_n X dX6_goesOn_183 rfl rfl ?_
  refine m_getf (v := .int ((sCnt w) 22)) X dX6_goesOn_184 fl_X6_82 rfl rfl rfl ?_
  refine m_iconst (v := 2) X dX6_goesOn_187 (by decide) rfl ?_
  refine m_icmp_ne (tgt := 196) X dX6_goesOn_188 (by decide) rfl (fun b188 => ?_) (fun b188 => ?_)
  · replace b188 : sCnt w 13 < 2 := e5.mp b188
    refine m_iload_n X dX6_goesOn_196 rfl rfl ?_
    refine m_iconst (v := 2) X dX6_goesOn_197 (by decide) rfl ?_
    refine m_icmp_eq (tgt := 206) X dX6_goesOn_198 (by decide) rfl (fun b198 => absurd b198 (by decide)) (fun b198 => ?_)
    refine m_iload_n X dX6_goesOn_201 rfl rfl ?_
    refine m_iconst (v := 3) X dX6_goesOn_202 (by decide) rfl ?_
    refine m_icmp_ne (tgt := 270) X dX6_goesOn_203 (by decide) rfl (fun b203 => ?_) (fun b203 => absurd b203 (by decide))
    exact m_vret X dX6_goesOn_270 rfl (by unfold sGoV sGoA; rw [if_neg (show ¬ sCnt w 10 = 0 by rw [hu]; decide), if_neg (show ¬ sCnt w 10 = 1 by rw [hu]; decide), if_neg (show ¬ (sCnt w 10 = 2 ∨ sCnt w 10 = 3) by rw [hu]; decide), if_neg (show ¬ sCnt w 10 = 4 by rw [hu]; decide), if_pos hu, if_pos b188, if_neg (show ¬ sCnt w 10 = 4 by rw [hu]; decide)]; try rfl) (Nat.le_of_ble_eq_true rfl) (Nat.le_of_ble_eq_true rfl) rfl
  · replace b188 : ¬ sCnt w 13 < 2 := fun q => absurd b188 (e5.mpr q)
    refine m_aload_n X dX6_goesOn_191 rfl rfl ?_
    refine m_iconst (v := 4) X dX6_goesOn_192 (by decide) rfl ?_
    refine m_cV1 X dX6_goesOn_193 lk_X6_91 mk_X6_becomes in_X6_becomes se_X6_becomes rfl rfl (c_X6_becomesE h11) rfl (Nat.le_of_ble_eq_true rfl) (Nat.le_of_ble_eq_true rfl) (Nat.le_of_ble_eq_true rfl) (Nat.le_of_ble_eq_true rfl) (Nat.le_of_ble_eq_true rfl) rfl ?_
    refine m_iload_n X dX6_goesOn_196 rfl rfl ?_
    refine m_iconst (v := 2) X dX6_goesOn_197 (by decide) rfl ?_
    refine m_icmp_eq (tgt := 206) X dX6_goesOn_198 (by decide) rfl (fun b198 => absurd b198 (by decide)) (fun b198 => ?_)
    refine m_iload_n X dX6_goesOn_201 rfl rfl ?_
    refine m_iconst (v := 3) X dX6_goesOn_202 (by decide) rfl ?_
    refine m_icmp_ne (tgt := 270) X dX6_goesOn_203 (by decide) rfl (fun b203 => ?_) (fun b203 => absurd b203 (by decide))
    exact m_vret X dX6_goesOn_270 rfl (by unfold sGoV sGoA; rw [if_neg (show ¬ sCnt w 10 = 0 by rw [hu]; decide), if_neg (show ¬ sCnt w 10 = 1 by rw [hu]; decide), if_neg (show ¬ (sCnt w 10 = 2 ∨ sCnt w 10 = 3) by rw [hu]; decide), if_neg (show ¬ sCnt w 10 = 4 by rw [hu]; decide), if_pos hu, if_neg b188, if_neg (show ¬ sCnt w 10 = 4 by rw [hu]; decide)]; try rfl) (Nat.le_of_ble_eq_true rfl) (Nat.le_of_ble_eq_true rfl) rfl
end MN2

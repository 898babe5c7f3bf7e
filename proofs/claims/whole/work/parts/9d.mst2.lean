/-! THE SECOND PASS: cases and statements, step by step. -/
set_option maxRecDepth 100000 in
theorem c_Mo_caseOf {k : cx_K} {l : Launch} {G : cx_G} {N : Nat} {mo : Nat} {P : Nat → Nat} {M : rm_M} {b : Nat × Nat} {S : rp_S} {fs : Nat} (hS : rp_XS k l mo b S fs) (hfs : 312 ≤ fs) (hm : rm_R k G mo P M) (hQ : rm_Q b G M) {K : rm_M → Prop} (hK : rp_css N S K M)  : cx_Sp k l m_Mo_caseOf (fs + 1) [.ref mo] G (rp_P0 k mo b G P K) := by
  intro E hE
  have W0 := rm_W.rf hm hQ
  have m0 := hm.1
  have hcas : ∀ (w : Int32) (n : Nat) (te : Int32) (Gx : cx_G) (Px : Nat → Nat) (Mx : rm_M), rm_W k mo b G P Gx Px Mx → rp_cas N S w K n te Mx → cx_V E 27 [(2, false, .int te), (1, false, .int w), (0, false, .ref mo)] [] Gx := by
    intro w n
    induction n with
    | zero => intro te Gx Px Mx _ h; exact h.elim
    | succ n ih =>
      intro te Gx Px Mx Wx hK
      have mx := Wx.1.1
      unfold rp_cas at hK
      refine cx_aload_n (i := 0) hE d_Mo_caseOf_27 rfl rfl ?_
      refine cx_sipush (v := 402) hE d_Mo_caseOf_28 (by decide) ?_
      refine cx_wR hE d_Mo_caseOf_31 l_Mo_203 Wx (s_is Wx.1 hK) rfl (by omega) (Nat.le_of_ble_eq_true rfl) n_Mo_is (by first | rfl | (simp only [List.map_cons, List.map_nil, cx_rfc]; rfl)) (fun v_31 K_31 => ?_)
      obtain ⟨b_31, rfl, K_31⟩ := K_31
      refine cx_if_eq (tgt := 214)  hE d_Mo_caseOf_34 (by decide) (fun c_34 => ?_) (fun c_34 => ?_)
      · have K_34 := rp_ifn K_31 (by rw [cx_b0.mp c_34]; decide)
        refine cx_aload_n (i := 0) hE d_Mo_caseOf_214 rfl rfl ?_
        refine cx_bipush (v := 13) hE d_Mo_caseOf_215 (by decide) ?_
        refine cx_iconst (v := 0) hE d_Mo_caseOf_217 (by decide) ?_
        refine cx_iconst (v := 0) hE d_Mo_caseOf_218 (by decide) ?_
        refine cx_w0 hE d_Mo_caseOf_219 l_Mo_295 Wx (s_lay Wx.1 Wx.2.2 K_34) rfl (by omega) (Nat.le_of_ble_eq_true rfl) n_Mo_lay (by first | rfl | (simp only [List.map_cons, List.map_nil, cx_rfc]; rfl)) (fun G_219 P_219 M_219 W_219 K_219 => ?_)
        have m_219 := W_219.1.1
        refine cx_aload_n (i := 0) hE d_Mo_caseOf_222 rfl rfl ?_
        refine cx_sipush (v := 316) hE d_Mo_caseOf_223 (by decide) ?_
        refine cx_wR hE d_Mo_caseOf_226 l_Mo_203 W_219 (s_is W_219.1 K_219) rfl (by omega) (Nat.le_of_ble_eq_true rfl) n_Mo_is (by first | rfl | (simp only [List.map_cons, List.map_nil, cx_rfc]; rfl)) (fun v_226 K_226 => ?_)
        obtain ⟨b_226, rfl, K_226⟩ := K_226
        refine cx_if_eq (tgt := 246)  hE d_Mo_caseOf_229 (by decide) (fun c_229 => ?_) (fun c_229 => ?_)
        · have K_229 := rp_ifn K_226 (by rw [cx_b0.mp c_229]; decide)
          refine cx_aload_n (i := 0) hE d_Mo_caseOf_246 rfl rfl ?_
          refine cx_iload_n (i := 2) hE d_Mo_caseOf_247 rfl rfl ?_
          refine cx_w0 hE d_Mo_caseOf_248 l_Mo_359 W_219 (c_Mo_patch W_219.1 W_219.2.2 K_229) rfl (by omega) (Nat.le_of_ble_eq_true rfl) n_Mo_patch (by first | rfl | (simp only [List.map_cons, List.map_nil, cx_rfc]; rfl)) (fun G_248 P_248 M_248 W_248 K_248 => ?_)
          have m_248 := W_248.1.1
          refine cx_aload_n (i := 0) hE d_Mo_caseOf_251 rfl rfl ?_
          refine cx_dup hE d_Mo_caseOf_252 ?_
          refine cx_get hE d_Mo_caseOf_253 f_Mo_193 (by assumption) (by rfl) ?_
          refine cx_iconst (v := 1) hE d_Mo_caseOf_256 (by decide) ?_
          refine cx_iadd hE d_Mo_caseOf_257 ?_
          refine cx_putg hE d_Mo_caseOf_258 f_Mo_193 (by assumption) (Nat.le_of_ble_eq_true rfl) (by first | rfl | exact cx_nr _ _) (by first | rfl | exact cx_fr _ _) (fun G_258 g_258 h_258 => ?_)
          rw [rm_s8] at g_258
          clear h_258
          have W_258 : rm_W k mo b G P G_258 P_248 (rp_i M_248 1) := W_248.pi g_258
          have m_258 := W_258.1.1
          refine cx_vret hE d_Mo_caseOf_261 rfl ?_
          exact ⟨_, _, rfl, W_258, K_248⟩
        · have K_229 := rp_ifp K_226 (cx_bn.mp c_229)
          refine cx_aload_n (i := 0) hE d_Mo_caseOf_232 rfl rfl ?_
          refine cx_aload_n (i := 0) hE d_Mo_caseOf_233 rfl rfl ?_
          refine cx_get hE d_Mo_caseOf_234 f_Mo_193 (by assumption) (by rfl) ?_
          refine cx_iconst (v := 2) hE d_Mo_caseOf_237 (by decide) ?_
          refine cx_iadd hE d_Mo_caseOf_238 ?_
          refine cx_putg hE d_Mo_caseOf_239 f_Mo_193 (by assumption) (Nat.le_of_ble_eq_true rfl) (by first | rfl | exact cx_nr _ _) (by first | rfl | exact cx_fr _ _) (fun G_239 g_239 h_239 => ?_)
          rw [rm_s8] at g_239
          clear h_239
          have W_239 : rm_W k mo b G P G_239 P_219 (rp_i M_219 2) := W_219.pi g_239
          have m_239 := W_239.1.1
          refine cx_aload_n (i := 0) hE d_Mo_caseOf_242 rfl rfl ?_
          refine cx_w0 hE d_Mo_caseOf_243 l_Mo_350 W_239 (hS _ _ _ _ W_239.1 W_239.2.2 K_229) rfl (by omega) (Nat.le_of_ble_eq_true rfl) n_Mo_statement (by first | rfl | (simp only [List.map_cons, List.map_nil, cx_rfc]; rfl)) (fun G_243 P_243 M_243 W_243 K_243 => ?_)
          have m_243 := W_243.1.1
          refine cx_aload_n (i := 0) hE d_Mo_caseOf_246 rfl rfl ?_
          refine cx_iload_n (i := 2) hE d_Mo_caseOf_247 rfl rfl ?_
          refine cx_w0 hE d_Mo_caseOf_248 l_Mo_359 W_243 (c_Mo_patch W_243.1 W_243.2.2 K_243) rfl (by omega) (Nat.le_of_ble_eq_true rfl) n_Mo_patch (by first | rfl | (simp only [List.map_cons, List.map_nil, cx_rfc]; rfl)) (fun G_248 P_248 M_248 W_248 K_248 => ?_)
          have m_248 := W_248.1.1
          refine cx_aload_n (i := 0) hE d_Mo_caseOf_251 rfl rfl ?_
          refine cx_dup hE d_Mo_caseOf_252 ?_
          refine cx_get hE d_Mo_caseOf_253 f_Mo_193 (by assumption) (by rfl) ?_
          refine cx_iconst (v := 1) hE d_Mo_caseOf_256 (by decide) ?_
          refine cx_iadd hE d_Mo_caseOf_257 ?_
          refine cx_putg hE d_Mo_caseOf_258 f_Mo_193 (by assumption) (Nat.le_of_ble_eq_true rfl) (by first | rfl | exact cx_nr _ _) (by first | rfl | exact cx_fr _ _) (fun G_258 g_258 h_258 => ?_)
          rw [rm_s8] at g_258
          clear h_258
          have W_258 : rm_W k mo b G P G_258 P_248 (rp_i M_248 1) := W_248.pi g_258
          have m_258 := W_258.1.1
          refine cx_vret hE d_Mo_caseOf_261 rfl ?_
          exact ⟨_, _, rfl, W_258, K_248⟩
      · have K_34 := rp_ifp K_31 (cx_bn.mp c_34)
        have h152 : ∀ (tb : Int32) (Gy : cx_G) (Py : Nat → Nat) (My : rm_M), rm_W k mo b G P Gy Py My → (fun tb Mc => ∃ x, Mc.1 42 = nI x ∧ rp_lay 11 0 0 Mc fun Mc => rp_pat (fun Mc => rp_lay 13 0 0 Mc fun Mc => S (fun Mc => rp_lay 11 te 0 Mc fun Mc => rp_cd (x + 1) Mc fun Mc => rp_cas N S w K n (Mc.1 42 - 3) Mc) Mc) N tb Mc) tb My → cx_V E 152 [(3, false, .int tb), (2, false, .int te), (1, false, .int w), (0, false, .ref mo)] [] Gy := by
          intro tb Gy Py My Wy hK
          have my := Wy.1.1
          obtain ⟨x, e_x, hK⟩ := hK
          refine cx_aload_n (i := 0) hE d_Mo_caseOf_152 rfl rfl ?_
          refine cx_get hE d_Mo_caseOf_153 f_Mo_279 (by assumption) (by rfl) ?_
          rw [e_x]
          refine cx_istore hE d_Mo_caseOf_156 (by decide) ?_
          refine cx_aload_n (i := 0) hE d_Mo_caseOf_158 rfl rfl ?_
          refine cx_bipush (v := 11) hE d_Mo_caseOf_159 (by decide) ?_
          refine cx_iconst (v := 0) hE d_Mo_caseOf_161 (by decide) ?_
          refine cx_iconst (v := 0) hE d_Mo_caseOf_162 (by decide) ?_
          refine cx_w0 hE d_Mo_caseOf_163 l_Mo_295 Wy (s_lay Wy.1 Wy.2.2 hK) rfl (by omega) (Nat.le_of_ble_eq_true rfl) n_Mo_lay (by first | rfl | (simp only [List.map_cons, List.map_nil, cx_rfc]; rfl)) (fun G_163 P_163 M_163 W_163 K_163 => ?_)
          have m_163 := W_163.1.1
          refine cx_aload_n (i := 0) hE d_Mo_caseOf_166 rfl rfl ?_
          refine cx_iload_n (i := 3) hE d_Mo_caseOf_167 rfl rfl ?_
          refine cx_w0 hE d_Mo_caseOf_168 l_Mo_359 W_163 (c_Mo_patch W_163.1 W_163.2.2 K_163) rfl (by omega) (Nat.le_of_ble_eq_true rfl) n_Mo_patch (by first | rfl | (simp only [List.map_cons, List.map_nil, cx_rfc]; rfl)) (fun G_168 P_168 M_168 W_168 K_168 => ?_)
          have m_168 := W_168.1.1
          refine cx_aload_n (i := 0) hE d_Mo_caseOf_171 rfl rfl ?_
          refine cx_bipush (v := 13) hE d_Mo_caseOf_172 (by decide) ?_
          refine cx_iconst (v := 0) hE d_Mo_caseOf_174 (by decide) ?_
          refine cx_iconst (v := 0) hE d_Mo_caseOf_175 (by decide) ?_
          refine cx_w0 hE d_Mo_caseOf_176 l_Mo_295 W_168 (s_lay W_168.1 W_168.2.2 K_168) rfl (by omega) (Nat.le_of_ble_eq_true rfl) n_Mo_lay (by first | rfl | (simp only [List.map_cons, List.map_nil, cx_rfc]; rfl)) (fun G_176 P_176 M_176 W_176 K_176 => ?_)
          have m_176 := W_176.1.1
          refine cx_aload_n (i := 0) hE d_Mo_caseOf_179 rfl rfl ?_
          refine cx_w0 hE d_Mo_caseOf_180 l_Mo_350 W_176 (hS _ _ _ _ W_176.1 W_176.2.2 K_176) rfl (by omega) (Nat.le_of_ble_eq_true rfl) n_Mo_statement (by first | rfl | (simp only [List.map_cons, List.map_nil, cx_rfc]; rfl)) (fun G_180 P_180 M_180 W_180 K_180 => ?_)
          have m_180 := W_180.1.1
          refine cx_aload_n (i := 0) hE d_Mo_caseOf_183 rfl rfl ?_
          refine cx_bipush (v := 11) hE d_Mo_caseOf_184 (by decide) ?_
          refine cx_iload_n (i := 2) hE d_Mo_caseOf_186 rfl rfl ?_
          refine cx_iconst (v := 0) hE d_Mo_caseOf_187 (by decide) ?_
          refine cx_w0 hE d_Mo_caseOf_188 l_Mo_295 W_180 (s_lay W_180.1 W_180.2.2 K_180) rfl (by omega) (Nat.le_of_ble_eq_true rfl) n_Mo_lay (by first | rfl | (simp only [List.map_cons, List.map_nil, cx_rfc]; rfl)) (fun G_188 P_188 M_188 W_188 K_188 => ?_)
          have m_188 := W_188.1.1
          refine cx_aload_n (i := 0) hE d_Mo_caseOf_191 rfl rfl ?_
          refine cx_get hE d_Mo_caseOf_192 f_Mo_279 (by assumption) (by rfl) ?_
          refine cx_iconst (v := 3) hE d_Mo_caseOf_195 (by decide) ?_
          refine cx_isub hE d_Mo_caseOf_196 ?_
          refine cx_istore_n (i := 2) hE d_Mo_caseOf_197 rfl (by decide) ?_
          refine cx_aload_n (i := 0) hE d_Mo_caseOf_198 rfl rfl ?_
          refine cx_get hE d_Mo_caseOf_199 f_Mo_95 (by assumption) (by rfl) ?_
          refine cx_iload hE d_Mo_caseOf_202 rfl ?_
          refine cx_iconst (v := 1) hE d_Mo_caseOf_204 (by decide) ?_
          refine cx_iadd hE d_Mo_caseOf_205 ?_
          rw [nI_1]
          refine cx_aload_n (i := 0) hE d_Mo_caseOf_206 rfl rfl ?_
          refine cx_get hE d_Mo_caseOf_207 f_Mo_279 (by assumption) (by rfl) ?_
          obtain ⟨l_210, K_210⟩ := K_188
          refine cx_iast 1 hE d_Mo_caseOf_210 rfl (W_188.1.i 41 rfl) (vp_in_nI (by show _ < M_188.2.2.2.1; omega) (by show M_188.2.2.2.1 < 2147483648; have := W_188.2.2.2.2.2.1; omega)) ?_
          rw [nI_clamp (by have := W_188.2.2.2.2.2.1; omega)]
          refine cx_gen (fun G_210 g_210 => ?_)
          have W_210 : rm_W k mo b G P G_210 P_188 (rp_set M_188 41 (x + 1) (M_188.1 42)) := W_188.si 41 rfl g_210
          have m_210 := W_210.1.1
          refine cx_goto (tgt := 27) hE d_Mo_caseOf_211 (by decide) ?_
          refine cx_sub [0, 3, 4] rfl ?_
          exact ih _ _ _ _ W_210 K_210
        have hcvl : ∀ (n2 : Nat) (more : Bool) (tb : Int32) (Gy : cx_G) (Py : Nat → Nat) (My : rm_M), rm_W k mo b G P Gy Py My → rp_cvl w (fun tb Mc => ∃ x, Mc.1 42 = nI x ∧ rp_lay 11 0 0 Mc fun Mc => rp_pat (fun Mc => rp_lay 13 0 0 Mc fun Mc => S (fun Mc => rp_lay 11 te 0 Mc fun Mc => rp_cd (x + 1) Mc fun Mc => rp_cas N S w K n (Mc.1 42 - 3) Mc) Mc) N tb Mc) n2 more tb My → cx_V E 42 [(4, false, .int (cx_b more)), (3, false, .int tb), (2, false, .int te), (1, false, .int w), (0, false, .ref mo)] [] Gy := by
          intro n2
          induction n2 with
          | zero => intro more tb Gy Py My _ h; exact h.elim
          | succ n2 ih2 =>
            intro more tb Gy Py My Wy hK
            have my := Wy.1.1
            unfold rp_cvl at hK
            refine cx_iload hE d_Mo_caseOf_42 rfl ?_
            refine cx_if_eq (tgt := 152)  hE d_Mo_caseOf_44 (by decide) (fun c_44 => ?_) (fun c_44 => ?_)
            · have K_44 := rp_ifn hK (fun z => by have := cx_b0.mp c_44; rw [z.1] at this; cases this)
              refine cx_sub [1, 2, 3, 4] rfl ?_
              exact h152 _ _ _ _ Wy K_44
            · refine cx_aload_n (i := 0) hE d_Mo_caseOf_47 rfl rfl ?_
              refine cx_get hE d_Mo_caseOf_48 f_Mo_187 (by assumption) (by rfl) ?_
              refine cx_if_ne (tgt := 152)  hE d_Mo_caseOf_51 (by decide) (fun c_51 => ?_) (fun c_51 => ?_)
              · have K_44 := rp_ifn hK (fun z => c_51 z.2)
                refine cx_sub [1, 2, 3, 4] rfl ?_
                exact h152 _ _ _ _ Wy K_44
              · have K_44 := rp_ifp hK ⟨cx_bn.mp c_44, c_51⟩
                refine cx_aload_n (i := 0) hE d_Mo_caseOf_54 rfl rfl ?_
                refine cx_aload_n (i := 0) hE d_Mo_caseOf_55 rfl rfl ?_
                refine cx_get hE d_Mo_caseOf_56 f_Mo_193 (by assumption) (by rfl) ?_
                refine cx_wR hE d_Mo_caseOf_59 l_Mo_324 Wy (s_wid Wy.1 K_44) rfl (by omega) (Nat.le_of_ble_eq_true rfl) n_Mo_widthOfNumber (by first | rfl | (simp only [List.map_cons, List.map_nil, cx_rfc]; rfl)) (fun v_59 K_59 => ?_)
                obtain ⟨i_59, e_59, l_59, K_59b⟩ := K_59
                have h81 : ∀ (G1 : cx_G) (P1 : Nat → Nat), rm_W k mo b G P G1 P1 (if v_59 = w then My else rm_fail 30 (My.2.1 5 i_59) My) → cx_V E 81 [(4, false, .int (cx_b more)), (3, false, .int tb), (2, false, .int te), (1, false, .int w), (0, false, .ref mo)] [] G1 := by
                  intro G1 P1 W1
                  have m1 := W1.1.1
                  refine cx_aload_n (i := 0) hE d_Mo_caseOf_81 rfl rfl ?_
                  refine cx_iload_n (i := 1) hE d_Mo_caseOf_82 rfl rfl ?_
                  refine cx_i2l hE d_Mo_caseOf_83 ?_
                  refine cx_w0 hE d_Mo_caseOf_84 l_Mo_291 W1 (s_cost W1.1 W1.2.2 K_59b) rfl (by omega) (Nat.le_of_ble_eq_true rfl) n_Mo_cost (by first | rfl | (simp only [List.map_cons, List.map_nil, cx_rfc]; rfl)) (fun G_84 P_84 M_84 W_84 K_84 => ?_)
                  have m_84 := W_84.1.1
                  refine cx_aload_n (i := 0) hE d_Mo_caseOf_87 rfl rfl ?_
                  refine cx_bipush (v := 12) hE d_Mo_caseOf_88 (by decide) ?_
                  refine cx_iload_n (i := 3) hE d_Mo_caseOf_90 rfl rfl ?_
                  refine cx_aload_n (i := 0) hE d_Mo_caseOf_91 rfl rfl ?_
                  refine cx_aload_n (i := 0) hE d_Mo_caseOf_92 rfl rfl ?_
                  refine cx_aload_n (i := 0) hE d_Mo_caseOf_93 rfl rfl ?_
                  refine cx_get hE d_Mo_caseOf_94 f_Mo_193 (by assumption) (by rfl) ?_
                  refine cx_wL hE d_Mo_caseOf_97 l_Mo_316 W_84 (s_num W_84.1 W_84.2.2 K_84) rfl (by omega) (Nat.le_of_ble_eq_true rfl) n_Mo_numberOf (by first | rfl | (simp only [List.map_cons, List.map_nil, cx_rfc]; rfl)) (fun v_97 G_97 P_97 M_97 W_97 K_97 => ?_)
                  have m_97 := W_97.1.1
                  refine cx_wP hE d_Mo_caseOf_100 l_Mo_320 W_97 (s_keep W_97.1 W_97.2.2 K_97) rfl (by omega) (Nat.le_of_ble_eq_true rfl) n_Mo_keepNumber (by first | rfl | (simp only [List.map_cons, List.map_nil, cx_rfc]; rfl)) (fun v_100 G_100 P_100 M_100 W_100 K_100 => ?_)
                  have m_100 := W_100.1.1
                  refine cx_w0 hE d_Mo_caseOf_103 l_Mo_295 W_100 (s_lay W_100.1 W_100.2.2 K_100) rfl (by omega) (Nat.le_of_ble_eq_true rfl) n_Mo_lay (by first | rfl | (simp only [List.map_cons, List.map_nil, cx_rfc]; rfl)) (fun G_103 P_103 M_103 W_103 K_103 => ?_)
                  have m_103 := W_103.1.1
                  refine cx_aload_n (i := 0) hE d_Mo_caseOf_106 rfl rfl ?_
                  refine cx_get hE d_Mo_caseOf_107 f_Mo_279 (by assumption) (by rfl) ?_
                  refine cx_iconst (v := 3) hE d_Mo_caseOf_110 (by decide) ?_
                  refine cx_isub hE d_Mo_caseOf_111 ?_
                  refine cx_istore_n (i := 3) hE d_Mo_caseOf_112 rfl (by decide) ?_
                  refine cx_aload_n (i := 0) hE d_Mo_caseOf_113 rfl rfl ?_
                  refine cx_dup hE d_Mo_caseOf_114 ?_
                  refine cx_get hE d_Mo_caseOf_115 f_Mo_193 (by assumption) (by rfl) ?_
                  refine cx_iconst (v := 1) hE d_Mo_caseOf_118 (by decide) ?_
                  refine cx_iadd hE d_Mo_caseOf_119 ?_
                  refine cx_putg hE d_Mo_caseOf_120 f_Mo_193 (by assumption) (Nat.le_of_ble_eq_true rfl) (by first | rfl | exact cx_nr _ _) (by first | rfl | exact cx_fr _ _) (fun G_120 g_120 h_120 => ?_)
                  rw [rm_s8] at g_120
                  clear h_120
                  have W_120 : rm_W k mo b G P G_120 P_103 (rp_i M_103 1) := W_103.pi g_120
                  have m_120 := W_120.1.1
                  refine cx_aload_n (i := 0) hE d_Mo_caseOf_123 rfl rfl ?_
                  refine cx_wR hE d_Mo_caseOf_124 l_Mo_216 W_120 (s_kind W_120.1 K_103) rfl (by omega) (Nat.le_of_ble_eq_true rfl) n_Mo_kind (by first | rfl | (simp only [List.map_cons, List.map_nil, cx_rfc]; rfl)) (fun v_124 K_124 => ?_)
                  refine cx_bipush (v := 44) hE d_Mo_caseOf_127 (by decide) ?_
                  refine cx_icmp_ne (tgt := 136)  hE d_Mo_caseOf_129 (by decide) (fun c_129 => ?_) (fun c_129 => ?_)
                  · refine cx_iconst (v := 0) hE d_Mo_caseOf_136 (by decide) ?_
                    refine cx_istore hE d_Mo_caseOf_137 (by decide) ?_
                    refine cx_aload_n (i := 0) hE d_Mo_caseOf_139 rfl rfl ?_
                    refine cx_dup hE d_Mo_caseOf_140 ?_
                    refine cx_get hE d_Mo_caseOf_141 f_Mo_193 (by assumption) (by rfl) ?_
                    refine cx_iconst (v := 1) hE d_Mo_caseOf_144 (by decide) ?_
                    refine cx_iadd hE d_Mo_caseOf_145 ?_
                    refine cx_putg hE d_Mo_caseOf_146 f_Mo_193 (by assumption) (Nat.le_of_ble_eq_true rfl) (by first | rfl | exact cx_nr _ _) (by first | rfl | exact cx_fr _ _) (fun G_146 g_146 h_146 => ?_)
                    rw [rm_s8] at g_146
                    clear h_146
                    have W_146 : rm_W k mo b G P G_146 P_103 (rp_i (rp_i M_103 1) 1) := W_120.pi g_146
                    have m_146 := W_146.1.1
                    refine cx_goto (tgt := 42) hE d_Mo_caseOf_149 (by decide) ?_
                    refine cx_sub [0, 1, 2, 3, 4] rfl ?_
                    rw [decide_eq_false c_129] at K_124
                    exact ih2 false _ _ _ _ W_146 K_124
                  · refine cx_iconst (v := 1) hE d_Mo_caseOf_132 (by decide) ?_
                    refine cx_goto (tgt := 137) hE d_Mo_caseOf_133 (by decide) ?_
                    refine cx_istore hE d_Mo_caseOf_137 (by decide) ?_
                    refine cx_aload_n (i := 0) hE d_Mo_caseOf_139 rfl rfl ?_
                    refine cx_dup hE d_Mo_caseOf_140 ?_
                    refine cx_get hE d_Mo_caseOf_141 f_Mo_193 (by assumption) (by rfl) ?_
                    refine cx_iconst (v := 1) hE d_Mo_caseOf_144 (by decide) ?_
                    refine cx_iadd hE d_Mo_caseOf_145 ?_
                    refine cx_putg hE d_Mo_caseOf_146 f_Mo_193 (by assumption) (Nat.le_of_ble_eq_true rfl) (by first | rfl | exact cx_nr _ _) (by first | rfl | exact cx_fr _ _) (fun G_146 g_146 h_146 => ?_)
                    rw [rm_s8] at g_146
                    clear h_146
                    have W_146 : rm_W k mo b G P G_146 P_103 (rp_i (rp_i M_103 1) 1) := W_120.pi g_146
                    have m_146 := W_146.1.1
                    refine cx_goto (tgt := 42) hE d_Mo_caseOf_149 (by decide) ?_
                    refine cx_sub [0, 1, 2, 3, 4] rfl ?_
                    rw [decide_eq_true c_129] at K_124
                    exact ih2 true _ _ _ _ W_146 K_124
                refine cx_iload_n (i := 1) hE d_Mo_caseOf_62 rfl rfl ?_
                refine cx_icmp_eq (tgt := 81)  hE d_Mo_caseOf_63 (by decide) (fun c_63 => ?_) (fun c_63 => ?_)
                · refine cx_sub [0, 1, 2, 3, 4] rfl ?_
                  exact h81 _ _ (by rw [if_pos c_63]; exact Wy)
                · refine cx_aload_n (i := 0) hE d_Mo_caseOf_66 rfl rfl ?_
                  refine cx_bipush (v := 30) hE d_Mo_caseOf_67 (by decide) ?_
                  refine cx_aload_n (i := 0) hE d_Mo_caseOf_69 rfl rfl ?_
                  refine cx_get hE d_Mo_caseOf_70 f_Mo_19 (by assumption) (by rfl) ?_
                  refine cx_aload_n (i := 0) hE d_Mo_caseOf_73 rfl rfl ?_
                  refine cx_get hE d_Mo_caseOf_74 f_Mo_193 (by assumption) (by rfl) ?_
                  rw [e_59]
                  refine cx_iald 1 hE d_Mo_caseOf_77 rfl (Wy.1.i 5 rfl) (vp_in_nI (by show _ < 65540; omega) (by show 65540 < 2147483648; omega)) ?_
                  rw [nI_clamp (by omega)]
                  refine cx_w0 hE d_Mo_caseOf_78 l_Mo_196 Wy (s_fail (K := fun Mq9 => Mq9 = rm_fail _ _ My) Wy.1 Wy.2.2 rfl) rfl (by omega) (Nat.le_of_ble_eq_true rfl) n_Mo_fail (by first | rfl | (simp only [List.map_cons, List.map_nil, cx_rfc]; rfl)) (fun G_78 P_78 M_78 W_78 K_78 => ?_)
                  have m_78 := W_78.1.1
                  refine cx_sub [0, 1, 2, 3, 4] rfl ?_
                  exact h81 _ _ (by rw [if_neg c_63]; subst K_78; exact W_78)
        refine cx_iconst (v := -1) hE d_Mo_caseOf_37 (by decide) ?_
        refine cx_istore_n (i := 3) hE d_Mo_caseOf_38 rfl (by decide) ?_
        refine cx_iconst (v := 1) hE d_Mo_caseOf_39 (by decide) ?_
        refine cx_istore hE d_Mo_caseOf_40 (by decide) ?_
        refine cx_sub [0, 1, 2, 3, 4] rfl ?_
        exact hcvl _ true _ _ _ _ Wx K_34
  refine cx_aload_n (i := 0) hE d_Mo_caseOf_0 rfl rfl ?_
  refine cx_aload_n (i := 0) hE d_Mo_caseOf_1 rfl rfl ?_
  refine cx_get hE d_Mo_caseOf_2 f_Mo_193 (by assumption) (by rfl) ?_
  refine cx_iconst (v := 2) hE d_Mo_caseOf_5 (by decide) ?_
  refine cx_iadd hE d_Mo_caseOf_6 ?_
  refine cx_putg hE d_Mo_caseOf_7 f_Mo_193 (by assumption) (Nat.le_of_ble_eq_true rfl) (by first | rfl | exact cx_nr _ _) (by first | rfl | exact cx_fr _ _) (fun G_7 g_7 h_7 => ?_)
  rw [rm_s8] at g_7
  clear h_7
  have W_7 : rm_W k mo b G P G_7 P (rp_i M 2) := W0.pi g_7
  have m_7 := W_7.1.1
  refine cx_aload_n (i := 0) hE d_Mo_caseOf_10 rfl rfl ?_
  refine cx_wP hE d_Mo_caseOf_11 l_Mo_288 W_7 (c_Mo_exp _ _ _ _ W_7.1 W_7.2.2 hK) rfl (by omega) (Nat.le_of_ble_eq_true rfl) n_Mo_exp (by first | rfl | (simp only [List.map_cons, List.map_nil, cx_rfc]; rfl)) (fun v_11 G_11 P_11 M_11 W_11 K_11 => ?_)
  have m_11 := W_11.1.1
  refine cx_istore_n (i := 1) hE d_Mo_caseOf_14 rfl (by decide) ?_
  refine cx_aload_n (i := 0) hE d_Mo_caseOf_15 rfl rfl ?_
  refine cx_dup hE d_Mo_caseOf_16 ?_
  refine cx_get hE d_Mo_caseOf_17 f_Mo_193 (by assumption) (by rfl) ?_
  refine cx_iconst (v := 1) hE d_Mo_caseOf_20 (by decide) ?_
  refine cx_iadd hE d_Mo_caseOf_21 ?_
  refine cx_putg hE d_Mo_caseOf_22 f_Mo_193 (by assumption) (Nat.le_of_ble_eq_true rfl) (by first | rfl | exact cx_nr _ _) (by first | rfl | exact cx_fr _ _) (fun G_22 g_22 h_22 => ?_)
  rw [rm_s8] at g_22
  clear h_22
  have W_22 : rm_W k mo b G P G_22 P_11 (rp_i M_11 1) := W_11.pi g_22
  have m_22 := W_22.1.1
  refine cx_iconst (v := -1) hE d_Mo_caseOf_25 (by decide) ?_
  refine cx_istore_n (i := 2) hE d_Mo_caseOf_26 rfl (by decide) ?_
  refine cx_sub [0, 1, 2] rfl ?_
  exact hcas _ _ _ _ _ _ W_22 K_11
set_option maxRecDepth 100000 in
theorem c_Mo_statement1 {k : cx_K} {l : Launch} {G : cx_G} {N : Nat} {mo : Nat} {P : Nat → Nat} {M : rm_M} {b : Nat × Nat} {S : rp_S} {fs : Nat} (hS : rp_XS k l mo b S fs) (hfs : 312 ≤ fs) (hm : rm_R k G mo P M) (hQ : rm_Q b G M) {K : rm_M → Prop} (hK : rp_st1 N S K M)  : cx_Sp k l m_Mo_statement (fs + 2) [.ref mo] G (rp_P0 k mo b G P K) := by
  intro E hE
  have W0 := rm_W.rf hm hQ
  have m0 := hm.1
  have hblk : ∀ (n : Nat) (Gx : cx_G) (Px : Nat → Nat) (Mx : rm_M), rm_W k mo b G P Gx Px Mx → rp_blk S (fun Mq => K (rp_i Mq 1)) n Mx → cx_V E 28 [(0, false, .ref mo)] [] Gx := by
    intro n
    induction n with
    | zero => intro Gx Px Mx _ h; exact h.elim
    | succ n ih =>
      intro Gx Px Mx Wx hK
      have mx := Wx.1.1
      unfold rp_blk at hK
      refine cx_aload_n (i := 0) hE d_Mo_statement_28 rfl rfl ?_
      refine cx_get hE d_Mo_statement_29 f_Mo_187 (by assumption) (by rfl) ?_
      refine cx_if_ne (tgt := 52)  hE d_Mo_statement_32 (by decide) (fun c_32 => ?_) (fun c_32 => ?_)
      · have K_32 := rp_ifn hK c_32
        refine cx_aload_n (i := 0) hE d_Mo_statement_52 rfl rfl ?_
        refine cx_dup hE d_Mo_statement_53 ?_
        refine cx_get hE d_Mo_statement_54 f_Mo_193 (by assumption) (by rfl) ?_
        refine cx_iconst (v := 1) hE d_Mo_statement_57 (by decide) ?_
        refine cx_iadd hE d_Mo_statement_58 ?_
        refine cx_putg hE d_Mo_statement_59 f_Mo_193 (by assumption) (Nat.le_of_ble_eq_true rfl) (by first | rfl | exact cx_nr _ _) (by first | rfl | exact cx_fr _ _) (fun G_59 g_59 h_59 => ?_)
        rw [rm_s8] at g_59
        clear h_59
        have W_59 : rm_W k mo b G P G_59 Px (rp_i Mx 1) := Wx.pi g_59
        have m_59 := W_59.1.1
        refine cx_goto (tgt := 221) hE d_Mo_statement_62 (by decide) ?_
        refine cx_vret hE d_Mo_statement_221 rfl ?_
        exact ⟨_, _, rfl, W_59, K_32⟩
      · have K_32 := rp_ifp hK c_32
        refine cx_aload_n (i := 0) hE d_Mo_statement_35 rfl rfl ?_
        refine cx_wR hE d_Mo_statement_36 l_Mo_216 Wx (s_kind Wx.1 K_32) rfl (by omega) (Nat.le_of_ble_eq_true rfl) n_Mo_kind (by first | rfl | (simp only [List.map_cons, List.map_nil, cx_rfc]; rfl)) (fun v_36 K_36 => ?_)
        refine cx_sipush (v := 311) hE d_Mo_statement_39 (by decide) ?_
        refine cx_icmp_eq (tgt := 52)  hE d_Mo_statement_42 (by decide) (fun c_42 => ?_) (fun c_42 => ?_)
        · have K_42 := rp_ifp K_36 c_42
          refine cx_aload_n (i := 0) hE d_Mo_statement_52 rfl rfl ?_
          refine cx_dup hE d_Mo_statement_53 ?_
          refine cx_get hE d_Mo_statement_54 f_Mo_193 (by assumption) (by rfl) ?_
          refine cx_iconst (v := 1) hE d_Mo_statement_57 (by decide) ?_
          refine cx_iadd hE d_Mo_statement_58 ?_
          refine cx_putg hE d_Mo_statement_59 f_Mo_193 (by assumption) (Nat.le_of_ble_eq_true rfl) (by first | rfl | exact cx_nr _ _) (by first | rfl | exact cx_fr _ _) (fun G_59 g_59 h_59 => ?_)
          rw [rm_s8] at g_59
          clear h_59
          have W_59 : rm_W k mo b G P G_59 Px (rp_i Mx 1) := Wx.pi g_59
          have m_59 := W_59.1.1
          refine cx_goto (tgt := 221) hE d_Mo_statement_62 (by decide) ?_
          refine cx_vret hE d_Mo_statement_221 rfl ?_
          exact ⟨_, _, rfl, W_59, K_42⟩
        · have K_42 := rp_ifn K_36 c_42
          refine cx_aload_n (i := 0) hE d_Mo_statement_45 rfl rfl ?_
          refine cx_w0 hE d_Mo_statement_46 l_Mo_350 Wx (hS _ _ _ _ Wx.1 Wx.2.2 K_42) rfl (by omega) (Nat.le_of_ble_eq_true rfl) n_Mo_statement (by first | rfl | (simp only [List.map_cons, List.map_nil, cx_rfc]; rfl)) (fun G_46 P_46 M_46 W_46 K_46 => ?_)
          have m_46 := W_46.1.1
          refine cx_goto (tgt := 28) hE d_Mo_statement_49 (by decide) ?_
          refine cx_sub [0] rfl ?_
          exact ih _ _ _ W_46 K_46
  refine cx_aload_n (i := 0) hE d_Mo_statement_0 rfl rfl ?_
  refine cx_get hE d_Mo_statement_1 f_Mo_187 (by assumption) (by rfl) ?_
  refine cx_if_eq (tgt := 8)  hE d_Mo_statement_4 (by decide) (fun c_4 => ?_) (fun c_4 => ?_)
  · have K_4 := rp_ifp hK c_4
    refine cx_aload_n (i := 0) hE d_Mo_statement_8 rfl rfl ?_
    obtain ⟨i_9, e_9, l_9, K_9⟩ := K_4
    refine cx_invV1 hE d_Mo_statement_9 l_Mo_216 W0.1.1 (c_Mo_kind W0.1 (i := i_9) e_9 l_9) rfl (by omega) (Nat.le_of_ble_eq_true rfl) n_Mo_kind (by rfl) ?_
    refine cx_sipush (v := 310) hE d_Mo_statement_12 (by decide) ?_
    refine cx_icmp_ne (tgt := 65)  hE d_Mo_statement_15 (by decide) (fun c_15 => ?_) (fun c_15 => ?_)
    · have K_15 := rp_ifn K_9 c_15
      refine cx_aload_n (i := 0) hE d_Mo_statement_65 rfl rfl ?_
      refine cx_invV1 hE d_Mo_statement_66 l_Mo_216 W0.1.1 (c_Mo_kind W0.1 (i := i_9) e_9 l_9) rfl (by omega) (Nat.le_of_ble_eq_true rfl) n_Mo_kind (by rfl) ?_
      refine cx_sipush (v := 312) hE d_Mo_statement_69 (by decide) ?_
      refine cx_icmp_ne (tgt := 200)  hE d_Mo_statement_72 (by decide) (fun c_72 => ?_) (fun c_72 => ?_)
      · have K_72 := rp_ifn K_15 c_72
        refine cx_aload_n (i := 0) hE d_Mo_statement_200 rfl rfl ?_
        refine cx_invV1 hE d_Mo_statement_201 l_Mo_216 W0.1.1 (c_Mo_kind W0.1 (i := i_9) e_9 l_9) rfl (by omega) (Nat.le_of_ble_eq_true rfl) n_Mo_kind (by rfl) ?_
        refine cx_sipush (v := 314) hE d_Mo_statement_204 (by decide) ?_
        refine cx_icmp_ne (tgt := 217)  hE d_Mo_statement_207 (by decide) (fun c_207 => ?_) (fun c_207 => ?_)
        · have K_207 := rp_ifn K_72 c_207
          refine cx_aload_n (i := 0) hE d_Mo_statement_217 rfl rfl ?_
          refine cx_w0 hE d_Mo_statement_218 l_Mo_356 W0 (c_Mo_setting W0.1 W0.2.2 K_207) rfl (by omega) (Nat.le_of_ble_eq_true rfl) n_Mo_setting (by first | rfl | (simp only [List.map_cons, List.map_nil, cx_rfc]; rfl)) (fun G_218 P_218 M_218 W_218 K_218 => ?_)
          have m_218 := W_218.1.1
          refine cx_vret hE d_Mo_statement_221 rfl ?_
          exact ⟨_, _, rfl, W_218, K_218⟩
        · have K_207 := rp_ifp K_72 c_207
          refine cx_aload_n (i := 0) hE d_Mo_statement_210 rfl rfl ?_
          refine cx_w0 hE d_Mo_statement_211 l_Mo_353 W0 (c_Mo_caseOf hS hfs W0.1 W0.2.2 K_207) rfl (by omega) (Nat.le_of_ble_eq_true rfl) n_Mo_caseOf (by first | rfl | (simp only [List.map_cons, List.map_nil, cx_rfc]; rfl)) (fun G_211 P_211 M_211 W_211 K_211 => ?_)
          have m_211 := W_211.1.1
          refine cx_goto (tgt := 221) hE d_Mo_statement_214 (by decide) ?_
          refine cx_vret hE d_Mo_statement_221 rfl ?_
          exact ⟨_, _, rfl, W_211, K_211⟩
      · have K_72 := rp_ifp K_15 c_72
        refine cx_aload_n (i := 0) hE d_Mo_statement_75 rfl rfl ?_
        refine cx_aload_n (i := 0) hE d_Mo_statement_76 rfl rfl ?_
        refine cx_get hE d_Mo_statement_77 f_Mo_193 (by assumption) (by rfl) ?_
        refine cx_iconst (v := 2) hE d_Mo_statement_80 (by decide) ?_
        refine cx_iadd hE d_Mo_statement_81 ?_
        refine cx_putg hE d_Mo_statement_82 f_Mo_193 (by assumption) (Nat.le_of_ble_eq_true rfl) (by first | rfl | exact cx_nr _ _) (by first | rfl | exact cx_fr _ _) (fun G_82 g_82 h_82 => ?_)
        rw [rm_s8] at g_82
        clear h_82
        have W_82 : rm_W k mo b G P G_82 P (rp_i M 2) := W0.pi g_82
        have m_82 := W_82.1.1
        refine cx_aload_n (i := 0) hE d_Mo_statement_85 rfl rfl ?_
        refine cx_aload_n (i := 0) hE d_Mo_statement_86 rfl rfl ?_
        refine cx_wP hE d_Mo_statement_87 l_Mo_288 W_82 (c_Mo_exp _ _ _ _ W_82.1 W_82.2.2 K_72) rfl (by omega) (Nat.le_of_ble_eq_true rfl) n_Mo_exp (by first | rfl | (simp only [List.map_cons, List.map_nil, cx_rfc]; rfl)) (fun v_87 G_87 P_87 M_87 W_87 K_87 => ?_)
        have m_87 := W_87.1.1
        refine cx_i2l hE d_Mo_statement_90 ?_
        refine cx_w0 hE d_Mo_statement_91 l_Mo_291 W_87 (s_cost W_87.1 W_87.2.2 K_87) rfl (by omega) (Nat.le_of_ble_eq_true rfl) n_Mo_cost (by first | rfl | (simp only [List.map_cons, List.map_nil, cx_rfc]; rfl)) (fun G_91 P_91 M_91 W_91 K_91 => ?_)
        have m_91 := W_91.1.1
        obtain ⟨x_91, e_91, K_91b⟩ := K_91
        refine cx_aload_n (i := 0) hE d_Mo_statement_94 rfl rfl ?_
        refine cx_dup hE d_Mo_statement_95 ?_
        refine cx_get hE d_Mo_statement_96 f_Mo_193 (by assumption) (by rfl) ?_
        refine cx_iconst (v := 1) hE d_Mo_statement_99 (by decide) ?_
        refine cx_iadd hE d_Mo_statement_100 ?_
        refine cx_putg hE d_Mo_statement_101 f_Mo_193 (by assumption) (Nat.le_of_ble_eq_true rfl) (by first | rfl | exact cx_nr _ _) (by first | rfl | exact cx_fr _ _) (fun G_101 g_101 h_101 => ?_)
        rw [rm_s8] at g_101
        clear h_101
        have W_101 : rm_W k mo b G P G_101 P_91 (rp_i M_91 1) := W_91.pi g_101
        have m_101 := W_101.1.1
        refine cx_aload_n (i := 0) hE d_Mo_statement_104 rfl rfl ?_
        refine cx_get hE d_Mo_statement_105 f_Mo_279 (by assumption) (by rfl) ?_
        rw [show (rp_i M_91 1).1 42 = nI x_91 from e_91]
        refine cx_istore_n (i := 1) hE d_Mo_statement_108 rfl (by decide) ?_
        refine cx_aload_n (i := 0) hE d_Mo_statement_109 rfl rfl ?_
        refine cx_bipush (v := 10) hE d_Mo_statement_110 (by decide) ?_
        refine cx_iconst (v := 0) hE d_Mo_statement_112 (by decide) ?_
        refine cx_iconst (v := 0) hE d_Mo_statement_113 (by decide) ?_
        refine cx_w0 hE d_Mo_statement_114 l_Mo_295 W_101 (s_lay W_101.1 W_101.2.2 K_91b) rfl (by omega) (Nat.le_of_ble_eq_true rfl) n_Mo_lay (by first | rfl | (simp only [List.map_cons, List.map_nil, cx_rfc]; rfl)) (fun G_114 P_114 M_114 W_114 K_114 => ?_)
        have m_114 := W_114.1.1
        refine cx_aload_n (i := 0) hE d_Mo_statement_117 rfl rfl ?_
        refine cx_w0 hE d_Mo_statement_118 l_Mo_350 W_114 (hS _ _ _ _ W_114.1 W_114.2.2 K_114) rfl (by omega) (Nat.le_of_ble_eq_true rfl) n_Mo_statement (by first | rfl | (simp only [List.map_cons, List.map_nil, cx_rfc]; rfl)) (fun G_118 P_118 M_118 W_118 K_118 => ?_)
        have m_118 := W_118.1.1
        refine cx_aload_n (i := 0) hE d_Mo_statement_121 rfl rfl ?_
        refine cx_sipush (v := 313) hE d_Mo_statement_122 (by decide) ?_
        refine cx_wR hE d_Mo_statement_125 l_Mo_203 W_118 (s_is W_118.1 K_118) rfl (by omega) (Nat.le_of_ble_eq_true rfl) n_Mo_is (by first | rfl | (simp only [List.map_cons, List.map_nil, cx_rfc]; rfl)) (fun v_125 K_125 => ?_)
        obtain ⟨b_125, rfl, K_125⟩ := K_125
        refine cx_if_eq (tgt := 185)  hE d_Mo_statement_128 (by decide) (fun c_128 => ?_) (fun c_128 => ?_)
        · have K_128 := rp_ifn K_125 (by rw [cx_b0.mp c_128]; decide)
          refine cx_aload_n (i := 0) hE d_Mo_statement_185 rfl rfl ?_
          refine cx_get hE d_Mo_statement_186 f_Mo_95 (by assumption) (by rfl) ?_
          refine cx_iload_n (i := 1) hE d_Mo_statement_189 rfl rfl ?_
          refine cx_iconst (v := 1) hE d_Mo_statement_190 (by decide) ?_
          refine cx_iadd hE d_Mo_statement_191 ?_
          rw [nI_1]
          refine cx_aload_n (i := 0) hE d_Mo_statement_192 rfl rfl ?_
          refine cx_get hE d_Mo_statement_193 f_Mo_279 (by assumption) (by rfl) ?_
          obtain ⟨l_196, K_196⟩ := K_128
          refine cx_iast 1 hE d_Mo_statement_196 rfl (W_118.1.i 41 rfl) (vp_in_nI (by show _ < M_118.2.2.2.1; omega) (by show M_118.2.2.2.1 < 2147483648; have := W_118.2.2.2.2.2.1; omega)) ?_
          rw [nI_clamp (by have := W_118.2.2.2.2.2.1; omega)]
          refine cx_gen (fun G_196 g_196 => ?_)
          have W_196 : rm_W k mo b G P G_196 P_118 (rp_set M_118 41 (x_91 + 1) (M_118.1 42)) := W_118.si 41 rfl g_196
          have m_196 := W_196.1.1
          refine cx_goto (tgt := 221) hE d_Mo_statement_197 (by decide) ?_
          refine cx_vret hE d_Mo_statement_221 rfl ?_
          exact ⟨_, _, rfl, W_196, K_196⟩
        · have K_128 := rp_ifp K_125 (cx_bn.mp c_128)
          obtain ⟨y_131, e_131, K_131⟩ := K_128
          refine cx_aload_n (i := 0) hE d_Mo_statement_131 rfl rfl ?_
          refine cx_dup hE d_Mo_statement_132 ?_
          refine cx_get hE d_Mo_statement_133 f_Mo_193 (by assumption) (by rfl) ?_
          refine cx_iconst (v := 1) hE d_Mo_statement_136 (by decide) ?_
          refine cx_iadd hE d_Mo_statement_137 ?_
          refine cx_putg hE d_Mo_statement_138 f_Mo_193 (by assumption) (Nat.le_of_ble_eq_true rfl) (by first | rfl | exact cx_nr _ _) (by first | rfl | exact cx_fr _ _) (fun G_138 g_138 h_138 => ?_)
          rw [rm_s8] at g_138
          clear h_138
          have W_138 : rm_W k mo b G P G_138 P_118 (rp_i M_118 1) := W_118.pi g_138
          have m_138 := W_138.1.1
          refine cx_aload_n (i := 0) hE d_Mo_statement_141 rfl rfl ?_
          refine cx_get hE d_Mo_statement_142 f_Mo_279 (by assumption) (by rfl) ?_
          rw [show (rp_i M_118 1).1 42 = nI y_131 from e_131]
          refine cx_istore_n (i := 2) hE d_Mo_statement_145 rfl (by decide) ?_
          refine cx_aload_n (i := 0) hE d_Mo_statement_146 rfl rfl ?_
          refine cx_bipush (v := 11) hE d_Mo_statement_147 (by decide) ?_
          refine cx_iconst (v := 0) hE d_Mo_statement_149 (by decide) ?_
          refine cx_iconst (v := 0) hE d_Mo_statement_150 (by decide) ?_
          refine cx_w0 hE d_Mo_statement_151 l_Mo_295 W_138 (s_lay W_138.1 W_138.2.2 K_131) rfl (by omega) (Nat.le_of_ble_eq_true rfl) n_Mo_lay (by first | rfl | (simp only [List.map_cons, List.map_nil, cx_rfc]; rfl)) (fun G_151 P_151 M_151 W_151 K_151 => ?_)
          have m_151 := W_151.1.1
          refine cx_aload_n (i := 0) hE d_Mo_statement_154 rfl rfl ?_
          refine cx_get hE d_Mo_statement_155 f_Mo_95 (by assumption) (by rfl) ?_
          refine cx_iload_n (i := 1) hE d_Mo_statement_158 rfl rfl ?_
          refine cx_iconst (v := 1) hE d_Mo_statement_159 (by decide) ?_
          refine cx_iadd hE d_Mo_statement_160 ?_
          rw [nI_1]
          refine cx_aload_n (i := 0) hE d_Mo_statement_161 rfl rfl ?_
          refine cx_get hE d_Mo_statement_162 f_Mo_279 (by assumption) (by rfl) ?_
          obtain ⟨l_165, K_165⟩ := K_151
          refine cx_iast 1 hE d_Mo_statement_165 rfl (W_151.1.i 41 rfl) (vp_in_nI (by show _ < M_151.2.2.2.1; omega) (by show M_151.2.2.2.1 < 2147483648; have := W_151.2.2.2.2.2.1; omega)) ?_
          rw [nI_clamp (by have := W_151.2.2.2.2.2.1; omega)]
          refine cx_gen (fun G_165 g_165 => ?_)
          have W_165 : rm_W k mo b G P G_165 P_151 (rp_set M_151 41 (x_91 + 1) (M_151.1 42)) := W_151.si 41 rfl g_165
          have m_165 := W_165.1.1
          refine cx_aload_n (i := 0) hE d_Mo_statement_166 rfl rfl ?_
          refine cx_w0 hE d_Mo_statement_167 l_Mo_350 W_165 (hS _ _ _ _ W_165.1 W_165.2.2 K_165) rfl (by omega) (Nat.le_of_ble_eq_true rfl) n_Mo_statement (by first | rfl | (simp only [List.map_cons, List.map_nil, cx_rfc]; rfl)) (fun G_167 P_167 M_167 W_167 K_167 => ?_)
          have m_167 := W_167.1.1
          refine cx_aload_n (i := 0) hE d_Mo_statement_170 rfl rfl ?_
          refine cx_get hE d_Mo_statement_171 f_Mo_95 (by assumption) (by rfl) ?_
          refine cx_iload_n (i := 2) hE d_Mo_statement_174 rfl rfl ?_
          refine cx_iconst (v := 1) hE d_Mo_statement_175 (by decide) ?_
          refine cx_iadd hE d_Mo_statement_176 ?_
          rw [nI_1]
          refine cx_aload_n (i := 0) hE d_Mo_statement_177 rfl rfl ?_
          refine cx_get hE d_Mo_statement_178 f_Mo_279 (by assumption) (by rfl) ?_
          obtain ⟨l_181, K_181⟩ := K_167
          refine cx_iast 1 hE d_Mo_statement_181 rfl (W_167.1.i 41 rfl) (vp_in_nI (by show _ < M_167.2.2.2.1; omega) (by show M_167.2.2.2.1 < 2147483648; have := W_167.2.2.2.2.2.1; omega)) ?_
          rw [nI_clamp (by have := W_167.2.2.2.2.2.1; omega)]
          refine cx_gen (fun G_181 g_181 => ?_)
          have W_181 : rm_W k mo b G P G_181 P_167 (rp_set M_167 41 (y_131 + 1) (M_167.1 42)) := W_167.si 41 rfl g_181
          have m_181 := W_181.1.1
          refine cx_goto (tgt := 197) hE d_Mo_statement_182 (by decide) ?_
          refine cx_goto (tgt := 221) hE d_Mo_statement_197 (by decide) ?_
          refine cx_vret hE d_Mo_statement_221 rfl ?_
          exact ⟨_, _, rfl, W_181, K_181⟩
    · have K_15 := rp_ifp K_9 c_15
      refine cx_aload_n (i := 0) hE d_Mo_statement_18 rfl rfl ?_
      refine cx_dup hE d_Mo_statement_19 ?_
      refine cx_get hE d_Mo_statement_20 f_Mo_193 (by assumption) (by rfl) ?_
      refine cx_iconst (v := 1) hE d_Mo_statement_23 (by decide) ?_
      refine cx_iadd hE d_Mo_statement_24 ?_
      refine cx_putg hE d_Mo_statement_25 f_Mo_193 (by assumption) (Nat.le_of_ble_eq_true rfl) (by first | rfl | exact cx_nr _ _) (by first | rfl | exact cx_fr _ _) (fun G_25 g_25 h_25 => ?_)
      rw [rm_s8] at g_25
      clear h_25
      have W_25 : rm_W k mo b G P G_25 P (rp_i M 1) := W0.pi g_25
      have m_25 := W_25.1.1
      refine cx_sub [0] rfl ?_
      exact hblk _ _ _ _ W_25 K_15
  · have K_4 := rp_ifn hK c_4
    refine cx_vret hE d_Mo_statement_7 rfl ?_
    exact ⟨_, _, rfl, W0, K_4⟩
theorem c_Mo_stf {k : cx_K} {l : Launch} {mo : Nat} {b : Nat × Nat} {N : Nat} : ∀ m, rp_XS k l mo b (rp_stf N m) (2 * m + 312) := by
  intro m
  induction m with
  | zero => intro G P M K _ _ h; exact h.elim
  | succ m ih =>
    intro G P M K hm hQ hK
    exact (c_Mo_statement1 ih (by omega) hm hQ hK).more (by omega)
theorem c_Mo_statement {k : cx_K} {l : Launch} {mo : Nat} {b : Nat × Nat} {N : Nat} : rp_XS k l mo b (rp_stm N) 434 := c_Mo_stf 61

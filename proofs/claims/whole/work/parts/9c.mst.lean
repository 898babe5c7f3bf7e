/-! THE SECOND PASS: statements, step by step. -/
def rp_XS (k : cx_K) (l : Launch) (mo : Nat) (b : Nat × Nat) (S : rp_S) (fs : Nat) : Prop := ∀ (G : cx_G) (P : Nat → Nat) (M : rm_M) (K : rm_M → Prop), rm_R k G mo P M → rm_Q b G M → S K M → cx_Sp k l m_Mo_statement fs [.ref mo] G (rp_P0 k mo b G P K)
set_option maxRecDepth 100000 in
theorem c_Mo_isRegister {k : cx_K} {l : Launch} {G : cx_G} {mo : Nat} {P : Nat → Nat} {M : rm_M} {b : Nat × Nat} (hm : rm_R k G mo P M) (hQ : rm_Q b G M) {j : Nat} (hj : j < 11000)  : cx_Sp k l m_Mo_isRegister 0 [.ref mo, .int (nI j)] G (rp_R G (fun v => v = cx_b (decide (M.2.1 21 j = 2 ∨ M.2.1 21 j = 4)))) := by
  intro E hE
  have W0 := rm_W.rf hm hQ
  have m0 := hm.1
  refine cx_aload_n (i := 0) hE d_Mo_isRegister_0 rfl rfl ?_
  refine cx_get hE d_Mo_isRegister_1 f_Mo_46 (by assumption) (by rfl) ?_
  refine cx_iload_n (i := 1) hE d_Mo_isRegister_4 rfl rfl ?_
  refine cx_iald 1 hE d_Mo_isRegister_5 rfl (W0.1.i 21 rfl) (vp_in_nI (by show _ < 11000; omega) (by show 11000 < 2147483648; omega)) ?_
  rw [nI_clamp (by omega)]
  refine cx_iconst (v := 2) hE d_Mo_isRegister_6 (by decide) ?_
  refine cx_icmp_eq (tgt := 20)  hE d_Mo_isRegister_7 (by decide) (fun c_7 => ?_) (fun c_7 => ?_)
  · refine cx_iconst (v := 1) hE d_Mo_isRegister_20 (by decide) ?_
    refine cx_goto (tgt := 25) hE d_Mo_isRegister_21 (by decide) ?_
    refine cx_iret hE d_Mo_isRegister_25 rfl rfl ?_
    exact ⟨_, rfl, rfl, by rw [decide_eq_true (Or.inl c_7)]; rfl⟩
  · refine cx_aload_n (i := 0) hE d_Mo_isRegister_10 rfl rfl ?_
    refine cx_get hE d_Mo_isRegister_11 f_Mo_46 (by assumption) (by rfl) ?_
    refine cx_iload_n (i := 1) hE d_Mo_isRegister_14 rfl rfl ?_
    refine cx_iald 1 hE d_Mo_isRegister_15 rfl (W0.1.i 21 rfl) (vp_in_nI (by show _ < 11000; omega) (by show 11000 < 2147483648; omega)) ?_
    rw [nI_clamp (by omega)]
    refine cx_iconst (v := 4) hE d_Mo_isRegister_16 (by decide) ?_
    refine cx_icmp_ne (tgt := 24)  hE d_Mo_isRegister_17 (by decide) (fun c_17 => ?_) (fun c_17 => ?_)
    · refine cx_iconst (v := 0) hE d_Mo_isRegister_24 (by decide) ?_
      refine cx_iret hE d_Mo_isRegister_25 rfl rfl ?_
      exact ⟨_, rfl, rfl, by rw [decide_eq_false (fun z => z.elim c_7 c_17)]; rfl⟩
    · refine cx_iconst (v := 1) hE d_Mo_isRegister_20 (by decide) ?_
      refine cx_goto (tgt := 25) hE d_Mo_isRegister_21 (by decide) ?_
      refine cx_iret hE d_Mo_isRegister_25 rfl rfl ?_
      exact ⟨_, rfl, rfl, by rw [decide_eq_true (Or.inr c_17)]; rfl⟩
set_option maxRecDepth 100000 in
theorem c_Mo_isDriven {k : cx_K} {l : Launch} {G : cx_G} {mo : Nat} {P : Nat → Nat} {M : rm_M} {b : Nat × Nat} (hm : rm_R k G mo P M) (hQ : rm_Q b G M) {j : Nat} (hj : j < 11000)  : cx_Sp k l m_Mo_isDriven 0 [.ref mo, .int (nI j)] G (rp_R G (fun v => v = cx_b (decide (M.2.1 21 j = 1 ∨ M.2.1 21 j = 3)))) := by
  intro E hE
  have W0 := rm_W.rf hm hQ
  have m0 := hm.1
  refine cx_aload_n (i := 0) hE d_Mo_isDriven_0 rfl rfl ?_
  refine cx_get hE d_Mo_isDriven_1 f_Mo_46 (by assumption) (by rfl) ?_
  refine cx_iload_n (i := 1) hE d_Mo_isDriven_4 rfl rfl ?_
  refine cx_iald 1 hE d_Mo_isDriven_5 rfl (W0.1.i 21 rfl) (vp_in_nI (by show _ < 11000; omega) (by show 11000 < 2147483648; omega)) ?_
  rw [nI_clamp (by omega)]
  refine cx_iconst (v := 1) hE d_Mo_isDriven_6 (by decide) ?_
  refine cx_icmp_eq (tgt := 20)  hE d_Mo_isDriven_7 (by decide) (fun c_7 => ?_) (fun c_7 => ?_)
  · refine cx_iconst (v := 1) hE d_Mo_isDriven_20 (by decide) ?_
    refine cx_goto (tgt := 25) hE d_Mo_isDriven_21 (by decide) ?_
    refine cx_iret hE d_Mo_isDriven_25 rfl rfl ?_
    exact ⟨_, rfl, rfl, by rw [decide_eq_true (Or.inl c_7)]; rfl⟩
  · refine cx_aload_n (i := 0) hE d_Mo_isDriven_10 rfl rfl ?_
    refine cx_get hE d_Mo_isDriven_11 f_Mo_46 (by assumption) (by rfl) ?_
    refine cx_iload_n (i := 1) hE d_Mo_isDriven_14 rfl rfl ?_
    refine cx_iald 1 hE d_Mo_isDriven_15 rfl (W0.1.i 21 rfl) (vp_in_nI (by show _ < 11000; omega) (by show 11000 < 2147483648; omega)) ?_
    rw [nI_clamp (by omega)]
    refine cx_iconst (v := 3) hE d_Mo_isDriven_16 (by decide) ?_
    refine cx_icmp_ne (tgt := 24)  hE d_Mo_isDriven_17 (by decide) (fun c_17 => ?_) (fun c_17 => ?_)
    · refine cx_iconst (v := 0) hE d_Mo_isDriven_24 (by decide) ?_
      refine cx_iret hE d_Mo_isDriven_25 rfl rfl ?_
      exact ⟨_, rfl, rfl, by rw [decide_eq_false (fun z => z.elim c_7 c_17)]; rfl⟩
    · refine cx_iconst (v := 1) hE d_Mo_isDriven_20 (by decide) ?_
      refine cx_goto (tgt := 25) hE d_Mo_isDriven_21 (by decide) ?_
      refine cx_iret hE d_Mo_isDriven_25 rfl rfl ?_
      exact ⟨_, rfl, rfl, by rw [decide_eq_true (Or.inr c_17)]; rfl⟩
set_option maxRecDepth 100000 in
theorem c_Mo_patch {k : cx_K} {l : Launch} {G : cx_G} {mo : Nat} {P : Nat → Nat} {M : rm_M} {b : Nat × Nat} (hm : rm_R k G mo P M) (hQ : rm_Q b G M) {n0 : Nat} {k0 : Int32} {K : rm_M → Prop} (hK : rp_pat K n0 k0 M)  : cx_Sp k l m_Mo_patch 0 [.ref mo, .int k0] G (rp_P0 k mo b G P K) := by
  intro E hE
  have W0 := rm_W.rf hm hQ
  have m0 := hm.1
  have hpat : ∀ (n : Nat) (kk : Int32) (Gx : cx_G) (Px : Nat → Nat) (Mx : rm_M), rm_W k mo b G P Gx Px Mx → rp_pat K n kk Mx → cx_V E 2 [(2, false, .int kk), (0, false, .ref mo), (1, false, .int k0)] [] Gx := by
    intro n
    induction n with
    | zero => intro kk Gx Px Mx _ h; exact h.elim
    | succ n ih =>
      intro kk Gx Px Mx Wx hK
      have mx := Wx.1.1
      unfold rp_pat at hK
      refine cx_iload_n (i := 2) hE d_Mo_patch_2 rfl rfl ?_
      refine cx_if_lt (tgt := 32)  hE d_Mo_patch_3 (by decide) (fun c_3 => ?_) (fun c_3 => ?_)
      · have K_3 := rp_ifp hK c_3
        refine cx_vret hE d_Mo_patch_32 rfl ?_
        exact ⟨_, _, rfl, Wx, K_3⟩
      · have K_3 := rp_ifn hK c_3
        obtain ⟨j_6, rfl, l_6, K_6⟩ := K_3
        refine cx_aload_n (i := 0) hE d_Mo_patch_6 rfl rfl ?_
        refine cx_get hE d_Mo_patch_7 f_Mo_95 (by assumption) (by rfl) ?_
        refine cx_iload_n (i := 2) hE d_Mo_patch_10 rfl rfl ?_
        refine cx_iconst (v := 1) hE d_Mo_patch_11 (by decide) ?_
        refine cx_iadd hE d_Mo_patch_12 ?_
        rw [nI_1]
        refine cx_iald 1 hE d_Mo_patch_13 rfl (Wx.1.i 41 rfl) (vp_in_nI (by show _ < Mx.2.2.2.1; omega) (by show Mx.2.2.2.1 < 2147483648; have := Wx.2.2.2.2.2.1; omega)) ?_
        rw [nI_clamp (by have := Wx.2.2.2.2.2.1; omega)]
        refine cx_istore_n (i := 3) hE d_Mo_patch_14 rfl (by decide) ?_
        refine cx_aload_n (i := 0) hE d_Mo_patch_15 rfl rfl ?_
        refine cx_get hE d_Mo_patch_16 f_Mo_95 (by assumption) (by rfl) ?_
        refine cx_iload_n (i := 2) hE d_Mo_patch_19 rfl rfl ?_
        refine cx_iconst (v := 1) hE d_Mo_patch_20 (by decide) ?_
        refine cx_iadd hE d_Mo_patch_21 ?_
        rw [nI_1]
        refine cx_aload_n (i := 0) hE d_Mo_patch_22 rfl rfl ?_
        refine cx_get hE d_Mo_patch_23 f_Mo_279 (by assumption) (by rfl) ?_
        refine cx_iast 1 hE d_Mo_patch_26 rfl (Wx.1.i 41 rfl) (vp_in_nI (by show _ < Mx.2.2.2.1; omega) (by show Mx.2.2.2.1 < 2147483648; have := Wx.2.2.2.2.2.1; omega)) ?_
        rw [nI_clamp (by have := Wx.2.2.2.2.2.1; omega)]
        refine cx_gen (fun G_26 g_26 => ?_)
        have W_26 : rm_W k mo b G P G_26 Px (rp_set Mx 41 (j_6 + 1) (Mx.1 42)) := Wx.si 41 rfl g_26
        have m_26 := W_26.1.1
        refine cx_iload_n (i := 3) hE d_Mo_patch_27 rfl rfl ?_
        refine cx_istore_n (i := 2) hE d_Mo_patch_28 rfl (by decide) ?_
        refine cx_goto (tgt := 2) hE d_Mo_patch_29 (by decide) ?_
        refine cx_sub [0, 2, 3] rfl ?_
        exact ih _ _ _ _ W_26 K_6
  refine cx_iload_n (i := 1) hE d_Mo_patch_0 rfl rfl ?_
  refine cx_istore_n (i := 2) hE d_Mo_patch_1 rfl (by decide) ?_
  refine cx_sub [0, 1, 2] rfl ?_
  exact hpat _ _ _ _ _ W0 hK
set_option maxRecDepth 100000 in
theorem c_Mo_setting {k : cx_K} {l : Launch} {G : cx_G} {N : Nat} {mo : Nat} {P : Nat → Nat} {M : rm_M} {b : Nat × Nat} (hm : rm_R k G mo P M) (hQ : rm_Q b G M) {K : rm_M → Prop} (hK : rp_stg N K M)  : cx_Sp k l m_Mo_setting 311 [.ref mo] G (rp_P0 k mo b G P K) := by
  intro E hE
  have W0 := rm_W.rf hm hQ
  have m0 := hm.1
  have h126 : ∀ (j : Nat) (part : Int32) (G1 : cx_G) (P1 : Nat → Nat) (M1 : rm_M), rm_W k mo b G P G1 P1 M1 → (rp_bg M1 fun sg => rp_sgt N j part sg K (rp_i M1 1)) → cx_V E 126 [(2, false, .int part), (1, false, .int (nI j)), (0, false, .ref mo)] [] G1 := by
    intro j part G1 P1 M1 W1 hK
    have m1 := W1.1.1
    refine cx_aload_n (i := 0) hE d_Mo_setting_126 rfl rfl ?_
    refine cx_get hE d_Mo_setting_127 f_Mo_19 (by assumption) (by rfl) ?_
    refine cx_aload_n (i := 0) hE d_Mo_setting_130 rfl rfl ?_
    refine cx_get hE d_Mo_setting_131 f_Mo_193 (by assumption) (by rfl) ?_
    obtain ⟨i_134, e_134, l_134, K_134⟩ := hK
    rw [e_134]
    refine cx_iald 1 hE d_Mo_setting_134 rfl (W1.1.i 5 rfl) (vp_in_nI (by show _ < 65540; omega) (by show 65540 < 2147483648; omega)) ?_
    rw [nI_clamp (by omega)]
    refine cx_istore_n (i := 3) hE d_Mo_setting_135 rfl (by decide) ?_
    refine cx_aload_n (i := 0) hE d_Mo_setting_136 rfl rfl ?_
    refine cx_dup hE d_Mo_setting_137 ?_
    refine cx_get hE d_Mo_setting_138 f_Mo_193 (by assumption) (by rfl) ?_
    refine cx_iconst (v := 1) hE d_Mo_setting_141 (by decide) ?_
    refine cx_iadd hE d_Mo_setting_142 ?_
    refine cx_putg hE d_Mo_setting_143 f_Mo_193 (by assumption) (Nat.le_of_ble_eq_true rfl) (by first | rfl | exact cx_nr _ _) (by first | rfl | exact cx_fr _ _) (fun G_143 g_143 h_143 => ?_)
    rw [rm_s8] at g_143
    clear h_143
    have W_143 : rm_W k mo b G P G_143 P1 (rp_i M1 1) := W1.pi g_143
    have m_143 := W_143.1.1
    refine cx_aload_n (i := 0) hE d_Mo_setting_146 rfl rfl ?_
    refine cx_wP hE d_Mo_setting_147 l_Mo_288 W_143 (c_Mo_exp _ _ _ _ W_143.1 W_143.2.2 K_134) rfl (by omega) (Nat.le_of_ble_eq_true rfl) n_Mo_exp (by first | rfl | (simp only [List.map_cons, List.map_nil, cx_rfc]; rfl)) (fun v_147 G_147 P_147 M_147 W_147 K_147 => ?_)
    have m_147 := W_147.1.1
    refine cx_istore hE d_Mo_setting_150 (by decide) ?_
    refine cx_iload_n (i := 2) hE d_Mo_setting_152 rfl rfl ?_
    refine cx_sipush (v := 256) hE d_Mo_setting_153 (by decide) ?_
    refine cx_idiv hE d_Mo_setting_156 (by decide) ?_
    refine cx_iload_n (i := 2) hE d_Mo_setting_157 rfl rfl ?_
    refine cx_sipush (v := 256) hE d_Mo_setting_158 (by decide) ?_
    refine cx_irem hE d_Mo_setting_161 (by decide) ?_
    refine cx_isub hE d_Mo_setting_162 ?_
    refine cx_iconst (v := 1) hE d_Mo_setting_163 (by decide) ?_
    refine cx_iadd hE d_Mo_setting_164 ?_
    refine cx_istore hE d_Mo_setting_165 (by decide) ?_
    have h188 : ∀ (G2 : cx_G) (P2 : Nat → Nat), rm_W k mo b G P G2 P2 (rp_ff (v_147 ≠ (part / 256 - (part - part / 256 * 256) + 1)) 30 (M1.2.1 5 i_134) M_147) → cx_V E 188 [(5, false, .int (part / 256 - (part - part / 256 * 256) + 1)), (4, false, .int v_147), (3, false, .int (M1.2.1 5 i_134)), (2, false, .int part), (1, false, .int (nI j)), (0, false, .ref mo)] [] G2 := by
      intro G2 P2 W2
      have m2 := W2.1.1
      refine cx_aload_n (i := 0) hE d_Mo_setting_188 rfl rfl ?_
      refine cx_iload hE d_Mo_setting_189 rfl ?_
      refine cx_i2l hE d_Mo_setting_191 ?_
      refine cx_w0 hE d_Mo_setting_192 l_Mo_291 W2 (s_cost W2.1 W2.2.2 K_147) rfl (by omega) (Nat.le_of_ble_eq_true rfl) n_Mo_cost (by first | rfl | (simp only [List.map_cons, List.map_nil, cx_rfc]; rfl)) (fun G_192 P_192 M_192 W_192 K_192 => ?_)
      have m_192 := W_192.1.1
      refine cx_aload_n (i := 0) hE d_Mo_setting_195 rfl rfl ?_
      refine cx_bipush (v := 9) hE d_Mo_setting_196 (by decide) ?_
      refine cx_iload_n (i := 1) hE d_Mo_setting_198 rfl rfl ?_
      refine cx_iload_n (i := 2) hE d_Mo_setting_199 rfl rfl ?_
      refine cx_w0 hE d_Mo_setting_200 l_Mo_295 W_192 (s_lay W_192.1 W_192.2.2 K_192) rfl (by omega) (Nat.le_of_ble_eq_true rfl) n_Mo_lay (by first | rfl | (simp only [List.map_cons, List.map_nil, cx_rfc]; rfl)) (fun G_200 P_200 M_200 W_200 K_200 => ?_)
      have m_200 := W_200.1.1
      refine cx_aload_n (i := 0) hE d_Mo_setting_203 rfl rfl ?_
      refine cx_dup hE d_Mo_setting_204 ?_
      refine cx_get hE d_Mo_setting_205 f_Mo_193 (by assumption) (by rfl) ?_
      refine cx_iconst (v := 1) hE d_Mo_setting_208 (by decide) ?_
      refine cx_iadd hE d_Mo_setting_209 ?_
      refine cx_putg hE d_Mo_setting_210 f_Mo_193 (by assumption) (Nat.le_of_ble_eq_true rfl) (by first | rfl | exact cx_nr _ _) (by first | rfl | exact cx_fr _ _) (fun G_210 g_210 h_210 => ?_)
      rw [rm_s8] at g_210
      clear h_210
      have W_210 : rm_W k mo b G P G_210 P_200 (rp_i M_200 1) := W_200.pi g_210
      have m_210 := W_210.1.1
      refine cx_vret hE d_Mo_setting_213 rfl ?_
      exact ⟨_, _, rfl, W_210, K_200⟩
    refine cx_aload_n (i := 0) hE d_Mo_setting_167 rfl rfl ?_
    refine cx_get hE d_Mo_setting_168 f_Mo_187 (by assumption) (by rfl) ?_
    refine cx_if_ne (tgt := 188)  hE d_Mo_setting_171 (by decide) (fun c_171 => ?_) (fun c_171 => ?_)
    · refine cx_sub [0, 1, 2, 3, 4, 5] rfl ?_
      exact h188 _ _ (by rw [rp_ff_n (fun z => c_171 z.1)]; exact W_147)
    · refine cx_iload hE d_Mo_setting_174 rfl ?_
      refine cx_iload hE d_Mo_setting_176 rfl ?_
      refine cx_icmp_eq (tgt := 188)  hE d_Mo_setting_178 (by decide) (fun c_178 => ?_) (fun c_178 => ?_)
      · refine cx_sub [0, 1, 2, 3, 4, 5] rfl ?_
        exact h188 _ _ (by rw [rp_ff_n (c := v_147 ≠ (part / 256 - (part - part / 256 * 256) + 1)) (fun z => z.2 c_178)]; exact W_147)
      · refine cx_aload_n (i := 0) hE d_Mo_setting_181 rfl rfl ?_
        refine cx_bipush (v := 30) hE d_Mo_setting_182 (by decide) ?_
        refine cx_iload_n (i := 3) hE d_Mo_setting_184 rfl rfl ?_
        refine cx_w0 hE d_Mo_setting_185 l_Mo_196 W_147 (s_fail (K := fun Mq9 => Mq9 = rm_fail _ _ M_147) W_147.1 W_147.2.2 rfl) rfl (by omega) (Nat.le_of_ble_eq_true rfl) n_Mo_fail (by first | rfl | (simp only [List.map_cons, List.map_nil, cx_rfc]; rfl)) (fun G_185 P_185 M_185 W_185 K_185 => ?_)
        have m_185 := W_185.1.1
        refine cx_sub [0, 1, 2, 3, 4, 5] rfl ?_
        exact h188 _ _ (by rw [rp_ff_p c_171 c_178]; subst K_185; exact W_185)
  refine cx_aload_n (i := 0) hE d_Mo_setting_0 rfl rfl ?_
  refine cx_aload_n (i := 0) hE d_Mo_setting_1 rfl rfl ?_
  refine cx_get hE d_Mo_setting_2 f_Mo_193 (by assumption) (by rfl) ?_
  refine cx_wR hE d_Mo_setting_5 l_Mo_330 W0 (s_here W0.1 hK) rfl (by omega) (Nat.le_of_ble_eq_true rfl) n_Mo_here (by first | rfl | (simp only [List.map_cons, List.map_nil, cx_rfc]; rfl)) (fun v_5 K_5 => ?_)
  obtain ⟨i_5, e_5, l_5, K_5b⟩ := K_5
  refine cx_istore_n (i := 1) hE d_Mo_setting_8 rfl (by decide) ?_
  refine cx_iload_n (i := 1) hE d_Mo_setting_9 rfl rfl ?_
  refine cx_if_lt (tgt := 21)  hE d_Mo_setting_10 (by decide) (fun c_10 => ?_) (fun c_10 => ?_)
  · have K_10 := rp_ifp K_5b c_10
    refine cx_aload_n (i := 0) hE d_Mo_setting_21 rfl rfl ?_
    refine cx_bipush (v := 22) hE d_Mo_setting_22 (by decide) ?_
    refine cx_aload_n (i := 0) hE d_Mo_setting_24 rfl rfl ?_
    refine cx_get hE d_Mo_setting_25 f_Mo_19 (by assumption) (by rfl) ?_
    refine cx_aload_n (i := 0) hE d_Mo_setting_28 rfl rfl ?_
    refine cx_get hE d_Mo_setting_29 f_Mo_193 (by assumption) (by rfl) ?_
    rw [e_5]
    refine cx_iald 1 hE d_Mo_setting_32 rfl (W0.1.i 5 rfl) (vp_in_nI (by show _ < 65540; omega) (by show 65540 < 2147483648; omega)) ?_
    rw [nI_clamp (by omega)]
    refine cx_w0 hE d_Mo_setting_33 l_Mo_196 W0 (s_fail W0.1 W0.2.2 K_10) rfl (by omega) (Nat.le_of_ble_eq_true rfl) n_Mo_fail (by first | rfl | (simp only [List.map_cons, List.map_nil, cx_rfc]; rfl)) (fun G_33 P_33 M_33 W_33 K_33 => ?_)
    have m_33 := W_33.1.1
    refine cx_vret hE d_Mo_setting_36 rfl ?_
    exact ⟨_, _, rfl, W_33, K_33⟩
  · have K_10 := rp_ifn K_5b c_10
    obtain ⟨j_13, rfl, l_13, K_13⟩ := K_10
    refine cx_aload_n (i := 0) hE d_Mo_setting_13 rfl rfl ?_
    refine cx_iload_n (i := 1) hE d_Mo_setting_14 rfl rfl ?_
    refine cx_wR hE d_Mo_setting_15 l_Mo_362 W0 (c_Mo_isRegister (j := j_13) W0.1 W0.2.2 l_13) rfl (by omega) (Nat.le_of_ble_eq_true rfl) n_Mo_isRegister (by first | rfl | (simp only [List.map_cons, List.map_nil, cx_rfc]; rfl)) (fun v_15 K_15 => ?_)
    subst K_15
    refine cx_if_ne (tgt := 37)  hE d_Mo_setting_18 (by decide) (fun c_18 => ?_) (fun c_18 => ?_)
    · have K_18 := rp_ifp K_13 (of_decide_eq_true (cx_bn.mp c_18))
      have q38 : (if ¬ M.2.1 26 j_13 = 0 ∧ ¬ M.2.1 26 j_13 = M.1 38 + 1 then rm_fail 32 (M.2.1 5 i_5) M else M).1 38 = M.1 38 := by
        split
        · exact (rx_o.fail _ _ _).1 38 (by decide) (by decide) (by decide) (by decide)
        · rfl
      have q20 : (rp_i (rp_set (if ¬ M.2.1 26 j_13 = 0 ∧ ¬ M.2.1 26 j_13 = M.1 38 + 1 then rm_fail 32 (M.2.1 5 i_5) M else M) 26 j_13 (M.1 38 + 1)) 1).2.1 20 j_13 = M.2.1 20 j_13 := by
        show (if ¬ M.2.1 26 j_13 = 0 ∧ ¬ M.2.1 26 j_13 = M.1 38 + 1 then rm_fail 32 (M.2.1 5 i_5) M else M).2.1 20 j_13 = _
        split
        · rw [(rx_o.fail _ _ _).2.1]
        · rfl
      have h76 : ∀ (G1 : cx_G) (P1 : Nat → Nat), rm_W k mo b G P G1 P1 (if ¬ M.2.1 26 j_13 = 0 ∧ ¬ M.2.1 26 j_13 = M.1 38 + 1 then rm_fail 32 (M.2.1 5 i_5) M else M) → cx_V E 76 [(1, false, .int (nI j_13)), (0, false, .ref mo)] [] G1 := by
        intro G1 P1 W1
        have m1 := W1.1.1
        refine cx_aload_n (i := 0) hE d_Mo_setting_76 rfl rfl ?_
        refine cx_get hE d_Mo_setting_77 f_Mo_62 (by assumption) (by rfl) ?_
        refine cx_iload_n (i := 1) hE d_Mo_setting_80 rfl rfl ?_
        refine cx_aload_n (i := 0) hE d_Mo_setting_81 rfl rfl ?_
        refine cx_get hE d_Mo_setting_82 f_Mo_365 (by assumption) (by rfl) ?_
        rw [q38]
        refine cx_iconst (v := 1) hE d_Mo_setting_85 (by decide) ?_
        refine cx_iadd hE d_Mo_setting_86 ?_
        refine cx_iast 1 hE d_Mo_setting_87 rfl (W1.1.i 26 rfl) (vp_in_nI (by show _ < 11000; omega) (by show 11000 < 2147483648; omega)) ?_
        rw [nI_clamp (by omega)]
        refine cx_gen (fun G_87 g_87 => ?_)
        have W_87 : rm_W k mo b G P G_87 P1 (rp_set (if ¬ M.2.1 26 j_13 = 0 ∧ ¬ M.2.1 26 j_13 = M.1 38 + 1 then rm_fail 32 (M.2.1 5 i_5) M else M) 26 j_13 (M.1 38 + 1)) := W1.si 26 rfl g_87
        have m_87 := W_87.1.1
        refine cx_aload_n (i := 0) hE d_Mo_setting_88 rfl rfl ?_
        refine cx_dup hE d_Mo_setting_89 ?_
        refine cx_get hE d_Mo_setting_90 f_Mo_193 (by assumption) (by rfl) ?_
        refine cx_iconst (v := 1) hE d_Mo_setting_93 (by decide) ?_
        refine cx_iadd hE d_Mo_setting_94 ?_
        refine cx_putg hE d_Mo_setting_95 f_Mo_193 (by assumption) (Nat.le_of_ble_eq_true rfl) (by first | rfl | exact cx_nr _ _) (by first | rfl | exact cx_fr _ _) (fun G_95 g_95 h_95 => ?_)
        rw [rm_s8] at g_95
        clear h_95
        have W_95 : rm_W k mo b G P G_95 P1 (rp_i (rp_set (if ¬ M.2.1 26 j_13 = 0 ∧ ¬ M.2.1 26 j_13 = M.1 38 + 1 then rm_fail 32 (M.2.1 5 i_5) M else M) 26 j_13 (M.1 38 + 1)) 1) := W_87.pi g_95
        have m_95 := W_95.1.1
        refine cx_sipush (v := 256) hE d_Mo_setting_98 (by decide) ?_
        refine cx_aload_n (i := 0) hE d_Mo_setting_101 rfl rfl ?_
        refine cx_get hE d_Mo_setting_102 f_Mo_43 (by assumption) (by rfl) ?_
        refine cx_iload_n (i := 1) hE d_Mo_setting_105 rfl rfl ?_
        refine cx_iald 1 hE d_Mo_setting_106 rfl (W_95.1.i 20 rfl) (vp_in_nI (by show _ < 11000; omega) (by show 11000 < 2147483648; omega)) ?_
        rw [nI_clamp (by omega)]
        rw [q20]
        refine cx_iconst (v := 1) hE d_Mo_setting_107 (by decide) ?_
        refine cx_isub hE d_Mo_setting_108 ?_
        refine cx_imul hE d_Mo_setting_109 ?_
        refine cx_istore_n (i := 2) hE d_Mo_setting_110 rfl (by decide) ?_
        refine cx_aload_n (i := 0) hE d_Mo_setting_111 rfl rfl ?_
        refine cx_wR hE d_Mo_setting_112 l_Mo_216 W_95 (s_kind W_95.1 K_18) rfl (by omega) (Nat.le_of_ble_eq_true rfl) n_Mo_kind (by first | rfl | (simp only [List.map_cons, List.map_nil, cx_rfc]; rfl)) (fun v_112 K_112 => ?_)
        refine cx_bipush (v := 91) hE d_Mo_setting_115 (by decide) ?_
        refine cx_icmp_ne (tgt := 126)  hE d_Mo_setting_117 (by decide) (fun c_117 => ?_) (fun c_117 => ?_)
        · have K_117 := rp_ifn K_112 c_117
          refine cx_sub [0, 1, 2] rfl ?_
          exact h126 _ _ _ _ _ W_95 K_117
        · have K_117 := rp_ifp K_112 c_117
          refine cx_aload_n (i := 0) hE d_Mo_setting_120 rfl rfl ?_
          refine cx_iload_n (i := 1) hE d_Mo_setting_121 rfl rfl ?_
          refine cx_wP hE d_Mo_setting_122 l_Mo_333 W_95 (c_Mo_part W_95.1 W_95.2.2 K_117) rfl (by omega) (Nat.le_of_ble_eq_true rfl) n_Mo_part (by first | rfl | (simp only [List.map_cons, List.map_nil, cx_rfc]; rfl)) (fun v_122 G_122 P_122 M_122 W_122 K_122 => ?_)
          have m_122 := W_122.1.1
          refine cx_istore_n (i := 2) hE d_Mo_setting_125 rfl (by decide) ?_
          refine cx_sub [0, 1, 2] rfl ?_
          exact h126 _ _ _ _ _ W_122 K_122
      refine cx_aload_n (i := 0) hE d_Mo_setting_37 rfl rfl ?_
      refine cx_get hE d_Mo_setting_38 f_Mo_62 (by assumption) (by rfl) ?_
      refine cx_iload_n (i := 1) hE d_Mo_setting_41 rfl rfl ?_
      refine cx_iald 1 hE d_Mo_setting_42 rfl (W0.1.i 26 rfl) (vp_in_nI (by show _ < 11000; omega) (by show 11000 < 2147483648; omega)) ?_
      rw [nI_clamp (by omega)]
      refine cx_if_eq (tgt := 76)  hE d_Mo_setting_43 (by decide) (fun c_43 => ?_) (fun c_43 => ?_)
      · refine cx_sub [0, 1] rfl ?_
        exact h76 _ _ (by rw [if_neg (fun z => z.1 c_43)]; exact W0)
      · refine cx_aload_n (i := 0) hE d_Mo_setting_46 rfl rfl ?_
        refine cx_get hE d_Mo_setting_47 f_Mo_62 (by assumption) (by rfl) ?_
        refine cx_iload_n (i := 1) hE d_Mo_setting_50 rfl rfl ?_
        refine cx_iald 1 hE d_Mo_setting_51 rfl (W0.1.i 26 rfl) (vp_in_nI (by show _ < 11000; omega) (by show 11000 < 2147483648; omega)) ?_
        rw [nI_clamp (by omega)]
        refine cx_aload_n (i := 0) hE d_Mo_setting_52 rfl rfl ?_
        refine cx_get hE d_Mo_setting_53 f_Mo_365 (by assumption) (by rfl) ?_
        refine cx_iconst (v := 1) hE d_Mo_setting_56 (by decide) ?_
        refine cx_iadd hE d_Mo_setting_57 ?_
        refine cx_icmp_eq (tgt := 76)  hE d_Mo_setting_58 (by decide) (fun c_58 => ?_) (fun c_58 => ?_)
        · refine cx_sub [0, 1] rfl ?_
          exact h76 _ _ (by rw [if_neg (fun z => z.2 c_58)]; exact W0)
        · refine cx_aload_n (i := 0) hE d_Mo_setting_61 rfl rfl ?_
          refine cx_bipush (v := 32) hE d_Mo_setting_62 (by decide) ?_
          refine cx_aload_n (i := 0) hE d_Mo_setting_64 rfl rfl ?_
          refine cx_get hE d_Mo_setting_65 f_Mo_19 (by assumption) (by rfl) ?_
          refine cx_aload_n (i := 0) hE d_Mo_setting_68 rfl rfl ?_
          refine cx_get hE d_Mo_setting_69 f_Mo_193 (by assumption) (by rfl) ?_
          rw [e_5]
          refine cx_iald 1 hE d_Mo_setting_72 rfl (W0.1.i 5 rfl) (vp_in_nI (by show _ < 65540; omega) (by show 65540 < 2147483648; omega)) ?_
          rw [nI_clamp (by omega)]
          refine cx_w0 hE d_Mo_setting_73 l_Mo_196 W0 (s_fail (K := fun Mq9 => Mq9 = rm_fail _ _ M) W0.1 W0.2.2 rfl) rfl (by omega) (Nat.le_of_ble_eq_true rfl) n_Mo_fail (by first | rfl | (simp only [List.map_cons, List.map_nil, cx_rfc]; rfl)) (fun G_73 P_73 M_73 W_73 K_73 => ?_)
          have m_73 := W_73.1.1
          refine cx_sub [0, 1] rfl ?_
          exact h76 _ _ (by rw [if_pos ⟨c_43, c_58⟩]; subst K_73; exact W_73)
    · have K_18 := rp_ifn K_13 (of_decide_eq_false (cx_b0.mp c_18))
      refine cx_aload_n (i := 0) hE d_Mo_setting_21 rfl rfl ?_
      refine cx_bipush (v := 22) hE d_Mo_setting_22 (by decide) ?_
      refine cx_aload_n (i := 0) hE d_Mo_setting_24 rfl rfl ?_
      refine cx_get hE d_Mo_setting_25 f_Mo_19 (by assumption) (by rfl) ?_
      refine cx_aload_n (i := 0) hE d_Mo_setting_28 rfl rfl ?_
      refine cx_get hE d_Mo_setting_29 f_Mo_193 (by assumption) (by rfl) ?_
      rw [e_5]
      refine cx_iald 1 hE d_Mo_setting_32 rfl (W0.1.i 5 rfl) (vp_in_nI (by show _ < 65540; omega) (by show 65540 < 2147483648; omega)) ?_
      rw [nI_clamp (by omega)]
      refine cx_w0 hE d_Mo_setting_33 l_Mo_196 W0 (s_fail W0.1 W0.2.2 K_18) rfl (by omega) (Nat.le_of_ble_eq_true rfl) n_Mo_fail (by first | rfl | (simp only [List.map_cons, List.map_nil, cx_rfc]; rfl)) (fun G_33 P_33 M_33 W_33 K_33 => ?_)
      have m_33 := W_33.1.1
      refine cx_vret hE d_Mo_setting_36 rfl ?_
      exact ⟨_, _, rfl, W_33, K_33⟩

/-! THE SECOND PASS: an exp, step by step. -/
def rp_XE (k : cx_K) (l : Launch) (mo : Nat) (b : Nat × Nat) (Ex : rp_E) (fe : Nat) : Prop := ∀ (G : cx_G) (P : Nat → Nat) (M : rm_M) (K : Int32 → rm_M → Prop), rm_R k G mo P M → rm_Q b G M → Ex K M → cx_Sp k l m_Mo_exp fe [.ref mo] G (rp_P k mo b G P K)
theorem rp_ff_n {c : Prop} [Decidable c] {w p : Int32} {M : rm_M} (h : ¬ (M.1 9 = 0 ∧ c)) : rp_ff c w p M = M := if_neg h
theorem rp_ff_p {c : Prop} [Decidable c] {w p : Int32} {M : rm_M} (h : M.1 9 = 0) (hc : c) : rp_ff c w p M = rm_fail w p M := if_pos ⟨h, hc⟩
theorem rp_max_le {a b : Int32} (h : a ≤ b) : rp_max a b = b := if_neg (Int32.not_lt.mpr h)
theorem rp_max_gt {a b : Int32} (h : ¬ a ≤ b) : rp_max a b = a := if_pos (Int32.not_le.mp h)
set_option maxRecDepth 100000 in
theorem c_Mo_reckon {k : cx_K} {l : Launch} {G : cx_G} {mo : Nat} {P : Nat → Nat} {M : rm_M} {b : Nat × Nat} (hm : rm_R k G mo P M) (hQ : rm_Q b G M) {K : rm_M → Prop} (hK : rp_rck K M)  : cx_Sp k l m_Mo_reckon 1 [.ref mo] G (rp_P0 k mo b G P K) := by
  intro E hE
  have W0 := rm_W.rf hm hQ
  have m0 := hm.1
  obtain ⟨a, bb, e48, la, e50, lb, hK⟩ := hK
  have h155 : ∀ (G1 : cx_G) (P1 : Nat → Nat) (z : Int32), rm_W k mo b G P G1 P1 (rp_ff (¬ ((rm_rank (M.2.1 46 a)) < 3 ∨ (rm_rank (M.2.1 46 a)) = 8) ∧ (M.2.1 49 bb) ≠ (M.2.1 49 (bb + 1))) 30 (M.2.1 47 a) (rp_pop M a bb)) → z = (rp_bco (M.2.1 46 a) (M.2.1 49 bb) (M.2.1 49 (bb + 1))) → cx_V E 155 [(4, false, .int (rm_rank (M.2.1 46 a))), (3, false, .int (M.2.1 49 bb)), (2, false, .int (M.2.1 49 (bb + 1))), (1, false, .int (M.2.1 46 a)), (0, false, .ref mo)] [.long z.toInt64, .ref mo] G1 := by
    intro G1 P1 z W1 hz
    rw [hz]
    have m1 := W1.1.1
    have i50 : (rp_ff (¬ ((rm_rank (M.2.1 46 a)) < 3 ∨ (rm_rank (M.2.1 46 a)) = 8) ∧ (M.2.1 49 bb) ≠ (M.2.1 49 (bb + 1))) 30 (M.2.1 47 a) (rp_pop M a bb)).1 50 = nI (bb + 1) := (rx_o.ff (¬ ((rm_rank (M.2.1 46 a)) < 3 ∨ (rm_rank (M.2.1 46 a)) = 8) ∧ (M.2.1 49 bb) ≠ (M.2.1 49 (bb + 1))) 30 (M.2.1 47 a) (rp_pop M a bb)).1 50 (by decide) (by decide) (by decide) (by decide)
    obtain ⟨mc_155, h1_155, h2_155, K_155⟩ := hK
    have h185 : ∀ (G2 : cx_G) (P2 : Nat → Nat), rm_W k mo b G P G2 P2 (rp_cm (rp_ff (¬ ((rm_rank (M.2.1 46 a)) < 3 ∨ (rm_rank (M.2.1 46 a)) = 8) ∧ (M.2.1 49 bb) ≠ (M.2.1 49 (bb + 1))) 30 (M.2.1 47 a) (rp_pop M a bb)) mc_155 (rp_bco (M.2.1 46 a) (M.2.1 49 bb) (M.2.1 49 (bb + 1))).toInt64) → cx_V E 185 [(7, false, .int (rp_bmd (M.2.1 46 a) (M.2.1 49 bb))), (4, false, .int (rm_rank (M.2.1 46 a))), (3, false, .int (M.2.1 49 bb)), (2, false, .int (M.2.1 49 (bb + 1))), (1, false, .int (M.2.1 46 a)), (0, false, .ref mo)] [] G2 := by
      intro G2 P2 W2
      have m2 := W2.1.1
      have j50 : (rp_cm (rp_ff (¬ ((rm_rank (M.2.1 46 a)) < 3 ∨ (rm_rank (M.2.1 46 a)) = 8) ∧ (M.2.1 49 bb) ≠ (M.2.1 49 (bb + 1))) 30 (M.2.1 47 a) (rp_pop M a bb)) mc_155 (rp_bco (M.2.1 46 a) (M.2.1 49 bb) (M.2.1 49 (bb + 1))).toInt64).1 50 = nI (bb + 1) := i50
      refine cx_aload_n (i := 0) hE d_Mo_reckon_185 rfl rfl ?_
      refine cx_get hE d_Mo_reckon_186 f_Mo_110 (by assumption) (by rfl) ?_
      refine cx_aload_n (i := 0) hE d_Mo_reckon_189 rfl rfl ?_
      refine cx_get hE d_Mo_reckon_190 f_Mo_310 (by assumption) (by rfl) ?_
      rw [j50]
      refine cx_iconst (v := 1) hE d_Mo_reckon_193 (by decide) ?_
      refine cx_isub hE d_Mo_reckon_194 ?_
      rw [nI_pred]
      refine cx_iload hE d_Mo_reckon_195 rfl ?_
      refine cx_iast 1 hE d_Mo_reckon_197 rfl (W2.1.i 49 rfl) (vp_in_nI (by show _ < 4096; omega) (by show 4096 < 2147483648; omega)) ?_
      rw [nI_clamp (by omega)]
      refine cx_gen (fun G_197 g_197 => ?_)
      have W_197 : rm_W k mo b G P G_197 P2 (rp_set (rp_cm (rp_ff (¬ ((rm_rank (M.2.1 46 a)) < 3 ∨ (rm_rank (M.2.1 46 a)) = 8) ∧ (M.2.1 49 bb) ≠ (M.2.1 49 (bb + 1))) 30 (M.2.1 47 a) (rp_pop M a bb)) mc_155 (rp_bco (M.2.1 46 a) (M.2.1 49 bb) (M.2.1 49 (bb + 1))).toInt64) 49 bb (rp_bmd (M.2.1 46 a) (M.2.1 49 bb))) := W2.si 49 rfl g_197
      have m_197 := W_197.1.1
      refine cx_aload_n (i := 0) hE d_Mo_reckon_198 rfl rfl ?_
      refine cx_iconst (v := 5) hE d_Mo_reckon_199 (by decide) ?_
      refine cx_iload_n (i := 1) hE d_Mo_reckon_200 rfl rfl ?_
      refine cx_iload hE d_Mo_reckon_201 rfl ?_
      refine cx_w0 hE d_Mo_reckon_203 l_Mo_295 W_197 (s_lay W_197.1 W_197.2.2 K_155) rfl (by omega) (Nat.le_of_ble_eq_true rfl) n_Mo_lay (by first | rfl | (simp only [List.map_cons, List.map_nil, cx_rfc]; rfl)) (fun G_203 P_203 M_203 W_203 K_203 => ?_)
      have m_203 := W_203.1.1
      refine cx_vret hE d_Mo_reckon_206 rfl ?_
      exact ⟨_, _, rfl, W_203, K_203⟩
    refine cx_w0 hE d_Mo_reckon_155 l_Mo_291 W1 (s_cost (K := fun Mx => Mx = (rp_cm (rp_ff (¬ ((rm_rank (M.2.1 46 a)) < 3 ∨ (rm_rank (M.2.1 46 a)) = 8) ∧ (M.2.1 49 bb) ≠ (M.2.1 49 (bb + 1))) 30 (M.2.1 47 a) (rp_pop M a bb)) mc_155 (rp_bco (M.2.1 46 a) (M.2.1 49 bb) (M.2.1 49 (bb + 1))).toInt64)) W1.1 W1.2.2 ⟨mc_155, h1_155, h2_155, rfl⟩) rfl (by omega) (Nat.le_of_ble_eq_true rfl) n_Mo_cost (by first | rfl | (simp only [List.map_cons, List.map_nil, cx_rfc]; rfl)) (fun G_155 P_155 M_155 W_155 Kx_155 => ?_)
    subst Kx_155
    have m_155 := W_155.1.1
    refine cx_iload hE d_Mo_reckon_158 rfl ?_
    refine cx_iconst (v := 3) hE d_Mo_reckon_160 (by decide) ?_
    refine cx_icmp_lt (tgt := 178)  hE d_Mo_reckon_161 (by decide) (fun c_161 => ?_) (fun c_161 => ?_)
    · refine cx_iconst (v := 1) hE d_Mo_reckon_178 (by decide) ?_
      refine cx_goto (tgt := 183) hE d_Mo_reckon_179 (by decide) ?_
      refine cx_istore hE d_Mo_reckon_183 (by decide) ?_
      refine cx_sub [0, 1, 2, 3, 4, 5] rfl ?_
      have q_185 : (rp_bmd (M.2.1 46 a) (M.2.1 49 bb)) = 1 := if_pos (Or.inl c_161)
      have h185 := h185 _ _ W_155
      rw [q_185] at h185
      exact h185
    · refine cx_iload hE d_Mo_reckon_164 rfl ?_
      refine cx_bipush (v := 6) hE d_Mo_reckon_166 (by decide) ?_
      refine cx_icmp_eq (tgt := 178)  hE d_Mo_reckon_168 (by decide) (fun c_168 => ?_) (fun c_168 => ?_)
      · refine cx_iconst (v := 1) hE d_Mo_reckon_178 (by decide) ?_
        refine cx_goto (tgt := 183) hE d_Mo_reckon_179 (by decide) ?_
        refine cx_istore hE d_Mo_reckon_183 (by decide) ?_
        refine cx_sub [0, 1, 2, 3, 4, 5] rfl ?_
        have q_185 : (rp_bmd (M.2.1 46 a) (M.2.1 49 bb)) = 1 := if_pos (Or.inr (Or.inl c_168))
        have h185 := h185 _ _ W_155
        rw [q_185] at h185
        exact h185
      · refine cx_iload hE d_Mo_reckon_171 rfl ?_
        refine cx_bipush (v := 7) hE d_Mo_reckon_173 (by decide) ?_
        refine cx_icmp_ne (tgt := 182)  hE d_Mo_reckon_175 (by decide) (fun c_175 => ?_) (fun c_175 => ?_)
        · refine cx_iload_n (i := 3) hE d_Mo_reckon_182 rfl rfl ?_
          refine cx_istore hE d_Mo_reckon_183 (by decide) ?_
          refine cx_sub [0, 1, 2, 3, 4, 5] rfl ?_
          have q_185 : (rp_bmd (M.2.1 46 a) (M.2.1 49 bb)) = (M.2.1 49 bb) := if_neg (fun z => z.elim c_161 (fun z => z.elim c_168 c_175))
          have h185 := h185 _ _ W_155
          rw [q_185] at h185
          exact h185
        · refine cx_iconst (v := 1) hE d_Mo_reckon_178 (by decide) ?_
          refine cx_goto (tgt := 183) hE d_Mo_reckon_179 (by decide) ?_
          refine cx_istore hE d_Mo_reckon_183 (by decide) ?_
          refine cx_sub [0, 1, 2, 3, 4, 5] rfl ?_
          have q_185 : (rp_bmd (M.2.1 46 a) (M.2.1 49 bb)) = 1 := if_pos (Or.inr (Or.inr c_175))
          have h185 := h185 _ _ W_155
          rw [q_185] at h185
          exact h185
  have h110 : ∀ (G1 : cx_G) (P1 : Nat → Nat), rm_W k mo b G P G1 P1 (rp_ff (¬ ((rm_rank (M.2.1 46 a)) < 3 ∨ (rm_rank (M.2.1 46 a)) = 8) ∧ (M.2.1 49 bb) ≠ (M.2.1 49 (bb + 1))) 30 (M.2.1 47 a) (rp_pop M a bb)) → cx_V E 110 [(4, false, .int (rm_rank (M.2.1 46 a))), (3, false, .int (M.2.1 49 bb)), (2, false, .int (M.2.1 49 (bb + 1))), (1, false, .int (M.2.1 46 a)), (0, false, .ref mo)] [] G1 := by
    intro G1 P1 W1
    have m1 := W1.1.1
    refine cx_iload_n (i := 3) hE d_Mo_reckon_110 rfl rfl ?_
    refine cx_iload_n (i := 2) hE d_Mo_reckon_111 rfl rfl ?_
    refine cx_icmp_le (tgt := 119)  hE d_Mo_reckon_112 (by decide) (fun c_112 => ?_) (fun c_112 => ?_)
    · refine cx_iload_n (i := 2) hE d_Mo_reckon_119 rfl rfl ?_
      refine cx_istore hE d_Mo_reckon_120 (by decide) ?_
      refine cx_aload_n (i := 0) hE d_Mo_reckon_122 rfl rfl ?_
      refine cx_iload hE d_Mo_reckon_123 rfl ?_
      refine cx_bipush (v := 8) hE d_Mo_reckon_125 (by decide) ?_
      refine cx_icmp_ne (tgt := 139)  hE d_Mo_reckon_127 (by decide) (fun c_127 => ?_) (fun c_127 => ?_)
      · refine cx_iload_n (i := 1) hE d_Mo_reckon_139 rfl rfl ?_
        refine cx_bipush (v := 42) hE d_Mo_reckon_140 (by decide) ?_
        refine cx_icmp_ne (tgt := 152)  hE d_Mo_reckon_142 (by decide) (fun c_142 => ?_) (fun c_142 => ?_)
        · refine cx_iload hE d_Mo_reckon_152 rfl ?_
          refine cx_i2l hE d_Mo_reckon_154 ?_
          refine cx_sub [1, 2, 3, 4, 5] rfl ?_
          exact h155 _ _ _ W1 (by unfold rp_bco; rw [if_neg c_127, if_neg c_142, rp_max_le c_112])
        · refine cx_iload_n (i := 3) hE d_Mo_reckon_145 rfl rfl ?_
          refine cx_iload_n (i := 3) hE d_Mo_reckon_146 rfl rfl ?_
          refine cx_imul hE d_Mo_reckon_147 ?_
          refine cx_i2l hE d_Mo_reckon_148 ?_
          refine cx_goto (tgt := 155) hE d_Mo_reckon_149 (by decide) ?_
          refine cx_sub [1, 2, 3, 4, 5] rfl ?_
          exact h155 _ _ _ W1 (by unfold rp_bco; rw [if_neg c_127, if_pos c_142])
      · refine cx_iconst (v := 3) hE d_Mo_reckon_130 (by decide) ?_
        refine cx_iload_n (i := 3) hE d_Mo_reckon_131 rfl rfl ?_
        refine cx_imul hE d_Mo_reckon_132 ?_
        refine cx_iload_n (i := 2) hE d_Mo_reckon_133 rfl rfl ?_
        refine cx_iadd hE d_Mo_reckon_134 ?_
        refine cx_i2l hE d_Mo_reckon_135 ?_
        refine cx_goto (tgt := 155) hE d_Mo_reckon_136 (by decide) ?_
        refine cx_sub [1, 2, 3, 4, 5] rfl ?_
        exact h155 _ _ _ W1 (by unfold rp_bco; rw [if_pos c_127])
    · refine cx_iload_n (i := 3) hE d_Mo_reckon_115 rfl rfl ?_
      refine cx_goto (tgt := 120) hE d_Mo_reckon_116 (by decide) ?_
      refine cx_istore hE d_Mo_reckon_120 (by decide) ?_
      refine cx_aload_n (i := 0) hE d_Mo_reckon_122 rfl rfl ?_
      refine cx_iload hE d_Mo_reckon_123 rfl ?_
      refine cx_bipush (v := 8) hE d_Mo_reckon_125 (by decide) ?_
      refine cx_icmp_ne (tgt := 139)  hE d_Mo_reckon_127 (by decide) (fun c_127 => ?_) (fun c_127 => ?_)
      · refine cx_iload_n (i := 1) hE d_Mo_reckon_139 rfl rfl ?_
        refine cx_bipush (v := 42) hE d_Mo_reckon_140 (by decide) ?_
        refine cx_icmp_ne (tgt := 152)  hE d_Mo_reckon_142 (by decide) (fun c_142 => ?_) (fun c_142 => ?_)
        · refine cx_iload hE d_Mo_reckon_152 rfl ?_
          refine cx_i2l hE d_Mo_reckon_154 ?_
          refine cx_sub [1, 2, 3, 4, 5] rfl ?_
          exact h155 _ _ _ W1 (by unfold rp_bco; rw [if_neg c_127, if_neg c_142, rp_max_gt c_112])
        · refine cx_iload_n (i := 3) hE d_Mo_reckon_145 rfl rfl ?_
          refine cx_iload_n (i := 3) hE d_Mo_reckon_146 rfl rfl ?_
          refine cx_imul hE d_Mo_reckon_147 ?_
          refine cx_i2l hE d_Mo_reckon_148 ?_
          refine cx_goto (tgt := 155) hE d_Mo_reckon_149 (by decide) ?_
          refine cx_sub [1, 2, 3, 4, 5] rfl ?_
          exact h155 _ _ _ W1 (by unfold rp_bco; rw [if_neg c_127, if_pos c_142])
      · refine cx_iconst (v := 3) hE d_Mo_reckon_130 (by decide) ?_
        refine cx_iload_n (i := 3) hE d_Mo_reckon_131 rfl rfl ?_
        refine cx_imul hE d_Mo_reckon_132 ?_
        refine cx_iload_n (i := 2) hE d_Mo_reckon_133 rfl rfl ?_
        refine cx_iadd hE d_Mo_reckon_134 ?_
        refine cx_i2l hE d_Mo_reckon_135 ?_
        refine cx_goto (tgt := 155) hE d_Mo_reckon_136 (by decide) ?_
        refine cx_sub [1, 2, 3, 4, 5] rfl ?_
        exact h155 _ _ _ W1 (by unfold rp_bco; rw [if_pos c_127])
  refine cx_aload_n (i := 0) hE d_Mo_reckon_0 rfl rfl ?_
  refine cx_dup hE d_Mo_reckon_1 ?_
  refine cx_get hE d_Mo_reckon_2 f_Mo_298 (by assumption) (by rfl) ?_
  rw [e48]
  refine cx_iconst (v := 1) hE d_Mo_reckon_5 (by decide) ?_
  refine cx_isub hE d_Mo_reckon_6 ?_
  rw [nI_pred]
  refine cx_putg hE d_Mo_reckon_7 f_Mo_298 (by assumption) (Nat.le_of_ble_eq_true rfl) (by first | rfl | exact cx_nr _ _) (by first | rfl | exact cx_fr _ _) (fun G_7 g_7 h_7 => ?_)
  rw [rm_s48] at g_7
  clear h_7
  have W_7 : rm_W k mo b G P G_7 P (rp_int M 48 (nI a)) := W0.pi g_7
  have m_7 := W_7.1.1
  have i48 : (rp_int M 48 (nI a)).1 48 = nI a := rfl
  refine cx_aload_n (i := 0) hE d_Mo_reckon_10 rfl rfl ?_
  refine cx_get hE d_Mo_reckon_11 f_Mo_104 (by assumption) (by rfl) ?_
  refine cx_aload_n (i := 0) hE d_Mo_reckon_14 rfl rfl ?_
  refine cx_get hE d_Mo_reckon_15 f_Mo_298 (by assumption) (by rfl) ?_
  rw [i48]
  refine cx_iald 1 hE d_Mo_reckon_18 rfl (W_7.1.i 46 rfl) (vp_in_nI (by show _ < 4096; omega) (by show 4096 < 2147483648; omega)) ?_
  rw [nI_clamp (by omega)]
  refine cx_istore_n (i := 1) hE d_Mo_reckon_19 rfl (by decide) ?_
  refine cx_aload_n (i := 0) hE d_Mo_reckon_20 rfl rfl ?_
  refine cx_dup hE d_Mo_reckon_21 ?_
  refine cx_get hE d_Mo_reckon_22 f_Mo_310 (by assumption) (by rfl) ?_
  rw [show (rp_int M 48 (nI a)).1 50 = nI (bb + 2) from e50]
  refine cx_iconst (v := 1) hE d_Mo_reckon_25 (by decide) ?_
  refine cx_isub hE d_Mo_reckon_26 ?_
  rw [nI_pred]
  refine cx_putg hE d_Mo_reckon_27 f_Mo_310 (by assumption) (Nat.le_of_ble_eq_true rfl) (by first | rfl | exact cx_nr _ _) (by first | rfl | exact cx_fr _ _) (fun G_27 g_27 h_27 => ?_)
  rw [rm_s50] at g_27
  clear h_27
  have W_27 : rm_W k mo b G P G_27 P (rp_pop M a bb) := W_7.pi g_27
  have m_27 := W_27.1.1
  have i50 : (rp_pop M a bb).1 50 = nI (bb + 1) := rfl
  refine cx_aload_n (i := 0) hE d_Mo_reckon_30 rfl rfl ?_
  refine cx_get hE d_Mo_reckon_31 f_Mo_110 (by assumption) (by rfl) ?_
  refine cx_aload_n (i := 0) hE d_Mo_reckon_34 rfl rfl ?_
  refine cx_get hE d_Mo_reckon_35 f_Mo_310 (by assumption) (by rfl) ?_
  rw [i50]
  refine cx_iald 1 hE d_Mo_reckon_38 rfl (W_27.1.i 49 rfl) (vp_in_nI (by show _ < 4096; omega) (by show 4096 < 2147483648; omega)) ?_
  rw [nI_clamp (by omega)]
  refine cx_istore_n (i := 2) hE d_Mo_reckon_39 rfl (by decide) ?_
  refine cx_aload_n (i := 0) hE d_Mo_reckon_40 rfl rfl ?_
  refine cx_get hE d_Mo_reckon_41 f_Mo_110 (by assumption) (by rfl) ?_
  refine cx_aload_n (i := 0) hE d_Mo_reckon_44 rfl rfl ?_
  refine cx_get hE d_Mo_reckon_45 f_Mo_310 (by assumption) (by rfl) ?_
  rw [i50]
  refine cx_iconst (v := 1) hE d_Mo_reckon_48 (by decide) ?_
  refine cx_isub hE d_Mo_reckon_49 ?_
  rw [nI_pred]
  refine cx_iald 1 hE d_Mo_reckon_50 rfl (W_27.1.i 49 rfl) (vp_in_nI (by show _ < 4096; omega) (by show 4096 < 2147483648; omega)) ?_
  rw [nI_clamp (by omega)]
  refine cx_istore_n (i := 3) hE d_Mo_reckon_51 rfl (by decide) ?_
  refine cx_iload_n (i := 1) hE d_Mo_reckon_52 rfl rfl ?_
  refine cx_wS hE d_Mo_reckon_53 l_Mo_220 (s_rank _) rfl (by omega) (Nat.le_of_ble_eq_true rfl) n_Mo_rank (by first | rfl | (simp only [List.map_cons, List.map_nil, cx_rfc]; rfl)) (fun v_53 K_53 => ?_)
  subst K_53
  refine cx_istore hE d_Mo_reckon_56 (by decide) ?_
  refine cx_iload hE d_Mo_reckon_58 rfl ?_
  refine cx_iconst (v := 3) hE d_Mo_reckon_60 (by decide) ?_
  refine cx_icmp_lt (tgt := 71)  hE d_Mo_reckon_61 (by decide) (fun c_61 => ?_) (fun c_61 => ?_)
  · refine cx_iconst (v := 1) hE d_Mo_reckon_71 (by decide) ?_
    refine cx_goto (tgt := 76) hE d_Mo_reckon_72 (by decide) ?_
    refine cx_istore hE d_Mo_reckon_76 (by decide) ?_
    refine cx_aload_n (i := 0) hE d_Mo_reckon_78 rfl rfl ?_
    refine cx_get hE d_Mo_reckon_79 f_Mo_187 (by assumption) (by rfl) ?_
    refine cx_if_ne (tgt := 110)  hE d_Mo_reckon_82 (by decide) (fun c_82 => ?_) (fun c_82 => ?_)
    · refine cx_sub [1, 2, 3, 4, 5] rfl ?_
      exact h110 _ _ (by rw [rp_ff_n (fun z => c_82 z.1)]; exact W_27)
    · refine cx_iload hE d_Mo_reckon_85 rfl ?_
      refine cx_if_ne (tgt := 110)  hE d_Mo_reckon_87 (by decide) (fun c_87 => ?_) (fun c_87 => ?_)
      · refine cx_sub [1, 2, 3, 4, 5] rfl ?_
        exact h110 _ _ (by rw [rp_ff_n (fun z => z.2.1 (Or.inl c_61))]; exact W_27)
      · exact absurd c_87 (by decide)
        -- end
  · refine cx_iload hE d_Mo_reckon_64 rfl ?_
    refine cx_bipush (v := 8) hE d_Mo_reckon_66 (by decide) ?_
    refine cx_icmp_ne (tgt := 75)  hE d_Mo_reckon_68 (by decide) (fun c_68 => ?_) (fun c_68 => ?_)
    · refine cx_iconst (v := 0) hE d_Mo_reckon_75 (by decide) ?_
      refine cx_istore hE d_Mo_reckon_76 (by decide) ?_
      refine cx_aload_n (i := 0) hE d_Mo_reckon_78 rfl rfl ?_
      refine cx_get hE d_Mo_reckon_79 f_Mo_187 (by assumption) (by rfl) ?_
      refine cx_if_ne (tgt := 110)  hE d_Mo_reckon_82 (by decide) (fun c_82 => ?_) (fun c_82 => ?_)
      · refine cx_sub [1, 2, 3, 4, 5] rfl ?_
        exact h110 _ _ (by rw [rp_ff_n (fun z => c_82 z.1)]; exact W_27)
      · refine cx_iload hE d_Mo_reckon_85 rfl ?_
        refine cx_if_ne (tgt := 110)  hE d_Mo_reckon_87 (by decide) (fun c_87 => ?_) (fun c_87 => ?_)
        · exact absurd rfl c_87
          -- end
        · refine cx_iload_n (i := 3) hE d_Mo_reckon_90 rfl rfl ?_
          refine cx_iload_n (i := 2) hE d_Mo_reckon_91 rfl rfl ?_
          refine cx_icmp_eq (tgt := 110)  hE d_Mo_reckon_92 (by decide) (fun c_92 => ?_) (fun c_92 => ?_)
          · refine cx_sub [1, 2, 3, 4, 5] rfl ?_
            exact h110 _ _ (by rw [rp_ff_n (fun z => z.2.2 c_92)]; exact W_27)
          · refine cx_aload_n (i := 0) hE d_Mo_reckon_95 rfl rfl ?_
            refine cx_bipush (v := 30) hE d_Mo_reckon_96 (by decide) ?_
            refine cx_aload_n (i := 0) hE d_Mo_reckon_98 rfl rfl ?_
            refine cx_get hE d_Mo_reckon_99 f_Mo_107 (by assumption) (by rfl) ?_
            refine cx_aload_n (i := 0) hE d_Mo_reckon_102 rfl rfl ?_
            refine cx_get hE d_Mo_reckon_103 f_Mo_298 (by assumption) (by rfl) ?_
            rw [show (rp_pop M a bb).1 48 = nI a from rfl]
            refine cx_iald 1 hE d_Mo_reckon_106 rfl (W_27.1.i 47 rfl) (vp_in_nI (by show _ < 4096; omega) (by show 4096 < 2147483648; omega)) ?_
            rw [nI_clamp (by omega)]
            refine cx_w0 hE d_Mo_reckon_107 l_Mo_196 W_27 (s_fail (K := fun Mq9 => Mq9 = rm_fail _ _ (rp_pop M a bb)) W_27.1 W_27.2.2 rfl) rfl (by omega) (Nat.le_of_ble_eq_true rfl) n_Mo_fail (by first | rfl | (simp only [List.map_cons, List.map_nil, cx_rfc]; rfl)) (fun G_107 P_107 M_107 W_107 K_107 => ?_)
            have m_107 := W_107.1.1
            refine cx_sub [1, 2, 3, 4, 5] rfl ?_
            exact h110 _ _ (by rw [rp_ff_p c_82 ⟨fun z => z.elim c_61 c_68, c_92⟩]; subst K_107; exact W_107)
    · refine cx_iconst (v := 1) hE d_Mo_reckon_71 (by decide) ?_
      refine cx_goto (tgt := 76) hE d_Mo_reckon_72 (by decide) ?_
      refine cx_istore hE d_Mo_reckon_76 (by decide) ?_
      refine cx_aload_n (i := 0) hE d_Mo_reckon_78 rfl rfl ?_
      refine cx_get hE d_Mo_reckon_79 f_Mo_187 (by assumption) (by rfl) ?_
      refine cx_if_ne (tgt := 110)  hE d_Mo_reckon_82 (by decide) (fun c_82 => ?_) (fun c_82 => ?_)
      · refine cx_sub [1, 2, 3, 4, 5] rfl ?_
        exact h110 _ _ (by rw [rp_ff_n (fun z => c_82 z.1)]; exact W_27)
      · refine cx_iload hE d_Mo_reckon_85 rfl ?_
        refine cx_if_ne (tgt := 110)  hE d_Mo_reckon_87 (by decide) (fun c_87 => ?_) (fun c_87 => ?_)
        · refine cx_sub [1, 2, 3, 4, 5] rfl ?_
          exact h110 _ _ (by rw [rp_ff_n (fun z => z.2.1 (Or.inr c_68))]; exact W_27)
        · exact absurd c_87 (by decide)
          -- end
set_option maxRecDepth 100000 in
theorem c_Mo_part {k : cx_K} {l : Launch} {G : cx_G} {mo : Nat} {P : Nat → Nat} {M : rm_M} {b : Nat × Nat} (hm : rm_R k G mo P M) (hQ : rm_Q b G M) {q : Nat} {K : Int32 → rm_M → Prop} (hK : rp_prt q K M)  : cx_Sp k l m_Mo_part 4 [.ref mo, .int (nI q)] G (rp_P k mo b G P K) := by
  intro E hE
  have W0 := rm_W.rf hm hQ
  have m0 := hm.1
  obtain ⟨hq, hK⟩ := hK
  have h67 : ∀ (G1 : cx_G) (P1 : Nat → Nat) (M1 : rm_M) (wh h0 l0 : Int32), rm_W k mo b G P G1 P1 M1 → rp_ptt q wh h0 l0 K (rp_i M1 1) → cx_V E 67 [(4, false, .int l0), (3, false, .int h0), (2, false, .int wh), (0, false, .ref mo), (1, false, .int (nI q))] [] G1 := by
    intro G1 P1 M1 wh h0 l0 W1 hK
    have m1 := W1.1.1
    refine cx_aload_n (i := 0) hE d_Mo_part_67 rfl rfl ?_
    refine cx_dup hE d_Mo_part_68 ?_
    refine cx_get hE d_Mo_part_69 f_Mo_193 (by assumption) (by rfl) ?_
    refine cx_iconst (v := 1) hE d_Mo_part_72 (by decide) ?_
    refine cx_iadd hE d_Mo_part_73 ?_
    refine cx_putg hE d_Mo_part_74 f_Mo_193 (by assumption) (Nat.le_of_ble_eq_true rfl) (by first | rfl | exact cx_nr _ _) (by first | rfl | exact cx_fr _ _) (fun G_74 g_74 h_74 => ?_)
    rw [rm_s8] at g_74
    clear h_74
    have W_74 : rm_W k mo b G P G_74 P1 (rp_i M1 1) := W1.pi g_74
    have m_74 := W_74.1.1
    refine cx_iload_n (i := 3) hE d_Mo_part_77 rfl rfl ?_
    refine cx_iload hE d_Mo_part_78 rfl ?_
    refine cx_icmp_lt (tgt := 93)  hE d_Mo_part_80 (by decide) (fun c_80 => ?_) (fun c_80 => ?_)
    · have K_93 := rp_ifp hK (Or.inl c_80)
      refine cx_aload_n (i := 0) hE d_Mo_part_93 rfl rfl ?_
      refine cx_bipush (v := 30) hE d_Mo_part_94 (by decide) ?_
      refine cx_iload_n (i := 2) hE d_Mo_part_96 rfl rfl ?_
      refine cx_w0 hE d_Mo_part_97 l_Mo_196 W_74 (s_fail W_74.1 W_74.2.2 K_93) rfl (by omega) (Nat.le_of_ble_eq_true rfl) n_Mo_fail (by first | rfl | (simp only [List.map_cons, List.map_nil, cx_rfc]; rfl)) (fun G_97 P_97 M_97 W_97 K_97 => ?_)
      have m_97 := W_97.1.1
      refine cx_iconst (v := 0) hE d_Mo_part_100 (by decide) ?_
      refine cx_iret hE d_Mo_part_101 rfl rfl ?_
      exact ⟨_, _, _, rfl, W_97, K_97⟩
    · refine cx_iload_n (i := 3) hE d_Mo_part_83 rfl rfl ?_
      refine cx_aload_n (i := 0) hE d_Mo_part_84 rfl rfl ?_
      refine cx_get hE d_Mo_part_85 f_Mo_43 (by assumption) (by rfl) ?_
      refine cx_iload_n (i := 1) hE d_Mo_part_88 rfl rfl ?_
      refine cx_iald 1 hE d_Mo_part_89 rfl (W_74.1.i 20 rfl) (vp_in_nI (by show _ < 11000; omega) (by show 11000 < 2147483648; omega)) ?_
      rw [nI_clamp (by omega)]
      refine cx_icmp_lt (tgt := 102)  hE d_Mo_part_90 (by decide) (fun c_90 => ?_) (fun c_90 => ?_)
      · have K_93 := rp_ifn hK (fun z => z.elim c_80 (fun z => absurd c_90 (Int32.not_lt.mpr z)))
        refine cx_sipush (v := 256) hE d_Mo_part_102 (by decide) ?_
        refine cx_iload_n (i := 3) hE d_Mo_part_105 rfl rfl ?_
        refine cx_imul hE d_Mo_part_106 ?_
        refine cx_iload hE d_Mo_part_107 rfl ?_
        refine cx_iadd hE d_Mo_part_109 ?_
        refine cx_iret hE d_Mo_part_110 rfl rfl ?_
        exact ⟨_, _, _, rfl, W_74, K_93⟩
      · have K_93 := rp_ifp hK (Or.inr (Int32.not_lt.mp c_90))
        refine cx_aload_n (i := 0) hE d_Mo_part_93 rfl rfl ?_
        refine cx_bipush (v := 30) hE d_Mo_part_94 (by decide) ?_
        refine cx_iload_n (i := 2) hE d_Mo_part_96 rfl rfl ?_
        refine cx_w0 hE d_Mo_part_97 l_Mo_196 W_74 (s_fail W_74.1 W_74.2.2 K_93) rfl (by omega) (Nat.le_of_ble_eq_true rfl) n_Mo_fail (by first | rfl | (simp only [List.map_cons, List.map_nil, cx_rfc]; rfl)) (fun G_97 P_97 M_97 W_97 K_97 => ?_)
        have m_97 := W_97.1.1
        refine cx_iconst (v := 0) hE d_Mo_part_100 (by decide) ?_
        refine cx_iret hE d_Mo_part_101 rfl rfl ?_
        exact ⟨_, _, _, rfl, W_97, K_97⟩
  refine cx_aload_n (i := 0) hE d_Mo_part_0 rfl rfl ?_
  refine cx_get hE d_Mo_part_1 f_Mo_19 (by assumption) (by rfl) ?_
  refine cx_aload_n (i := 0) hE d_Mo_part_4 rfl rfl ?_
  refine cx_get hE d_Mo_part_5 f_Mo_193 (by assumption) (by rfl) ?_
  obtain ⟨i_8, e_8, l_8, K_8⟩ := hK
  rw [e_8]
  refine cx_iald 1 hE d_Mo_part_8 rfl (W0.1.i 5 rfl) (vp_in_nI (by show _ < 65540; omega) (by show 65540 < 2147483648; omega)) ?_
  rw [nI_clamp (by omega)]
  refine cx_istore_n (i := 2) hE d_Mo_part_9 rfl (by decide) ?_
  refine cx_aload_n (i := 0) hE d_Mo_part_10 rfl rfl ?_
  refine cx_aload_n (i := 0) hE d_Mo_part_11 rfl rfl ?_
  refine cx_get hE d_Mo_part_12 f_Mo_193 (by assumption) (by rfl) ?_
  refine cx_iconst (v := 1) hE d_Mo_part_15 (by decide) ?_
  refine cx_iadd hE d_Mo_part_16 ?_
  refine cx_wL hE d_Mo_part_17 l_Mo_316 W0 (s_num W0.1 W0.2.2 K_8) rfl (by omega) (Nat.le_of_ble_eq_true rfl) n_Mo_numberOf (by first | rfl | (simp only [List.map_cons, List.map_nil, cx_rfc]; rfl)) (fun v_17 G_17 P_17 M_17 W_17 K_17 => ?_)
  have m_17 := W_17.1.1
  refine cx_l2i hE d_Mo_part_20 ?_
  refine cx_istore_n (i := 3) hE d_Mo_part_21 rfl (by decide) ?_
  refine cx_iload_n (i := 3) hE d_Mo_part_22 rfl rfl ?_
  refine cx_istore hE d_Mo_part_23 (by decide) ?_
  refine cx_aload_n (i := 0) hE d_Mo_part_25 rfl rfl ?_
  refine cx_aload_n (i := 0) hE d_Mo_part_26 rfl rfl ?_
  refine cx_get hE d_Mo_part_27 f_Mo_193 (by assumption) (by rfl) ?_
  refine cx_iconst (v := 2) hE d_Mo_part_30 (by decide) ?_
  refine cx_iadd hE d_Mo_part_31 ?_
  refine cx_putg hE d_Mo_part_32 f_Mo_193 (by assumption) (Nat.le_of_ble_eq_true rfl) (by first | rfl | exact cx_nr _ _) (by first | rfl | exact cx_fr _ _) (fun G_32 g_32 h_32 => ?_)
  rw [rm_s8] at g_32
  clear h_32
  have W_32 : rm_W k mo b G P G_32 P_17 (rp_i M_17 2) := W_17.pi g_32
  have m_32 := W_32.1.1
  refine cx_aload_n (i := 0) hE d_Mo_part_35 rfl rfl ?_
  refine cx_wR hE d_Mo_part_36 l_Mo_216 W_32 (s_kind W_32.1 K_17) rfl (by omega) (Nat.le_of_ble_eq_true rfl) n_Mo_kind (by first | rfl | (simp only [List.map_cons, List.map_nil, cx_rfc]; rfl)) (fun v_36 K_36 => ?_)
  refine cx_bipush (v := 58) hE d_Mo_part_39 (by decide) ?_
  refine cx_icmp_ne (tgt := 67)  hE d_Mo_part_41 (by decide) (fun c_41 => ?_) (fun c_41 => ?_)
  · have K_41 := rp_ifn K_36 c_41
    refine cx_sub [0, 1, 2, 3, 4] rfl ?_
    exact h67 _ _ _ _ _ _ W_32 K_41
  · have K_41 := rp_ifp K_36 c_41
    refine cx_aload_n (i := 0) hE d_Mo_part_44 rfl rfl ?_
    refine cx_aload_n (i := 0) hE d_Mo_part_45 rfl rfl ?_
    refine cx_get hE d_Mo_part_46 f_Mo_193 (by assumption) (by rfl) ?_
    refine cx_iconst (v := 1) hE d_Mo_part_49 (by decide) ?_
    refine cx_iadd hE d_Mo_part_50 ?_
    refine cx_wL hE d_Mo_part_51 l_Mo_316 W_32 (s_num W_32.1 W_32.2.2 K_41) rfl (by omega) (Nat.le_of_ble_eq_true rfl) n_Mo_numberOf (by first | rfl | (simp only [List.map_cons, List.map_nil, cx_rfc]; rfl)) (fun v_51 G_51 P_51 M_51 W_51 K_51 => ?_)
    have m_51 := W_51.1.1
    refine cx_l2i hE d_Mo_part_54 ?_
    refine cx_istore hE d_Mo_part_55 (by decide) ?_
    refine cx_aload_n (i := 0) hE d_Mo_part_57 rfl rfl ?_
    refine cx_aload_n (i := 0) hE d_Mo_part_58 rfl rfl ?_
    refine cx_get hE d_Mo_part_59 f_Mo_193 (by assumption) (by rfl) ?_
    refine cx_iconst (v := 2) hE d_Mo_part_62 (by decide) ?_
    refine cx_iadd hE d_Mo_part_63 ?_
    refine cx_putg hE d_Mo_part_64 f_Mo_193 (by assumption) (Nat.le_of_ble_eq_true rfl) (by first | rfl | exact cx_nr _ _) (by first | rfl | exact cx_fr _ _) (fun G_64 g_64 h_64 => ?_)
    rw [rm_s8] at g_64
    clear h_64
    have W_64 : rm_W k mo b G P G_64 P_51 (rp_i M_51 2) := W_51.pi g_64
    have m_64 := W_64.1.1
    refine cx_sub [0, 1, 2, 3, 4] rfl ?_
    exact h67 _ _ _ _ _ _ W_64 K_51

/-! THE SECOND PASS: braces, a primary, an operand, step by step. -/
theorem rq_cmp0 {x y : Int64} : lg_cmp x y = 0 ↔ x = y := by
  unfold lg_cmp
  split
  · rename_i h
    constructor
    · intro z; exact absurd z (by decide)
    · intro z; rw [z] at h; exact absurd h (Int64.lt_irrefl)
  · split
    · rename_i h
      constructor
      · intro _; exact h
      · intro _; rfl
    · rename_i h
      constructor
      · intro z; exact absurd z (by decide)
      · intro z; exact absurd z h
theorem rq_cmpL {x y : Int64} : lg_cmp x y ≤ 0 ↔ ¬ y < x := by
  unfold lg_cmp
  split
  · rename_i h
    constructor
    · intro z; exact absurd z (by decide)
    · intro z; exact absurd h z
  · split
    · rename_i h
      constructor
      · intro _ z; rw [h] at z; exact Int64.lt_irrefl z
      · intro _; decide
    · rename_i h1 h2
      constructor
      · intro _; exact h1
      · intro _; decide
set_option maxRecDepth 100000 in
theorem c_Mo_braces {k : cx_K} {l : Launch} {G : cx_G} {mo : Nat} {P : Nat → Nat} {M : rm_M} {b : Nat × Nat} {N : Nat} {Ex : rp_E} {fe : Nat} (hX : rp_XE k l mo b Ex fe) (hfe : 5 ≤ fe) (hm : rm_R k G mo P M) (hQ : rm_Q b G M) {wh : Int32} {K : Int32 → rm_M → Prop} (hK : rp_brc N Ex wh K M)  : cx_Sp k l m_Mo_braces (fe + 1) [.ref mo, .int wh] G (rp_P k mo b G P K) := by
  intro E hE
  have W0 := rm_W.rf hm hQ
  have m0 := hm.1
  have hjn : ∀ (n : Nat) (sum : Int64) (Gx : cx_G) (Px : Nat → Nat) (Mx : rm_M), rm_W k mo b G P Gx Px Mx → rp_jn Ex wh K n sum Mx → cx_V E 110 [(2, true, .long sum), (0, false, .ref mo), (1, false, .int wh)] [] Gx := by
    intro n
    induction n with
    | zero => intro sum Gx Px Mx _ h; exact h.elim
    | succ n ih =>
      intro sum Gx Px Mx Wx hK
      have mx := Wx.1.1
      unfold rp_jn at hK
      refine cx_aload_n (i := 0) hE d_Mo_braces_110 rfl rfl ?_
      refine cx_bipush (v := 44) hE d_Mo_braces_111 (by decide) ?_
      refine cx_wR hE d_Mo_braces_113 l_Mo_203 Wx (s_is Wx.1 hK) rfl (by omega) (Nat.le_of_ble_eq_true rfl) n_Mo_is (by first | rfl | (simp only [List.map_cons, List.map_nil, cx_rfc]; rfl)) (fun v_113 K_113 => ?_)
      obtain ⟨b_113, rfl, K_113⟩ := K_113
      refine cx_if_eq (tgt := 153)  hE d_Mo_braces_116 (by decide) (fun c_116 => ?_) (fun c_116 => ?_)
      · have K_116 := rp_ifn K_113 (by rw [cx_b0.mp c_116]; decide)
        refine cx_aload_n (i := 0) hE d_Mo_braces_153 rfl rfl ?_
        refine cx_dup hE d_Mo_braces_154 ?_
        refine cx_get hE d_Mo_braces_155 f_Mo_193 (by assumption) (by rfl) ?_
        refine cx_iconst (v := 1) hE d_Mo_braces_158 (by decide) ?_
        refine cx_iadd hE d_Mo_braces_159 ?_
        refine cx_putg hE d_Mo_braces_160 f_Mo_193 (by assumption) (Nat.le_of_ble_eq_true rfl) (by first | rfl | exact cx_nr _ _) (by first | rfl | exact cx_fr _ _) (fun G_160 g_160 h_160 => ?_)
        rw [rm_s8] at g_160
        clear h_160
        have W_160 : rm_W k mo b G P G_160 Px (rp_i Mx 1) := Wx.pi g_160
        have m_160 := W_160.1.1
        have h185 : ∀ (G1 : cx_G) (P1 : Nat → Nat), rm_W k mo b G P G1 P1 (rp_ff (64 < sum) 30 wh (rp_i Mx 1)) → cx_V E 185 [(2, true, .long sum), (0, false, .ref mo), (1, false, .int wh)] [] G1 := by
          intro G1 P1 W1
          have m1 := W1.1.1
          refine cx_aload_n (i := 0) hE d_Mo_braces_185 rfl rfl ?_
          refine cx_get hE d_Mo_braces_186 f_Mo_187 (by assumption) (by rfl) ?_
          refine cx_if_ne (tgt := 197)  hE d_Mo_braces_189 (by decide) (fun c_189 => ?_) (fun c_189 => ?_)
          · rw [if_neg c_189] at K_116
            refine cx_iconst (v := 1) hE d_Mo_braces_197 (by decide) ?_
            refine cx_iret hE d_Mo_braces_198 rfl rfl ?_
            exact ⟨_, _, _, rfl, W1, K_116⟩
          · rw [if_pos c_189] at K_116
            refine cx_lload_n (i := 2) hE d_Mo_braces_192 rfl rfl ?_
            refine cx_l2i hE d_Mo_braces_193 ?_
            refine cx_goto (tgt := 198) hE d_Mo_braces_194 (by decide) ?_
            refine cx_iret hE d_Mo_braces_198 rfl rfl ?_
            exact ⟨_, _, _, rfl, W1, K_116⟩
        refine cx_aload_n (i := 0) hE d_Mo_braces_163 rfl rfl ?_
        refine cx_get hE d_Mo_braces_164 f_Mo_187 (by assumption) (by rfl) ?_
        refine cx_if_ne (tgt := 185)  hE d_Mo_braces_167 (by decide) (fun c_167 => ?_) (fun c_167 => ?_)
        · refine cx_sub [0, 1, 2] rfl ?_
          exact h185 _ _ (by rw [rp_ff_n (fun z => c_167 z.1)]; exact W_160)
        · refine cx_lload_n (i := 2) hE d_Mo_braces_170 rfl rfl ?_
          refine cx_ldc2 (v := 64) hE d_Mo_braces_171 (in_7 (List.mem_of_getElem? (i := 91) rfl)) ?_
          refine cx_lcmp hE d_Mo_braces_174 ?_
          refine cx_if_le (tgt := 185)  hE d_Mo_braces_175 (by decide) (fun c_175 => ?_) (fun c_175 => ?_)
          · refine cx_sub [0, 1, 2] rfl ?_
            exact h185 _ _ (by rw [rp_ff_n (fun z => rq_cmpL.mp c_175 z.2)]; exact W_160)
          · refine cx_aload_n (i := 0) hE d_Mo_braces_178 rfl rfl ?_
            refine cx_bipush (v := 30) hE d_Mo_braces_179 (by decide) ?_
            refine cx_iload_n (i := 1) hE d_Mo_braces_181 rfl rfl ?_
            refine cx_w0 hE d_Mo_braces_182 l_Mo_196 W_160 (s_fail (K := fun Mq9 => Mq9 = rm_fail _ _ (rp_i Mx 1)) W_160.1 W_160.2.2 rfl) rfl (by omega) (Nat.le_of_ble_eq_true rfl) n_Mo_fail (by first | rfl | (simp only [List.map_cons, List.map_nil, cx_rfc]; rfl)) (fun G_182 P_182 M_182 W_182 K_182 => ?_)
            have m_182 := W_182.1.1
            refine cx_sub [0, 1, 2] rfl ?_
            exact h185 _ _ (by rw [rp_ff_p c_167 (Decidable.not_not.mp (fun z => c_175 (rq_cmpL.mpr z)))]; subst K_182; exact W_182)
      · have K_116 := rp_ifp K_113 (cx_bn.mp c_116)
        refine cx_aload_n (i := 0) hE d_Mo_braces_119 rfl rfl ?_
        refine cx_dup hE d_Mo_braces_120 ?_
        refine cx_get hE d_Mo_braces_121 f_Mo_193 (by assumption) (by rfl) ?_
        refine cx_iconst (v := 1) hE d_Mo_braces_124 (by decide) ?_
        refine cx_iadd hE d_Mo_braces_125 ?_
        refine cx_putg hE d_Mo_braces_126 f_Mo_193 (by assumption) (Nat.le_of_ble_eq_true rfl) (by first | rfl | exact cx_nr _ _) (by first | rfl | exact cx_fr _ _) (fun G_126 g_126 h_126 => ?_)
        rw [rm_s8] at g_126
        clear h_126
        have W_126 : rm_W k mo b G P G_126 Px (rp_i Mx 1) := Wx.pi g_126
        have m_126 := W_126.1.1
        refine cx_aload_n (i := 0) hE d_Mo_braces_129 rfl rfl ?_
        refine cx_wP hE d_Mo_braces_130 l_Mo_288 W_126 (hX _ _ _ _ W_126.1 W_126.2.2 K_116) rfl (by omega) (Nat.le_of_ble_eq_true rfl) n_Mo_exp (by first | rfl | (simp only [List.map_cons, List.map_nil, cx_rfc]; rfl)) (fun v_130 G_130 P_130 M_130 W_130 K_130 => ?_)
        have m_130 := W_130.1.1
        refine cx_istore hE d_Mo_braces_133 (by decide) ?_
        refine cx_aload_n (i := 0) hE d_Mo_braces_135 rfl rfl ?_
        refine cx_bipush (v := 7) hE d_Mo_braces_136 (by decide) ?_
        refine cx_iload hE d_Mo_braces_138 rfl ?_
        refine cx_iconst (v := 0) hE d_Mo_braces_140 (by decide) ?_
        refine cx_w0 hE d_Mo_braces_141 l_Mo_295 W_130 (s_lay W_130.1 W_130.2.2 K_130) rfl (by omega) (Nat.le_of_ble_eq_true rfl) n_Mo_lay (by first | rfl | (simp only [List.map_cons, List.map_nil, cx_rfc]; rfl)) (fun G_141 P_141 M_141 W_141 K_141 => ?_)
        have m_141 := W_141.1.1
        refine cx_lload_n (i := 2) hE d_Mo_braces_144 rfl rfl ?_
        refine cx_iload hE d_Mo_braces_145 rfl ?_
        refine cx_i2l hE d_Mo_braces_147 ?_
        refine cx_ladd hE d_Mo_braces_148 ?_
        refine cx_lstore_n (i := 2) hE d_Mo_braces_149 rfl (by decide) ?_
        refine cx_goto (tgt := 110) hE d_Mo_braces_150 (by decide) ?_
        refine cx_sub [0, 2, 3] rfl ?_
        exact ih _ _ _ _ W_141 K_141
  refine cx_aload_n (i := 0) hE d_Mo_braces_0 rfl rfl ?_
  refine cx_wR hE d_Mo_braces_1 l_Mo_216 W0 (s_kind W0.1 hK) rfl (by omega) (Nat.le_of_ble_eq_true rfl) n_Mo_kind (by first | rfl | (simp only [List.map_cons, List.map_nil, cx_rfc]; rfl)) (fun v_1 K_1 => ?_)
  refine cx_sipush (v := 401) hE d_Mo_braces_4 (by decide) ?_
  refine cx_icmp_ne (tgt := 104)  hE d_Mo_braces_7 (by decide) (fun c_7 => ?_) (fun c_7 => ?_)
  · have K_7 := rp_ifn K_1 c_7
    refine cx_aload_n (i := 0) hE d_Mo_braces_104 rfl rfl ?_
    refine cx_wP hE d_Mo_braces_105 l_Mo_288 W0 (hX _ _ _ _ W0.1 W0.2.2 K_7) rfl (by omega) (Nat.le_of_ble_eq_true rfl) n_Mo_exp (by first | rfl | (simp only [List.map_cons, List.map_nil, cx_rfc]; rfl)) (fun v_105 G_105 P_105 M_105 W_105 K_105 => ?_)
    have m_105 := W_105.1.1
    refine cx_i2l hE d_Mo_braces_108 ?_
    refine cx_lstore_n (i := 2) hE d_Mo_braces_109 rfl (by decide) ?_
    refine cx_sub [0, 1, 2] rfl ?_
    exact hjn _ _ _ _ _ W_105 K_105
  · have K_7 := rp_ifp K_1 c_7
    refine cx_aload_n (i := 0) hE d_Mo_braces_10 rfl rfl ?_
    refine cx_aload_n (i := 0) hE d_Mo_braces_11 rfl rfl ?_
    refine cx_get hE d_Mo_braces_12 f_Mo_193 (by assumption) (by rfl) ?_
    refine cx_wL hE d_Mo_braces_15 l_Mo_316 W0 (s_num W0.1 W0.2.2 K_7) rfl (by omega) (Nat.le_of_ble_eq_true rfl) n_Mo_numberOf (by first | rfl | (simp only [List.map_cons, List.map_nil, cx_rfc]; rfl)) (fun v_15 G_15 P_15 M_15 W_15 K_15 => ?_)
    have m_15 := W_15.1.1
    refine cx_lstore_n (i := 2) hE d_Mo_braces_18 rfl (by decide) ?_
    refine cx_aload_n (i := 0) hE d_Mo_braces_19 rfl rfl ?_
    refine cx_aload_n (i := 0) hE d_Mo_braces_20 rfl rfl ?_
    refine cx_get hE d_Mo_braces_21 f_Mo_193 (by assumption) (by rfl) ?_
    refine cx_iconst (v := 2) hE d_Mo_braces_24 (by decide) ?_
    refine cx_iadd hE d_Mo_braces_25 ?_
    refine cx_putg hE d_Mo_braces_26 f_Mo_193 (by assumption) (Nat.le_of_ble_eq_true rfl) (by first | rfl | exact cx_nr _ _) (by first | rfl | exact cx_fr _ _) (fun G_26 g_26 h_26 => ?_)
    rw [rm_s8] at g_26
    clear h_26
    have W_26 : rm_W k mo b G P G_26 P_15 (rp_i M_15 2) := W_15.pi g_26
    have m_26 := W_26.1.1
    refine cx_aload_n (i := 0) hE d_Mo_braces_29 rfl rfl ?_
    refine cx_wP hE d_Mo_braces_30 l_Mo_288 W_26 (hX _ _ _ _ W_26.1 W_26.2.2 K_15) rfl (by omega) (Nat.le_of_ble_eq_true rfl) n_Mo_exp (by first | rfl | (simp only [List.map_cons, List.map_nil, cx_rfc]; rfl)) (fun v_30 G_30 P_30 M_30 W_30 K_30 => ?_)
    have m_30 := W_30.1.1
    refine cx_istore hE d_Mo_braces_33 (by decide) ?_
    refine cx_aload_n (i := 0) hE d_Mo_braces_35 rfl rfl ?_
    refine cx_aload_n (i := 0) hE d_Mo_braces_36 rfl rfl ?_
    refine cx_get hE d_Mo_braces_37 f_Mo_193 (by assumption) (by rfl) ?_
    refine cx_iconst (v := 2) hE d_Mo_braces_40 (by decide) ?_
    refine cx_iadd hE d_Mo_braces_41 ?_
    refine cx_putg hE d_Mo_braces_42 f_Mo_193 (by assumption) (Nat.le_of_ble_eq_true rfl) (by first | rfl | exact cx_nr _ _) (by first | rfl | exact cx_fr _ _) (fun G_42 g_42 h_42 => ?_)
    rw [rm_s8] at g_42
    clear h_42
    have W_42 : rm_W k mo b G P G_42 P_30 (rp_i M_30 2) := W_30.pi g_42
    have m_42 := W_42.1.1
    have h77 : ∀ (G1 : cx_G) (P1 : Nat → Nat), rm_W k mo b G P G1 P1 (rp_ff (v_15 = 0 ∨ 64 < v_15 * v_30.toInt64) 30 wh (rp_i M_30 2)) → cx_V E 77 [(4, false, .int v_30), (2, true, .long v_15), (0, false, .ref mo), (1, false, .int wh)] [] G1 := by
      intro G1 P1 W1
      have m1 := W1.1.1
      refine cx_aload_n (i := 0) hE d_Mo_braces_77 rfl rfl ?_
      refine cx_bipush (v := 8) hE d_Mo_braces_78 (by decide) ?_
      refine cx_lload_n (i := 2) hE d_Mo_braces_80 rfl rfl ?_
      refine cx_l2i hE d_Mo_braces_81 ?_
      refine cx_iload hE d_Mo_braces_82 rfl ?_
      refine cx_w0 hE d_Mo_braces_84 l_Mo_295 W1 (s_lay W1.1 W1.2.2 K_30) rfl (by omega) (Nat.le_of_ble_eq_true rfl) n_Mo_lay (by first | rfl | (simp only [List.map_cons, List.map_nil, cx_rfc]; rfl)) (fun G_84 P_84 M_84 W_84 K_84 => ?_)
      have m_84 := W_84.1.1
      refine cx_aload_n (i := 0) hE d_Mo_braces_87 rfl rfl ?_
      refine cx_get hE d_Mo_braces_88 f_Mo_187 (by assumption) (by rfl) ?_
      refine cx_if_ne (tgt := 102)  hE d_Mo_braces_91 (by decide) (fun c_91 => ?_) (fun c_91 => ?_)
      · rw [if_neg c_91] at K_84
        refine cx_iconst (v := 1) hE d_Mo_braces_102 (by decide) ?_
        refine cx_iret hE d_Mo_braces_103 rfl rfl ?_
        exact ⟨_, _, _, rfl, W_84, K_84⟩
      · rw [if_pos c_91] at K_84
        refine cx_lload_n (i := 2) hE d_Mo_braces_94 rfl rfl ?_
        refine cx_l2i hE d_Mo_braces_95 ?_
        refine cx_iload hE d_Mo_braces_96 rfl ?_
        refine cx_imul hE d_Mo_braces_98 ?_
        refine cx_goto (tgt := 103) hE d_Mo_braces_99 (by decide) ?_
        refine cx_iret hE d_Mo_braces_103 rfl rfl ?_
        exact ⟨_, _, _, rfl, W_84, K_84⟩
    refine cx_aload_n (i := 0) hE d_Mo_braces_45 rfl rfl ?_
    refine cx_get hE d_Mo_braces_46 f_Mo_187 (by assumption) (by rfl) ?_
    refine cx_if_ne (tgt := 77)  hE d_Mo_braces_49 (by decide) (fun c_49 => ?_) (fun c_49 => ?_)
    · refine cx_sub [0, 1, 2, 3] rfl ?_
      exact h77 _ _ (by rw [rp_ff_n (fun z => c_49 z.1)]; exact W_42)
    · refine cx_lload_n (i := 2) hE d_Mo_braces_52 rfl rfl ?_
      refine cx_lconst (v := 0) hE d_Mo_braces_53 (by decide) ?_
      refine cx_lcmp hE d_Mo_braces_54 ?_
      refine cx_if_eq (tgt := 70)  hE d_Mo_braces_55 (by decide) (fun c_55 => ?_) (fun c_55 => ?_)
      · refine cx_aload_n (i := 0) hE d_Mo_braces_70 rfl rfl ?_
        refine cx_bipush (v := 30) hE d_Mo_braces_71 (by decide) ?_
        refine cx_iload_n (i := 1) hE d_Mo_braces_73 rfl rfl ?_
        refine cx_w0 hE d_Mo_braces_74 l_Mo_196 W_42 (s_fail (K := fun Mq9 => Mq9 = rm_fail _ _ (rp_i M_30 2)) W_42.1 W_42.2.2 rfl) rfl (by omega) (Nat.le_of_ble_eq_true rfl) n_Mo_fail (by first | rfl | (simp only [List.map_cons, List.map_nil, cx_rfc]; rfl)) (fun G_74 P_74 M_74 W_74 K_74 => ?_)
        have m_74 := W_74.1.1
        refine cx_sub [0, 1, 2, 3] rfl ?_
        exact h77 _ _ (by rw [rp_ff_p c_49 (Or.inl (rq_cmp0.mp c_55))]; subst K_74; exact W_74)
      · refine cx_lload_n (i := 2) hE d_Mo_braces_58 rfl rfl ?_
        refine cx_iload hE d_Mo_braces_59 rfl ?_
        refine cx_i2l hE d_Mo_braces_61 ?_
        refine cx_lmul hE d_Mo_braces_62 ?_
        refine cx_ldc2 (v := 64) hE d_Mo_braces_63 (in_7 (List.mem_of_getElem? (i := 91) rfl)) ?_
        refine cx_lcmp hE d_Mo_braces_66 ?_
        refine cx_if_le (tgt := 77)  hE d_Mo_braces_67 (by decide) (fun c_67 => ?_) (fun c_67 => ?_)
        · refine cx_sub [0, 1, 2, 3] rfl ?_
          exact h77 _ _ (by rw [rp_ff_n (fun z => z.2.elim (fun y => c_55 (rq_cmp0.mpr y)) (rq_cmpL.mp c_67))]; exact W_42)
        · refine cx_aload_n (i := 0) hE d_Mo_braces_70 rfl rfl ?_
          refine cx_bipush (v := 30) hE d_Mo_braces_71 (by decide) ?_
          refine cx_iload_n (i := 1) hE d_Mo_braces_73 rfl rfl ?_
          refine cx_w0 hE d_Mo_braces_74 l_Mo_196 W_42 (s_fail (K := fun Mq9 => Mq9 = rm_fail _ _ (rp_i M_30 2)) W_42.1 W_42.2.2 rfl) rfl (by omega) (Nat.le_of_ble_eq_true rfl) n_Mo_fail (by first | rfl | (simp only [List.map_cons, List.map_nil, cx_rfc]; rfl)) (fun G_74 P_74 M_74 W_74 K_74 => ?_)
          have m_74 := W_74.1.1
          refine cx_sub [0, 1, 2, 3] rfl ?_
          exact h77 _ _ (by rw [rp_ff_p c_49 (Or.inr (Decidable.not_not.mp (fun z => c_67 (rq_cmpL.mpr z))))]; subst K_74; exact W_74)
set_option maxRecDepth 100000 in
theorem c_Mo_primary {k : cx_K} {l : Launch} {G : cx_G} {mo : Nat} {P : Nat → Nat} {M : rm_M} {b : Nat × Nat} {N : Nat} {Ex : rp_E} {fe : Nat} (hX : rp_XE k l mo b Ex fe) (hfe : 5 ≤ fe) (hm : rm_R k G mo P M) (hQ : rm_Q b G M) {K : Int32 → rm_M → Prop} (hK : rp_prm N Ex K M)  : cx_Sp k l m_Mo_primary (fe + 2) [.ref mo] G (rp_P k mo b G P K) := by
  intro E hE
  have W0 := rm_W.rf hm hQ
  have m0 := hm.1
  refine cx_aload_n (i := 0) hE d_Mo_primary_0 rfl rfl ?_
  refine cx_get hE d_Mo_primary_1 f_Mo_187 (by assumption) (by rfl) ?_
  refine cx_if_eq (tgt := 9)  hE d_Mo_primary_4 (by decide) (fun c_4 => ?_) (fun c_4 => ?_)
  · have K_4 := rp_ifp hK c_4
    obtain ⟨i_9, e_9, l_9, K_9⟩ := K_4
    refine cx_aload_n (i := 0) hE d_Mo_primary_9 rfl rfl ?_
    refine cx_get hE d_Mo_primary_10 f_Mo_193 (by assumption) (by rfl) ?_
    rw [e_9]
    refine cx_istore_n (i := 1) hE d_Mo_primary_13 rfl (by decide) ?_
    refine cx_aload_n (i := 0) hE d_Mo_primary_14 rfl rfl ?_
    refine cx_dup hE d_Mo_primary_15 ?_
    refine cx_get hE d_Mo_primary_16 f_Mo_193 (by assumption) (by rfl) ?_
    refine cx_iconst (v := 1) hE d_Mo_primary_19 (by decide) ?_
    refine cx_iadd hE d_Mo_primary_20 ?_
    refine cx_putg hE d_Mo_primary_21 f_Mo_193 (by assumption) (Nat.le_of_ble_eq_true rfl) (by first | rfl | exact cx_nr _ _) (by first | rfl | exact cx_fr _ _) (fun G_21 g_21 h_21 => ?_)
    rw [rm_s8] at g_21
    clear h_21
    have W_21 : rm_W k mo b G P G_21 P (rp_i M 1) := W0.pi g_21
    have m_21 := W_21.1.1
    refine cx_aload_n (i := 0) hE d_Mo_primary_24 rfl rfl ?_
    refine cx_get hE d_Mo_primary_25 f_Mo_15 (by assumption) (by rfl) ?_
    refine cx_iload_n (i := 1) hE d_Mo_primary_28 rfl rfl ?_
    refine cx_iald 1 hE d_Mo_primary_29 rfl (W_21.1.i 4 rfl) (vp_in_nI (by show _ < 65540; omega) (by show 65540 < 2147483648; omega)) ?_
    rw [nI_clamp (by omega)]
    refine cx_sipush (v := 402) hE d_Mo_primary_30 (by decide) ?_
    refine cx_icmp_ne (tgt := 57)  hE d_Mo_primary_33 (by decide) (fun c_33 => ?_) (fun c_33 => ?_)
    · have K_33 := rp_ifn K_9 c_33
      refine cx_aload_n (i := 0) hE d_Mo_primary_57 rfl rfl ?_
      refine cx_get hE d_Mo_primary_58 f_Mo_15 (by assumption) (by rfl) ?_
      refine cx_iload_n (i := 1) hE d_Mo_primary_61 rfl rfl ?_
      refine cx_iald 1 hE d_Mo_primary_62 rfl (W_21.1.i 4 rfl) (vp_in_nI (by show _ < 65540; omega) (by show 65540 < 2147483648; omega)) ?_
      rw [nI_clamp (by omega)]
      refine cx_bipush (v := 40) hE d_Mo_primary_63 (by decide) ?_
      refine cx_icmp_ne (tgt := 85)  hE d_Mo_primary_65 (by decide) (fun c_65 => ?_) (fun c_65 => ?_)
      · have K_65 := rp_ifn K_33 c_65
        refine cx_aload_n (i := 0) hE d_Mo_primary_85 rfl rfl ?_
        refine cx_get hE d_Mo_primary_86 f_Mo_15 (by assumption) (by rfl) ?_
        refine cx_iload_n (i := 1) hE d_Mo_primary_89 rfl rfl ?_
        refine cx_iald 1 hE d_Mo_primary_90 rfl (W_21.1.i 4 rfl) (vp_in_nI (by show _ < 65540; omega) (by show 65540 < 2147483648; omega)) ?_
        rw [nI_clamp (by omega)]
        refine cx_bipush (v := 123) hE d_Mo_primary_91 (by decide) ?_
        refine cx_icmp_ne (tgt := 107)  hE d_Mo_primary_93 (by decide) (fun c_93 => ?_) (fun c_93 => ?_)
        · have K_93 := rp_ifn K_65 c_93
          refine cx_aload_n (i := 0) hE d_Mo_primary_107 rfl rfl ?_
          refine cx_iload_n (i := 1) hE d_Mo_primary_108 rfl rfl ?_
          refine cx_wR hE d_Mo_primary_109 l_Mo_330 W_21 (s_here W_21.1 K_93) rfl (by omega) (Nat.le_of_ble_eq_true rfl) n_Mo_here (by first | rfl | (simp only [List.map_cons, List.map_nil, cx_rfc]; rfl)) (fun v_109 K_109 => ?_)
          refine cx_istore_n (i := 2) hE d_Mo_primary_112 rfl (by decide) ?_
          refine cx_iload_n (i := 2) hE d_Mo_primary_113 rfl rfl ?_
          refine cx_if_ge (tgt := 131)  hE d_Mo_primary_114 (by decide) (fun c_114 => ?_) (fun c_114 => ?_)
          · have K_114 := rp_ifn K_109 (Int32.not_lt.mpr c_114)
            obtain ⟨j_131, rfl, l_131, K_131⟩ := K_114
            refine cx_aload_n (i := 0) hE d_Mo_primary_131 rfl rfl ?_
            refine cx_iconst (v := 1) hE d_Mo_primary_132 (by decide) ?_
            refine cx_iload_n (i := 2) hE d_Mo_primary_133 rfl rfl ?_
            refine cx_iconst (v := 0) hE d_Mo_primary_134 (by decide) ?_
            refine cx_w0 hE d_Mo_primary_135 l_Mo_295 W_21 (s_lay W_21.1 W_21.2.2 K_131) rfl (by omega) (Nat.le_of_ble_eq_true rfl) n_Mo_lay (by first | rfl | (simp only [List.map_cons, List.map_nil, cx_rfc]; rfl)) (fun G_135 P_135 M_135 W_135 K_135 => ?_)
            have m_135 := W_135.1.1
            refine cx_aload_n (i := 0) hE d_Mo_primary_138 rfl rfl ?_
            refine cx_wR hE d_Mo_primary_139 l_Mo_216 W_135 (s_kind W_135.1 K_135) rfl (by omega) (Nat.le_of_ble_eq_true rfl) n_Mo_kind (by first | rfl | (simp only [List.map_cons, List.map_nil, cx_rfc]; rfl)) (fun v_139 K_139 => ?_)
            refine cx_bipush (v := 91) hE d_Mo_primary_142 (by decide) ?_
            refine cx_icmp_eq (tgt := 154)  hE d_Mo_primary_144 (by decide) (fun c_144 => ?_) (fun c_144 => ?_)
            · have K_144 := rp_ifp K_139 c_144
              obtain ⟨i_154, e_154, l_154, K_154⟩ := K_144
              refine cx_aload_n (i := 0) hE d_Mo_primary_154 rfl rfl ?_
              refine cx_get hE d_Mo_primary_155 f_Mo_15 (by assumption) (by rfl) ?_
              refine cx_aload_n (i := 0) hE d_Mo_primary_158 rfl rfl ?_
              refine cx_get hE d_Mo_primary_159 f_Mo_193 (by assumption) (by rfl) ?_
              rw [e_154]
              refine cx_iconst (v := 1) hE d_Mo_primary_162 (by decide) ?_
              refine cx_iadd hE d_Mo_primary_163 ?_
              rw [nI_1]
              refine cx_iald 1 hE d_Mo_primary_164 rfl (W_135.1.i 4 rfl) (vp_in_nI (by show _ < 65540; omega) (by show 65540 < 2147483648; omega)) ?_
              rw [nI_clamp (by omega)]
              refine cx_sipush (v := 401) hE d_Mo_primary_165 (by decide) ?_
              refine cx_icmp_ne (tgt := 206)  hE d_Mo_primary_168 (by decide) (fun c_168 => ?_) (fun c_168 => ?_)
              · have K_168 := rp_ifn K_154 c_168
                refine cx_aload_n (i := 0) hE d_Mo_primary_206 rfl rfl ?_
                refine cx_dup hE d_Mo_primary_207 ?_
                refine cx_get hE d_Mo_primary_208 f_Mo_193 (by assumption) (by rfl) ?_
                refine cx_iconst (v := 1) hE d_Mo_primary_211 (by decide) ?_
                refine cx_iadd hE d_Mo_primary_212 ?_
                refine cx_putg hE d_Mo_primary_213 f_Mo_193 (by assumption) (Nat.le_of_ble_eq_true rfl) (by first | rfl | exact cx_nr _ _) (by first | rfl | exact cx_fr _ _) (fun G_213 g_213 h_213 => ?_)
                rw [rm_s8] at g_213
                clear h_213
                have W_213 : rm_W k mo b G P G_213 P_135 (rp_i M_135 1) := W_135.pi g_213
                have m_213 := W_213.1.1
                refine cx_aload_n (i := 0) hE d_Mo_primary_216 rfl rfl ?_
                refine cx_wP hE d_Mo_primary_217 l_Mo_288 W_213 (hX _ _ _ _ W_213.1 W_213.2.2 K_168) rfl (by omega) (Nat.le_of_ble_eq_true rfl) n_Mo_exp (by first | rfl | (simp only [List.map_cons, List.map_nil, cx_rfc]; rfl)) (fun v_217 G_217 P_217 M_217 W_217 K_217 => ?_)
                have m_217 := W_217.1.1
                refine cx_istore_n (i := 3) hE d_Mo_primary_220 rfl (by decide) ?_
                refine cx_aload_n (i := 0) hE d_Mo_primary_221 rfl rfl ?_
                refine cx_dup hE d_Mo_primary_222 ?_
                refine cx_get hE d_Mo_primary_223 f_Mo_193 (by assumption) (by rfl) ?_
                refine cx_iconst (v := 1) hE d_Mo_primary_226 (by decide) ?_
                refine cx_iadd hE d_Mo_primary_227 ?_
                refine cx_putg hE d_Mo_primary_228 f_Mo_193 (by assumption) (Nat.le_of_ble_eq_true rfl) (by first | rfl | exact cx_nr _ _) (by first | rfl | exact cx_fr _ _) (fun G_228 g_228 h_228 => ?_)
                rw [rm_s8] at g_228
                clear h_228
                have W_228 : rm_W k mo b G P G_228 P_217 (rp_i M_217 1) := W_217.pi g_228
                have m_228 := W_228.1.1
                refine cx_aload_n (i := 0) hE d_Mo_primary_231 rfl rfl ?_
                refine cx_iload_n (i := 3) hE d_Mo_primary_232 rfl rfl ?_
                refine cx_aload_n (i := 0) hE d_Mo_primary_233 rfl rfl ?_
                refine cx_get hE d_Mo_primary_234 f_Mo_43 (by assumption) (by rfl) ?_
                refine cx_iload_n (i := 2) hE d_Mo_primary_237 rfl rfl ?_
                refine cx_iald 1 hE d_Mo_primary_238 rfl (W_228.1.i 20 rfl) (vp_in_nI (by show _ < 11000; omega) (by show 11000 < 2147483648; omega)) ?_
                rw [nI_clamp (by omega)]
                refine cx_icmp_le (tgt := 247)  hE d_Mo_primary_239 (by decide) (fun c_239 => ?_) (fun c_239 => ?_)
                · rw [rp_max_le c_239] at K_217
                  refine cx_aload_n (i := 0) hE d_Mo_primary_247 rfl rfl ?_
                  refine cx_get hE d_Mo_primary_248 f_Mo_43 (by assumption) (by rfl) ?_
                  refine cx_iload_n (i := 2) hE d_Mo_primary_251 rfl rfl ?_
                  refine cx_iald 1 hE d_Mo_primary_252 rfl (W_228.1.i 20 rfl) (vp_in_nI (by show _ < 11000; omega) (by show 11000 < 2147483648; omega)) ?_
                  rw [nI_clamp (by omega)]
                  refine cx_i2l hE d_Mo_primary_253 ?_
                  refine cx_w0 hE d_Mo_primary_254 l_Mo_291 W_228 (s_cost W_228.1 W_228.2.2 K_217) rfl (by omega) (Nat.le_of_ble_eq_true rfl) n_Mo_cost (by first | rfl | (simp only [List.map_cons, List.map_nil, cx_rfc]; rfl)) (fun G_254 P_254 M_254 W_254 K_254 => ?_)
                  have m_254 := W_254.1.1
                  refine cx_aload_n (i := 0) hE d_Mo_primary_257 rfl rfl ?_
                  refine cx_iconst (v := 3) hE d_Mo_primary_258 (by decide) ?_
                  refine cx_aload_n (i := 0) hE d_Mo_primary_259 rfl rfl ?_
                  refine cx_get hE d_Mo_primary_260 f_Mo_43 (by assumption) (by rfl) ?_
                  refine cx_iload_n (i := 2) hE d_Mo_primary_263 rfl rfl ?_
                  refine cx_iald 1 hE d_Mo_primary_264 rfl (W_254.1.i 20 rfl) (vp_in_nI (by show _ < 11000; omega) (by show 11000 < 2147483648; omega)) ?_
                  rw [nI_clamp (by omega)]
                  refine cx_iconst (v := 0) hE d_Mo_primary_265 (by decide) ?_
                  refine cx_w0 hE d_Mo_primary_266 l_Mo_295 W_254 (s_lay W_254.1 W_254.2.2 K_254) rfl (by omega) (Nat.le_of_ble_eq_true rfl) n_Mo_lay (by first | rfl | (simp only [List.map_cons, List.map_nil, cx_rfc]; rfl)) (fun G_266 P_266 M_266 W_266 K_266 => ?_)
                  have m_266 := W_266.1.1
                  refine cx_iconst (v := 1) hE d_Mo_primary_269 (by decide) ?_
                  refine cx_iret hE d_Mo_primary_270 rfl rfl ?_
                  exact ⟨_, _, _, rfl, W_266, K_266⟩
                · rw [rp_max_gt c_239] at K_217
                  refine cx_iload_n (i := 3) hE d_Mo_primary_242 rfl rfl ?_
                  refine cx_i2l hE d_Mo_primary_243 ?_
                  refine cx_goto (tgt := 254) hE d_Mo_primary_244 (by decide) ?_
                  refine cx_w0 hE d_Mo_primary_254 l_Mo_291 W_228 (s_cost W_228.1 W_228.2.2 K_217) rfl (by omega) (Nat.le_of_ble_eq_true rfl) n_Mo_cost (by first | rfl | (simp only [List.map_cons, List.map_nil, cx_rfc]; rfl)) (fun G_254 P_254 M_254 W_254 K_254 => ?_)
                  have m_254 := W_254.1.1
                  refine cx_aload_n (i := 0) hE d_Mo_primary_257 rfl rfl ?_
                  refine cx_iconst (v := 3) hE d_Mo_primary_258 (by decide) ?_
                  refine cx_aload_n (i := 0) hE d_Mo_primary_259 rfl rfl ?_
                  refine cx_get hE d_Mo_primary_260 f_Mo_43 (by assumption) (by rfl) ?_
                  refine cx_iload_n (i := 2) hE d_Mo_primary_263 rfl rfl ?_
                  refine cx_iald 1 hE d_Mo_primary_264 rfl (W_254.1.i 20 rfl) (vp_in_nI (by show _ < 11000; omega) (by show 11000 < 2147483648; omega)) ?_
                  rw [nI_clamp (by omega)]
                  refine cx_iconst (v := 0) hE d_Mo_primary_265 (by decide) ?_
                  refine cx_w0 hE d_Mo_primary_266 l_Mo_295 W_254 (s_lay W_254.1 W_254.2.2 K_254) rfl (by omega) (Nat.le_of_ble_eq_true rfl) n_Mo_lay (by first | rfl | (simp only [List.map_cons, List.map_nil, cx_rfc]; rfl)) (fun G_266 P_266 M_266 W_266 K_266 => ?_)
                  have m_266 := W_266.1.1
                  refine cx_iconst (v := 1) hE d_Mo_primary_269 (by decide) ?_
                  refine cx_iret hE d_Mo_primary_270 rfl rfl ?_
                  exact ⟨_, _, _, rfl, W_266, K_266⟩
              · have K_168 := rp_ifp K_154 c_168
                refine cx_aload_n (i := 0) hE d_Mo_primary_171 rfl rfl ?_
                refine cx_iload_n (i := 2) hE d_Mo_primary_172 rfl rfl ?_
                refine cx_wP hE d_Mo_primary_173 l_Mo_333 W_135 (c_Mo_part W_135.1 W_135.2.2 K_168) rfl (by omega) (Nat.le_of_ble_eq_true rfl) n_Mo_part (by first | rfl | (simp only [List.map_cons, List.map_nil, cx_rfc]; rfl)) (fun v_173 G_173 P_173 M_173 W_173 K_173 => ?_)
                have m_173 := W_173.1.1
                refine cx_istore_n (i := 3) hE d_Mo_primary_176 rfl (by decide) ?_
                refine cx_aload_n (i := 0) hE d_Mo_primary_177 rfl rfl ?_
                refine cx_iconst (v := 2) hE d_Mo_primary_178 (by decide) ?_
                refine cx_iload_n (i := 3) hE d_Mo_primary_179 rfl rfl ?_
                refine cx_sipush (v := 256) hE d_Mo_primary_180 (by decide) ?_
                refine cx_idiv hE d_Mo_primary_183 (by decide) ?_
                refine cx_iload_n (i := 3) hE d_Mo_primary_184 rfl rfl ?_
                refine cx_sipush (v := 256) hE d_Mo_primary_185 (by decide) ?_
                refine cx_irem hE d_Mo_primary_188 (by decide) ?_
                refine cx_w0 hE d_Mo_primary_189 l_Mo_295 W_173 (s_lay W_173.1 W_173.2.2 K_173) rfl (by omega) (Nat.le_of_ble_eq_true rfl) n_Mo_lay (by first | rfl | (simp only [List.map_cons, List.map_nil, cx_rfc]; rfl)) (fun G_189 P_189 M_189 W_189 K_189 => ?_)
                have m_189 := W_189.1.1
                refine cx_iload_n (i := 3) hE d_Mo_primary_192 rfl rfl ?_
                refine cx_sipush (v := 256) hE d_Mo_primary_193 (by decide) ?_
                refine cx_idiv hE d_Mo_primary_196 (by decide) ?_
                refine cx_iload_n (i := 3) hE d_Mo_primary_197 rfl rfl ?_
                refine cx_sipush (v := 256) hE d_Mo_primary_198 (by decide) ?_
                refine cx_irem hE d_Mo_primary_201 (by decide) ?_
                refine cx_isub hE d_Mo_primary_202 ?_
                refine cx_iconst (v := 1) hE d_Mo_primary_203 (by decide) ?_
                refine cx_iadd hE d_Mo_primary_204 ?_
                refine cx_iret hE d_Mo_primary_205 rfl rfl ?_
                exact ⟨_, _, _, rfl, W_189, K_189⟩
            · have K_144 := rp_ifn K_139 c_144
              refine cx_aload_n (i := 0) hE d_Mo_primary_147 rfl rfl ?_
              refine cx_get hE d_Mo_primary_148 f_Mo_43 (by assumption) (by rfl) ?_
              refine cx_iload_n (i := 2) hE d_Mo_primary_151 rfl rfl ?_
              refine cx_iald 1 hE d_Mo_primary_152 rfl (W_135.1.i 20 rfl) (vp_in_nI (by show _ < 11000; omega) (by show 11000 < 2147483648; omega)) ?_
              rw [nI_clamp (by omega)]
              refine cx_iret hE d_Mo_primary_153 rfl rfl ?_
              exact ⟨_, _, _, rfl, W_135, K_144⟩
          · have K_114 := rp_ifp K_109 (Int32.not_le.mp c_114)
            refine cx_aload_n (i := 0) hE d_Mo_primary_117 rfl rfl ?_
            refine cx_bipush (v := 22) hE d_Mo_primary_118 (by decide) ?_
            refine cx_aload_n (i := 0) hE d_Mo_primary_120 rfl rfl ?_
            refine cx_get hE d_Mo_primary_121 f_Mo_19 (by assumption) (by rfl) ?_
            refine cx_iload_n (i := 1) hE d_Mo_primary_124 rfl rfl ?_
            refine cx_iald 1 hE d_Mo_primary_125 rfl (W_21.1.i 5 rfl) (vp_in_nI (by show _ < 65540; omega) (by show 65540 < 2147483648; omega)) ?_
            rw [nI_clamp (by omega)]
            refine cx_w0 hE d_Mo_primary_126 l_Mo_196 W_21 (s_fail W_21.1 W_21.2.2 K_114) rfl (by omega) (Nat.le_of_ble_eq_true rfl) n_Mo_fail (by first | rfl | (simp only [List.map_cons, List.map_nil, cx_rfc]; rfl)) (fun G_126 P_126 M_126 W_126 K_126 => ?_)
            have m_126 := W_126.1.1
            refine cx_iconst (v := 1) hE d_Mo_primary_129 (by decide) ?_
            refine cx_iret hE d_Mo_primary_130 rfl rfl ?_
            exact ⟨_, _, _, rfl, W_126, K_126⟩
        · have K_93 := rp_ifp K_65 c_93
          refine cx_aload_n (i := 0) hE d_Mo_primary_96 rfl rfl ?_
          refine cx_aload_n (i := 0) hE d_Mo_primary_97 rfl rfl ?_
          refine cx_get hE d_Mo_primary_98 f_Mo_19 (by assumption) (by rfl) ?_
          refine cx_iload_n (i := 1) hE d_Mo_primary_101 rfl rfl ?_
          refine cx_iald 1 hE d_Mo_primary_102 rfl (W_21.1.i 5 rfl) (vp_in_nI (by show _ < 65540; omega) (by show 65540 < 2147483648; omega)) ?_
          rw [nI_clamp (by omega)]
          refine cx_wP hE d_Mo_primary_103 l_Mo_327 W_21 (c_Mo_braces hX hfe W_21.1 W_21.2.2 K_93) rfl (by omega) (Nat.le_of_ble_eq_true rfl) n_Mo_braces (by first | rfl | (simp only [List.map_cons, List.map_nil, cx_rfc]; rfl)) (fun v_103 G_103 P_103 M_103 W_103 K_103 => ?_)
          have m_103 := W_103.1.1
          refine cx_iret hE d_Mo_primary_106 rfl rfl ?_
          exact ⟨_, _, _, rfl, W_103, K_103⟩
      · have K_65 := rp_ifp K_33 c_65
        refine cx_aload_n (i := 0) hE d_Mo_primary_68 rfl rfl ?_
        refine cx_wP hE d_Mo_primary_69 l_Mo_288 W_21 (hX _ _ _ _ W_21.1 W_21.2.2 K_65) rfl (by omega) (Nat.le_of_ble_eq_true rfl) n_Mo_exp (by first | rfl | (simp only [List.map_cons, List.map_nil, cx_rfc]; rfl)) (fun v_69 G_69 P_69 M_69 W_69 K_69 => ?_)
        have m_69 := W_69.1.1
        refine cx_istore_n (i := 2) hE d_Mo_primary_72 rfl (by decide) ?_
        refine cx_aload_n (i := 0) hE d_Mo_primary_73 rfl rfl ?_
        refine cx_dup hE d_Mo_primary_74 ?_
        refine cx_get hE d_Mo_primary_75 f_Mo_193 (by assumption) (by rfl) ?_
        refine cx_iconst (v := 1) hE d_Mo_primary_78 (by decide) ?_
        refine cx_iadd hE d_Mo_primary_79 ?_
        refine cx_putg hE d_Mo_primary_80 f_Mo_193 (by assumption) (Nat.le_of_ble_eq_true rfl) (by first | rfl | exact cx_nr _ _) (by first | rfl | exact cx_fr _ _) (fun G_80 g_80 h_80 => ?_)
        rw [rm_s8] at g_80
        clear h_80
        have W_80 : rm_W k mo b G P G_80 P_69 (rp_i M_69 1) := W_69.pi g_80
        have m_80 := W_80.1.1
        refine cx_iload_n (i := 2) hE d_Mo_primary_83 rfl rfl ?_
        refine cx_iret hE d_Mo_primary_84 rfl rfl ?_
        exact ⟨_, _, _, rfl, W_80, K_69⟩
    · have K_33 := rp_ifp K_9 c_33
      refine cx_aload_n (i := 0) hE d_Mo_primary_36 rfl rfl ?_
      refine cx_iconst (v := 0) hE d_Mo_primary_37 (by decide) ?_
      refine cx_aload_n (i := 0) hE d_Mo_primary_38 rfl rfl ?_
      refine cx_aload_n (i := 0) hE d_Mo_primary_39 rfl rfl ?_
      refine cx_iload_n (i := 1) hE d_Mo_primary_40 rfl rfl ?_
      refine cx_wL hE d_Mo_primary_41 l_Mo_316 W_21 (s_num W_21.1 W_21.2.2 K_33) rfl (by omega) (Nat.le_of_ble_eq_true rfl) n_Mo_numberOf (by first | rfl | (simp only [List.map_cons, List.map_nil, cx_rfc]; rfl)) (fun v_41 G_41 P_41 M_41 W_41 K_41 => ?_)
      have m_41 := W_41.1.1
      refine cx_wP hE d_Mo_primary_44 l_Mo_320 W_41 (s_keep W_41.1 W_41.2.2 K_41) rfl (by omega) (Nat.le_of_ble_eq_true rfl) n_Mo_keepNumber (by first | rfl | (simp only [List.map_cons, List.map_nil, cx_rfc]; rfl)) (fun v_44 G_44 P_44 M_44 W_44 K_44 => ?_)
      have m_44 := W_44.1.1
      refine cx_iconst (v := 0) hE d_Mo_primary_47 (by decide) ?_
      refine cx_w0 hE d_Mo_primary_48 l_Mo_295 W_44 (s_lay W_44.1 W_44.2.2 K_44) rfl (by omega) (Nat.le_of_ble_eq_true rfl) n_Mo_lay (by first | rfl | (simp only [List.map_cons, List.map_nil, cx_rfc]; rfl)) (fun G_48 P_48 M_48 W_48 K_48 => ?_)
      have m_48 := W_48.1.1
      refine cx_aload_n (i := 0) hE d_Mo_primary_51 rfl rfl ?_
      refine cx_iload_n (i := 1) hE d_Mo_primary_52 rfl rfl ?_
      refine cx_wR hE d_Mo_primary_53 l_Mo_324 W_48 (s_wid W_48.1 K_48) rfl (by omega) (Nat.le_of_ble_eq_true rfl) n_Mo_widthOfNumber (by first | rfl | (simp only [List.map_cons, List.map_nil, cx_rfc]; rfl)) (fun v_53 K_53 => ?_)
      refine cx_iret hE d_Mo_primary_56 rfl rfl ?_
      exact ⟨_, _, _, rfl, W_48, K_53⟩
  · have K_4 := rp_ifn hK c_4
    refine cx_iconst (v := 1) hE d_Mo_primary_7 (by decide) ?_
    refine cx_iret hE d_Mo_primary_8 rfl rfl ?_
    exact ⟨_, _, _, rfl, W0, K_4⟩
set_option maxRecDepth 100000 in
theorem c_Mo_operand {k : cx_K} {l : Launch} {G : cx_G} {mo : Nat} {P : Nat → Nat} {M : rm_M} {b : Nat × Nat} {N : Nat} {Ex : rp_E} {fe : Nat} (hX : rp_XE k l mo b Ex fe) (hfe : 5 ≤ fe) (hm : rm_R k G mo P M) (hQ : rm_Q b G M) {K : Int32 → rm_M → Prop} (hK : rp_opr N Ex K M)  : cx_Sp k l m_Mo_operand (fe + 3) [.ref mo] G (rp_P k mo b G P K) := by
  intro E hE
  have W0 := rm_W.rf hm hQ
  have m0 := hm.1
  have hul : ∀ (n : Nat) (kk w : Int32) (Gy : cx_G) (Py : Nat → Nat) (My : rm_M), rm_W k mo b G P Gy Py My → rp_unl (M.1 8) K n kk w My → cx_V E 43 [(4, false, .int kk), (3, false, .int w), (1, false, .int (M.1 8)), (0, false, .ref mo)] [] Gy := by
    intro n
    induction n with
    | zero => intro kk w Gy Py My _ h; exact h.elim
    | succ n ih =>
      intro kk w Gy Py My Wy hK
      have my := Wy.1.1
      unfold rp_unl at hK
      refine cx_iload hE d_Mo_operand_43 rfl ?_
      refine cx_iload_n (i := 1) hE d_Mo_operand_45 rfl rfl ?_
      refine cx_icmp_lt (tgt := 111)  hE d_Mo_operand_46 (by decide) (fun c_46 => ?_) (fun c_46 => ?_)
      · have K_46 := rp_ifp hK c_46
        refine cx_iload_n (i := 3) hE d_Mo_operand_111 rfl rfl ?_
        refine cx_iret hE d_Mo_operand_112 rfl rfl ?_
        exact ⟨_, _, _, rfl, Wy, K_46⟩
      · have K_46 := rp_ifn hK c_46
        refine cx_aload_n (i := 0) hE d_Mo_operand_49 rfl rfl ?_
        refine cx_get hE d_Mo_operand_50 f_Mo_187 (by assumption) (by rfl) ?_
        refine cx_if_ne (tgt := 111)  hE d_Mo_operand_53 (by decide) (fun c_53 => ?_) (fun c_53 => ?_)
        · have K_53 := rp_ifn K_46 c_53
          refine cx_iload_n (i := 3) hE d_Mo_operand_111 rfl rfl ?_
          refine cx_iret hE d_Mo_operand_112 rfl rfl ?_
          exact ⟨_, _, _, rfl, Wy, K_53⟩
        · have K_53 := rp_ifp K_46 c_53
          obtain ⟨j_56, rfl, l_56, K_56⟩ := K_53
          refine cx_aload_n (i := 0) hE d_Mo_operand_56 rfl rfl ?_
          refine cx_iload_n (i := 3) hE d_Mo_operand_57 rfl rfl ?_
          refine cx_i2l hE d_Mo_operand_58 ?_
          refine cx_w0 hE d_Mo_operand_59 l_Mo_291 Wy (s_cost Wy.1 Wy.2.2 K_56) rfl (by omega) (Nat.le_of_ble_eq_true rfl) n_Mo_cost (by first | rfl | (simp only [List.map_cons, List.map_nil, cx_rfc]; rfl)) (fun G_59 P_59 M_59 W_59 K_59 => ?_)
          have m_59 := W_59.1.1
          refine cx_aload_n (i := 0) hE d_Mo_operand_62 rfl rfl ?_
          refine cx_iconst (v := 4) hE d_Mo_operand_63 (by decide) ?_
          refine cx_aload_n (i := 0) hE d_Mo_operand_64 rfl rfl ?_
          refine cx_get hE d_Mo_operand_65 f_Mo_15 (by assumption) (by rfl) ?_
          refine cx_iload hE d_Mo_operand_68 rfl ?_
          refine cx_iald 1 hE d_Mo_operand_70 rfl (W_59.1.i 4 rfl) (vp_in_nI (by show _ < 65540; omega) (by show 65540 < 2147483648; omega)) ?_
          rw [nI_clamp (by omega)]
          refine cx_iload_n (i := 3) hE d_Mo_operand_71 rfl rfl ?_
          refine cx_w0 hE d_Mo_operand_72 l_Mo_295 W_59 (s_lay W_59.1 W_59.2.2 K_59) rfl (by omega) (Nat.le_of_ble_eq_true rfl) n_Mo_lay (by first | rfl | (simp only [List.map_cons, List.map_nil, cx_rfc]; rfl)) (fun G_72 P_72 M_72 W_72 K_72 => ?_)
          have m_72 := W_72.1.1
          refine cx_aload_n (i := 0) hE d_Mo_operand_75 rfl rfl ?_
          refine cx_get hE d_Mo_operand_76 f_Mo_15 (by assumption) (by rfl) ?_
          refine cx_iload hE d_Mo_operand_79 rfl ?_
          refine cx_iald 1 hE d_Mo_operand_81 rfl (W_72.1.i 4 rfl) (vp_in_nI (by show _ < 65540; omega) (by show 65540 < 2147483648; omega)) ?_
          rw [nI_clamp (by omega)]
          refine cx_bipush (v := 126) hE d_Mo_operand_82 (by decide) ?_
          refine cx_icmp_eq (tgt := 99)  hE d_Mo_operand_84 (by decide) (fun c_84 => ?_) (fun c_84 => ?_)
          · refine cx_iload_n (i := 3) hE d_Mo_operand_99 rfl rfl ?_
            refine cx_goto (tgt := 104) hE d_Mo_operand_100 (by decide) ?_
            refine cx_istore_n (i := 3) hE d_Mo_operand_104 rfl (by decide) ?_
            refine cx_iinc (v := nI j_56 - 1) hE d_Mo_operand_105 rfl (by rw [Int32.sub_eq_add_neg]; rfl) (by decide) ?_
            refine cx_goto (tgt := 43) hE d_Mo_operand_108 (by decide) ?_
            refine cx_sub [0, 1, 2, 3] rfl ?_
            rw [if_pos (Or.inl c_84)] at K_72
            exact ih _ _ _ _ _ W_72 K_72
          · refine cx_aload_n (i := 0) hE d_Mo_operand_87 rfl rfl ?_
            refine cx_get hE d_Mo_operand_88 f_Mo_15 (by assumption) (by rfl) ?_
            refine cx_iload hE d_Mo_operand_91 rfl ?_
            refine cx_iald 1 hE d_Mo_operand_93 rfl (W_72.1.i 4 rfl) (vp_in_nI (by show _ < 65540; omega) (by show 65540 < 2147483648; omega)) ?_
            rw [nI_clamp (by omega)]
            refine cx_bipush (v := 45) hE d_Mo_operand_94 (by decide) ?_
            refine cx_icmp_ne (tgt := 103)  hE d_Mo_operand_96 (by decide) (fun c_96 => ?_) (fun c_96 => ?_)
            · refine cx_iconst (v := 1) hE d_Mo_operand_103 (by decide) ?_
              refine cx_istore_n (i := 3) hE d_Mo_operand_104 rfl (by decide) ?_
              refine cx_iinc (v := nI j_56 - 1) hE d_Mo_operand_105 rfl (by rw [Int32.sub_eq_add_neg]; rfl) (by decide) ?_
              refine cx_goto (tgt := 43) hE d_Mo_operand_108 (by decide) ?_
              refine cx_sub [0, 1, 2, 3] rfl ?_
              rw [if_neg (fun z => z.elim c_84 c_96)] at K_72
              exact ih _ _ _ _ _ W_72 K_72
            · refine cx_iload_n (i := 3) hE d_Mo_operand_99 rfl rfl ?_
              refine cx_goto (tgt := 104) hE d_Mo_operand_100 (by decide) ?_
              refine cx_istore_n (i := 3) hE d_Mo_operand_104 rfl (by decide) ?_
              refine cx_iinc (v := nI j_56 - 1) hE d_Mo_operand_105 rfl (by rw [Int32.sub_eq_add_neg]; rfl) (by decide) ?_
              refine cx_goto (tgt := 43) hE d_Mo_operand_108 (by decide) ?_
              refine cx_sub [0, 1, 2, 3] rfl ?_
              rw [if_pos (Or.inr c_96)] at K_72
              exact ih _ _ _ _ _ W_72 K_72
  have hun : ∀ (n : Nat) (Gx : cx_G) (Px : Nat → Nat) (Mx : rm_M), rm_W k mo b G P Gx Px Mx → rp_una (fun M' => rp_prm N Ex (fun w M1 => rp_unl (M.1 8) K N (M'.1 8 - 1) w M1) M') n Mx → cx_V E 5 [(1, false, .int (M.1 8)), (0, false, .ref mo)] [] Gx := by
    intro n
    induction n with
    | zero => intro Gx Px Mx _ h; exact h.elim
    | succ n ih =>
      intro Gx Px Mx Wx hK
      have mx := Wx.1.1
      unfold rp_una at hK
      refine cx_aload_n (i := 0) hE d_Mo_operand_5 rfl rfl ?_
      refine cx_wR hE d_Mo_operand_6 l_Mo_216 Wx (s_kind Wx.1 hK) rfl (by omega) (Nat.le_of_ble_eq_true rfl) n_Mo_kind (by first | rfl | (simp only [List.map_cons, List.map_nil, cx_rfc]; rfl)) (fun v_6 K_6 => ?_)
      refine cx_wS hE d_Mo_operand_9 l_Mo_229 (s_isUnary _) rfl (by omega) (Nat.le_of_ble_eq_true rfl) n_Mo_isUnary (by first | rfl | (simp only [List.map_cons, List.map_nil, cx_rfc]; rfl)) (fun v_9 K_9 => ?_)
      subst K_9
      refine cx_if_eq (tgt := 28)  hE d_Mo_operand_12 (by decide) (fun c_12 => ?_) (fun c_12 => ?_)
      · have K_12 := rp_ifn K_6 (by rw [cx_b0.mp c_12]; decide)
        refine cx_aload_n (i := 0) hE d_Mo_operand_28 rfl rfl ?_
        refine cx_get hE d_Mo_operand_29 f_Mo_193 (by assumption) (by rfl) ?_
        refine cx_istore_n (i := 2) hE d_Mo_operand_32 rfl (by decide) ?_
        refine cx_aload_n (i := 0) hE d_Mo_operand_33 rfl rfl ?_
        refine cx_wP hE d_Mo_operand_34 l_Mo_313 Wx (c_Mo_primary hX hfe Wx.1 Wx.2.2 K_12) rfl (by omega) (Nat.le_of_ble_eq_true rfl) n_Mo_primary (by first | rfl | (simp only [List.map_cons, List.map_nil, cx_rfc]; rfl)) (fun v_34 G_34 P_34 M_34 W_34 K_34 => ?_)
        have m_34 := W_34.1.1
        refine cx_istore_n (i := 3) hE d_Mo_operand_37 rfl (by decide) ?_
        refine cx_iload_n (i := 2) hE d_Mo_operand_38 rfl rfl ?_
        refine cx_iconst (v := 1) hE d_Mo_operand_39 (by decide) ?_
        refine cx_isub hE d_Mo_operand_40 ?_
        refine cx_istore hE d_Mo_operand_41 (by decide) ?_
        refine cx_sub [0, 1, 3, 4] rfl ?_
        exact hul _ _ _ _ _ _ W_34 K_34
      · have K_12 := rp_ifp K_6 (cx_bn.mp c_12)
        refine cx_aload_n (i := 0) hE d_Mo_operand_15 rfl rfl ?_
        refine cx_dup hE d_Mo_operand_16 ?_
        refine cx_get hE d_Mo_operand_17 f_Mo_193 (by assumption) (by rfl) ?_
        refine cx_iconst (v := 1) hE d_Mo_operand_20 (by decide) ?_
        refine cx_iadd hE d_Mo_operand_21 ?_
        refine cx_putg hE d_Mo_operand_22 f_Mo_193 (by assumption) (Nat.le_of_ble_eq_true rfl) (by first | rfl | exact cx_nr _ _) (by first | rfl | exact cx_fr _ _) (fun G_22 g_22 h_22 => ?_)
        rw [rm_s8] at g_22
        clear h_22
        have W_22 : rm_W k mo b G P G_22 Px (rp_i Mx 1) := Wx.pi g_22
        have m_22 := W_22.1.1
        refine cx_goto (tgt := 5) hE d_Mo_operand_25 (by decide) ?_
        refine cx_sub [0, 1] rfl ?_
        exact ih _ _ _ W_22 K_12
  refine cx_aload_n (i := 0) hE d_Mo_operand_0 rfl rfl ?_
  refine cx_get hE d_Mo_operand_1 f_Mo_193 (by assumption) (by rfl) ?_
  refine cx_istore_n (i := 1) hE d_Mo_operand_4 rfl (by decide) ?_
  refine cx_sub [0, 1] rfl ?_
  exact hun _ _ _ _ W0 hK

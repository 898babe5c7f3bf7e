/-! THE SECOND PASS: ports and assignments, step by step. -/
theorem rp_t_id (M : rm_M) : rp_t M (M.1 8) = M := by
  unfold rp_t
  have : va_up M.1 8 (M.1 8) = M.1 := by
    funext j
    by_cases z : j = 8
    · rw [z, va_up_self]
    · rw [va_up_ne _ _ z]
  rw [this]
set_option maxRecDepth 100000 in
theorem c_Mo_port {k : cx_K} {l : Launch} {G : cx_G} {mo : Nat} {P : Nat → Nat} {M : rm_M} {b : Nat × Nat} (hm : rm_R k G mo P M) (hQ : rm_Q b G M) {K : rm_M → Prop} (hK : rp_port K M)  : cx_Sp k l m_Mo_port 5 [.ref mo] G (rp_P0 k mo b G P K) := by
  intro E hE
  have W0 := rm_W.rf hm hQ
  have m0 := hm.1
  refine cx_aload_n (i := 0) hE d_Mo_port_0 rfl rfl ?_
  refine cx_wR hE d_Mo_port_1 l_Mo_216 W0 (s_kind W0.1 hK) rfl (by omega) (Nat.le_of_ble_eq_true rfl) n_Mo_kind (by first | rfl | (simp only [List.map_cons, List.map_nil, cx_rfc]; rfl)) (fun v_1 K_1 => ?_)
  refine cx_sipush (v := 302) hE d_Mo_port_4 (by decide) ?_
  refine cx_icmp_ne (tgt := 32)  hE d_Mo_port_7 (by decide) (fun c_7 => ?_) (fun c_7 => ?_)
  · have K_7 := rp_ifn K_1 c_7
    refine cx_aload_n (i := 0) hE d_Mo_port_32 rfl rfl ?_
    refine cx_dup hE d_Mo_port_33 ?_
    refine cx_get hE d_Mo_port_34 f_Mo_193 (by assumption) (by rfl) ?_
    refine cx_iconst (v := 1) hE d_Mo_port_37 (by decide) ?_
    refine cx_iadd hE d_Mo_port_38 ?_
    refine cx_putg hE d_Mo_port_39 f_Mo_193 (by assumption) (Nat.le_of_ble_eq_true rfl) (by first | rfl | exact cx_nr _ _) (by first | rfl | exact cx_fr _ _) (fun G_39 g_39 h_39 => ?_)
    rw [rm_s8] at g_39
    clear h_39
    have W_39 : rm_W k mo b G P G_39 P (rp_i M 1) := W0.pi g_39
    have m_39 := W_39.1.1
    refine cx_aload_n (i := 0) hE d_Mo_port_42 rfl rfl ?_
    refine cx_wR hE d_Mo_port_43 l_Mo_216 W_39 (s_kind W_39.1 K_7) rfl (by omega) (Nat.le_of_ble_eq_true rfl) n_Mo_kind (by first | rfl | (simp only [List.map_cons, List.map_nil, cx_rfc]; rfl)) (fun v_43 K_43 => ?_)
    refine cx_sipush (v := 305) hE d_Mo_port_46 (by decide) ?_
    refine cx_icmp_ne (tgt := 56)  hE d_Mo_port_49 (by decide) (fun c_49 => ?_) (fun c_49 => ?_)
    · have K_49 := rp_ifn K_43 c_49
      refine cx_iconst (v := 0) hE d_Mo_port_56 (by decide) ?_
      refine cx_istore_n (i := 1) hE d_Mo_port_57 rfl (by decide) ?_
      refine cx_aload_n (i := 0) hE d_Mo_port_58 rfl rfl ?_
      refine cx_iload_n (i := 1) hE d_Mo_port_59 rfl rfl ?_
      refine cx_if_eq (tgt := 72)  hE d_Mo_port_60 (by decide) (fun c_60 => ?_) (fun c_60 => ?_)
      · refine cx_aload_n (i := 0) hE d_Mo_port_72 rfl rfl ?_
        refine cx_get hE d_Mo_port_73 f_Mo_193 (by assumption) (by rfl) ?_
        refine cx_putg hE d_Mo_port_76 f_Mo_193 (by assumption) (Nat.le_of_ble_eq_true rfl) (by first | rfl | exact cx_nr _ _) (by first | rfl | exact cx_fr _ _) (fun G_76 g_76 h_76 => ?_)
        rw [rm_s8] at g_76
        clear h_76
        have W_76 : rm_W k mo b G P G_76 P (rp_t (rp_i M 1) ((rp_i M 1).1 8)) := W_39.pi g_76
        rw [rp_t_id] at W_76
        have m_76 := W_76.1.1
        refine cx_aload_n (i := 0) hE d_Mo_port_79 rfl rfl ?_
        refine cx_iload_n (i := 1) hE d_Mo_port_80 rfl rfl ?_
        refine cx_if_eq (tgt := 88)  hE d_Mo_port_81 (by decide) (fun c_81 => ?_) (fun c_81 => ?_)
        · refine cx_iconst (v := 1) hE d_Mo_port_88 (by decide) ?_
          refine cx_aload_n (i := 0) hE d_Mo_port_89 rfl rfl ?_
          refine cx_wP hE d_Mo_port_90 l_Mo_341 W_76 (c_Mo_range W_76.1 W_76.2.2 K_49) rfl (by omega) (Nat.le_of_ble_eq_true rfl) n_Mo_range (by first | rfl | (simp only [List.map_cons, List.map_nil, cx_rfc]; rfl)) (fun v_90 G_90 P_90 M_90 W_90 K_90 => ?_)
          have m_90 := W_90.1.1
          refine cx_w0 hE d_Mo_port_93 l_Mo_344 W_90 (c_Mo_declare W_90.1 W_90.2.2 K_90) rfl (by omega) (Nat.le_of_ble_eq_true rfl) n_Mo_declare (by first | rfl | (simp only [List.map_cons, List.map_nil, cx_rfc]; rfl)) (fun G_93 P_93 M_93 W_93 K_93 => ?_)
          have m_93 := W_93.1.1
          refine cx_vret hE d_Mo_port_96 rfl ?_
          exact ⟨_, _, rfl, W_93, K_93⟩
        · exact absurd rfl c_81
          -- end
      · exact absurd rfl c_60
        -- end
    · have K_49 := rp_ifp K_43 c_49
      refine cx_iconst (v := 1) hE d_Mo_port_52 (by decide) ?_
      refine cx_goto (tgt := 57) hE d_Mo_port_53 (by decide) ?_
      refine cx_istore_n (i := 1) hE d_Mo_port_57 rfl (by decide) ?_
      refine cx_aload_n (i := 0) hE d_Mo_port_58 rfl rfl ?_
      refine cx_iload_n (i := 1) hE d_Mo_port_59 rfl rfl ?_
      refine cx_if_eq (tgt := 72)  hE d_Mo_port_60 (by decide) (fun c_60 => ?_) (fun c_60 => ?_)
      · exact absurd c_60 (by decide)
        -- end
      · refine cx_aload_n (i := 0) hE d_Mo_port_63 rfl rfl ?_
        refine cx_get hE d_Mo_port_64 f_Mo_193 (by assumption) (by rfl) ?_
        refine cx_iconst (v := 1) hE d_Mo_port_67 (by decide) ?_
        refine cx_iadd hE d_Mo_port_68 ?_
        refine cx_goto (tgt := 76) hE d_Mo_port_69 (by decide) ?_
        refine cx_putg hE d_Mo_port_76 f_Mo_193 (by assumption) (Nat.le_of_ble_eq_true rfl) (by first | rfl | exact cx_nr _ _) (by first | rfl | exact cx_fr _ _) (fun G_76 g_76 h_76 => ?_)
        rw [rm_s8] at g_76
        clear h_76
        have W_76 : rm_W k mo b G P G_76 P (rp_i (rp_i M 1) 1) := W_39.pi g_76
        have m_76 := W_76.1.1
        refine cx_aload_n (i := 0) hE d_Mo_port_79 rfl rfl ?_
        refine cx_iload_n (i := 1) hE d_Mo_port_80 rfl rfl ?_
        refine cx_if_eq (tgt := 88)  hE d_Mo_port_81 (by decide) (fun c_81 => ?_) (fun c_81 => ?_)
        · exact absurd c_81 (by decide)
          -- end
        · refine cx_iconst (v := 2) hE d_Mo_port_84 (by decide) ?_
          refine cx_goto (tgt := 89) hE d_Mo_port_85 (by decide) ?_
          refine cx_aload_n (i := 0) hE d_Mo_port_89 rfl rfl ?_
          refine cx_wP hE d_Mo_port_90 l_Mo_341 W_76 (c_Mo_range W_76.1 W_76.2.2 K_49) rfl (by omega) (Nat.le_of_ble_eq_true rfl) n_Mo_range (by first | rfl | (simp only [List.map_cons, List.map_nil, cx_rfc]; rfl)) (fun v_90 G_90 P_90 M_90 W_90 K_90 => ?_)
          have m_90 := W_90.1.1
          refine cx_w0 hE d_Mo_port_93 l_Mo_344 W_90 (c_Mo_declare W_90.1 W_90.2.2 K_90) rfl (by omega) (Nat.le_of_ble_eq_true rfl) n_Mo_declare (by first | rfl | (simp only [List.map_cons, List.map_nil, cx_rfc]; rfl)) (fun G_93 P_93 M_93 W_93 K_93 => ?_)
          have m_93 := W_93.1.1
          refine cx_vret hE d_Mo_port_96 rfl ?_
          exact ⟨_, _, rfl, W_93, K_93⟩
  · have K_7 := rp_ifp K_1 c_7
    refine cx_aload_n (i := 0) hE d_Mo_port_10 rfl rfl ?_
    refine cx_dup hE d_Mo_port_11 ?_
    refine cx_get hE d_Mo_port_12 f_Mo_193 (by assumption) (by rfl) ?_
    refine cx_iconst (v := 1) hE d_Mo_port_15 (by decide) ?_
    refine cx_iadd hE d_Mo_port_16 ?_
    refine cx_putg hE d_Mo_port_17 f_Mo_193 (by assumption) (Nat.le_of_ble_eq_true rfl) (by first | rfl | exact cx_nr _ _) (by first | rfl | exact cx_fr _ _) (fun G_17 g_17 h_17 => ?_)
    rw [rm_s8] at g_17
    clear h_17
    have W_17 : rm_W k mo b G P G_17 P (rp_i M 1) := W0.pi g_17
    have m_17 := W_17.1.1
    refine cx_aload_n (i := 0) hE d_Mo_port_20 rfl rfl ?_
    refine cx_iconst (v := 0) hE d_Mo_port_21 (by decide) ?_
    refine cx_aload_n (i := 0) hE d_Mo_port_22 rfl rfl ?_
    refine cx_wP hE d_Mo_port_23 l_Mo_341 W_17 (c_Mo_range W_17.1 W_17.2.2 K_7) rfl (by omega) (Nat.le_of_ble_eq_true rfl) n_Mo_range (by first | rfl | (simp only [List.map_cons, List.map_nil, cx_rfc]; rfl)) (fun v_23 G_23 P_23 M_23 W_23 K_23 => ?_)
    have m_23 := W_23.1.1
    refine cx_w0 hE d_Mo_port_26 l_Mo_344 W_23 (c_Mo_declare W_23.1 W_23.2.2 K_23) rfl (by omega) (Nat.le_of_ble_eq_true rfl) n_Mo_declare (by first | rfl | (simp only [List.map_cons, List.map_nil, cx_rfc]; rfl)) (fun G_26 P_26 M_26 W_26 K_26 => ?_)
    have m_26 := W_26.1.1
    refine cx_goto (tgt := 96) hE d_Mo_port_29 (by decide) ?_
    refine cx_vret hE d_Mo_port_96 rfl ?_
    exact ⟨_, _, rfl, W_26, K_26⟩
set_option maxRecDepth 100000 in
theorem c_Mo_assign {k : cx_K} {l : Launch} {G : cx_G} {N : Nat} {mo : Nat} {P : Nat → Nat} {M : rm_M} {b : Nat × Nat} (hm : rm_R k G mo P M) (hQ : rm_Q b G M) {K : rm_M → Prop} (hK : rp_asg N K M)  : cx_Sp k l m_Mo_assign 311 [.ref mo] G (rp_P0 k mo b G P K) := by
  intro E hE
  have W0 := rm_W.rf hm hQ
  have m0 := hm.1
  refine cx_aload_n (i := 0) hE d_Mo_assign_0 rfl rfl ?_
  refine cx_dup hE d_Mo_assign_1 ?_
  refine cx_get hE d_Mo_assign_2 f_Mo_193 (by assumption) (by rfl) ?_
  refine cx_iconst (v := 1) hE d_Mo_assign_5 (by decide) ?_
  refine cx_iadd hE d_Mo_assign_6 ?_
  refine cx_putg hE d_Mo_assign_7 f_Mo_193 (by assumption) (Nat.le_of_ble_eq_true rfl) (by first | rfl | exact cx_nr _ _) (by first | rfl | exact cx_fr _ _) (fun G_7 g_7 h_7 => ?_)
  rw [rm_s8] at g_7
  clear h_7
  have W_7 : rm_W k mo b G P G_7 P (rp_i M 1) := W0.pi g_7
  have m_7 := W_7.1.1
  refine cx_aload_n (i := 0) hE d_Mo_assign_10 rfl rfl ?_
  refine cx_aload_n (i := 0) hE d_Mo_assign_11 rfl rfl ?_
  refine cx_get hE d_Mo_assign_12 f_Mo_193 (by assumption) (by rfl) ?_
  refine cx_wR hE d_Mo_assign_15 l_Mo_330 W_7 (s_here W_7.1 hK) rfl (by omega) (Nat.le_of_ble_eq_true rfl) n_Mo_here (by first | rfl | (simp only [List.map_cons, List.map_nil, cx_rfc]; rfl)) (fun v_15 K_15 => ?_)
  obtain ⟨i_15, e_15, l_15, K_15b⟩ := K_15
  refine cx_istore_n (i := 1) hE d_Mo_assign_18 rfl (by decide) ?_
  refine cx_iload_n (i := 1) hE d_Mo_assign_19 rfl rfl ?_
  refine cx_if_lt (tgt := 31)  hE d_Mo_assign_20 (by decide) (fun c_20 => ?_) (fun c_20 => ?_)
  · have K_20 := rp_ifp K_15b c_20
    refine cx_aload_n (i := 0) hE d_Mo_assign_31 rfl rfl ?_
    refine cx_bipush (v := 22) hE d_Mo_assign_32 (by decide) ?_
    refine cx_aload_n (i := 0) hE d_Mo_assign_34 rfl rfl ?_
    refine cx_get hE d_Mo_assign_35 f_Mo_19 (by assumption) (by rfl) ?_
    refine cx_aload_n (i := 0) hE d_Mo_assign_38 rfl rfl ?_
    refine cx_get hE d_Mo_assign_39 f_Mo_193 (by assumption) (by rfl) ?_
    rw [e_15]
    refine cx_iald 1 hE d_Mo_assign_42 rfl (W_7.1.i 5 rfl) (vp_in_nI (by show _ < 65540; omega) (by show 65540 < 2147483648; omega)) ?_
    rw [nI_clamp (by omega)]
    refine cx_w0 hE d_Mo_assign_43 l_Mo_196 W_7 (s_fail W_7.1 W_7.2.2 K_20) rfl (by omega) (Nat.le_of_ble_eq_true rfl) n_Mo_fail (by first | rfl | (simp only [List.map_cons, List.map_nil, cx_rfc]; rfl)) (fun G_43 P_43 M_43 W_43 K_43 => ?_)
    have m_43 := W_43.1.1
    refine cx_vret hE d_Mo_assign_46 rfl ?_
    exact ⟨_, _, rfl, W_43, K_43⟩
  · have K_20 := rp_ifn K_15b c_20
    obtain ⟨j_23, rfl, l_23, K_23⟩ := K_20
    refine cx_aload_n (i := 0) hE d_Mo_assign_23 rfl rfl ?_
    refine cx_iload_n (i := 1) hE d_Mo_assign_24 rfl rfl ?_
    refine cx_wR hE d_Mo_assign_25 l_Mo_347 W_7 (c_Mo_isDriven (j := j_23) W_7.1 W_7.2.2 l_23) rfl (by omega) (Nat.le_of_ble_eq_true rfl) n_Mo_isDriven (by first | rfl | (simp only [List.map_cons, List.map_nil, cx_rfc]; rfl)) (fun v_25 K_25 => ?_)
    subst K_25
    refine cx_if_ne (tgt := 47)  hE d_Mo_assign_28 (by decide) (fun c_28 => ?_) (fun c_28 => ?_)
    · have K_28 := rp_ifp K_23 (of_decide_eq_true (cx_bn.mp c_28))
      have q42 : (if M.2.1 23 j_23 = 0 then rp_i M 1 else rm_fail 31 ((rp_i M 1).2.1 5 i_15) (rp_i M 1)).1 42 = M.1 42 := by
        split
        · rfl
        · exact (rx_o.fail _ _ _).1 42 (by decide) (by decide) (by decide) (by decide)
      have h71 : ∀ (G1 : cx_G) (P1 : Nat → Nat), rm_W k mo b G P G1 P1 (if M.2.1 23 j_23 = 0 then rp_i M 1 else rm_fail 31 ((rp_i M 1).2.1 5 i_15) (rp_i M 1)) → cx_V E 71 [(1, false, .int (nI j_23)), (0, false, .ref mo)] [] G1 := by
        intro G1 P1 W1
        have m1 := W1.1.1
        refine cx_aload_n (i := 0) hE d_Mo_assign_71 rfl rfl ?_
        refine cx_dup hE d_Mo_assign_72 ?_
        refine cx_get hE d_Mo_assign_73 f_Mo_193 (by assumption) (by rfl) ?_
        refine cx_iconst (v := 1) hE d_Mo_assign_76 (by decide) ?_
        refine cx_iadd hE d_Mo_assign_77 ?_
        refine cx_putg hE d_Mo_assign_78 f_Mo_193 (by assumption) (Nat.le_of_ble_eq_true rfl) (by first | rfl | exact cx_nr _ _) (by first | rfl | exact cx_fr _ _) (fun G_78 g_78 h_78 => ?_)
        rw [rm_s8] at g_78
        clear h_78
        have W_78 : rm_W k mo b G P G_78 P1 (rp_i (if M.2.1 23 j_23 = 0 then rp_i M 1 else rm_fail 31 ((rp_i M 1).2.1 5 i_15) (rp_i M 1)) 1) := W1.pi g_78
        have m_78 := W_78.1.1
        refine cx_aload_n (i := 0) hE d_Mo_assign_81 rfl rfl ?_
        refine cx_get hE d_Mo_assign_82 f_Mo_19 (by assumption) (by rfl) ?_
        refine cx_aload_n (i := 0) hE d_Mo_assign_85 rfl rfl ?_
        refine cx_get hE d_Mo_assign_86 f_Mo_193 (by assumption) (by rfl) ?_
        obtain ⟨i_89, e_89, l_89, K_89⟩ := K_28
        rw [e_89]
        refine cx_iald 1 hE d_Mo_assign_89 rfl (W_78.1.i 5 rfl) (vp_in_nI (by show _ < 65540; omega) (by show 65540 < 2147483648; omega)) ?_
        rw [nI_clamp (by omega)]
        refine cx_istore_n (i := 2) hE d_Mo_assign_90 rfl (by decide) ?_
        refine cx_aload_n (i := 0) hE d_Mo_assign_91 rfl rfl ?_
        refine cx_dup hE d_Mo_assign_92 ?_
        refine cx_get hE d_Mo_assign_93 f_Mo_193 (by assumption) (by rfl) ?_
        refine cx_iconst (v := 1) hE d_Mo_assign_96 (by decide) ?_
        refine cx_iadd hE d_Mo_assign_97 ?_
        refine cx_putg hE d_Mo_assign_98 f_Mo_193 (by assumption) (Nat.le_of_ble_eq_true rfl) (by first | rfl | exact cx_nr _ _) (by first | rfl | exact cx_fr _ _) (fun G_98 g_98 h_98 => ?_)
        rw [rm_s8] at g_98
        clear h_98
        have W_98 : rm_W k mo b G P G_98 P1 (rp_i (rp_i (if M.2.1 23 j_23 = 0 then rp_i M 1 else rm_fail 31 ((rp_i M 1).2.1 5 i_15) (rp_i M 1)) 1) 1) := W_78.pi g_98
        have m_98 := W_98.1.1
        refine cx_aload_n (i := 0) hE d_Mo_assign_101 rfl rfl ?_
        refine cx_get hE d_Mo_assign_102 f_Mo_279 (by assumption) (by rfl) ?_
        rw [show (rp_i (rp_i (if M.2.1 23 j_23 = 0 then rp_i M 1 else rm_fail 31 ((rp_i M 1).2.1 5 i_15) (rp_i M 1)) 1) 1).1 42 = M.1 42 from q42]
        refine cx_istore_n (i := 3) hE d_Mo_assign_105 rfl (by decide) ?_
        refine cx_aload_n (i := 0) hE d_Mo_assign_106 rfl rfl ?_
        refine cx_wP hE d_Mo_assign_107 l_Mo_288 W_98 (c_Mo_exp _ _ _ _ W_98.1 W_98.2.2 K_89) rfl (by omega) (Nat.le_of_ble_eq_true rfl) n_Mo_exp (by first | rfl | (simp only [List.map_cons, List.map_nil, cx_rfc]; rfl)) (fun v_107 G_107 P_107 M_107 W_107 K_107 => ?_)
        have m_107 := W_107.1.1
        refine cx_istore hE d_Mo_assign_110 (by decide) ?_
        have q42b : (rp_ff (v_107 ≠ M_107.2.1 20 j_23) 30 ((rp_i (if M.2.1 23 j_23 = 0 then rp_i M 1 else rm_fail 31 ((rp_i M 1).2.1 5 i_15) (rp_i M 1)) 1).2.1 5 i_89) M_107).1 42 = M_107.1 42 := (rx_o.ff _ _ _ _).1 42 (by decide) (by decide) (by decide) (by decide)
        have h137 : ∀ (G2 : cx_G) (P2 : Nat → Nat), rm_W k mo b G P G2 P2 (rp_ff (v_107 ≠ M_107.2.1 20 j_23) 30 ((rp_i (if M.2.1 23 j_23 = 0 then rp_i M 1 else rm_fail 31 ((rp_i M 1).2.1 5 i_15) (rp_i M 1)) 1).2.1 5 i_89) M_107) → cx_V E 137 [(4, false, .int v_107), (3, false, .int (M.1 42)), (2, false, .int ((rp_i (if M.2.1 23 j_23 = 0 then rp_i M 1 else rm_fail 31 ((rp_i M 1).2.1 5 i_15) (rp_i M 1)) 1).2.1 5 i_89)), (1, false, .int (nI j_23)), (0, false, .ref mo)] [] G2 := by
          intro G2 P2 W2
          have m2 := W2.1.1
          refine cx_aload_n (i := 0) hE d_Mo_assign_137 rfl rfl ?_
          refine cx_get hE d_Mo_assign_138 f_Mo_53 (by assumption) (by rfl) ?_
          refine cx_iload_n (i := 1) hE d_Mo_assign_141 rfl rfl ?_
          refine cx_iconst (v := 1) hE d_Mo_assign_142 (by decide) ?_
          refine cx_iast 1 hE d_Mo_assign_143 rfl (W2.1.i 23 rfl) (vp_in_nI (by show _ < 11000; omega) (by show 11000 < 2147483648; omega)) ?_
          rw [nI_clamp (by omega)]
          refine cx_gen (fun G_143 g_143 => ?_)
          have W_143 : rm_W k mo b G P G_143 P2 (rp_set (rp_ff (v_107 ≠ M_107.2.1 20 j_23) 30 ((rp_i (if M.2.1 23 j_23 = 0 then rp_i M 1 else rm_fail 31 ((rp_i M 1).2.1 5 i_15) (rp_i M 1)) 1).2.1 5 i_89) M_107) 23 j_23 1) := W2.si 23 rfl g_143
          have m_143 := W_143.1.1
          refine cx_aload_n (i := 0) hE d_Mo_assign_144 rfl rfl ?_
          refine cx_get hE d_Mo_assign_145 f_Mo_56 (by assumption) (by rfl) ?_
          refine cx_iload_n (i := 1) hE d_Mo_assign_148 rfl rfl ?_
          refine cx_iload_n (i := 3) hE d_Mo_assign_149 rfl rfl ?_
          refine cx_iast 1 hE d_Mo_assign_150 rfl (W_143.1.i 24 rfl) (vp_in_nI (by show _ < 11000; omega) (by show 11000 < 2147483648; omega)) ?_
          rw [nI_clamp (by omega)]
          refine cx_gen (fun G_150 g_150 => ?_)
          have W_150 : rm_W k mo b G P G_150 P2 (rp_set (rp_set (rp_ff (v_107 ≠ M_107.2.1 20 j_23) 30 ((rp_i (if M.2.1 23 j_23 = 0 then rp_i M 1 else rm_fail 31 ((rp_i M 1).2.1 5 i_15) (rp_i M 1)) 1).2.1 5 i_89) M_107) 23 j_23 1) 24 j_23 (M.1 42)) := W_143.si 24 rfl g_150
          have m_150 := W_150.1.1
          refine cx_aload_n (i := 0) hE d_Mo_assign_151 rfl rfl ?_
          refine cx_get hE d_Mo_assign_152 f_Mo_59 (by assumption) (by rfl) ?_
          refine cx_iload_n (i := 1) hE d_Mo_assign_155 rfl rfl ?_
          refine cx_aload_n (i := 0) hE d_Mo_assign_156 rfl rfl ?_
          refine cx_get hE d_Mo_assign_157 f_Mo_279 (by assumption) (by rfl) ?_
          rw [show (rp_set (rp_set (rp_ff (v_107 ≠ M_107.2.1 20 j_23) 30 ((rp_i (if M.2.1 23 j_23 = 0 then rp_i M 1 else rm_fail 31 ((rp_i M 1).2.1 5 i_15) (rp_i M 1)) 1).2.1 5 i_89) M_107) 23 j_23 1) 24 j_23 (M.1 42)).1 42 = M_107.1 42 from q42b]
          refine cx_iast 1 hE d_Mo_assign_160 rfl (W_150.1.i 25 rfl) (vp_in_nI (by show _ < 11000; omega) (by show 11000 < 2147483648; omega)) ?_
          rw [nI_clamp (by omega)]
          refine cx_gen (fun G_160 g_160 => ?_)
          have W_160 : rm_W k mo b G P G_160 P2 (rp_set (rp_set (rp_set (rp_ff (v_107 ≠ M_107.2.1 20 j_23) 30 ((rp_i (if M.2.1 23 j_23 = 0 then rp_i M 1 else rm_fail 31 ((rp_i M 1).2.1 5 i_15) (rp_i M 1)) 1).2.1 5 i_89) M_107) 23 j_23 1) 24 j_23 (M.1 42)) 25 j_23 (M_107.1 42)) := W_150.si 25 rfl g_160
          have m_160 := W_160.1.1
          refine cx_aload_n (i := 0) hE d_Mo_assign_161 rfl rfl ?_
          refine cx_dup hE d_Mo_assign_162 ?_
          refine cx_get hE d_Mo_assign_163 f_Mo_193 (by assumption) (by rfl) ?_
          refine cx_iconst (v := 1) hE d_Mo_assign_166 (by decide) ?_
          refine cx_iadd hE d_Mo_assign_167 ?_
          refine cx_putg hE d_Mo_assign_168 f_Mo_193 (by assumption) (Nat.le_of_ble_eq_true rfl) (by first | rfl | exact cx_nr _ _) (by first | rfl | exact cx_fr _ _) (fun G_168 g_168 h_168 => ?_)
          rw [rm_s8] at g_168
          clear h_168
          have W_168 : rm_W k mo b G P G_168 P2 (rp_i (rp_set (rp_set (rp_set (rp_ff (v_107 ≠ M_107.2.1 20 j_23) 30 ((rp_i (if M.2.1 23 j_23 = 0 then rp_i M 1 else rm_fail 31 ((rp_i M 1).2.1 5 i_15) (rp_i M 1)) 1).2.1 5 i_89) M_107) 23 j_23 1) 24 j_23 (M.1 42)) 25 j_23 (M_107.1 42)) 1) := W_160.pi g_168
          have m_168 := W_168.1.1
          refine cx_vret hE d_Mo_assign_171 rfl ?_
          exact ⟨_, _, rfl, W_168, K_107⟩
        refine cx_aload_n (i := 0) hE d_Mo_assign_112 rfl rfl ?_
        refine cx_get hE d_Mo_assign_113 f_Mo_187 (by assumption) (by rfl) ?_
        refine cx_if_ne (tgt := 137)  hE d_Mo_assign_116 (by decide) (fun c_116 => ?_) (fun c_116 => ?_)
        · refine cx_sub [0, 1, 2, 3, 4] rfl ?_
          exact h137 _ _ (by rw [rp_ff_n (fun z => c_116 z.1)]; exact W_107)
        · refine cx_iload hE d_Mo_assign_119 rfl ?_
          refine cx_aload_n (i := 0) hE d_Mo_assign_121 rfl rfl ?_
          refine cx_get hE d_Mo_assign_122 f_Mo_43 (by assumption) (by rfl) ?_
          refine cx_iload_n (i := 1) hE d_Mo_assign_125 rfl rfl ?_
          refine cx_iald 1 hE d_Mo_assign_126 rfl (W_107.1.i 20 rfl) (vp_in_nI (by show _ < 11000; omega) (by show 11000 < 2147483648; omega)) ?_
          rw [nI_clamp (by omega)]
          refine cx_icmp_eq (tgt := 137)  hE d_Mo_assign_127 (by decide) (fun c_127 => ?_) (fun c_127 => ?_)
          · refine cx_sub [0, 1, 2, 3, 4] rfl ?_
            exact h137 _ _ (by rw [rp_ff_n (c := v_107 ≠ M_107.2.1 20 j_23) (fun z => z.2 c_127)]; exact W_107)
          · refine cx_aload_n (i := 0) hE d_Mo_assign_130 rfl rfl ?_
            refine cx_bipush (v := 30) hE d_Mo_assign_131 (by decide) ?_
            refine cx_iload_n (i := 2) hE d_Mo_assign_133 rfl rfl ?_
            refine cx_w0 hE d_Mo_assign_134 l_Mo_196 W_107 (s_fail (K := fun Mq9 => Mq9 = rm_fail _ _ M_107) W_107.1 W_107.2.2 rfl) rfl (by omega) (Nat.le_of_ble_eq_true rfl) n_Mo_fail (by first | rfl | (simp only [List.map_cons, List.map_nil, cx_rfc]; rfl)) (fun G_134 P_134 M_134 W_134 K_134 => ?_)
            have m_134 := W_134.1.1
            refine cx_sub [0, 1, 2, 3, 4] rfl ?_
            exact h137 _ _ (by rw [rp_ff_p c_116 c_127]; subst K_134; exact W_134)
      refine cx_aload_n (i := 0) hE d_Mo_assign_47 rfl rfl ?_
      refine cx_get hE d_Mo_assign_48 f_Mo_53 (by assumption) (by rfl) ?_
      refine cx_iload_n (i := 1) hE d_Mo_assign_51 rfl rfl ?_
      refine cx_iald 1 hE d_Mo_assign_52 rfl (W_7.1.i 23 rfl) (vp_in_nI (by show _ < 11000; omega) (by show 11000 < 2147483648; omega)) ?_
      rw [nI_clamp (by omega)]
      refine cx_if_eq (tgt := 71)  hE d_Mo_assign_53 (by decide) (fun c_53 => ?_) (fun c_53 => ?_)
      · refine cx_sub [0, 1] rfl ?_
        exact h71 _ _ (by rw [if_pos (show M.2.1 23 j_23 = 0 from c_53)]; exact W_7)
      · refine cx_aload_n (i := 0) hE d_Mo_assign_56 rfl rfl ?_
        refine cx_bipush (v := 31) hE d_Mo_assign_57 (by decide) ?_
        refine cx_aload_n (i := 0) hE d_Mo_assign_59 rfl rfl ?_
        refine cx_get hE d_Mo_assign_60 f_Mo_19 (by assumption) (by rfl) ?_
        refine cx_aload_n (i := 0) hE d_Mo_assign_63 rfl rfl ?_
        refine cx_get hE d_Mo_assign_64 f_Mo_193 (by assumption) (by rfl) ?_
        rw [e_15]
        refine cx_iald 1 hE d_Mo_assign_67 rfl (W_7.1.i 5 rfl) (vp_in_nI (by show _ < 65540; omega) (by show 65540 < 2147483648; omega)) ?_
        rw [nI_clamp (by omega)]
        refine cx_w0 hE d_Mo_assign_68 l_Mo_196 W_7 (s_fail (K := fun Mq9 => Mq9 = rm_fail _ _ (rp_i M 1)) W_7.1 W_7.2.2 rfl) rfl (by omega) (Nat.le_of_ble_eq_true rfl) n_Mo_fail (by first | rfl | (simp only [List.map_cons, List.map_nil, cx_rfc]; rfl)) (fun G_68 P_68 M_68 W_68 K_68 => ?_)
        have m_68 := W_68.1.1
        refine cx_sub [0, 1] rfl ?_
        exact h71 _ _ (by rw [if_neg (show ¬ M.2.1 23 j_23 = 0 from c_53)]; subst K_68; exact W_68)
    · have K_28 := rp_ifn K_23 (of_decide_eq_false (cx_b0.mp c_28))
      refine cx_aload_n (i := 0) hE d_Mo_assign_31 rfl rfl ?_
      refine cx_bipush (v := 22) hE d_Mo_assign_32 (by decide) ?_
      refine cx_aload_n (i := 0) hE d_Mo_assign_34 rfl rfl ?_
      refine cx_get hE d_Mo_assign_35 f_Mo_19 (by assumption) (by rfl) ?_
      refine cx_aload_n (i := 0) hE d_Mo_assign_38 rfl rfl ?_
      refine cx_get hE d_Mo_assign_39 f_Mo_193 (by assumption) (by rfl) ?_
      rw [e_15]
      refine cx_iald 1 hE d_Mo_assign_42 rfl (W_7.1.i 5 rfl) (vp_in_nI (by show _ < 65540; omega) (by show 65540 < 2147483648; omega)) ?_
      rw [nI_clamp (by omega)]
      refine cx_w0 hE d_Mo_assign_43 l_Mo_196 W_7 (s_fail W_7.1 W_7.2.2 K_28) rfl (by omega) (Nat.le_of_ble_eq_true rfl) n_Mo_fail (by first | rfl | (simp only [List.map_cons, List.map_nil, cx_rfc]; rfl)) (fun G_43 P_43 M_43 W_43 K_43 => ?_)
      have m_43 := W_43.1.1
      refine cx_vret hE d_Mo_assign_46 rfl ?_
      exact ⟨_, _, rfl, W_43, K_43⟩

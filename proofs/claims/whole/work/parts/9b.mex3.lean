/-! THE SECOND PASS: operators, an exp, step by step. -/
set_option maxRecDepth 100000 in
theorem c_Mo_binary {k : cx_K} {l : Launch} {G : cx_G} {mo : Nat} {P : Nat → Nat} {M : rm_M} {b : Nat × Nat} {N : Nat} {Ex : rp_E} {fe : Nat} (hX : rp_XE k l mo b Ex fe) (hfe : 5 ≤ fe) (hm : rm_R k G mo P M) (hQ : rm_Q b G M) {K : Int32 → rm_M → Prop} (hK : rp_bin N Ex K M)  : cx_Sp k l m_Mo_binary (fe + 4) [.ref mo] G (rp_P k mo b G P K) := by
  intro E hE
  have W0 := rm_W.rf hm hQ
  have m0 := hm.1
  have hfin : ∀ (n : Nat) (Gz : cx_G) (Pz : Nat → Nat) (Mz : rm_M), rm_W k mo b G P Gz Pz Mz → rp_fin (M.1 48) (fun M3 => ∃ b, M3.1 50 = nI (b + 1) ∧ b < 4096 ∧ K (M3.2.1 49 b) (va_up M3.1 50 (nI b), M3.2)) n Mz → cx_V E 133 [(1, false, .int (M.1 48)), (0, false, .ref mo)] [] Gz := by
    intro n
    induction n with
    | zero => intro Gz Pz Mz _ h; exact h.elim
    | succ n ih =>
      intro Gz Pz Mz Wz hK
      have mz := Wz.1.1
      unfold rp_fin at hK
      refine cx_aload_n (i := 0) hE d_Mo_binary_133 rfl rfl ?_
      refine cx_get hE d_Mo_binary_134 f_Mo_298 (by assumption) (by rfl) ?_
      refine cx_iload_n (i := 1) hE d_Mo_binary_137 rfl rfl ?_
      refine cx_icmp_le (tgt := 148)  hE d_Mo_binary_138 (by decide) (fun c_138 => ?_) (fun c_138 => ?_)
      · have K_138 := rp_ifn hK (Int32.not_lt.mpr c_138)
        obtain ⟨bb_148, e_148, l_148, K_148⟩ := K_138
        refine cx_aload_n (i := 0) hE d_Mo_binary_148 rfl rfl ?_
        refine cx_dup hE d_Mo_binary_149 ?_
        refine cx_get hE d_Mo_binary_150 f_Mo_310 (by assumption) (by rfl) ?_
        rw [e_148]
        refine cx_iconst (v := 1) hE d_Mo_binary_153 (by decide) ?_
        refine cx_isub hE d_Mo_binary_154 ?_
        rw [nI_pred]
        refine cx_putg hE d_Mo_binary_155 f_Mo_310 (by assumption) (Nat.le_of_ble_eq_true rfl) (by first | rfl | exact cx_nr _ _) (by first | rfl | exact cx_fr _ _) (fun G_155 g_155 h_155 => ?_)
        rw [rm_s50] at g_155
        clear h_155
        have W_155 : rm_W k mo b G P G_155 Pz (rp_int Mz 50 (nI bb_148)) := Wz.pi g_155
        have m_155 := W_155.1.1
        refine cx_aload_n (i := 0) hE d_Mo_binary_158 rfl rfl ?_
        refine cx_get hE d_Mo_binary_159 f_Mo_110 (by assumption) (by rfl) ?_
        refine cx_aload_n (i := 0) hE d_Mo_binary_162 rfl rfl ?_
        refine cx_get hE d_Mo_binary_163 f_Mo_310 (by assumption) (by rfl) ?_
        rw [show (rp_int Mz 50 (nI bb_148)).1 50 = nI bb_148 from rfl]
        refine cx_iald 1 hE d_Mo_binary_166 rfl (W_155.1.i 49 rfl) (vp_in_nI (by show _ < 4096; omega) (by show 4096 < 2147483648; omega)) ?_
        rw [nI_clamp (by omega)]
        refine cx_iret hE d_Mo_binary_167 rfl rfl ?_
        exact ⟨_, _, _, rfl, W_155, K_148⟩
      · have K_138 := rp_ifp hK (Int32.not_le.mp c_138)
        refine cx_aload_n (i := 0) hE d_Mo_binary_141 rfl rfl ?_
        refine cx_w0 hE d_Mo_binary_142 l_Mo_307 Wz (c_Mo_reckon Wz.1 Wz.2.2 K_138) rfl (by omega) (Nat.le_of_ble_eq_true rfl) n_Mo_reckon (by first | rfl | (simp only [List.map_cons, List.map_nil, cx_rfc]; rfl)) (fun G_142 P_142 M_142 W_142 K_142 => ?_)
        have m_142 := W_142.1.1
        refine cx_goto (tgt := 133) hE d_Mo_binary_145 (by decide) ?_
        refine cx_sub [0, 1] rfl ?_
        exact ih _ _ _ W_142 K_142
  have hlop : ∀ (n : Nat) (Gx : cx_G) (Px : Nat → Nat) (Mx : rm_M), rm_W k mo b G P Gx Px Mx → rp_lop N Ex (M.1 48) (fun M2 => rp_fin (M.1 48) (fun M3 => ∃ b, M3.1 50 = nI (b + 1) ∧ b < 4096 ∧ K (M3.2.1 49 b) (va_up M3.1 50 (nI b), M3.2)) N M2) n Mx → cx_V E 13 [(1, false, .int (M.1 48)), (0, false, .ref mo)] [] Gx := by
    intro n
    induction n with
    | zero => intro Gx Px Mx _ h; exact h.elim
    | succ n ih =>
      intro Gx Px Mx Wx hK
      have mx := Wx.1.1
      unfold rp_lop at hK
      refine cx_aload_n (i := 0) hE d_Mo_binary_13 rfl rfl ?_
      refine cx_get hE d_Mo_binary_14 f_Mo_187 (by assumption) (by rfl) ?_
      refine cx_if_ne (tgt := 133)  hE d_Mo_binary_17 (by decide) (fun c_17 => ?_) (fun c_17 => ?_)
      · have K_17 := rp_ifn hK c_17
        refine cx_sub [0, 1] rfl ?_
        exact hfin _ _ _ _ Wx K_17
      · have K_17 := rp_ifp hK c_17
        refine cx_aload_n (i := 0) hE d_Mo_binary_20 rfl rfl ?_
        obtain ⟨i_21, e_21, l_21, K_21⟩ := K_17
        refine cx_invV1 hE d_Mo_binary_21 l_Mo_216 Wx.1.1 (c_Mo_kind Wx.1 (i := i_21) e_21 l_21) rfl (by omega) (Nat.le_of_ble_eq_true rfl) n_Mo_kind (by rfl) ?_
        refine cx_wS hE d_Mo_binary_24 l_Mo_220 (s_rank _) rfl (by omega) (Nat.le_of_ble_eq_true rfl) n_Mo_rank (by first | rfl | (simp only [List.map_cons, List.map_nil, cx_rfc]; rfl)) (fun v_24 K_24 => ?_)
        subst K_24
        refine cx_if_le (tgt := 133)  hE d_Mo_binary_27 (by decide) (fun c_27 => ?_) (fun c_27 => ?_)
        · have K_27 := rp_ifn K_21 (Int32.not_lt.mpr c_27)
          refine cx_sub [0, 1] rfl ?_
          exact hfin _ _ _ _ Wx K_27
        · have K_27 := rp_ifp K_21 (Int32.not_le.mp c_27)
          refine cx_aload_n (i := 0) hE d_Mo_binary_30 rfl rfl ?_
          refine cx_invV1 hE d_Mo_binary_31 l_Mo_216 Wx.1.1 (c_Mo_kind Wx.1 (i := i_21) e_21 l_21) rfl (by omega) (Nat.le_of_ble_eq_true rfl) n_Mo_kind (by rfl) ?_
          refine cx_wS hE d_Mo_binary_34 l_Mo_220 (s_rank _) rfl (by omega) (Nat.le_of_ble_eq_true rfl) n_Mo_rank (by first | rfl | (simp only [List.map_cons, List.map_nil, cx_rfc]; rfl)) (fun v_34 K_34 => ?_)
          subst K_34
          have h71 : ∀ (r : Int32) (Gy : cx_G) (Py : Nat → Nat) (My : rm_M), rm_W k mo b G P Gy Py My → (fun My => ∃ a i, My.1 48 = nI a ∧ a < 4096 ∧ My.1 8 = nI i ∧ i < 65540 ∧ rp_opr N Ex (fun w Mq => rp_pw w Mq fun Mq => rp_lop N Ex (M.1 48) (fun M2 => rp_fin (M.1 48) (fun M3 => ∃ b, M3.1 50 = nI (b + 1) ∧ b < 4096 ∧ K (M3.2.1 49 b) (va_up M3.1 50 (nI b), M3.2)) N M2) n Mq) (rp_wt My a i)) My → cx_V E 71 [(2, false, .int r), (1, false, .int (M.1 48)), (0, false, .ref mo)] [] Gy := by
            intro r Gy Py My Wy hK
            have my := Wy.1.1
            obtain ⟨a, i, ea, la, ei, li, hK⟩ := hK
            refine cx_aload_n (i := 0) hE d_Mo_binary_71 rfl rfl ?_
            refine cx_get hE d_Mo_binary_72 f_Mo_104 (by assumption) (by rfl) ?_
            refine cx_aload_n (i := 0) hE d_Mo_binary_75 rfl rfl ?_
            refine cx_get hE d_Mo_binary_76 f_Mo_298 (by assumption) (by rfl) ?_
            rw [ea]
            refine cx_aload_n (i := 0) hE d_Mo_binary_79 rfl rfl ?_
            refine cx_invV1 hE d_Mo_binary_80 l_Mo_216 Wy.1.1 (c_Mo_kind Wy.1 (i := i) ei li) rfl (by omega) (Nat.le_of_ble_eq_true rfl) n_Mo_kind (by rfl) ?_
            refine cx_iast 1 hE d_Mo_binary_83 rfl (Wy.1.i 46 rfl) (vp_in_nI (by show _ < 4096; omega) (by show 4096 < 2147483648; omega)) ?_
            rw [nI_clamp (by omega)]
            refine cx_gen (fun G_83 g_83 => ?_)
            have W_83 : rm_W k mo b G P G_83 Py (rp_set My 46 a (My.2.1 4 i)) := Wy.si 46 rfl g_83
            have m_83 := W_83.1.1
            refine cx_aload_n (i := 0) hE d_Mo_binary_84 rfl rfl ?_
            refine cx_get hE d_Mo_binary_85 f_Mo_107 (by assumption) (by rfl) ?_
            refine cx_aload_n (i := 0) hE d_Mo_binary_88 rfl rfl ?_
            refine cx_get hE d_Mo_binary_89 f_Mo_298 (by assumption) (by rfl) ?_
            rw [show (rp_set My 46 a (My.2.1 4 i)).1 48 = nI a from ea]
            refine cx_aload_n (i := 0) hE d_Mo_binary_92 rfl rfl ?_
            refine cx_get hE d_Mo_binary_93 f_Mo_19 (by assumption) (by rfl) ?_
            refine cx_aload_n (i := 0) hE d_Mo_binary_96 rfl rfl ?_
            refine cx_get hE d_Mo_binary_97 f_Mo_193 (by assumption) (by rfl) ?_
            rw [show (rp_set My 46 a (My.2.1 4 i)).1 8 = nI i from ei]
            refine cx_iald 1 hE d_Mo_binary_100 rfl (W_83.1.i 5 rfl) (vp_in_nI (by show _ < 65540; omega) (by show 65540 < 2147483648; omega)) ?_
            rw [nI_clamp (by omega)]
            refine cx_iast 1 hE d_Mo_binary_101 rfl (W_83.1.i 47 rfl) (vp_in_nI (by show _ < 4096; omega) (by show 4096 < 2147483648; omega)) ?_
            rw [nI_clamp (by omega)]
            refine cx_gen (fun G_101 g_101 => ?_)
            have W_101 : rm_W k mo b G P G_101 Py (rp_set (rp_set My 46 a (My.2.1 4 i)) 47 a ((rp_set My 46 a (My.2.1 4 i)).2.1 5 i)) := W_83.si 47 rfl g_101
            have m_101 := W_101.1.1
            refine cx_aload_n (i := 0) hE d_Mo_binary_102 rfl rfl ?_
            refine cx_dup hE d_Mo_binary_103 ?_
            refine cx_get hE d_Mo_binary_104 f_Mo_298 (by assumption) (by rfl) ?_
            rw [show (rp_set (rp_set My 46 a (My.2.1 4 i)) 47 a ((rp_set My 46 a (My.2.1 4 i)).2.1 5 i)).1 48 = nI a from ea]
            refine cx_iconst (v := 1) hE d_Mo_binary_107 (by decide) ?_
            refine cx_iadd hE d_Mo_binary_108 ?_
            rw [nI_1]
            refine cx_putg hE d_Mo_binary_109 f_Mo_298 (by assumption) (Nat.le_of_ble_eq_true rfl) (by first | rfl | exact cx_nr _ _) (by first | rfl | exact cx_fr _ _) (fun G_109 g_109 h_109 => ?_)
            rw [rm_s48] at g_109
            clear h_109
            have W_109 : rm_W k mo b G P G_109 Py (rp_int (rp_set (rp_set My 46 a (My.2.1 4 i)) 47 a ((rp_set My 46 a (My.2.1 4 i)).2.1 5 i)) 48 (nI (a + 1))) := W_101.pi g_109
            have m_109 := W_109.1.1
            refine cx_aload_n (i := 0) hE d_Mo_binary_112 rfl rfl ?_
            refine cx_dup hE d_Mo_binary_113 ?_
            refine cx_get hE d_Mo_binary_114 f_Mo_193 (by assumption) (by rfl) ?_
            rw [show (rp_int (rp_set (rp_set My 46 a (My.2.1 4 i)) 47 a ((rp_set My 46 a (My.2.1 4 i)).2.1 5 i)) 48 (nI (a + 1))).1 8 = nI i from ei]
            refine cx_iconst (v := 1) hE d_Mo_binary_117 (by decide) ?_
            refine cx_iadd hE d_Mo_binary_118 ?_
            rw [nI_1]
            refine cx_putg hE d_Mo_binary_119 f_Mo_193 (by assumption) (Nat.le_of_ble_eq_true rfl) (by first | rfl | exact cx_nr _ _) (by first | rfl | exact cx_fr _ _) (fun G_119 g_119 h_119 => ?_)
            rw [rm_s8] at g_119
            clear h_119
            have W_119 : rm_W k mo b G P G_119 Py (rp_wt My a i) := W_109.pi g_119
            have m_119 := W_119.1.1
            refine cx_aload_n (i := 0) hE d_Mo_binary_122 rfl rfl ?_
            refine cx_aload_n (i := 0) hE d_Mo_binary_123 rfl rfl ?_
            refine cx_wP hE d_Mo_binary_124 l_Mo_301 W_119 (c_Mo_operand hX hfe W_119.1 W_119.2.2 hK) rfl (by omega) (Nat.le_of_ble_eq_true rfl) n_Mo_operand (by first | rfl | (simp only [List.map_cons, List.map_nil, cx_rfc]; rfl)) (fun v_124 G_124 P_124 M_124 W_124 K_124 => ?_)
            have m_124 := W_124.1.1
            refine cx_w0 hE d_Mo_binary_127 l_Mo_304 W_124 (s_push W_124.1 W_124.2.2 K_124) rfl (by omega) (Nat.le_of_ble_eq_true rfl) n_Mo_pushWidth (by first | rfl | (simp only [List.map_cons, List.map_nil, cx_rfc]; rfl)) (fun G_127 P_127 M_127 W_127 K_127 => ?_)
            have m_127 := W_127.1.1
            refine cx_goto (tgt := 13) hE d_Mo_binary_130 (by decide) ?_
            refine cx_sub [1, 2] rfl ?_
            exact ih _ _ _ W_127 K_127
          have hred : ∀ (r : Int32) (n2 : Nat) (Gy : cx_G) (Py : Nat → Nat) (My : rm_M), rm_W k mo b G P Gy Py My → rp_red (M.1 48) r (fun My => ∃ a i, My.1 48 = nI a ∧ a < 4096 ∧ My.1 8 = nI i ∧ i < 65540 ∧ rp_opr N Ex (fun w Mq => rp_pw w Mq fun Mq => rp_lop N Ex (M.1 48) (fun M2 => rp_fin (M.1 48) (fun M3 => ∃ b, M3.1 50 = nI (b + 1) ∧ b < 4096 ∧ K (M3.2.1 49 b) (va_up M3.1 50 (nI b), M3.2)) N M2) n Mq) (rp_wt My a i)) n2 My → cx_V E 38 [(2, false, .int r), (1, false, .int (M.1 48)), (0, false, .ref mo)] [] Gy := by
            intro r n2
            induction n2 with
            | zero => intro Gy Py My _ h; exact h.elim
            | succ n2 ih2 =>
              intro Gy Py My Wy hK
              have my := Wy.1.1
              unfold rp_red at hK
              refine cx_aload_n (i := 0) hE d_Mo_binary_38 rfl rfl ?_
              refine cx_get hE d_Mo_binary_39 f_Mo_298 (by assumption) (by rfl) ?_
              refine cx_iload_n (i := 1) hE d_Mo_binary_42 rfl rfl ?_
              refine cx_icmp_le (tgt := 71)  hE d_Mo_binary_43 (by decide) (fun c_43 => ?_) (fun c_43 => ?_)
              · have K_43 := rp_ifn hK (Int32.not_lt.mpr c_43)
                refine cx_sub [0, 1, 2] rfl ?_
                exact h71 _ _ _ _ Wy K_43
              · have K_43 := rp_ifp hK (Int32.not_le.mp c_43)
                obtain ⟨a_46, e_46, l_46, K_46⟩ := K_43
                refine cx_aload_n (i := 0) hE d_Mo_binary_46 rfl rfl ?_
                refine cx_get hE d_Mo_binary_47 f_Mo_104 (by assumption) (by rfl) ?_
                refine cx_aload_n (i := 0) hE d_Mo_binary_50 rfl rfl ?_
                refine cx_get hE d_Mo_binary_51 f_Mo_298 (by assumption) (by rfl) ?_
                rw [e_46]
                refine cx_iconst (v := 1) hE d_Mo_binary_54 (by decide) ?_
                refine cx_isub hE d_Mo_binary_55 ?_
                rw [nI_pred]
                refine cx_iald 1 hE d_Mo_binary_56 rfl (Wy.1.i 46 rfl) (vp_in_nI (by show _ < 4096; omega) (by show 4096 < 2147483648; omega)) ?_
                rw [nI_clamp (by omega)]
                refine cx_wS hE d_Mo_binary_57 l_Mo_220 (s_rank _) rfl (by omega) (Nat.le_of_ble_eq_true rfl) n_Mo_rank (by first | rfl | (simp only [List.map_cons, List.map_nil, cx_rfc]; rfl)) (fun v_57 K_57 => ?_)
                subst K_57
                refine cx_iload_n (i := 2) hE d_Mo_binary_60 rfl rfl ?_
                refine cx_icmp_lt (tgt := 71)  hE d_Mo_binary_61 (by decide) (fun c_61 => ?_) (fun c_61 => ?_)
                · have K_61 := rp_ifn K_46 (Int32.not_le.mpr c_61)
                  refine cx_sub [0, 1, 2] rfl ?_
                  exact h71 _ _ _ _ Wy K_61
                · have K_61 := rp_ifp K_46 (Int32.not_lt.mp c_61)
                  refine cx_aload_n (i := 0) hE d_Mo_binary_64 rfl rfl ?_
                  refine cx_w0 hE d_Mo_binary_65 l_Mo_307 Wy (c_Mo_reckon Wy.1 Wy.2.2 K_61) rfl (by omega) (Nat.le_of_ble_eq_true rfl) n_Mo_reckon (by first | rfl | (simp only [List.map_cons, List.map_nil, cx_rfc]; rfl)) (fun G_65 P_65 M_65 W_65 K_65 => ?_)
                  have m_65 := W_65.1.1
                  refine cx_goto (tgt := 38) hE d_Mo_binary_68 (by decide) ?_
                  refine cx_sub [0, 1, 2] rfl ?_
                  exact ih2 _ _ _ W_65 K_65
          refine cx_istore_n (i := 2) hE d_Mo_binary_37 rfl (by decide) ?_
          refine cx_sub [0, 1, 2] rfl ?_
          exact hred _ _ _ _ _ Wx K_27
  refine cx_aload_n (i := 0) hE d_Mo_binary_0 rfl rfl ?_
  refine cx_get hE d_Mo_binary_1 f_Mo_298 (by assumption) (by rfl) ?_
  refine cx_istore_n (i := 1) hE d_Mo_binary_4 rfl (by decide) ?_
  refine cx_aload_n (i := 0) hE d_Mo_binary_5 rfl rfl ?_
  refine cx_aload_n (i := 0) hE d_Mo_binary_6 rfl rfl ?_
  refine cx_wP hE d_Mo_binary_7 l_Mo_301 W0 (c_Mo_operand hX hfe W0.1 W0.2.2 hK) rfl (by omega) (Nat.le_of_ble_eq_true rfl) n_Mo_operand (by first | rfl | (simp only [List.map_cons, List.map_nil, cx_rfc]; rfl)) (fun v_7 G_7 P_7 M_7 W_7 K_7 => ?_)
  have m_7 := W_7.1.1
  refine cx_w0 hE d_Mo_binary_10 l_Mo_304 W_7 (s_push W_7.1 W_7.2.2 K_7) rfl (by omega) (Nat.le_of_ble_eq_true rfl) n_Mo_pushWidth (by first | rfl | (simp only [List.map_cons, List.map_nil, cx_rfc]; rfl)) (fun G_10 P_10 M_10 W_10 K_10 => ?_)
  have m_10 := W_10.1.1
  refine cx_sub [0, 1] rfl ?_
  exact hlop _ _ _ _ W_10 K_10
set_option maxRecDepth 100000 in
theorem c_Mo_exp1 {k : cx_K} {l : Launch} {G : cx_G} {mo : Nat} {P : Nat → Nat} {M : rm_M} {b : Nat × Nat} {N : Nat} {Ex : rp_E} {fe : Nat} (hX : rp_XE k l mo b Ex fe) (hfe : 5 ≤ fe) (hm : rm_R k G mo P M) (hQ : rm_Q b G M) {K : Int32 → rm_M → Prop} (hK : rp_ex1 N Ex K M)  : cx_Sp k l m_Mo_exp (fe + 5) [.ref mo] G (rp_P k mo b G P K) := by
  intro E hE
  have W0 := rm_W.rf hm hQ
  have m0 := hm.1
  refine cx_aload_n (i := 0) hE d_Mo_exp_0 rfl rfl ?_
  refine cx_wP hE d_Mo_exp_1 l_Mo_285 W0 (c_Mo_binary hX hfe W0.1 W0.2.2 hK) rfl (by omega) (Nat.le_of_ble_eq_true rfl) n_Mo_binary (by first | rfl | (simp only [List.map_cons, List.map_nil, cx_rfc]; rfl)) (fun v_1 G_1 P_1 M_1 W_1 K_1 => ?_)
  have m_1 := W_1.1.1
  refine cx_istore_n (i := 1) hE d_Mo_exp_4 rfl (by decide) ?_
  refine cx_aload_n (i := 0) hE d_Mo_exp_5 rfl rfl ?_
  refine cx_bipush (v := 63) hE d_Mo_exp_6 (by decide) ?_
  refine cx_wR hE d_Mo_exp_8 l_Mo_203 W_1 (s_is W_1.1 K_1) rfl (by omega) (Nat.le_of_ble_eq_true rfl) n_Mo_is (by first | rfl | (simp only [List.map_cons, List.map_nil, cx_rfc]; rfl)) (fun v_8 K_8 => ?_)
  obtain ⟨b_8, rfl, K_8⟩ := K_8
  refine cx_if_ne (tgt := 16)  hE d_Mo_exp_11 (by decide) (fun c_11 => ?_) (fun c_11 => ?_)
  · have K_11 := rp_ifp K_8 (cx_bn.mp c_11)
    refine cx_aload_n (i := 0) hE d_Mo_exp_16 rfl rfl ?_
    refine cx_get hE d_Mo_exp_17 f_Mo_19 (by assumption) (by rfl) ?_
    refine cx_aload_n (i := 0) hE d_Mo_exp_20 rfl rfl ?_
    refine cx_get hE d_Mo_exp_21 f_Mo_193 (by assumption) (by rfl) ?_
    obtain ⟨i_24, e_24, l_24, K_24⟩ := K_11
    rw [e_24]
    refine cx_iald 1 hE d_Mo_exp_24 rfl (W_1.1.i 5 rfl) (vp_in_nI (by show _ < 65540; omega) (by show 65540 < 2147483648; omega)) ?_
    rw [nI_clamp (by omega)]
    refine cx_istore_n (i := 2) hE d_Mo_exp_25 rfl (by decide) ?_
    refine cx_aload_n (i := 0) hE d_Mo_exp_26 rfl rfl ?_
    refine cx_dup hE d_Mo_exp_27 ?_
    refine cx_get hE d_Mo_exp_28 f_Mo_193 (by assumption) (by rfl) ?_
    refine cx_iconst (v := 1) hE d_Mo_exp_31 (by decide) ?_
    refine cx_iadd hE d_Mo_exp_32 ?_
    refine cx_putg hE d_Mo_exp_33 f_Mo_193 (by assumption) (Nat.le_of_ble_eq_true rfl) (by first | rfl | exact cx_nr _ _) (by first | rfl | exact cx_fr _ _) (fun G_33 g_33 h_33 => ?_)
    rw [rm_s8] at g_33
    clear h_33
    have W_33 : rm_W k mo b G P G_33 P_1 (rp_i M_1 1) := W_1.pi g_33
    have m_33 := W_33.1.1
    refine cx_aload_n (i := 0) hE d_Mo_exp_36 rfl rfl ?_
    refine cx_wP hE d_Mo_exp_37 l_Mo_288 W_33 (hX _ _ _ _ W_33.1 W_33.2.2 K_24) rfl (by omega) (Nat.le_of_ble_eq_true rfl) n_Mo_exp (by first | rfl | (simp only [List.map_cons, List.map_nil, cx_rfc]; rfl)) (fun v_37 G_37 P_37 M_37 W_37 K_37 => ?_)
    have m_37 := W_37.1.1
    refine cx_istore_n (i := 3) hE d_Mo_exp_40 rfl (by decide) ?_
    refine cx_aload_n (i := 0) hE d_Mo_exp_41 rfl rfl ?_
    refine cx_dup hE d_Mo_exp_42 ?_
    refine cx_get hE d_Mo_exp_43 f_Mo_193 (by assumption) (by rfl) ?_
    refine cx_iconst (v := 1) hE d_Mo_exp_46 (by decide) ?_
    refine cx_iadd hE d_Mo_exp_47 ?_
    refine cx_putg hE d_Mo_exp_48 f_Mo_193 (by assumption) (Nat.le_of_ble_eq_true rfl) (by first | rfl | exact cx_nr _ _) (by first | rfl | exact cx_fr _ _) (fun G_48 g_48 h_48 => ?_)
    rw [rm_s8] at g_48
    clear h_48
    have W_48 : rm_W k mo b G P G_48 P_37 (rp_i M_37 1) := W_37.pi g_48
    have m_48 := W_48.1.1
    refine cx_aload_n (i := 0) hE d_Mo_exp_51 rfl rfl ?_
    refine cx_wP hE d_Mo_exp_52 l_Mo_288 W_48 (hX _ _ _ _ W_48.1 W_48.2.2 K_37) rfl (by omega) (Nat.le_of_ble_eq_true rfl) n_Mo_exp (by first | rfl | (simp only [List.map_cons, List.map_nil, cx_rfc]; rfl)) (fun v_52 G_52 P_52 M_52 W_52 K_52 => ?_)
    have m_52 := W_52.1.1
    refine cx_istore hE d_Mo_exp_55 (by decide) ?_
    have h77 : ∀ (G1 : cx_G) (P1 : Nat → Nat), rm_W k mo b G P G1 P1 (rp_ff (v_37 ≠ v_52) 30 (M_1.2.1 5 i_24) M_52) → cx_V E 77 [(4, false, .int v_52), (3, false, .int v_37), (2, false, .int (M_1.2.1 5 i_24)), (1, false, .int v_1), (0, false, .ref mo)] [] G1 := by
      intro G1 P1 W1
      have m1 := W1.1.1
      refine cx_aload_n (i := 0) hE d_Mo_exp_77 rfl rfl ?_
      refine cx_iload_n (i := 3) hE d_Mo_exp_78 rfl rfl ?_
      refine cx_iload_n (i := 1) hE d_Mo_exp_79 rfl rfl ?_
      refine cx_icmp_le (tgt := 88)  hE d_Mo_exp_80 (by decide) (fun c_80 => ?_) (fun c_80 => ?_)
      · rw [rp_max_le c_80] at K_52
        refine cx_iload_n (i := 1) hE d_Mo_exp_88 rfl rfl ?_
        refine cx_i2l hE d_Mo_exp_89 ?_
        refine cx_w0 hE d_Mo_exp_90 l_Mo_291 W1 (s_cost W1.1 W1.2.2 K_52) rfl (by omega) (Nat.le_of_ble_eq_true rfl) n_Mo_cost (by first | rfl | (simp only [List.map_cons, List.map_nil, cx_rfc]; rfl)) (fun G_90 P_90 M_90 W_90 K_90 => ?_)
        have m_90 := W_90.1.1
        refine cx_aload_n (i := 0) hE d_Mo_exp_93 rfl rfl ?_
        refine cx_bipush (v := 6) hE d_Mo_exp_94 (by decide) ?_
        refine cx_iconst (v := 0) hE d_Mo_exp_96 (by decide) ?_
        refine cx_iconst (v := 0) hE d_Mo_exp_97 (by decide) ?_
        refine cx_w0 hE d_Mo_exp_98 l_Mo_295 W_90 (s_lay W_90.1 W_90.2.2 K_90) rfl (by omega) (Nat.le_of_ble_eq_true rfl) n_Mo_lay (by first | rfl | (simp only [List.map_cons, List.map_nil, cx_rfc]; rfl)) (fun G_98 P_98 M_98 W_98 K_98 => ?_)
        have m_98 := W_98.1.1
        refine cx_iload_n (i := 3) hE d_Mo_exp_101 rfl rfl ?_
        refine cx_iret hE d_Mo_exp_102 rfl rfl ?_
        exact ⟨_, _, _, rfl, W_98, K_98⟩
      · rw [rp_max_gt c_80] at K_52
        refine cx_iload_n (i := 3) hE d_Mo_exp_83 rfl rfl ?_
        refine cx_i2l hE d_Mo_exp_84 ?_
        refine cx_goto (tgt := 90) hE d_Mo_exp_85 (by decide) ?_
        refine cx_w0 hE d_Mo_exp_90 l_Mo_291 W1 (s_cost W1.1 W1.2.2 K_52) rfl (by omega) (Nat.le_of_ble_eq_true rfl) n_Mo_cost (by first | rfl | (simp only [List.map_cons, List.map_nil, cx_rfc]; rfl)) (fun G_90 P_90 M_90 W_90 K_90 => ?_)
        have m_90 := W_90.1.1
        refine cx_aload_n (i := 0) hE d_Mo_exp_93 rfl rfl ?_
        refine cx_bipush (v := 6) hE d_Mo_exp_94 (by decide) ?_
        refine cx_iconst (v := 0) hE d_Mo_exp_96 (by decide) ?_
        refine cx_iconst (v := 0) hE d_Mo_exp_97 (by decide) ?_
        refine cx_w0 hE d_Mo_exp_98 l_Mo_295 W_90 (s_lay W_90.1 W_90.2.2 K_90) rfl (by omega) (Nat.le_of_ble_eq_true rfl) n_Mo_lay (by first | rfl | (simp only [List.map_cons, List.map_nil, cx_rfc]; rfl)) (fun G_98 P_98 M_98 W_98 K_98 => ?_)
        have m_98 := W_98.1.1
        refine cx_iload_n (i := 3) hE d_Mo_exp_101 rfl rfl ?_
        refine cx_iret hE d_Mo_exp_102 rfl rfl ?_
        exact ⟨_, _, _, rfl, W_98, K_98⟩
    refine cx_aload_n (i := 0) hE d_Mo_exp_57 rfl rfl ?_
    refine cx_get hE d_Mo_exp_58 f_Mo_187 (by assumption) (by rfl) ?_
    refine cx_if_ne (tgt := 77)  hE d_Mo_exp_61 (by decide) (fun c_61 => ?_) (fun c_61 => ?_)
    · refine cx_sub [0, 1, 2, 3, 4] rfl ?_
      exact h77 _ _ (by rw [rp_ff_n (fun z => c_61 z.1)]; exact W_52)
    · refine cx_iload_n (i := 3) hE d_Mo_exp_64 rfl rfl ?_
      refine cx_iload hE d_Mo_exp_65 rfl ?_
      refine cx_icmp_eq (tgt := 77)  hE d_Mo_exp_67 (by decide) (fun c_67 => ?_) (fun c_67 => ?_)
      · refine cx_sub [0, 1, 2, 3, 4] rfl ?_
        exact h77 _ _ (by rw [rp_ff_n (c := v_37 ≠ v_52) (fun z => z.2 c_67)]; exact W_52)
      · refine cx_aload_n (i := 0) hE d_Mo_exp_70 rfl rfl ?_
        refine cx_bipush (v := 30) hE d_Mo_exp_71 (by decide) ?_
        refine cx_iload_n (i := 2) hE d_Mo_exp_73 rfl rfl ?_
        refine cx_w0 hE d_Mo_exp_74 l_Mo_196 W_52 (s_fail (K := fun Mq9 => Mq9 = rm_fail _ _ M_52) W_52.1 W_52.2.2 rfl) rfl (by omega) (Nat.le_of_ble_eq_true rfl) n_Mo_fail (by first | rfl | (simp only [List.map_cons, List.map_nil, cx_rfc]; rfl)) (fun G_74 P_74 M_74 W_74 K_74 => ?_)
        have m_74 := W_74.1.1
        refine cx_sub [0, 1, 2, 3, 4] rfl ?_
        exact h77 _ _ (by rw [rp_ff_p c_61 c_67]; subst K_74; exact W_74)
  · have K_11 := rp_ifn K_8 (by rw [cx_b0.mp c_11]; decide)
    refine cx_iload_n (i := 1) hE d_Mo_exp_14 rfl rfl ?_
    refine cx_iret hE d_Mo_exp_15 rfl rfl ?_
    exact ⟨_, _, _, rfl, W_1, K_11⟩
theorem c_Mo_exf {k : cx_K} {l : Launch} {mo : Nat} {b : Nat × Nat} {N : Nat} : ∀ m, rp_XE k l mo b (rp_exf N m) (5 * m + 5) := by
  intro m
  induction m with
  | zero => intro G P M K _ _ h; exact h.elim
  | succ m ih =>
    intro G P M K hm hQ hK
    exact (c_Mo_exp1 ih (by omega) hm hQ hK).more (by omega)
theorem c_Mo_exp {k : cx_K} {l : Launch} {mo : Nat} {b : Nat × Nat} {N : Nat} : rp_XE k l mo b (rp_exp N) 310 := c_Mo_exf 61

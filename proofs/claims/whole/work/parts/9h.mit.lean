/-! THE SECOND PASS: instances and items, step by step. -/
set_option maxRecDepth 100000 in
theorem c_Mo_instance {k : cx_K} {l : Launch} {G : cx_G} {N : Nat} {mo : Nat} {P : Nat → Nat} {M : rm_M} {b : Nat × Nat} (hm : rm_R k G mo P M) (hQ : rm_Q b G M) {K : rm_M → Prop} (hK : rp_ins N K M)  : cx_Sp k l m_Mo_instance 312 [.ref mo] G (rp_P0 k mo b G P K) := by
  intro E hE
  have W0 := rm_W.rf hm hQ
  have m0 := hm.1
  have h254 : ∀ (m ow : Nat) (kk : Int32) (Gy : cx_G) (Py : Nat → Nat) (My : rm_M), rm_W k mo b G P Gy Py My → (fun Mq => ∃ it, Mq.1 27 = nI it ∧ it < 11000 ∧ K (rp_set (rp_int (rp_i Mq 1) 27 (nI (it + 1))) 30 (it + 1) (Mq.1 31))) My → cx_V E 254 [(3, false, .int kk), (2, false, .int (nI ow)), (1, false, .int (nI m)), (0, false, .ref mo)] [] Gy := by
    intro m ow kk Gy Py My Wy hK
    have my := Wy.1.1
    obtain ⟨it2, e27, l27, hK⟩ := hK
    refine cx_aload_n (i := 0) hE d_Mo_instance_254 rfl rfl ?_
    refine cx_dup hE d_Mo_instance_255 ?_
    refine cx_get hE d_Mo_instance_256 f_Mo_193 (by assumption) (by rfl) ?_
    refine cx_iconst (v := 1) hE d_Mo_instance_259 (by decide) ?_
    refine cx_iadd hE d_Mo_instance_260 ?_
    refine cx_putg hE d_Mo_instance_261 f_Mo_193 (by assumption) (Nat.le_of_ble_eq_true rfl) (by first | rfl | exact cx_nr _ _) (by first | rfl | exact cx_fr _ _) (fun G_261 g_261 h_261 => ?_)
    rw [rm_s8] at g_261
    clear h_261
    have W_261 : rm_W k mo b G P G_261 Py (rp_i My 1) := Wy.pi g_261
    have m_261 := W_261.1.1
    refine cx_aload_n (i := 0) hE d_Mo_instance_264 rfl rfl ?_
    refine cx_dup hE d_Mo_instance_265 ?_
    refine cx_get hE d_Mo_instance_266 f_Mo_276 (by assumption) (by rfl) ?_
    rw [show (rp_i My 1).1 27 = nI it2 from e27]
    refine cx_iconst (v := 1) hE d_Mo_instance_269 (by decide) ?_
    refine cx_iadd hE d_Mo_instance_270 ?_
    rw [nI_1]
    refine cx_putg hE d_Mo_instance_271 f_Mo_276 (by assumption) (Nat.le_of_ble_eq_true rfl) (by first | rfl | exact cx_nr _ _) (by first | rfl | exact cx_fr _ _) (fun G_271 g_271 h_271 => ?_)
    rw [rm_s27] at g_271
    clear h_271
    have W_271 : rm_W k mo b G P G_271 Py (rp_int (rp_i My 1) 27 (nI (it2 + 1))) := W_261.pi g_271
    have m_271 := W_271.1.1
    refine cx_aload_n (i := 0) hE d_Mo_instance_274 rfl rfl ?_
    refine cx_get hE d_Mo_instance_275 f_Mo_71 (by assumption) (by rfl) ?_
    refine cx_aload_n (i := 0) hE d_Mo_instance_278 rfl rfl ?_
    refine cx_get hE d_Mo_instance_279 f_Mo_276 (by assumption) (by rfl) ?_
    rw [show (rp_int (rp_i My 1) 27 (nI (it2 + 1))).1 27 = nI (it2 + 1) from rfl]
    refine cx_aload_n (i := 0) hE d_Mo_instance_282 rfl rfl ?_
    refine cx_get hE d_Mo_instance_283 f_Mo_371 (by assumption) (by rfl) ?_
    rw [show (rp_int (rp_i My 1) 27 (nI (it2 + 1))).1 31 = My.1 31 from rfl]
    refine cx_iast 1 hE d_Mo_instance_286 rfl (W_271.1.i 30 rfl) (vp_in_nI (by show _ < 11001; omega) (by show 11001 < 2147483648; omega)) ?_
    rw [nI_clamp (by omega)]
    refine cx_gen (fun G_286 g_286 => ?_)
    have W_286 : rm_W k mo b G P G_286 Py (rp_set (rp_int (rp_i My 1) 27 (nI (it2 + 1))) 30 (it2 + 1) (My.1 31)) := W_271.si 30 rfl g_286
    have m_286 := W_286.1.1
    refine cx_vret hE d_Mo_instance_287 rfl ?_
    exact ⟨_, _, rfl, W_286, hK⟩
  have hall : ∀ (m ow : Nat) (hi : Int32), m < 3600 → ow < 65540 → ∀ (n : Nat) (kk : Int32) (Gy : cx_G) (Py : Nat → Nat) (My : rm_M), rm_W k mo b G P Gy Py My → My.2.1 14 (m + 1) = hi → rp_all ow hi (fun Mq => ∃ it, Mq.1 27 = nI it ∧ it < 11000 ∧ K (rp_set (rp_int (rp_i Mq 1) 27 (nI (it + 1))) 30 (it + 1) (Mq.1 31))) n kk My → cx_V E 191 [(3, false, .int kk), (2, false, .int (nI ow)), (1, false, .int (nI m)), (0, false, .ref mo)] [] Gy := by
    intro m ow hi lm low n
    induction n with
    | zero => intro kk Gy Py My _ _ h; exact h.elim
    | succ n ih =>
      intro kk Gy Py My Wy hrow hK
      have my := Wy.1.1
      unfold rp_all at hK
      refine cx_iload_n (i := 3) hE d_Mo_instance_191 rfl rfl ?_
      refine cx_aload_n (i := 0) hE d_Mo_instance_192 rfl rfl ?_
      refine cx_get hE d_Mo_instance_193 f_Mo_28 (by assumption) (by rfl) ?_
      refine cx_iload_n (i := 1) hE d_Mo_instance_196 rfl rfl ?_
      refine cx_iconst (v := 1) hE d_Mo_instance_197 (by decide) ?_
      refine cx_iadd hE d_Mo_instance_198 ?_
      rw [nI_1]
      refine cx_iald 1 hE d_Mo_instance_199 rfl (Wy.1.i 14 rfl) (vp_in_nI (by show _ < 3601; omega) (by show 3601 < 2147483648; omega)) ?_
      rw [nI_clamp (by omega)]
      rw [hrow]
      refine cx_icmp_ge (tgt := 254)  hE d_Mo_instance_200 (by decide) (fun c_200 => ?_) (fun c_200 => ?_)
      · have K_200 := rp_ifn hK (Int32.not_lt.mpr c_200)
        refine cx_sub [0, 1, 2, 3] rfl ?_
        exact h254 _ _ _ _ _ _ Wy K_200
      · have K_200 := rp_ifp hK (Int32.not_le.mp c_200)
        refine cx_aload_n (i := 0) hE d_Mo_instance_203 rfl rfl ?_
        refine cx_get hE d_Mo_instance_204 f_Mo_187 (by assumption) (by rfl) ?_
        refine cx_if_ne (tgt := 254)  hE d_Mo_instance_207 (by decide) (fun c_207 => ?_) (fun c_207 => ?_)
        · have K_207 := rp_ifn K_200 c_207
          refine cx_sub [0, 1, 2, 3] rfl ?_
          exact h254 _ _ _ _ _ _ Wy K_207
        · have K_207 := rp_ifp K_200 c_207
          obtain ⟨j_210, rfl, l_210, K_210⟩ := K_207
          refine cx_aload_n (i := 0) hE d_Mo_instance_210 rfl rfl ?_
          refine cx_get hE d_Mo_instance_211 f_Mo_46 (by assumption) (by rfl) ?_
          refine cx_iload_n (i := 3) hE d_Mo_instance_214 rfl rfl ?_
          refine cx_iald 1 hE d_Mo_instance_215 rfl (Wy.1.i 21 rfl) (vp_in_nI (by show _ < 11000; omega) (by show 11000 < 2147483648; omega)) ?_
          rw [nI_clamp (by omega)]
          refine cx_iconst (v := 3) hE d_Mo_instance_216 (by decide) ?_
          refine cx_icmp_ge (tgt := 248)  hE d_Mo_instance_217 (by decide) (fun c_217 => ?_) (fun c_217 => ?_)
          · have K_217 := rp_ifn K_210 (Int32.not_lt.mpr c_217)
            refine cx_iinc (v := nI (j_210 + 1)) hE d_Mo_instance_248 rfl (nI_1 _) (by decide) ?_
            refine cx_goto (tgt := 191) hE d_Mo_instance_251 (by decide) ?_
            refine cx_sub [0, 1, 2, 3] rfl ?_
            rw [nI_1] at K_217
            exact ih _ _ _ _ Wy hrow K_217
          · have K_217 := rp_ifp K_210 (Int32.not_le.mp c_217)
            refine cx_aload_n (i := 0) hE d_Mo_instance_220 rfl rfl ?_
            refine cx_aload_n (i := 0) hE d_Mo_instance_221 rfl rfl ?_
            refine cx_get hE d_Mo_instance_222 f_Mo_276 (by assumption) (by rfl) ?_
            refine cx_aload_n (i := 0) hE d_Mo_instance_225 rfl rfl ?_
            refine cx_get hE d_Mo_instance_226 f_Mo_371 (by assumption) (by rfl) ?_
            refine cx_iload_n (i := 3) hE d_Mo_instance_229 rfl rfl ?_
            refine cx_wR hE d_Mo_instance_230 l_Mo_377 Wy (s_lof Wy.1 K_217) rfl (by omega) (Nat.le_of_ble_eq_true rfl) n_Mo_linkOf (by first | rfl | (simp only [List.map_cons, List.map_nil, cx_rfc]; rfl)) (fun v_230 K_230 => ?_)
            refine cx_if_ge (tgt := 248)  hE d_Mo_instance_233 (by decide) (fun c_233 => ?_) (fun c_233 => ?_)
            · have K_233 := rp_ifn K_230 (Int32.not_lt.mpr c_233)
              refine cx_iinc (v := nI (j_210 + 1)) hE d_Mo_instance_248 rfl (nI_1 _) (by decide) ?_
              refine cx_goto (tgt := 191) hE d_Mo_instance_251 (by decide) ?_
              refine cx_sub [0, 1, 2, 3] rfl ?_
              rw [nI_1] at K_233
              exact ih _ _ _ _ Wy hrow K_233
            · have K_233 := rp_ifp K_230 (Int32.not_le.mp c_233)
              refine cx_aload_n (i := 0) hE d_Mo_instance_236 rfl rfl ?_
              refine cx_bipush (v := 24) hE d_Mo_instance_237 (by decide) ?_
              refine cx_aload_n (i := 0) hE d_Mo_instance_239 rfl rfl ?_
              refine cx_get hE d_Mo_instance_240 f_Mo_19 (by assumption) (by rfl) ?_
              refine cx_iload_n (i := 2) hE d_Mo_instance_243 rfl rfl ?_
              refine cx_iald 1 hE d_Mo_instance_244 rfl (Wy.1.i 5 rfl) (vp_in_nI (by show _ < 65540; omega) (by show 65540 < 2147483648; omega)) ?_
              rw [nI_clamp (by omega)]
              refine cx_w0 hE d_Mo_instance_245 l_Mo_196 Wy (s_fail (K := fun Mq9 => Mq9 = rm_fail _ _ My) Wy.1 Wy.2.2 rfl) rfl (by omega) (Nat.le_of_ble_eq_true rfl) n_Mo_fail (by first | rfl | (simp only [List.map_cons, List.map_nil, cx_rfc]; rfl)) (fun G_245 P_245 M_245 W_245 K_245 => ?_)
              have m_245 := W_245.1.1
              refine cx_iinc (v := nI (j_210 + 1)) hE d_Mo_instance_248 rfl (nI_1 _) (by decide) ?_
              refine cx_goto (tgt := 191) hE d_Mo_instance_251 (by decide) ?_
              refine cx_sub [0, 1, 2, 3] rfl ?_
              rw [nI_1] at K_233
              subst K_245
              exact ih _ _ _ _ W_245 (by rw [(rx_o.fail _ _ _).2.1]; exact hrow) K_233
  have hlks : ∀ (m ow : Nat), m < 3600 → ow < 65540 → ∀ (n : Nat) (Gx : cx_G) (Px : Nat → Nat) (Mx : rm_M), rm_W k mo b G P Gx Px Mx → rp_lks N m (fun Mq => ∃ lo, Mq.2.1 14 m = nI lo ∧ rp_all ow (Mq.2.1 14 (m + 1)) (fun Mq => ∃ it, Mq.1 27 = nI it ∧ it < 11000 ∧ K (rp_set (rp_int (rp_i Mq 1) 27 (nI (it + 1))) 30 (it + 1) (Mq.1 31))) N (nI lo) (rp_i Mq 1)) n Mx → cx_V E 131 [(2, false, .int (nI ow)), (1, false, .int (nI m)), (0, false, .ref mo)] [] Gx := by
    intro m ow lm low n
    induction n with
    | zero => intro Gx Px Mx _ h; exact h.elim
    | succ n ih =>
      intro Gx Px Mx Wx hK
      have mx := Wx.1.1
      unfold rp_lks at hK
      refine cx_aload_n (i := 0) hE d_Mo_instance_131 rfl rfl ?_
      refine cx_bipush (v := 46) hE d_Mo_instance_132 (by decide) ?_
      refine cx_wR hE d_Mo_instance_134 l_Mo_203 Wx (s_is Wx.1 hK) rfl (by omega) (Nat.le_of_ble_eq_true rfl) n_Mo_is (by first | rfl | (simp only [List.map_cons, List.map_nil, cx_rfc]; rfl)) (fun v_134 K_134 => ?_)
      obtain ⟨b_134, rfl, K_134⟩ := K_134
      refine cx_if_eq (tgt := 174)  hE d_Mo_instance_137 (by decide) (fun c_137 => ?_) (fun c_137 => ?_)
      · have K_137 := rp_ifn K_134 (by rw [cx_b0.mp c_137]; decide)
        refine cx_aload_n (i := 0) hE d_Mo_instance_174 rfl rfl ?_
        refine cx_dup hE d_Mo_instance_175 ?_
        refine cx_get hE d_Mo_instance_176 f_Mo_193 (by assumption) (by rfl) ?_
        refine cx_iconst (v := 1) hE d_Mo_instance_179 (by decide) ?_
        refine cx_iadd hE d_Mo_instance_180 ?_
        refine cx_putg hE d_Mo_instance_181 f_Mo_193 (by assumption) (Nat.le_of_ble_eq_true rfl) (by first | rfl | exact cx_nr _ _) (by first | rfl | exact cx_fr _ _) (fun G_181 g_181 h_181 => ?_)
        rw [rm_s8] at g_181
        clear h_181
        have W_181 : rm_W k mo b G P G_181 Px (rp_i Mx 1) := Wx.pi g_181
        have m_181 := W_181.1.1
        refine cx_aload_n (i := 0) hE d_Mo_instance_184 rfl rfl ?_
        refine cx_get hE d_Mo_instance_185 f_Mo_28 (by assumption) (by rfl) ?_
        refine cx_iload_n (i := 1) hE d_Mo_instance_188 rfl rfl ?_
        obtain ⟨lo_174, e_174, K_174⟩ := K_137
        refine cx_iald 1 hE d_Mo_instance_189 rfl (W_181.1.i 14 rfl) (vp_in_nI (by show _ < 3601; omega) (by show 3601 < 2147483648; omega)) ?_
        rw [nI_clamp (by omega)]
        rw [show (rp_i Mx 1).2.1 14 m = nI lo_174 from e_174]
        refine cx_istore_n (i := 3) hE d_Mo_instance_190 rfl (by decide) ?_
        refine cx_sub [0, 1, 2, 3] rfl ?_
        exact hall _ _ _ lm low _ _ _ _ _ W_181 rfl K_174
      · have K_137 := rp_ifp K_134 (cx_bn.mp c_137)
        refine cx_aload_n (i := 0) hE d_Mo_instance_140 rfl rfl ?_
        refine cx_iload_n (i := 1) hE d_Mo_instance_141 rfl rfl ?_
        refine cx_w0 hE d_Mo_instance_142 l_Mo_374 Wx (c_Mo_link Wx.1 Wx.2.2 K_137) rfl (by omega) (Nat.le_of_ble_eq_true rfl) n_Mo_link (by first | rfl | (simp only [List.map_cons, List.map_nil, cx_rfc]; rfl)) (fun G_142 P_142 M_142 W_142 K_142 => ?_)
        have m_142 := W_142.1.1
        refine cx_aload_n (i := 0) hE d_Mo_instance_145 rfl rfl ?_
        refine cx_aload_n (i := 0) hE d_Mo_instance_146 rfl rfl ?_
        refine cx_wR hE d_Mo_instance_147 l_Mo_216 W_142 (s_kind W_142.1 K_142) rfl (by omega) (Nat.le_of_ble_eq_true rfl) n_Mo_kind (by first | rfl | (simp only [List.map_cons, List.map_nil, cx_rfc]; rfl)) (fun v_147 K_147 => ?_)
        refine cx_bipush (v := 44) hE d_Mo_instance_150 (by decide) ?_
        refine cx_icmp_ne (tgt := 164)  hE d_Mo_instance_152 (by decide) (fun c_152 => ?_) (fun c_152 => ?_)
        · rw [if_neg c_152] at K_147
          refine cx_aload_n (i := 0) hE d_Mo_instance_164 rfl rfl ?_
          refine cx_get hE d_Mo_instance_165 f_Mo_193 (by assumption) (by rfl) ?_
          refine cx_putg hE d_Mo_instance_168 f_Mo_193 (by assumption) (Nat.le_of_ble_eq_true rfl) (by first | rfl | exact cx_nr _ _) (by first | rfl | exact cx_fr _ _) (fun G_168 g_168 h_168 => ?_)
          rw [rm_s8] at g_168
          clear h_168
          have W_168 : rm_W k mo b G P G_168 P_142 (rp_t M_142 (M_142.1 8)) := W_142.pi g_168
          have m_168 := W_168.1.1
          refine cx_goto (tgt := 131) hE d_Mo_instance_171 (by decide) ?_
          refine cx_sub [0, 1, 2] rfl ?_
          exact ih _ _ _ W_168 K_147
        · rw [if_pos c_152] at K_147
          refine cx_aload_n (i := 0) hE d_Mo_instance_155 rfl rfl ?_
          refine cx_get hE d_Mo_instance_156 f_Mo_193 (by assumption) (by rfl) ?_
          refine cx_iconst (v := 1) hE d_Mo_instance_159 (by decide) ?_
          refine cx_iadd hE d_Mo_instance_160 ?_
          refine cx_goto (tgt := 168) hE d_Mo_instance_161 (by decide) ?_
          refine cx_putg hE d_Mo_instance_168 f_Mo_193 (by assumption) (Nat.le_of_ble_eq_true rfl) (by first | rfl | exact cx_nr _ _) (by first | rfl | exact cx_fr _ _) (fun G_168 g_168 h_168 => ?_)
          rw [rm_s8] at g_168
          clear h_168
          have W_168 : rm_W k mo b G P G_168 P_142 (rp_t M_142 (M_142.1 8 + 1)) := W_142.pi g_168
          have m_168 := W_168.1.1
          refine cx_goto (tgt := 131) hE d_Mo_instance_171 (by decide) ?_
          refine cx_sub [0, 1, 2] rfl ?_
          exact ih _ _ _ W_168 K_147
  have h85 : ∀ (m : Nat) (Mb : rm_M) (G1 : cx_G) (P1 : Nat → Nat), m < 3600 → rm_W k mo b G P G1 P1 Mb → Mb.1 27 = M.1 27 → Mb.1 31 = M.1 31 → Mb.1 8 = (rp_i M 1).1 8 → (∃ it ow, M.1 27 = nI it ∧ it < 11000 ∧ (rp_i M 1).1 8 = nI ow ∧ ow < 65540 ∧ rp_lks N m (fun Mq => ∃ lo, Mq.2.1 14 m = nI lo ∧ rp_all ow (Mq.2.1 14 (m + 1)) (fun Mq => ∃ it, Mq.1 27 = nI it ∧ it < 11000 ∧ K (rp_set (rp_int (rp_i Mq 1) 27 (nI (it + 1))) 30 (it + 1) (Mq.1 31))) N (nI lo) (rp_i Mq 1)) N (rp_i (rp_set (rp_set (rp_set Mb 28 it (nI m)) 29 it (nI ow)) 30 it (M.1 31)) 2)) → cx_V E 85 [(2, false, .int ((rp_i M 1).1 8)), (1, false, .int (nI m)), (0, false, .ref mo)] [] G1 := by
    intro m Mb G1 P1 lm W1 b27 b31 b8 hK
    have m1 := W1.1.1
    obtain ⟨it, ow, e27, l27, eow, low, hK⟩ := hK
    have c27 : Mb.1 27 = nI it := b27.trans e27
    have c8 : Mb.1 8 = nI ow := b8.trans eow
    rw [eow]
    refine cx_aload_n (i := 0) hE d_Mo_instance_85 rfl rfl ?_
    refine cx_get hE d_Mo_instance_86 f_Mo_65 (by assumption) (by rfl) ?_
    refine cx_aload_n (i := 0) hE d_Mo_instance_89 rfl rfl ?_
    refine cx_get hE d_Mo_instance_90 f_Mo_276 (by assumption) (by rfl) ?_
    rw [c27]
    refine cx_iload_n (i := 1) hE d_Mo_instance_93 rfl rfl ?_
    refine cx_iast 1 hE d_Mo_instance_94 rfl (W1.1.i 28 rfl) (vp_in_nI (by show _ < 11000; omega) (by show 11000 < 2147483648; omega)) ?_
    rw [nI_clamp (by omega)]
    refine cx_gen (fun G_94 g_94 => ?_)
    have W_94 : rm_W k mo b G P G_94 P1 (rp_set Mb 28 it (nI m)) := W1.si 28 rfl g_94
    have m_94 := W_94.1.1
    refine cx_aload_n (i := 0) hE d_Mo_instance_95 rfl rfl ?_
    refine cx_get hE d_Mo_instance_96 f_Mo_68 (by assumption) (by rfl) ?_
    refine cx_aload_n (i := 0) hE d_Mo_instance_99 rfl rfl ?_
    refine cx_get hE d_Mo_instance_100 f_Mo_276 (by assumption) (by rfl) ?_
    rw [show (rp_set Mb 28 it (nI m)).1 27 = nI it from c27]
    refine cx_aload_n (i := 0) hE d_Mo_instance_103 rfl rfl ?_
    refine cx_get hE d_Mo_instance_104 f_Mo_193 (by assumption) (by rfl) ?_
    rw [show (rp_set Mb 28 it (nI m)).1 8 = nI ow from c8]
    refine cx_iast 1 hE d_Mo_instance_107 rfl (W_94.1.i 29 rfl) (vp_in_nI (by show _ < 11000; omega) (by show 11000 < 2147483648; omega)) ?_
    rw [nI_clamp (by omega)]
    refine cx_gen (fun G_107 g_107 => ?_)
    have W_107 : rm_W k mo b G P G_107 P1 (rp_set (rp_set Mb 28 it (nI m)) 29 it (nI ow)) := W_94.si 29 rfl g_107
    have m_107 := W_107.1.1
    refine cx_aload_n (i := 0) hE d_Mo_instance_108 rfl rfl ?_
    refine cx_get hE d_Mo_instance_109 f_Mo_71 (by assumption) (by rfl) ?_
    refine cx_aload_n (i := 0) hE d_Mo_instance_112 rfl rfl ?_
    refine cx_get hE d_Mo_instance_113 f_Mo_276 (by assumption) (by rfl) ?_
    rw [show (rp_set (rp_set Mb 28 it (nI m)) 29 it (nI ow)).1 27 = nI it from c27]
    refine cx_aload_n (i := 0) hE d_Mo_instance_116 rfl rfl ?_
    refine cx_get hE d_Mo_instance_117 f_Mo_371 (by assumption) (by rfl) ?_
    rw [show (rp_set (rp_set Mb 28 it (nI m)) 29 it (nI ow)).1 31 = M.1 31 from b31]
    refine cx_iast 1 hE d_Mo_instance_120 rfl (W_107.1.i 30 rfl) (vp_in_nI (by show _ < 11001; omega) (by show 11001 < 2147483648; omega)) ?_
    rw [nI_clamp (by omega)]
    refine cx_gen (fun G_120 g_120 => ?_)
    have W_120 : rm_W k mo b G P G_120 P1 (rp_set (rp_set (rp_set Mb 28 it (nI m)) 29 it (nI ow)) 30 it (M.1 31)) := W_107.si 30 rfl g_120
    have m_120 := W_120.1.1
    refine cx_aload_n (i := 0) hE d_Mo_instance_121 rfl rfl ?_
    refine cx_aload_n (i := 0) hE d_Mo_instance_122 rfl rfl ?_
    refine cx_get hE d_Mo_instance_123 f_Mo_193 (by assumption) (by rfl) ?_
    refine cx_iconst (v := 2) hE d_Mo_instance_126 (by decide) ?_
    refine cx_iadd hE d_Mo_instance_127 ?_
    refine cx_putg hE d_Mo_instance_128 f_Mo_193 (by assumption) (Nat.le_of_ble_eq_true rfl) (by first | rfl | exact cx_nr _ _) (by first | rfl | exact cx_fr _ _) (fun G_128 g_128 h_128 => ?_)
    rw [rm_s8] at g_128
    clear h_128
    have W_128 : rm_W k mo b G P G_128 P1 (rp_i (rp_set (rp_set (rp_set Mb 28 it (nI m)) 29 it (nI ow)) 30 it (M.1 31)) 2) := W_120.pi g_128
    have m_128 := W_128.1.1
    refine cx_sub [0, 1, 2] rfl ?_
    exact hlks _ _ lm low _ _ _ _ W_128 hK
  refine cx_aload_n (i := 0) hE d_Mo_instance_0 rfl rfl ?_
  refine cx_aload_n (i := 0) hE d_Mo_instance_1 rfl rfl ?_
  refine cx_get hE d_Mo_instance_2 f_Mo_193 (by assumption) (by rfl) ?_
  refine cx_aload_n (i := 0) hE d_Mo_instance_5 rfl rfl ?_
  refine cx_get hE d_Mo_instance_6 f_Mo_266 (by assumption) (by rfl) ?_
  refine cx_wR hE d_Mo_instance_9 l_Mo_368 W0 (s_mno W0.1 hK) rfl (by omega) (Nat.le_of_ble_eq_true rfl) n_Mo_moduleNamed (by first | rfl | (simp only [List.map_cons, List.map_nil, cx_rfc]; rfl)) (fun v_9 K_9 => ?_)
  obtain ⟨i_9, e_9, l_9, K_9b⟩ := K_9
  refine cx_istore_n (i := 1) hE d_Mo_instance_12 rfl (by decide) ?_
  refine cx_iload_n (i := 1) hE d_Mo_instance_13 rfl rfl ?_
  refine cx_if_ge (tgt := 33)  hE d_Mo_instance_14 (by decide) (fun c_14 => ?_) (fun c_14 => ?_)
  · have K_14 := rp_ifn K_9b (Int32.not_lt.mpr c_14)
    obtain ⟨m_33, rfl, l_33, K_33⟩ := K_14
    refine cx_aload_n (i := 0) hE d_Mo_instance_33 rfl rfl ?_
    refine cx_dup hE d_Mo_instance_34 ?_
    refine cx_get hE d_Mo_instance_35 f_Mo_193 (by assumption) (by rfl) ?_
    refine cx_iconst (v := 1) hE d_Mo_instance_38 (by decide) ?_
    refine cx_iadd hE d_Mo_instance_39 ?_
    refine cx_putg hE d_Mo_instance_40 f_Mo_193 (by assumption) (Nat.le_of_ble_eq_true rfl) (by first | rfl | exact cx_nr _ _) (by first | rfl | exact cx_fr _ _) (fun G_40 g_40 h_40 => ?_)
    rw [rm_s8] at g_40
    clear h_40
    have W_40 : rm_W k mo b G P G_40 P (rp_i M 1) := W0.pi g_40
    have m_40 := W_40.1.1
    refine cx_aload_n (i := 0) hE d_Mo_instance_43 rfl rfl ?_
    refine cx_get hE d_Mo_instance_44 f_Mo_193 (by assumption) (by rfl) ?_
    refine cx_istore_n (i := 2) hE d_Mo_instance_47 rfl (by decide) ?_
    refine cx_aload_n (i := 0) hE d_Mo_instance_48 rfl rfl ?_
    refine cx_aload_n (i := 0) hE d_Mo_instance_49 rfl rfl ?_
    refine cx_get hE d_Mo_instance_50 f_Mo_193 (by assumption) (by rfl) ?_
    refine cx_wR hE d_Mo_instance_53 l_Mo_330 W_40 (s_here W_40.1 K_33) rfl (by omega) (Nat.le_of_ble_eq_true rfl) n_Mo_here (by first | rfl | (simp only [List.map_cons, List.map_nil, cx_rfc]; rfl)) (fun v_53 K_53 => ?_)
    refine cx_if_ge (tgt := 70)  hE d_Mo_instance_56 (by decide) (fun c_56 => ?_) (fun c_56 => ?_)
    · have K_56 := rp_ifp K_53 c_56
      obtain ⟨i_bg, e_bg, l_bg, K_bg⟩ := K_56
      refine cx_aload_n (i := 0) hE d_Mo_instance_70 rfl rfl ?_
      refine cx_bipush (v := 21) hE d_Mo_instance_71 (by decide) ?_
      refine cx_aload_n (i := 0) hE d_Mo_instance_73 rfl rfl ?_
      refine cx_get hE d_Mo_instance_74 f_Mo_19 (by assumption) (by rfl) ?_
      refine cx_aload_n (i := 0) hE d_Mo_instance_77 rfl rfl ?_
      refine cx_get hE d_Mo_instance_78 f_Mo_193 (by assumption) (by rfl) ?_
      rw [e_bg]
      refine cx_iald 1 hE d_Mo_instance_81 rfl (W_40.1.i 5 rfl) (vp_in_nI (by show _ < 65540; omega) (by show 65540 < 2147483648; omega)) ?_
      rw [nI_clamp (by omega)]
      refine cx_w0 hE d_Mo_instance_82 l_Mo_196 W_40 (s_fail (K := fun Mq9 => Mq9 = rm_fail _ _ (rp_i M 1)) W_40.1 W_40.2.2 rfl) rfl (by omega) (Nat.le_of_ble_eq_true rfl) n_Mo_fail (by first | rfl | (simp only [List.map_cons, List.map_nil, cx_rfc]; rfl)) (fun G_82 P_82 M_82 W_82 K_82 => ?_)
      have m_82 := W_82.1.1
      refine cx_sub [0, 1, 2] rfl ?_
      rw [← e_bg]
      rw [if_pos rfl] at K_bg
      subst K_82
      exact h85 _ _ _ _ l_33 W_82 ((rx_o.fail _ _ _).1 27 (by decide) (by decide) (by decide) (by decide)) ((rx_o.fail _ _ _).1 31 (by decide) (by decide) (by decide) (by decide)) (by unfold rm_fail; split <;> rfl) K_bg
    · have K_56 := rp_ifn K_53 c_56
      refine cx_aload_n (i := 0) hE d_Mo_instance_59 rfl rfl ?_
      refine cx_aload_n (i := 0) hE d_Mo_instance_60 rfl rfl ?_
      refine cx_get hE d_Mo_instance_61 f_Mo_193 (by assumption) (by rfl) ?_
      refine cx_wR hE d_Mo_instance_64 l_Mo_338 W_40 (s_inm W_40.1 K_56) rfl (by omega) (Nat.le_of_ble_eq_true rfl) n_Mo_isInstanceName (by first | rfl | (simp only [List.map_cons, List.map_nil, cx_rfc]; rfl)) (fun v_64 K_64 => ?_)
      obtain ⟨b_64, rfl, K_64⟩ := K_64
      refine cx_if_eq (tgt := 85)  hE d_Mo_instance_67 (by decide) (fun c_67 => ?_) (fun c_67 => ?_)
      · refine cx_sub [0, 1, 2] rfl ?_
        obtain ⟨i_bg, e_bg, l_bg, K_bg⟩ := K_64
        have hb := cx_b0.mp c_67
        subst hb
        rw [if_neg (by decide)] at K_bg
        exact h85 _ _ _ _ l_33 W_40 rfl rfl rfl K_bg
      · obtain ⟨i_bg, e_bg, l_bg, K_bg⟩ := K_64
        have hb := cx_bn.mp c_67
        subst hb
        refine cx_aload_n (i := 0) hE d_Mo_instance_70 rfl rfl ?_
        refine cx_bipush (v := 21) hE d_Mo_instance_71 (by decide) ?_
        refine cx_aload_n (i := 0) hE d_Mo_instance_73 rfl rfl ?_
        refine cx_get hE d_Mo_instance_74 f_Mo_19 (by assumption) (by rfl) ?_
        refine cx_aload_n (i := 0) hE d_Mo_instance_77 rfl rfl ?_
        refine cx_get hE d_Mo_instance_78 f_Mo_193 (by assumption) (by rfl) ?_
        rw [e_bg]
        refine cx_iald 1 hE d_Mo_instance_81 rfl (W_40.1.i 5 rfl) (vp_in_nI (by show _ < 65540; omega) (by show 65540 < 2147483648; omega)) ?_
        rw [nI_clamp (by omega)]
        refine cx_w0 hE d_Mo_instance_82 l_Mo_196 W_40 (s_fail (K := fun Mq9 => Mq9 = rm_fail _ _ (rp_i M 1)) W_40.1 W_40.2.2 rfl) rfl (by omega) (Nat.le_of_ble_eq_true rfl) n_Mo_fail (by first | rfl | (simp only [List.map_cons, List.map_nil, cx_rfc]; rfl)) (fun G_82 P_82 M_82 W_82 K_82 => ?_)
        have m_82 := W_82.1.1
        refine cx_sub [0, 1, 2] rfl ?_
        rw [← e_bg]
        rw [if_pos rfl] at K_bg
        subst K_82
        exact h85 _ _ _ _ l_33 W_82 ((rx_o.fail _ _ _).1 27 (by decide) (by decide) (by decide) (by decide)) ((rx_o.fail _ _ _).1 31 (by decide) (by decide) (by decide) (by decide)) (by unfold rm_fail; split <;> rfl) K_bg
  · have K_14 := rp_ifp K_9b (Int32.not_le.mp c_14)
    refine cx_aload_n (i := 0) hE d_Mo_instance_17 rfl rfl ?_
    refine cx_bipush (v := 22) hE d_Mo_instance_18 (by decide) ?_
    refine cx_aload_n (i := 0) hE d_Mo_instance_20 rfl rfl ?_
    refine cx_get hE d_Mo_instance_21 f_Mo_19 (by assumption) (by rfl) ?_
    refine cx_aload_n (i := 0) hE d_Mo_instance_24 rfl rfl ?_
    refine cx_get hE d_Mo_instance_25 f_Mo_193 (by assumption) (by rfl) ?_
    rw [e_9]
    refine cx_iald 1 hE d_Mo_instance_28 rfl (W0.1.i 5 rfl) (vp_in_nI (by show _ < 65540; omega) (by show 65540 < 2147483648; omega)) ?_
    rw [nI_clamp (by omega)]
    refine cx_w0 hE d_Mo_instance_29 l_Mo_196 W0 (s_fail W0.1 W0.2.2 K_14) rfl (by omega) (Nat.le_of_ble_eq_true rfl) n_Mo_fail (by first | rfl | (simp only [List.map_cons, List.map_nil, cx_rfc]; rfl)) (fun G_29 P_29 M_29 W_29 K_29 => ?_)
    have m_29 := W_29.1.1
    refine cx_vret hE d_Mo_instance_32 rfl ?_
    exact ⟨_, _, rfl, W_29, K_29⟩
set_option maxRecDepth 100000 in
theorem c_Mo_item {k : cx_K} {l : Launch} {G : cx_G} {N : Nat} {mo : Nat} {P : Nat → Nat} {M : rm_M} {b : Nat × Nat} (hm : rm_R k G mo P M) (hQ : rm_Q b G M) {K : rm_M → Prop} (hK : rp_itm N K M)  : cx_Sp k l m_Mo_item 435 [.ref mo] G (rp_P0 k mo b G P K) := by
  intro E hE
  have W0 := rm_W.rf hm hQ
  have m0 := hm.1
  refine cx_aload_n (i := 0) hE d_Mo_item_0 rfl rfl ?_
  obtain ⟨i_1, e_1, l_1, K_1⟩ := hK
  refine cx_invV1 hE d_Mo_item_1 l_Mo_216 W0.1.1 (c_Mo_kind W0.1 (i := i_1) e_1 l_1) rfl (by omega) (Nat.le_of_ble_eq_true rfl) n_Mo_kind (by rfl) ?_
  refine cx_sipush (v := 304) hE d_Mo_item_4 (by decide) ?_
  refine cx_icmp_eq (tgt := 20)  hE d_Mo_item_7 (by decide) (fun c_7 => ?_) (fun c_7 => ?_)
  · have K_7 := rp_ifp K_1 c_7
    refine cx_aload_n (i := 0) hE d_Mo_item_20 rfl rfl ?_
    refine cx_invV1 hE d_Mo_item_21 l_Mo_216 W0.1.1 (c_Mo_kind W0.1 (i := i_1) e_1 l_1) rfl (by omega) (Nat.le_of_ble_eq_true rfl) n_Mo_kind (by rfl) ?_
    refine cx_sipush (v := 305) hE d_Mo_item_24 (by decide) ?_
    refine cx_icmp_ne (tgt := 34)  hE d_Mo_item_27 (by decide) (fun c_27 => ?_) (fun c_27 => ?_)
    · refine cx_iconst (v := 0) hE d_Mo_item_34 (by decide) ?_
      refine cx_istore_n (i := 1) hE d_Mo_item_35 rfl (by decide) ?_
      refine cx_aload_n (i := 0) hE d_Mo_item_36 rfl rfl ?_
      refine cx_dup hE d_Mo_item_37 ?_
      refine cx_get hE d_Mo_item_38 f_Mo_193 (by assumption) (by rfl) ?_
      refine cx_iconst (v := 1) hE d_Mo_item_41 (by decide) ?_
      refine cx_iadd hE d_Mo_item_42 ?_
      refine cx_putg hE d_Mo_item_43 f_Mo_193 (by assumption) (Nat.le_of_ble_eq_true rfl) (by first | rfl | exact cx_nr _ _) (by first | rfl | exact cx_fr _ _) (fun G_43 g_43 h_43 => ?_)
      rw [rm_s8] at g_43
      clear h_43
      have W_43 : rm_W k mo b G P G_43 P (rp_i M 1) := W0.pi g_43
      have m_43 := W_43.1.1
      refine cx_aload_n (i := 0) hE d_Mo_item_46 rfl rfl ?_
      refine cx_iload_n (i := 1) hE d_Mo_item_47 rfl rfl ?_
      refine cx_if_eq (tgt := 55)  hE d_Mo_item_48 (by decide) (fun c_48 => ?_) (fun c_48 => ?_)
      · refine cx_iconst (v := 3) hE d_Mo_item_55 (by decide) ?_
        refine cx_aload_n (i := 0) hE d_Mo_item_56 rfl rfl ?_
        refine cx_wP hE d_Mo_item_57 l_Mo_341 W_43 (c_Mo_range W_43.1 W_43.2.2 K_7) rfl (by omega) (Nat.le_of_ble_eq_true rfl) n_Mo_range (by first | rfl | (simp only [List.map_cons, List.map_nil, cx_rfc]; rfl)) (fun v_57 G_57 P_57 M_57 W_57 K_57 => ?_)
        have m_57 := W_57.1.1
        refine cx_w0 hE d_Mo_item_60 l_Mo_344 W_57 (c_Mo_declare W_57.1 W_57.2.2 K_57) rfl (by omega) (Nat.le_of_ble_eq_true rfl) n_Mo_declare (by first | rfl | (simp only [List.map_cons, List.map_nil, cx_rfc]; rfl)) (fun G_60 P_60 M_60 W_60 K_60 => ?_)
        have m_60 := W_60.1.1
        refine cx_aload_n (i := 0) hE d_Mo_item_63 rfl rfl ?_
        refine cx_dup hE d_Mo_item_64 ?_
        refine cx_get hE d_Mo_item_65 f_Mo_193 (by assumption) (by rfl) ?_
        refine cx_iconst (v := 1) hE d_Mo_item_68 (by decide) ?_
        refine cx_iadd hE d_Mo_item_69 ?_
        refine cx_putg hE d_Mo_item_70 f_Mo_193 (by assumption) (Nat.le_of_ble_eq_true rfl) (by first | rfl | exact cx_nr _ _) (by first | rfl | exact cx_fr _ _) (fun G_70 g_70 h_70 => ?_)
        rw [rm_s8] at g_70
        clear h_70
        have W_70 : rm_W k mo b G P G_70 P_60 (rp_i M_60 1) := W_60.pi g_70
        have m_70 := W_70.1.1
        refine cx_goto (tgt := 239) hE d_Mo_item_73 (by decide) ?_
        refine cx_vret hE d_Mo_item_239 rfl ?_
        exact ⟨_, _, rfl, W_70, K_60⟩
      · exact absurd rfl c_48
        -- end
    · exact absurd (c_7.symm.trans c_27) (by decide)
      -- end
  · have K_7 := rp_ifn K_1 c_7
    refine cx_aload_n (i := 0) hE d_Mo_item_10 rfl rfl ?_
    refine cx_invV1 hE d_Mo_item_11 l_Mo_216 W0.1.1 (c_Mo_kind W0.1 (i := i_1) e_1 l_1) rfl (by omega) (Nat.le_of_ble_eq_true rfl) n_Mo_kind (by rfl) ?_
    refine cx_sipush (v := 305) hE d_Mo_item_14 (by decide) ?_
    refine cx_icmp_ne (tgt := 76)  hE d_Mo_item_17 (by decide) (fun c_17 => ?_) (fun c_17 => ?_)
    · have K_17 := rp_ifn K_7 c_17
      refine cx_aload_n (i := 0) hE d_Mo_item_76 rfl rfl ?_
      refine cx_invV1 hE d_Mo_item_77 l_Mo_216 W0.1.1 (c_Mo_kind W0.1 (i := i_1) e_1 l_1) rfl (by omega) (Nat.le_of_ble_eq_true rfl) n_Mo_kind (by rfl) ?_
      refine cx_sipush (v := 306) hE d_Mo_item_80 (by decide) ?_
      refine cx_icmp_ne (tgt := 93)  hE d_Mo_item_83 (by decide) (fun c_83 => ?_) (fun c_83 => ?_)
      · have K_83 := rp_ifn K_17 c_83
        refine cx_aload_n (i := 0) hE d_Mo_item_93 rfl rfl ?_
        refine cx_invV1 hE d_Mo_item_94 l_Mo_216 W0.1.1 (c_Mo_kind W0.1 (i := i_1) e_1 l_1) rfl (by omega) (Nat.le_of_ble_eq_true rfl) n_Mo_kind (by rfl) ?_
        refine cx_sipush (v := 307) hE d_Mo_item_97 (by decide) ?_
        refine cx_icmp_ne (tgt := 157)  hE d_Mo_item_100 (by decide) (fun c_100 => ?_) (fun c_100 => ?_)
        · have K_100 := rp_ifn K_83 c_100
          refine cx_aload_n (i := 0) hE d_Mo_item_157 rfl rfl ?_
          refine cx_invV1 hE d_Mo_item_158 l_Mo_216 W0.1.1 (c_Mo_kind W0.1 (i := i_1) e_1 l_1) rfl (by omega) (Nat.le_of_ble_eq_true rfl) n_Mo_kind (by rfl) ?_
          refine cx_sipush (v := 317) hE d_Mo_item_161 (by decide) ?_
          refine cx_icmp_ne (tgt := 235)  hE d_Mo_item_164 (by decide) (fun c_164 => ?_) (fun c_164 => ?_)
          · have K_164 := rp_ifn K_100 c_164
            refine cx_aload_n (i := 0) hE d_Mo_item_235 rfl rfl ?_
            refine cx_w0 hE d_Mo_item_236 l_Mo_386 W0 (c_Mo_instance W0.1 W0.2.2 K_164) rfl (by omega) (Nat.le_of_ble_eq_true rfl) n_Mo_instance (by first | rfl | (simp only [List.map_cons, List.map_nil, cx_rfc]; rfl)) (fun G_236 P_236 M_236 W_236 K_236 => ?_)
            have m_236 := W_236.1.1
            refine cx_vret hE d_Mo_item_239 rfl ?_
            exact ⟨_, _, rfl, W_236, K_236⟩
          · have K_164 := rp_ifp K_100 c_164
            obtain ⟨a_167, e_167, l_167, K_167⟩ := K_164
            refine cx_aload_n (i := 0) hE d_Mo_item_167 rfl rfl ?_
            refine cx_aload_n (i := 0) hE d_Mo_item_168 rfl rfl ?_
            refine cx_get hE d_Mo_item_169 f_Mo_193 (by assumption) (by rfl) ?_
            refine cx_iconst (v := 2) hE d_Mo_item_172 (by decide) ?_
            refine cx_iadd hE d_Mo_item_173 ?_
            refine cx_putg hE d_Mo_item_174 f_Mo_193 (by assumption) (Nat.le_of_ble_eq_true rfl) (by first | rfl | exact cx_nr _ _) (by first | rfl | exact cx_fr _ _) (fun G_174 g_174 h_174 => ?_)
            rw [rm_s8] at g_174
            clear h_174
            have W_174 : rm_W k mo b G P G_174 P (rp_i M 2) := W0.pi g_174
            have m_174 := W_174.1.1
            refine cx_aload_n (i := 0) hE d_Mo_item_177 rfl rfl ?_
            refine cx_get hE d_Mo_item_178 f_Mo_83 (by assumption) (by rfl) ?_
            refine cx_aload_n (i := 0) hE d_Mo_item_181 rfl rfl ?_
            refine cx_get hE d_Mo_item_182 f_Mo_383 (by assumption) (by rfl) ?_
            rw [show (rp_i M 2).1 35 = nI a_167 from e_167]
            refine cx_aload_n (i := 0) hE d_Mo_item_185 rfl rfl ?_
            refine cx_get hE d_Mo_item_186 f_Mo_279 (by assumption) (by rfl) ?_
            rw [show (rp_i M 2).1 42 = M.1 42 from rfl]
            refine cx_iast 1 hE d_Mo_item_189 rfl (W_174.1.i 36 rfl) (vp_in_nI (by show _ < 6600; omega) (by show 6600 < 2147483648; omega)) ?_
            rw [nI_clamp (by omega)]
            refine cx_gen (fun G_189 g_189 => ?_)
            have W_189 : rm_W k mo b G P G_189 P (rp_set (rp_i M 2) 36 a_167 (M.1 42)) := W_174.si 36 rfl g_189
            have m_189 := W_189.1.1
            refine cx_aload_n (i := 0) hE d_Mo_item_190 rfl rfl ?_
            refine cx_aload_n (i := 0) hE d_Mo_item_191 rfl rfl ?_
            refine cx_wP hE d_Mo_item_192 l_Mo_288 W_189 (c_Mo_exp _ _ _ _ W_189.1 W_189.2.2 K_167) rfl (by omega) (Nat.le_of_ble_eq_true rfl) n_Mo_exp (by first | rfl | (simp only [List.map_cons, List.map_nil, cx_rfc]; rfl)) (fun v_192 G_192 P_192 M_192 W_192 K_192 => ?_)
            have m_192 := W_192.1.1
            refine cx_i2l hE d_Mo_item_195 ?_
            refine cx_w0 hE d_Mo_item_196 l_Mo_291 W_192 (s_cost W_192.1 W_192.2.2 K_192) rfl (by omega) (Nat.le_of_ble_eq_true rfl) n_Mo_cost (by first | rfl | (simp only [List.map_cons, List.map_nil, cx_rfc]; rfl)) (fun G_196 P_196 M_196 W_196 K_196 => ?_)
            have m_196 := W_196.1.1
            obtain ⟨a_196, e_196, l_196, K_196b⟩ := K_196
            refine cx_aload_n (i := 0) hE d_Mo_item_199 rfl rfl ?_
            refine cx_get hE d_Mo_item_200 f_Mo_86 (by assumption) (by rfl) ?_
            refine cx_aload_n (i := 0) hE d_Mo_item_203 rfl rfl ?_
            refine cx_get hE d_Mo_item_204 f_Mo_383 (by assumption) (by rfl) ?_
            rw [e_196]
            refine cx_aload_n (i := 0) hE d_Mo_item_207 rfl rfl ?_
            refine cx_get hE d_Mo_item_208 f_Mo_279 (by assumption) (by rfl) ?_
            refine cx_iast 1 hE d_Mo_item_211 rfl (W_196.1.i 37 rfl) (vp_in_nI (by show _ < 6600; omega) (by show 6600 < 2147483648; omega)) ?_
            rw [nI_clamp (by omega)]
            refine cx_gen (fun G_211 g_211 => ?_)
            have W_211 : rm_W k mo b G P G_211 P_196 (rp_set M_196 37 a_196 (M_196.1 42)) := W_196.si 37 rfl g_211
            have m_211 := W_211.1.1
            refine cx_aload_n (i := 0) hE d_Mo_item_212 rfl rfl ?_
            refine cx_dup hE d_Mo_item_213 ?_
            refine cx_get hE d_Mo_item_214 f_Mo_383 (by assumption) (by rfl) ?_
            rw [show (rp_set M_196 37 a_196 (M_196.1 42)).1 35 = nI a_196 from e_196]
            refine cx_iconst (v := 1) hE d_Mo_item_217 (by decide) ?_
            refine cx_iadd hE d_Mo_item_218 ?_
            rw [nI_1]
            refine cx_putg hE d_Mo_item_219 f_Mo_383 (by assumption) (Nat.le_of_ble_eq_true rfl) (by first | rfl | exact cx_nr _ _) (by first | rfl | exact cx_fr _ _) (fun G_219 g_219 h_219 => ?_)
            rw [rm_s35] at g_219
            clear h_219
            have W_219 : rm_W k mo b G P G_219 P_196 (rp_int (rp_set M_196 37 a_196 (M_196.1 42)) 35 (nI (a_196 + 1))) := W_211.pi g_219
            have m_219 := W_219.1.1
            refine cx_aload_n (i := 0) hE d_Mo_item_222 rfl rfl ?_
            refine cx_aload_n (i := 0) hE d_Mo_item_223 rfl rfl ?_
            refine cx_get hE d_Mo_item_224 f_Mo_193 (by assumption) (by rfl) ?_
            refine cx_iconst (v := 2) hE d_Mo_item_227 (by decide) ?_
            refine cx_iadd hE d_Mo_item_228 ?_
            refine cx_putg hE d_Mo_item_229 f_Mo_193 (by assumption) (Nat.le_of_ble_eq_true rfl) (by first | rfl | exact cx_nr _ _) (by first | rfl | exact cx_fr _ _) (fun G_229 g_229 h_229 => ?_)
            rw [rm_s8] at g_229
            clear h_229
            have W_229 : rm_W k mo b G P G_229 P_196 (rp_i (rp_int (rp_set M_196 37 a_196 (M_196.1 42)) 35 (nI (a_196 + 1))) 2) := W_219.pi g_229
            have m_229 := W_229.1.1
            refine cx_goto (tgt := 239) hE d_Mo_item_232 (by decide) ?_
            refine cx_vret hE d_Mo_item_239 rfl ?_
            exact ⟨_, _, rfl, W_229, K_196b⟩
        · have K_100 := rp_ifp K_83 c_100
          obtain ⟨a_103, e_103, l_103, K_103⟩ := K_100
          refine cx_aload_n (i := 0) hE d_Mo_item_103 rfl rfl ?_
          refine cx_aload_n (i := 0) hE d_Mo_item_104 rfl rfl ?_
          refine cx_get hE d_Mo_item_105 f_Mo_193 (by assumption) (by rfl) ?_
          refine cx_bipush (v := 6) hE d_Mo_item_108 (by decide) ?_
          refine cx_iadd hE d_Mo_item_110 ?_
          refine cx_putg hE d_Mo_item_111 f_Mo_193 (by assumption) (Nat.le_of_ble_eq_true rfl) (by first | rfl | exact cx_nr _ _) (by first | rfl | exact cx_fr _ _) (fun G_111 g_111 h_111 => ?_)
          rw [rm_s8] at g_111
          clear h_111
          have W_111 : rm_W k mo b G P G_111 P (rp_i M 6) := W0.pi g_111
          have m_111 := W_111.1.1
          refine cx_aload_n (i := 0) hE d_Mo_item_114 rfl rfl ?_
          refine cx_get hE d_Mo_item_115 f_Mo_89 (by assumption) (by rfl) ?_
          refine cx_aload_n (i := 0) hE d_Mo_item_118 rfl rfl ?_
          refine cx_get hE d_Mo_item_119 f_Mo_365 (by assumption) (by rfl) ?_
          rw [show (rp_i M 6).1 38 = nI a_103 from e_103]
          refine cx_aload_n (i := 0) hE d_Mo_item_122 rfl rfl ?_
          refine cx_get hE d_Mo_item_123 f_Mo_279 (by assumption) (by rfl) ?_
          rw [show (rp_i M 6).1 42 = M.1 42 from rfl]
          refine cx_iast 1 hE d_Mo_item_126 rfl (W_111.1.i 39 rfl) (vp_in_nI (by show _ < 6600; omega) (by show 6600 < 2147483648; omega)) ?_
          rw [nI_clamp (by omega)]
          refine cx_gen (fun G_126 g_126 => ?_)
          have W_126 : rm_W k mo b G P G_126 P (rp_set (rp_i M 6) 39 a_103 (M.1 42)) := W_111.si 39 rfl g_126
          have m_126 := W_126.1.1
          refine cx_aload_n (i := 0) hE d_Mo_item_127 rfl rfl ?_
          refine cx_w0 hE d_Mo_item_128 l_Mo_350 W_126 (c_Mo_statement _ _ _ _ W_126.1 W_126.2.2 K_103) rfl (by omega) (Nat.le_of_ble_eq_true rfl) n_Mo_statement (by first | rfl | (simp only [List.map_cons, List.map_nil, cx_rfc]; rfl)) (fun G_128 P_128 M_128 W_128 K_128 => ?_)
          have m_128 := W_128.1.1
          obtain ⟨a_128, e_128, l_128, K_128b⟩ := K_128
          refine cx_aload_n (i := 0) hE d_Mo_item_131 rfl rfl ?_
          refine cx_get hE d_Mo_item_132 f_Mo_92 (by assumption) (by rfl) ?_
          refine cx_aload_n (i := 0) hE d_Mo_item_135 rfl rfl ?_
          refine cx_get hE d_Mo_item_136 f_Mo_365 (by assumption) (by rfl) ?_
          rw [e_128]
          refine cx_aload_n (i := 0) hE d_Mo_item_139 rfl rfl ?_
          refine cx_get hE d_Mo_item_140 f_Mo_279 (by assumption) (by rfl) ?_
          refine cx_iast 1 hE d_Mo_item_143 rfl (W_128.1.i 40 rfl) (vp_in_nI (by show _ < 6600; omega) (by show 6600 < 2147483648; omega)) ?_
          rw [nI_clamp (by omega)]
          refine cx_gen (fun G_143 g_143 => ?_)
          have W_143 : rm_W k mo b G P G_143 P_128 (rp_set M_128 40 a_128 (M_128.1 42)) := W_128.si 40 rfl g_143
          have m_143 := W_143.1.1
          refine cx_aload_n (i := 0) hE d_Mo_item_144 rfl rfl ?_
          refine cx_dup hE d_Mo_item_145 ?_
          refine cx_get hE d_Mo_item_146 f_Mo_365 (by assumption) (by rfl) ?_
          rw [show (rp_set M_128 40 a_128 (M_128.1 42)).1 38 = nI a_128 from e_128]
          refine cx_iconst (v := 1) hE d_Mo_item_149 (by decide) ?_
          refine cx_iadd hE d_Mo_item_150 ?_
          rw [nI_1]
          refine cx_putg hE d_Mo_item_151 f_Mo_365 (by assumption) (Nat.le_of_ble_eq_true rfl) (by first | rfl | exact cx_nr _ _) (by first | rfl | exact cx_fr _ _) (fun G_151 g_151 h_151 => ?_)
          rw [rm_s38] at g_151
          clear h_151
          have W_151 : rm_W k mo b G P G_151 P_128 (rp_int (rp_set M_128 40 a_128 (M_128.1 42)) 38 (nI (a_128 + 1))) := W_143.pi g_151
          have m_151 := W_151.1.1
          refine cx_goto (tgt := 239) hE d_Mo_item_154 (by decide) ?_
          refine cx_vret hE d_Mo_item_239 rfl ?_
          exact ⟨_, _, rfl, W_151, K_128b⟩
      · have K_83 := rp_ifp K_17 c_83
        refine cx_aload_n (i := 0) hE d_Mo_item_86 rfl rfl ?_
        refine cx_w0 hE d_Mo_item_87 l_Mo_380 W0 (c_Mo_assign W0.1 W0.2.2 K_83) rfl (by omega) (Nat.le_of_ble_eq_true rfl) n_Mo_assign (by first | rfl | (simp only [List.map_cons, List.map_nil, cx_rfc]; rfl)) (fun G_87 P_87 M_87 W_87 K_87 => ?_)
        have m_87 := W_87.1.1
        refine cx_goto (tgt := 239) hE d_Mo_item_90 (by decide) ?_
        refine cx_vret hE d_Mo_item_239 rfl ?_
        exact ⟨_, _, rfl, W_87, K_87⟩
    · have K_17 := rp_ifp K_7 c_17
      refine cx_aload_n (i := 0) hE d_Mo_item_20 rfl rfl ?_
      refine cx_invV1 hE d_Mo_item_21 l_Mo_216 W0.1.1 (c_Mo_kind W0.1 (i := i_1) e_1 l_1) rfl (by omega) (Nat.le_of_ble_eq_true rfl) n_Mo_kind (by rfl) ?_
      refine cx_sipush (v := 305) hE d_Mo_item_24 (by decide) ?_
      refine cx_icmp_ne (tgt := 34)  hE d_Mo_item_27 (by decide) (fun c_27 => ?_) (fun c_27 => ?_)
      · exact absurd c_17 c_27
        -- end
      · refine cx_iconst (v := 1) hE d_Mo_item_30 (by decide) ?_
        refine cx_goto (tgt := 35) hE d_Mo_item_31 (by decide) ?_
        refine cx_istore_n (i := 1) hE d_Mo_item_35 rfl (by decide) ?_
        refine cx_aload_n (i := 0) hE d_Mo_item_36 rfl rfl ?_
        refine cx_dup hE d_Mo_item_37 ?_
        refine cx_get hE d_Mo_item_38 f_Mo_193 (by assumption) (by rfl) ?_
        refine cx_iconst (v := 1) hE d_Mo_item_41 (by decide) ?_
        refine cx_iadd hE d_Mo_item_42 ?_
        refine cx_putg hE d_Mo_item_43 f_Mo_193 (by assumption) (Nat.le_of_ble_eq_true rfl) (by first | rfl | exact cx_nr _ _) (by first | rfl | exact cx_fr _ _) (fun G_43 g_43 h_43 => ?_)
        rw [rm_s8] at g_43
        clear h_43
        have W_43 : rm_W k mo b G P G_43 P (rp_i M 1) := W0.pi g_43
        have m_43 := W_43.1.1
        refine cx_aload_n (i := 0) hE d_Mo_item_46 rfl rfl ?_
        refine cx_iload_n (i := 1) hE d_Mo_item_47 rfl rfl ?_
        refine cx_if_eq (tgt := 55)  hE d_Mo_item_48 (by decide) (fun c_48 => ?_) (fun c_48 => ?_)
        · exact absurd c_48 (by decide)
          -- end
        · refine cx_iconst (v := 4) hE d_Mo_item_51 (by decide) ?_
          refine cx_goto (tgt := 56) hE d_Mo_item_52 (by decide) ?_
          refine cx_aload_n (i := 0) hE d_Mo_item_56 rfl rfl ?_
          refine cx_wP hE d_Mo_item_57 l_Mo_341 W_43 (c_Mo_range W_43.1 W_43.2.2 K_17) rfl (by omega) (Nat.le_of_ble_eq_true rfl) n_Mo_range (by first | rfl | (simp only [List.map_cons, List.map_nil, cx_rfc]; rfl)) (fun v_57 G_57 P_57 M_57 W_57 K_57 => ?_)
          have m_57 := W_57.1.1
          refine cx_w0 hE d_Mo_item_60 l_Mo_344 W_57 (c_Mo_declare W_57.1 W_57.2.2 K_57) rfl (by omega) (Nat.le_of_ble_eq_true rfl) n_Mo_declare (by first | rfl | (simp only [List.map_cons, List.map_nil, cx_rfc]; rfl)) (fun G_60 P_60 M_60 W_60 K_60 => ?_)
          have m_60 := W_60.1.1
          refine cx_aload_n (i := 0) hE d_Mo_item_63 rfl rfl ?_
          refine cx_dup hE d_Mo_item_64 ?_
          refine cx_get hE d_Mo_item_65 f_Mo_193 (by assumption) (by rfl) ?_
          refine cx_iconst (v := 1) hE d_Mo_item_68 (by decide) ?_
          refine cx_iadd hE d_Mo_item_69 ?_
          refine cx_putg hE d_Mo_item_70 f_Mo_193 (by assumption) (Nat.le_of_ble_eq_true rfl) (by first | rfl | exact cx_nr _ _) (by first | rfl | exact cx_fr _ _) (fun G_70 g_70 h_70 => ?_)
          rw [rm_s8] at g_70
          clear h_70
          have W_70 : rm_W k mo b G P G_70 P_60 (rp_i M_60 1) := W_60.pi g_70
          have m_70 := W_70.1.1
          refine cx_goto (tgt := 239) hE d_Mo_item_73 (by decide) ?_
          refine cx_vret hE d_Mo_item_239 rfl ?_
          exact ⟨_, _, rfl, W_70, K_60⟩

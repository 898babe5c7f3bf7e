/-! THE REFERENCE: steps of its first pass. -/
def rm_open (i : Nat) (kd : Int32) (M : rm_M) : rm_M := rm_take i kd (if rm_c9 M i kd = true then (if M.1 11 + 1 ≤ 60 then (va_up M.1 11 (M.1 11 + 1), M.2) else rm_fail 3 (M.2.1 5 i) (va_up M.1 11 (M.1 11 + 1), M.2)) else M)
def rm_shut (i : Nat) (kd : Int32) (M : rm_M) : rm_M := (va_up (rm_take i kd M).1 11 ((rm_take i kd M).1 11 - 1), (rm_take i kd M).2)
theorem rm_fail_8 (w p : Int32) (M : rm_M) : (rm_fail w p M).1 8 = M.1 8 ∧ (rm_fail w p M).2 = M.2 := by
  unfold rm_fail
  split <;> exact ⟨rfl, rfl⟩
set_option maxRecDepth 100000 in
theorem c_Mo_open {k : cx_K} {l : Launch} {G : cx_G} {mo : Nat} {P : Nat → Nat} {M : rm_M} (hm : rm_R k G mo P M) {i : Nat} (ht : M.1 8 = nI i) (hi : i < 65540) {kd : Int32} : cx_Sp k l m_Mo_open 3 [.ref mo, .int kd] G (rm_q k G mo P none (rm_open i kd M)) := by
  intro E hE
  have hmo := hm.1
  have h4 := hm.i 4 rfl
  have h5 := hm.i 5 rfl
  refine cx_aload_n (i := 0) hE d_Mo_open_0 rfl rfl ?_
  refine cx_iload_n (i := 1) hE d_Mo_open_1 rfl rfl ?_
  refine cx_invV1 hE d_Mo_open_2 l_Mo_203 hmo (c_Mo_is (kd := kd) hm ht hi) rfl (by omega) (Nat.le_of_ble_eq_true rfl) n_Mo_is (by rfl) ?_
  refine cx_if_eq (tgt := 41)  hE d_Mo_open_5 (by decide) (fun c_5 => ?_) (fun c_5 => ?_)
  · have q_5 := cx_b0.mp c_5
    refine cx_aload_n (i := 0) hE d_Mo_open_41 rfl rfl ?_
    refine cx_iload_n (i := 1) hE d_Mo_open_42 rfl rfl ?_
    refine cx_invV hE d_Mo_open_43 l_Mo_209 hm.1 (c_Mo_take (kd := kd) hm ht hi) rfl (by omega) (Nat.le_of_ble_eq_true rfl) n_Mo_take (by rfl) (fun v G9 q => ?_) (fun a G9 q => by cases q.1)
    obtain ⟨q0, m9, s9, c9⟩ := q
    cases q0
    show cx_V E _ _ [] G9
    refine cx_vret hE d_Mo_open_46 rfl ?_
    first
      | (rw [show rm_open i kd M = rm_take i kd M by unfold rm_open; rw [if_neg (by rw [q_5]; decide)]]
         exact ⟨rfl, m9, s9, c9⟩)
      | (rw [show rm_open i kd M = rm_take i kd (va_up M.1 11 (M.1 11 + 1), M.2) by unfold rm_open; rw [if_pos q_5, if_pos q_24]]
         exact ⟨rfl, m9, m15.2.tr s9, c9.trans (cx_pc g_15)⟩)
      | (rw [show rm_open i kd M = rm_take i kd (rm_fail 3 (M.2.1 5 i) (va_up M.1 11 (M.1 11 + 1), M.2)) by unfold rm_open; rw [if_pos q_5, if_neg q_24]]
         exact ⟨rfl, m9, m15.2.tr (s8.tr s9), c9.trans (c8.trans (cx_pc g_15))⟩)
  · have q_5 := cx_bn.mp c_5
    refine cx_aload_n (i := 0) hE d_Mo_open_8 rfl rfl ?_
    refine cx_dup hE d_Mo_open_9 ?_
    refine cx_get hE d_Mo_open_10 f_Mo_206 (by assumption) (by rfl) ?_
    refine cx_iconst (v := 1) hE d_Mo_open_13 (by decide) ?_
    refine cx_iadd hE d_Mo_open_14 ?_
    show cx_V E _ _ [.int (M.1 11 + 1), .ref mo] _
    refine cx_putg hE d_Mo_open_15 f_Mo_206 (by assumption) (Nat.le_of_ble_eq_true rfl) (by first | rfl | exact cx_nr _ _) (by first | rfl | exact cx_fr _ _) (fun G_15 g_15 h_15 => ?_)
    rw [rm_s11] at g_15 h_15
    have m15 := hm.pi g_15
    have h15 := m15.1.1
    have h515 := m15.1.i 5 rfl
    have ht15 : (va_up M.1 11 (M.1 11 + 1)) 8 = nI i := ht
    refine cx_aload_n (i := 0) hE d_Mo_open_18 rfl rfl ?_
    refine cx_get hE d_Mo_open_19 f_Mo_206 (by assumption) (by rfl) ?_
    refine cx_bipush (v := 60) hE d_Mo_open_22 (by decide) ?_
    refine cx_icmp_le (tgt := 41)  hE d_Mo_open_24 (by decide) (fun c_24 => ?_) (fun c_24 => ?_)
    · have q_24 : M.1 11 + 1 ≤ 60 := c_24
      refine cx_aload_n (i := 0) hE d_Mo_open_41 rfl rfl ?_
      refine cx_iload_n (i := 1) hE d_Mo_open_42 rfl rfl ?_
      refine cx_invV hE d_Mo_open_43 l_Mo_209 m15.1.1 (c_Mo_take (kd := kd) m15.1 ht15 hi) rfl (by omega) (Nat.le_of_ble_eq_true rfl) n_Mo_take (by rfl) (fun v G9 q => ?_) (fun a G9 q => by cases q.1)
      obtain ⟨q0, m9, s9, c9⟩ := q
      cases q0
      show cx_V E _ _ [] G9
      refine cx_vret hE d_Mo_open_46 rfl ?_
      first
        | (rw [show rm_open i kd M = rm_take i kd M by unfold rm_open; rw [if_neg (by rw [q_5]; decide)]]
           exact ⟨rfl, m9, s9, c9⟩)
        | (rw [show rm_open i kd M = rm_take i kd (va_up M.1 11 (M.1 11 + 1), M.2) by unfold rm_open; rw [if_pos q_5, if_pos q_24]]
           exact ⟨rfl, m9, m15.2.tr s9, c9.trans (cx_pc g_15)⟩)
        | (rw [show rm_open i kd M = rm_take i kd (rm_fail 3 (M.2.1 5 i) (va_up M.1 11 (M.1 11 + 1), M.2)) by unfold rm_open; rw [if_pos q_5, if_neg q_24]]
           exact ⟨rfl, m9, m15.2.tr (s8.tr s9), c9.trans (c8.trans (cx_pc g_15))⟩)
    · have q_24 : ¬ M.1 11 + 1 ≤ 60 := c_24
      refine cx_aload_n (i := 0) hE d_Mo_open_27 rfl rfl ?_
      refine cx_iconst (v := 3) hE d_Mo_open_28 (by decide) ?_
      refine cx_aload_n (i := 0) hE d_Mo_open_29 rfl rfl ?_
      refine cx_get hE d_Mo_open_30 f_Mo_19 (by assumption) (by rfl) ?_
      refine cx_aload_n (i := 0) hE d_Mo_open_33 rfl rfl ?_
      refine cx_get hE d_Mo_open_34 f_Mo_193 (by assumption) (by rfl) ?_
      rw [show (((va_up M.1 11 (M.1 11 + 1)), M.2) : rm_M).1 8 = nI i from ht]
      refine cx_iald 1 hE d_Mo_open_37 rfl (by assumption) (vp_in_nI (by show _ < 65540; omega) (by show 65540 < 2147483648; omega)) ?_
      rw [nI_clamp (by omega)]
      refine cx_invV hE d_Mo_open_38 l_Mo_196 m15.1.1 (c_Mo_fail (w := 3) (p := M.2.1 5 i) m15.1) rfl (by omega) (Nat.le_of_ble_eq_true rfl) n_Mo_fail (by rfl) (fun v G8 q => ?_) (fun a G8 q => by cases q.1)
      obtain ⟨q0, m8, s8, c8⟩ := q
      cases q0
      show cx_V E _ _ [] G8
      have ht8 := (rm_fail_8 3 (M.2.1 5 i) (va_up M.1 11 (M.1 11 + 1), M.2)).1.trans ht15
      refine cx_aload_n (i := 0) hE d_Mo_open_41 rfl rfl ?_
      refine cx_iload_n (i := 1) hE d_Mo_open_42 rfl rfl ?_
      refine cx_invV hE d_Mo_open_43 l_Mo_209 m8.1 (c_Mo_take (kd := kd) m8 ht8 hi) rfl (by omega) (Nat.le_of_ble_eq_true rfl) n_Mo_take (by rfl) (fun v G9 q => ?_) (fun a G9 q => by cases q.1)
      obtain ⟨q0, m9, s9, c9⟩ := q
      cases q0
      show cx_V E _ _ [] G9
      refine cx_vret hE d_Mo_open_46 rfl ?_
      first
        | (rw [show rm_open i kd M = rm_take i kd M by unfold rm_open; rw [if_neg (by rw [q_5]; decide)]]
           exact ⟨rfl, m9, s9, c9⟩)
        | (rw [show rm_open i kd M = rm_take i kd (va_up M.1 11 (M.1 11 + 1), M.2) by unfold rm_open; rw [if_pos q_5, if_pos q_24]]
           exact ⟨rfl, m9, m15.2.tr s9, c9.trans (cx_pc g_15)⟩)
        | (rw [show rm_open i kd M = rm_take i kd (rm_fail 3 (M.2.1 5 i) (va_up M.1 11 (M.1 11 + 1), M.2)) by unfold rm_open; rw [if_pos q_5, if_neg q_24]]
           exact ⟨rfl, m9, m15.2.tr (s8.tr s9), c9.trans (c8.trans (cx_pc g_15))⟩)
set_option maxRecDepth 100000 in
theorem c_Mo_shut {k : cx_K} {l : Launch} {G : cx_G} {mo : Nat} {P : Nat → Nat} {M : rm_M} (hm : rm_R k G mo P M) {i : Nat} (ht : M.1 8 = nI i) (hi : i < 65540) {kd : Int32} : cx_Sp k l m_Mo_shut 3 [.ref mo, .int kd] G (rm_q k G mo P none (rm_shut i kd M)) := by
  intro E hE
  have hmo := hm.1
  have h4 := hm.i 4 rfl
  have h5 := hm.i 5 rfl
  refine cx_aload_n (i := 0) hE d_Mo_shut_0 rfl rfl ?_
  refine cx_iload_n (i := 1) hE d_Mo_shut_1 rfl rfl ?_
  refine cx_invV hE d_Mo_shut_2 l_Mo_209 hm.1 (c_Mo_take (kd := kd) hm ht hi) rfl (by omega) (Nat.le_of_ble_eq_true rfl) n_Mo_take (by rfl) (fun v G9 q => ?_) (fun a G9 q => by cases q.1)
  obtain ⟨q0, m9, s9, c9⟩ := q
  cases q0
  show cx_V E _ _ [] G9
  have hmo9 := m9.1
  refine cx_aload_n (i := 0) hE d_Mo_shut_5 rfl rfl ?_
  refine cx_dup hE d_Mo_shut_6 ?_
  refine cx_get hE d_Mo_shut_7 f_Mo_206 (by assumption) (by rfl) ?_
  refine cx_iconst (v := 1) hE d_Mo_shut_10 (by decide) ?_
  refine cx_isub hE d_Mo_shut_11 ?_
  refine cx_putg hE d_Mo_shut_12 f_Mo_206 (by assumption) (Nat.le_of_ble_eq_true rfl) (by first | rfl | exact cx_nr _ _) (by first | rfl | exact cx_fr _ _) (fun G_12 g_12 h_12 => ?_)
  rw [rm_s11] at g_12 h_12
  have m12 := m9.pi g_12
  refine cx_vret hE d_Mo_shut_15 rfl ?_
  exact ⟨rfl, m12.1, s9.tr m12.2, (cx_pc g_12).trans c9⟩
set_option maxRecDepth 100000 in
theorem c_Mo_isUnary {k : cx_K} {l : Launch} {G : cx_G} (c : Int32) : cx_Sp k l m_Mo_isUnary 0 [.int c] G (cx_rd (some (.int (cx_b (tx_isU c)))) G) := by
  intro E hE
  refine cx_iload_n (i := 0) hE d_Mo_isUnary_0 rfl rfl ?_
  refine cx_bipush (v := 126) hE d_Mo_isUnary_1 (by decide) ?_
  refine cx_icmp_eq (tgt := 36)  hE d_Mo_isUnary_3 (by decide) (fun c_3 => ?_) (fun c_3 => ?_)
  · refine cx_iconst (v := 1) hE d_Mo_isUnary_36 (by decide) ?_
    refine cx_goto (tgt := 41) hE d_Mo_isUnary_37 (by decide) ?_
    refine cx_iret hE d_Mo_isUnary_41 rfl rfl ?_
    clear hE
    refine ⟨?_, rfl⟩
    simp [tx_isU, cx_b, *]
  · refine cx_iload_n (i := 0) hE d_Mo_isUnary_6 rfl rfl ?_
    refine cx_bipush (v := 33) hE d_Mo_isUnary_7 (by decide) ?_
    refine cx_icmp_eq (tgt := 36)  hE d_Mo_isUnary_9 (by decide) (fun c_9 => ?_) (fun c_9 => ?_)
    · refine cx_iconst (v := 1) hE d_Mo_isUnary_36 (by decide) ?_
      refine cx_goto (tgt := 41) hE d_Mo_isUnary_37 (by decide) ?_
      refine cx_iret hE d_Mo_isUnary_41 rfl rfl ?_
      clear hE
      refine ⟨?_, rfl⟩
      simp [tx_isU, cx_b, *]
    · refine cx_iload_n (i := 0) hE d_Mo_isUnary_12 rfl rfl ?_
      refine cx_bipush (v := 45) hE d_Mo_isUnary_13 (by decide) ?_
      refine cx_icmp_eq (tgt := 36)  hE d_Mo_isUnary_15 (by decide) (fun c_15 => ?_) (fun c_15 => ?_)
      · refine cx_iconst (v := 1) hE d_Mo_isUnary_36 (by decide) ?_
        refine cx_goto (tgt := 41) hE d_Mo_isUnary_37 (by decide) ?_
        refine cx_iret hE d_Mo_isUnary_41 rfl rfl ?_
        clear hE
        refine ⟨?_, rfl⟩
        simp [tx_isU, cx_b, *]
      · refine cx_iload_n (i := 0) hE d_Mo_isUnary_18 rfl rfl ?_
        refine cx_bipush (v := 38) hE d_Mo_isUnary_19 (by decide) ?_
        refine cx_icmp_eq (tgt := 36)  hE d_Mo_isUnary_21 (by decide) (fun c_21 => ?_) (fun c_21 => ?_)
        · refine cx_iconst (v := 1) hE d_Mo_isUnary_36 (by decide) ?_
          refine cx_goto (tgt := 41) hE d_Mo_isUnary_37 (by decide) ?_
          refine cx_iret hE d_Mo_isUnary_41 rfl rfl ?_
          clear hE
          refine ⟨?_, rfl⟩
          simp [tx_isU, cx_b, *]
        · refine cx_iload_n (i := 0) hE d_Mo_isUnary_24 rfl rfl ?_
          refine cx_bipush (v := 124) hE d_Mo_isUnary_25 (by decide) ?_
          refine cx_icmp_eq (tgt := 36)  hE d_Mo_isUnary_27 (by decide) (fun c_27 => ?_) (fun c_27 => ?_)
          · refine cx_iconst (v := 1) hE d_Mo_isUnary_36 (by decide) ?_
            refine cx_goto (tgt := 41) hE d_Mo_isUnary_37 (by decide) ?_
            refine cx_iret hE d_Mo_isUnary_41 rfl rfl ?_
            clear hE
            refine ⟨?_, rfl⟩
            simp [tx_isU, cx_b, *]
          · refine cx_iload_n (i := 0) hE d_Mo_isUnary_30 rfl rfl ?_
            refine cx_bipush (v := 94) hE d_Mo_isUnary_31 (by decide) ?_
            refine cx_icmp_ne (tgt := 40)  hE d_Mo_isUnary_33 (by decide) (fun c_33 => ?_) (fun c_33 => ?_)
            · refine cx_iconst (v := 0) hE d_Mo_isUnary_40 (by decide) ?_
              refine cx_iret hE d_Mo_isUnary_41 rfl rfl ?_
              clear hE
              refine ⟨?_, rfl⟩
              simp [tx_isU, cx_b, *]
            · refine cx_iconst (v := 1) hE d_Mo_isUnary_36 (by decide) ?_
              refine cx_goto (tgt := 41) hE d_Mo_isUnary_37 (by decide) ?_
              refine cx_iret hE d_Mo_isUnary_41 rfl rfl ?_
              clear hE
              refine ⟨?_, rfl⟩
              simp [tx_isU, cx_b, *]
def rm_rank (k : Int32) : Int32 := if k = 257 then 1 else if k = 256 then 2 else if k = 124 then 3 else if k = 94 then 4 else if k = 38 then 5 else if k = 258 ∨ k = 259 then 6 else if k = 60 ∨ k = 260 ∨ k = 62 ∨ k = 261 then 7 else if k = 262 ∨ k = 263 then 8 else if k = 43 ∨ k = 45 then 9 else if k = 42 then 10 else 0
theorem rm_rk : ∀ p ∈ rm_kl, rm_rank p.2 = tx_rank p.1 := by decide
theorem rm_un : ∀ p ∈ rm_kl, tx_isU p.2 = tx_isU p.1 := by decide
theorem rm_bd : ∀ p ∈ rm_kl, p.2 = 404 ↔ p.1 = 23 := by decide
set_option maxRecDepth 100000 in
theorem c_Mo_rank {k : cx_K} {l : Launch} {G : cx_G} (c : Int32) : cx_Sp k l m_Mo_rank 0 [.int c] G (cx_rd (some (.int (rm_rank c))) G) := by
  intro E hE
  refine cx_iload_n (i := 0) hE d_Mo_rank_0 rfl rfl ?_
  by_cases e_1_38 : c = 38
  · refine cx_lookup (tgt := 148) hE d_Mo_rank_1 (by decide) (by first | (rw [e_1_38]; done) | (rw [e_1_38]; rfl)) (by decide) ?_
    refine cx_iconst (v := 5) hE d_Mo_rank_148 (by decide) ?_
    refine cx_iret hE d_Mo_rank_149 rfl rfl ?_
    clear hE
    refine ⟨?_, rfl⟩
    subst_vars
    simp [rm_rank, *]
  by_cases e_1_42 : c = 42
  · refine cx_lookup (tgt := 162) hE d_Mo_rank_1 (by decide) (by first | (rw [e_1_42]; done) | (rw [e_1_42]; rfl)) (by decide) ?_
    refine cx_bipush (v := 10) hE d_Mo_rank_162 (by decide) ?_
    refine cx_iret hE d_Mo_rank_164 rfl rfl ?_
    clear hE
    refine ⟨?_, rfl⟩
    subst_vars
    simp [rm_rank, *]
  by_cases e_1_43 : c = 43
  · refine cx_lookup (tgt := 159) hE d_Mo_rank_1 (by decide) (by first | (rw [e_1_43]; done) | (rw [e_1_43]; rfl)) (by decide) ?_
    refine cx_bipush (v := 9) hE d_Mo_rank_159 (by decide) ?_
    refine cx_iret hE d_Mo_rank_161 rfl rfl ?_
    clear hE
    refine ⟨?_, rfl⟩
    subst_vars
    simp [rm_rank, *]
  by_cases e_1_45 : c = 45
  · refine cx_lookup (tgt := 159) hE d_Mo_rank_1 (by decide) (by first | (rw [e_1_45]; done) | (rw [e_1_45]; rfl)) (by decide) ?_
    refine cx_bipush (v := 9) hE d_Mo_rank_159 (by decide) ?_
    refine cx_iret hE d_Mo_rank_161 rfl rfl ?_
    clear hE
    refine ⟨?_, rfl⟩
    subst_vars
    simp [rm_rank, *]
  by_cases e_1_60 : c = 60
  · refine cx_lookup (tgt := 153) hE d_Mo_rank_1 (by decide) (by first | (rw [e_1_60]; done) | (rw [e_1_60]; rfl)) (by decide) ?_
    refine cx_bipush (v := 7) hE d_Mo_rank_153 (by decide) ?_
    refine cx_iret hE d_Mo_rank_155 rfl rfl ?_
    clear hE
    refine ⟨?_, rfl⟩
    subst_vars
    simp [rm_rank, *]
  by_cases e_1_62 : c = 62
  · refine cx_lookup (tgt := 153) hE d_Mo_rank_1 (by decide) (by first | (rw [e_1_62]; done) | (rw [e_1_62]; rfl)) (by decide) ?_
    refine cx_bipush (v := 7) hE d_Mo_rank_153 (by decide) ?_
    refine cx_iret hE d_Mo_rank_155 rfl rfl ?_
    clear hE
    refine ⟨?_, rfl⟩
    subst_vars
    simp [rm_rank, *]
  by_cases e_1_94 : c = 94
  · refine cx_lookup (tgt := 146) hE d_Mo_rank_1 (by decide) (by first | (rw [e_1_94]; done) | (rw [e_1_94]; rfl)) (by decide) ?_
    refine cx_iconst (v := 4) hE d_Mo_rank_146 (by decide) ?_
    refine cx_iret hE d_Mo_rank_147 rfl rfl ?_
    clear hE
    refine ⟨?_, rfl⟩
    subst_vars
    simp [rm_rank, *]
  by_cases e_1_124 : c = 124
  · refine cx_lookup (tgt := 144) hE d_Mo_rank_1 (by decide) (by first | (rw [e_1_124]; done) | (rw [e_1_124]; rfl)) (by decide) ?_
    refine cx_iconst (v := 3) hE d_Mo_rank_144 (by decide) ?_
    refine cx_iret hE d_Mo_rank_145 rfl rfl ?_
    clear hE
    refine ⟨?_, rfl⟩
    subst_vars
    simp [rm_rank, *]
  by_cases e_1_256 : c = 256
  · refine cx_lookup (tgt := 142) hE d_Mo_rank_1 (by decide) (by first | (rw [e_1_256]; done) | (rw [e_1_256]; rfl)) (by decide) ?_
    refine cx_iconst (v := 2) hE d_Mo_rank_142 (by decide) ?_
    refine cx_iret hE d_Mo_rank_143 rfl rfl ?_
    clear hE
    refine ⟨?_, rfl⟩
    subst_vars
    simp [rm_rank, *]
  by_cases e_1_257 : c = 257
  · refine cx_lookup (tgt := 140) hE d_Mo_rank_1 (by decide) (by first | (rw [e_1_257]; done) | (rw [e_1_257]; rfl)) (by decide) ?_
    refine cx_iconst (v := 1) hE d_Mo_rank_140 (by decide) ?_
    refine cx_iret hE d_Mo_rank_141 rfl rfl ?_
    clear hE
    refine ⟨?_, rfl⟩
    subst_vars
    simp [rm_rank, *]
  by_cases e_1_258 : c = 258
  · refine cx_lookup (tgt := 150) hE d_Mo_rank_1 (by decide) (by first | (rw [e_1_258]; done) | (rw [e_1_258]; rfl)) (by decide) ?_
    refine cx_bipush (v := 6) hE d_Mo_rank_150 (by decide) ?_
    refine cx_iret hE d_Mo_rank_152 rfl rfl ?_
    clear hE
    refine ⟨?_, rfl⟩
    subst_vars
    simp [rm_rank, *]
  by_cases e_1_259 : c = 259
  · refine cx_lookup (tgt := 150) hE d_Mo_rank_1 (by decide) (by first | (rw [e_1_259]; done) | (rw [e_1_259]; rfl)) (by decide) ?_
    refine cx_bipush (v := 6) hE d_Mo_rank_150 (by decide) ?_
    refine cx_iret hE d_Mo_rank_152 rfl rfl ?_
    clear hE
    refine ⟨?_, rfl⟩
    subst_vars
    simp [rm_rank, *]
  by_cases e_1_260 : c = 260
  · refine cx_lookup (tgt := 153) hE d_Mo_rank_1 (by decide) (by first | (rw [e_1_260]; done) | (rw [e_1_260]; rfl)) (by decide) ?_
    refine cx_bipush (v := 7) hE d_Mo_rank_153 (by decide) ?_
    refine cx_iret hE d_Mo_rank_155 rfl rfl ?_
    clear hE
    refine ⟨?_, rfl⟩
    subst_vars
    simp [rm_rank, *]
  by_cases e_1_261 : c = 261
  · refine cx_lookup (tgt := 153) hE d_Mo_rank_1 (by decide) (by first | (rw [e_1_261]; done) | (rw [e_1_261]; rfl)) (by decide) ?_
    refine cx_bipush (v := 7) hE d_Mo_rank_153 (by decide) ?_
    refine cx_iret hE d_Mo_rank_155 rfl rfl ?_
    clear hE
    refine ⟨?_, rfl⟩
    subst_vars
    simp [rm_rank, *]
  by_cases e_1_262 : c = 262
  · refine cx_lookup (tgt := 156) hE d_Mo_rank_1 (by decide) (by first | (rw [e_1_262]; done) | (rw [e_1_262]; rfl)) (by decide) ?_
    refine cx_bipush (v := 8) hE d_Mo_rank_156 (by decide) ?_
    refine cx_iret hE d_Mo_rank_158 rfl rfl ?_
    clear hE
    refine ⟨?_, rfl⟩
    subst_vars
    simp [rm_rank, *]
  by_cases e_1_263 : c = 263
  · refine cx_lookup (tgt := 156) hE d_Mo_rank_1 (by decide) (by first | (rw [e_1_263]; done) | (rw [e_1_263]; rfl)) (by decide) ?_
    refine cx_bipush (v := 8) hE d_Mo_rank_156 (by decide) ?_
    refine cx_iret hE d_Mo_rank_158 rfl rfl ?_
    clear hE
    refine ⟨?_, rfl⟩
    subst_vars
    simp [rm_rank, *]
  refine cx_lookup (tgt := 165) hE d_Mo_rank_1 (by decide) (off := 164) (by show Op.lookupswitch.offset [(38, 147), (42, 161), (43, 158), (45, 158), (60, 152), (62, 152), (94, 145), (124, 143), (256, 141), (257, 139), (258, 149), (259, 149), (260, 152), (261, 152), (262, 155), (263, 155)] 164 _ = _; rw [lv_osw (k := 38) e_1_38 (by decide), lv_osw (k := 42) e_1_42 (by decide), lv_osw (k := 43) e_1_43 (by decide), lv_osw (k := 45) e_1_45 (by decide), lv_osw (k := 60) e_1_60 (by decide), lv_osw (k := 62) e_1_62 (by decide), lv_osw (k := 94) e_1_94 (by decide), lv_osw (k := 124) e_1_124 (by decide), lv_osw (k := 256) e_1_256 (by decide), lv_osw (k := 257) e_1_257 (by decide), lv_osw (k := 258) e_1_258 (by decide), lv_osw (k := 259) e_1_259 (by decide), lv_osw (k := 260) e_1_260 (by decide), lv_osw (k := 261) e_1_261 (by decide), lv_osw (k := 262) e_1_262 (by decide), lv_osw (k := 263) e_1_263 (by decide)]; rfl) (by decide) ?_
  refine cx_iconst (v := 0) hE d_Mo_rank_165 (by decide) ?_
  refine cx_iret hE d_Mo_rank_166 rfl rfl ?_
  clear hE
  refine ⟨?_, rfl⟩
  subst_vars
  simp [rm_rank, *]
section RMS
variable {T : List tx_Tk} {M0 M : rm_M} {i f : Nat} {kd a : Int32} {e : Int32 × Int32}
theorem rm_lv.no (hT : rm_tk M0 T) (hl : rm_lv T M0 M i f) : rm_dd T M0 (rm_no i M) (tx_no (tx_ta T i)) := by
  obtain ⟨h1, h2, h3, h4, h5, h6⟩ := hl
  obtain ⟨z1, z2⟩ := (hT.sm h1).2.1 i h3
  have e : rm_no i M = (va_up (va_up M.1 9 (tx_no (tx_ta T i)).1) 10 (tx_no (tx_ta T i)).2, M.2) := by
    unfold rm_no rm_fail
    rw [if_pos h4, z2]
    unfold tx_no
    have hb := rm_bd _ z1
    by_cases z : (tx_ta T i).1 = 23
    · rw [if_pos z, if_pos (hb.mpr z)]
    · rw [if_neg z, if_neg (fun y => z (hb.mp y))]
  rw [e]
  refine ⟨⟨h1.1, fun j a b c d => ?_⟩, ⟨i, h2, h3⟩, rfl, rfl, ?_⟩
  · show (if j = 10 then _ else if j = 9 then _ else M.1 j) = _
    rw [if_neg c, if_neg b]
    exact h1.2 j a b c d
  · unfold tx_no
    show (if _ then (1 : Int32) else 2) ≠ 0
    split <;> decide
theorem rm_lv.take (hT : rm_tk M0 T) (hl : rm_lv T M0 M i f) (hq : ∀ p ∈ rm_kl, p.2 = kd ↔ p.1 = a) (ha : a ≠ 22 ∧ a ≠ 23) : (tx_ki T i = a → rm_lv T M0 (rm_take i kd M) (i + 1) f) ∧ (¬ tx_ki T i = a → rm_dd T M0 (rm_take i kd M) (tx_no (tx_ta T i))) := by
  have hno := hl.no hT
  obtain ⟨h1, h2, h3, h4, h5, h6⟩ := hl
  obtain ⟨z1, z2⟩ := (hT.sm h1).2.1 i h3
  have hk := rm_kq z1 hq
  refine ⟨fun z => ?_, fun z => ?_⟩
  · rw [show rm_take i kd M = (va_up M.1 8 (nI (i + 1)), M.2) from if_pos ⟨h4, hk.mpr z⟩]
    refine ⟨⟨h1.1, fun j a b c d => ?_⟩, rfl, hT.2.2 i h3 (fun y => ha.1 (z.symm.trans y)) (fun y => ha.2 (z.symm.trans y)), h4, h5, h6⟩
    show (if j = 8 then _ else M.1 j) = _
    rw [if_neg a]
    exact h1.2 j a b c d
  · rw [show rm_take i kd M = rm_no i M from if_neg (fun y => z (hk.mp y.2))]
    exact hno
theorem rm_dd.no (hd : rm_dd T M0 M e) : rm_no i M = M := by
  unfold rm_no rm_fail
  rw [if_neg (fun z => hd.2.2.2.2 (hd.2.2.1.symm.trans z))]
theorem rm_dd.take (hd : rm_dd T M0 M e) : rm_take i kd M = M := by
  rw [show rm_take i kd M = rm_no i M from if_neg (fun y => hd.2.2.2.2 (hd.2.2.1.symm.trans y.1))]
  exact hd.no
theorem rm_dd.dp (hd : rm_dd T M0 M e) (v : Int32) : rm_dd T M0 (va_up M.1 11 v, M.2) e := by
  obtain ⟨h1, h2, h3, h4, h5⟩ := hd
  refine ⟨⟨h1.1, fun j a b c d => ?_⟩, h2, h3, h4, h5⟩
  show (if j = 11 then _ else M.1 j) = _
  rw [if_neg d]
  exact h1.2 j a b c d
theorem rm_dd.shut (hd : rm_dd T M0 M e) : rm_dd T M0 (rm_shut i kd M) e := by
  unfold rm_shut
  rw [hd.take]
  exact hd.dp _
theorem rm_dd.c9 (hd : rm_dd T M0 M e) : rm_c9 M i kd = false := decide_eq_false (fun z => hd.2.2.2.2 (hd.2.2.1.symm.trans z.1))
theorem rm_dd.opn (hd : rm_dd T M0 M e) : rm_open i kd M = M := by
  unfold rm_open
  rw [if_neg (by rw [hd.c9]; decide)]
  exact hd.take
theorem rm_lv.c9 (hT : rm_tk M0 T) (hl : rm_lv T M0 M i f) (hq : ∀ p ∈ rm_kl, p.2 = kd ↔ p.1 = a) : rm_c9 M i kd = decide (tx_ki T i = a) := by
  obtain ⟨h1, h2, h3, h4, h5, h6⟩ := hl
  obtain ⟨z1, z2⟩ := (hT.sm h1).2.1 i h3
  have hk := rm_kq z1 hq
  unfold rm_c9
  by_cases z : tx_ki T i = a
  · rw [decide_eq_true z, decide_eq_true ⟨h4, hk.mpr z⟩]
  · rw [decide_eq_false z, decide_eq_false (fun y => z (hk.mp y.2))]
theorem rm_lv.dp (hl : rm_lv T M0 M i f) {v : Int32} {f' : Nat} (hv : v = nI (60 - f')) (hf : f' ≤ 60) : rm_lv T M0 (va_up M.1 11 v, M.2) i f' := by
  obtain ⟨h1, h2, h3, h4, h5, h6⟩ := hl
  refine ⟨⟨h1.1, fun j a b c d => ?_⟩, h2, h3, h4, hv, hf⟩
  show (if j = 11 then _ else M.1 j) = _
  rw [if_neg d]
  exact h1.2 j a b c d
theorem rm_lv.t1 (hT : rm_tk M0 T) (hl : rm_lv T M0 M i f) (h22 : tx_ki T i ≠ 22) (h23 : tx_ki T i ≠ 23) : rm_lv T M0 (va_up M.1 8 (nI (i + 1)), M.2) (i + 1) f := by
  obtain ⟨h1, h2, h3, h4, h5, h6⟩ := hl
  refine ⟨⟨h1.1, fun j a b c d => ?_⟩, rfl, hT.2.2 i h3 h22 h23, h4, h5, h6⟩
  show (if j = 8 then _ else M.1 j) = _
  rw [if_neg a]
  exact h1.2 j a b c d
theorem rm_lv.shut (hT : rm_tk M0 T) (hl : rm_lv T M0 M i f) (hq : ∀ p ∈ rm_kl, p.2 = kd ↔ p.1 = a) (ha : a ≠ 22 ∧ a ≠ 23) (hf : f < 60) : (tx_ki T i = a → rm_lv T M0 (rm_shut i kd M) (i + 1) (f + 1)) ∧ (¬ tx_ki T i = a → rm_dd T M0 (rm_shut i kd M) (tx_no (tx_ta T i))) := by
  obtain ⟨t1, t2⟩ := hl.take hT hq ha
  refine ⟨fun z => ?_, fun z => (t2 z).dp _⟩
  have h := t1 z
  exact h.dp (by rw [h.2.2.2.2.1]; exact tx_o62 f hf) (by omega)
theorem rm_lv.opn (hT : rm_tk M0 T) (hl : rm_lv T M0 M i f) (hq : ∀ p ∈ rm_kl, p.2 = kd ↔ p.1 = a) (ha : a ≠ 22 ∧ a ≠ 23) : (tx_ki T i = a → ∀ f', f = f' + 1 → rm_lv T M0 (rm_open i kd M) (i + 1) f') ∧ (tx_ki T i = a → f = 0 → rm_dd T M0 (rm_open i kd M) (3, nI (tx_ta T i).2.1)) ∧ (¬ tx_ki T i = a → rm_dd T M0 (rm_open i kd M) (tx_no (tx_ta T i))) := by
  have hc := hl.c9 hT hq
  refine ⟨fun z f' hf => ?_, fun z hf => ?_, fun z => ?_⟩
  · subst hf
    have h6 := hl.2.2.2.2.2
    have hv : M.1 11 + 1 = nI (60 - f') := by rw [hl.2.2.2.2.1]; exact tx_o61 f' (by omega)
    have e : rm_open i kd M = rm_take i kd (va_up M.1 11 (M.1 11 + 1), M.2) := by
      unfold rm_open
      rw [if_pos (by rw [hc]; exact decide_eq_true z), if_pos (by rw [hv]; exact tx_o60 f' (by omega))]
    rw [e]
    exact ((hl.dp hv (by omega)).take hT hq ha).1 z
  · subst hf
    obtain ⟨z1, z2⟩ := (hT.sm hl.1).2.1 i hl.2.2.1
    have hv : M.1 11 + 1 = 61 := by rw [hl.2.2.2.2.1]; decide
    have e : rm_open i kd M = rm_take i kd (rm_fail 3 (M.2.1 5 i) (va_up M.1 11 (M.1 11 + 1), M.2)) := by
      unfold rm_open
      rw [if_pos (by rw [hc]; exact decide_eq_true z), if_neg (by rw [hv]; decide)]
    have e2 : rm_fail 3 (M.2.1 5 i) (va_up M.1 11 (M.1 11 + 1), M.2) = (va_up (va_up (va_up M.1 11 (M.1 11 + 1)) 9 3) 10 (M.2.1 5 i), M.2) := if_pos hl.2.2.2.1
    have hd : rm_dd T M0 (va_up (va_up (va_up M.1 11 (M.1 11 + 1)) 9 3) 10 (M.2.1 5 i), M.2) (3, nI (tx_ta T i).2.1) := by
      refine ⟨⟨hl.1.1, fun j a b c d => ?_⟩, ⟨i, hl.2.1, hl.2.2.1⟩, rfl, z2, (show (3 : Int32) ≠ 0 by decide)⟩
      show (if j = 10 then _ else if j = 9 then _ else if j = 11 then _ else M.1 j) = _
      rw [if_neg c, if_neg b, if_neg d]
      exact hl.1.2 j a b c d
    rw [e, e2, hd.take]
    exact hd
  · have e : rm_open i kd M = rm_take i kd M := by
      unfold rm_open
      rw [if_neg (by rw [hc, decide_eq_false z]; decide)]
    rw [e]
    exact (hl.take hT hq ha).2 z
end RMS

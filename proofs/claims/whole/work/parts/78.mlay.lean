/-! THE REFERENCE'S SECOND PASS: rows that grow, cost, widths. -/
/-- cells of others are as they were, and stay others' -/
def rm_st2 (mo : Nat) (P P' : Nat → Nat) (G G' : cx_G) : Prop := ∀ c e, ¬ rm_S mo P c → G.1 c = some e → G'.1 c = some e ∧ ¬ rm_S mo P' c
theorem rm_st2.rf (mo : Nat) (P : Nat → Nat) (G : cx_G) : rm_st2 mo P P G G := fun _ _ n h => ⟨h, n⟩
theorem rm_st2.tr {mo : Nat} {P P1 P2 : Nat → Nat} {G G1 G2 : cx_G} (h : rm_st2 mo P P1 G G1) (h' : rm_st2 mo P1 P2 G1 G2) : rm_st2 mo P P2 G G2 := fun c e n q => h' c e (h c e n q).2 (h c e n q).1
theorem rm_st.s2 {mo : Nat} {P : Nat → Nat} {G G' : cx_G} (h : rm_st mo P G G') : rm_st2 mo P P G G' := fun c e n q => ⟨h c e n q, n⟩
/-- what room the rows that grow may yet take -/
def rm_Q (b : Nat × Nat) (G : cx_G) (M : rm_M) : Prop := 256 * G.2.1 + (262144 - M.2.2.2.1) + (32768 - M.2.2.2.2) ≤ b.1 ∧ G.2.2 + 2 * (262144 - M.2.2.2.1) + 2 * (32768 - M.2.2.2.2) ≤ b.2 ∧ 4096 ≤ M.2.2.2.1 ∧ M.2.2.2.1 ≤ 262144 ∧ 256 ≤ M.2.2.2.2 ∧ M.2.2.2.2 ≤ 32768 ∧ b.1 ≤ 153862144 ∧ b.2 ≤ 7293034
theorem rm_Q.eq {b : Nat × Nat} {G G' : cx_G} {M M' : rm_M} (h : rm_Q b G M) (hG : G'.2 = G.2) (hM : M'.2.2.2 = M.2.2.2) : rm_Q b G' M' := by
  unfold rm_Q at h ⊢
  rw [hG, hM]
  exact h
/-- a step of the heap -/
def rm_W (k : cx_K) (mo : Nat) (b : Nat × Nat) (G : cx_G) (P : Nat → Nat) (G' : cx_G) (P' : Nat → Nat) (M' : rm_M) : Prop := rm_R k G' mo P' M' ∧ rm_st2 mo P P' G G' ∧ rm_Q b G' M'
theorem rm_W.tr {k : cx_K} {mo : Nat} {b : Nat × Nat} {G G1 G2 : cx_G} {P P1 P2 : Nat → Nat} {M1 M2 : rm_M} (h : rm_W k mo b G P G1 P1 M1) (h' : rm_W k mo b G1 P1 G2 P2 M2) : rm_W k mo b G P G2 P2 M2 := ⟨h'.1, h.2.1.tr h'.2.1, h'.2.2⟩
theorem rm_len_41 {a b c i : Nat} (h : i ≠ 41) : rm_len (a, c) i = rm_len (b, c) i := by
  unfold rm_len
  split <;> first | rfl | exact absurd rfl h
theorem rm_len_43 {a b c i : Nat} (h : i ≠ 43) : rm_len (c, a) i = rm_len (c, b) i := by
  unfold rm_len
  split <;> first | rfl | exact absurd rfl h
section RMG
variable {k : cx_K} {G G2 G3 : cx_G} {mo a N : Nat} {P : Nat → Nat} {M : rm_M}
theorem rm_upn {P : Nat → Nat} {i j a : Nat} (h : i ≠ j) : va_up P j a i = P i := if_neg h
theorem rm_R.g41 (h : rm_R k G mo P M) (ha : G.1 a = none) (hx : ∀ c e, G.1 c = some e → G2.1 c = some e) {g : Nat → Int32} (h2 : G2.1 a = some (.inl (k.2.1 1, N, .inl g))) (h3 : cx_put G2 mo (.inr (12, rm_fs (va_up P 41 a) M.1)) = G3) : rm_R k G3 mo (va_up P 41 a) (M.1, va_up M.2.1 41 g, M.2.2.1, (N, M.2.2.2.2)) ∧ rm_st2 mo P (va_up P 41 a) G G3 := by
  have hne := h.ne
  obtain ⟨k1, k2, k3, k4, k5⟩ := h
  have hm : mo ≠ a := fun z => by rw [z, ha] at k1; cases k1
  have na : ∀ i, rm_ty i ≠ 3 → P i ≠ a := fun i hi z => by
    have := rm_ty_le i
    have : rm_ty i = 0 ∨ rm_ty i = 1 ∨ rm_ty i = 2 := by omega
    rcases this with y | y | y
    · have := k2 i y; rw [z, ha] at this; cases this
    · have := k3 i y; rw [z, ha] at this; cases this
    · have := k4 i y; rw [z, ha] at this; cases this
  have old : ∀ c e, G.1 c = some e → c ≠ mo → G3.1 c = some e := fun c e q n => cx_pn h3 (hx c e q) n
  refine ⟨⟨cx_ps h3, fun i hi => ?_, fun i hi => ?_, fun i hi => ?_, fun i j hi hj => ?_⟩, fun c e n q => ?_⟩
  · have e41 : i ≠ 41 := fun z => by rw [z] at hi; cases hi
    rw [rm_upn e41]
    show G3.1 (P i) = some (.inl (_, rm_len (N, M.2.2.2.2) i, .inl (va_up M.2.1 41 g i)))
    rw [show va_up M.2.1 41 g i = M.2.1 i from if_neg e41, rm_len_41 (b := M.2.2.2.1) e41]
    exact old _ _ (k2 i hi) (hne i (by rw [hi]; decide))
  · by_cases e41 : i = 41
    · subst e41
      show G3.1 a = some (.inl (_, N, .inl g))
      exact cx_pn h3 h2 hm.symm
    · rw [rm_upn e41]
      show G3.1 (P i) = some (.inl (_, rm_len (N, M.2.2.2.2) i, .inl (va_up M.2.1 41 g i)))
      rw [show va_up M.2.1 41 g i = M.2.1 i from if_neg e41, rm_len_41 (b := M.2.2.2.1) e41]
      exact old _ _ (k3 i hi) (hne i (by rw [hi]; decide))
  · have e41 : i ≠ 41 := fun z => by rw [z] at hi; cases hi
    rw [rm_upn e41]
    show G3.1 (P i) = some (.inl (_, rm_len (N, M.2.2.2.2) i, _))
    rw [rm_len_41 (b := M.2.2.2.1) e41]
    exact old _ _ (k4 i hi) (hne i (by rw [hi]; decide))
  · intro z
    by_cases ei : i = 41
    · by_cases ej : j = 41
      · rw [ei, ej]
      · rw [ei, rm_upn ej] at z
        exact absurd z.symm (na j hj)
    · by_cases ej : j = 41
      · rw [ej, rm_upn ei] at z
        exact absurd z (na i hi)
      · rw [rm_upn ei, rm_upn ej] at z
        exact k5 i j hi hj z
  · refine ⟨old c e q (fun z => n (Or.inl z)), ?_⟩
    rintro (z | ⟨i, hi, z⟩)
    · exact n (Or.inl z)
    · by_cases ei : i = 41
      · rw [ei] at z
        have z : c = a := z
        rw [z, ha] at q; cases q
      · rw [rm_upn ei] at z
        exact n (Or.inr ⟨i, hi, z⟩)
theorem rm_R.g43 (h : rm_R k G mo P M) (ha : G.1 a = none) (hx : ∀ c e, G.1 c = some e → G2.1 c = some e) {g : Nat → Int64} (h2 : G2.1 a = some (.inl (k.2.1 2, N, .inr (.inl g)))) (h3 : cx_put G2 mo (.inr (12, rm_fs (va_up P 43 a) M.1)) = G3) : rm_R k G3 mo (va_up P 43 a) (M.1, M.2.1, va_up M.2.2.1 43 g, (M.2.2.2.1, N)) ∧ rm_st2 mo P (va_up P 43 a) G G3 := by
  have hne := h.ne
  obtain ⟨k1, k2, k3, k4, k5⟩ := h
  have hm : mo ≠ a := fun z => by rw [z, ha] at k1; cases k1
  have na : ∀ i, rm_ty i ≠ 3 → P i ≠ a := fun i hi z => by
    have := rm_ty_le i
    have : rm_ty i = 0 ∨ rm_ty i = 1 ∨ rm_ty i = 2 := by omega
    rcases this with y | y | y
    · have := k2 i y; rw [z, ha] at this; cases this
    · have := k3 i y; rw [z, ha] at this; cases this
    · have := k4 i y; rw [z, ha] at this; cases this
  have old : ∀ c e, G.1 c = some e → c ≠ mo → G3.1 c = some e := fun c e q n => cx_pn h3 (hx c e q) n
  refine ⟨⟨cx_ps h3, fun i hi => ?_, fun i hi => ?_, fun i hi => ?_, fun i j hi hj => ?_⟩, fun c e n q => ?_⟩
  · have e41 : i ≠ 43 := fun z => by rw [z] at hi; cases hi
    rw [rm_upn e41]
    show G3.1 (P i) = some (.inl (_, rm_len (M.2.2.2.1, N) i, _))
    rw [rm_len_43 (b := M.2.2.2.2) e41]
    exact old _ _ (k2 i hi) (hne i (by rw [hi]; decide))
  · have e41 : i ≠ 43 := fun z => by rw [z] at hi; cases hi
    rw [rm_upn e41]
    show G3.1 (P i) = some (.inl (_, rm_len (M.2.2.2.1, N) i, _))
    rw [rm_len_43 (b := M.2.2.2.2) e41]
    exact old _ _ (k3 i hi) (hne i (by rw [hi]; decide))
  · by_cases e41 : i = 43
    · subst e41
      show G3.1 a = some (.inl (_, N, .inr (.inl g)))
      exact cx_pn h3 h2 hm.symm
    · rw [rm_upn e41]
      show G3.1 (P i) = some (.inl (_, rm_len (M.2.2.2.1, N) i, .inr (.inl (va_up M.2.2.1 43 g i))))
      rw [show va_up M.2.2.1 43 g i = M.2.2.1 i from if_neg e41, rm_len_43 (b := M.2.2.2.2) e41]
      exact old _ _ (k4 i hi) (hne i (by rw [hi]; decide))
  · intro z
    by_cases ei : i = 43
    · by_cases ej : j = 43
      · rw [ei, ej]
      · rw [ei, rm_upn ej] at z
        exact absurd z.symm (na j hj)
    · by_cases ej : j = 43
      · rw [ej, rm_upn ei] at z
        exact absurd z (na i hi)
      · rw [rm_upn ei, rm_upn ej] at z
        exact k5 i j hi hj z
  · refine ⟨old c e q (fun z => n (Or.inl z)), ?_⟩
    rintro (z | ⟨i, hi, z⟩)
    · exact n (Or.inl z)
    · by_cases ei : i = 43
      · rw [ei] at z
        have z : c = a := z
        rw [z, ha] at q; cases q
      · rw [rm_upn ei] at z
        exact n (Or.inr ⟨i, hi, z⟩)
end RMG
/-- three numbers are laid at x -/
def rm_la (x : Nat) (u v w : Int32) (M M' : rm_M) : Prop := M'.1 = va_up M.1 42 (nI (x + 3)) ∧ (∀ j, j ≠ 41 → M'.2.1 j = M.2.1 j) ∧ (∀ j, j < x → M'.2.1 41 j = M.2.1 41 j) ∧ M'.2.2.1 = M.2.2.1 ∧ x + 3 ≤ M'.2.2.2.1 ∧ M'.2.2.2.2 = M.2.2.2.2 ∧ M'.2.1 41 x = u ∧ M'.2.1 41 (x + 1) = v ∧ M'.2.1 41 (x + 2) = w
def rm_lap (k : cx_K) (mo : Nat) (b : Nat × Nat) (G : cx_G) (P : Nat → Nat) (M : rm_M) (x : Nat) (u v w : Int32) : cx_R → cx_G → Prop := fun r G' => ∃ P' M', r = .inl none ∧ rm_W k mo b G P G' P' M' ∧ rm_la x u v w M M'
/-- a number is kept -/
def rm_kn (y : Nat) (M M' : rm_M) : Prop := M'.1 = va_up M.1 44 (nI (y + 1)) ∧ M'.2.1 = M.2.1 ∧ (∀ j, j ≠ 43 → M'.2.2.1 j = M.2.2.1 j) ∧ M'.2.2.2.1 = M.2.2.2.1 ∧ y + 1 ≤ M'.2.2.2.2
def rm_knp (k : cx_K) (mo : Nat) (b : Nat × Nat) (G : cx_G) (P : Nat → Nat) (M : rm_M) (y : Nat) : cx_R → cx_G → Prop := fun r G' => ∃ P' M', r = .inl (some (.int (nI y))) ∧ rm_W k mo b G P G' P' M' ∧ rm_kn y M M'
theorem rm_s41 (P : Nat → Nat) (I : Nat → Int32) (a : Nat) : (rm_fs P I).set 41 (.ref a) = rm_fs (va_up P 41 a) I := rfl
theorem rm_s43 (P : Nat → Nat) (I : Nat → Int32) (a : Nat) : (rm_fs P I).set 43 (.ref a) = rm_fs (va_up P 43 a) I := rfl
set_option maxRecDepth 100000 in
theorem c_Mo_cost {k : cx_K} {l : Launch} {G : cx_G} {mo : Nat} {P : Nat → Nat} {M : rm_M} (hm : rm_R k G mo P M) {mc : Nat} (hmc : M.1 12 = nI mc) (hmc2 : mc < 3600) {v : Int64}  : cx_Sp k l m_Mo_cost 0 [.ref mo, .long v] G (rm_q k G mo P none (M.1, M.2.1, va_up M.2.2.1 45 (vp_updL (M.2.2.1 45) mc (M.2.2.1 45 mc + v)), M.2.2.2)) := by
  intro E hE
  have hmo := hm.1
  have h45 := hm.l 45 rfl
  refine cx_aload_n (i := 0) hE d_Mo_cost_0 rfl rfl ?_
  refine cx_get hE d_Mo_cost_1 f_Mo_101 (by assumption) (by rfl) ?_
  refine cx_aload_n (i := 0) hE d_Mo_cost_4 rfl rfl ?_
  refine cx_get hE d_Mo_cost_5 f_Mo_266 (by assumption) (by rfl) ?_
  rw [hmc]
  refine cx_aload_n (i := 0) hE d_Mo_cost_8 rfl rfl ?_
  refine cx_get hE d_Mo_cost_9 f_Mo_101 (by assumption) (by rfl) ?_
  refine cx_aload_n (i := 0) hE d_Mo_cost_12 rfl rfl ?_
  refine cx_get hE d_Mo_cost_13 f_Mo_266 (by assumption) (by rfl) ?_
  rw [hmc]
  refine cx_lald 2 hE d_Mo_cost_16 rfl (by assumption) (vp_in_nI (by show _ < 3600; omega) (by show 3600 < 2147483648; omega)) ?_
  rw [nI_clamp (by omega)]
  refine cx_lload_n (i := 1) hE d_Mo_cost_17 rfl rfl ?_
  refine cx_ladd hE d_Mo_cost_18 ?_
  refine cx_last 2 hE d_Mo_cost_19 rfl h45 (vp_in_nI (by show _ < 3600; omega) (by show 3600 < 2147483648; omega)) ?_
  rw [nI_clamp (by omega)]
  refine cx_gen (fun G_19 g_19 => ?_)
  have m19 := hm.sl 45 rfl g_19
  refine cx_vret hE d_Mo_cost_20 rfl ?_
  exact ⟨rfl, m19.1, m19.2, cx_pc g_19⟩
set_option maxRecDepth 100000 in
theorem c_Mo_pushWidth {k : cx_K} {l : Launch} {G : cx_G} {mo : Nat} {P : Nat → Nat} {M : rm_M} (hm : rm_R k G mo P M) {bw : Nat} (hbw : M.1 50 = nI bw) (hbw2 : bw < 4096) {w : Int32}  : cx_Sp k l m_Mo_pushWidth 0 [.ref mo, .int w] G (rm_q k G mo P none (va_up M.1 50 (nI (bw + 1)), va_up M.2.1 49 (upd (M.2.1 49) bw w), M.2.2)) := by
  intro E hE
  have hmo := hm.1
  refine cx_aload_n (i := 0) hE d_Mo_pushWidth_0 rfl rfl ?_
  refine cx_get hE d_Mo_pushWidth_1 f_Mo_110 (by assumption) (by rfl) ?_
  refine cx_aload_n (i := 0) hE d_Mo_pushWidth_4 rfl rfl ?_
  refine cx_get hE d_Mo_pushWidth_5 f_Mo_310 (by assumption) (by rfl) ?_
  rw [hbw]
  refine cx_iload_n (i := 1) hE d_Mo_pushWidth_8 rfl rfl ?_
  refine cx_iast 1 hE d_Mo_pushWidth_9 rfl (hm.i 49 rfl) (vp_in_nI (by show _ < 4096; omega) (by show 4096 < 2147483648; omega)) ?_
  rw [nI_clamp (by omega)]
  refine cx_gen (fun G_9 g_9 => ?_)
  have m9 := hm.si 49 1 rfl (Or.inr rfl) g_9
  have om9 := m9.1.1
  refine cx_aload_n (i := 0) hE d_Mo_pushWidth_10 rfl rfl ?_
  refine cx_dup hE d_Mo_pushWidth_11 ?_
  refine cx_get hE d_Mo_pushWidth_12 f_Mo_310 (by assumption) (by rfl) ?_
  rw [hbw]
  refine cx_iconst (v := 1) hE d_Mo_pushWidth_15 (by decide) ?_
  refine cx_iadd hE d_Mo_pushWidth_16 ?_
  show cx_V E _ _ [.int (nI bw + 1), .ref mo] _
  rw [nI_1]
  refine cx_putg hE d_Mo_pushWidth_17 f_Mo_310 (by assumption) (Nat.le_of_ble_eq_true rfl) (by first | rfl | exact cx_nr _ _) (by first | rfl | exact cx_fr _ _) (fun G_17 g_17 h_17 => ?_)
  rw [rm_s50] at g_17 h_17
  have m17 := m9.1.pi g_17
  refine cx_vret hE d_Mo_pushWidth_20 rfl ?_
  exact ⟨rfl, m17.1, m9.2.tr m17.2, (cx_pc g_17).trans (cx_pc g_9)⟩
set_option maxRecDepth 100000 in
theorem c_Mo_lay {k : cx_K} {l : Launch} {G : cx_G} {mo : Nat} {P : Nat → Nat} {M : rm_M} (hm : rm_R k G mo P M) {b : Nat × Nat} (hQ : rm_Q b G M) {x : Nat} (hx : M.1 42 = nI x) (hxl : x ≤ M.2.2.2.1) (hx3 : x + 3 ≤ 131072) {u v w : Int32}  : cx_Sp k l m_Mo_lay 0 [.ref mo, .int u, .int v, .int w] G (rm_lap k mo b G P M x u v w) := by
  intro E hE
  have hmo := hm.1
  have h41 := hm.i 41 rfl
  obtain ⟨lc, hlc⟩ : ∃ lc, lc = M.2.2.2.1 := ⟨_, rfl⟩
  have hQ2 := hQ
  unfold rm_Q at hQ2
  rw [← hlc] at hQ2 hxl
  change G.1 (P 41) = some (.inl (k.2.1 1, M.2.2.2.1, .inl (M.2.1 41))) at h41
  rw [← hlc] at h41
  have htail : ∀ (G1 : cx_G) (P1 : Nat → Nat) (M1 : rm_M), rm_W k mo b G P G1 P1 M1 → M1.1 = M.1 → (∀ j, j ≠ 41 → M1.2.1 j = M.2.1 j) → (∀ j, j < x → M1.2.1 41 j = M.2.1 41 j) → M1.2.2.1 = M.2.2.1 → x + 3 ≤ M1.2.2.2.1 → M1.2.2.2.2 = M.2.2.2.2 → cx_V E 61 [(0, false, .ref mo), (1, false, .int u), (2, false, .int v), (3, false, .int w)] [] G1 := by
    intro G1 P1 M1 hW e1 e2 e3 e4 e5 e6
    obtain ⟨r1, s1, Q1⟩ := hW
    have hm1 := r1.1
    have hx1 : M1.1 42 = nI x := by rw [e1]; exact hx
    have hlim := Q1.2.2.2.1
    refine cx_aload_n (i := 0) hE d_Mo_lay_61 rfl rfl ?_
    refine cx_get hE d_Mo_lay_62 f_Mo_95 (by assumption) (by rfl) ?_
    refine cx_aload_n (i := 0) hE d_Mo_lay_65 rfl rfl ?_
    refine cx_get hE d_Mo_lay_66 f_Mo_279 (by assumption) (by rfl) ?_
    rw [hx1]
    refine cx_iload_n (i := 1) hE d_Mo_lay_69 rfl rfl ?_
    refine cx_iast 1 hE d_Mo_lay_70 rfl (r1.i 41 rfl) (vp_in_nI (by show _ < M1.2.2.2.1; omega) (by show M1.2.2.2.1 < 2147483648; omega)) ?_
    rw [nI_clamp (by omega)]
    refine cx_gen (fun G_70 g_70 => ?_)
    have m70 := r1.si 41 1 rfl (Or.inr rfl) g_70
    have om70 := m70.1.1
    refine cx_aload_n (i := 0) hE d_Mo_lay_71 rfl rfl ?_
    refine cx_get hE d_Mo_lay_72 f_Mo_95 (by assumption) (by rfl) ?_
    refine cx_aload_n (i := 0) hE d_Mo_lay_75 rfl rfl ?_
    refine cx_get hE d_Mo_lay_76 f_Mo_279 (by assumption) (by rfl) ?_
    rw [hx1]
    refine cx_iconst (v := 1) hE d_Mo_lay_79 (by decide) ?_
    refine cx_iadd hE d_Mo_lay_80 ?_
    show cx_V E _ _ (.int (nI x + 1) :: _) _
    rw [nI_1]
    refine cx_iload_n (i := 2) hE d_Mo_lay_81 rfl rfl ?_
    refine cx_iast 1 hE d_Mo_lay_82 rfl (m70.1.i 41 rfl) (vp_in_nI (by show _ < M1.2.2.2.1; omega) (by show M1.2.2.2.1 < 2147483648; omega)) ?_
    rw [nI_clamp (by omega)]
    refine cx_gen (fun G_82 g_82 => ?_)
    have m82 := m70.1.si 41 1 rfl (Or.inr rfl) g_82
    have om82 := m82.1.1
    refine cx_aload_n (i := 0) hE d_Mo_lay_83 rfl rfl ?_
    refine cx_get hE d_Mo_lay_84 f_Mo_95 (by assumption) (by rfl) ?_
    refine cx_aload_n (i := 0) hE d_Mo_lay_87 rfl rfl ?_
    refine cx_get hE d_Mo_lay_88 f_Mo_279 (by assumption) (by rfl) ?_
    rw [hx1]
    refine cx_iconst (v := 2) hE d_Mo_lay_91 (by decide) ?_
    refine cx_iadd hE d_Mo_lay_92 ?_
    show cx_V E _ _ (.int (nI x + nI 2) :: _) _
    rw [nI_add]
    refine cx_iload_n (i := 3) hE d_Mo_lay_93 rfl rfl ?_
    refine cx_iast 1 hE d_Mo_lay_94 rfl (m82.1.i 41 rfl) (vp_in_nI (by show _ < M1.2.2.2.1; omega) (by show M1.2.2.2.1 < 2147483648; omega)) ?_
    rw [nI_clamp (by omega)]
    refine cx_gen (fun G_94 g_94 => ?_)
    have m94 := m82.1.si 41 1 rfl (Or.inr rfl) g_94
    have om94 := m94.1.1
    refine cx_aload_n (i := 0) hE d_Mo_lay_95 rfl rfl ?_
    refine cx_aload_n (i := 0) hE d_Mo_lay_96 rfl rfl ?_
    refine cx_get hE d_Mo_lay_97 f_Mo_279 (by assumption) (by rfl) ?_
    rw [hx1]
    refine cx_iconst (v := 3) hE d_Mo_lay_100 (by decide) ?_
    refine cx_iadd hE d_Mo_lay_101 ?_
    show cx_V E _ _ (.int (nI x + nI 3) :: _) _
    rw [nI_add]
    refine cx_putg hE d_Mo_lay_102 f_Mo_279 (by assumption) (Nat.le_of_ble_eq_true rfl) (by first | rfl | exact cx_nr _ _) (by first | rfl | exact cx_fr _ _) (fun G_102 g_102 h_102 => ?_)
    rw [rm_s42] at g_102 h_102
    have m102 := m94.1.pi g_102
    refine cx_vret hE d_Mo_lay_105 rfl ?_
    refine ⟨P1, _, rfl, ⟨m102.1, s1.tr (((m70.2.tr m82.2).tr m94.2).tr m102.2).s2, Q1.eq ((cx_pc g_102).trans ((cx_pc g_94).trans ((cx_pc g_82).trans (cx_pc g_70)))) rfl⟩, ?_, fun j hj => ?_, fun j hj => ?_, e4, e5, e6, ?_, ?_, ?_⟩
    · show va_up M1.1 42 _ = _
      rw [e1]
    · show (if j = 41 then _ else if j = 41 then _ else if j = 41 then _ else M1.2.1 j) = _
      rw [if_neg hj, if_neg hj, if_neg hj]
      exact e2 j hj
    · show upd (upd (upd (M1.2.1 41) x u) (x + 1) v) (x + 2) w j = _
      rw [pk_un (by omega), pk_un (by omega), pk_un (by omega)]
      exact e3 j hj
    · show upd (upd (upd (M1.2.1 41) x u) (x + 1) v) (x + 2) w x = _
      rw [pk_un (by omega), pk_un (by omega), pk_us]
    · show upd (upd (upd (M1.2.1 41) x u) (x + 1) v) (x + 2) w (x + 1) = _
      rw [pk_un (by omega), pk_us]
    · show upd (upd (upd (M1.2.1 41) x u) (x + 1) v) (x + 2) w (x + 2) = _
      rw [pk_us]
  refine cx_aload_n (i := 0) hE d_Mo_lay_0 rfl rfl ?_
  refine cx_get hE d_Mo_lay_1 f_Mo_279 (by assumption) (by rfl) ?_
  rw [hx]
  refine cx_iconst (v := 3) hE d_Mo_lay_4 (by decide) ?_
  refine cx_iadd hE d_Mo_lay_5 ?_
  show cx_V E _ _ (.int (nI x + nI 3) :: _) _
  rw [nI_add]
  refine cx_aload_n (i := 0) hE d_Mo_lay_6 rfl rfl ?_
  refine cx_get hE d_Mo_lay_7 f_Mo_95 (by assumption) (by rfl) ?_
  refine cx_alen 1 hE d_Mo_lay_10 rfl (by assumption) rfl ?_
  refine cx_icmp_le (tgt := 61)  hE d_Mo_lay_11 (by decide) (fun c_11 => ?_) (fun c_11 => ?_)
  · have q_11 : x + 3 ≤ lc := nJ_le (by omega) c_11
    refine cx_sub [0, 1, 2, 3] rfl ?_
    exact htail G P M ⟨hm, rm_st2.rf _ _ _, hQ⟩ rfl (fun _ _ => rfl) (fun _ _ => rfl) rfl (by omega) rfl
  · have q_11 : lc < x + 3 := nJ_lt (by omega) c_11
    refine cx_iconst (v := 2) hE d_Mo_lay_14 (by decide) ?_
    refine cx_aload_n (i := 0) hE d_Mo_lay_15 rfl rfl ?_
    refine cx_get hE d_Mo_lay_16 f_Mo_95 (by assumption) (by rfl) ?_
    refine cx_alen 1 hE d_Mo_lay_19 rfl (by assumption) rfl ?_
    refine cx_imul hE d_Mo_lay_20 ?_
    show cx_V E _ _ (.int (nI 2 * nI lc) :: _) _
    rw [pk_mul]
    have q_l : lc + lc ≤ 262144 ∧ lc < 131072 := by omega
    refine cx_newa 1 (a0 := (2 * lc, .inl (fun _ => 0))) (N' := 2 * lc) hE d_Mo_lay_21 (in_7 (List.mem_of_getElem? (i := 30) rfl)) rfl rfl (fun _ => rfl) (nI_pos (by omega)) (nI_clamp (by omega)) (by show 2 * lc * 4 ≤ _; omega) (by show _ ≤ 601024; omega) (by show _ ≤ 7293034; omega) (fun a_21 n_21 b_21 => ?_)
    refine cx_gen (fun G_21 g_21 => ?_)
    have h_21 := cx_ms g_21
    have u_21 := cx_mc g_21
    have x_21 : ∀ c e, G.1 c = some e → G_21.1 c = some e := fun c e q => cx_mn g_21 n_21 q
    have hmo21 := x_21 _ _ hmo
    have h4121 := x_21 _ _ h41
    refine cx_astore hE d_Mo_lay_23 (by decide) ?_
    refine cx_iconst (v := 0) hE d_Mo_lay_25 (by decide) ?_
    refine cx_istore hE d_Mo_lay_26 (by decide) ?_
    have hloop : ∀ (d t : Nat) (g : Nat → Int32) (Gt : cx_G), x - t = d → t ≤ x → (∀ j, j < t → g j = M.2.1 41 j) → Gt.2 = G_21.2 → (∀ c e, G.1 c = some e → Gt.1 c = some e) → Gt.1 a_21 = some (.inl (k.2.1 1, 2 * lc, .inl g)) → cx_V E 28 [(5, false, .int (nI t)), (4, false, .ref a_21), (0, false, .ref mo), (1, false, .int u), (2, false, .int v), (3, false, .int w)] [] Gt := by
      intro d
      induction d using Nat.strongRecOn with
      | ind d ih =>
        intro t g Gt hd ht hg hGt xt hat
        have hmot := xt _ _ hmo
        have h41t := xt _ _ h41
        refine cx_iload hE d_Mo_lay_28 rfl ?_
        refine cx_aload_n (i := 0) hE d_Mo_lay_30 rfl rfl ?_
        refine cx_get hE d_Mo_lay_31 f_Mo_279 (by assumption) (by rfl) ?_
        rw [hx]
        refine cx_icmp_ge (tgt := 55)  hE d_Mo_lay_34 (by decide) (fun c_34 => ?_) (fun c_34 => ?_)
        · have q_34 : t = x := by have := nJ_le (by omega) c_34; omega
          subst q_34
          refine cx_aload_n (i := 0) hE d_Mo_lay_55 rfl rfl ?_
          refine cx_aload hE d_Mo_lay_56 rfl ?_
          refine cx_putg hE d_Mo_lay_58 f_Mo_95 (by assumption) (Nat.le_of_ble_eq_true rfl) (by first | rfl | exact cx_nr _ _) (by first | rfl | exact cx_fr _ _) (fun G_58 g_58 h_58 => ?_)
          rw [rm_s41] at g_58 h_58
          have m58 := hm.g41 n_21 xt hat g_58
          refine cx_sub [2, 3, 4, 5] rfl ?_
          refine htail G_58 _ _ ⟨m58.1, m58.2, ?_⟩ rfl (fun j hj => if_neg hj) (fun j hj => hg j hj) rfl (by show t + 3 ≤ 2 * lc; omega) rfl
          have e_g : G_58.2 = G_21.2 := (cx_pc g_58).trans hGt
          unfold rm_Q at hQ ⊢
          rw [e_g, u_21.1, u_21.2]
          show 256 * (G.2.1 + 1) + (262144 - 2 * lc) + (32768 - M.2.2.2.2) ≤ b.1 ∧ G.2.2 + 2 * lc + 2 * (262144 - 2 * lc) + 2 * (32768 - M.2.2.2.2) ≤ b.2 ∧ 4096 ≤ 2 * lc ∧ 2 * lc ≤ 262144 ∧ 256 ≤ M.2.2.2.2 ∧ M.2.2.2.2 ≤ 32768 ∧ b.1 ≤ 153862144 ∧ b.2 ≤ 7293034
          omega
        · have q_34 := nJ_lt (by omega) c_34
          refine cx_aload hE d_Mo_lay_37 rfl ?_
          refine cx_iload hE d_Mo_lay_39 rfl ?_
          refine cx_aload_n (i := 0) hE d_Mo_lay_41 rfl rfl ?_
          refine cx_get hE d_Mo_lay_42 f_Mo_95 (by assumption) (by rfl) ?_
          refine cx_iload hE d_Mo_lay_45 rfl ?_
          refine cx_iald 1 hE d_Mo_lay_47 rfl (by assumption) (vp_in_nI (by show _ < lc; omega) (by show lc < 2147483648; omega)) ?_
          rw [nI_clamp (by omega)]
          refine cx_iast 1 hE d_Mo_lay_48 rfl hat (vp_in_nI (by omega) (by omega)) ?_
          rw [nI_clamp (by omega)]
          refine cx_gen (fun G_48 g_48 => ?_)
          have h_48 := cx_ps g_48
          refine cx_iinc (v := nI (t + 1)) hE d_Mo_lay_49 rfl (nI_1 _) (by decide) ?_
          refine cx_goto (tgt := 28) hE d_Mo_lay_52 (by decide) ?_
          refine cx_sub [0, 1, 2, 3, 4, 5] rfl ?_
          exact ih (x - (t + 1)) (by omega) (t + 1) _ G_48 rfl (by omega) (fun j hj => by
            rcases Nat.lt_or_ge j t with z | z
            · rw [pk_un (by omega)]; exact hg j z
            · have : j = t := by omega
              rw [this, pk_us]) ((cx_pc g_48).trans hGt) (fun c e q => cx_pn g_48 (xt c e q) (fun z => by rw [z, n_21] at q; cases q)) h_48
    refine cx_sub [0, 1, 2, 3, 4, 5] rfl ?_
    exact hloop x 0 _ G_21 rfl (by omega) (fun j hj => by omega) rfl x_21 h_21
set_option maxRecDepth 100000 in
theorem c_Mo_keepNumber {k : cx_K} {l : Launch} {G : cx_G} {mo : Nat} {P : Nat → Nat} {M : rm_M} (hm : rm_R k G mo P M) {b : Nat × Nat} (hQ : rm_Q b G M) {y : Nat} (hy : M.1 44 = nI y) (hyl : y ≤ M.2.2.2.2) (hy3 : y ≤ 16384) {v : Int64}  : cx_Sp k l m_Mo_keepNumber 0 [.ref mo, .long v] G (rm_knp k mo b G P M y) := by
  intro E hE
  have hmo := hm.1
  have h43 := hm.l 43 rfl
  obtain ⟨ln, hln⟩ : ∃ ln, ln = M.2.2.2.2 := ⟨_, rfl⟩
  have hQ2 := hQ
  unfold rm_Q at hQ2
  rw [← hln] at hQ2 hyl
  change G.1 (P 43) = some (.inl (k.2.1 2, M.2.2.2.2, .inr (.inl (M.2.2.1 43)))) at h43
  rw [← hln] at h43
  have htail : ∀ (G1 : cx_G) (P1 : Nat → Nat) (M1 : rm_M), rm_W k mo b G P G1 P1 M1 → M1.1 = M.1 → M1.2.1 = M.2.1 → (∀ j, j ≠ 43 → M1.2.2.1 j = M.2.2.1 j) → M1.2.2.2.1 = M.2.2.2.1 → y + 1 ≤ M1.2.2.2.2 → cx_V E 55 [(0, false, .ref mo), (1, true, .long v)] [] G1 := by
    intro G1 P1 M1 hW e1 e2 e3 e4 e5
    obtain ⟨r1, s1, Q1⟩ := hW
    have hm1 := r1.1
    have hx1 : M1.1 44 = nI y := by rw [e1]; exact hy
    have hlim := Q1.2.2.2.2.2.1
    refine cx_aload_n (i := 0) hE d_Mo_keepNumber_55 rfl rfl ?_
    refine cx_get hE d_Mo_keepNumber_56 f_Mo_98 (by assumption) (by rfl) ?_
    refine cx_aload_n (i := 0) hE d_Mo_keepNumber_59 rfl rfl ?_
    refine cx_get hE d_Mo_keepNumber_60 f_Mo_282 (by assumption) (by rfl) ?_
    rw [hx1]
    refine cx_lload_n (i := 1) hE d_Mo_keepNumber_63 rfl rfl ?_
    refine cx_last 2 hE d_Mo_keepNumber_64 rfl (r1.l 43 rfl) (vp_in_nI (by show _ < M1.2.2.2.2; omega) (by show M1.2.2.2.2 < 2147483648; omega)) ?_
    rw [nI_clamp (by omega)]
    refine cx_gen (fun G_64 g_64 => ?_)
    have m64 := r1.sl 43 rfl g_64
    have om64 := m64.1.1
    refine cx_aload_n (i := 0) hE d_Mo_keepNumber_65 rfl rfl ?_
    refine cx_dup hE d_Mo_keepNumber_66 ?_
    refine cx_get hE d_Mo_keepNumber_67 f_Mo_282 (by assumption) (by rfl) ?_
    rw [hx1]
    refine cx_iconst (v := 1) hE d_Mo_keepNumber_70 (by decide) ?_
    refine cx_iadd hE d_Mo_keepNumber_71 ?_
    show cx_V E _ _ [.int (nI y + 1), .ref mo] _
    rw [nI_1]
    refine cx_putg hE d_Mo_keepNumber_72 f_Mo_282 (by assumption) (Nat.le_of_ble_eq_true rfl) (by first | rfl | exact cx_nr _ _) (by first | rfl | exact cx_fr _ _) (fun G_72 g_72 h_72 => ?_)
    rw [rm_s44] at g_72 h_72
    have m72 := m64.1.pi g_72
    refine cx_aload_n (i := 0) hE d_Mo_keepNumber_75 rfl rfl ?_
    refine cx_get hE d_Mo_keepNumber_76 f_Mo_282 (by assumption) (by rfl) ?_
    show cx_V E _ _ (.int (nI (y + 1)) :: _) _
    refine cx_iconst (v := 1) hE d_Mo_keepNumber_79 (by decide) ?_
    refine cx_isub hE d_Mo_keepNumber_80 ?_
    rw [nI_pred]
    refine cx_iret hE d_Mo_keepNumber_81 rfl rfl ?_
    refine ⟨P1, _, rfl, ⟨m72.1, s1.tr (m64.2.tr m72.2).s2, Q1.eq ((cx_pc g_72).trans (cx_pc g_64)) rfl⟩, ?_, e2, fun j hj => ?_, e4, e5⟩
    · show va_up M1.1 44 _ = _
      rw [e1]
    · show (if j = 43 then _ else M1.2.2.1 j) = _
      rw [if_neg hj]
      exact e3 j hj
  refine cx_aload_n (i := 0) hE d_Mo_keepNumber_0 rfl rfl ?_
  refine cx_get hE d_Mo_keepNumber_1 f_Mo_282 (by assumption) (by rfl) ?_
  rw [hy]
  refine cx_aload_n (i := 0) hE d_Mo_keepNumber_4 rfl rfl ?_
  refine cx_get hE d_Mo_keepNumber_5 f_Mo_98 (by assumption) (by rfl) ?_
  refine cx_alen 2 hE d_Mo_keepNumber_8 rfl (by assumption) rfl ?_
  refine cx_icmp_ne (tgt := 55)  hE d_Mo_keepNumber_9 (by decide) (fun c_9 => ?_) (fun c_9 => ?_)
  · have q_9 : ¬ y = ln := fun z => c_9 (by rw [z]; rfl)
    refine cx_sub [0, 1] rfl ?_
    exact htail G P M ⟨hm, rm_st2.rf _ _ _, hQ⟩ rfl rfl (fun _ _ => rfl) rfl (by omega)
  · have q_9 : y = ln := (nI_eq (by omega) (by omega)).mp c_9
    refine cx_iconst (v := 2) hE d_Mo_keepNumber_12 (by decide) ?_
    refine cx_aload_n (i := 0) hE d_Mo_keepNumber_13 rfl rfl ?_
    refine cx_get hE d_Mo_keepNumber_14 f_Mo_282 (by assumption) (by rfl) ?_
    refine cx_imul hE d_Mo_keepNumber_17 ?_
    have q_l : ln + ln ≤ 32768 := by omega
    rw [hy]
    show cx_V E _ _ (.int (nI 2 * nI y) :: _) _
    rw [pk_mul]
    refine cx_newa 2 (a0 := (2 * y, .inr (.inl (fun _ => 0)))) (N' := 2 * y) hE d_Mo_keepNumber_18 (in_7 (List.mem_of_getElem? (i := 31) rfl)) rfl rfl (fun _ => rfl) (nI_pos (by omega)) (nI_clamp (by omega)) (by show 2 * y * 8 ≤ _; omega) (by show _ ≤ 601024; omega) (by show _ ≤ 7293034; omega) (fun a_18 n_18 b_18 => ?_)
    refine cx_gen (fun G_18 g_18 => ?_)
    have h_18 := cx_ms g_18
    have u_18 := cx_mc g_18
    have x_18 : ∀ c e, G.1 c = some e → G_18.1 c = some e := fun c e q => cx_mn g_18 n_18 q
    have hmo18 := x_18 _ _ hmo
    have h4318 := x_18 _ _ h43
    refine cx_astore_n (i := 3) hE d_Mo_keepNumber_20 rfl (by decide) ?_
    refine cx_iconst (v := 0) hE d_Mo_keepNumber_21 (by decide) ?_
    refine cx_istore hE d_Mo_keepNumber_22 (by decide) ?_
    have hloop : ∀ (d t : Nat) (g : Nat → Int64) (Gt : cx_G), y - t = d → t ≤ y → Gt.2 = G_18.2 → (∀ c e, G.1 c = some e → Gt.1 c = some e) → Gt.1 a_18 = some (.inl (k.2.1 2, 2 * y, .inr (.inl g))) → cx_V E 24 [(4, false, .int (nI t)), (3, false, .ref a_18), (0, false, .ref mo), (1, true, .long v)] [] Gt := by
      intro d
      induction d using Nat.strongRecOn with
      | ind d ih =>
        intro t g Gt hd ht hGt xt hat
        have hmot := xt _ _ hmo
        have h43t := xt _ _ h43
        refine cx_iload hE d_Mo_keepNumber_24 rfl ?_
        refine cx_aload_n (i := 0) hE d_Mo_keepNumber_26 rfl rfl ?_
        refine cx_get hE d_Mo_keepNumber_27 f_Mo_282 (by assumption) (by rfl) ?_
        rw [hy]
        refine cx_icmp_ge (tgt := 50)  hE d_Mo_keepNumber_30 (by decide) (fun c_30 => ?_) (fun c_30 => ?_)
        · have q_34 : t = y := by have := nJ_le (by omega) c_30; omega
          subst q_34
          refine cx_aload_n (i := 0) hE d_Mo_keepNumber_50 rfl rfl ?_
          refine cx_aload_n (i := 3) hE d_Mo_keepNumber_51 rfl rfl ?_
          refine cx_putg hE d_Mo_keepNumber_52 f_Mo_98 (by assumption) (Nat.le_of_ble_eq_true rfl) (by first | rfl | exact cx_nr _ _) (by first | rfl | exact cx_fr _ _) (fun G_52 g_52 h_52 => ?_)
          rw [rm_s43] at g_52 h_52
          have m52 := hm.g43 n_18 xt hat g_52
          refine cx_sub [2, 3] rfl ?_
          refine htail G_52 _ _ ⟨m52.1, m52.2, ?_⟩ rfl rfl (fun j hj => if_neg hj) rfl (by show t + 1 ≤ 2 * t; omega)
          have e_g : G_52.2 = G_18.2 := (cx_pc g_52).trans hGt
          unfold rm_Q at hQ ⊢
          rw [e_g, u_18.1, u_18.2]
          show 256 * (G.2.1 + 1) + (262144 - M.2.2.2.1) + (32768 - 2 * t) ≤ b.1 ∧ G.2.2 + 2 * t + 2 * (262144 - M.2.2.2.1) + 2 * (32768 - 2 * t) ≤ b.2 ∧ 4096 ≤ M.2.2.2.1 ∧ M.2.2.2.1 ≤ 262144 ∧ 256 ≤ 2 * t ∧ 2 * t ≤ 32768 ∧ b.1 ≤ 153862144 ∧ b.2 ≤ 7293034
          omega
        · have q_34 := nJ_lt (by omega) c_30
          refine cx_aload_n (i := 3) hE d_Mo_keepNumber_33 rfl rfl ?_
          refine cx_iload hE d_Mo_keepNumber_34 rfl ?_
          refine cx_aload_n (i := 0) hE d_Mo_keepNumber_36 rfl rfl ?_
          refine cx_get hE d_Mo_keepNumber_37 f_Mo_98 (by assumption) (by rfl) ?_
          refine cx_iload hE d_Mo_keepNumber_40 rfl ?_
          refine cx_lald 2 hE d_Mo_keepNumber_42 rfl (by assumption) (vp_in_nI (by show _ < ln; omega) (by show ln < 2147483648; omega)) ?_
          rw [nI_clamp (by omega)]
          refine cx_last 2 hE d_Mo_keepNumber_43 rfl hat (vp_in_nI (by omega) (by omega)) ?_
          rw [nI_clamp (by omega)]
          refine cx_gen (fun G_48 g_48 => ?_)
          have h_48 := cx_ps g_48
          refine cx_iinc (v := nI (t + 1)) hE d_Mo_keepNumber_44 rfl (nI_1 _) (by decide) ?_
          refine cx_goto (tgt := 24) hE d_Mo_keepNumber_47 (by decide) ?_
          refine cx_sub [0, 1, 2, 3] rfl ?_
          exact ih (y - (t + 1)) (by omega) (t + 1) _ G_48 rfl (by omega) ((cx_pc g_48).trans hGt) (fun c e q => cx_pn g_48 (xt c e q) (fun z => by rw [z, n_18] at q; cases q)) h_48
    refine cx_sub [0, 1, 2, 3] rfl ?_
    exact hloop y 0 _ G_18 rfl (by omega) rfl x_18 h_18

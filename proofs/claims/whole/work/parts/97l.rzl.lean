/-! THE SECOND PASS: modules. -/
/-- between two modules -/
def rz_T (n : Nat) (T : List tx_Tk) (M0 M : rm_M) (s : tx_S) (i p : Nat) : Prop := rz_f M0 M ∧ rm_T n T M ∧ (∃ LO LI FS FA LK, M.1 12 = nI s.2.1.length ∧ M.1 18 = nI LO ∧ M.1 27 = nI LI ∧ M.1 35 = nI FS ∧ M.1 38 = nI FA ∧ M.1 31 = nI LK ∧ LO ≤ i ∧ LI ≤ i ∧ 2 * FS ≤ i ∧ 6 * FA ≤ i ∧ LK ≤ i ∧ 3 * s.2.1.length ≤ i ∧ (∀ (j : Nat) (v : tx_U), s.2.1[j]? = some v → rt_F T M LO LI j v) ∧ rt_uf s ∧ (s.2.2.1 = none ∧ ∀ X (x : Nat × Nat), s.2.2.2.2 X = some x → x.1 < s.2.1.length) ∧ (0 < s.2.1.length → M.2.1 14 s.2.1.length = M.1 18 ∧ M.2.1 15 s.2.1.length = M.1 27 ∧ M.2.1 16 s.2.1.length = M.1 35 ∧ M.2.1 17 s.2.1.length = M.1 38)) ∧ rx_c i p M ∧ M.1 8 = nI i ∧ i < T.length ∧ M.1 9 = 0 ∧ s.1.1 = 0 ∧ rx_k 61 M
/-- behind a fault, at the end -/
def rz_E (M0 M : rm_M) (e : Int32 × Int32) : Prop := rz_f M0 M ∧ M.1 9 = e.1 ∧ M.1 10 = e.2 ∧ e.1 ≠ 0
section RZL
variable {n N : Nat} {T : List tx_Tk} {s s1 : tx_S} {M0 M M' : rm_M} {u : tx_U} {lo li fa a fs b5 lk i i' p b I f c dp : Nat} {e v : Int32 × Int32}
theorem rz_D.E (h : rz_D M0 M e b) : rz_E M0 M e := ⟨h.1, h.2.1, h.2.2.1, h.2.2.2.1⟩
/-- what a module's end does -/
def rp_mE (M : rm_M) (mc : Nat) : rm_M := rp_fst (rp_int (rp_lset (rp_i M 1) 56 mc (M.2.2.1 45 mc)) 12 (nI (mc + 1))) (mc + 1)
def rp_kE (K : rm_M → Prop) (M : rm_M) : Prop := ∃ mc, M.1 12 = nI mc ∧ mc < 3600 ∧ K (rp_mE M mc)
def rp_kD (N : Nat) (K : rm_M → Prop) (M : rm_M) : Prop := ∃ mc, M.1 12 = nI mc ∧ mc < 3600 ∧ rp_drn (rp_kE K) N (M.2.1 14 mc) M
theorem rz_mE_f (M : rm_M) (mc : Nat) : rz_f M (rp_mE M mc) := by
  constructor
  · intro j hj
    show va_up (va_up M.1 8 (M.1 8 + 1)) 12 (nI (mc + 1)) j = _
    rw [va_up_ne _ _ (by omega), va_up_ne _ _ (by omega)]
  · intro j hj
    show va_up (va_up (va_up (va_up M.2.1 14 _) 15 _) 16 _) 17 _ j = _
    rw [va_up_ne _ _ (by omega), va_up_ne _ _ (by omega), va_up_ne _ _ (by omega), va_up_ne _ _ (by omega)]
theorem rz_D.kE {K : rm_M → Prop} (h : rz_D M0 M e b) (hK : ∀ M', rz_E M0 M' e → K M') : rp_kE K M := by
  obtain ⟨a1, a2, a3, a4, a5, mc, a7, a8⟩ := h
  exact ⟨mc, a8, a7, hK _ ⟨a1.tr (rz_mE_f M mc), a2, a3, a4⟩⟩
theorem rz_D.kD {K : rm_M → Prop} (hN : 0 < N) (h : rz_D M0 M e b) (hK : ∀ M', rz_E M0 M' e → K M') : rp_kD N K M := by
  have hk := h.kE hK
  obtain ⟨a1, a2, a3, a4, a5, mc, a7, a8⟩ := h
  refine ⟨mc, a8, a7, ?_⟩
  obtain ⟨N, rfl⟩ : ∃ N1, N = N1 + 1 := ⟨N - 1, by omega⟩
  unfold rp_drn
  split
  · rw [if_neg (by rw [a2]; exact a4)]; exact hk
  · exact hk
theorem rz_D.its' {K : rm_M → Prop} (hN : 0 < N) (h : rz_D M0 M e b) (hK : ∀ M', rz_E M0 M' e → K M') : rp_its N (rp_kD N K) N M := by
  have hk := h.kD hN hK
  have h9 := h.n9
  unfold rp_its
  cases N with
  | zero => omega
  | succ N =>
    show (if M.1 9 = 0 then _ else _)
    rw [if_neg h9]
    exact hk
/-- which module a text names -/
theorem rz_T.mo (h : rz_T n T M0 M s i p) {x : Nat} {X : List Int32} (hX : (tx_ta T x).2.2.2.1 = some X) : (rm_sN T (M.2.1 13) x 0 s.2.1.length = none ∧ s.mo (some X) = none) ∨ ∃ j, rm_sN T (M.2.1 13) x 0 s.2.1.length = some j ∧ s.mo (some X) = some j ∧ j < s.2.1.length := by
  have hl := h.2.1.len
  have hn := h.2.1.2.1
  obtain ⟨-, -, ⟨LO, LI, FS, FA, LK, h12, h18, h27, h35, h38, h31, b1, b2, b3, b4, b5, b6, hF, hu, hdf, -⟩, -⟩ := h
  have htx : ∀ j (v : tx_U), s.2.1[j]? = some v → (tx_ta T (M.2.1 13 j).toNatClampNeg).2.2.2.1 = v.1 := by
    intro j v hv
    obtain ⟨⟨y, y1, y2, y3, y4, y5⟩, -⟩ := hF j v hv
    rw [y1, nI_clamp (by omega), y4]
  cases hm : s.mo (some X) with
  | none =>
    refine Or.inl ⟨rm_sN_none (fun j _ hj => ?_), rfl⟩
    have hv : s.2.1[j]? = some s.2.1[j] := List.getElem?_eq_getElem (by omega)
    rw [htx j _ hv, hX]
    intro q
    obtain ⟨X', e1, e2⟩ := hu.1 j _ hv
    rw [q] at e1
    cases e1
    have : s.mo (some X) = some j := e2
    rw [this] at hm
    cases hm
  | some j =>
    obtain ⟨v, v1, v2⟩ := hu.2.1 X j hm
    have hj := tx_len v1
    refine Or.inr ⟨j, rm_sN_some (Nat.zero_le _) (by omega) (by rw [htx j v v1, v2, hX]) (fun j' _ hj' => ?_), rfl, hj⟩
    have hv' : s.2.1[j']? = some s.2.1[j'] := List.getElem?_eq_getElem (by omega)
    rw [htx j' _ hv', hX]
    intro q
    obtain ⟨X', e1, e2⟩ := hu.1 j' _ hv'
    rw [q] at e1
    cases e1
    have e3 : s.mo (some X) = some j' := e2
    rw [e3] at hm
    cases hm
    omega
/-- a module begins -/
theorem rz_T.bu (h : rz_T n T M0 M s i p) (hi3 : i + 3 < T.length) (k19 : tx_ki T (i + 1) = 19) (hmo : s.mo (tx_ta T (i + 1)).2.2.2.1 = none) : rz_L n T 2 M0 (rp_i (rp_lset (rp_fst (rp_set (rp_i M 1) 13 s.2.1.length (M.1 8 + 1)) s.2.1.length) 45 s.2.1.length 0) 2) (s.bu (tx_ta T (i + 1))) (i + 3) p := by
  have hl := h.2.1.len
  have hn := h.2.1.2.1
  obtain ⟨h1, h2, ⟨LO, LI, FS, FA, LK, h12, h18, h27, h35, h38, h31, b1, b2, b3, b4, b5, b6, hF, hu, hdf, hrw⟩, h10, h11, h12', h13, h14, h15⟩ := h
  have hz : rz_f M (rp_i (rp_lset (rp_fst (rp_set (rp_i M 1) 13 s.2.1.length (M.1 8 + 1)) s.2.1.length) 45 s.2.1.length 0) 2) := by
    constructor
    · intro j hj
      show va_up (va_up M.1 8 (M.1 8 + 1)) 8 _ j = _
      rw [va_up_ne _ _ (by omega), va_up_ne _ _ (by omega)]
    · intro j hj
      show va_up (va_up (va_up (va_up (va_up M.2.1 13 _) 14 _) 15 _) 16 _) 17 _ j = _
      rw [va_up_ne _ _ (by omega), va_up_ne _ _ (by omega), va_up_ne _ _ (by omega), va_up_ne _ _ (by omega), va_up_ne _ _ (by omega)]
  generalize hM1 : rp_i (rp_lset (rp_fst (rp_set (rp_i M 1) 13 s.2.1.length (M.1 8 + 1)) s.2.1.length) 45 s.2.1.length 0) 2 = M1 at *
  have i1 : ∀ j, j ≠ 8 → M1.1 j = M.1 j := fun j d => by
    rw [← hM1]
    show va_up (va_up M.1 8 (M.1 8 + 1)) 8 _ j = _
    rw [va_up_ne _ _ d, va_up_ne _ _ d]
  have r1 : ∀ j, j ≠ 13 → j ≠ 14 → j ≠ 15 → j ≠ 16 → j ≠ 17 → M1.2.1 j = M.2.1 j := fun j d1 d2 d3 d4 d5 => by
    rw [← hM1]
    show va_up (va_up (va_up (va_up (va_up M.2.1 13 _) 14 _) 15 _) 16 _) 17 _ j = _
    rw [va_up_ne _ _ d5, va_up_ne _ _ d4, va_up_ne _ _ d3, va_up_ne _ _ d2, va_up_ne _ _ d1]
  have rl : ∀ j, j = 13 ∨ j = 14 ∨ j = 15 ∨ j = 16 ∨ j = 17 → ∀ x, x ≠ s.2.1.length → M1.2.1 j x = M.2.1 j x := fun j hj x d => by
    rw [← hM1]
    rcases hj with rfl | rfl | rfl | rfl | rfl <;> exact pk_un d
  have s13 : M1.2.1 13 s.2.1.length = nI (i + 1) := by
    rw [← hM1]
    show upd (M.2.1 13) s.2.1.length (M.1 8 + 1) s.2.1.length = _
    rw [pk_us, h11, nI_1]
  have s14 : M1.2.1 14 s.2.1.length = nI LO := by
    rw [← hM1]
    exact pk_us.trans h18
  have s15 : M1.2.1 15 s.2.1.length = nI LI := by
    rw [← hM1]
    exact pk_us.trans h27
  have s16 : M1.2.1 16 s.2.1.length = nI FS := by
    rw [← hM1]
    exact pk_us.trans h35
  have s17 : M1.2.1 17 s.2.1.length = nI FA := by
    rw [← hM1]
    exact pk_us.trans h38
  have l45 : M1.2.2.1 45 s.2.1.length = 0 := by
    rw [← hM1]
    exact pk_uLs
  have l1 : ∀ j, j ≠ 45 → M1.2.2.1 j = M.2.2.1 j := fun j d => by
    rw [← hM1]
    exact va_up_ne _ _ d
  have em : rx_m M1 = s.2.1.length := by
    unfold rx_m
    rw [i1 12 (by decide), h12, nI_clamp (by omega)]
  refine ⟨h1.tr hz, hz.tt h2, ⟨tx_ub (tx_ta T (i + 1)), LO, LI, FA, 0, FS, 0, LK, 0, ⟨⟨rfl, ?_, by show s.2.1.length < 3600; omega, s14, s15, ?_, ?_, ?_, ?_, ?_⟩, ⟨s17, rfl, by omega, ?_⟩, ?_, by omega, ?_, ?_, ?_, s16, ?_, rfl, by omega, ?_, by omega, ?_, ⟨⟨0, rfl, rfl⟩, rfl, rfl, ⟨fun _ q r hq => by simp [tx_ub] at hq, fun q q' r r' hq => by simp [tx_ub] at hq⟩⟩, ⟨i + 1, s13, by omega, k19, rfl, rfl⟩, by show 3 * s.2.1.length + 3 ≤ i + 3; omega, ?_, ⟨hu.1, hu.2.1, hu.2.2.1, fun u' X hu' hX => ?_, ⟨fun j v q r x hv hr hx => ?_, fun u' q r hu' hq => ?_⟩⟩⟩, ?_, by omega, rfl⟩, ?_, ?_, hi3, ?_, h14, ?_⟩
  · show M1.1 12 = _
    rw [i1 12 (by decide)]; exact h12
  · rw [i1 18 (by decide)]; exact h18
  · show LO + 0 ≤ 11000
    omega
  · intro q r hq
    simp [tx_ub] at hq
  · intro q r hq
    simp [tx_ub] at hq
  · intro X q hq
    have := hdf.2 X _ hq
    exact absurd this (Nat.lt_irrefl _)
  · intro q r hq
    simp [tx_ub] at hq
  · rw [i1 38 (by decide)]; exact h38
  · rw [i1 27 (by decide)]; exact h27
  · show LI + 0 ≤ i + 3
    omega
  · show LO + 0 ≤ i + 3
    omega
  · rw [i1 35 (by decide)]; exact h35
  · rw [i1 31 (by decide)]; exact h31
  · intro q r hq
    simp [tx_ub] at hq
  · intro j w hw
    refine (hF j w hw).to (mc := s.2.1.length) (tx_len hw) ⟨fun x hx => rl 13 (by simp) x (by omega), fun r hr x hx => ?_, fun r hr x _ => by rw [r1 r (by omega) (by omega) (by omega) (by omega) (by omega)], fun r hr x _ => by rw [r1 r (by omega) (by omega) (by omega) (by omega) (by omega)], fun x _ => by rw [l1 22 (by decide)], fun x _ => by rw [l1 56 (by decide)]⟩ (Nat.le_refl _) (Nat.le_refl _)
    by_cases z : x = s.2.1.length
    · have hw2 : s.2.1[j]? = some w := hw
      have hp : 0 < s.2.1.length := by have := tx_len hw2; omega
      obtain ⟨q1, q2, q3, q4⟩ := hrw hp
      rw [z]
      rcases hr with rfl | rfl | rfl | rfl
      · rw [s14, q1, h18]
      · rw [s15, q2, h27]
      · rw [s16, q3, h35]
      · rw [s17, q4, h38]
    · exact rl r (by omega) x z
  · have hu2 : some (tx_ub (tx_ta T (i + 1))) = some u' := hu'
    cases hu2
    have hX' : (tx_ta T (i + 1)).2.2.2.1 = some X := hX
    rw [hX'] at hmo
    exact hmo
  · left
    have hv' : s.2.1[j]? = some v := hv
    rcases hu.2.2.2.2.1 j v q r x hv' hr hx with z | ⟨z1, z2⟩
    · exact z
    · unfold tx_S.uu at z2
      rw [hdf.1] at z2
      exact absurd z2 (Nat.not_lt_zero _)
  · have hu2 : some (tx_ub (tx_ta T (i + 1))) = some u' := hu'
    cases hu2
    simp [tx_ub] at hq
  · rw [em]; exact l45
  · exact (h10.to (i1 42 (by decide)) (i1 44 (by decide)) (by rw [← hM1]; rfl) : rx_c i p M1).le (by omega) (by omega) (by omega)
  · rw [← hM1]
    show M.1 8 + 1 + 2 = _
    rw [h11, nI_1]
    exact nI_add (i + 1) 2
  · rw [i1 9 (by decide)]; exact h13
  · unfold rx_k rx_w rx_b at h15 ⊢
    rw [i1 48 (by decide), i1 50 (by decide)]
    exact h15
/-- a module ends -/
theorem rz_L.fu (h : rz_L n T 0 M0 M s i p) (k2 : tx_ki T i = 2) : rz_T n T M0 (rp_mE M s.2.1.length) s.fu (i + 1) p := by
  have hl := h.len
  have hends := h.ends
  have h0 := h
  obtain ⟨H1, H2, ⟨U, LO, LI, FA, A, FS, B5, LK, C, H3, H7, H8, H9⟩, H10, H11, H12, H13, H14, H15⟩ := h0
  obtain ⟨u1, u2, u3, u4, u5, u6, u7, u8, u9, u10, u11, u12, u13, u14, u15, u16, u17, u18, u19⟩ := H3
  have hi1 := hends i H12 (by rw [k2]; decide) (by rw [k2]; decide)
  have euu : s.uu = U := by
    unfold tx_S.uu
    rw [u1.1]
    rfl
  have hz := rz_mE_f M s.2.1.length
  generalize hM1 : rp_mE M s.2.1.length = M1 at *
  have i1 : ∀ j, j ≠ 8 → j ≠ 12 → M1.1 j = M.1 j := fun j d1 d2 => by
    rw [← hM1]
    show va_up (va_up M.1 8 (M.1 8 + 1)) 12 _ j = _
    rw [va_up_ne _ _ d2, va_up_ne _ _ d1]
  have r1 : ∀ j, j ≠ 14 → j ≠ 15 → j ≠ 16 → j ≠ 17 → M1.2.1 j = M.2.1 j := fun j d2 d3 d4 d5 => by
    rw [← hM1]
    show va_up (va_up (va_up (va_up M.2.1 14 _) 15 _) 16 _) 17 _ j = _
    rw [va_up_ne _ _ d5, va_up_ne _ _ d4, va_up_ne _ _ d3, va_up_ne _ _ d2]
  have rl : ∀ j, j = 14 ∨ j = 15 ∨ j = 16 ∨ j = 17 → ∀ x, x ≠ s.2.1.length + 1 → M1.2.1 j x = M.2.1 j x := fun j hj x d => by
    rw [← hM1]
    rcases hj with rfl | rfl | rfl | rfl <;> exact pk_un d
  have s14 : M1.2.1 14 (s.2.1.length + 1) = M.1 18 := by
    rw [← hM1]
    exact pk_us
  have s15 : M1.2.1 15 (s.2.1.length + 1) = M.1 27 := by
    rw [← hM1]
    exact pk_us
  have s16 : M1.2.1 16 (s.2.1.length + 1) = M.1 35 := by
    rw [← hM1]
    exact pk_us
  have s17 : M1.2.1 17 (s.2.1.length + 1) = M.1 38 := by
    rw [← hM1]
    exact pk_us
  have l56 : M1.2.2.1 56 s.2.1.length = M.2.2.1 45 s.2.1.length := by
    rw [← hM1]
    exact pk_uLs
  have l1 : ∀ x, x ≠ s.2.1.length → M1.2.2.1 56 x = M.2.2.1 56 x := fun x d => by
    rw [← hM1]
    exact pk_uLn d
  have l22 : M1.2.2.1 22 = M.2.2.1 22 := by
    rw [← hM1]
    rfl
  have em : rx_m M = s.2.1.length := by
    unfold rx_m
    rw [u1.2.1, nI_clamp (by omega)]
  have hlen : s.fu.2.1.length = s.2.1.length + 1 := by
    show (s.2.1 ++ [s.uu]).length = _
    rw [List.length_append]
    rfl
  have hpre : rt_pre s.2.1.length LO LI M M1 := ⟨fun x _ => by rw [r1 13 (by decide) (by decide) (by decide) (by decide)], fun r hr x hx => rl r (by omega) x (by omega), fun r hr x _ => by rw [r1 r (by omega) (by omega) (by omega) (by omega)], fun r hr x _ => by rw [r1 r (by omega) (by omega) (by omega) (by omega)], fun x _ => by rw [l22], fun x hx => l1 x (by omega)⟩
  have gx : ∀ (j : Nat) (w : tx_U), s.fu.2.1[j]? = some w → (j < s.2.1.length ∧ s.2.1[j]? = some w) ∨ (j = s.2.1.length ∧ w = U) := by
    intro j w hw
    have hw' : (s.2.1 ++ [s.uu])[j]? = some w := hw
    rcases Nat.lt_trichotomy j s.2.1.length with z | z | z
    · rw [List.getElem?_append_left z] at hw'
      exact Or.inl ⟨z, hw'⟩
    · subst z
      rw [List.getElem?_append_right (Nat.le_refl _), Nat.sub_self] at hw'
      cases hw'
      exact Or.inr ⟨rfl, euu⟩
    · rw [List.getElem?_eq_none (by simp; omega)] at hw'
      cases hw'
  have hx120 : rx_x M + p ≤ 12 * i := H10.2.2.1
  refine ⟨H1.tr hz, hz.tt H2, ⟨LO + U.2.2.1.countP rt_sg, LI + U.2.2.1.countP (fun r => !rt_sg r), FS + B5, FA + A, LK, ?_, ?_, ?_, ?_, ?_, ?_, by omega, by omega, by omega, by omega, by omega, by rw [hlen]; omega, fun j w hw => ?_, ⟨fun j w hw => ?_, fun X j hX => ?_, fun X x hX => ?_, fun w X hw _ => (by cases hw), ⟨fun j w q r x hw hr hx => ?_, fun w q r hw _ => (by cases hw)⟩⟩, ⟨rfl, fun X x hX => ?_⟩, fun _ => ?_⟩, ?_, ?_, hi1, ?_, H14, ?_⟩
  · rw [hlen, ← hM1]
    rfl
  · rw [i1 18 (by decide) (by decide)]; exact u1.2.2.2.2.2.1
  · rw [i1 27 (by decide) (by decide)]; exact u5
  · rw [i1 35 (by decide) (by decide)]; exact u9
  · rw [i1 38 (by decide) (by decide)]; exact u3
  · rw [i1 31 (by decide) (by decide)]; exact u12
  · rcases gx j w hw with ⟨z1, z2⟩ | ⟨z1, z2⟩
    · exact (u18 j w z2).to z1 hpre (by omega) (by omega)
    · subst z1 z2
      obtain ⟨y, y1, y2⟩ := u16
      refine ⟨⟨y, by rw [r1 13 (by decide) (by decide) (by decide) (by decide)]; exact y1, y2⟩, LO, LI, FS, FA, B5, A, C, i, ?_, ?_, ?_, ?_, ?_, ?_, ?_, ?_, Nat.le_refl _, Nat.le_refl _, by omega, by omega, u10, u2.2.1, ?_, by omega, H9, ?_, ?_, ?_, ?_, by omega⟩
      · rw [rl 14 (by simp) _ (by omega)]; exact u1.2.2.2.1
      · rw [rl 15 (by simp) _ (by omega)]; exact u1.2.2.2.2.1
      · rw [rl 16 (by simp) _ (by omega)]; exact u8
      · rw [rl 17 (by simp) _ (by omega)]; exact u2.1
      · rw [s14]; exact u1.2.2.2.2.2.1
      · rw [s15]; exact u5
      · rw [s16]; exact u9
      · rw [s17]; exact u3
      · rw [l56, ← em]; exact H7
      · exact u1.2.2.2.2.2.2.2.1.to (Nat.le_refl _) (Nat.le_refl _) (fun x hx k _ => by rw [r1 x (by omega) (by omega) (by omega) (by omega)]) (fun x hx k _ => by rw [r1 x (by omega) (by omega) (by omega) (by omega)]) (fun k _ => by rw [l22])
      · exact u14.to (Nat.le_refl _) (Nat.le_refl _) (fun k _ => by rw [r1 19 (by decide) (by decide) (by decide) (by decide)]) (fun k _ => by rw [r1 29 (by decide) (by decide) (by decide) (by decide)])
      · exact u15.to (Nat.le_refl _) (fun x hx k _ => by rw [r1 x (by omega) (by omega) (by omega) (by omega)])
      · intro q q' r r' hq hq' e
        obtain ⟨X, x1, x2⟩ := u1.2.2.2.2.2.2.2.2.1 q r hq
        obtain ⟨X', x3, x4⟩ := u1.2.2.2.2.2.2.2.2.1 q' r' hq'
        rw [e, x3] at x1
        cases x1
        rw [x2] at x4
        cases x4
        rfl
  · rcases gx j w hw with ⟨z1, z2⟩ | ⟨z1, z2⟩
    · obtain ⟨X, x1, x2⟩ := u19.1 j w z2
      refine ⟨X, x1, ?_⟩
      show (if s.uu.1 = some X then some s.2.1.length else s.2.2.2.1 X) = some j
      rw [if_neg (fun q => by
        rw [euu] at q
        have := u19.2.2.2.1 U X u1.1 q
        rw [x2] at this
        cases this)]
      exact x2
    · obtain ⟨y, y1, y2, y3, y4, y5⟩ := u16
      obtain ⟨X, hX⟩ := H2.nam y2 y3
      refine ⟨X, by rw [z2, ← y4]; exact hX, ?_⟩
      show (if s.uu.1 = some X then some s.2.1.length else s.2.2.2.1 X) = some j
      rw [if_pos (by rw [euu, ← y4]; exact hX), z1]
  · have hX' : (if s.uu.1 = some X then some s.2.1.length else s.2.2.2.1 X) = some j := hX
    by_cases z : s.uu.1 = some X
    · rw [if_pos z] at hX'
      cases hX'
      refine ⟨U, ?_, by rw [← euu]; exact z⟩
      show (s.2.1 ++ [s.uu])[s.2.1.length]? = _
      rw [List.getElem?_append_right (Nat.le_refl _), Nat.sub_self, euu]
      rfl
    · rw [if_neg z] at hX'
      obtain ⟨w, w1, w2⟩ := u19.2.1 X j hX'
      refine ⟨w, ?_, w2⟩
      show (s.2.1 ++ [s.uu])[j]? = _
      rw [List.getElem?_append_left (tx_len w1)]
      exact w1
  · have := u19.2.2.1 X x hX
    rw [hlen]
    omega
  · left
    rw [hlen]
    rcases gx j w hw with ⟨z1, z2⟩ | ⟨z1, z2⟩
    · rcases u19.2.2.2.2.1 j w q r x z2 hr hx with y | ⟨y, -⟩ <;> omega
    · subst z2
      rw [u19.2.2.2.2.2 w q r u1.1 hr] at hx
      cases hx
  · have := u19.2.2.1 X x hX
    rw [hlen]
    omega
  · rw [hlen, i1 18 (by decide) (by decide), i1 27 (by decide) (by decide), i1 35 (by decide) (by decide), i1 38 (by decide) (by decide)]
    exact ⟨s14, s15, s16, s17⟩
  · exact (H10.to (i1 42 (by decide) (by decide)) (i1 44 (by decide) (by decide)) (by rw [← hM1]; rfl) : rx_c i p M1).le (by omega) (by omega) (by omega)
  · rw [← hM1]
    show M.1 8 + 1 = _
    rw [H11, nI_1]
  · rw [i1 9 (by decide) (by decide)]; exact H13
  · unfold rx_k rx_w rx_b at H15 ⊢
    rw [i1 48 (by decide) (by decide), i1 50 (by decide) (by decide)]
    exact H15
end RZL

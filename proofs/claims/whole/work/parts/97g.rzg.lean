/-! THE SECOND PASS: ports, wires, registers. -/
section RZG
variable {n N : Nat} {T : List tx_Tk} {s s1 : tx_S} {M0 M M' : rm_M} {u : tx_U} {lo li fa a fs b5 lk i i' p b I f c dp : Nat} {e v : Int32 × Int32}
theorem rz_L.l18 (h : rz_L n T dp M0 M s i p) : ∃ k, M.1 18 = nI k ∧ k < 11000 := by
  have hl := h.len
  have hi := h.2.2.2.2.2.1
  obtain ⟨h1, h2, ⟨u, lo, li, fa, a, fs, b5, lk, c, h3, h7, h8, h9⟩, -⟩ := h
  exact ⟨_, h3.1.2.2.2.2.2.1, by have := h3.2.2.2.2.2.2.1; omega⟩
theorem rz_L.pnm {K : rm_M → Prop} {kd : Int32} {s' : tx_S} (h : rz_L n T dp M0 M s i p) (hR : tx_pnm T kd f i s = .inr ((), i', s')) (hne : ¬ tx_ki T i' = 61) (hkd : kd = 0 ∨ kd = 1 ∨ kd = 2 ∨ kd = 3 ∨ kd = 4) (hdp : dp = if kd < 3 then 2 else 0)
    (hK : ∀ M', rz_L n T (dp + if kd < 3 then 1 else 0) M0 M' s' i' p → i < i' → K M') (hD : ∀ M', s'.1.1 ≠ 0 → rz_D M0 M' s'.1 15010 → K M') : rp_rng (fun w M => rp_dcl kd w K M) M := by
  unfold tx_pnm at hR
  obtain ⟨w, i1, s1, hR1, hR⟩ := tx_and_r hR
  obtain ⟨k19, hR⟩ := tx_tka hR
  cases hR
  obtain ⟨k, e18, hk⟩ := h.l18
  refine h.rng hR1 (fun M1 e1 h1 i1le hw => ?_) (fun x M1 e1 h1 q18 => ?_)
  · subst e1
    exact h1.dcl k19 hne hw hkd hdp (fun M2 h2 => hK M2 h2 (by omega)) (fun M2 e2 h2 => hD M2 e2 (h2.le (by omega)))
  · have hfx : tx_fx s1.1 (tx_dcl (tx_ta T i1) kd w s1) := tx_fx.dcl (fun _ => rfl)
    have es := hfx e1
    refine h1.dcl (by omega) (q18.trans e18) hk (fun M2 h2 => ?_)
    rw [← es] at h2
    exact hD M2 (by rw [es]; exact e1) (h2.le (by omega))
theorem rz_L.rgs {K : rm_M → Prop} {kd : Int32} {s' : tx_S} (h : rz_L n T dp M0 M s i p) (hR : ((tx_rng T f i s).and fun w i s => (tx_tk T 19 i s).and fun t i s => if tx_ki T i = 61 then (tx_tk T 61 i (tx_dcl t kd w s)).and fun _ i s' => (tx_tk T 21 i s').and fun v i s' => .inr ((), i, tx_beg s.uu.2.2.1.length v s') else (.inr ((), i, tx_dcl t kd w s) : tx_R Unit)) = .inr ((), i', s')) (hkd : kd = 0 ∨ kd = 1 ∨ kd = 2 ∨ kd = 3 ∨ kd = 4) (hdp : dp = if kd < 3 then 2 else 0)
    (hK : ∀ M', rz_L n T (dp + if kd < 3 then 1 else 0) M0 M' s' i' p → i < i' → K M') (hD : ∀ M', s'.1.1 ≠ 0 → rz_D M0 M' s'.1 15010 → K M') : rp_rng (fun w M => rp_dcl kd w K M) M := by
  obtain ⟨w, i1, s1, hR1, hR2⟩ := tx_and_r hR
  obtain ⟨k19, hR3⟩ := tx_tka hR2
  obtain ⟨k, e18, hk⟩ := h.l18
  refine h.rng hR1 (fun M1 e1 h1 i1le hw => ?_) (fun x M1 e1 h1 q18 => ?_)
  · rw [e1] at hR3
    by_cases z : tx_ki T (i1 + 1) = 61
    · rw [if_pos z] at hR3
      obtain ⟨-, hR4⟩ := tx_tka hR3
      obtain ⟨k21, hR5⟩ := tx_tka hR4
      cases hR5
      exact h1.dclb k19 z k21 hw hkd hdp (fun M2 h2 => hK M2 h2 (by omega)) (fun M2 e2 h2 => hD M2 e2 h2)
    · rw [if_neg z] at hR3
      cases hR3
      exact h1.dcl k19 z hw hkd hdp (fun M2 h2 => hK M2 h2 (by omega)) (fun M2 e2 h2 => hD M2 e2 (h2.le (by omega)))
  · have es : s'.1 = s1.1 := by
      have hfx : tx_fx s1.1 (tx_dcl (tx_ta T i1) kd w s1) := tx_fx.dcl (fun _ => rfl)
      by_cases z : tx_ki T (i1 + 1) = 61
      · rw [if_pos z] at hR3
        obtain ⟨-, hR4⟩ := tx_tka hR3
        obtain ⟨k21, hR5⟩ := tx_tka hR4
        cases hR5
        exact (tx_fx.beg hfx) e1
      · rw [if_neg z] at hR3
        cases hR3
        exact hfx e1
    refine h1.dcl (by omega) (q18.trans e18) hk (fun M2 h2 => ?_)
    rw [← es] at h2
    exact hD M2 (by rw [es]; exact e1) (h2.le (by omega))
theorem rz_L.por {K : rm_M → Prop} {s' : tx_S} (h : rz_L n T 2 M0 M s i p) (hR : tx_por T f i s = .inr ((), i', s')) (hne : ¬ tx_ki T i' = 61)
    (hK : ∀ M', rz_L n T 2 M0 M' s' i' p → i < i' → K M') (hD : ∀ M', s'.1.1 ≠ 0 → rz_D M0 M' s'.1 15010 → K M') : rp_port K M := by
  unfold tx_por at hR
  obtain ⟨w1, i1, s1, hR1, hR⟩ := tx_and_r hR
  cases hR
  have ev : (s1.cu tx_pru).1 = s1.1 := rfl
  unfold rp_port
  refine h.kd (fun y hy => ?_)
  by_cases z3 : tx_ki T i = 3
  · rw [if_pos ((rm_kq hy (c := 302) (a := 3) (by decide)).mpr z3)]
    rw [if_pos z3] at hR1
    obtain ⟨-, hR1⟩ := tx_tka hR1
    have h1 := h.i1 (by rw [z3]; decide) (by rw [z3]; decide)
    exact (h1.le (p' := p) (by omega)).pnm (kd := 0) hR1 hne (Or.inl rfl) rfl (fun M1 h2 ilt => hK M1 (rz_L.pru h2) (by omega)) (fun M1 e1 h2 => hD M1 e1 h2)
  · rw [if_neg (fun q => z3 ((rm_kq hy (c := 302) (a := 3) (by decide)).mp q))]
    rw [if_neg z3] at hR1
    obtain ⟨k4, hR1⟩ := tx_tka hR1
    have h1 := h.i1 (by rw [k4]; decide) (by rw [k4]; decide)
    refine h1.kd (fun y2 hy2 => ?_)
    by_cases z6 : tx_ki T (i + 1) = 6
    · rw [if_pos ((rm_kq hy2 (c := 305) (a := 6) (by decide)).mpr z6)]
      rw [if_pos z6] at hR1
      unfold tx_rgs at hR1
      obtain ⟨-, hR1⟩ := tx_tka hR1
      have h2 := h1.i1 (by rw [z6]; decide) (by rw [z6]; decide)
      exact (h2.le (p' := p) (by omega)).rgs (kd := 2) hR1 (by simp) rfl (fun M1 h2 ilt => hK M1 (rz_L.pru h2) (by omega)) (fun M1 e1 h2 => hD M1 e1 h2)
    · rw [if_neg (fun q => z6 ((rm_kq hy2 (c := 305) (a := 6) (by decide)).mp q))]
      rw [if_neg z6] at hR1
      exact (h1.le (p' := p) (by omega)).pnm (kd := 1) hR1 hne (by simp) rfl (fun M1 h2 ilt => hK M1 (rz_L.pru h2) (by omega)) (fun M1 e1 h2 => hD M1 e1 h2)
/-- ports between commas -/
theorem rz_L.pos {K : rm_M → Prop} {s' : tx_S} (hK : ∀ M', rz_L n T 2 M0 M' s' i' p → tx_ki T i' = 41 → K M') (hD : ∀ M', s'.1.1 ≠ 0 → rz_D M0 M' s'.1 15020 → K M') :
    ∀ (m N i : Nat) (s : tx_S) (M : rm_M), T.length ≤ i + m → T.length ≤ i + N → rz_L n T 2 M0 M s i p → (tx_ki T i = 3 ∨ tx_ki T i = 4) → ((tx_por T f i s).and fun _ i s => (tx_pos T f m i s).and fun _ i s => (tx_tk T 41 i s).and fun _ i s => .inr ((), i, s)) = .inr ((), i' + 1, s') → rp_pos K N M := by
  intro m
  induction m with
  | zero => intro N i s M h1 _ h; have := h.2.2.2.2.2.1; omega
  | succ m ih =>
    intro N i s M h1 h2 h hki hR
    have hl := h.len
    have hends := h.ends
    have hi := h.2.2.2.2.2.1
    obtain ⟨N, rfl⟩ : ∃ N', N = N' + 1 := ⟨N - 1, by omega⟩
    obtain ⟨w1, i1, s1, hR1, hR⟩ := tx_and_r hR
    have hg1 := tx_gd.por (e := (0, 0)) hends (f := f) hi (s := s) (fun y => absurd rfl y) _ _ _ hR1
    obtain ⟨w2, i2, s2, hR2, hR⟩ := tx_and_r hR
    obtain ⟨k41, hR⟩ := tx_tka hR
    have ei : i2 = i' := by
      have := (Prod.mk.inj (Prod.mk.inj (Sum.inr.inj hR)).2).1
      omega
    have es : s2 = s' := (Prod.mk.inj (Prod.mk.inj (Sum.inr.inj hR)).2).2
    subst ei es
    unfold rp_pos
    refine h.is (a := 3) (by decide) ?_
    refine h.is (a := 4) (by decide) ?_
    rw [if_pos (by rcases hki with z | z; exact Or.inl (decide_eq_true z); exact Or.inr (decide_eq_true z))]
    have hR2' := hR2
    unfold tx_pos at hR2'
    have hne : ¬ tx_ki T i1 = 61 := by
      by_cases z : tx_ki T i1 = 41
      · rw [z]; decide
      · rw [if_neg z] at hR2'
        rw [(tx_tka hR2').1]
        decide
    refine h.por hR1 hne (fun M1 h3 ilt => ?_) (fun M1 e1 h3 => ?_)
    · refine h3.kd (fun y hy => ?_)
      by_cases z : tx_ki T i1 = 41
      · rw [if_neg (fun q => absurd ((rm_kq hy (c := 44) (a := 44) (by decide)).mp q) (by rw [z]; decide))]
        rw [if_pos z] at hR2'
        cases hR2'
        have et : rp_t M1 (M1.1 8) = M1 := by
          unfold rp_t
          have : va_up M1.1 8 (M1.1 8) = M1.1 := by
            funext j
            by_cases z : j = 8
            · rw [z, va_up_self]
            · rw [va_up_ne _ _ z]
          rw [this]
        rw [et]
        obtain ⟨N, rfl⟩ : ∃ N', N = N' + 1 := ⟨N - 1, by omega⟩
        unfold rp_pos
        refine h3.is (a := 3) (by decide) ?_
        refine h3.is (a := 4) (by decide) ?_
        rw [if_neg (by rw [z]; decide)]
        exact hK M1 h3 z
      · rw [if_neg z] at hR2'
        obtain ⟨k44, hR2'⟩ := tx_tka hR2'
        rw [if_pos ((rm_kq hy (c := 44) (a := 44) (by decide)).mpr k44)]
        have h4 := h3.i1 (by rw [k44]; decide) (by rw [k44]; decide)
        obtain ⟨w5, i5, s5, hR5, hR6⟩ := tx_and_r hR2'
        have hk2 : tx_ki T (i1 + 1) = 3 ∨ tx_ki T (i1 + 1) = 4 := by
          unfold tx_por at hR5
          obtain ⟨w7, i7, s7, hR7, -⟩ := tx_and_r hR5
          by_cases z3 : tx_ki T (i1 + 1) = 3
          · exact Or.inl z3
          · rw [if_neg z3] at hR7
            exact Or.inr (tx_tka hR7).1
        refine ih N (i1 + 1) s1 (rp_i M1 1) (by omega) (by omega) (h4.le (by omega)) hk2 ?_
        rw [hR5]
        show ((tx_pos T f m i5 s5).and fun _ i s => (tx_tk T 41 i s).and fun _ i s => .inr ((), i, s)) = _
        rw [hR6]
        show ((tx_tk T 41 i2 s2).and fun _ i s => (.inr ((), i, s) : tx_R Unit)) = _
        unfold tx_tk
        rw [if_pos k41]
        rfl
    · have hg2 := tx_gd.pos (e := s1.1) hends (f := f) (m + 1) i1 s1 hg1.2.1 (fun _ => rfl) _ _ _ hR2
      have es := hg2.2.2 e1
      refine h3.kd (by omega) (fun y => ?_)
      have h4 : rz_D M0 (rp_t M1 (if y = 44 then M1.1 8 + 1 else M1.1 8)) s1.1 15020 := by
        split
        · exact (h3.mv (d := 1) (x := 1) rfl).le (by omega)
        · refine (h3.to (M' := rp_t M1 (M1.1 8)) ((rx_o.t _ _).f (rx_f.rf _)).y.z rfl rfl rfl rfl).le (by omega)
      obtain ⟨N, rfl⟩ : ∃ N', N = N' + 1 := ⟨N - 1, by omega⟩
      unfold rp_pos
      refine h4.is (by omega) ?_
      refine h4.is (by omega) ?_
      rw [if_neg (by decide)]
      rw [← es] at h4
      exact hD _ (by rw [es]; exact e1) h4
end RZG

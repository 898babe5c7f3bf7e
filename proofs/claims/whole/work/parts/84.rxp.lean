/-! THE SECOND PASS: braces, names, an operand. -/
section RXP
variable {n N : Nat} {T : List tx_Tk} {s : tx_S} {M0 M M' : rm_M} {i c p b I f : Nat} {e v : Int32 × Int32} {E' : Nat → Nat → tx_S → tx_R Int32} {E : rp_E}
theorem rx_L.keep {K : Int32 → rm_M → Prop} (h : rx_L T M0 M i c p) (hy : rx_y M + 1 ≤ i) (hK : ∀ M', rx_L T M0 M' i c p → K (nI (rx_y M)) M') : rp_keep M K := by
  obtain ⟨a1, a2, a3, a4, a5, a6, a7⟩ := h
  have a2' := a2
  obtain ⟨b1, b2, b3, b4, b5, b6, b7⟩ := a2'
  refine ⟨rx_y M, b4, b5, by omega, fun M' q => hK M' ?_⟩
  obtain ⟨q1, q2, q3, q4, q5⟩ := q
  have e1 : rx_x M' = rx_x M := by
    unfold rx_x
    rw [q1, va_up_ne _ _ (by decide)]
  have e2 : rx_y M' = rx_y M + 1 := by
    show (M'.1 44).toNatClampNeg = _
    rw [q1, va_up_self, nI_clamp (by omega)]
  have e3 : rx_m M' = rx_m M := by
    unfold rx_m
    rw [q1, va_up_ne _ _ (by decide)]
  have i48 : M'.1 48 = M.1 48 := by rw [q1, va_up_ne _ _ (by decide)]
  have i50 : M'.1 50 = M.1 50 := by rw [q1, va_up_ne _ _ (by decide)]
  refine ⟨⟨a1.1.tr ⟨fun j _ _ _ _ c5 _ _ _ => by rw [q1, va_up_ne _ _ c5], fun j _ _ _ _ => by rw [q2], fun j c _ => q3 j c, ⟨?_, fun j _ => by rw [q2]; exact ⟨rfl, rfl⟩⟩, ⟨?_, fun j _ => by rw [q2]⟩, by omega, fun j _ => by rw [q2]⟩, i48.trans a1.2.1, i50.trans a1.2.2⟩, ⟨?_, ?_, ?_, ?_, ?_, ?_, b7⟩, ?_, a4, ?_, ?_, ?_⟩
  · unfold rx_w; rw [i48]; exact Nat.le_refl _
  · unfold rx_b; rw [i50]; exact Nat.le_refl _
  · rw [e1, q1, va_up_ne _ _ (by decide)]; exact b1
  · rw [e1, q4]; exact b2
  · rw [e1]; exact b3
  · rw [e2, q1, va_up_self]
  · rw [e2]; exact q5
  · omega
  · rw [q1, va_up_ne _ _ (by decide)]; exact a3
  · rw [q1, va_up_ne _ _ (by decide)]; exact a5
  · rw [e3, q3 45 (by decide)]; exact a6
  · rw [e1]; exact a7
theorem tx_gd.brw (hT : tx_ends T) {br : tx_Tk} {w : Int32} {s : tx_S} (hi : i < T.length) (hs : tx_fx e s) : (tx_brw T br w i s).gd T (i + 1) e := by
  unfold tx_brw
  exact (tx_gd.tk hT hi (Nat.le_refl _) hs (by decide)).and fun _ j _ hj hl hs => tx_gd.r hj hl hs.ck
/-- pieces between commas, behind a fault -/
theorem rx_D.jn {K : Int32 → rm_M → Prop} {wh : Int32} {sum : Int64} (h : rx_D M0 M e b I p) (hb : b < 65540) (hN : 0 < N) (hK : ∀ w M', rx_D M0 M' e (b + 1) I p → K w M') : rp_jn E wh K N sum M := by
  obtain ⟨N, rfl⟩ : ∃ N', N = N' + 1 := ⟨N - 1, by omega⟩
  unfold rp_jn
  refine h.is hb ?_
  rw [if_neg (by decide)]
  have h' := h.mv (d := 1) (x := 1) rfl
  rw [h'.ff]
  exact hK _ _ h'
theorem rx_bw {k : Nat} (hk : k < 2147483648) : tx_bw (nI k) = decide (1 ≤ k ∧ k ≤ 64) := by
  unfold tx_bw
  apply decide_eq_decide.mpr
  rw [show (1 : Int32) = nI 1 from rfl, show (64 : Int32) = nI 64 from rfl, nI_ltI (by omega) (by omega), nI_ltI (by omega) (by omega)]
  omega
/-- the end of braces -/
theorem rx_L.brw {K : Int32 → rm_M → Prop} {w : Int32} {i' k : Nat} {s' : tx_S} {br : tx_Tk} (hB : rx_B n T s M0) (h : rx_L T M0 M i c p) (hv : v.1 = 0) (hk : k < 2147483648) (hR : tx_brw T br (nI k) i (s.ex v c) = .inr (w, i', s')) :
    tx_ki T i = 125 ∧ i' = i + 1 ∧ ((1 ≤ k ∧ k ≤ 64 ∧ w = nI k ∧ s' = s.ex v c) ∨ (¬ (1 ≤ k ∧ k ≤ 64) ∧ s'.1 = (30, nI br.2.1))) := by
  unfold tx_brw at hR
  obtain ⟨h1, hR⟩ := tx_tka hR
  rw [rx_bw hk] at hR
  by_cases z : 1 ≤ k ∧ k ≤ 64
  · rw [decide_eq_true z, if_pos rfl, tx_ck_true] at hR
    cases hR
    exact ⟨h1, rfl, Or.inl ⟨z.1, z.2, rfl, rfl⟩⟩
  · rw [decide_eq_false z, if_neg (by decide), tx_ex_ck, tx_vk_f _ _ hv] at hR
    cases hR
    exact ⟨h1, rfl, Or.inr ⟨z, rfl⟩⟩
theorem rx_L.jn {K : Int32 → rm_M → Prop} {f : Nat} {w : Int32} {i' : Nat} {s' : tx_S} {br : tx_Tk} (hB : rx_B n T s M0) (hk : rx_k (f + 1) M0) (hv : v.1 = 0) (hE : rx_SE n T s E' E f) (hG : ∀ e f i s, i < T.length → tx_fx e s → (E' f i s).gd T i e) (hf : f ≤ 60)
    (hK : ∀ c' M', s' = s.ex v c' → rx_L T M0 M' i' c' p → rx_wd w → K w M') (hD : ∀ w' M', s'.1.1 ≠ 0 → rx_D M0 M' s'.1 (20001 + 30 * f) i' p → K w' M') :
    ∀ (m N i S c : Nat) (M : rm_M), T.length ≤ i + m → T.length ≤ i + N → 1 ≤ S → S ≤ 64 * i → rx_L T M0 M i c p → ((tx_cms T E' f m (nI S) i (s.ex v c)).and fun w i s => tx_brw T br w i s) = .inr (w, i', s') → rp_jn E (nI br.2.1) K N (lN S) M := by
  intro m
  induction m with
  | zero => intro N i S c M h1 _ _ _ h; have := h.2.2.2.1; omega
  | succ m ih =>
    intro N i S c M h1 h2 hS1 hS h hR
    have hi := h.2.2.2.1
    have hx := h.ix hB
    obtain ⟨N, rfl⟩ : ∃ N', N = N' + 1 := ⟨N - 1, by omega⟩
    unfold rp_jn
    refine h.is hB (a := 44) (by decide) ?_
    unfold tx_cms at hR
    by_cases z : tx_ki T i = 44
    · rw [decide_eq_true z, if_pos rfl]
      rw [if_pos z] at hR
      obtain ⟨w1, i1, s1, hR1, hR2⟩ := tx_and_r hR
      obtain ⟨-, hR1⟩ := tx_tka hR1
      obtain ⟨w2, i2, s2, hR3, hR4⟩ := tx_and_r hR1
      have h3 := h.i1 hB (by rw [z]; decide) (by rw [z]; decide)
      refine hE M0 _ (i + 1) c (p + 12) v w2 i2 s2 _ hB hk h3 hv hR3 (fun c' M' e1 e2 h4 h5 => ?_) (fun w' M' e1 e2 h4 => ?_)
      · obtain ⟨k, k1, k2, k3⟩ := h5
        refine (h4.le (p' := p + 3) (by omega)).lay (fun M2 h6 _ => ?_)
        rw [k1, nI_l (by omega), lN_add]
        refine ih N i2 (S + k) c' M2 (by omega) (by omega) (by omega) (by omega) h6 ?_
        rw [← nI_add, ← k1, ← e1]
        rw [hR4]
        exact hR2
      · have hg := ((tx_gd.com hB.ends (fun f i s => hG s2.1 f i s) m (nI S + w2) i2 s2 (by
          have := (hG (0, 0) f (i + 1) (s.ex v c) h3.2.2.2.1 (fun z => absurd rfl z) _ _ _ hR3).2.1
          omega) (fun _ => rfl)).and (fun w i s hi hl hs => (tx_gd.brw hB.ends hl hs).le (Nat.le_succ_of_le hi)) : ((tx_cms T E' f m (nI S + w2) i2 s2).and fun w i s => tx_brw T br w i s).gd T i2 s2.1) w i' s' (by rw [hR4]; exact hR2)
        have es := hg.2.2 e1
        have hl := hB.len
        refine (h4.le (p' := p + 3) (Nat.le_refl _) (by omega) hg.1 (by omega)).lay (fun M2 h6 _ => ?_)
        refine h6.jn (by omega) (by omega) (fun w M' h7 => ?_)
        rw [← es] at h7
        exact hD w M' (by rw [es]; exact e1) (h7.le (by omega) (Nat.le_refl _) (Nat.le_refl _) (by omega))
    · rw [decide_eq_false z, if_neg (by decide)]
      rw [if_neg z] at hR
      obtain ⟨q1, q2, q3⟩ := h.brw (K := K) hB hv (k := S) (by omega) hR
      have h3 := h.i1 hB (by rw [q1]; decide) (by rw [q1]; decide)
      have hx3 := h3.ix hB
      rw [← q2] at h3
      have e64 : (64 : Int64) = lN 64 := rfl
      rcases q3 with ⟨q3, q4, q5, q6⟩ | ⟨q3, q4⟩
      · rw [h3.ff (by rw [e64, lN_lt (by omega) (by omega)]; omega), if_pos h3.2.2.2.2.1, lN_i, ← q5]
        exact hK c _ q6 (h3.le (by omega)) ⟨S, q5, q3, q4⟩
      · by_cases y : 64 < S
        · have h4 := h3.ffD (x := (64 : Int64) < lN S) (w := 30) (q := nI br.2.1) (b := 20001 + 30 * f) (by rw [e64, lN_lt (by omega) (by omega)]; exact y) (by decide) (by omega)
          rw [← q4] at h4
          exact hD _ _ (by rw [q4]; exact (by decide : (30 : Int32) ≠ 0)) (h4.le (Nat.le_refl _) (by omega) (Nat.le_refl _) (by omega))
        · exact absurd ⟨hS1, by omega⟩ q3
theorem rx_L.brc {K : Int32 → rm_M → Prop} {w : Int32} {i' : Nat} {s' : tx_S} (hB : rx_B n T s M0) (hk : rx_k f M0) (hv : v.1 = 0) (hE : ∀ f', f' < f → rx_SE n T s E' E f') (hG : ∀ e f i s, i < T.length → tx_fx e s → (E' f i s).gd T i e) (hf : f ≤ 60) (hN : T.length ≤ N) (h : rx_L T M0 M (i + 1) c (p + 12)) (hR : tx_brc T E' f i (s.ex v c) = .inr (w, i', s'))
    (hK : ∀ c' M', s' = s.ex v c' → i < i' → rx_L T M0 M' i' c' p → rx_wd w → K w M') (hD : ∀ w' M', s'.1.1 ≠ 0 → i < i' → rx_D M0 M' s'.1 (20000 + 30 * f) i' p → K w' M') : rp_brc N E (nI (tx_ta T i).2.1) K M := by
  have hl := hB.len
  unfold tx_brc at hR
  obtain ⟨f1, rfl, k1, hR⟩ := tx_op_r hR
  unfold rp_brc
  refine h.kd hB (fun y hy => ?_)
  by_cases z : tx_ki T (i + 1) = 20
  · rw [if_pos ((rm_kq hy (c := 401) (a := 20) (by decide)).mpr z)]
    rw [if_pos z] at hR
    obtain ⟨-, hR⟩ := tx_tka hR
    obtain ⟨f2, rfl, k2, hR⟩ := tx_op_r hR
    obtain ⟨w1, i1, s1, hR1, hR⟩ := tx_and_r hR
    obtain ⟨k3, hR⟩ := tx_tka hR
    obtain ⟨nv, n1, n2⟩ := (h.B hB).1.plain h.2.2.2.1 z
    refine h.num hB (j := i + 1) h.2.2.1 h.2.2.2.1 (Or.inl z) (fun M1 h1 _ => ?_)
    have h2 := h1.i2 hB (by rw [z]; decide) (by rw [z]; decide) (by rw [show i + 1 + 1 = i + 1 + 1 from rfl, k2]; decide) (by rw [k2]; decide)
    refine hE f2 (by omega) M0 _ (i + 1 + 2) c (p + 24) v w1 i1 s1 _ hB (hk.le (by omega)) (h2.le (by omega)) hv hR1 (fun c' M' e1 e2 h3 h5 => ?_) (fun w' M' e1 e2 h3 => ?_)
    · obtain ⟨k, r1, r2, r3⟩ := h5
      have pw : tx_pl (tx_ta T (i + 1)) * w1 = nI (nv * k) := by
        rw [show tx_pl (tx_ta T (i + 1)) = nI nv from by unfold tx_pl; rw [n2, lN_i], r1, pk_mul]
      have hnk : nv * k ≤ 65536 * 64 := Nat.mul_le_mul (by omega) r3
      have hR' := hR
      rw [pw, e1] at hR'
      have hl1 := hB.ends i1 h3.2.2.2.1 (by rw [k3]; decide) (by rw [k3]; decide)
      have h3' := h3.i1 hB (by rw [k3]; decide) (by rw [k3]; decide)
      obtain ⟨q1, q2, q3⟩ := h3'.brw (K := K) hB hv (k := nv * k) (by omega) hR'
      have h4 := h3.i2 hB (by rw [k3]; decide) (by rw [k3]; decide) (by rw [q1]; decide) (by rw [q1]; decide)
      have hx4 := h4.ix hB
      rw [show i1 + 2 = i' from q2.symm] at h4
      have ec : ((tx_ta T (i + 1)).2.2.2.2.2 = 0 ∨ 64 < (tx_ta T (i + 1)).2.2.2.2.2 * w1.toInt64) ↔ ¬ (1 ≤ nv * k ∧ nv * k ≤ 64) := by
        rw [n2, r1, nI_l (by omega), lN_mul, show (0 : Int64) = lN 0 from rfl, show (64 : Int64) = lN 64 from rfl, lN_eq (by omega) (by omega), lN_lt (by omega) (by omega)]
        constructor
        · rintro (y | y)
          · rw [y]; omega
          · omega
        · intro y
          rcases Nat.eq_zero_or_pos nv with y1 | y1
          · exact Or.inl y1
          · refine Or.inr ?_
            have : 1 ≤ nv * k := Nat.mul_pos y1 r2
            omega
      have en : (tx_ta T (i + 1)).2.2.2.2.2.toInt32 * w1 = nI (nv * k) := pw
      rcases q3 with ⟨q3, q4, q5, q6⟩ | ⟨q3, q4⟩
      · rw [h4.ff (fun y => (ec.mp y) ⟨q3, q4⟩)]
        refine (h4.le (p' := p + 3) (by omega)).lay (fun M2 h6 _ => ?_)
        rw [if_pos h6.2.2.2.2.1, en, ← q5]
        exact hK c' M2 q6 (by omega) h6 ⟨nv * k, q5, q3, q4⟩
      · have h5 := h4.ffD (w := 30) (q := nI (tx_ta T i).2.1) (b := 20000 + 30 * (f2 + 1 + 1)) (ec.mpr q3) (by decide) (by omega)
        refine (h5.le (p' := p + 3) (Nat.le_refl _) (by omega) (Nat.le_refl _) (by omega)).lay (fun M2 h6 _ => ?_)
        rw [← q4] at h6
        exact hD _ M2 (by rw [q4]; exact (by decide : (30 : Int32) ≠ 0)) (by omega) h6
    · have hi1 := (hG (0, 0) f2 (i + 1 + 2) (s.ex v c) h2.2.2.2.1 (fun z => absurd rfl z) _ _ _ hR1).2.1
      have hl1 := hB.ends i1 hi1 (by rw [k3]; decide) (by rw [k3]; decide)
      have hg := (tx_gd.brw (e := s1.1) hB.ends hl1 (fun _ => rfl)) w i' s' hR
      have es := hg.2.2 e1
      have h5 := h3.mv (d := 2) (x := 2) rfl
      rw [h5.ff]
      refine (h5.le (b' := 20000 + 30 * (f2 + 1 + 1)) (I' := i') (p' := p + 3) (by omega) (by omega) (by omega) (by omega)).lay (fun M2 h6 _ => ?_)
      rw [← es] at h6
      exact hD _ M2 (by rw [es]; exact e1) (by omega) h6
  · rw [if_neg (fun q => z ((rm_kq hy (c := 401) (a := 20) (by decide)).mp q))]
    rw [if_neg z] at hR
    obtain ⟨w1, i1, s1, hR1, hR⟩ := tx_and_r hR
    refine hE f1 (by omega) M0 _ (i + 1) c (p + 12) v w1 i1 s1 _ hB (hk.le (by omega)) h hv hR1 (fun c' M' e1 e2 h3 h5 => ?_) (fun w' M' e1 e2 h3 => ?_)
    · obtain ⟨k, r1, r2, r3⟩ := h5
      rw [r1, nI_l (by omega)]
      have hi' : i1 ≤ i' := by
        have hg := ((tx_gd.com (e := (0, 0)) hB.ends (fun f i s => hG (0, 0) f i s) T.length w1 i1 s1 h3.2.2.2.1 (fun y => absurd rfl y)).and (fun w i s hi hl hs => ((tx_gd.brw hB.ends hl hs).le (Nat.le_succ_of_le hi))) : ((tx_cms T E' f1 T.length w1 i1 s1).and fun w i2 s => tx_brw T (tx_ta T i) w i2 s).gd T i1 (0, 0)) w i' s' hR
        exact hg.1
      refine rx_L.jn (K := K) (br := tx_ta T i) (f := f1) hB (hk.le (by omega)) hv (hE f1 (by omega)) hG (by omega) (fun c' M' e1 h e2 => hK c' M' e1 (by omega) h e2) (fun w' M' e1 h => hD w' M' e1 (by omega) (h.le (by omega) (Nat.le_refl _) (Nat.le_refl _) ?_)) T.length N i1 k c' M' (by omega) (by omega) r2 (by omega) (h3.le (by omega)) ?_
      · exact h.2.1.2.2.2.2.2.2
      · rw [← r1, ← e1]
        exact hR
    · have hi1 := (hG (0, 0) f1 (i + 1) (s.ex v c) h.2.2.2.1 (fun z => absurd rfl z) _ _ _ hR1).2.1
      have hg := ((tx_gd.com (e := s1.1) hB.ends (fun f i s => hG s1.1 f i s) T.length w1 i1 s1 hi1 (fun _ => rfl)).and (fun w i s hi hl hs => ((tx_gd.brw hB.ends hl hs).le (Nat.le_succ_of_le hi))) : ((tx_cms T E' f1 T.length w1 i1 s1).and fun w i2 s => tx_brw T (tx_ta T i) w i2 s).gd T i1 s1.1) w i' s' hR
      have es := hg.2.2 e1
      refine h3.jn (by omega) (by omega) (fun w2 M2 h6 => ?_)
      rw [← es] at h6
      exact hD w2 M2 (by rw [es]; exact e1) (by omega) (h6.le (by omega) (by omega) (by omega) (by omega))
/-- a name -/
theorem tx_nmd_f {t : Nat} (hn : (tx_used s (tx_ta T t)).1 = none) (hv : v.1 = 0) : tx_nmd T E' f t (s.ex v c) = tx_nmd T E' f t (s.ex (22, nI (tx_ta T t).2.1) c) := by
  have e2 : ∀ v', (tx_used (s.ex v' c) (tx_ta T t)) = (none, s.ex (tx_vk false 22 (nI (tx_ta T t).2.1) v') c) := fun v' => by
    rw [tx_ex_used, hn]
    rfl
  unfold tx_nmd tx_tk
  by_cases z : tx_ki T t = 19
  · rw [if_pos z, if_pos z]
    show (if _ then _ else _) = (if _ then _ else _)
    rw [e2, e2, tx_vk_f _ _ hv, show tx_vk false 22 (nI (tx_ta T t).2.1) (22, nI (tx_ta T t).2.1) = (22, nI (tx_ta T t).2.1) from if_neg (fun z => absurd z.2 (by decide : ¬ (22 : Int32) = 0))]
  · rw [if_neg z, if_neg z]
theorem rx_imax {a b : Nat} (ha : a < 2147483648) (hb : b < 2147483648) : tx_imax (nI a) (nI b) = nI (max a b) ∧ rp_max (nI a) (nI b) = nI (max a b) := by
  unfold tx_imax rp_max
  constructor
  · by_cases z : a < b
    · rw [if_pos (nI_lt z hb)]; congr 1; omega
    · rw [if_neg (nI_nlt (by omega) ha)]; congr 1; omega
  · by_cases z : b < a
    · rw [if_pos (nI_lt z ha)]; congr 1; omega
    · rw [if_neg (nI_nlt (by omega) hb)]; congr 1; omega
theorem rx_L.prm {K : Int32 → rm_M → Prop} {w : Int32} {i' : Nat} {s' : tx_S} (hB : rx_B n T s M0) (hk : rx_k f M0) (hv : v.1 = 0) (hE : ∀ f', f' < f → rx_SE n T s E' E f') (hG : ∀ e f i s, i < T.length → tx_fx e s → (E' f i s).gd T i e) (hf : f ≤ 60) (hN : T.length ≤ N) (h : rx_L T M0 M i c p) (hR : tx_prm T E' f i (s.ex v c) = .inr (w, i', s'))
    (hK : ∀ c' M', s' = s.ex v c' → i < i' → rx_L T M0 M' i' c' p → rx_wd w → K w M') (hD : ∀ w' M', s'.1.1 ≠ 0 → i < i' → rx_D M0 M' s'.1 (20000 + 30 * f) i' p → K w' M') : rp_prm N E K M := by
  have hl := hB.len
  have hx := h.ix hB
  have hi := h.2.2.2.1
  unfold rp_prm
  rw [if_pos h.2.2.2.2.1]
  refine ⟨i, h.2.2.1, by omega, ?_⟩
  have hy := ((h.B hB).1.tk.2.1 i hi).1
  have hbg := ((h.B hB).1.tk.2.1 i hi).2
  unfold tx_prm at hR
  by_cases z21 : tx_ki T i = 21
  · rw [if_pos ((rm_kq hy (c := 402) (a := 21) (by decide)).mpr z21)]
    rw [if_pos z21] at hR
    obtain ⟨-, hR⟩ := tx_tka hR
    cases hR
    have h1 := h.i1 hB (by rw [z21]; decide) (by rw [z21]; decide)
    have hy0 : rx_y (rp_i M 1) = rx_y M := (rx_o.t _ _).y
    have hyi := h.2.1.2.2.2.2.2.1
    refine h1.num hB rfl hi (Or.inr z21) (fun M1 h2 h57 => ?_)
    refine h2.keep (by
      have : rx_y M1 = rx_y (rp_i M 1) := (rx_o.n57 h57).y
      omega) (fun M2 h3 => ?_)
    refine (h3.le (p' := p + 3) (by omega)).lay (fun M3 h4 _ => ?_)
    refine ⟨n, T, i, (h4.B hB).1, rfl, hi, z21, ?_⟩
    exact hK c M3 rfl (by omega) h4 (hB.1.sized hi z21)
  rw [if_neg (fun q => z21 ((rm_kq hy (c := 402) (a := 21) (by decide)).mp q))]
  rw [if_neg z21] at hR
  by_cases z40 : tx_ki T i = 40
  · rw [if_pos ((rm_kq hy (c := 40) (a := 40) (by decide)).mpr z40)]
    rw [if_pos z40] at hR
    obtain ⟨f1, rfl, -, hR⟩ := tx_op_r hR
    obtain ⟨w1, i1, s1, hR1, hR⟩ := tx_and_r hR
    obtain ⟨k41, hR⟩ := tx_tka hR
    cases hR
    have h1 := h.i1 hB (by rw [z40]; decide) (by rw [z40]; decide)
    refine hE f1 (by omega) M0 _ (i + 1) c (p + 12) v w i1 s' _ hB (hk.le (by omega)) h1 hv hR1 (fun c' M' e1 e2 h3 h5 => ?_) (fun w' M' e1 e2 h3 => ?_)
    · exact hK c' _ e1 (by omega) ((h3.i1 hB (by rw [k41]; decide) (by rw [k41]; decide)).le (by omega)) h5
    · have hi1 := (hG (0, 0) f1 (i + 1) (s.ex v c) h1.2.2.2.1 (fun z => absurd rfl z) _ _ _ hR1).2.1
      exact hD w' _ e1 (by omega) ((h3.mv (d := 1) (x := 1) rfl).le (by omega) (by omega) (by omega) (by omega))
  rw [if_neg (fun q => z40 ((rm_kq hy (c := 40) (a := 40) (by decide)).mp q))]
  rw [if_neg z40] at hR
  by_cases z123 : tx_ki T i = 123
  · rw [if_pos ((rm_kq hy (c := 123) (a := 123) (by decide)).mpr z123), hbg]
    rw [if_pos z123] at hR
    exact rx_L.brc hB hk hv hE hG hf hN (h.i1 hB (by rw [z123]; decide) (by rw [z123]; decide)) hR hK hD
  rw [if_neg (fun q => z123 ((rm_kq hy (c := 123) (a := 123) (by decide)).mp q))]
  rw [if_neg z123] at hR
  have hR0 := hR
  unfold tx_nmd at hR
  obtain ⟨z19, hR⟩ := tx_tka hR
  have h1 := h.i1 hB (by rw [z19]; decide) (by rw [z19]; decide)
  have hB1 := h1.B hB
  obtain ⟨m1, m2, lo, hi', l1, l2, l3, l4, l5, l6⟩ := hB1.2
  refine ⟨n, T, i, rx_m (rp_i M 1), lo, hi', hB1.1, rfl, hi, z19, m1, m2, l1, l2, l3, l4, l5, ?_⟩
  rcases l6 i hi z19 with ⟨u1, u2⟩ | ⟨j, q, u1, u2, u3, u4, u5⟩
  · rw [u1, show (rm_on none : Int32) = -1 from rfl, if_pos (by decide)]
    have hg := tx_gd.nmd (e := (22, nI (tx_ta T i).2.1)) hB.ends (fun f i2 s => hG _ f i2 s) (f := f) hi (s := s.ex (22, nI (tx_ta T i).2.1) c) (fun _ => rfl)
    rw [tx_nmd_f u2 hv] at hR0
    obtain ⟨g1, g2, g3⟩ := hg w i' s' hR0
    have es := g3 (show (22 : Int32) ≠ 0 by decide)
    have h2 := h1.fail (w := 22) (q := nI (tx_ta T i).2.1) (b := 20000 + 30 * f) (by decide) (by omega)
    rw [hbg]
    rw [← es] at h2
    exact hD 1 _ (by rw [es]; exact (by decide : (22 : Int32) ≠ 0)) (by omega) (h2.le (Nat.le_refl _) (by omega) g1 (by omega))
  · rw [u1, show rm_on (some j) = nI j from rfl, if_neg (nI_pos (by omega))]
    refine ⟨j, rfl, u3, ?_⟩
    rw [tx_ex_used, u2] at hR
    simp only [Option.isSome_some, tx_vk_t, tx_ex_wo] at hR
    refine (h1.le (p' := p + 9 + 3) (by omega)).lay (fun M2 h2 q2 => ?_)
    have e20 : M2.2.1 20 j = s.wo (some q) := by
      rw [q2.2.1 20 (by decide)]
      exact u4
    refine h2.kd hB (fun y2 hy2 => ?_)
    by_cases z91 : tx_ki T (i + 1) = 91
    · rw [if_pos ((rm_kq hy2 (c := 91) (a := 91) (by decide)).mpr z91)]
      rw [if_pos z91] at hR
      obtain ⟨f1, rfl, -, hR⟩ := tx_op_r hR
      have hi2 := hB.ends (i + 1) h2.2.2.2.1 (by rw [z91]; decide) (by rw [z91]; decide)
      refine ⟨i + 1, h2.2.2.1, by omega, ?_⟩
      have hy3 := ((h2.B hB).1.tk.2.1 (i + 1 + 1) hi2).1
      by_cases z20 : tx_ki T (i + 1 + 1) = 20
      · rw [if_pos ((rm_kq hy3 (c := 401) (a := 20) (by decide)).mpr z20)]
        rw [if_pos z20] at hR
        refine rx_L.prt hB (h2.le (p' := p) (by omega)) z91 u3 e20 u5 hv hR (fun hh ll M3 b1 b2 b3 b4 b5 b6 h3 => ?_) (fun M3 b1 b2 h3 => ?_)
        · obtain ⟨r1, r2⟩ := nI_part b1 b2
          rw [r1] at r2
          rw [r1, r2]
          refine (h3.le (p' := p + 3) (by omega)).lay (fun M4 h4 _ => ?_)
          rw [pk_sub b2, nI_1, ← b4]
          exact hK c M4 b5 (by omega) h4 ⟨_, b4, by omega, by omega⟩
        · have hi3 := h3.2.1.2.2.2.2.2.2
          refine (h3.le (b' := 20000 + 30 * (f1 + 1)) (I' := i') (p' := p + 3) (by omega) (by omega) (Nat.le_refl _) hi3).lay (fun M4 h4 _ => ?_)
          exact hD _ M4 b1 (by omega) h4
      · rw [if_neg (fun q => z20 ((rm_kq hy3 (c := 401) (a := 20) (by decide)).mp q))]
        rw [if_neg z20] at hR
        obtain ⟨w1, i1, s1, hR1, hR⟩ := tx_and_r hR
        obtain ⟨k93, hR⟩ := tx_tka hR
        have h3 := h2.i1 hB (by rw [z91]; decide) (by rw [z91]; decide)
        refine hE f1 (by omega) M0 _ (i + 1 + 1) c (p + 12) v w1 i1 s1 _ hB (hk.le (by omega)) (h3.le (by omega)) hv hR1 (fun c' M' e1 e2 h4 h5 => ?_) (fun w' M' e1 e2 h4 => ?_)
        · obtain ⟨k, r1, r2, r3⟩ := h5
          obtain ⟨kw, t1, t2, t3⟩ := u5
          have h5 := h4.i1 hB (by rw [k93]; decide) (by rw [k93]; decide)
          have e21 : (rp_i M' 1).2.1 20 j = nI kw := by
            rw [h5.1.1.2.1 20 (by decide) (by decide) (by decide) (by decide), ← h2.1.1.2.1 20 (by decide) (by decide) (by decide) (by decide), e20, t1]
          rw [e21, r1, (rx_imax (by omega) (by omega)).2]
          refine (h5.le (p' := p + 3) (by omega)).cl hB (d := max k kw) (nI_l (by omega)) (by omega) (fun M4 h6 _ _ _ => ?_)
          rw [t1, r1, (rx_imax (by omega) (by omega)).1, e1, tx_ex_spend (by omega), Nat.max_comm] at hR
          cases hR
          exact hK _ M4 rfl (by omega) h6 ⟨1, rfl, by omega, by omega⟩
        · cases hR
          have hi1 := (hG (0, 0) f1 (i + 1 + 1) (s.ex v c) h3.2.2.2.1 (fun z => absurd rfl z) _ _ _ hR1).2.1
          have es : (tx_spend (tx_imax (s.wo (some q)) w1) s1).1 = s1.1 := rfl
          refine ((h4.mv (d := 1) (x := 1) rfl).le (b' := 20000 + 30 * (f1 + 1)) (I' := i1 + 1) (p' := p + 3) (by omega) (by omega) (by omega) (by omega)).cl hB (fun M4 h6 => ?_)
          exact hD 1 M4 (by rw [es]; exact e1) (by omega) h6
    · rw [if_neg (fun q => z91 ((rm_kq hy2 (c := 91) (a := 91) (by decide)).mp q))]
      rw [if_neg z91] at hR
      cases hR
      rw [e20]
      exact hK c M2 rfl (by omega) (h2.le (by omega)) u5
end RXP

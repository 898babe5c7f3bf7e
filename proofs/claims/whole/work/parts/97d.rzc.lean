/-! THE SECOND PASS: ranges and declarations. -/
theorem tx_rw_n {h l : Nat} (hh : h < 65536) (hl : l < 65536) : tx_rw (nI h) (nI l) = decide (l = 0 ∧ h ≤ 63) := by
  unfold tx_rw
  apply decide_eq_decide.mpr
  rw [show (0 : Int32) = nI 0 from rfl, show (64 : Int32) = nI 64 from rfl, nI_eq (by omega) (by omega), nI_leI (by omega) (by omega)]
  omega
section RZC
variable {n N : Nat} {T : List tx_Tk} {s s1 : tx_S} {M0 M M' : rm_M} {u : tx_U} {lo li fa a fs b5 lk i i' p b I f c dp : Nat} {e v : Int32 × Int32}
theorem rz_L.rng {K : Int32 → rm_M → Prop} {w : Int32} {s' : tx_S} (h : rz_L n T dp M0 M s i p) (hR : tx_rng T f i s = .inr (w, i', s')) (hK : ∀ M', s' = s → rz_L n T dp M0 M' s i' p → i ≤ i' → rx_wd w → K w M') (hD : ∀ x M', s'.1.1 ≠ 0 → rz_D M0 M' s'.1 15000 → M'.1 18 = M.1 18 → K x M') : rp_rng K M := by
  have hl := h.len
  have hends := h.ends
  have hi := h.2.2.2.2.2.1
  have h8 := h.2.2.2.2.1
  unfold rp_rng
  refine h.is (a := 91) (by decide) ?_
  unfold tx_rng at hR
  by_cases z : tx_ki T i = 91
  · rw [decide_eq_true z, if_pos rfl]
    rw [if_pos z] at hR
    obtain ⟨f1, -, -, hR⟩ := tx_op_r hR
    obtain ⟨k1, hR⟩ := tx_tka hR
    obtain ⟨k2, hR⟩ := tx_tka hR
    obtain ⟨k3, hR⟩ := tx_tka hR
    obtain ⟨k4, hR⟩ := tx_tka hR
    have l1 := hends i hi (by rw [z]; decide) (by rw [z]; decide)
    have l2 := hends (i + 1) l1 (by rw [k1]; decide) (by rw [k1]; decide)
    have l3 := hends (i + 1 + 1) l2 (by rw [k2]; decide) (by rw [k2]; decide)
    have l4 := hends (i + 1 + 1 + 1) l3 (by rw [k3]; decide) (by rw [k3]; decide)
    have l5 := hends (i + 1 + 1 + 1 + 1) l4 (by rw [k4]; decide) (by rw [k4]; decide)
    obtain ⟨hv, v1, v2⟩ := h.2.1.plain l1 k1
    obtain ⟨lv, w1, w2⟩ := h.2.1.plain l3 k3
    have p1 : tx_pl (tx_ta T (i + 1)) = nI hv := by unfold tx_pl; rw [v2, lN_i]
    have p2 : tx_pl (tx_ta T (i + 1 + 1 + 1)) = nI lv := by unfold tx_pl; rw [w2, lN_i]
    rw [p1, p2, tx_rw_n v1 w1] at hR
    refine h.num (j := i + 1) (by rw [h8, nI_1]) l1 (Or.inl k1) (fun M1 h1 q1 => ?_)
    refine h1.num (j := i + 1 + 1 + 1) (by rw [h1.2.2.2.2.1]; exact nI_add i 3) l3 (Or.inl k3) (fun M2 h2 q2 => ?_)
    refine h2.bg ?_
    have e18 : M2.1 18 = M.1 18 := (q2.2 18 (by decide)).trans (q1.2 18 (by decide))
    have ec : (63 < (tx_ta T (i + 1)).2.2.2.2.2 ∨ ¬ (tx_ta T (i + 1 + 1 + 1)).2.2.2.2.2 = 0) ↔ ¬ (lv = 0 ∧ hv ≤ 63) := by
      rw [v2, w2, show (63 : Int64) = lN 63 from rfl, show (0 : Int64) = lN 0 from rfl, lN_lt (by omega) (by omega), lN_eq (by omega) (by omega)]
      omega
    have eh : (tx_ta T (i + 1)).2.2.2.2.2.toInt32 + 1 = nI (hv + 1) := by rw [v2, lN_i, nI_1]
    by_cases y : lv = 0 ∧ hv ≤ 63
    · rw [if_neg (fun q => ec.mp q y), eh]
      rw [decide_eq_true y, if_pos rfl, tx_ck_true, nI_1] at hR
      cases hR
      exact hK _ rfl ((h2.mv (d := 5) (x := 5) rfl (by omega)).le (by omega)) (by omega) ⟨hv + 1, rfl, by omega, by omega⟩
    · rw [if_pos (ec.mpr y)]
      rw [decide_eq_false y, if_neg (by decide)] at hR
      have es : (tx_ck false 30 (nI (tx_ta T i).2.1) s).1 = (30, nI (tx_ta T i).2.1) := by
        unfold tx_ck
        rw [if_pos ⟨rfl, h.2.2.2.2.2.2.2.1⟩]
      cases hR
      have hd := (h2.fail (w := 30) (q := nI (tx_ta T i).2.1) (b := 14000) (by decide) (by omega)).mv (d := 5) (x := 5) rfl
      refine hD _ _ (by rw [es]; exact (by decide : (30 : Int32) ≠ 0)) (by rw [es]; exact hd.le (by omega)) ?_
      show (rm_fail 30 _ M2).1 18 = _
      rw [(rx_o.fail _ _ M2).1 18 (by decide) (by decide) (by decide) (by decide)]
      exact e18
  · rw [decide_eq_false z, if_neg (by decide)]
    rw [if_neg z] at hR
    cases hR
    exact hK M rfl h (Nat.le_refl _) ⟨1, rfl, by omega, by omega⟩
theorem rz_dc_f (M : rm_M) (k : Nat) (kd w : Int32) : rz_f M (rp_dc M k kd w) := by
  constructor
  · intro j hj
    show va_up (va_up M.1 18 _) 8 _ j = _
    rw [va_up_ne _ _ (by omega), va_up_ne _ _ (by omega)]
  · intro j hj
    show va_up (va_up (va_up (va_up (va_up M.2.1 19 _) 20 _) 21 _) 23 _) 26 _ j = _
    rw [va_up_ne _ _ (by omega), va_up_ne _ _ (by omega), va_up_ne _ _ (by omega), va_up_ne _ _ (by omega), va_up_ne _ _ (by omega)]
theorem rz_D.dl2 {K : rm_M → Prop} {k : Nat} {kd w : Int32} (h : rz_D M0 M e b) (hb : b < 65000) (h18 : M.1 18 = nI k) (hk : k < 11000) (hK : ∀ M', rz_D M0 M' e (b + 1) → K M') : rp_dl2 kd w K M := by
  refine ⟨k, h18, hk, ?_⟩
  have hd : rz_D M0 (rp_dc M k kd w) e (b + 1) := by
    obtain ⟨a1, a2, a3, a4, ⟨j, a5, a6⟩, mc, a7, a8⟩ := h
    refine ⟨a1.tr (rz_dc_f M k kd w), a2, a3, a4, ⟨j + 1, by omega, ?_⟩, mc, a7, a8⟩
    show M.1 8 + 1 = _
    rw [a6, nI_1]
  refine hd.is (by omega) ?_
  rw [if_neg (by decide)]
  exact hK _ hd
theorem rz_D.dcl {K : rm_M → Prop} {k : Nat} {kd w : Int32} (h : rz_D M0 M e b) (hb : b < 65000) (h18 : M.1 18 = nI k) (hk : k < 11000) (hK : ∀ M', rz_D M0 M' e (b + 1) → K M') : rp_dcl kd w K M := by
  unfold rp_dcl
  rw [if_neg h.n9]
  exact h.dl2 hb h18 hk hK
/-- whether a text is declared -/
theorem rt_C.insn (h : rt_C T s M u lo li) : rm_nN T (M.2.1 29) li (li + u.2.2.1.countP (fun r => !rt_sg r)) := by
  intro k h1 h2
  obtain ⟨q, r, a1, a2, a3⟩ := rt_sur (P := fun r => !rt_sg r) (L := u.2.2.1) (m := k - li) (by omega)
  have e : k = li + rt_j u.2.2.1 q := by
    unfold rt_j
    omega
  obtain ⟨⟨y, y1, y2, y3, -⟩, -⟩ := (h.2.2.2.2.2.2.2.1 q r a1).2 (by simpa using a2)
  rw [e]
  exact ⟨y, y1, y2, y3⟩
theorem rt_C.insN (h : rt_C T s M u lo li) (hT : T.length ≤ 10241) {x : Nat} {X : List Int32} (hX : (tx_ta T x).2.2.2.1 = some X) : (rm_sN T (M.2.1 29) x li (u.2.2.1.countP (fun r => !rt_sg r))).isSome = true ↔ ∃ (q : Nat) (r : tx_N), u.2.2.1[q]? = some r ∧ r.1 = some X ∧ rt_sg r = false := by
  have htx : ∀ (q : Nat) (r : tx_N), u.2.2.1[q]? = some r → rt_sg r = false → (tx_ta T (M.2.1 29 (li + rt_j u.2.2.1 q)).toNatClampNeg).2.2.2.1 = r.1 := by
    intro q r h3 h4
    obtain ⟨⟨y, y1, y2, y3, y4, y5⟩, -⟩ := (h.2.2.2.2.2.2.2.1 q r h3).2 h4
    rw [y1, nI_clamp (by omega), y4]
  constructor
  · intro z
    by_cases y : ∃ (q : Nat) (r : tx_N), u.2.2.1[q]? = some r ∧ r.1 = some X ∧ rt_sg r = false
    · exact y
    · rw [rm_sN_none] at z
      · cases z
      · intro j h1 h2
        obtain ⟨q, r, a1, a2, a3⟩ := rt_sur (P := fun r => !rt_sg r) (L := u.2.2.1) (m := j - li) (by omega)
        have e : j = li + rt_j u.2.2.1 q := by
          unfold rt_j
          omega
        have a2' : rt_sg r = false := by simpa using a2
        rw [e, htx q r a1 a2', hX]
        intro q1
        exact y ⟨q, r, a1, q1, a2'⟩
  · rintro ⟨q, r, z1, z2, z3⟩
    have hlt := rt_lt (P := fun r => !rt_sg r) z1 (by simp [z3])
    rw [rm_sN_some (k := li + rt_j u.2.2.1 q) (by omega) (by unfold rt_j; omega) (by rw [htx q r z1 z3, z2, hX]) (fun j h1 h2 => ?_)]
    · rfl
    · obtain ⟨q', r', a1, a2, a3⟩ := rt_sur (P := fun r => !rt_sg r) (L := u.2.2.1) (m := j - li) (by unfold rt_j at h2; omega)
      have e : j = li + rt_j u.2.2.1 q' := by
        unfold rt_j
        omega
      have a2' : rt_sg r' = false := by simpa using a2
      rw [e, htx q' r' a1 a2', hX]
      intro q1
      have e1 := h.da.mpr ⟨r, z1, z2⟩
      have e2 := h.da.mpr ⟨r', a1, q1⟩
      rw [e1] at e2
      cases e2
      omega
theorem rz_U.dup {K : Bool → Prop} (hT : rm_T n T M) (h : rz_U T s M u lo li fa a fs b5 lk I dp) (h8 : M.1 8 = nI i) (hi : i < T.length) (k19 : tx_ki T i = 19) (hI : I ≤ 10241) (hK : K (s.da (tx_ta T i).2.2.2.1).isSome) : rp_dup M K := by
  have hl : T.length ≤ 10241 := by
    have := hT.len
    have := hT.2.1
    omega
  obtain ⟨h1, h2, h3, h4, h5, h6, -⟩ := h
  obtain ⟨X, hX⟩ := hT.nam hi k19
  refine h1.here hT h8 hi k19 ?_
  rcases h1.sN hl hX with ⟨a1, a2⟩ | ⟨q, r, a1, a2, a3, a4, a5⟩
  · rw [a1, if_neg (show ¬ (0 : Int32) ≤ rm_on none by decide)]
    refine ⟨n, T, i, s.2.1.length, li, li + u.2.2.1.countP (fun r => !rt_sg r), hT, h8, hi, k19, h1.2.1, h1.2.2.1, h1.2.2.2.2.1, h5, by omega, by omega, h1.insn, ?_⟩
    rw [show li + u.2.2.1.countP (fun r => !rt_sg r) - li = u.2.2.1.countP (fun r => !rt_sg r) by omega]
    have e : (rm_sN T (M.2.1 29) i li (u.2.2.1.countP (fun r => !rt_sg r))).isSome = (s.da (tx_ta T i).2.2.2.1).isSome := by
      rw [hX]
      apply Bool.eq_iff_iff.mpr
      rw [h1.insN hl hX]
      constructor
      · rintro ⟨q, r, b1, b2, b3⟩
        rw [h1.da.mpr ⟨r, b1, b2⟩]
        rfl
      · intro z
        cases hd : s.da (some X) with
        | none => rw [hd] at z; cases z
        | some q =>
          obtain ⟨r, r1, r2⟩ := h1.da.mp hd
          exact ⟨q, r, r1, r2, a2 q r r1 r2⟩
    rw [e]
    exact hK
  · rw [a1, show rm_on (some (lo + rt_k u.2.2.1 q)) = nI (lo + rt_k u.2.2.1 q) from rfl, if_pos (show (0 : Int32) ≤ nI (lo + rt_k u.2.2.1 q) from nI_pos' (by have := rt_lt (P := rt_sg) a2 a4; have := h1.2.2.2.2.2.2.1; unfold rt_k; omega))]
    rw [hX, a5] at hK
    exact hK
end RZC

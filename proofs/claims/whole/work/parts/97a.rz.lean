/-! THE SECOND PASS: the tables of all modules. -/
/-- how many places of a row, d from lo on, are so -/
def rt_cn (g : Nat → Bool) (lo : Nat) : Nat → Nat
  | 0 => 0
  | d + 1 => rt_cn g lo d + (if g (lo + d) = true then 1 else 0)
theorem rt_cn_eq {g g' : Nat → Bool} {lo : Nat} : ∀ {d : Nat}, (∀ j, lo ≤ j → j < lo + d → g' j = g j) → rt_cn g' lo d = rt_cn g lo d
  | 0, _ => rfl
  | d + 1, h => by
    unfold rt_cn
    rw [rt_cn_eq (fun j h1 h2 => h j h1 (by omega)), h (lo + d) (by omega) (by omega)]
theorem rt_cn_le {g : Nat → Bool} {lo : Nat} : ∀ d, rt_cn g lo d ≤ d
  | 0 => Nat.le_refl _
  | d + 1 => by
    have := rt_cn_le (g := g) (lo := lo) d
    unfold rt_cn
    split <;> omega
/-- a place that was not so becomes so -/
theorem rt_cn_up {g g' : Nat → Bool} {lo k : Nat} : ∀ {d : Nat}, lo ≤ k → k < lo + d → g k = false → g' k = true → (∀ j, j ≠ k → g' j = g j) → rt_cn g' lo d = rt_cn g lo d + 1
  | 0, h1, h2, _, _, _ => by omega
  | d + 1, h1, h2, h3, h4, h5 => by
    unfold rt_cn
    by_cases z : k = lo + d
    · rw [rt_cn_eq (g := g) (g' := g') (fun j _ hj => h5 j (by omega)), ← z, h3, h4]
      rfl
    · rw [rt_cn_up h1 (by omega) h3 h4 h5, h5 (lo + d) (by omega)]
      omega
/-- the token that a name was declared with -/
def rt_yq (M : rm_M) (lo li : Nat) (L : List tx_N) (q : Nat) (r : tx_N) : Int32 := if rt_sg r = true then M.2.1 19 (lo + rt_k L q) else M.2.1 29 (li + rt_j L q)
def rt_or (M : rm_M) (lo li i : Nat) (L : List tx_N) : Prop := ∀ (q : Nat) (r : tx_N), L[q]? = some r → ∃ y, rt_yq M lo li L q r = nI y ∧ y < i ∧ ∀ (q' : Nat) (r' : tx_N), L[q']? = some r' → q' < q → ∃ y', rt_yq M lo li L q' r' = nI y' ∧ y' < y
/-- ports come first; 2 ≤ dp: nothing else has come yet -/
def rt_pf (dp : Nat) (u : tx_U) : Prop := (2 ≤ dp → ∀ (q : Nat) (r : tx_N), u.2.2.1[q]? = some r → r.2.1 < 3) ∧ ∀ (q q' : Nat) (r r' : tx_N), u.2.2.1[q]? = some r → u.2.2.1[q']? = some r' → q < q' → r'.2.1 < 3 → r.2.1 < 3
theorem rt_kk_get {L L' : List tx_N} (h : rt_kk L' = rt_kk L) {q : Nat} {r' : tx_N} (hq : L'[q]? = some r') : ∃ r, L[q]? = some r ∧ r.2.1 = r'.2.1 := by
  have h1 : (rt_kk L')[q]? = some r'.2.1 := by
    unfold rt_kk
    rw [List.getElem?_map, hq]
    rfl
  rw [h] at h1
  unfold rt_kk at h1
  rw [List.getElem?_map] at h1
  cases hr : L[q]? with
  | none => rw [hr] at h1; cases h1
  | some r =>
    rw [hr] at h1
    exact ⟨r, rfl, Option.some.inj h1⟩
theorem rt_pf.kk {dp : Nat} {u u' : tx_U} (h : rt_pf dp u) (hk : rt_kk u'.2.2.1 = rt_kk u.2.2.1) : rt_pf dp u' := by
  refine ⟨fun hd q r hq => ?_, fun q q' r r' hq hq' hlt h3 => ?_⟩
  · obtain ⟨r0, g1, g2⟩ := rt_kk_get hk hq
    rw [← g2]
    exact h.1 hd q r0 g1
  · obtain ⟨r0, g1, g2⟩ := rt_kk_get hk hq
    obtain ⟨r0', g1', g2'⟩ := rt_kk_get hk hq'
    rw [← g2' ] at h3
    rw [← g2]
    exact h.2 q q' r0 r0' g1 g1' hlt h3
/-- no two names have one text -/
def rt_un (L : List tx_N) : Prop := ∀ (q q' : Nat) (r r' : tx_N), L[q]? = some r → L[q']? = some r' → r.1 = r'.1 → q = q'
def rt_ct (M : rm_M) (lo dp : Nat) (u : tx_U) : Prop := (∃ x, u.2.2.2.1 = nI x ∧ x + dp % 2 = rt_cn (fun k => decide (M.2.1 21 k < 3)) lo (u.2.2.1.countP rt_sg)) ∧ u.2.2.2.2.1 = nI (rt_cn (fun k => decide (M.2.1 23 k = 1)) lo (u.2.2.1.countP rt_sg)) ∧ u.2.2.2.2.2.2.1 = nI (u.2.2.1.countP (fun r => !rt_sg r)) ∧ rt_pf dp u
def rt_mn (T : List tx_Tk) (M : rm_M) (j : Nat) (v : tx_U) : Prop := ∃ y, M.2.1 13 j = nI y ∧ rt_tok T y v.1 v.2.1
/-- a module that is done -/
def rt_F (T : List tx_Tk) (M : rm_M) (LO LI : Nat) (j : Nat) (v : tx_U) : Prop := rt_mn T M j v ∧ ∃ lo li fs fa b5 a c I, M.2.1 14 j = nI lo ∧ M.2.1 15 j = nI li ∧ M.2.1 16 j = nI fs ∧ M.2.1 17 j = nI fa ∧ M.2.1 14 (j + 1) = nI (lo + v.2.2.1.countP rt_sg) ∧ M.2.1 15 (j + 1) = nI (li + v.2.2.1.countP (fun r => !rt_sg r)) ∧ M.2.1 16 (j + 1) = nI (fs + b5) ∧ M.2.1 17 (j + 1) = nI (fa + a) ∧ lo + v.2.2.1.countP rt_sg ≤ LO ∧ li + v.2.2.1.countP (fun r => !rt_sg r) ≤ LI ∧ fs + b5 ≤ 20000 ∧ fa + a ≤ 20000 ∧ v.2.2.2.2.2.2.2.1 = nI b5 ∧ v.2.2.2.2.2.1 = nI a ∧ M.2.2.1 56 j = lN c ∧ c < 1000000000 ∧ v.2.2.2.2.2.2.2.2 = nI (min c 1501) ∧ rt_L T M lo li v.2.2.1 ∧ rt_or M lo li I v.2.2.1 ∧ rt_ct M lo 0 v ∧ rt_un v.2.2.1 ∧ I ≤ 10241
/-- rows below are as they were -/
def rt_pre (mc LO LI : Nat) (M M' : rm_M) : Prop := (∀ j, j < mc → M'.2.1 13 j = M.2.1 13 j) ∧ (∀ r, r = 14 ∨ r = 15 ∨ r = 16 ∨ r = 17 → ∀ j, j ≤ mc → M'.2.1 r j = M.2.1 r j) ∧ (∀ r, r = 19 ∨ r = 20 ∨ r = 21 ∨ r = 23 → ∀ j, j < LO → M'.2.1 r j = M.2.1 r j) ∧ (∀ r, r = 28 ∨ r = 29 → ∀ j, j < LI → M'.2.1 r j = M.2.1 r j) ∧ (∀ j, j < LO → M'.2.2.1 22 j = M.2.2.1 22 j) ∧ ∀ j, j < mc → M'.2.2.1 56 j = M.2.2.1 56 j
theorem rt_pre.rf (mc LO LI : Nat) (M : rm_M) : rt_pre mc LO LI M M := ⟨fun _ _ => rfl, fun _ _ _ _ => rfl, fun _ _ _ _ => rfl, fun _ _ _ _ => rfl, fun _ _ => rfl, fun _ _ => rfl⟩
theorem rt_pre.tr {mc LO LI : Nat} {M M1 M2 : rm_M} (h : rt_pre mc LO LI M M1) (h' : rt_pre mc LO LI M1 M2) : rt_pre mc LO LI M M2 := ⟨fun j z => (h'.1 j z).trans (h.1 j z), fun r y j z => (h'.2.1 r y j z).trans (h.2.1 r y j z), fun r y j z => (h'.2.2.1 r y j z).trans (h.2.2.1 r y j z), fun r y j z => (h'.2.2.2.1 r y j z).trans (h.2.2.2.1 r y j z), fun j z => (h'.2.2.2.2.1 j z).trans (h.2.2.2.2.1 j z), fun j z => (h'.2.2.2.2.2 j z).trans (h.2.2.2.2.2 j z)⟩
section RZT
variable {T : List tx_Tk} {M M' : rm_M} {L : List tx_N} {lo li : Nat}
theorem rt_sig.to {k : Nat} {r : tx_N} (h : rt_sig T M k r) (hr : ∀ x, x = 19 ∨ x = 20 ∨ x = 21 ∨ x = 23 → M'.2.1 x k = M.2.1 x k) (hl : M'.2.2.1 22 k = M.2.2.1 22 k) : rt_sig T M' k r := by
  unfold rt_sig at h ⊢
  rw [hr 19 (by simp), hr 20 (by simp), hr 21 (by simp), hr 23 (by simp), hl]
  exact h
theorem rt_ins.to {k : Nat} {r : tx_N} (h : rt_ins T M k r) (hr : ∀ x, x = 28 ∨ x = 29 → M'.2.1 x k = M.2.1 x k) : rt_ins T M' k r := by
  unfold rt_ins at h ⊢
  rw [hr 28 (by simp), hr 29 (by simp)]
  exact h
theorem rt_L.to {A B : Nat} (h : rt_L T M lo li L) (hA : lo + L.countP rt_sg ≤ A) (hB : li + L.countP (fun r => !rt_sg r) ≤ B) (hr : ∀ x, x = 19 ∨ x = 20 ∨ x = 21 ∨ x = 23 → ∀ k, k < A → M'.2.1 x k = M.2.1 x k) (hi : ∀ x, x = 28 ∨ x = 29 → ∀ k, k < B → M'.2.1 x k = M.2.1 x k) (hl : ∀ k, k < A → M'.2.2.1 22 k = M.2.2.1 22 k) : rt_L T M' lo li L := by
  intro q r hq
  obtain ⟨h1, h2⟩ := h q r hq
  refine ⟨fun z => (h1 z).to (fun x hx => hr x hx _ ?_) (hl _ ?_), fun z => (h2 z).to (fun x hx => hi x hx _ ?_)⟩
  · have := rt_lt hq z
    unfold rt_k; omega
  · have := rt_lt hq z
    unfold rt_k; omega
  · have := rt_lt (P := fun r => !rt_sg r) hq (by simp [z])
    unfold rt_j; omega
theorem rt_yq.to {A B q : Nat} {r : tx_N} (hq : L[q]? = some r) (hA : lo + L.countP rt_sg ≤ A) (hB : li + L.countP (fun r => !rt_sg r) ≤ B) (hr : ∀ k, k < A → M'.2.1 19 k = M.2.1 19 k) (hi : ∀ k, k < B → M'.2.1 29 k = M.2.1 29 k) : rt_yq M' lo li L q r = rt_yq M lo li L q r := by
  unfold rt_yq
  by_cases z : rt_sg r = true
  · rw [if_pos z, if_pos z, hr]
    have := rt_lt hq z
    unfold rt_k; omega
  · rw [if_neg z, if_neg z, hi]
    have := rt_lt (P := fun r => !rt_sg r) hq (by simpa using z)
    unfold rt_j; omega
theorem rt_or.to {A B I : Nat} (h : rt_or M lo li I L) (hA : lo + L.countP rt_sg ≤ A) (hB : li + L.countP (fun r => !rt_sg r) ≤ B) (hr : ∀ k, k < A → M'.2.1 19 k = M.2.1 19 k) (hi : ∀ k, k < B → M'.2.1 29 k = M.2.1 29 k) : rt_or M' lo li I L := by
  intro q r hq
  obtain ⟨y, h1, h2, h3⟩ := h q r hq
  refine ⟨y, by rw [rt_yq.to hq hA hB hr hi]; exact h1, h2, fun q' r' hq' hlt => ?_⟩
  obtain ⟨y', h4, h5⟩ := h3 q' r' hq' hlt
  exact ⟨y', by rw [rt_yq.to hq' hA hB hr hi]; exact h4, h5⟩
theorem rt_or.le {I I' : Nat} (h : rt_or M lo li I L) (hI : I ≤ I') : rt_or M lo li I' L := by
  intro q r hq
  obtain ⟨y, h1, h2, h3⟩ := h q r hq
  exact ⟨y, h1, by omega, h3⟩
theorem rt_ct.to {A dp : Nat} {u : tx_U} (h : rt_ct M lo dp u) (hA : lo + u.2.2.1.countP rt_sg ≤ A) (hr : ∀ x, x = 21 ∨ x = 23 → ∀ k, k < A → M'.2.1 x k = M.2.1 x k) : rt_ct M' lo dp u := by
  obtain ⟨⟨x, h0, h1⟩, h2, h3⟩ := h
  refine ⟨⟨x, h0, ?_⟩, ?_, h3.1, h3.2⟩
  · rw [h1]
    exact (rt_cn_eq (fun j _ hj => by rw [hr 21 (by simp) j (by omega)])).symm
  · rw [h2]
    congr 1
    exact (rt_cn_eq (fun j _ hj => by rw [hr 23 (by simp) j (by omega)])).symm
theorem rt_F.to {mc LO LI LO' LI' j : Nat} {v : tx_U} (h : rt_F T M LO LI j v) (hj : j < mc) (hp : rt_pre mc LO LI M M') (hLO : LO ≤ LO') (hLI : LI ≤ LI') : rt_F T M' LO' LI' j v := by
  obtain ⟨⟨y, y1, y2⟩, lo, li, fs, fa, b5, a, c, I, h1, h2, h3, h4, h5, h6, h7, h8, h9, h10, h11, h12, h13, h14, h15, h16, h17, h18, h19, h20, h21⟩ := h
  obtain ⟨p1, p2, p3, p4, p5, p6⟩ := hp
  refine ⟨⟨y, by rw [p1 j hj]; exact y1, y2⟩, lo, li, fs, fa, b5, a, c, I, ?_, ?_, ?_, ?_, ?_, ?_, ?_, ?_, by omega, by omega, h11, h12, h13, h14, ?_, h16, h17, h18.to h9 h10 (fun x hx k hk => p3 x hx k hk) (fun x hx k hk => p4 x hx k hk) (fun k hk => p5 k hk), h19.to h9 h10 (fun k hk => p3 19 (by simp) k hk) (fun k hk => p4 29 (by simp) k hk), h20.to h9 (fun x hx k hk => p3 x (by omega) k hk), h21⟩
  · rw [p2 14 (by simp) j (by omega)]; exact h1
  · rw [p2 15 (by simp) j (by omega)]; exact h2
  · rw [p2 16 (by simp) j (by omega)]; exact h3
  · rw [p2 17 (by simp) j (by omega)]; exact h4
  · rw [p2 14 (by simp) (j + 1) (by omega)]; exact h5
  · rw [p2 15 (by simp) (j + 1) (by omega)]; exact h6
  · rw [p2 16 (by simp) (j + 1) (by omega)]; exact h7
  · rw [p2 17 (by simp) (j + 1) (by omega)]; exact h8
  · rw [p6 j hj]; exact h15
/-- names that were changed where the tables don't look -/
theorem rt_F.nq {LO LI j q : Nat} {v : tx_U} {g : tx_N → tx_N} (hg : ∀ r, ∃ n m, g r = (r.1, r.2.1, r.2.2.1, r.2.2.2.1, r.2.2.2.2.1, r.2.2.2.2.2.1, r.2.2.2.2.2.2.1, r.2.2.2.2.2.2.2.1, n, m)) (h : rt_F T M LO LI j v) : rt_F T M LO LI j (tx_nq q g v) := by
  have hg1 : ∀ r, (g r).2.1 = r.2.1 := fun r => by obtain ⟨n, m, e⟩ := hg r; rw [e]
  obtain ⟨m1, m2, m3⟩ := rt_mod (L := v.2.2.1) (q := q) hg1
  have m4 : (v.2.2.1.modify q g).countP (fun r => !rt_sg r) = v.2.2.1.countP (fun r => !rt_sg r) := by
    have e : ∀ L : List tx_N, L.countP (fun r => !rt_sg r) = (rt_kk L).countP (fun k => !decide (¬ k = 5)) := fun L => by
      unfold rt_kk rt_sg
      rw [List.countP_map]
      rfl
    rw [e, e, rt_kk_mod hg1]
  have gx : ∀ (x : Nat) (r : tx_N), (v.2.2.1.modify q g)[x]? = some r → ∃ r0, v.2.2.1[x]? = some r0 ∧ (r = r0 ∨ r = g r0) := by
    intro x r hx
    rw [tx_gm] at hx
    by_cases z : x = q
    · rw [if_pos z] at hx
      cases hu : v.2.2.1[x]? with
      | none => rw [hu] at hx; cases hx
      | some r0 =>
        rw [hu] at hx
        cases hx
        exact ⟨r0, rfl, Or.inr rfl⟩
    · rw [if_neg z] at hx
      exact ⟨r, hx, Or.inl rfl⟩
  have hsg : ∀ r0, rt_sg (g r0) = rt_sg r0 := fun r0 => by unfold rt_sg; rw [hg1]
  obtain ⟨y, lo, li, fs, fa, b5, a, c, I, h1, h2, h3, h4, h5, h6, h7, h8, h9, h10, h11, h12, h13, h14, h15, h16, h17, h18, h19, h20, h21⟩ := h
  have hyq : ∀ (x : Nat) (r r0 : tx_N), (r = r0 ∨ r = g r0) → rt_yq M lo li (v.2.2.1.modify q g) x r = rt_yq M lo li v.2.2.1 x r0 := by
    intro x r r0 e
    unfold rt_yq
    rw [m2, m3]
    rcases e with e | e
    · rw [e]
    · rw [e, hsg]
  refine ⟨y, lo, li, fs, fa, b5, a, c, I, h1, h2, h3, h4, ?_, ?_, h7, h8, ?_, ?_, h11, h12, h13, h14, h15, h16, h17, fun x r hx => ?_, fun x r hx => ?_, ?_, fun x x' r r' hx hx' e => ?_, h21.2⟩
  · show M.2.1 14 (j + 1) = nI (lo + (v.2.2.1.modify q g).countP rt_sg)
    rw [m1]; exact h5
  · show M.2.1 15 (j + 1) = nI (li + (v.2.2.1.modify q g).countP (fun r => !rt_sg r))
    rw [m4]; exact h6
  · show lo + (v.2.2.1.modify q g).countP rt_sg ≤ LO
    rw [m1]; exact h9
  · show li + (v.2.2.1.modify q g).countP (fun r => !rt_sg r) ≤ LI
    rw [m4]; exact h10
  · obtain ⟨r0, g1, g2⟩ := gx x r hx
    have hb := h18 x r0 g1
    show (_ → rt_sig T M (lo + rt_k (v.2.2.1.modify q g) x) r) ∧ (_ → rt_ins T M (li + rt_j (v.2.2.1.modify q g) x) r)
    rw [m2, m3]
    rcases g2 with g2 | g2
    · rw [g2]; exact hb
    · obtain ⟨n, m, e⟩ := hg r0
      rw [g2, hsg, e]
      exact hb
  · obtain ⟨r0, g1, g2⟩ := gx x r hx
    obtain ⟨y0, k1, k2, k3⟩ := h19 x r0 g1
    refine ⟨y0, by rw [show (tx_nq q g v).2.2.1 = v.2.2.1.modify q g from rfl, hyq x r r0 g2]; exact k1, k2, fun x' r' hx' hlt => ?_⟩
    obtain ⟨r0', g1', g2'⟩ := gx x' r' hx'
    obtain ⟨y', k4, k5⟩ := k3 x' r0' g1' hlt
    exact ⟨y', by rw [show (tx_nq q g v).2.2.1 = v.2.2.1.modify q g from rfl, hyq x' r' r0' g2']; exact k4, k5⟩
  · obtain ⟨⟨x, c0, c1⟩, c2, c3, c4⟩ := h20
    refine ⟨⟨x, c0, ?_⟩, ?_, ?_, c4.kk (rt_kk_mod hg1)⟩
    · show x + 0 % 2 = rt_cn _ lo ((v.2.2.1.modify q g).countP rt_sg)
      rw [m1]; exact c1
    · show v.2.2.2.2.1 = nI (rt_cn _ lo ((v.2.2.1.modify q g).countP rt_sg))
      rw [m1]; exact c2
    · show v.2.2.2.2.2.2.1 = nI ((v.2.2.1.modify q g).countP (fun r => !rt_sg r))
      rw [m4]; exact c3
  · obtain ⟨r0, g1, g2⟩ := gx x r hx
    obtain ⟨r0', g1', g2'⟩ := gx x' r' hx'
    have ef : ∀ r r0 : tx_N, (r = r0 ∨ r = g r0) → r.1 = r0.1 := fun r r0 z => by
      rcases z with z | z
      · rw [z]
      · obtain ⟨n, m, e⟩ := hg r0
        rw [z, e]
    rw [ef r r0 g2, ef r' r0' g2'] at e
    exact h21.1 x x' r0 r0' g1 g1' e
end RZT

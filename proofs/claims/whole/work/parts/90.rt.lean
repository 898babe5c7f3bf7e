/-! THE SECOND PASS: the reference's tables of the module that is being read. -/
def rt_sg (r : tx_N) : Bool := decide (¬ r.2.1 = 5)
def rt_k (L : List tx_N) (q : Nat) : Nat := (L.take q).countP rt_sg
def rt_j (L : List tx_N) (q : Nat) : Nat := (L.take q).countP (fun r => !rt_sg r)
def rt_tok (T : List tx_Tk) (y : Nat) (x : tx_X) (pl : Nat) : Prop := y < T.length ∧ tx_ki T y = 19 ∧ (tx_ta T y).2.2.2.1 = x ∧ (tx_ta T y).2.1 = pl
/-- a local, an instance, in the rows -/
def rt_sig (T : List tx_Tk) (M : rm_M) (k : Nat) (r : tx_N) : Prop := (∃ y, M.2.1 19 k = nI y ∧ rt_tok T y r.1 r.2.2.2.1) ∧ M.2.1 20 k = r.2.2.1 ∧ rx_wd r.2.2.1 ∧ M.2.1 21 k = r.2.1 ∧ M.2.2.1 22 k = r.2.2.2.2.1 ∧ (M.2.1 23 k = 0 ↔ r.2.2.2.2.2.1 = false) ∧ (r.2.1 = 0 ∨ r.2.1 = 1 ∨ r.2.1 = 2 ∨ r.2.1 = 3 ∨ r.2.1 = 4) ∧ r.2.2.2.2.2.2.2.1 = none
def rt_ins (T : List tx_Tk) (M : rm_M) (k : Nat) (r : tx_N) : Prop := (∃ y, M.2.1 29 k = nI y ∧ rt_tok T y r.1 r.2.2.2.1) ∧ ∃ j, r.2.2.2.2.2.2.2.1 = some j ∧ M.2.1 28 k = nI j ∧ r.2.2.1 = 0 ∧ r.2.2.2.2.1 = 0
def rt_L (T : List tx_Tk) (M : rm_M) (lo li : Nat) (L : List tx_N) : Prop := ∀ q r, L[q]? = some r → (rt_sg r = true → rt_sig T M (lo + rt_k L q) r) ∧ (rt_sg r = false → rt_ins T M (li + rt_j L q) r)
/-- each name of the module is the one that its text leads to -/
def rt_U (s : tx_S) (u : tx_U) : Prop := (∀ q r, u.2.2.1[q]? = some r → ∃ X, r.1 = some X ∧ s.2.2.2.2 X = some (s.2.1.length, q)) ∧ ∀ X q, s.2.2.2.2 X = some (s.2.1.length, q) → ∃ r, u.2.2.1[q]? = some r ∧ r.1 = some X
def rt_C (T : List tx_Tk) (s : tx_S) (M : rm_M) (u : tx_U) (lo li : Nat) : Prop := s.2.2.1 = some u ∧ M.1 12 = nI s.2.1.length ∧ s.2.1.length < 3600 ∧ M.2.1 14 s.2.1.length = nI lo ∧ M.2.1 15 s.2.1.length = nI li ∧ M.1 18 = nI (lo + u.2.2.1.countP rt_sg) ∧ lo + u.2.2.1.countP rt_sg ≤ 11000 ∧ rt_L T M lo li u.2.2.1 ∧ rt_U s u
theorem rt_sur {α : Type} {P : α → Bool} : ∀ {L : List α} {m : Nat}, m < L.countP P → ∃ q r, L[q]? = some r ∧ P r = true ∧ (L.take q).countP P = m
  | [], m, h => absurd h (Nat.not_lt_zero _)
  | a :: L, m, h => by
    by_cases z : P a = true
    · rw [List.countP_cons_of_pos z] at h
      cases m with
      | zero => exact ⟨0, a, rfl, z, rfl⟩
      | succ m =>
        obtain ⟨q, r, h1, h2, h3⟩ := rt_sur (P := P) (L := L) (m := m) (by omega)
        refine ⟨q + 1, r, h1, h2, ?_⟩
        rw [List.take_succ_cons, List.countP_cons_of_pos z, h3]
    · rw [List.countP_cons_of_neg z] at h
      obtain ⟨q, r, h1, h2, h3⟩ := rt_sur h
      refine ⟨q + 1, r, h1, h2, ?_⟩
      rw [List.take_succ_cons, List.countP_cons_of_neg z, h3]
theorem rt_lt {α : Type} {P : α → Bool} : ∀ {L : List α} {q : Nat} {r : α}, L[q]? = some r → P r = true → (L.take q).countP P < L.countP P
  | [], q, r, h, _ => by simp at h
  | a :: L, 0, r, h, hP => by
    cases h
    rw [List.countP_cons_of_pos hP]
    exact Nat.succ_pos _
  | a :: L, q + 1, r, h, hP => by
    have := rt_lt (L := L) (q := q) (r := r) h hP
    rw [List.take_succ_cons]
    by_cases z : P a = true
    · rw [List.countP_cons_of_pos z, List.countP_cons_of_pos z]
      omega
    · rw [List.countP_cons_of_neg z, List.countP_cons_of_neg z]
      exact this
theorem rt_le {α : Type} {P : α → Bool} (L : List α) (q : Nat) : (L.take q).countP P ≤ L.countP P := List.Sublist.countP_le (List.take_sublist q L)
theorem rt_inj {α : Type} {P : α → Bool} : ∀ {L : List α} {q q' : Nat} {r r' : α}, L[q]? = some r → L[q']? = some r' → P r = true → q < q' → (L.take q).countP P < (L.take q').countP P := by
  intro L q q' r r' h h' hP hlt
  have h1 : (L.take q')[q]? = some r := by
    rw [List.getElem?_take]
    rw [if_pos hlt]
    exact h
  have := rt_lt (L := L.take q') h1 hP
  rw [List.take_take, Nat.min_eq_left (by omega)] at this
  exact this
theorem rm_sN_none {T : List tx_Tk} {g : Nat → Int32} {x : Nat} : ∀ {d lo : Nat}, (∀ j, lo ≤ j → j < lo + d → ¬ (tx_ta T (g j).toNatClampNeg).2.2.2.1 = (tx_ta T x).2.2.2.1) → rm_sN T g x lo d = none
  | 0, _, _ => rfl
  | d + 1, lo, h => by
    unfold rm_sN
    rw [if_neg (h lo (Nat.le_refl _) (by omega))]
    exact rm_sN_none (fun j h1 h2 => h j (by omega) (by omega))
theorem rm_sN_some {T : List tx_Tk} {g : Nat → Int32} {x k : Nat} : ∀ {d lo : Nat}, lo ≤ k → k < lo + d → (tx_ta T (g k).toNatClampNeg).2.2.2.1 = (tx_ta T x).2.2.2.1 → (∀ j, lo ≤ j → j < k → ¬ (tx_ta T (g j).toNatClampNeg).2.2.2.1 = (tx_ta T x).2.2.2.1) → rm_sN T g x lo d = some k
  | 0, lo, h1, h2, _, _ => by omega
  | d + 1, lo, h1, h2, h3, h4 => by
    unfold rm_sN
    by_cases z : k = lo
    · subst z
      rw [if_pos h3]
    · rw [if_neg (h4 lo (Nat.le_refl _) (by omega))]
      exact rm_sN_some (by omega) (by omega) h3 (fun j h5 h6 => h4 j (by omega) h6)
section RTC
variable {n : Nat} {T : List tx_Tk} {s : tx_S} {M M' : rm_M} {u : tx_U} {lo li : Nat}
theorem rm_T.nam (h : rm_T n T M) {x : Nat} (hx : x < T.length) (hk : tx_ki T x = 19) : ∃ X, (tx_ta T x).2.2.2.1 = some X := by
  have ht := h.tok hx
  have hk' : (tx_tok n (tx_at n (M.2.1 53)) (tx_ta T x).2.1).1 = 19 := by rw [← ht.2]; exact hk
  have := (rm_nam hk').2.2.1
  rw [← ht.2] at this
  exact ⟨_, this⟩
theorem rt_C.rc (h : rt_C T s M u lo li) (q : Nat) : s.rc q = u.2.2.1.getD q tx_n0 := by
  unfold tx_S.rc
  rw [h.1]
  rw [List.getD_eq_getElem?_getD]
  rfl
theorem rt_C.da (h : rt_C T s M u lo li) {X : List Int32} {q : Nat} : s.da (some X) = some q ↔ ∃ r, u.2.2.1[q]? = some r ∧ r.1 = some X := by
  constructor
  · intro z
    obtain ⟨X', e1, e2, -⟩ := tx_S.da_some z
    cases e1
    exact h.2.2.2.2.2.2.2.2.2 X q e2
  · rintro ⟨r, h1, h2⟩
    obtain ⟨X', e1, e2⟩ := h.2.2.2.2.2.2.2.2.1 q r h1
    rw [h2] at e1
    cases e1
    rw [tx_S.da_of h.1 e2, if_pos rfl]
/-- locals of the module -/
theorem rt_C.sig (h : rt_C T s M u lo li) {k : Nat} (h1 : lo ≤ k) (h2 : k < lo + u.2.2.1.countP rt_sg) : ∃ q r, u.2.2.1[q]? = some r ∧ rt_sg r = true ∧ k = lo + rt_k u.2.2.1 q ∧ rt_sig T M k r := by
  obtain ⟨q, r, a1, a2, a3⟩ := rt_sur (P := rt_sg) (L := u.2.2.1) (m := k - lo) (by omega)
  have e : k = lo + rt_k u.2.2.1 q := by
    unfold rt_k
    omega
  refine ⟨q, r, a1, a2, e, ?_⟩
  rw [e]
  exact (h.2.2.2.2.2.2.2.1 q r a1).1 a2
/-- which local a text names -/
theorem rt_C.sN (h : rt_C T s M u lo li) (hT : T.length ≤ 10241) {x : Nat} {X : List Int32} (hX : (tx_ta T x).2.2.2.1 = some X) : (rm_sN T (M.2.1 19) x lo (u.2.2.1.countP rt_sg) = none ∧ ∀ (q : Nat) (r : tx_N), u.2.2.1[q]? = some r → r.1 = some X → rt_sg r = false) ∨ ∃ (q : Nat) (r : tx_N), rm_sN T (M.2.1 19) x lo (u.2.2.1.countP rt_sg) = some (lo + rt_k u.2.2.1 q) ∧ u.2.2.1[q]? = some r ∧ r.1 = some X ∧ rt_sg r = true ∧ s.da (some X) = some q := by
  have htx : ∀ k, lo ≤ k → k < lo + u.2.2.1.countP rt_sg → ∀ (q : Nat) (r : tx_N), u.2.2.1[q]? = some r → rt_sig T M k r → (tx_ta T (M.2.1 19 k).toNatClampNeg).2.2.2.1 = r.1 := by
    intro k h1 h2 q r h3 h4
    obtain ⟨⟨y, y1, y2, y3, y4, y5⟩, -⟩ := h4
    rw [y1, nI_clamp (by omega), y4]
  by_cases z : ∃ (q : Nat) (r : tx_N), u.2.2.1[q]? = some r ∧ r.1 = some X ∧ rt_sg r = true
  · obtain ⟨q, r, z1, z2, z3⟩ := z
    refine Or.inr ⟨q, r, ?_, z1, z2, z3, h.da.mpr ⟨r, z1, z2⟩⟩
    have hs := (h.2.2.2.2.2.2.2.1 q r z1).1 z3
    have hlt : rt_k u.2.2.1 q < u.2.2.1.countP rt_sg := rt_lt z1 z3
    refine rm_sN_some (by omega) (by omega) ?_ (fun j h1 h2 => ?_)
    · rw [htx _ (by omega) (by omega) q r z1 hs, z2, hX]
    · obtain ⟨q', r', a1, a2, a3, a4⟩ := h.sig h1 (by omega)
      rw [htx j h1 (by omega) q' r' a1 a4, hX]
      intro e
      have e1 := h.da.mpr ⟨r, z1, z2⟩
      have e2 := h.da.mpr ⟨r', a1, e⟩
      rw [e1] at e2
      cases e2
      omega
  · refine Or.inl ⟨?_, fun q r h1 h2 => ?_⟩
    · refine rm_sN_none (fun j h1 h2 => ?_)
      obtain ⟨q', r', a1, a2, a3, a4⟩ := h.sig h1 h2
      rw [htx j h1 h2 q' r' a1 a4, hX]
      intro e
      exact z ⟨q', r', a1, e, a2⟩
    · cases hh : rt_sg r with
      | false => rfl
      | true => exact absurd ⟨q, r, h1, h2, hh⟩ z
theorem rt_C.nN (h : rt_C T s M u lo li) : rm_nN T (M.2.1 19) lo (lo + u.2.2.1.countP rt_sg) := by
  intro q h1 h2
  obtain ⟨q', r', a1, a2, a3, ⟨y, y1, y2, y3, y4⟩, -⟩ := h.sig h1 h2
  exact ⟨y, y1, y2, y3⟩
theorem rt_C.B (hT : rm_T n T M) (h : rt_C T s M u lo li) : rx_B n T s M := by
  have hl : T.length ≤ 10241 := by
    have := hT.len
    have := hT.2.1
    omega
  have em : rx_m M = s.2.1.length := by
    unfold rx_m
    rw [h.2.1, nI_clamp (by have := h.2.2.1; omega)]
  refine ⟨hT, by rw [em]; exact h.2.1, by rw [em]; exact h.2.2.1, lo, lo + u.2.2.1.countP rt_sg, by rw [em]; exact h.2.2.2.1, h.2.2.2.2.2.1, by omega, h.2.2.2.2.2.2.1, h.nN, fun x hx hk => ?_⟩
  obtain ⟨X, hX⟩ := hT.nam hx hk
  rw [show lo + u.2.2.1.countP rt_sg - lo = u.2.2.1.countP rt_sg by omega]
  rcases h.sN hl hX with ⟨a1, a2⟩ | ⟨q, r, a1, a2, a3, a4, a5⟩
  · refine Or.inl ⟨a1, ?_⟩
    unfold tx_used
    rw [hX]
    cases hd : s.da (some X) with
    | none => rfl
    | some q =>
      obtain ⟨r, r1, r2⟩ := h.da.mp hd
      have hs := a2 q r r1 r2
      have e5 : (s.rc q).2.1 = 5 := by
        rw [h.rc, List.getD_eq_getElem?_getD, r1]
        unfold rt_sg at hs
        simpa using hs
      show (if _ then _ else _ : Option Nat × tx_S).1 = none
      rw [if_pos e5]
  · have hs := (h.2.2.2.2.2.2.2.1 q r a2).1 a4
    have hlt : rt_k u.2.2.1 q < u.2.2.1.countP rt_sg := rt_lt a2 a4
    have er : s.rc q = r := by rw [h.rc, List.getD_eq_getElem?_getD, a2]; rfl
    have e5 : ¬ (s.rc q).2.1 = 5 := by
      rw [er]
      unfold rt_sg at a4
      simpa using a4
    have ew : s.wo (some q) = r.2.2.1 := by
      show (s.rc q).2.2.1 = _
      rw [er]
    refine Or.inr ⟨lo + rt_k u.2.2.1 q, q, a1, ?_, by have := h.2.2.2.2.2.2.1; omega, by rw [ew]; exact hs.2.1, by rw [ew]; exact hs.2.2.1⟩
    unfold tx_used
    rw [hX, a5]
    show (if _ then _ else _ : Option Nat × tx_S).1 = some q
    rw [if_neg e5]
end RTC

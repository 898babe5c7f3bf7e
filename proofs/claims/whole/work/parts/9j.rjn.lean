/-! THE SECOND PASS: the ports of a module that is done. -/
def rj_p (r : tx_N) : Bool := decide (r.2.1 < 3)
/-- linked by the name q of the module a -/
def rj_by (a q : Nat) (r : tx_N) : Bool := decide (r.2.2.2.2.2.2.2.2.2 = some (a, q))
def rj_pf (L : List tx_N) : Prop := ∀ (q q' : Nat) (r r' : tx_N), L[q]? = some r → L[q']? = some r' → q < q' → r'.2.1 < 3 → r.2.1 < 3
theorem rj_pf.tl {a : tx_N} {L : List tx_N} (h : rj_pf (a :: L)) : rj_pf L := fun q q' r r' h1 h2 hlt h3 => h (q + 1) (q' + 1) r r' h1 h2 (by omega) h3
theorem rj_pf.ix : ∀ {L : List tx_N}, rj_pf L → ∀ {q : Nat} {r : tx_N}, L[q]? = some r → (r.2.1 < 3 ↔ q < L.countP rj_p)
  | [], _, q, r, h => by simp at h
  | a :: L, hp, q, r, h => by
    by_cases z : a.2.1 < 3
    · rw [List.countP_cons_of_pos (show rj_p a = true from decide_eq_true z)]
      cases q with
      | zero =>
        cases h
        exact ⟨fun _ => by omega, fun _ => z⟩
      | succ q =>
        have := rj_pf.ix hp.tl (q := q) (r := r) h
        rw [this]
        omega
    · have h0 : L.countP rj_p = 0 := by
        rw [List.countP_eq_zero]
        intro x hx
        obtain ⟨k, hk⟩ := List.getElem?_of_mem hx
        unfold rj_p
        intro y
        exact z (hp 0 (k + 1) a x rfl hk (by omega) (of_decide_eq_true y))
      rw [List.countP_cons_of_neg (show ¬ rj_p a = true from fun y => z (of_decide_eq_true y)), h0]
      cases q with
      | zero =>
        cases h
        exact ⟨fun y => absurd y z, fun y => by omega⟩
      | succ q => exact ⟨fun y => absurd (hp 0 (q + 1) a r rfl h (by omega) y) z, fun y => by omega⟩
theorem rj_cnt {P Q : tx_N → Bool} : ∀ {L : List tx_N}, (∀ r ∈ L, Q r = true → P r = true) → L.countP Q ≤ L.countP P ∧ (L.countP Q = L.countP P ↔ ∀ r ∈ L, P r = true → Q r = true)
  | [], _ => ⟨Nat.le_refl _, ⟨fun _ r hr => (by cases hr), fun _ => rfl⟩⟩
  | a :: L, h => by
    obtain ⟨i1, i2⟩ := rj_cnt (P := P) (Q := Q) (L := L) (fun r hr => h r (List.mem_cons_of_mem _ hr))
    have ha := h a (List.mem_cons_self ..)
    by_cases zP : P a = true
    · rw [List.countP_cons_of_pos zP]
      by_cases zQ : Q a = true
      · rw [List.countP_cons_of_pos zQ]
        refine ⟨by omega, fun e r hr hP => ?_, fun e => ?_⟩
        · rcases List.mem_cons.mp hr with y | y
          · rw [y]; exact zQ
          · exact i2.mp (by omega) r y hP
        · have := i2.mpr (fun r hr => e r (List.mem_cons_of_mem _ hr))
          omega
      · rw [List.countP_cons_of_neg zQ]
        refine ⟨by omega, fun e => by omega, fun e => absurd (e a (List.mem_cons_self ..) zP) zQ⟩
    · have zQ : ¬ Q a = true := fun y => zP (ha y)
      rw [List.countP_cons_of_neg zP, List.countP_cons_of_neg zQ]
      refine ⟨i1, fun e r hr hP => ?_, fun e => i2.mpr (fun r hr => e r (List.mem_cons_of_mem _ hr))⟩
      rcases List.mem_cons.mp hr with y | y
      · rw [y] at hP; exact absurd hP zP
      · exact i2.mp e r y hP
theorem rt_cn_fr {g : Nat → Bool} : ∀ (d lo : Nat), rt_cn g lo (d + 1) = rt_cn g (lo + 1) d + (if g lo = true then 1 else 0)
  | 0, lo => by
    show 0 + (if g (lo + 0) = true then 1 else 0) = 0 + _
    rfl
  | d + 1, lo => by
    show rt_cn g lo (d + 1) + (if g (lo + (d + 1)) = true then 1 else 0) = rt_cn g (lo + 1) d + (if g (lo + 1 + d) = true then 1 else 0) + _
    rw [rt_cn_fr d lo, show lo + (d + 1) = lo + 1 + d by omega]
    omega
theorem rt_cn_P {P : tx_N → Bool} (hP : ∀ r, P r = true → rt_sg r = true) : ∀ {L : List tx_N} {lo : Nat} {g : Nat → Bool}, (∀ (q : Nat) (r : tx_N), L[q]? = some r → rt_sg r = true → g (lo + rt_k L q) = P r) → rt_cn g lo (L.countP rt_sg) = L.countP P
  | [], lo, g, _ => rfl
  | a :: L, lo, g, h => by
    have hk : ∀ q, rt_k (a :: L) (q + 1) = rt_k L q + (if rt_sg a = true then 1 else 0) := by
      intro q
      unfold rt_k
      rw [List.take_succ_cons]
      by_cases z : rt_sg a = true
      · rw [List.countP_cons_of_pos z, if_pos z]
      · rw [List.countP_cons_of_neg z, if_neg z]; rfl
    by_cases z : rt_sg a = true
    · rw [List.countP_cons_of_pos z, rt_cn_fr]
      have h0 : g lo = P a := h 0 a rfl z
      rw [rt_cn_P hP (L := L) (lo := lo + 1) (g := g) (fun q r hq hr => by
        have := h (q + 1) r hq hr
        rw [hk, if_pos z] at this
        rw [← this]
        congr 1
        omega), h0]
      by_cases y : P a = true
      · rw [List.countP_cons_of_pos y, if_pos y]
      · rw [List.countP_cons_of_neg y, if_neg y]; rfl
    · have y : ¬ P a = true := fun y => z (hP a y)
      rw [List.countP_cons_of_neg z, List.countP_cons_of_neg y]
      exact rt_cn_P hP (fun q r hq hr => by
        have := h (q + 1) r hq hr
        rw [hk, if_neg z] at this
        exact this)
/-- which port a text names -/
theorem tx_po_s {u : tx_U} {x : tx_X} {P q : Nat} {r : tx_N} (hP : u.2.2.2.1 = nI P) (hP2 : P < 2147483648) (hq : u.2.2.1[q]? = some r) (hr : r.1 = x) (hqP : q < P) (hun : rt_un u.2.2.1) : ∀ (m k : Nat), k ≤ q → q < k + m → tx_po u x m k = some q
  | 0, k, h1, h2 => by omega
  | m + 1, k, h1, h2 => by
    unfold tx_po
    rw [hP, if_pos (nI_lt (by omega) hP2)]
    by_cases z : k = q
    · subst z
      rw [List.getD_eq_getElem?_getD, hq]
      exact if_pos hr
    · have hk : k < u.2.2.1.length := by have := tx_len hq; omega
      have hk' := List.getElem?_eq_getElem hk
      rw [if_neg (fun e => by
        rw [List.getD_eq_getElem?_getD, hk'] at e
        exact z (hun k q _ r hk' hq (Eq.trans e hr.symm)))]
      exact tx_po_s hP hP2 hq hr hqP hun m (k + 1) (by omega) (by omega)
theorem tx_po_n {u : tx_U} {x : tx_X} {P : Nat} (hP : u.2.2.2.1 = nI P) (hP2 : P < 2147483648) (hl : u.2.2.1.length < 2147483648) (h : ∀ (q : Nat) (r : tx_N), u.2.2.1[q]? = some r → q < P → ¬ r.1 = x) : ∀ (m k : Nat), k + m ≤ u.2.2.1.length → tx_po u x m k = none
  | 0, _, _ => rfl
  | m + 1, k, h1 => by
    unfold tx_po
    by_cases z : k < P
    · rw [hP, if_pos (nI_lt z hP2)]
      have hk : k < u.2.2.1.length := by omega
      have hk' := List.getElem?_eq_getElem hk
      rw [if_neg (fun e => by
        rw [List.getD_eq_getElem?_getD, hk'] at e
        exact h k _ hk' z e)]
      exact tx_po_n hP hP2 hl h m (k + 1) (by omega)
    · rw [hP, if_neg (nI_nlt (by omega) (by omega))]
theorem rm_lk_none {g : Nat → Int32} {x : Int32} : ∀ {d lo : Nat}, (∀ k, lo ≤ k → k < lo + d → ¬ g k = x) → rm_lk g x lo d = none
  | 0, _, _ => rfl
  | d + 1, lo, h => by
    unfold rm_lk
    rw [if_neg (h lo (Nat.le_refl _) (by omega))]
    exact rm_lk_none (fun k h1 h2 => h k (by omega) (by omega))
theorem rm_lk_ex {g : Nat → Int32} {x : Int32} : ∀ {d lo k : Nat}, lo ≤ k → k < lo + d → g k = x → ∃ k', rm_lk g x lo d = some k' ∧ k' < lo + d
  | 0, lo, k, h1, h2, _ => by omega
  | d + 1, lo, k, h1, h2, h3 => by
    unfold rm_lk
    by_cases z : g lo = x
    · rw [if_pos z]
      exact ⟨lo, rfl, by omega⟩
    · rw [if_neg z]
      have : lo ≠ k := fun y => z (by rw [y]; exact h3)
      obtain ⟨k', e1, e2⟩ := rm_lk_ex (d := d) (lo := lo + 1) (k := k) (by omega) (by omega) h3
      exact ⟨k', e1, by omega⟩
/-- what a link asks of a module that is done -/
def rj_F (T : List tx_Tk) (M : rm_M) (m : Nat) (v : tx_U) (lo : Nat) : Prop := M.2.1 14 m = nI lo ∧ M.2.1 14 (m + 1) = nI (lo + v.2.2.1.countP rt_sg) ∧ lo + v.2.2.1.countP rt_sg ≤ 11000 ∧ (∀ (q : Nat) (r : tx_N), v.2.2.1[q]? = some r → rt_sg r = true → rt_sig T M (lo + rt_k v.2.2.1 q) r) ∧ v.2.2.2.1 = nI (v.2.2.1.countP rj_p) ∧ rj_pf v.2.2.1 ∧ rt_un v.2.2.1 ∧ v.2.2.1.length ≤ 30000
section RJN
variable {T : List tx_Tk} {M M' : rm_M} {v : tx_U} {lo m LO LI : Nat}
theorem rj_p_sg (r : tx_N) (h : rj_p r = true) : rt_sg r = true := by
  unfold rt_sg
  apply decide_eq_true
  intro z
  have : r.2.1 < 3 := of_decide_eq_true h
  rw [z] at this
  exact absurd this (by decide)
theorem rt_F.j (h : rt_F T M LO LI m v) (hLO : LO ≤ 11000) (hLI : LI ≤ 11000) : ∃ lo, rj_F T M m v lo ∧ lo + v.2.2.1.countP rt_sg ≤ LO := by
  obtain ⟨-, lo, li, fs, fa, b5, a, c, I, h1, h2, h3, h4, h5, h6, h7, h8, h9, h10, h11, h12, h13, h14, h15, h16, h17, h18, h19, h20, h21⟩ := h
  obtain ⟨⟨x, x1, x2⟩, -, -, x5⟩ := h20
  have hs : ∀ (q : Nat) (r : tx_N), v.2.2.1[q]? = some r → rt_sg r = true → rt_sig T M (lo + rt_k v.2.2.1 q) r := fun q r hq hr => (h18 q r hq).1 hr
  refine ⟨lo, ⟨h1, h5, by omega, hs, ?_, x5.2, h21.1, ?_⟩, h9⟩
  · rw [x1]
    have e := rt_cn_P (P := rj_p) rj_p_sg (L := v.2.2.1) (lo := lo) (g := fun k => decide (M.2.1 21 k < 3)) (fun q r hq hr => by
      show decide (M.2.1 21 (lo + rt_k v.2.2.1 q) < 3) = _
      rw [(hs q r hq hr).2.2.2.1]
      rfl)
    rw [← e]
    congr 1
  · have e : v.2.2.1.length = v.2.2.1.countP rt_sg + v.2.2.1.countP (fun r => !rt_sg r) := by
      rw [List.length_eq_countP_add_countP rt_sg]
      congr 1
      apply List.countP_congr
      intro x _
      simp
    omega
/-- a local of that module -/
theorem rj_F.sig (h : rj_F T M m v lo) {k : Nat} (h1 : lo ≤ k) (h2 : k < lo + v.2.2.1.countP rt_sg) : ∃ q r, v.2.2.1[q]? = some r ∧ rt_sg r = true ∧ k = lo + rt_k v.2.2.1 q ∧ rt_sig T M k r := by
  obtain ⟨q, r, a1, a2, a3⟩ := rt_sur (P := rt_sg) (L := v.2.2.1) (m := k - lo) (by omega)
  have e : k = lo + rt_k v.2.2.1 q := by
    unfold rt_k
    omega
  refine ⟨q, r, a1, a2, e, ?_⟩
  rw [e]
  exact h.2.2.2.1 q r a1 a2
theorem rj_F.nN (h : rj_F T M m v lo) : rm_nN T (M.2.1 19) lo (lo + v.2.2.1.countP rt_sg) := by
  intro q h1 h2
  obtain ⟨q', r', a1, a2, a3, ⟨y, y1, y2, y3, y4⟩, -⟩ := h.sig h1 h2
  exact ⟨y, y1, y2, y3⟩
theorem rj_F.sN (h : rj_F T M m v lo) (hT : T.length ≤ 10241) {x : Nat} {X : List Int32} (hX : (tx_ta T x).2.2.2.1 = some X) : (rm_sN T (M.2.1 19) x lo (v.2.2.1.countP rt_sg) = none ∧ ∀ (q : Nat) (r : tx_N), v.2.2.1[q]? = some r → r.1 = some X → rt_sg r = false) ∨ ∃ (q : Nat) (r : tx_N), rm_sN T (M.2.1 19) x lo (v.2.2.1.countP rt_sg) = some (lo + rt_k v.2.2.1 q) ∧ v.2.2.1[q]? = some r ∧ r.1 = some X ∧ rt_sg r = true := by
  have htx : ∀ k, ∀ (r : tx_N), rt_sig T M k r → (tx_ta T (M.2.1 19 k).toNatClampNeg).2.2.2.1 = r.1 := by
    intro k r h4
    obtain ⟨⟨y, y1, y2, y3, y4, y5⟩, -⟩ := h4
    rw [y1, nI_clamp (by omega), y4]
  have hun := h.2.2.2.2.2.2.1
  by_cases z : ∃ (q : Nat) (r : tx_N), v.2.2.1[q]? = some r ∧ r.1 = some X ∧ rt_sg r = true
  · obtain ⟨q, r, z1, z2, z3⟩ := z
    refine Or.inr ⟨q, r, ?_, z1, z2, z3⟩
    have hs := h.2.2.2.1 q r z1 z3
    have hlt : rt_k v.2.2.1 q < v.2.2.1.countP rt_sg := rt_lt z1 z3
    refine rm_sN_some (by omega) (by omega) ?_ (fun j h1 h2 => ?_)
    · rw [htx _ r hs, z2, hX]
    · obtain ⟨q', r', a1, a2, a3, a4⟩ := h.sig h1 (by omega)
      rw [htx j r' a4, hX]
      intro e
      have := hun q q' r r' z1 a1 (by rw [z2, e])
      subst this
      omega
  · refine Or.inl ⟨?_, fun q r h1 h2 => ?_⟩
    · refine rm_sN_none (fun j h1 h2 => ?_)
      obtain ⟨q', r', a1, a2, a3, a4⟩ := h.sig h1 h2
      rw [htx j r' a4, hX]
      intro e
      exact z ⟨q', r', a1, e, a2⟩
    · cases hh : rt_sg r with
      | false => rfl
      | true => exact absurd ⟨q, r, h1, h2, hh⟩ z
/-- .. and which port -/
theorem rj_F.po (h : rj_F T M m v lo) {q : Nat} {r : tx_N} {X : List Int32} (h1 : v.2.2.1[q]? = some r) (h2 : r.1 = some X) (h3 : r.2.1 < 3) : tx_port v (some X) = some q := by
  have hq := (rj_pf.ix h.2.2.2.2.2.1 h1).mp h3
  have hl := h.2.2.2.2.2.2.2
  have hc : v.2.2.1.countP rj_p ≤ v.2.2.1.length := List.countP_le_length
  exact tx_po_s h.2.2.2.2.1 (by omega) h1 h2 hq h.2.2.2.2.2.2.1 _ 0 (Nat.zero_le _) (by have := tx_len h1; omega)
theorem rj_F.po0 (h : rj_F T M m v lo) {X : List Int32} (h1 : ∀ (q : Nat) (r : tx_N), v.2.2.1[q]? = some r → r.1 = some X → ¬ r.2.1 < 3) : tx_port v (some X) = none := by
  have hl := h.2.2.2.2.2.2.2
  have hc : v.2.2.1.countP rj_p ≤ v.2.2.1.length := List.countP_le_length
  exact tx_po_n h.2.2.2.2.1 (by omega) (by omega) (fun q r hq hlt e => h1 q r hq e ((rj_pf.ix h.2.2.2.2.2.1 hq).mpr hlt)) _ 0 (by omega)
end RJN

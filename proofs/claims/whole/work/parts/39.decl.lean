/-! MEANING: a name is declared. -/
/-- a new name's place, its list's array and that one's places -/
def tx_A.ad (A : tx_A) (n i x ed cap : Nat) : tx_A := (A.1, A.2.1, (A.nl, va_up A.ne n ed, va_up A.nc n cap), (fun j q => if j = n ∧ q = i then x else A.na j q), A.wf)
section TXD
variable {k : cx_K} {F : Nat → Prop} {G G2 G3 : cx_G} {A : tx_A} {s : tx_S} {u : tx_U} {r : tx_N} {x ed cap : Nat}
theorem tx_A.ad_na {n i j q : Nat} (h : ¬ (j = n ∧ q = i)) : (A.ad n i x ed cap).na j q = A.na j q := if_neg h
theorem tx_A.ad_nm {j : Nat} {r : tx_N} {n i : Nat} (h : ∀ y : Nat × Nat, r.2.2.2.2.2.2.2.2.2 = some y → ¬ (y.1 = n ∧ y.2 = i)) : tx_nm (A.ad n i x ed cap) j r = tx_nm A j r := by
  unfold tx_nm
  have e : r.2.2.2.2.2.2.2.2.2.map (fun y => (A.ad n i x ed cap).na y.1 y.2) = r.2.2.2.2.2.2.2.2.2.map (fun y => A.na y.1 y.2) := by
    cases hl : r.2.2.2.2.2.2.2.2.2 with
    | none => rfl
    | some y =>
      show some ((A.ad n i x ed cap).na y.1 y.2) = some (A.na y.1 y.2)
      rw [tx_A.ad_na (h y hl)]
  rw [e]
  rfl
/-- what is there does not lie at the new place -/
theorem tx_mI.no (hI : tx_mI s) (hu : s.2.2.1 = some u) {j i : Nat} {uj : tx_U} (hj : s.all[j]? = some uj) (hi : i < uj.2.2.1.length) : ¬ (j = s.2.1.length ∧ i = u.2.2.1.length) := fun ⟨e1, e2⟩ => by
  subst e1
  cases (tx_S.cur hu).symm.trans hj
  omega
theorem tx_m.adI (hI : tx_mI s) (hu : s.2.2.1 = some u) (hof : r.2.2.2.2.2.2.2.1 = none) (hlb : r.2.2.2.2.2.2.2.2.2 = none) (hn : u.2.2.1.length + 1 < 100000) : tx_mI (s.ad r) := by
  obtain ⟨h1, h2, h3, h4⟩ := hI
  have hll : (u.2.2.1 ++ [r]).length = u.2.2.1.length + 1 := by rw [List.length_append]; rfl
  have hva : ∀ (i q : Nat), (∃ u' : tx_U, s.all[i]? = some u' ∧ q < u'.2.2.1.length) → ∃ u' : tx_U, (s.ad r).all[i]? = some u' ∧ q < u'.2.2.1.length := by
    intro i q ⟨u', z1, z2⟩
    rw [tx_S.ad_get hu]
    by_cases e : i = s.2.1.length
    · rw [if_pos e]
      subst e
      cases (tx_S.cur hu).symm.trans z1
      exact ⟨_, rfl, by show q < (u.2.2.1 ++ [r]).length; omega⟩
    · rw [if_neg e]
      exact ⟨u', z1, z2⟩
  have hal : (s.ad r).all.length = s.all.length := by
    unfold tx_S.all tx_S.ad
    show (s.2.1 ++ (s.2.2.1.map (tx_adn r)).toList).length = _
    rw [hu, List.length_append, List.length_append]
    rfl
  refine ⟨h1, fun T y hy => ?_, by rw [hal]; exact h3, fun j uj hj => ?_⟩
  · have hy9 : (if r.1 = some T then some (s.2.1.length, s.uu.2.2.1.length) else s.2.2.2.2 T) = some y := hy
    by_cases e : r.1 = some T
    · rw [if_pos e] at hy9
      cases hy9
      refine ⟨tx_adn r u, by rw [tx_S.ad_get hu, if_pos rfl], ?_⟩
      show s.uu.2.2.1.length < (u.2.2.1 ++ [r]).length
      rw [show s.uu = u by unfold tx_S.uu; rw [hu]; rfl, hll]
      omega
    · rw [if_neg e] at hy9
      exact hva _ _ (h2 T y hy9)
  · rw [tx_S.ad_get hu] at hj
    by_cases e : j = s.2.1.length
    · rw [if_pos e] at hj
      cases hj
      refine ⟨by show (u.2.2.1 ++ [r]).length < _; omega, fun q r9 hr9 => ?_⟩
      have hr8 : (u.2.2.1 ++ [r])[q]? = some r9 := hr9
      rcases Nat.lt_or_ge q u.2.2.1.length with z | z
      · rw [List.getElem?_append_left z] at hr8
        obtain ⟨y1, y2⟩ := (h4 _ u (tx_S.cur hu)).2 q r9 hr8
        exact ⟨y1, fun y hy => hva _ _ (y2 y hy)⟩
      · rw [List.getElem?_append_right z] at hr8
        have hq0 : q - u.2.2.1.length = 0 := by
          have := (List.getElem?_eq_some_iff.mp hr8).1
          have h1l : [r].length = 1 := rfl
          omega
        rw [hq0] at hr8
        cases hr8
        exact ⟨fun j' z => (by rw [hof] at z; cases z), fun y z => (by rw [hlb] at z; cases z)⟩
    · rw [if_neg e] at hj
      obtain ⟨y1, y2⟩ := h4 j uj hj
      exact ⟨y1, fun q r9 hr9 => ⟨(y2 q r9 hr9).1, fun y hy => hva _ _ ((y2 q r9 hr9).2 y hy)⟩⟩
theorem tx_S.ad_in {s : tx_S} {u : tx_U} (hu : s.2.2.1 = some u) {r : tx_N} {j : Nat} {u' : tx_U} (h : (s.ad r).all[j]? = some u') : (j = s.2.1.length ∧ u' = tx_adn r u) ∨ (j ≠ s.2.1.length ∧ s.all[j]? = some u') := by
  rw [tx_S.ad_get hu] at h
  by_cases e : j = s.2.1.length
  · rw [if_pos e] at h
    cases h
    exact Or.inl ⟨e, rfl⟩
  · rw [if_neg e] at h
    exact Or.inr ⟨e, h⟩
theorem tx_mF.ad (h : tx_mF F A s.all) (hu : s.2.2.1 = some u) (hx : ¬ F x) (hed : ¬ F ed) : tx_mF F (A.ad s.2.1.length u.2.2.1.length x ed cap) (s.ad r).all := by
  obtain ⟨f1, f2, f3, f4, f5, f6⟩ := h
  refine ⟨f1, f2, f3, f4, fun j u' hj => ?_, f6⟩
  have hll : (u.2.2.1 ++ [r]).length = u.2.2.1.length + 1 := by rw [List.length_append]; rfl
  rcases tx_S.ad_in hu hj with ⟨e, e2⟩ | ⟨e, hj'⟩
  · subst e2
    obtain ⟨g1, g2, g3, g4⟩ := f5 _ u (tx_S.cur hu)
    rw [e]
    refine ⟨g1, g2, fun _ => ?_, fun q hq => ?_⟩
    · show ¬ F (va_up A.ne s.2.1.length ed s.2.1.length)
      unfold va_up
      rw [if_pos rfl]
      exact hed
    · have hq9 : q < (u.2.2.1 ++ [r]).length := hq
      by_cases z : q = u.2.2.1.length
      · rw [show (A.ad s.2.1.length u.2.2.1.length x ed cap).na s.2.1.length q = x from if_pos ⟨rfl, z⟩]
        exact hx
      · rw [tx_A.ad_na (fun y => z y.2)]
        exact g4 q (by omega)
  · obtain ⟨g1, g2, g3, g4⟩ := f5 j u' hj'
    refine ⟨g1, g2, fun hc => ?_, fun q hq => ?_⟩
    · have hc9 : va_up A.nc s.2.1.length cap j ≠ 0 := hc
      show ¬ F (va_up A.ne s.2.1.length ed j)
      unfold va_up at hc9 ⊢
      rw [if_neg e] at hc9 ⊢
      exact g3 hc9
    · rw [tx_A.ad_na (fun y => e y.1)]
      exact g4 q hq
theorem tx_mU.ad (h : tx_mU G A s.all) (hu : s.2.2.1 = some u) : tx_mU G (A.ad s.2.1.length u.2.2.1.length x ed cap) (s.ad r).all := by
  intro j u' hj
  rcases tx_S.ad_in hu hj with ⟨e, e2⟩ | ⟨e, hj'⟩
  · subst e2
    rw [e]
    exact h _ u (tx_S.cur hu)
  · exact h j u' hj'
theorem tx_mN.ad (h : tx_mN G A s.all) (hI : tx_mI s) (hu : s.2.2.1 = some u) (hlb : r.2.2.2.2.2.2.2.2.2 = none) (hx : G.1 x = some (tx_nm A s.2.1.length r)) : tx_mN G (A.ad s.2.1.length u.2.2.1.length x ed cap) (s.ad r).all := by
  intro j u' hj q r' hr'
  have old : ∀ (j : Nat) (uj : tx_U) (q : Nat) (r' : tx_N), s.all[j]? = some uj → uj.2.2.1[q]? = some r' → G.1 ((A.ad s.2.1.length u.2.2.1.length x ed cap).na j q) = some (tx_nm (A.ad s.2.1.length u.2.2.1.length x ed cap) j r') := by
    intro j uj q r' hj hr'
    rw [tx_A.ad_na (hI.no hu hj (List.getElem?_eq_some_iff.mp hr').1), tx_A.ad_nm (fun y hy => by
      obtain ⟨uy, z1, z2⟩ := ((hI.2.2.2 j uj hj).2 q r' hr').2 y hy
      exact hI.no hu z1 z2)]
    exact h j uj hj q r' hr'
  rcases tx_S.ad_in hu hj with ⟨e, e2⟩ | ⟨e, hj'⟩
  · subst e2
    have hr8 : (u.2.2.1 ++ [r])[q]? = some r' := hr'
    rcases Nat.lt_or_ge q u.2.2.1.length with z | z
    · rw [List.getElem?_append_left z] at hr8
      rw [e]
      exact old _ u q r' (tx_S.cur hu) hr8
    · rw [List.getElem?_append_right z] at hr8
      have hq0 : q - u.2.2.1.length = 0 := by
        have := (List.getElem?_eq_some_iff.mp hr8).1
        have h1l : [r].length = 1 := rfl
        omega
      rw [hq0] at hr8
      cases hr8
      rw [e, show (A.ad s.2.1.length u.2.2.1.length x ed cap).na s.2.1.length q = x from if_pos ⟨rfl, by omega⟩, tx_A.ad_nm (fun y hy => by rw [hlb] at hy; cases hy)]
      exact hx
  · exact old j u' q r' hj' hr'
theorem tx_mA.ad (h : tx_mA A s.all) (hu : s.2.2.1 = some u) (hx : ∀ (j : Nat) (uj : tx_U) (q : Nat), s.all[j]? = some uj → q < uj.2.2.1.length → A.na j q ≠ x) (hed : ∀ (j : Nat) (uj : tx_U), s.all[j]? = some uj → j ≠ s.2.1.length → A.nc j ≠ 0 → A.ne j ≠ ed) (hue : A.uc ≠ 0 → ed ≠ A.ue) (hrt : ∀ T, r.1 = some T → ∃ w, A.wf T = some w) : tx_mA (A.ad s.2.1.length u.2.2.1.length x ed cap) (s.ad r).all := by
  obtain ⟨h1, h2, h3, h4, h5, h6⟩ := h
  have hll : (u.2.2.1 ++ [r]).length = u.2.2.1.length + 1 := by rw [List.length_append]; rfl
  have hin : ∀ (j : Nat) (u' : tx_U), (s.ad r).all[j]? = some u' → ∃ u0 : tx_U, s.all[j]? = some u0 ∧ (j ≠ s.2.1.length → u' = u0) ∧ (j = s.2.1.length → u0 = u ∧ u' = tx_adn r u) := by
    intro j u' hj
    rcases tx_S.ad_in hu hj with ⟨e, e2⟩ | ⟨e, hj'⟩
    · exact ⟨u, by rw [e]; exact tx_S.cur hu, fun z => absurd e z, fun _ => ⟨rfl, e2⟩⟩
    · exact ⟨u', hj', fun _ => rfl, fun z => absurd z e⟩
  have hne : ∀ j, j ≠ s.2.1.length → (A.ad s.2.1.length u.2.2.1.length x ed cap).ne j = A.ne j ∧ (A.ad s.2.1.length u.2.2.1.length x ed cap).nc j = A.nc j := fun j e => ⟨if_neg e, if_neg e⟩
  have hnn : (A.ad s.2.1.length u.2.2.1.length x ed cap).ne s.2.1.length = ed := if_pos rfl
  refine ⟨fun i a i' a' z z' e => ?_, fun i a z => ?_, fun i a i' a' z z' e e' e2 => ?_, fun i a z e e2 => ?_, fun i a i' a' z z' q q' hq hq' e => ?_, fun i a z q r9 hr T hT => ?_⟩
  · obtain ⟨a0, y, -⟩ := hin i a z
    obtain ⟨a0', y', -⟩ := hin i' a' z'
    exact h1 i a0 i' a0' y y' e
  · obtain ⟨a0, y, -⟩ := hin i a z
    exact h2 i a0 y
  · obtain ⟨a0, y, -⟩ := hin i a z
    obtain ⟨a0', y', -⟩ := hin i' a' z'
    by_cases d : i = s.2.1.length
    · by_cases d' : i' = s.2.1.length
      · rw [d, d']
      · rw [(hne i' d').1, d, hnn] at e2
        rw [(hne i' d').2] at e'
        exact absurd e2.symm (hed i' a0' y' d' e')
    · by_cases d' : i' = s.2.1.length
      · rw [(hne i d).1, d', hnn] at e2
        rw [(hne i d).2] at e
        exact absurd e2 (hed i a0 y d e)
      · rw [(hne i d).1, (hne i' d').1] at e2
        rw [(hne i d).2] at e
        rw [(hne i' d').2] at e'
        exact h3 i a0 i' a0' y y' e e' e2
  · obtain ⟨a0, y, -⟩ := hin i a z
    by_cases d : i = s.2.1.length
    · rw [d, hnn]
      exact hue e2
    · rw [(hne i d).1]
      rw [(hne i d).2] at e
      exact h4 i a0 y e e2
  · have key : ∀ (i : Nat) (a : tx_U) (q : Nat), (s.ad r).all[i]? = some a → q < a.2.2.1.length → (i = s.2.1.length ∧ q = u.2.2.1.length) ∨ ∃ a0 : tx_U, s.all[i]? = some a0 ∧ q < a0.2.2.1.length ∧ (A.ad s.2.1.length u.2.2.1.length x ed cap).na i q = A.na i q := by
      intro i a q z hq
      obtain ⟨a0, y1, y2, y3⟩ := hin i a z
      by_cases d : i = s.2.1.length
      · obtain ⟨y4, y5⟩ := y3 d
        subst y4 y5
        have hq9 : q < (a0.2.2.1 ++ [r]).length := hq
        by_cases d2 : q = a0.2.2.1.length
        · exact Or.inl ⟨d, d2⟩
        · exact Or.inr ⟨a0, y1, by omega, tx_A.ad_na (fun w => d2 w.2)⟩
      · rw [y2 d] at hq
        exact Or.inr ⟨a0, y1, hq, tx_A.ad_na (fun w => d w.1)⟩
    have hnew : (A.ad s.2.1.length u.2.2.1.length x ed cap).na s.2.1.length u.2.2.1.length = x := if_pos ⟨rfl, rfl⟩
    rcases key i a q z hq with ⟨d1, d2⟩ | ⟨a0, y1, y2, y3⟩ <;> rcases key i' a' q' z' hq' with ⟨d1', d2'⟩ | ⟨a0', y1', y2', y3'⟩
    · exact ⟨by rw [d1, d1'], by rw [d2, d2']⟩
    · rw [d1, d2, hnew, y3'] at e
      exact absurd e.symm (hx i' a0' q' y1' y2')
    · rw [d1', d2', hnew, y3] at e
      exact absurd e (hx i a0 q y1 y2)
    · rw [y3, y3'] at e
      exact h5 i a0 i' a0' y1 y1' q q' y2 y2' e
  · obtain ⟨a0, y1, y2, y3⟩ := hin i a z
    by_cases d : i = s.2.1.length
    · obtain ⟨y4, y5⟩ := y3 d
      subst y4 y5
      have hr8 : (a0.2.2.1 ++ [r])[q]? = some r9 := hr
      rcases Nat.lt_or_ge q a0.2.2.1.length with w | w
      · rw [List.getElem?_append_left w] at hr8
        exact h6 i a0 y1 q r9 hr8 T hT
      · rw [List.getElem?_append_right w] at hr8
        have hq0 : q - a0.2.2.1.length = 0 := by
          have := (List.getElem?_eq_some_iff.mp hr8).1
          have h1l : [r].length = 1 := rfl
          omega
        rw [hq0] at hr8
        cases hr8
        exact hrt T hT
    · rw [y2 d] at hr
      exact h6 i a0 y1 q r9 hr T hT
end TXD

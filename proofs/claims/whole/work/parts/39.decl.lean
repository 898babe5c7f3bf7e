/-! MEANING: a name is declared. -/
/-- a new name's place, its list's array and that one's places -/
def tx_A.ad (A : tx_A) (n i x ed cap : Nat) : tx_A := (A.1, A.2.1, (A.nl, va_up A.ne n ed, va_up A.nc n cap), (fun j q => if j = n ∧ q = i then x else A.na j q), A.wf)
section TXD
variable {k : cx_K} {F : Nat → Prop} {G G2 G3 : cx_G} {A : tx_A} {s : tx_S} {u : tx_U} {r : tx_N} {x ed cap : Nat}
theorem tx_A.ad_na {n i j q : Nat} (h : ¬ (j = n ∧ q = i)) : (A.ad n i x ed cap).na j q = A.na j q := if_neg h
theorem tx_A.ad_nm {j : Nat} {r : tx_N} {n i : Nat} (h : ∀ y : Nat × Nat, r.2.2.2.2.2.2.2.2.2 = some y → ¬ (y.1 = n ∧ y.2 = i)) : tx_nm (A.ad n i x ed cap) j r = tx_nm A j r := by
  unfold tx_nm
  have e : r.2.2.2.2.2.2.2.2.2.map (fun y => (A.ad n i x ed cap).na y.1 y.2) = r.2.2.2.2.2.2.2.2.2.map (fun y => A.na y.1 y.2) := by
    cases hl : r.2.2.2.2.2.2.2.2.2 with
    | none => rfl
    | some y =>
      show some ((A.ad n i x ed cap).na y.1 y.2) = some (A.na y.1 y.2)
      rw [tx_A.ad_na (h y hl)]
  rw [e]
  rfl
/-- what is there does not lie at the new place -/
theorem tx_mI.no (hI : tx_mI s) (hu : s.2.2.1 = some u) {j i : Nat} {uj : tx_U} (hj : s.all[j]? = some uj) (hi : i < uj.2.2.1.length) : ¬ (j = s.2.1.length ∧ i = u.2.2.1.length) := fun ⟨e1, e2⟩ => by
  subst e1
  cases (tx_S.cur hu).symm.trans hj
  omega
theorem tx_m.adI (hI : tx_mI s) (hu : s.2.2.1 = some u) (hof : r.2.2.2.2.2.2.2.1 = none) (hlb : r.2.2.2.2.2.2.2.2.2 = none) (hn : u.2.2.1.length + 1 < 100000) : tx_mI (s.ad r) := by
  obtain ⟨h1, h2, h3, h4⟩ := hI
  have hll : (u.2.2.1 ++ [r]).length = u.2.2.1.length + 1 := by rw [List.length_append]; rfl
  have hva : ∀ (i q : Nat), (∃ u' : tx_U, s.all[i]? = some u' ∧ q < u'.2.2.1.length) → ∃ u' : tx_U, (s.ad r).all[i]? = some u' ∧ q < u'.2.2.1.length := by
    intro i q ⟨u', z1, z2⟩
    rw [tx_S.ad_get hu]
    by_cases e : i = s.2.1.length
    · rw [if_pos e]
      subst e
      cases (tx_S.cur hu).symm.trans z1
      exact ⟨_, rfl, by show q < (u.2.2.1 ++ [r]).length; omega⟩
    · rw [if_neg e]
      exact ⟨u', z1, z2⟩
  have hal : (s.ad r).all.length = s.all.length := by
    unfold tx_S.all tx_S.ad
    show (s.2.1 ++ (s.2.2.1.map (tx_adn r)).toList).length = _
    rw [hu, List.length_append, List.length_append]
    rfl
  refine ⟨h1, fun T y hy => ?_, by rw [hal]; exact h3, fun j uj hj => ?_⟩
  · have hy9 : (if r.1 = some T then some (s.2.1.length, s.uu.2.2.1.length) else s.2.2.2.2 T) = some y := hy
    by_cases e : r.1 = some T
    · rw [if_pos e] at hy9
      cases hy9
      refine ⟨tx_adn r u, by rw [tx_S.ad_get hu, if_pos rfl], ?_⟩
      show s.uu.2.2.1.length < (u.2.2.1 ++ [r]).length
      rw [show s.uu = u by unfold tx_S.uu; rw [hu]; rfl, hll]
      omega
    · rw [if_neg e] at hy9
      exact hva _ _ (h2 T y hy9)
  · rw [tx_S.ad_get hu] at hj
    by_cases e : j = s.2.1.length
    · rw [if_pos e] at hj
      cases hj
      refine ⟨by show (u.2.2.1 ++ [r]).length < _; omega, fun q r9 hr9 => ?_⟩
      have hr8 : (u.2.2.1 ++ [r])[q]? = some r9 := hr9
      rcases Nat.lt_or_ge q u.2.2.1.length with z | z
      · rw [List.getElem?_append_left z] at hr8
        obtain ⟨y1, y2⟩ := (h4 _ u (tx_S.cur hu)).2 q r9 hr8
        exact ⟨y1, fun y hy => hva _ _ (y2 y hy)⟩
      · rw [List.getElem?_append_right z] at hr8
        have hq0 : q - u.2.2.1.length = 0 := by
          have := (List.getElem?_eq_some_iff.mp hr8).1
          have h1l : [r].length = 1 := rfl
          omega
        rw [hq0] at hr8
        cases hr8
        exact ⟨fun j' z => (by rw [hof] at z; cases z), fun y z => (by rw [hlb] at z; cases z)⟩
    · rw [if_neg e] at hj
      obtain ⟨y1, y2⟩ := h4 j uj hj
      exact ⟨y1, fun q r9 hr9 => ⟨(y2 q r9 hr9).1, fun y hy => hva _ _ ((y2 q r9 hr9).2 y hy)⟩⟩
theorem tx_S.ad_in {s : tx_S} {u : tx_U} (hu : s.2.2.1 = some u) {r : tx_N} {j : Nat} {u' : tx_U} (h : (s.ad r).all[j]? = some u') : (j = s.2.1.length ∧ u' = tx_adn r u) ∨ (j ≠ s.2.1.length ∧ s.all[j]? = some u') := by
  rw [tx_S.ad_get hu] at h
  by_cases e : j = s.2.1.length
  · rw [if_pos e] at h
    cases h
    exact Or.inl ⟨e, rfl⟩
  · rw [if_neg e] at h
    exact Or.inr ⟨e, h⟩
theorem tx_mF.ad (h : tx_mF F A s.all) (hu : s.2.2.1 = some u) (hx : ¬ F x) (hed : ¬ F ed) : tx_mF F (A.ad s.2.1.length u.2.2.1.length x ed cap) (s.ad r).all := by
  obtain ⟨f1, f2, f3, f4, f5, f6⟩ := h
  refine ⟨f1, f2, f3, f4, fun j u' hj => ?_, f6⟩
  have hll : (u.2.2.1 ++ [r]).length = u.2.2.1.length + 1 := by rw [List.length_append]; rfl
  rcases tx_S.ad_in hu hj with ⟨e, e2⟩ | ⟨e, hj'⟩
  · subst e2
    obtain ⟨g1, g2, g3, g4⟩ := f5 _ u (tx_S.cur hu)
    rw [e]
    refine ⟨g1, g2, fun _ => ?_, fun q hq => ?_⟩
    · show ¬ F (va_up A.ne s.2.1.length ed s.2.1.length)
      unfold va_up
      rw [if_pos rfl]
      exact hed
    · have hq9 : q < (u.2.2.1 ++ [r]).length := hq
      by_cases z : q = u.2.2.1.length
      · rw [show (A.ad s.2.1.length u.2.2.1.length x ed cap).na s.2.1.length q = x from if_pos ⟨rfl, z⟩]
        exact hx
      · rw [tx_A.ad_na (fun y => z y.2)]
        exact g4 q (by omega)
  · obtain ⟨g1, g2, g3, g4⟩ := f5 j u' hj'
    refine ⟨g1, g2, fun hc => ?_, fun q hq => ?_⟩
    · have hc9 : va_up A.nc s.2.1.length cap j ≠ 0 := hc
      show ¬ F (va_up A.ne s.2.1.length ed j)
      unfold va_up at hc9 ⊢
      rw [if_neg e] at hc9 ⊢
      exact g3 hc9
    · rw [tx_A.ad_na (fun y => e y.1)]
      exact g4 q hq
theorem tx_mU.ad (h : tx_mU G A s.all) (hu : s.2.2.1 = some u) : tx_mU G (A.ad s.2.1.length u.2.2.1.length x ed cap) (s.ad r).all := by
  intro j u' hj
  rcases tx_S.ad_in hu hj with ⟨e, e2⟩ | ⟨e, hj'⟩
  · subst e2
    rw [e]
    exact h _ u (tx_S.cur hu)
  · exact h j u' hj'
theorem tx_mN.ad (h : tx_mN G A s.all) (hI : tx_mI s) (hu : s.2.2.1 = some u) (hlb : r.2.2.2.2.2.2.2.2.2 = none) (hx : G.1 x = some (tx_nm A s.2.1.length r)) : tx_mN G (A.ad s.2.1.length u.2.2.1.length x ed cap) (s.ad r).all := by
  intro j u' hj q r' hr'
  have old : ∀ (j : Nat) (uj : tx_U) (q : Nat) (r' : tx_N), s.all[j]? = some uj → uj.2.2.1[q]? = some r' → G.1 ((A.ad s.2.1.length u.2.2.1.length x ed cap).na j q) = some (tx_nm (A.ad s.2.1.length u.2.2.1.length x ed cap) j r') := by
    intro j uj q r' hj hr'
    rw [tx_A.ad_na (hI.no hu hj (List.getElem?_eq_some_iff.mp hr').1), tx_A.ad_nm (fun y hy => by
      obtain ⟨uy, z1, z2⟩ := ((hI.2.2.2 j uj hj).2 q r' hr').2 y hy
      exact hI.no hu z1 z2)]
    exact h j uj hj q r' hr'
  rcases tx_S.ad_in hu hj with ⟨e, e2⟩ | ⟨e, hj'⟩
  · subst e2
    have hr8 : (u.2.2.1 ++ [r])[q]? = some r' := hr'
    rcases Nat.lt_or_ge q u.2.2.1.length with z | z
    · rw [List.getElem?_append_left z] at hr8
      rw [e]
      exact old _ u q r' (tx_S.cur hu) hr8
    · rw [List.getElem?_append_right z] at hr8
      have hq0 : q - u.2.2.1.length = 0 := by
        have := (List.getElem?_eq_some_iff.mp hr8).1
        have h1l : [r].length = 1 := rfl
        omega
      rw [hq0] at hr8
      cases hr8
      rw [e, show (A.ad s.2.1.length u.2.2.1.length x ed cap).na s.2.1.length q = x from if_pos ⟨rfl, by omega⟩, tx_A.ad_nm (fun y hy => by rw [hlb] at hy; cases hy)]
      exact hx
  · exact old j u' q r' hj' hr'
theorem tx_mA.ad (h : tx_mA A s.all) (hu : s.2.2.1 = some u) (hx : ∀ (j : Nat) (uj : tx_U) (q : Nat), s.all[j]? = some uj → q < uj.2.2.1.length → A.na j q ≠ x) (hed : ∀ (j : Nat) (uj : tx_U), s.all[j]? = some uj → j ≠ s.2.1.length → A.nc j ≠ 0 → A.ne j ≠ ed) (hue : A.uc ≠ 0 → ed ≠ A.ue) (hrt : ∀ T, r.1 = some T → ∃ w, A.wf T = some w) : tx_mA (A.ad s.2.1.length u.2.2.1.length x ed cap) (s.ad r).all := by
  obtain ⟨h1, h2, h3, h4, h5, h6⟩ := h
  have hll : (u.2.2.1 ++ [r]).length = u.2.2.1.length + 1 := by rw [List.length_append]; rfl
  have hin : ∀ (j : Nat) (u' : tx_U), (s.ad r).all[j]? = some u' → ∃ u0 : tx_U, s.all[j]? = some u0 ∧ (j ≠ s.2.1.length → u' = u0) ∧ (j = s.2.1.length → u0 = u ∧ u' = tx_adn r u) := by
    intro j u' hj
    rcases tx_S.ad_in hu hj with ⟨e, e2⟩ | ⟨e, hj'⟩
    · exact ⟨u, by rw [e]; exact tx_S.cur hu, fun z => absurd e z, fun _ => ⟨rfl, e2⟩⟩
    · exact ⟨u', hj', fun _ => rfl, fun z => absurd z e⟩
  have hne : ∀ j, j ≠ s.2.1.length → (A.ad s.2.1.length u.2.2.1.length x ed cap).ne j = A.ne j ∧ (A.ad s.2.1.length u.2.2.1.length x ed cap).nc j = A.nc j := fun j e => ⟨if_neg e, if_neg e⟩
  have hnn : (A.ad s.2.1.length u.2.2.1.length x ed cap).ne s.2.1.length = ed := if_pos rfl
  refine ⟨fun i a i' a' z z' e => ?_, fun i a z => ?_, fun i a i' a' z z' e e' e2 => ?_, fun i a z e e2 => ?_, fun i a i' a' z z' q q' hq hq' e => ?_, fun i a z q r9 hr T hT => ?_⟩
  · obtain ⟨a0, y, -⟩ := hin i a z
    obtain ⟨a0', y', -⟩ := hin i' a' z'
    exact h1 i a0 i' a0' y y' e
  · obtain ⟨a0, y, -⟩ := hin i a z
    exact h2 i a0 y
  · obtain ⟨a0, y, -⟩ := hin i a z
    obtain ⟨a0', y', -⟩ := hin i' a' z'
    by_cases d : i = s.2.1.length
    · by_cases d' : i' = s.2.1.length
      · rw [d, d']
      · rw [(hne i' d').1, d, hnn] at e2
        rw [(hne i' d').2] at e'
        exact absurd e2.symm (hed i' a0' y' d' e')
    · by_cases d' : i' = s.2.1.length
      · rw [(hne i d).1, d', hnn] at e2
        rw [(hne i d).2] at e
        exact absurd e2 (hed i a0 y d e)
      · rw [(hne i d).1, (hne i' d').1] at e2
        rw [(hne i d).2] at e
        rw [(hne i' d').2] at e'
        exact h3 i a0 i' a0' y y' e e' e2
  · obtain ⟨a0, y, -⟩ := hin i a z
    by_cases d : i = s.2.1.length
    · rw [d, hnn]
      exact hue e2
    · rw [(hne i d).1]
      rw [(hne i d).2] at e
      exact h4 i a0 y e e2
  · have key : ∀ (i : Nat) (a : tx_U) (q : Nat), (s.ad r).all[i]? = some a → q < a.2.2.1.length → (i = s.2.1.length ∧ q = u.2.2.1.length) ∨ ∃ a0 : tx_U, s.all[i]? = some a0 ∧ q < a0.2.2.1.length ∧ (A.ad s.2.1.length u.2.2.1.length x ed cap).na i q = A.na i q := by
      intro i a q z hq
      obtain ⟨a0, y1, y2, y3⟩ := hin i a z
      by_cases d : i = s.2.1.length
      · obtain ⟨y4, y5⟩ := y3 d
        subst y4 y5
        have hq9 : q < (a0.2.2.1 ++ [r]).length := hq
        by_cases d2 : q = a0.2.2.1.length
        · exact Or.inl ⟨d, d2⟩
        · exact Or.inr ⟨a0, y1, by omega, tx_A.ad_na (fun w => d2 w.2)⟩
      · rw [y2 d] at hq
        exact Or.inr ⟨a0, y1, hq, tx_A.ad_na (fun w => d w.1)⟩
    have hnew : (A.ad s.2.1.length u.2.2.1.length x ed cap).na s.2.1.length u.2.2.1.length = x := if_pos ⟨rfl, rfl⟩
    rcases key i a q z hq with ⟨d1, d2⟩ | ⟨a0, y1, y2, y3⟩ <;> rcases key i' a' q' z' hq' with ⟨d1', d2'⟩ | ⟨a0', y1', y2', y3'⟩
    · exact ⟨by rw [d1, d1'], by rw [d2, d2']⟩
    · rw [d1, d2, hnew, y3'] at e
      exact absurd e.symm (hx i' a0' q' y1' y2')
    · rw [d1', d2', hnew, y3] at e
      exact absurd e (hx i a0 q y1 y2)
    · rw [y3, y3'] at e
      exact h5 i a0 i' a0' y1 y1' q q' y2 y2' e
  · obtain ⟨a0, y1, y2, y3⟩ := hin i a z
    by_cases d : i = s.2.1.length
    · obtain ⟨y4, y5⟩ := y3 d
      subst y4 y5
      have hr8 : (a0.2.2.1 ++ [r])[q]? = some r9 := hr
      rcases Nat.lt_or_ge q a0.2.2.1.length with w | w
      · rw [List.getElem?_append_left w] at hr8
        exact h6 i a0 y1 q r9 hr8 T hT
      · rw [List.getElem?_append_right w] at hr8
        have hq0 : q - a0.2.2.1.length = 0 := by
          have := (List.getElem?_eq_some_iff.mp hr8).1
          have h1l : [r].length = 1 := rfl
          omega
        rw [hq0] at hr8
        cases hr8
        exact hrt T hT
    · rw [y2 d] at hr
      exact h6 i a0 y1 q r9 hr T hT
end TXD
section TXD
variable {k : cx_K} {F : Nat → Prop} {G G2 G3 : cx_G} {A : tx_A} {s : tx_S} {u : tx_U} {r : tx_N} {x ed cap : Nat}
theorem tx_al.ad' {n n' i : Nat} (h : tx_al k G A.ul A.ue ((List.range n).map A.ua) A.uc) : tx_mL k G (A.ad n' i x ed cap) n := h
theorem tx_mM.ad (h : tx_mM G A s) {n' i : Nat} : tx_mM G (A.ad n' i x ed cap) (s.ad r) := by
  obtain ⟨y, h1, h2⟩ := h
  refine ⟨y, h1, fun u' hu' => ?_⟩
  have hu9 : s.2.2.1.map (tx_adn r) = some u' := hu'
  cases hc : s.2.2.1 with
  | none => rw [hc] at hu9; cases hu9
  | some u0 => exact h2 u0 hc
/-- the list of names of the module that is being read has one more, the others are as they were -/
theorem tx_mK.ad (hu : s.2.2.1 = some u) (h1 : tx_al k G (A.nl s.2.1.length) ed ((List.range u.2.2.1.length).map (A.na s.2.1.length) ++ [x]) cap) (h2 : ∀ j u', j ≠ s.2.1.length → s.all[j]? = some u' → tx_al k G (A.nl j) (A.ne j) ((List.range u'.2.2.1.length).map (A.na j)) (A.nc j)) : tx_mK k G (A.ad s.2.1.length u.2.2.1.length x ed cap) (s.ad r).all := by
  intro j u' hj
  rcases tx_S.ad_in hu hj with ⟨e, e2⟩ | ⟨e, hj'⟩
  · subst e2
    subst e
    have hlen : (tx_adn r u).2.2.1.length = u.2.2.1.length + 1 := by
      show (u.2.2.1 ++ [r]).length = _
      rw [List.length_append]
      rfl
    rw [hlen, List.range_succ, List.map_append]
    have e1 : (List.range u.2.2.1.length).map ((A.ad s.2.1.length u.2.2.1.length x ed cap).na s.2.1.length) = (List.range u.2.2.1.length).map (A.na s.2.1.length) := by
      apply List.map_congr_left
      intro q hq
      exact tx_A.ad_na (fun z => absurd z.2 (by have := List.mem_range.mp hq; omega))
    have e3 : [u.2.2.1.length].map ((A.ad s.2.1.length u.2.2.1.length x ed cap).na s.2.1.length) = [x] := by
      show [(A.ad s.2.1.length u.2.2.1.length x ed cap).na s.2.1.length u.2.2.1.length] = [x]
      rw [show (A.ad s.2.1.length u.2.2.1.length x ed cap).na s.2.1.length u.2.2.1.length = x from if_pos ⟨rfl, rfl⟩]
    rw [e1, e3, show (A.ad s.2.1.length u.2.2.1.length x ed cap).ne s.2.1.length = ed from if_pos rfl, show (A.ad s.2.1.length u.2.2.1.length x ed cap).nc s.2.1.length = cap from if_pos rfl]
    exact h1
  · have e1 : (List.range u'.2.2.1.length).map ((A.ad s.2.1.length u.2.2.1.length x ed cap).na j) = (List.range u'.2.2.1.length).map (A.na j) := by
      apply List.map_congr_left
      intro q hq
      exact tx_A.ad_na (fun z => e z.1)
    rw [e1, show (A.ad s.2.1.length u.2.2.1.length x ed cap).ne j = A.ne j from if_neg e, show (A.ad s.2.1.length u.2.2.1.length x ed cap).nc j = A.nc j from if_neg e]
    exact h2 j u' e hj'
/-- the words lead to the new name, or to what they led to -/
theorem tx_mW.ad (hu : s.2.2.1 = some u) (hI : tx_mI s) (h : ∀ T a, A.wf T = some a → ∃ nx kd, tx_wd k G a T nx kd ((s.2.2.2.1 T).map A.ua) (if r.1 = some T then some x else (s.2.2.2.2 T).map (fun y => A.na y.1 y.2))) : tx_mW k G (A.ad s.2.1.length u.2.2.1.length x ed cap) (s.ad r) := by
  intro T a ha
  obtain ⟨nx, kd, h1⟩ := h T a ha
  refine ⟨nx, kd, ?_⟩
  show tx_wd k G a T nx kd ((s.2.2.2.1 T).map A.ua) ((if r.1 = some T then some (s.2.1.length, s.uu.2.2.1.length) else s.2.2.2.2 T).map (fun y => (A.ad s.2.1.length u.2.2.1.length x ed cap).na y.1 y.2))
  by_cases e : r.1 = some T
  · rw [if_pos e] at h1 ⊢
    rw [show s.uu = u by unfold tx_S.uu; rw [hu]; rfl]
    show tx_wd k G a T nx kd _ (some ((A.ad s.2.1.length u.2.2.1.length x ed cap).na s.2.1.length u.2.2.1.length))
    rw [show (A.ad s.2.1.length u.2.2.1.length x ed cap).na s.2.1.length u.2.2.1.length = x from if_pos ⟨rfl, rfl⟩]
    exact h1
  · rw [if_neg e] at h1 ⊢
    have e9 : (s.2.2.2.2 T).map (fun y => (A.ad s.2.1.length u.2.2.1.length x ed cap).na y.1 y.2) = (s.2.2.2.2 T).map (fun y => A.na y.1 y.2) := by
      cases hd : s.2.2.2.2 T with
      | none => rfl
      | some y =>
        obtain ⟨u', z1, z2⟩ := hI.2.1 T y hd
        show some ((A.ad s.2.1.length u.2.2.1.length x ed cap).na y.1 y.2) = some (A.na y.1 y.2)
        rw [tx_A.ad_na (hI.no hu z1 z2)]
    rw [e9]
    exact h1

/-- the cells of the list of the module that is being read are none of the others -/
theorem tx_m.nlo (hm : tx_m k F G A s) {j : Nat} {uj : tx_U} (hj : s.all[j]? = some uj) {b c : Nat} {fs : List Value} (hb : G.1 b = some (.inr (c, fs))) (hc : c ≠ 13) : b ≠ A.nl j ∧ (A.nc j = 0 ∨ b ≠ A.ne j) := by
  obtain ⟨⟨mc, h1⟩, h2⟩ := hm.2.2.2.2.1 j uj hj
  refine ⟨cx_neO h1 hb hc, ?_⟩
  rcases h2 with ⟨z, -⟩ | ⟨f, z, -⟩
  · exact Or.inl z
  · exact Or.inr (cx_neA z hb)
/-- a name was made, its word leads to it, and the list of the module that is being read has taken it -/
theorem tx_m.add (hm : tx_m k (fun b => F b ∨ b = x) G A s) (hF : ∀ b, F b → ∃ e, G.1 b = some e) (hxF : ¬ F x) (hu : s.2.2.1 = some u) (hx : G.1 x = some (tx_nm A s.2.1.length r)) (hof : r.2.2.2.2.2.2.2.1 = none) (hlb : r.2.2.2.2.2.2.2.2.2 = none) (hn : u.2.2.1.length + 1 < 100000) (hrt : ∀ T, r.1 = some T → ∃ w, A.wf T = some w)
    (hw : (r.1 = none ∧ G2 = G) ∨ ∃ T a x0 x1 x2 x3 x4, r.1 = some T ∧ A.wf T = some a ∧ G.1 a = some (.inr (10, [x0, x1, x2, x3, x4])) ∧ G2 = cx_put G a (.inr (10, [x0, x1, x2, x3, .ref x])))
    (hal : tx_alp k G2 (A.nl s.2.1.length) (A.ne s.2.1.length) ((List.range u.2.2.1.length).map (A.na s.2.1.length)) (A.nc s.2.1.length) x G3) : ∃ ed cap, tx_m k F G3 (A.ad s.2.1.length u.2.2.1.length x ed cap) (s.ad r) ∧ tx_st F G G3 ∧ G2.2.1 ≤ G3.2.1 ∧ G3.2.1 ≤ G2.2.1 + 1 ∧ G2.2.2 ≤ G3.2.2 ∧ G3.2.2 + 4 * A.nc s.2.1.length ≤ G2.2.2 + 4 * cap := by
  have hcur := tx_S.cur hu
  obtain ⟨ed, cap, al1, al2, al3, al4, al5, al6, al7⟩ := hal
  have hk2 : tx_kp (tx_is 10) G G2 := by
    rcases hw with ⟨-, e⟩ | ⟨T, a, x0, x1, x2, x3, x4, -, -, e1, e2⟩
    · rw [e]
      exact fun _ _ _ h => h
    · rw [e2]
      exact tx_kp.put e1
  have hdom : ∀ b e, G.1 b = some e → ∃ e', G2.1 b = some e' := by
    intro b e hb
    rcases hw with ⟨-, e9⟩ | ⟨T, a, x0, x1, x2, x3, x4, -, -, e1, e2⟩
    · exact ⟨e, by rw [e9]; exact hb⟩
    · rw [e2]
      by_cases z : b = a
      · exact ⟨_, by rw [z]; exact cx_ps rfl⟩
      · exact ⟨e, cx_pn rfl hb z⟩
  have hst2 : tx_st (fun b => F b ∨ b = x) G G2 := by
    rcases hw with ⟨-, e⟩ | ⟨T, a, x0, x1, x2, x3, x4, -, e0, e1, e2⟩
    · rw [e]
      exact tx_st.rf _ _
    · rw [e2]
      exact tx_st.put (hm.2.2.2.2.2.2.2.2.2.2.2.2.2.2 _ _ e0) (by decide) e1
  obtain ⟨q1, q2, q3, q4, q5, q6, q7, q8, q9, q10⟩ := hm
  have hm' : tx_m k (fun b => F b ∨ b = x) G A s := ⟨q1, q2, q3, q4, q5, q6, q7, q8, q9, q10⟩
  obtain ⟨a1, a2, a3, a4, a5, a6⟩ := q8
  obtain ⟨f1, f2, f3, f4, f5, f6⟩ := q10
  have hob : ∀ (b c : Nat) (fs : List Value), c ≠ 13 → G2.1 b = some (.inr (c, fs)) → G3.1 b = some (.inr (c, fs)) := by
    intro b c fs hc hb
    obtain ⟨⟨mc, h1⟩, h2⟩ := q5 _ u hcur
    have h1' := hk2 _ _ (tx_is_ne (by decide)) h1
    refine al3 _ _ (cx_neO h1' hb hc) ?_ hb
    rcases h2 with ⟨z, -⟩ | ⟨f, z, -⟩
    · exact Or.inl z
    · exact Or.inr (cx_neA (hk2 _ _ tx_is_na z) hb)
  have hx2 : G2.1 x = some (tx_nm A s.2.1.length r) := hk2 _ _ (tx_is_ne (by decide)) hx
  have hx3 : G3.1 x = some (tx_nm A s.2.1.length r) := hob _ _ _ (by decide) hx2
  have hk3 : tx_kp (fun e => tx_is 10 e ∨ tx_is 13 e ∨ ∃ z, e = .inl z) G G3 := by
    intro b e he hb
    have hb2 := hk2 b e (fun z => he (Or.inl z)) hb
    cases e with
    | inl z => exact absurd (Or.inr (Or.inr ⟨z, rfl⟩)) he
    | inr z =>
      obtain ⟨c, fs⟩ := z
      exact hob b c fs (fun z => he (Or.inr (Or.inl ⟨fs, by rw [z]⟩))) hb2
  have hnle : A.nc s.2.1.length = 0 ∨ ∃ f, G2.1 (A.ne s.2.1.length) = some (.inl (k.2.1 3, A.nc s.2.1.length, .inr (.inr (.inr (.inr f))))) := by
    rcases (q5 _ u hcur).2 with ⟨z, -⟩ | ⟨f, z, -⟩
    · exact Or.inl z
    · exact Or.inr ⟨f, hk2 _ _ tx_is_na z⟩
  have hnl : ∃ fs, G2.1 (A.nl s.2.1.length) = some (.inr (13, fs)) := by
    obtain ⟨⟨mc, h1⟩, -⟩ := q5 _ u hcur
    exact ⟨_, hk2 _ _ (tx_is_ne (by decide)) h1⟩
  -- a list that is another one
  have hli : ∀ (la e9 : Nat) (xs : List Nat) (c9 : Nat), tx_al k G la e9 xs c9 → la ≠ A.nl s.2.1.length → (c9 ≠ 0 → A.nc s.2.1.length ≠ 0 → e9 ≠ A.ne s.2.1.length) → tx_al k G3 la e9 xs c9 := by
    intro la e9 xs c9 h9 d1 d2
    have h9' : tx_al k G2 la e9 xs c9 := h9.kp hk2 (fun _ => tx_is_ne (by decide)) (fun _ => tx_is_na)
    obtain ⟨fs, hnl⟩ := hnl
    have hla : A.nc s.2.1.length = 0 ∨ la ≠ A.ne s.2.1.length := by
      rcases hnle with z | ⟨f, z⟩
      · exact Or.inl z
      · obtain ⟨⟨mc, z9⟩, -⟩ := h9'
        exact Or.inr (cx_neA z z9)
    refine h9'.fr al3 d1 hla (fun hc => ⟨?_, ?_⟩)
    · rcases h9'.2 with ⟨z, -⟩ | ⟨f, z, -⟩
      · exact absurd z hc
      · exact cx_neB hnl z
    · by_cases z : A.nc s.2.1.length = 0
      · exact Or.inl z
      · exact Or.inr (d2 hc z)
  have hedn : ∀ b e, G.1 b = some e → G2.1 ed = none → b ≠ ed := by
    intro b e hb hn z
    obtain ⟨e', h'⟩ := hdom b e hb
    rw [z, hn] at h'
    cases h'
  have hX : ∀ (c : Nat) (fs : List Value), c ≠ 10 → c ≠ 13 → ¬ (tx_is 10 (.inr (c, fs)) ∨ tx_is 13 (.inr (c, fs)) ∨ ∃ z, (.inr (c, fs) : va_E) = .inl z) := by
    intro c fs h1 h2 z
    rcases z with z | z | ⟨z, y⟩
    · exact tx_is_ne h1 z
    · exact tx_is_ne h2 z
    · cases y
  refine ⟨ed, cap, ⟨hk3 _ _ ?_ q1, (q2.kp hk3 ?_).ad, (hli _ _ _ _ q3 (a2 _ u hcur).symm (fun h9 h8 => (a4 _ u hcur h8 h9).symm)).ad', (q4.kp hk3 ?_).ad hu, tx_mK.ad hu al1 (fun j u' hj hu' => hli _ _ _ _ (q5 j u' hu') (fun z => hj (a1 _ _ _ _ hu' hcur z)) (fun z1 z2 z3 => hj (a3 _ _ _ _ hu' hcur z1 z2 z3))), (q6.kp hk3 ?_).ad q9 hu hlb hx3, tx_mW.ad hu q9 ?_, tx_mA.ad ⟨a1, a2, a3, a4, a5, a6⟩ hu ?_ ?_ ?_ hrt, tx_m.adI q9 hu hof hlb hn, tx_mF.ad ⟨fun z => f1 (Or.inl z), fun z => f2 (Or.inl z), fun z => f3 (Or.inl z), fun hc z => f4 hc (Or.inl z), fun j u hj => ⟨fun z => (f5 j u hj).1 (Or.inl z), fun z => (f5 j u hj).2.1 (Or.inl z), fun hc z => (f5 j u hj).2.2.1 hc (Or.inl z), fun q hq z => (f5 j u hj).2.2.2 q hq (Or.inl z)⟩, fun T a ha z => f6 T a ha (Or.inl z)⟩ hu hxF ?_⟩, ?_, al4, al5, al6, al7⟩
  · exact hX _ _ (by decide) (by decide)
  · exact fun _ => hX _ _ (by decide) (by decide)
  · exact fun _ => hX _ _ (by decide) (by decide)
  · exact fun _ => hX _ _ (by decide) (by decide)
  · intro T a ha
    obtain ⟨nx, kd, tb, g1, g, g2, g3⟩ := q7 T a ha
    have g2' : G3.1 tb = some (.inl (k.2.1 0, T.length, .inl g)) := by
      have h2 := hk2 _ _ tx_is_na g2
      obtain ⟨fs, hnl⟩ := hnl
      refine al3 _ _ (cx_neB hnl h2) ?_ h2
      rcases hnle with z | ⟨f, z⟩
      · exact Or.inl z
      · exact Or.inr (fun y => by rw [y, z] at h2; simp only [Option.some.injEq, Sum.inl.injEq, Prod.mk.injEq] at h2; exact absurd h2.2.2 (fun q => by cases q))
    refine ⟨nx, kd, tb, ?_, g, g2', g3⟩
    rcases hw with ⟨e, e9⟩ | ⟨T0, a0, x0, x1, x2, x3, x4, e, e0, e1, e2⟩
    · rw [if_neg (by rw [e]; exact fun z => by cases z)]
      exact hob _ _ _ (by decide) (by rw [e9]; exact g1)
    · by_cases z : T = T0
      · subst z
        cases e0.symm.trans ha
        rw [if_pos e]
        rw [e1] at g1
        simp only [Option.some.injEq, Sum.inr.injEq, Prod.mk.injEq, List.cons.injEq, true_and, and_true] at g1
        obtain ⟨y0, y1, y2, y3, -⟩ := g1
        subst y0 y1 y2 y3
        exact hob _ _ _ (by decide) (by rw [e2]; exact cx_ps rfl)
      · rw [if_neg (fun y => z (by rw [e] at y; cases y; rfl))]
        refine hob _ _ _ (by decide) ?_
        rw [e2]
        exact cx_pn rfl g1 (fun y => z (hm'.wi (y ▸ ha) e0))
  · exact fun j uj q hj hq z => (f5 j uj hj).2.2.2 q hq (Or.inr z)
  · intro j uj hj hne hc z
    rcases al2 with ⟨y, y2⟩ | y
    · exact hne (a3 _ _ _ _ hj hcur hc y2 (by rw [z, y]))
    · obtain ⟨e, he⟩ := (q5 j uj hj).ed hc
      exact hedn _ _ he y z
  · intro hc z
    rcases al2 with ⟨y, y2⟩ | y
    · exact a4 _ u hcur y2 hc (by rw [← y, z])
    · obtain ⟨e, he⟩ := q3.ed hc
      exact hedn _ _ he y z.symm
  · intro z
    rcases al2 with ⟨y, y2⟩ | y
    · rw [y] at z
      exact (f5 _ u hcur).2.2.1 y2 (Or.inl z)
    · obtain ⟨e, he⟩ := hF ed z
      exact hedn _ _ he y rfl
  · intro b e hb he
    have h2 := hst2 b e (hb.imp Or.inl (fun z => z)) he
    obtain ⟨fs, hnl⟩ := hnl
    refine al3 b e ?_ ?_ h2
    · intro z
      rcases hb with hb | hb
      · exact (f5 _ u hcur).2.1 (Or.inl (z ▸ hb))
      · rw [z, hnl] at h2
        cases h2
        exact hb (by show 13 = 3 ∨ _; decide)
    · rcases hnle with z | ⟨f, z⟩
      · exact Or.inl z
      · by_cases y : A.nc s.2.1.length = 0
        · exact Or.inl y
        · refine Or.inr (fun w => ?_)
          rcases hb with hb | hb
          · exact (f5 _ u hcur).2.2.1 y (Or.inl (w ▸ hb))
          · rw [w, z] at h2
            cases h2
            exact hb trivial
end TXD

/-! MEANING: a name's or a module's fields change. -/
theorem tx_gm {α : Type} (l : List α) (i : Nat) (f : α → α) (j : Nat) : (l.modify i f)[j]? = if j = i then (l[j]?).map f else l[j]? := by
  rw [List.getElem?_modify]
  by_cases e : j = i
  · rw [if_pos e]
    cases l[j]? with
    | none => rfl
    | some x =>
      show some (if i = j then f x else x) = some (f x)
      rw [if_pos e.symm]
  · rw [if_neg e]
    cases l[j]? with
    | none => rfl
    | some x =>
      show some (if i = j then f x else x) = some x
      rw [if_neg (fun z => e z.symm)]
/-- module j changes by g -/
def tx_S.mu (s : tx_S) (j : Nat) (g : tx_U → tx_U) : tx_S := (s.1, s.2.1.modify j g, (if j = s.2.1.length then s.2.2.1.map g else s.2.2.1), s.2.2.2)
/-- name q of module j changes by f -/
def tx_nq (q : Nat) (f : tx_N → tx_N) (u : tx_U) : tx_U := (u.1, u.2.1, u.2.2.1.modify q f, u.2.2.2)
def tx_S.mn (s : tx_S) (j q : Nat) (f : tx_N → tx_N) : tx_S := s.mu j (tx_nq q f)
theorem tx_S.mu_get (s : tx_S) (j : Nat) (g : tx_U → tx_U) (i : Nat) : (s.mu j g).all[i]? = if i = j then (s.all[i]?).map g else s.all[i]? := by
  unfold tx_S.all tx_S.mu
  show (s.2.1.modify j g ++ (if j = s.2.1.length then s.2.2.1.map g else s.2.2.1).toList)[i]? = _
  rcases Nat.lt_or_ge i s.2.1.length with h | h
  · rw [List.getElem?_append_left (by rw [List.length_modify]; exact h), List.getElem?_append_left h, tx_gm]
  · rw [List.getElem?_append_right (by rw [List.length_modify]; exact h), List.getElem?_append_right h, List.length_modify]
    by_cases e : i = j
    · rw [if_pos e]
      by_cases e2 : j = s.2.1.length
      · rw [if_pos e2]
        rw [show i - s.2.1.length = 0 by omega]
        cases s.2.2.1 <;> rfl
      · rw [if_neg e2]
        have : 1 ≤ i - s.2.1.length := by omega
        rw [List.getElem?_eq_none (by cases s.2.2.1 <;> simp <;> omega)]
        rfl
    · rw [if_neg e]
      by_cases e2 : j = s.2.1.length
      · rw [if_pos e2]
        have : 1 ≤ i - s.2.1.length := by omega
        rw [List.getElem?_eq_none (by cases s.2.2.1 <;> simp <;> omega), List.getElem?_eq_none (by cases s.2.2.1 <;> simp <;> omega)]
      · rw [if_neg e2]
theorem tx_S.mu_len (s : tx_S) (j : Nat) (g : tx_U → tx_U) : (s.mu j g).2.1.length = s.2.1.length ∧ (s.mu j g).all.length = s.all.length := by
  refine ⟨List.length_modify .., ?_⟩
  unfold tx_S.all tx_S.mu
  show (s.2.1.modify j g ++ (if j = s.2.1.length then s.2.2.1.map g else s.2.2.1).toList).length = _
  rw [List.length_append, List.length_append, List.length_modify]
  by_cases e2 : j = s.2.1.length
  · rw [if_pos e2]
    cases s.2.2.1 <;> rfl
  · rw [if_neg e2]
theorem tx_S.mu_cur {s : tx_S} {j : Nat} {g : tx_U → tx_U} {u : tx_U} (h : (s.mu j g).2.2.1 = some u) : ∃ u0, s.2.2.1 = some u0 := by
  unfold tx_S.mu at h
  have h9 : (if j = s.2.1.length then s.2.2.1.map g else s.2.2.1) = some u := h
  by_cases e2 : j = s.2.1.length
  · rw [if_pos e2] at h9
    cases hc : s.2.2.1 with
    | none => rw [hc] at h9; cases h9
    | some u0 => exact ⟨u0, rfl⟩
  · rw [if_neg e2] at h9
    exact ⟨u, h9⟩
/-- what a unit was before -/
theorem tx_S.mu_in {s : tx_S} {j : Nat} {g : tx_U → tx_U} {i : Nat} {u : tx_U} (h : (s.mu j g).all[i]? = some u) : ∃ u0, s.all[i]? = some u0 ∧ u = if i = j then g u0 else u0 := by
  rw [tx_S.mu_get] at h
  by_cases e : i = j
  · rw [if_pos e] at h
    cases hc : s.all[i]? with
    | none => rw [hc] at h; cases h
    | some u0 =>
      rw [hc] at h
      cases h
      exact ⟨u0, rfl, by rw [if_pos e]⟩
  · rw [if_neg e] at h
    exact ⟨u, h, by rw [if_neg e]⟩
section TXP
variable {k : cx_K} {F : Nat → Prop} {G : cx_G} {A : tx_A} {s : tx_S}
theorem tx_mA.mu {j : Nat} {g : tx_U → tx_U} (hg : ∀ u, (g u).2.2.1.length = u.2.2.1.length) (hgt : ∀ (u : tx_U) (q : Nat) (r : tx_N), (g u).2.2.1[q]? = some r → ∃ r0, u.2.2.1[q]? = some r0 ∧ r.1 = r0.1) (h : tx_mA A s.all) : tx_mA A (s.mu j g).all := by
  have hl : ∀ (i : Nat) (u : tx_U), (s.mu j g).all[i]? = some u → ∃ u0 : tx_U, s.all[i]? = some u0 ∧ u.2.2.1.length = u0.2.2.1.length := by
    intro i u hu
    obtain ⟨u0, h1, h2⟩ := tx_S.mu_in hu
    refine ⟨u0, h1, ?_⟩
    rw [h2]
    split
    · exact hg u0
    · rfl
  obtain ⟨h1, h2, h3, h4, h5, h6⟩ := h
  refine ⟨fun i u i' u' z z' e => ?_, fun i u z => ?_, fun i u i' u' z z' e e' e2 => ?_, fun i u z e e2 => ?_, fun i u i' u' z z' q q' hq hq' e => ?_, fun i u z q r hr T hT => ?_⟩
  · obtain ⟨u0, y, -⟩ := hl i u z
    obtain ⟨u0', y', -⟩ := hl i' u' z'
    exact h1 i u0 i' u0' y y' e
  · obtain ⟨u0, y, -⟩ := hl i u z
    exact h2 i u0 y
  · obtain ⟨u0, y, -⟩ := hl i u z
    obtain ⟨u0', y', -⟩ := hl i' u' z'
    exact h3 i u0 i' u0' y y' e e' e2
  · obtain ⟨u0, y, -⟩ := hl i u z
    exact h4 i u0 y e e2
  · obtain ⟨u0, y, yl⟩ := hl i u z
    obtain ⟨u0', y', yl'⟩ := hl i' u' z'
    exact h5 i u0 i' u0' y y' q q' (by omega) (by omega) e
  · obtain ⟨u0, y1, y2⟩ := tx_S.mu_in z
    by_cases e : i = j
    · rw [if_pos e] at y2
      subst y2
      obtain ⟨r0, z1, z2⟩ := hgt u0 q r hr
      exact h6 i u0 y1 q r0 z1 T (by rw [← z2]; exact hT)
    · rw [if_neg e] at y2
      subst y2
      exact h6 i u y1 q r hr T hT
theorem tx_mF.mu {j : Nat} {g : tx_U → tx_U} (hg : ∀ u, (g u).2.2.1.length = u.2.2.1.length) (h : tx_mF F A s.all) : tx_mF F A (s.mu j g).all := by
  obtain ⟨h1, h2, h3, h4, h5, h6⟩ := h
  refine ⟨h1, h2, h3, h4, fun i u z => ?_, h6⟩
  obtain ⟨u0, y1, y2⟩ := tx_S.mu_in z
  obtain ⟨z1, z2, z3, z4⟩ := h5 i u0 y1
  refine ⟨z1, z2, z3, fun q hq => z4 q ?_⟩
  rw [y2] at hq
  split at hq
  · rw [hg u0] at hq; exact hq
  · exact hq
theorem tx_S.mu_va {j i q : Nat} {g : tx_U → tx_U} (hg : ∀ u, (g u).2.2.1.length = u.2.2.1.length) (h : ∃ u : tx_U, s.all[i]? = some u ∧ q < u.2.2.1.length) : ∃ u : tx_U, (s.mu j g).all[i]? = some u ∧ q < u.2.2.1.length := by
  obtain ⟨u, y1, y2⟩ := h
  rw [tx_S.mu_get, y1]
  by_cases e : i = j
  · rw [if_pos e]
    exact ⟨g u, rfl, by rw [hg u]; exact y2⟩
  · rw [if_neg e]
    exact ⟨u, rfl, y2⟩
theorem tx_mI.mu {j : Nat} {g : tx_U → tx_U} (hg : ∀ u, (g u).2.2.1.length = u.2.2.1.length) (hof : ∀ u : tx_U, s.all[j]? = some u → ∀ (q : Nat) (r : tx_N), (g u).2.2.1[q]? = some r → (∀ j', r.2.2.2.2.2.2.2.1 = some j' → j' < s.2.1.length) ∧ ∀ x : Nat × Nat, r.2.2.2.2.2.2.2.2.2 = some x → ∃ u' : tx_U, s.all[x.1]? = some u' ∧ x.2 < u'.2.2.1.length) (h : tx_mI s) : tx_mI (s.mu j g) := by
  obtain ⟨h1, h2, h3, h4⟩ := h
  have hl := tx_S.mu_len s j g
  refine ⟨fun T i z => by rw [hl.1]; exact h1 T i z, fun T x z => tx_S.mu_va hg (h2 T x z), by rw [hl.2]; exact h3, fun i u z => ?_⟩
  obtain ⟨u0, y1, y2⟩ := tx_S.mu_in z
  obtain ⟨z1, z2⟩ := h4 i u0 y1
  rw [hl.1]
  by_cases e : i = j
  · rw [if_pos e] at y2
    subst y2
    rw [e] at y1
    exact ⟨by rw [hg u0]; exact z1, fun q r hr => ⟨(hof u0 y1 q r hr).1, fun x hx => tx_S.mu_va hg ((hof u0 y1 q r hr).2 x hx)⟩⟩
  · rw [if_neg e] at y2
    subst y2
    exact ⟨z1, fun q r hr => ⟨(z2 q r hr).1, fun x hx => tx_S.mu_va hg ((z2 q r hr).2 x hx)⟩⟩
/-- a name's cell is written -/
theorem tx_m.nm {j q : Nat} {u : tx_U} {r : tx_N} {f : tx_N → tx_N} (hm : tx_m k F G A s) (hj : s.all[j]? = some u) (hq : u.2.2.1[q]? = some r) (hof : ∀ j', (f r).2.2.2.2.2.2.2.1 = some j' → j' < s.2.1.length) (hlb : (f r).2.2.2.2.2.2.2.2.2 = r.2.2.2.2.2.2.2.2.2 ∨ ∀ x : Nat × Nat, (f r).2.2.2.2.2.2.2.2.2 = some x → ∃ u' : tx_U, s.all[x.1]? = some u' ∧ x.2 < u'.2.2.1.length := by exact Or.inl rfl) (hft : ∀ r, (f r).1 = r.1 := by intro _; rfl) : tx_m k F (cx_put G (A.na j q) (tx_nm A j (f r))) A (s.mn j q f) ∧ tx_st F G (cx_put G (A.na j q) (tx_nm A j (f r))) := by
  obtain ⟨q1, q2, q3, q4, q5, q6, q7, q8, q9, q10⟩ := hm
  have hc := q6 j u hj q r hq
  have hc' : ∃ fs, G.1 (A.na j q) = some (.inr (4, fs)) := ⟨_, hc⟩
  obtain ⟨fs, hc'⟩ := hc'
  have hkp : tx_kp (tx_is 4) G (cx_put G (A.na j q) (tx_nm A j (f r))) := tx_kp.put hc'
  have hlen : ∀ u : tx_U, (tx_nq q f u).2.2.1.length = u.2.2.1.length := fun u => List.length_modify ..
  have hql : q < u.2.2.1.length := (List.getElem?_eq_some_iff.mp hq).1
  have hgt : ∀ (u : tx_U) (i : Nat) (r : tx_N), (tx_nq q f u).2.2.1[i]? = some r → ∃ r0, u.2.2.1[i]? = some r0 ∧ r.1 = r0.1 := by
    intro u i r hr
    have z8 : (u.2.2.1.modify q f)[i]? = some r := hr
    rw [tx_gm] at z8
    by_cases e2 : i = q
    · rw [if_pos e2] at z8
      cases hc9 : u.2.2.1[i]? with
      | none => rw [hc9] at z8; cases z8
      | some r0 =>
        rw [hc9] at z8
        cases z8
        exact ⟨r0, rfl, hft r0⟩
    · rw [if_neg e2] at z8
      exact ⟨r, z8, rfl⟩
  refine ⟨⟨q1.kp hkp (fun _ => tx_is_ne (by decide)), ?_, ?_, ?_, ?_, ?_, ?_, q8.mu hlen hgt, q9.mu hlen ?_, q10.mu hlen⟩, tx_st.put ((q10.2.2.2.2.1 j u hj).2.2.2 q hql) (by decide) hc'⟩
  · obtain ⟨x, z1, z2⟩ := q2.kp hkp (fun _ => tx_is_ne (by decide))
    refine ⟨x, z1, fun u9 hu9 => ?_⟩
    obtain ⟨u0, hu0⟩ := tx_S.mu_cur hu9
    rw [show (s.mn j q f).2.1.length = s.2.1.length from (tx_S.mu_len s j _).1]
    exact z2 u0 hu0
  · rw [show (s.mn j q f).2.1.length = s.2.1.length from (tx_S.mu_len s j _).1]
    exact q3.kp hkp (fun _ => tx_is_ne (by decide)) (fun _ => tx_is_na)
  · intro i u9 z
    obtain ⟨u0, y1, y2⟩ := tx_S.mu_in z
    have := (q4.kp hkp (fun _ => tx_is_ne (by decide))) i u0 y1
    rw [this, y2]
    split <;> rfl
  · intro i u9 z
    obtain ⟨u0, y1, y2⟩ := tx_S.mu_in z
    have := (q5.kp hkp (fun _ => tx_is_ne (by decide)) (fun _ => tx_is_na)) i u0 y1
    have hl9 : u9.2.2.1.length = u0.2.2.1.length := by
      rw [y2]
      split
      · exact hlen u0
      · rfl
    rw [hl9]
    exact this
  · intro i u9 z i9 r9 z9
    obtain ⟨u0, y1, y2⟩ := tx_S.mu_in z
    by_cases e : i = j
    · rw [if_pos e] at y2
      subst e
      cases hj.symm.trans y1
      subst y2
      have z8 : (u.2.2.1.modify q f)[i9]? = some r9 := z9
      rw [tx_gm] at z8
      by_cases e2 : i9 = q
      · rw [if_pos e2] at z8
        subst e2
        rw [hq] at z8
        cases z8
        exact cx_ps rfl
      · rw [if_neg e2] at z8
        have z7 : u.2.2.1[i9]? = some r9 := z8
        exact cx_pn rfl (q6 i u hj i9 r9 z7) (fun z => e2 (q8.2.2.2.2.1 i u i u hj hj i9 q (List.getElem?_eq_some_iff.mp z7).1 hql z).2)
    · rw [if_neg e] at y2
      subst y2
      exact cx_pn rfl (q6 i u9 y1 i9 r9 z9) (fun z => e (q8.2.2.2.2.1 i u9 j u y1 hj i9 q (List.getElem?_eq_some_iff.mp z9).1 hql z).1)
  · exact q7.kp hkp (fun _ => tx_is_ne (by decide)) (fun _ => tx_is_na)
  · intro u9 hu9 q9' r9 z9
    cases hj.symm.trans hu9
    have z8 : (u.2.2.1.modify q f)[q9']? = some r9 := z9
    rw [tx_gm] at z8
    by_cases e2 : q9' = q
    · rw [if_pos e2] at z8
      subst e2
      rw [hq] at z8
      cases z8
      refine ⟨hof, fun x hx => ?_⟩
      rcases hlb with hlb | hlb
      · exact ((q9.2.2.2 j u hj).2 q9' r hq).2 x (by rw [← hlb]; exact hx)
      · exact hlb x hx
    · rw [if_neg e2] at z8
      exact (q9.2.2.2 j u hj).2 q9' r9 z8
/-- a module's cell is written -/
theorem tx_m.um {j : Nat} {u : tx_U} {g : tx_U → tx_U} (hm : tx_m k F G A s) (hj : s.all[j]? = some u) (hg : ∀ u, (g u).2.2.1 = u.2.2.1) : tx_m k F (cx_put G (A.ua j) (tx_um A j (g u))) A (s.mu j g) ∧ tx_st F G (cx_put G (A.ua j) (tx_um A j (g u))) := by
  have hui := @tx_m.ui k F G A s hm
  obtain ⟨q1, q2, q3, q4, q5, q6, q7, q8, q9, q10⟩ := hm
  have hc := q4 j u hj
  have hc' : ∃ fs, G.1 (A.ua j) = some (.inr (8, fs)) := ⟨_, hc⟩
  obtain ⟨fs, hc'⟩ := hc'
  have hkp : tx_kp (tx_is 8) G (cx_put G (A.ua j) (tx_um A j (g u))) := tx_kp.put hc'
  have hlen : ∀ u : tx_U, (g u).2.2.1.length = u.2.2.1.length := fun u => by rw [hg u]
  refine ⟨⟨q1.kp hkp (fun _ => tx_is_ne (by decide)), ?_, ?_, ?_, ?_, ?_, ?_, q8.mu hlen (fun u i r hr => ⟨r, by rw [← hg u]; exact hr, rfl⟩), q9.mu hlen (fun u9 hu9 q r z => (q9.2.2.2 j u9 hu9).2 q r (by rw [← hg u9]; exact z)), q10.mu hlen⟩, tx_st.put (q10.2.2.2.2.1 j u hj).1 (by decide) hc'⟩
  · obtain ⟨x, z1, z2⟩ := q2.kp hkp (fun _ => tx_is_ne (by decide))
    refine ⟨x, z1, fun u9 hu9 => ?_⟩
    obtain ⟨u0, hu0⟩ := tx_S.mu_cur hu9
    rw [(tx_S.mu_len s j _).1]
    exact z2 u0 hu0
  · rw [(tx_S.mu_len s j _).1]
    exact q3.kp hkp (fun _ => tx_is_ne (by decide)) (fun _ => tx_is_na)
  · intro i u9 z
    obtain ⟨u0, y1, y2⟩ := tx_S.mu_in z
    by_cases e : i = j
    · rw [if_pos e] at y2
      subst e
      cases hj.symm.trans y1
      subst y2
      exact cx_ps rfl
    · rw [if_neg e] at y2
      subst y2
      exact cx_pn rfl (q4 i u9 y1) (fun z => e (hui y1 hj z))
  · intro i u9 z
    obtain ⟨u0, y1, y2⟩ := tx_S.mu_in z
    have := (q5.kp hkp (fun _ => tx_is_ne (by decide)) (fun _ => tx_is_na)) i u0 y1
    have hl9 : u9.2.2.1.length = u0.2.2.1.length := by
      rw [y2]
      split
      · exact hlen u0
      · rfl
    rw [hl9]
    exact this
  · intro i u9 z i9 r9 z9
    obtain ⟨u0, y1, y2⟩ := tx_S.mu_in z
    have e9 : u9.2.2.1 = u0.2.2.1 := by
      rw [y2]
      split
      · exact hg u0
      · rfl
    rw [e9] at z9
    exact (q6.kp hkp (fun _ => tx_is_ne (by decide))) i u0 y1 i9 r9 z9
  · exact q7.kp hkp (fun _ => tx_is_ne (by decide)) (fun _ => tx_is_na)
end TXP

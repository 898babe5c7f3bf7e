/-! MEANING: a module begins, a module ends. -/
/-- a module begins: its place, its list's -/
def tx_A.bu (A : tx_A) (n x la e0 : Nat) : tx_A := (A.1, va_up A.ua n x, (va_up A.nl n la, va_up A.ne n e0, va_up A.nc n 0), A.2.2.2.1, A.wf)
/-- a module was begun by the token t -/
def tx_ub (t : tx_Tk) : tx_U := (t.2.2.2.1, t.2.1, [], 0, 0, 0, 0, 0, 0)
def tx_S.bu (s : tx_S) (t : tx_Tk) : tx_S := (s.1, s.2.1, some (tx_ub t), s.2.2.2)
def tx_bun (t : tx_Tk) (s : tx_S) : tx_S := (tx_ck (s.mo t.2.2.2.1).isNone 20 (nI t.2.1) s).bu t
/-- the list of modules took one more -/
def tx_A.fu (A : tx_A) (ed cap : Nat) : tx_A := ((A.me, A.ve, A.ul, ed, cap), A.2)
def tx_S.fu (s : tx_S) : tx_S := (s.1, s.2.1 ++ [s.uu], none, (fun X => if s.uu.1 = some X then some s.2.1.length else s.2.2.2.1 X), s.2.2.2.2)
def tx_fck (s : tx_S) (r : tx_N) : tx_S := tx_ck (r.2.2.2.2.2.1 || !decide (r.2.1 = 1 ∨ r.2.1 = 3)) 33 (nI r.2.2.2.1) s
def tx_fun (s : tx_S) : tx_S := (s.uu.2.2.1.foldl tx_fck s).fu
section TXB
variable {k : cx_K} {F : Nat → Prop} {G G1 G2 G3 : cx_G} {A : tx_A} {s : tx_S} {u : tx_U} {r : tx_N} {x la e0 ed cap : Nat} {t : tx_Tk}
theorem tx_S.bu_get (hc : s.2.2.1 = none) (j : Nat) : (s.bu t).all[j]? = if j = s.2.1.length then some (tx_ub t) else s.all[j]? := by
  unfold tx_S.all tx_S.bu
  show (s.2.1 ++ [tx_ub t])[j]? = _
  rw [hc]
  rcases Nat.lt_trichotomy j s.2.1.length with h | h | h
  · rw [if_neg (by omega), List.getElem?_append_left h, List.getElem?_append_left h]
  · rw [if_pos h, h, List.getElem?_append_right (Nat.le_refl _), Nat.sub_self]
    rfl
  · rw [if_neg (by omega), List.getElem?_eq_none (by simp; omega), List.getElem?_eq_none (by simp; omega)]
theorem tx_S.bu_in (hc : s.2.2.1 = none) {j : Nat} {u' : tx_U} (h : (s.bu t).all[j]? = some u') : (j = s.2.1.length ∧ u' = tx_ub t) ∨ (j ≠ s.2.1.length ∧ s.all[j]? = some u' ∧ j < s.2.1.length) := by
  rw [tx_S.bu_get hc] at h
  by_cases e : j = s.2.1.length
  · rw [if_pos e] at h
    cases h
    exact Or.inl ⟨e, rfl⟩
  · rw [if_neg e] at h
    refine Or.inr ⟨e, h, ?_⟩
    unfold tx_S.all at h
    rw [hc] at h
    have := (List.getElem?_eq_some_iff.mp h).1
    simpa using this
theorem tx_A.bu_ua {n j : Nat} (h : j ≠ n) : (A.bu n x la e0).ua j = A.ua j := if_neg h
theorem tx_A.bu_nm {n j : Nat} (hj : j ≠ n) (h : ∀ j', r.2.2.2.2.2.2.2.1 = some j' → j' ≠ n) : tx_nm (A.bu n x la e0) j r = tx_nm A j r := by
  unfold tx_nm
  have e : r.2.2.2.2.2.2.2.1.map (A.bu n x la e0).ua = r.2.2.2.2.2.2.2.1.map A.ua := by
    cases hl : r.2.2.2.2.2.2.2.1 with
    | none => rfl
    | some y =>
      show some ((A.bu n x la e0).ua y) = some (A.ua y)
      rw [tx_A.bu_ua (h y hl)]
  rw [e, tx_A.bu_ua hj]
  rfl
/-- a module was made and is now the one that is being read -/
theorem tx_m.bu (hm : tx_m k F G A s) (hF : ∀ b, F b → ∃ e, G.1 b = some e) (hc : s.2.2.1 = none) (hn : s.2.1.length + 1 < 1000000) (hext : cx_ext G G1) (hx : G.1 x = none) (hla : G.1 la = none) (hux : G1.1 x = some (.inr (8, [va_rf (A.w t.2.2.2.1), .int (nI t.2.1), .int (nI s.2.1.length), .ref la, .int 0, .int 0, .int 0, .int 0, .int 0, .int 0]))) (hal : tx_al k G1 la e0 [] 0)
    {y : Nat} (hme : G1.1 A.me = some (.inr (3, [.ref A.ve, .ref A.ul, .ref y]))) (hG2 : cx_put G1 A.me (.inr (3, [.ref A.ve, .ref A.ul, .ref x])) = G2) : tx_m k F G2 (A.bu s.2.1.length x la e0) (s.bu t) ∧ tx_st F G G2 := by
  have hm1 := hm.ext hext
  obtain ⟨q1, q2, q3, q4, q5, q6, q7, q8, q9, q10⟩ := hm1
  have hk : tx_kp (tx_is 3) G1 G2 := by rw [← hG2]; exact tx_kp.put hme
  obtain ⟨-, -, p3, p4, p5, p6, p7, -, -, -⟩ := hm
  obtain ⟨a1, a2, a3, a4, a5, a6⟩ := q8
  obtain ⟨f1, f2, f3, f4, f5, f6⟩ := q10
  obtain ⟨i1, i2, i3, i4⟩ := q9
  have hlt : ∀ (j : Nat) (u : tx_U), s.all[j]? = some u → j < s.2.1.length := by
    intro j u h
    unfold tx_S.all at h
    rw [hc] at h
    have := (List.getElem?_eq_some_iff.mp h).1
    simpa using this
  have hnel : ∀ j, j ≠ s.2.1.length → (A.bu s.2.1.length x la e0).nl j = A.nl j ∧ (A.bu s.2.1.length x la e0).ne j = A.ne j ∧ (A.bu s.2.1.length x la e0).nc j = A.nc j := fun j h => ⟨if_neg h, if_neg h, if_neg h⟩
  have hnl0 : (A.bu s.2.1.length x la e0).nl s.2.1.length = la := if_pos rfl
  have hne0 : (A.bu s.2.1.length x la e0).ne s.2.1.length = e0 := if_pos rfl
  have hnc0 : (A.bu s.2.1.length x la e0).nc s.2.1.length = 0 := if_pos rfl
  have hua0 : (A.bu s.2.1.length x la e0).ua s.2.1.length = x := if_pos rfl
  have hva : ∀ (i q : Nat), (∃ u' : tx_U, s.all[i]? = some u' ∧ q < u'.2.2.1.length) → ∃ u' : tx_U, (s.bu t).all[i]? = some u' ∧ q < u'.2.2.1.length := by
    intro i q ⟨u', z1, z2⟩
    refine ⟨u', ?_, z2⟩
    rw [tx_S.bu_get hc, if_neg (by have := hlt i u' z1; omega)]
    exact z1
  refine ⟨⟨hk _ _ (tx_is_ne (by decide)) q1, ⟨x, cx_ps hG2, fun u9 _ => hua0.symm⟩, ?_, ?_, ?_, ?_, ?_, ⟨?_, ?_, ?_, ?_, ?_, ?_⟩, ⟨i1, ?_, ?_, ?_⟩, ⟨f1, f2, f3, f4, ?_, f6⟩⟩, ?_⟩
  · have h3 := q3.kp hk (fun _ => tx_is_ne (by decide)) (fun _ => tx_is_na)
    have e : (List.range s.2.1.length).map (A.bu s.2.1.length x la e0).ua = (List.range s.2.1.length).map A.ua := by
      apply List.map_congr_left
      intro q hq
      exact tx_A.bu_ua (by have := List.mem_range.mp hq; omega)
    show tx_al k G2 A.ul A.ue ((List.range s.2.1.length).map (A.bu s.2.1.length x la e0).ua) A.uc
    rw [e]
    exact h3
  · intro j u' hj
    rcases tx_S.bu_in hc hj with ⟨e, e2⟩ | ⟨e, hj', -⟩
    · subst e2
      rw [e, hua0]
      unfold tx_um
      rw [hnl0]
      exact hk _ _ (tx_is_ne (by decide)) hux
    · rw [tx_A.bu_ua e]
      unfold tx_um
      rw [(hnel j e).1]
      exact hk _ _ (tx_is_ne (by decide)) (q4 j u' hj')
  · intro j u' hj
    rcases tx_S.bu_in hc hj with ⟨e, e2⟩ | ⟨e, hj', -⟩
    · subst e2
      rw [e, hnl0, hne0, hnc0]
      exact hal.kp hk (fun _ => tx_is_ne (by decide)) (fun _ => tx_is_na)
    · rw [(hnel j e).1, (hnel j e).2.1, (hnel j e).2.2]
      exact (q5 j u' hj').kp hk (fun _ => tx_is_ne (by decide)) (fun _ => tx_is_na)
  · intro j u' hj q r' hr'
    rcases tx_S.bu_in hc hj with ⟨e, e2⟩ | ⟨e, hj', -⟩
    · subst e2
      cases hr'
    · rw [tx_A.bu_nm e (fun j' z => by have := ((i4 j u' hj').2 q r' hr').1 j' z; omega)]
      exact hk _ _ (tx_is_ne (by decide)) (q6 j u' hj' q r' hr')
  · intro T a ha
    obtain ⟨nx, kd, tb, h1, g, h2, h3⟩ := q7 T a ha
    refine ⟨nx, kd, tb, ?_, g, hk _ _ tx_is_na h2, h3⟩
    have e : (s.2.2.2.1 T).map (A.bu s.2.1.length x la e0).ua = (s.2.2.2.1 T).map A.ua := by
      cases hl : s.2.2.2.1 T with
      | none => rfl
      | some y =>
        show some ((A.bu s.2.1.length x la e0).ua y) = some (A.ua y)
        rw [tx_A.bu_ua (by have := i1 T y hl; omega)]
    show G2.1 a = some (.inr (10, [.ref tb, va_rf nx, .int kd, va_rf ((s.2.2.2.1 T).map (A.bu s.2.1.length x la e0).ua), _]))
    rw [e]
    exact hk _ _ (tx_is_ne (by decide)) h1
  · intro i a i' a' z z' e
    have key : ∀ (j : Nat) (uj : tx_U), s.all[j]? = some uj → A.nl j ≠ la := by
      intro j uj hj y
      obtain ⟨⟨mc, w⟩, -⟩ := p5 j uj hj
      rw [y, hla] at w
      cases w
    rcases tx_S.bu_in hc z with ⟨d, -⟩ | ⟨d, y, -⟩ <;> rcases tx_S.bu_in hc z' with ⟨d', -⟩ | ⟨d', y', -⟩
    · rw [d, d']
    · rw [d, hnl0, (hnel i' d').1] at e
      exact absurd e.symm (key i' a' y')
    · rw [d', hnl0, (hnel i d).1] at e
      exact absurd e (key i a y)
    · rw [(hnel i d).1, (hnel i' d').1] at e
      exact a1 i a i' a' y y' e
  · intro i a z
    rcases tx_S.bu_in hc z with ⟨d, -⟩ | ⟨d, y, -⟩
    · rw [d, hnl0]
      intro w
      obtain ⟨⟨mc, w9⟩, -⟩ := p3
      have w8 : la = A.ul := w
      rw [← w8, hla] at w9
      cases w9
    · rw [(hnel i d).1]
      exact a2 i a y
  · intro i a i' a' z z' e e' e2
    rcases tx_S.bu_in hc z with ⟨d, -⟩ | ⟨d, y, -⟩ <;> rcases tx_S.bu_in hc z' with ⟨d', -⟩ | ⟨d', y', -⟩
    · rw [d, d']
    · rw [d] at e
      exact absurd hnc0 e
    · rw [d'] at e'
      exact absurd hnc0 e'
    · rw [(hnel i d).2.2] at e
      rw [(hnel i' d').2.2] at e'
      rw [(hnel i d).2.1, (hnel i' d').2.1] at e2
      exact a3 i a i' a' y y' e e' e2
  · intro i a z e e2
    rcases tx_S.bu_in hc z with ⟨d, -⟩ | ⟨d, y, -⟩
    · rw [d] at e
      exact absurd hnc0 e
    · rw [(hnel i d).2.2] at e
      rw [(hnel i d).2.1]
      exact a4 i a y e e2
  · intro i a i' a' z z' q q' hq hq' e
    rcases tx_S.bu_in hc z with ⟨d, d2⟩ | ⟨d, y, -⟩
    · subst d2
      exact absurd hq (Nat.not_lt_zero _)
    · rcases tx_S.bu_in hc z' with ⟨d', d2'⟩ | ⟨d', y', -⟩
      · subst d2'
        exact absurd hq' (Nat.not_lt_zero _)
      · exact a5 i a i' a' y y' q q' hq hq' e
  · intro i a z q r9 hr T hT
    rcases tx_S.bu_in hc z with ⟨d, d2⟩ | ⟨d, y, -⟩
    · subst d2
      cases hr
    · exact a6 i a y q r9 hr T hT
  · exact fun T y hy => hva _ _ (i2 T y hy)
  · show (s.2.1 ++ [tx_ub t]).length < _
    rw [List.length_append]
    exact hn
  · intro j u' hj
    rcases tx_S.bu_in hc hj with ⟨d, d2⟩ | ⟨d, y, -⟩
    · subst d2
      exact ⟨by show 0 < _; omega, fun q r hr => by cases hr⟩
    · exact ⟨(i4 j u' y).1, fun q r hr => ⟨((i4 j u' y).2 q r hr).1, fun x hx => hva _ _ (((i4 j u' y).2 q r hr).2 x hx)⟩⟩
  · intro j u' hj
    rcases tx_S.bu_in hc hj with ⟨d, d2⟩ | ⟨d, y, -⟩
    · subst d2
      refine ⟨?_, ?_, fun h => ?_, fun q hq => absurd hq (Nat.not_lt_zero _)⟩
      · rw [d, hua0]
        intro w
        obtain ⟨e, w⟩ := hF _ w
        rw [hx] at w
        cases w
      · rw [d, hnl0]
        intro w
        obtain ⟨e, w⟩ := hF _ w
        rw [hla] at w
        cases w
      · rw [d] at h
        exact absurd hnc0 h
    · rw [tx_A.bu_ua d, (hnel j d).1, (hnel j d).2.1, (hnel j d).2.2]
      exact f5 j u' y
  · intro b e hb he
    rw [← hG2]
    exact tx_st.put f1 (by decide) hme b e hb (hext b e he)
theorem tx_S.fu_all (hu : s.2.2.1 = some u) : s.fu.all = s.all := by
  unfold tx_S.all tx_S.fu tx_S.uu
  show (s.2.1 ++ [s.2.2.1.getD tx_u0]) ++ [] = _
  rw [hu, List.append_nil]
  rfl
/-- the module that was being read was added to the list of modules, and its word leads to it -/
theorem tx_m.fu (hm : tx_m k F G A s) (hF : ∀ b, F b → ∃ e, G.1 b = some e) (hu : s.2.2.1 = some u)
    (hal : tx_alp k G A.ul A.ue ((List.range s.2.1.length).map A.ua) A.uc (A.ua s.2.1.length) G2)
    (hw : (A.w u.1 = none ∧ G3 = G2) ∨ ∃ T a x0 x1 x2 x3 x4, u.1 = some T ∧ A.wf T = some a ∧ G2.1 a = some (.inr (10, [x0, x1, x2, x3, x4])) ∧ G3 = cx_put G2 a (.inr (10, [x0, x1, x2, .ref (A.ua s.2.1.length), x4]))) : ∃ ed cap, tx_m k F G3 (A.fu ed cap) s.fu ∧ tx_st F G G3 ∧ G.2.1 ≤ G3.2.1 ∧ G3.2.1 ≤ G.2.1 + 1 ∧ G.2.2 ≤ G3.2.2 ∧ G3.2.2 + 4 * A.uc ≤ G.2.2 + 4 * cap := by
  have hcur := tx_S.cur hu
  have huu : s.uu = u := by unfold tx_S.uu; rw [hu]; rfl
  obtain ⟨ed, cap, al1, al2, al3, al4, al5, al6, al7⟩ := hal
  obtain ⟨q1, q2, q3, q4, q5, q6, q7, q8, q9, q10⟩ := hm
  have hm' : tx_m k F G A s := ⟨q1, q2, q3, q4, q5, q6, q7, q8, q9, q10⟩
  obtain ⟨a1, a2, a3, a4, a5, a6⟩ := q8
  obtain ⟨f1, f2, f3, f4, f5, f6⟩ := q10
  obtain ⟨i1, i2, i3, i4⟩ := q9
  have hul : ∃ fs, G.1 A.ul = some (.inr (13, fs)) := by
    obtain ⟨⟨mc, h1⟩, -⟩ := q3
    exact ⟨_, h1⟩
  have hue : A.uc = 0 ∨ ∃ f, G.1 A.ue = some (.inl (k.2.1 3, A.uc, .inr (.inr (.inr (.inr f))))) := by
    rcases q3.2 with ⟨z, -⟩ | ⟨f, z, -⟩
    · exact Or.inl z
    · exact Or.inr ⟨f, z⟩
  have hob : ∀ (b c : Nat) (fs : List Value), c ≠ 13 → G.1 b = some (.inr (c, fs)) → G2.1 b = some (.inr (c, fs)) := by
    intro b c fs hc hb
    obtain ⟨fs9, h1⟩ := hul
    refine al3 _ _ (cx_neO h1 hb hc) ?_ hb
    rcases hue with z | ⟨f, z⟩
    · exact Or.inl z
    · exact Or.inr (cx_neA z hb)
  have hk3 : tx_kp (tx_is 10) G2 G3 := by
    rcases hw with ⟨-, e⟩ | ⟨T, a, x0, x1, x2, x3, x4, -, -, e1, e2⟩
    · rw [e]
      exact fun _ _ _ h => h
    · rw [e2]
      exact tx_kp.put e1
  have hc3 : G3.2 = G2.2 := by
    rcases hw with ⟨-, e⟩ | ⟨T, a, x0, x1, x2, x3, x4, -, -, e1, e2⟩
    · rw [e]
    · rw [e2]
      rfl
  have hk : tx_kp (fun e => tx_is 10 e ∨ tx_is 13 e ∨ ∃ z, e = .inl z) G G3 := by
    intro b e he hb
    cases e with
    | inl z => exact absurd (Or.inr (Or.inr ⟨z, rfl⟩)) he
    | inr z =>
      obtain ⟨c, fs⟩ := z
      exact hk3 _ _ (fun z => he (Or.inl z)) (hob b c fs (fun z => he (Or.inr (Or.inl ⟨fs, by rw [z]⟩))) hb)
  have hX : ∀ (c : Nat) (fs : List Value), c ≠ 10 → c ≠ 13 → ¬ (tx_is 10 (.inr (c, fs)) ∨ tx_is 13 (.inr (c, fs)) ∨ ∃ z, (.inr (c, fs) : va_E) = .inl z) := by
    intro c fs h1 h2 z
    rcases z with z | z | ⟨z, y⟩
    · exact tx_is_ne h1 z
    · exact tx_is_ne h2 z
    · cases y
  -- a list that is another one
  have hli : ∀ (la e9 : Nat) (xs : List Nat) (c9 : Nat), tx_al k G la e9 xs c9 → la ≠ A.ul → (c9 ≠ 0 → A.uc ≠ 0 → e9 ≠ A.ue) → tx_al k G3 la e9 xs c9 := by
    intro la e9 xs c9 h9 d1 d2
    obtain ⟨fs, hul⟩ := hul
    have hla : A.uc = 0 ∨ la ≠ A.ue := by
      rcases hue with z | ⟨f, z⟩
      · exact Or.inl z
      · obtain ⟨⟨mc, z9⟩, -⟩ := h9
        exact Or.inr (cx_neA z z9)
    refine (h9.fr al3 d1 hla (fun hc => ⟨?_, ?_⟩)).kp hk3 (fun _ => tx_is_ne (by decide)) (fun _ => tx_is_na)
    · rcases h9.2 with ⟨z, -⟩ | ⟨f, z, -⟩
      · exact absurd z hc
      · exact cx_neB hul z
    · by_cases z : A.uc = 0
      · exact Or.inl z
      · exact Or.inr (d2 hc z)
  have hst2 : tx_st F G G2 := by
    intro b e hb he
    obtain ⟨fs, hul⟩ := hul
    refine al3 b e ?_ ?_ he
    · intro z
      rcases hb with hb | hb
      · exact f3 (z ▸ hb)
      · rw [z, hul] at he
        cases he
        exact hb (by show 13 = 3 ∨ _; decide)
    · by_cases y : A.uc = 0
      · exact Or.inl y
      · rcases hue with z | ⟨f, z⟩
        · exact Or.inl z
        · refine Or.inr (fun w => ?_)
          rcases hb with hb | hb
          · exact f4 y (w ▸ hb)
          · rw [w, z] at he
            cases he
            exact hb trivial
  have hst3 : tx_st F G2 G3 := by
    rcases hw with ⟨-, e⟩ | ⟨T, a, x0, x1, x2, x3, x4, -, e0, e1, e2⟩
    · rw [e]
      exact tx_st.rf _ _
    · rw [e2]
      exact tx_st.put (f6 _ _ e0) (by decide) e1
  have hll : (s.2.1 ++ [s.uu]).length = s.2.1.length + 1 := by rw [List.length_append]; rfl
  have hedo : ∀ b e, G.1 b = some e → G.1 ed = none → b ≠ ed := by
    intro b e hb hn z
    rw [z, hn] at hb
    cases hb
  refine ⟨ed, cap, ⟨hk _ _ (hX _ _ (by decide) (by decide)) q1, ?_, ?_, ?_, ?_, ?_, ?_, ?_, ?_, ?_⟩, hst2.tr hst3, by rw [hc3]; exact al4, by rw [hc3]; exact al5, by rw [hc3]; exact al6, by rw [hc3]; exact al7⟩
  · obtain ⟨y, z, -⟩ := q2
    exact ⟨y, hk _ _ (hX _ _ (by decide) (by decide)) z, fun u9 h9 => by cases h9⟩
  · show tx_al k G3 A.ul ed ((List.range (s.2.1 ++ [s.uu]).length).map A.ua) cap
    rw [hll, List.range_succ, List.map_append]
    exact al1.kp hk3 (fun _ => tx_is_ne (by decide)) (fun _ => tx_is_na)
  · rw [tx_S.fu_all hu]
    exact fun j u' hj => hk _ _ (hX _ _ (by decide) (by decide)) (q4 j u' hj)
  · rw [tx_S.fu_all hu]
    exact fun j u' hj => hli _ _ _ _ (q5 j u' hj) (a2 j u' hj) (fun z1 z2 => a4 j u' hj z1 z2)
  · rw [tx_S.fu_all hu]
    exact fun j u' hj q r hr => hk _ _ (hX _ _ (by decide) (by decide)) (q6 j u' hj q r hr)
  · intro T a ha
    obtain ⟨nx, kd, tb, g1, g, g2, g3⟩ := q7 T a ha
    have g2' : G3.1 tb = some (.inl (k.2.1 0, T.length, .inl g)) := by
      obtain ⟨fs, hul⟩ := hul
      refine hk3 _ _ tx_is_na (al3 _ _ (cx_neB hul g2) ?_ g2)
      rcases hue with z | ⟨f, z⟩
      · exact Or.inl z
      · exact Or.inr (fun y => by rw [y, z] at g2; simp only [Option.some.injEq, Sum.inl.injEq, Prod.mk.injEq] at g2; exact absurd g2.2.2 (fun q => by cases q))
    refine ⟨nx, kd, tb, ?_, g, g2', g3⟩
    have g1' := hob _ _ _ (by decide) g1
    show G3.1 a = some (.inr (10, [.ref tb, va_rf nx, .int kd, va_rf ((if s.uu.1 = some T then some s.2.1.length else s.2.2.2.1 T).map A.ua), _]))
    rw [huu]
    rcases hw with ⟨e, e9⟩ | ⟨T0, a0, x0, x1, x2, x3, x4, e, e0, e1, e2⟩
    · rw [if_neg (fun z => by rw [z] at e; have e8 : A.wf T = none := e; exact absurd (e8.symm.trans ha) (fun q => by cases q)), e9]
      exact g1'
    · by_cases z : T = T0
      · subst z
        cases e0.symm.trans ha
        rw [if_pos e]
        rw [e1] at g1'
        simp only [Option.some.injEq, Sum.inr.injEq, Prod.mk.injEq, List.cons.injEq, true_and, and_true] at g1'
        obtain ⟨y0, y1, y2, -, y4⟩ := g1'
        subst y0 y1 y2 y4
        rw [e2]
        exact cx_ps rfl
      · rw [if_neg (fun y => z (by rw [e] at y; cases y; rfl)), e2]
        exact cx_pn rfl g1' (fun y => z (hm'.wi (y ▸ ha) e0))
  · rw [tx_S.fu_all hu]
    refine ⟨a1, a2, a3, fun i a z e _ => ?_, a5, a6⟩
    intro w
    have w9 : A.ne i = ed := w
    rcases al2 with ⟨y, y2⟩ | y
    · exact a4 i a z e y2 (by rw [w9, y])
    · obtain ⟨e9, he⟩ := (q5 i a z).ed e
      exact hedo _ _ he y w9
  · refine ⟨fun T j hj => ?_, fun T x hx => ?_, ?_, fun j u' hj => ?_⟩
    · have hj9 : (if s.uu.1 = some T then some s.2.1.length else s.2.2.2.1 T) = some j := hj
      show j < (s.2.1 ++ [s.uu]).length
      rw [hll]
      by_cases e : s.uu.1 = some T
      · rw [if_pos e] at hj9
        cases hj9
        omega
      · rw [if_neg e] at hj9
        have := i1 T j hj9
        omega
    · rw [tx_S.fu_all hu]
      exact i2 T x hx
    · rw [tx_S.fu_all hu]
      exact i3
    · rw [tx_S.fu_all hu] at hj ⊢
      refine ⟨(i4 j u' hj).1, fun q r hr => ⟨fun j' z => ?_, ((i4 j u' hj).2 q r hr).2⟩⟩
      have := ((i4 j u' hj).2 q r hr).1 j' z
      show j' < (s.2.1 ++ [s.uu]).length
      omega
  · rw [tx_S.fu_all hu]
    refine ⟨f1, f2, f3, fun _ z => ?_, f5, f6⟩
    have z9 : F ed := z
    rcases al2 with ⟨y, y2⟩ | y
    · rw [y] at z9
      exact f4 y2 z9
    · obtain ⟨e, he⟩ := hF ed z9
      exact hedo _ _ he y rfl
end TXB

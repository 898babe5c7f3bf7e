/-! MEANING: cells are made beside it. -/
section TXE
variable {k : cx_K} {F : Nat → Prop} {G G' : cx_G} {A : tx_A} {s : tx_S}
/-- new cells change nothing -/
theorem tx_m.ext (h : cx_ext G G') (hm : tx_m k F G A s) : tx_m k F G' A s := by
  obtain ⟨q1, q2, q3, q4, q5, q6, q7, q8, q9, q10⟩ := hm
  have hk : tx_kp (fun _ => False) G G' := tx_kp.ext h
  exact ⟨q1.kp hk (fun _ z => z), q2.kp hk (fun _ z => z), q3.kp hk (fun _ z => z) (fun _ z => z), q4.kp hk (fun _ z => z), q5.kp hk (fun _ z => z) (fun _ z => z), q6.kp hk (fun _ z => z), q7.kp hk (fun _ z => z) (fun _ z => z), q8, q9, q10⟩
theorem tx_al.ed {la ed cap : Nat} {xs : List Nat} (h : tx_al k G la ed xs cap) (hc : cap ≠ 0) : ∃ e, G.1 ed = some e := by
  rcases h.2 with ⟨z, _⟩ | ⟨f, z, _⟩
  · exact absurd z hc
  · exact ⟨_, z⟩
/-- a place where nothing lay may be kept too -/
theorem tx_m.keep {x : Nat} (hx : G.1 x = none) (hm : tx_m k F G A s) : tx_m k (fun b => F b ∨ b = x) G A s := by
  obtain ⟨q1, q2, q3, q4, q5, q6, q7, q8, q9, q10⟩ := hm
  have hne : ∀ b e, G.1 b = some e → ¬ F b → ¬ (F b ∨ b = x) := fun b e hb hF z => z.elim hF (fun z => by rw [z, hx] at hb; cases hb)
  refine ⟨q1, q2, q3, q4, q5, q6, q7, q8, q9, ?_⟩
  obtain ⟨f1, f2, f3, f4, f5, f6⟩ := q10
  refine ⟨?_, hne _ _ q1 f2, ?_, fun hc => ?_, fun j u hj => ?_, fun T a ha => ?_⟩
  · obtain ⟨y, z, -⟩ := q2
    exact hne _ _ z f1
  · obtain ⟨⟨mc, z⟩, -⟩ := q3
    exact hne _ _ z f3
  · obtain ⟨e, z⟩ := q3.ed hc
    exact hne _ _ z (f4 hc)
  · obtain ⟨g1, g2, g3, g4⟩ := f5 j u hj
    refine ⟨hne _ _ (q4 j u hj) g1, ?_, fun hc => ?_, fun q hq => ?_⟩
    · obtain ⟨⟨mc, z⟩, -⟩ := q5 j u hj
      exact hne _ _ z g2
    · obtain ⟨e, z⟩ := (q5 j u hj).ed hc
      exact hne _ _ z (g3 hc)
    · exact hne _ _ (q6 j u hj q _ (List.getElem?_eq_getElem hq)) (g4 q hq)
  · obtain ⟨nx, kd, tb, z, -⟩ := q7 T a ha
    exact hne _ _ z (f6 T a ha)
/-- less may be kept -/
theorem tx_m.less {F' : Nat → Prop} (h : ∀ b, F b → F' b) (hm : tx_m k F' G A s) : tx_m k F G A s := by
  obtain ⟨q1, q2, q3, q4, q5, q6, q7, q8, q9, f1, f2, f3, f4, f5, f6⟩ := hm
  exact ⟨q1, q2, q3, q4, q5, q6, q7, q8, q9, fun z => f1 (h _ z), fun z => f2 (h _ z), fun z => f3 (h _ z), fun hc z => f4 hc (h _ z), fun j u hj => ⟨fun z => (f5 j u hj).1 (h _ z), fun z => (f5 j u hj).2.1 (h _ z), fun hc z => (f5 j u hj).2.2.1 hc (h _ z), fun q hq z => (f5 j u hj).2.2.2 q hq (h _ z)⟩, fun T a ha z => f6 T a ha (h _ z)⟩
end TXE
/-- a new name -/
def tx_new0 (t : tx_Tk) (kd wd : Int32) : tx_N := (t.2.2.2.1, kd, wd, t.2.1, 0, false, 0, none, 0, none)
def tx_adn (r : tx_N) (u : tx_U) : tx_U := (u.1, u.2.1, u.2.2.1 ++ [r], u.2.2.2)
/-- a name is added to the module that is being read -/
def tx_S.ad (s : tx_S) (r : tx_N) : tx_S := (s.1, s.2.1, s.2.2.1.map (tx_adn r), s.2.2.2.1, fun X => if r.1 = some X then some (s.2.1.length, s.uu.2.2.1.length) else s.2.2.2.2 X)
/-- a declaration -/
def tx_dcl (t : tx_Tk) (kd wd : Int32) (s : tx_S) : tx_S := (tx_ck (s.da t.2.2.2.1).isNone 21 (nI t.2.1) s).ad (tx_new0 t kd wd)
theorem tx_S.ad_get {s : tx_S} {u : tx_U} (hu : s.2.2.1 = some u) (r : tx_N) (j : Nat) : (s.ad r).all[j]? = if j = s.2.1.length then some (tx_adn r u) else s.all[j]? := by
  unfold tx_S.all tx_S.ad
  show (s.2.1 ++ (s.2.2.1.map (tx_adn r)).toList)[j]? = _
  rw [hu]
  rcases Nat.lt_trichotomy j s.2.1.length with h | h | h
  · rw [if_neg (by omega), List.getElem?_append_left h, List.getElem?_append_left h]
  · rw [if_pos h, h, List.getElem?_append_right (Nat.le_refl _), Nat.sub_self]
    rfl
  · rw [if_neg (by omega), List.getElem?_eq_none (by simp; omega), List.getElem?_eq_none (by simp; omega)]
/-- a list whose cells were not written -/
theorem tx_al.fr {k : cx_K} {G G' : cx_G} {la ed cap la' ed' cap' : Nat} {xs : List Nat} (h3 : ∀ b e, b ≠ la → (cap = 0 ∨ b ≠ ed) → G.1 b = some e → G'.1 b = some e) (hl : la' ≠ la) (hle : cap = 0 ∨ la' ≠ ed) (he : cap' ≠ 0 → ed' ≠ la ∧ (cap = 0 ∨ ed' ≠ ed)) (h : tx_al k G la' ed' xs cap') : tx_al k G' la' ed' xs cap' := by
  obtain ⟨⟨mc, h1⟩, h2⟩ := h
  refine ⟨⟨mc, h3 _ _ hl hle h1⟩, ?_⟩
  rcases h2 with h2 | ⟨f, h2, h4, h5⟩
  · exact Or.inl h2
  · obtain ⟨z1, z2⟩ := he (by omega)
    exact Or.inr ⟨f, h3 _ _ z1 z2 h2, h4, h5⟩

/-! THE SECOND PASS: a name is added to the tables. -/
theorem rt_take {α : Type} {P : α → Bool} {L : List α} {x : α} {q : Nat} (h : q ≤ L.length) : ((L ++ [x]).take q).countP P = (L.take q).countP P := by
  rw [List.take_append_of_le_length h]
theorem rt_app {L : List tx_N} {r0 : tx_N} {q : Nat} {r : tx_N} (h : (L ++ [r0])[q]? = some r) : (q < L.length ∧ L[q]? = some r) ∨ (q = L.length ∧ r = r0) := by
  rcases Nat.lt_trichotomy q L.length with z | z | z
  · rw [List.getElem?_append_left z] at h
    exact Or.inl ⟨z, h⟩
  · subst z
    rw [List.getElem?_append_right (Nat.le_refl _), Nat.sub_self] at h
    cases h
    exact Or.inr ⟨rfl, rfl⟩
  · rw [List.getElem?_eq_none (by simp; omega)] at h
    cases h
section RZA
variable {T : List tx_Tk} {s : tx_S} {M M' : rm_M} {u : tx_U} {lo li : Nat}
theorem tx_ad_cu (s : tx_S) (r : tx_N) : (s.ad r).2.1 = s.2.1 := rfl
/-- a text that leads to no name of the module -/
theorem rt_C.no (h : rt_C T s M u lo li) {X : List Int32} (hX : s.da (some X) = none) : ∀ (q : Nat) (r : tx_N), u.2.2.1[q]? = some r → ¬ r.1 = some X := by
  intro q r hq e
  rw [h.da.mpr ⟨r, hq, e⟩] at hX
  cases hX
theorem rt_C.ad (h : rt_C T s M u lo li) {r0 : tx_N} {X : List Int32} (h0 : r0.1 = some X) (hX : s.da (some X) = none) (h12 : M'.1 12 = M.1 12) (h18 : M'.1 18 = nI (lo + (u.2.2.1 ++ [r0]).countP rt_sg)) (hle : lo + (u.2.2.1 ++ [r0]).countP rt_sg ≤ 11000) (hr : ∀ j, j = 14 ∨ j = 15 → M'.2.1 j s.2.1.length = M.2.1 j s.2.1.length) (hL : rt_L T M' lo li u.2.2.1) (hn1 : rt_sg r0 = true → rt_sig T M' (lo + u.2.2.1.countP rt_sg) r0) (hn2 : rt_sg r0 = false → rt_ins T M' (li + u.2.2.1.countP (fun r => !rt_sg r)) r0) (v : Int32 × Int32) : rt_C T (v, (s.ad r0).2) M' (tx_adn r0 u) lo li := by
  have hno := h.no hX
  obtain ⟨h1, h2, h3, h4, h5, h6, h7, h8, h9, h10⟩ := h
  have euu : s.uu = u := by
    unfold tx_S.uu
    rw [h1]
    rfl
  refine ⟨by show s.2.2.1.map _ = _; rw [h1]; rfl, by rw [h12]; exact h2, h3, by show M'.2.1 14 s.2.1.length = _; rw [hr 14 (by simp)]; exact h4, by show M'.2.1 15 s.2.1.length = _; rw [hr 15 (by simp)]; exact h5, h18, hle, fun q r hq => ?_, fun q r hq => ?_, fun Y q hY => ?_⟩
  · have hq' : (u.2.2.1 ++ [r0])[q]? = some r := hq
    show (_ → rt_sig T M' (lo + rt_k (u.2.2.1 ++ [r0]) q) r) ∧ (_ → rt_ins T M' (li + rt_j (u.2.2.1 ++ [r0]) q) r)
    rcases rt_app hq' with ⟨z1, z2⟩ | ⟨z1, z2⟩
    · unfold rt_k rt_j
      rw [rt_take (by omega), rt_take (by omega)]
      exact hL q r z2
    · subst z2
      unfold rt_k rt_j
      rw [z1, rt_take (Nat.le_refl _), rt_take (Nat.le_refl _), List.take_length]
      exact ⟨hn1, hn2⟩
  · have hq' : (u.2.2.1 ++ [r0])[q]? = some r := hq
    rcases rt_app hq' with ⟨z1, z2⟩ | ⟨z1, z2⟩
    · obtain ⟨X', e1, e2⟩ := h9 q r z2
      refine ⟨X', e1, ?_⟩
      show (if r0.1 = some X' then _ else _) = _
      rw [if_neg (fun z => hno q r z2 (by rw [e1, ← z, h0]))]
      exact e2
    · refine ⟨X, by rw [z2]; exact h0, ?_⟩
      show (if r0.1 = some X then _ else _) = _
      rw [if_pos h0, euu, z1]
      rfl
  · have hY' : (if r0.1 = some Y then some (s.2.1.length, s.uu.2.2.1.length) else s.2.2.2.2 Y) = some (s.2.1.length, q) := hY
    by_cases z : r0.1 = some Y
    · rw [if_pos z, euu] at hY'
      cases hY'
      refine ⟨r0, ?_, z⟩
      show (u.2.2.1 ++ [r0])[u.2.2.1.length]? = _
      rw [List.getElem?_append_right (Nat.le_refl _), Nat.sub_self]
      rfl
    · rw [if_neg z] at hY'
      obtain ⟨r, e1, e2⟩ := h10 Y q hY'
      refine ⟨r, ?_, e2⟩
      show (u.2.2.1 ++ [r0])[q]? = _
      have hlt : q < u.2.2.1.length := by
        rcases Nat.lt_or_ge q u.2.2.1.length with y | y
        · exact y
        · rw [List.getElem?_eq_none y] at e1; cases e1
      rw [List.getElem?_append_left hlt]
      exact e1
theorem rt_or.ad {i i' y : Nat} {L : List tx_N} {r0 : tx_N} (h : rt_or M lo li i L) (hr : ∀ k, k < lo + L.countP rt_sg → M'.2.1 19 k = M.2.1 19 k) (hi : ∀ k, k < li + L.countP (fun r => !rt_sg r) → M'.2.1 29 k = M.2.1 29 k) (hy : (if rt_sg r0 = true then M'.2.1 19 (lo + L.countP rt_sg) else M'.2.1 29 (li + L.countP (fun r => !rt_sg r))) = nI y) (h1 : i ≤ y) (h2 : y < i') : rt_or M' lo li i' (L ++ [r0]) := by
  have h' := h.to (M' := M') (Nat.le_refl _) (Nat.le_refl _) hr hi
  have hyq : ∀ (q : Nat) (r : tx_N), q ≤ L.length → rt_yq M' lo li (L ++ [r0]) q r = rt_yq M' lo li L q r := by
    intro q r hq
    unfold rt_yq rt_k rt_j
    rw [rt_take hq, rt_take hq]
  have hnew : rt_yq M' lo li (L ++ [r0]) L.length r0 = nI y := by
    rw [hyq _ _ (Nat.le_refl _)]
    unfold rt_yq rt_k rt_j
    rw [List.take_length]
    exact hy
  intro q r hq
  rcases rt_app hq with ⟨z1, z2⟩ | ⟨z1, z2⟩
  · obtain ⟨y0, k1, k2, k3⟩ := h' q r z2
    refine ⟨y0, by rw [hyq _ _ (by omega)]; exact k1, by omega, fun q' r' hq' hlt => ?_⟩
    rcases rt_app hq' with ⟨w1, w2⟩ | ⟨w1, w2⟩
    · obtain ⟨y', k4, k5⟩ := k3 q' r' w2 hlt
      exact ⟨y', by rw [hyq _ _ (by omega)]; exact k4, k5⟩
    · omega
  · subst z1 z2
    refine ⟨y, hnew, h2, fun q' r' hq' hlt => ?_⟩
    rcases rt_app hq' with ⟨w1, w2⟩ | ⟨w1, w2⟩
    · obtain ⟨y0, k1, k2, k3⟩ := h' q' r' w2
      exact ⟨y0, by rw [hyq _ _ (by omega)]; exact k1, by omega⟩
    · omega
end RZA

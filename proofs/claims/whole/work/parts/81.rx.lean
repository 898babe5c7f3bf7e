/-! THE SECOND PASS: how the reference's rows follow the reader within an exp. -/
/-- what is known, with another verdict and another cost -/
def tx_cs (c : Nat) (u : tx_U) : tx_U := (u.1, u.2.1, u.2.2.1, u.2.2.2.1, u.2.2.2.2.1, u.2.2.2.2.2.1, u.2.2.2.2.2.2.1, u.2.2.2.2.2.2.2.1, nI (min c 1501))
def tx_S.ex (s : tx_S) (v : Int32 × Int32) (c : Nat) : tx_S := (v, s.2.1, s.2.2.1.map (tx_cs c), s.2.2.2)
def tx_vk (r : Bool) (code place : Int32) (v : Int32 × Int32) : Int32 × Int32 := if r = false ∧ v.1 = 0 then (code, place) else v
theorem tx_mod_len {α : Type} (l : List α) (g : α → α) : l.modify l.length g = l := by
  apply List.ext_getElem?
  intro j
  rw [tx_gm]
  by_cases z : j = l.length
  · rw [if_pos z, List.getElem?_eq_none (by omega)]
    rfl
  · rw [if_neg z]
theorem tx_cap_n {c d : Nat} (hd : d < 1073741824) : tx_cap (nI (min c 1501) + nI d) = nI (min (c + d) 1501) := by
  unfold tx_cap
  rw [nI_add]
  have h1 : (1501 : Int32) = nI 1501 := rfl
  rw [h1]
  by_cases z : 1501 < min c 1501 + d
  · rw [if_pos (nI_lt z (by omega))]
    congr 1
    omega
  · rw [if_neg (nI_nlt (by omega) (by omega))]
    congr 1
    omega
section TXEX
variable {s : tx_S} {v : Int32 × Int32} {c : Nat}
theorem tx_ex_spend {d : Nat} (hd : d < 1073741824) : tx_spend (nI d) (s.ex v c) = s.ex v (c + d) := by
  unfold tx_spend tx_S.mu tx_S.ex
  simp only [tx_mod_len, if_true, Option.map_map]
  congr 4
  funext u
  simp only [Function.comp, tx_spu, tx_cs, tx_cap_n hd]
theorem tx_ex_ck {r : Bool} {code place : Int32} : tx_ck r code place (s.ex v c) = s.ex (tx_vk r code place v) c := by
  unfold tx_ck tx_vk tx_S.ex
  by_cases z : r = false ∧ v.1 = 0
  · rw [if_pos z, if_pos z]
  · rw [if_neg z, if_neg z]
theorem tx_ex_rc (q : Nat) : (s.ex v c).rc q = s.rc q := by
  unfold tx_S.rc tx_S.ex
  cases h : s.2.2.1 <;> rfl
theorem tx_ex_da (x : tx_X) : (s.ex v c).da x = s.da x := by
  unfold tx_S.da tx_S.ex
  cases h : s.2.2.1 <;> rfl
theorem tx_ex_wo (d : Option Nat) : (s.ex v c).wo d = s.wo d := by
  unfold tx_S.wo
  cases d with
  | none => rfl
  | some q => simp only [tx_ex_rc]
theorem tx_ex_used (t : tx_Tk) : tx_used (s.ex v c) t = ((tx_used s t).1, s.ex (tx_vk (tx_used s t).1.isSome 22 (nI t.2.1) v) c) := by
  unfold tx_used
  rw [tx_ex_da]
  cases h : s.da t.2.2.2.1 with
  | none => simp only [tx_ex_ck, Option.isSome_none]
  | some q =>
    simp only [tx_ex_rc]
    by_cases z : (s.rc q).2.1 = 5
    · rw [if_pos z, if_pos z]
      simp only [tx_ex_ck, Option.isSome_none]
    · rw [if_neg z, if_neg z]
      simp only [tx_ex_ck, Option.isSome_some]
theorem tx_vk_t (code place : Int32) : tx_vk true code place v = v := rfl
theorem tx_vk_f (code place : Int32) (h : v.1 = 0) : tx_vk false code place v = (code, place) := if_pos ⟨rfl, h⟩
theorem tx_ex_v : (s.ex v c).1 = v := rfl
end TXEX
/-! What a reader's answer says of its steps. -/
theorem tx_and_r {α β : Type} {r : tx_R α} {g : α → Nat → tx_S → tx_R β} {x : β × Nat × tx_S} (h : r.and g = .inr x) : ∃ a i s, r = .inr (a, i, s) ∧ g a i s = .inr x := by
  match r, h with
  | .inl e, h => cases h
  | .inr (a, i, s), h => exact ⟨a, i, s, rfl, h⟩
theorem tx_tk_r {T : List tx_Tk} {kd : Int32} {i : Nat} {s : tx_S} {x : tx_Tk × Nat × tx_S} (h : tx_tk T kd i s = .inr x) : tx_ki T i = kd ∧ x = (tx_ta T i, i + 1, s) := by
  unfold tx_tk at h
  by_cases z : tx_ki T i = kd
  · rw [if_pos z] at h
    cases h
    exact ⟨z, rfl⟩
  · rw [if_neg z] at h
    cases h
theorem tx_tka {β : Type} {T : List tx_Tk} {kd : Int32} {i : Nat} {s : tx_S} {g : tx_Tk → Nat → tx_S → tx_R β} {x : β × Nat × tx_S} (h : (tx_tk T kd i s).and g = .inr x) : tx_ki T i = kd ∧ g (tx_ta T i) (i + 1) s = .inr x := by
  obtain ⟨a, j, s1, h1, h2⟩ := tx_and_r h
  obtain ⟨h3, h4⟩ := tx_tk_r h1
  cases h4
  exact ⟨h3, h2⟩
theorem tx_op_r {β : Type} {T : List tx_Tk} {kd : Int32} {f i : Nat} {s : tx_S} {g : Nat → tx_Tk → Nat → tx_S → tx_R β} {x : β × Nat × tx_S} (h : tx_op T kd f i s g = .inr x) : ∃ f', f = f' + 1 ∧ tx_ki T i = kd ∧ g f' (tx_ta T i) (i + 1) s = .inr x := by
  unfold tx_op at h
  by_cases z : tx_ki T i = kd
  · rw [if_pos z] at h
    match f, h with
    | 0, h => cases h
    | f + 1, h => exact ⟨f, rfl, z, h⟩
  · rw [if_neg z] at h
    cases h
/-! The relation. -/
def rx_x (M : rm_M) : Nat := (M.1 42).toNatClampNeg
def rx_y (M : rm_M) : Nat := (M.1 44).toNatClampNeg
def rx_w (M : rm_M) : Nat := (M.1 48).toNatClampNeg
def rx_b (M : rm_M) : Nat := (M.1 50).toNatClampNeg
def rx_m (M : rm_M) : Nat := (M.1 12).toNatClampNeg
/-- what an exp leaves as it was -/
def rx_g (M0 M : rm_M) : Prop := (∀ j, j ≠ 8 → j ≠ 9 → j ≠ 10 → j ≠ 42 → j ≠ 44 → j ≠ 48 → j ≠ 50 → j ≠ 57 → M.1 j = M0.1 j) ∧ (∀ j, j ≠ 41 → j ≠ 46 → j ≠ 47 → j ≠ 49 → M.2.1 j = M0.2.1 j) ∧ (∀ j, j ≠ 43 → j ≠ 45 → M.2.2.1 j = M0.2.2.1 j) ∧
  (rx_w M0 ≤ rx_w M ∧ ∀ j, j < rx_w M0 → M.2.1 46 j = M0.2.1 46 j ∧ M.2.1 47 j = M0.2.1 47 j) ∧ (rx_b M0 ≤ rx_b M ∧ ∀ j, j < rx_b M0 → M.2.1 49 j = M0.2.1 49 j) ∧ (rx_x M0 ≤ rx_x M ∧ ∀ j, j < rx_x M0 → M.2.1 41 j = M0.2.1 41 j)
def rx_f (M0 M : rm_M) : Prop := rx_g M0 M ∧ M.1 48 = M0.1 48 ∧ M.1 50 = M0.1 50
theorem rx_g.tr {M0 M M' : rm_M} (h : rx_g M0 M) (h' : rx_g M M') : rx_g M0 M' := by
  obtain ⟨a1, a2, a3, ⟨a4, a5⟩, ⟨a6, a7⟩, a8, a9⟩ := h
  obtain ⟨b1, b2, b3, ⟨b4, b5⟩, ⟨b6, b7⟩, b8, b9⟩ := h'
  refine ⟨fun j c1 c2 c3 c4 c5 c6 c7 c8 => (b1 j c1 c2 c3 c4 c5 c6 c7 c8).trans (a1 j c1 c2 c3 c4 c5 c6 c7 c8), fun j c1 c2 c3 c4 => (b2 j c1 c2 c3 c4).trans (a2 j c1 c2 c3 c4), fun j c1 c2 => (b3 j c1 c2).trans (a3 j c1 c2), ⟨by omega, fun j hj => ?_⟩, ⟨by omega, fun j hj => (b7 j (by omega)).trans (a7 j hj)⟩, by omega, fun j hj => (b9 j (by omega)).trans (a9 j hj)⟩
  exact ⟨(b5 j (by omega)).1.trans (a5 j hj).1, (b5 j (by omega)).2.trans (a5 j hj).2⟩
theorem rx_g.rf (M : rm_M) : rx_g M M := ⟨fun _ _ _ _ _ _ _ _ _ => rfl, fun _ _ _ _ _ => rfl, fun _ _ _ => rfl, ⟨Nat.le_refl _, fun _ _ => ⟨rfl, rfl⟩⟩, ⟨Nat.le_refl _, fun _ _ => rfl⟩, Nat.le_refl _, fun _ _ => rfl⟩
theorem rx_f.rf (M : rm_M) : rx_f M M := ⟨rx_g.rf M, rfl, rfl⟩
theorem rx_f.tr {M0 M M' : rm_M} (h : rx_f M0 M) (h' : rx_f M M') : rx_f M0 M' := ⟨h.1.tr h'.1, h'.2.1.trans h.2.1, h'.2.2.trans h.2.2⟩
/-- little changed: the next token, a fault, whether a number fitted, costs -/
def rx_o (M M' : rm_M) : Prop := (∀ j, j ≠ 8 → j ≠ 9 → j ≠ 10 → j ≠ 57 → M'.1 j = M.1 j) ∧ M'.2.1 = M.2.1 ∧ (∀ j, j ≠ 45 → M'.2.2.1 j = M.2.2.1 j) ∧ M'.2.2.2 = M.2.2.2
theorem rx_o.x {M M' : rm_M} (h : rx_o M M') : rx_x M' = rx_x M := by
  unfold rx_x
  rw [h.1 42 (by decide) (by decide) (by decide) (by decide)]
theorem rx_o.y {M M' : rm_M} (h : rx_o M M') : rx_y M' = rx_y M := by
  unfold rx_y
  rw [h.1 44 (by decide) (by decide) (by decide) (by decide)]
theorem rx_o.g {M0 M M' : rm_M} (h : rx_o M M') (hg : rx_g M0 M) : rx_g M0 M' := by
  refine hg.tr ?_
  obtain ⟨h1, h2, h3, -⟩ := h
  refine ⟨fun j c1 c2 c3 _ _ _ _ c8 => h1 j c1 c2 c3 c8, fun j _ _ _ _ => by rw [h2], fun j _ c => h3 j c, ⟨?_, fun j _ => by rw [h2]; exact ⟨rfl, rfl⟩⟩, ⟨?_, fun j _ => by rw [h2]⟩, ?_, fun j _ => by rw [h2]⟩
  · unfold rx_w
    rw [h1 48 (by decide) (by decide) (by decide) (by decide)]
    exact Nat.le_refl _
  · unfold rx_b
    rw [h1 50 (by decide) (by decide) (by decide) (by decide)]
    exact Nat.le_refl _
  · unfold rx_x
    rw [h1 42 (by decide) (by decide) (by decide) (by decide)]
    exact Nat.le_refl _
theorem rx_o.f {M0 M M' : rm_M} (h : rx_o M M') (hg : rx_f M0 M) : rx_f M0 M' := ⟨h.g hg.1, (h.1 48 (by decide) (by decide) (by decide) (by decide)).trans hg.2.1, (h.1 50 (by decide) (by decide) (by decide) (by decide)).trans hg.2.2⟩
theorem rx_o.t (M : rm_M) (x : Int32) : rx_o M (rp_t M x) := ⟨fun j h _ _ _ => if_neg h, rfl, fun _ _ => rfl, rfl⟩
theorem rx_o.fail (w p : Int32) (M : rm_M) : rx_o M (rm_fail w p M) := by
  unfold rm_fail
  by_cases z : M.1 9 = 0
  · rw [if_pos z]
    exact ⟨fun j _ h9 h10 _ => (if_neg h10).trans (if_neg h9), rfl, fun _ _ => rfl, rfl⟩
  · rw [if_neg z]
    exact ⟨fun _ _ _ _ _ => rfl, rfl, fun _ _ => rfl, rfl⟩
theorem rx_o.ff (c : Prop) [Decidable c] (w p : Int32) (M : rm_M) : rx_o M (rp_ff c w p M) := by
  unfold rp_ff
  by_cases z : M.1 9 = 0 ∧ c
  · rw [if_pos z]
    exact rx_o.fail w p M
  · rw [if_neg z]
    exact ⟨fun _ _ _ _ _ => rfl, rfl, fun _ _ => rfl, rfl⟩
theorem rx_o.cm (M : rm_M) (mc : Nat) (v : Int64) : rx_o M (rp_cm M mc v) := ⟨fun _ _ _ _ _ => rfl, rfl, fun _ h => if_neg h, rfl⟩
theorem rx_o.n57 {M M' : rm_M} (h : rm_57 M M') : rx_o M M' := ⟨fun j _ _ _ h5 => h.2 j h5, by rw [h.1], fun _ _ => by rw [h.1], by rw [h.1]⟩
theorem rx_o.tr {M M1 M2 : rm_M} (h : rx_o M M1) (h' : rx_o M1 M2) : rx_o M M2 := ⟨fun j a b c d => (h'.1 j a b c d).trans (h.1 j a b c d), h'.2.1.trans h.2.1, fun j a => (h'.2.2.1 j a).trans (h.2.2.1 j a), h'.2.2.2.trans h.2.2.2⟩
/-- counters -/
def rx_c (I p : Nat) (M : rm_M) : Prop := M.1 42 = nI (rx_x M) ∧ rx_x M ≤ M.2.2.2.1 ∧ rx_x M + p ≤ 12 * I ∧ M.1 44 = nI (rx_y M) ∧ rx_y M ≤ M.2.2.2.2 ∧ rx_y M ≤ I ∧ I ≤ 10241
theorem rx_c.le {I I' p p' : Nat} {M : rm_M} (h : rx_c I p M) (hI : 12 * I + p' ≤ 12 * I' + p) (h2 : I ≤ I') (h' : I' ≤ 10241) : rx_c I' p' M := by
  obtain ⟨a, b, c, d, e, f, g⟩ := h
  exact ⟨a, b, by omega, d, e, by omega, h'⟩
theorem rx_c.o {I p : Nat} {M M' : rm_M} (h : rx_c I p M) (ho : rx_o M M') : rx_c I p M' := by
  obtain ⟨a, b, c, d, e, f, g⟩ := h
  unfold rx_c
  rw [ho.x, ho.y, ho.1 42 (by decide) (by decide) (by decide) (by decide), ho.1 44 (by decide) (by decide) (by decide) (by decide), ho.2.2.2]
  exact ⟨a, b, c, d, e, f, g⟩
/-- room for operators that wait -/
def rx_k (f : Nat) (M : rm_M) : Prop := M.1 48 = nI (rx_w M) ∧ M.1 50 = nI (rx_b M) ∧ rx_w M + 10 * f ≤ 1000 ∧ rx_b M + 11 * f ≤ 1000
theorem rx_k.f {f : Nat} {M0 M : rm_M} (h : rx_k f M0) (hf : rx_f M0 M) : rx_k f M := by
  have e1 : rx_w M = rx_w M0 := by unfold rx_w; rw [hf.2.1]
  have e2 : rx_b M = rx_b M0 := by unfold rx_b; rw [hf.2.2]
  unfold rx_k
  rw [e1, e2, hf.2.1, hf.2.2]
  exact h
theorem rx_k.le {f f' : Nat} {M : rm_M} (h : rx_k f M) (hf : f' ≤ f) : rx_k f' M := ⟨h.1, h.2.1, by have := h.2.2.1; omega, by have := h.2.2.2; omega⟩
def rx_wd (w : Int32) : Prop := ∃ k, w = nI k ∧ 1 ≤ k ∧ k ≤ 64
/-- the names of the module, its widths -/
def rx_env (T : List tx_Tk) (s : tx_S) (M : rm_M) : Prop := M.1 12 = nI (rx_m M) ∧ rx_m M < 3600 ∧ ∃ lo hi, M.2.1 14 (rx_m M) = nI lo ∧ M.1 18 = nI hi ∧ lo ≤ hi ∧ hi ≤ 11000 ∧ rm_nN T (M.2.1 19) lo hi ∧
  ∀ x, x < T.length → tx_ki T x = 19 → (rm_sN T (M.2.1 19) x lo (hi - lo) = none ∧ (tx_used s (tx_ta T x)).1 = none) ∨ ∃ j q, rm_sN T (M.2.1 19) x lo (hi - lo) = some j ∧ (tx_used s (tx_ta T x)).1 = some q ∧ j < 11000 ∧ M.2.1 20 j = s.wo (some q) ∧ rx_wd (s.wo (some q))
def rx_B (n : Nat) (T : List tx_Tk) (s : tx_S) (M : rm_M) : Prop := rm_T n T M ∧ rx_env T s M
theorem rx_B.g {n : Nat} {T : List tx_Tk} {s : tx_S} {M M' : rm_M} (h : rx_B n T s M) (hg : rx_g M M') : rx_B n T s M' := by
  obtain ⟨h1, h2⟩ := h
  obtain ⟨g1, g2, -⟩ := hg
  refine ⟨h1.to (g1 2 (by decide) (by decide) (by decide) (by decide) (by decide) (by decide) (by decide) (by decide)) (fun j hj => ?_), ?_⟩
  · rcases hj with rfl | rfl | rfl | rfl <;> exact g2 _ (by decide) (by decide) (by decide) (by decide)
  · have e : rx_m M' = rx_m M := by
      unfold rx_m
      rw [g1 12 (by decide) (by decide) (by decide) (by decide) (by decide) (by decide) (by decide) (by decide)]
    unfold rx_env at h2 ⊢
    rw [e, g1 12 (by decide) (by decide) (by decide) (by decide) (by decide) (by decide) (by decide) (by decide), g1 18 (by decide) (by decide) (by decide) (by decide) (by decide) (by decide) (by decide) (by decide), g2 14 (by decide) (by decide) (by decide) (by decide), g2 19 (by decide) (by decide) (by decide) (by decide), g2 20 (by decide) (by decide) (by decide) (by decide)]
    exact h2
theorem rx_B.len {n : Nat} {T : List tx_Tk} {s : tx_S} {M : rm_M} (h : rx_B n T s M) : T.length ≤ 10241 := by
  have := h.1.len
  have := h.1.2.1
  omega
/-- all is well; c is the cost, p a credit -/
def rx_L (T : List tx_Tk) (M0 M : rm_M) (i c p : Nat) : Prop := rx_f M0 M ∧ rx_c i p M ∧ M.1 8 = nI i ∧ i < T.length ∧ M.1 9 = 0 ∧ M.2.2.1 45 (rx_m M) = lN c ∧ c ≤ 2000 * rx_x M + 64 * i
/-- behind the fault e; the reader has come to I -/
def rx_D (M0 M : rm_M) (e : Int32 × Int32) (b I p : Nat) : Prop := rx_f M0 M ∧ rx_c I p M ∧ M.1 9 = e.1 ∧ M.1 10 = e.2 ∧ e.1 ≠ 0 ∧ ∃ j, j ≤ b ∧ M.1 8 = nI j

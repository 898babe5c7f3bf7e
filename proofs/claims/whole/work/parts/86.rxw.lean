/-! THE SECOND PASS: operators that wait. -/
/-- the operators that wait lie in the rows -/
def rx_wr (fl bs : Nat) (M : rm_M) : tx_Wt → Prop
  | [] => True
  | x :: W => (x.1.1, M.2.1 46 (fl + W.length)) ∈ rm_kl ∧ M.2.1 47 (fl + W.length) = nI x.1.2.1 ∧ M.2.1 49 (bs + W.length) = x.2 ∧ rx_wd x.2 ∧ W.length + 1 ≤ (tx_rank x.1.1).toNatClampNeg ∧ rx_wr fl bs M W
def rx_bl (T : List tx_Tk) (M0 M : rm_M) (i c p : Nat) (W : tx_Wt) (w : Int32) : Prop := rx_g M0 M ∧ rx_c i (p + 3 * W.length) M ∧ M.1 8 = nI i ∧ i < T.length ∧ M.1 9 = 0 ∧ M.2.2.1 45 (rx_m M) = lN c ∧ c ≤ 2000 * rx_x M + 64 * i ∧ M.1 48 = nI (rx_w M0 + W.length) ∧ M.1 50 = nI (rx_b M0 + W.length + 1) ∧ M.2.1 49 (rx_b M0 + W.length) = w ∧ rx_wd w ∧ rx_wr (rx_w M0) (rx_b M0) M W
def rx_bd (M0 M : rm_M) (e : Int32 × Int32) (b I p a : Nat) : Prop := rx_g M0 M ∧ rx_c I (p + 3 * a) M ∧ M.1 9 = e.1 ∧ M.1 10 = e.2 ∧ e.1 ≠ 0 ∧ (∃ j, j ≤ b ∧ M.1 8 = nI j) ∧ M.1 48 = nI (rx_w M0 + a) ∧ M.1 50 = nI (rx_b M0 + a + 1)
theorem rx_rank (t : Int32) : ∃ k, k ≤ 10 ∧ tx_rank t = nI k := by
  unfold tx_rank
  repeat' split
  · exact ⟨1, by decide, rfl⟩
  · exact ⟨2, by decide, rfl⟩
  · exact ⟨3, by decide, rfl⟩
  · exact ⟨4, by decide, rfl⟩
  · exact ⟨5, by decide, rfl⟩
  · exact ⟨6, by decide, rfl⟩
  · exact ⟨7, by decide, rfl⟩
  · exact ⟨8, by decide, rfl⟩
  · exact ⟨9, by decide, rfl⟩
  · exact ⟨10, by decide, rfl⟩
  · exact ⟨0, by decide, rfl⟩
theorem rx_wr.len {fl bs : Nat} {M : rm_M} {W : tx_Wt} (h : rx_wr fl bs M W) : W.length ≤ 10 := by
  cases W with
  | nil => exact Nat.zero_le _
  | cons x W =>
    obtain ⟨-, -, -, -, h5, -⟩ := h
    obtain ⟨k, k1, k2⟩ := rx_rank x.1.1
    rw [k2, nI_clamp (by omega)] at h5
    show W.length + 1 ≤ 10
    omega
theorem rx_wr.to {fl bs : Nat} {M M' : rm_M} : ∀ {W : tx_Wt}, rx_wr fl bs M W → (∀ j, j < fl + W.length → M'.2.1 46 j = M.2.1 46 j ∧ M'.2.1 47 j = M.2.1 47 j) → (∀ j, j < bs + W.length → M'.2.1 49 j = M.2.1 49 j) → rx_wr fl bs M' W
  | [], _, _, _ => trivial
  | x :: W, h, h1, h2 => by
    obtain ⟨a1, a2, a3, a4, a5, a6⟩ := h
    have hl : (x :: W).length = W.length + 1 := rfl
    refine ⟨?_, ?_, ?_, a4, a5, rx_wr.to a6 (fun j hj => h1 j (by omega)) (fun j hj => h2 j (by omega))⟩
    · rw [(h1 (fl + W.length) (by omega)).1]; exact a1
    · rw [(h1 (fl + W.length) (by omega)).2]; exact a2
    · rw [h2 (bs + W.length) (by omega)]; exact a3
section RXW
variable {n N : Nat} {T : List tx_Tk} {s : tx_S} {M0 M M' : rm_M} {i c p b I f : Nat} {e v : Int32 × Int32} {E' : Nat → Nat → tx_S → tx_R Int32} {E : rp_E}
theorem rx_g.pop {A B : Nat} (h : rx_g M0 M) (hA : rx_w M0 ≤ A) (hB : rx_b M0 ≤ B + 1) (hA2 : A < 2147483648) (hB2 : B + 1 < 2147483648) : rx_g M0 (rp_pop M A B) := by
  obtain ⟨a1, a2, a3, ⟨a4, a5⟩, ⟨a6, a7⟩, a8, a9⟩ := h
  have e1 : rx_w (rp_pop M A B) = A := by
    show (nI A).toNatClampNeg = A
    exact nI_clamp hA2
  have e2 : rx_b (rp_pop M A B) = B + 1 := by
    show (nI (B + 1)).toNatClampNeg = B + 1
    exact nI_clamp hB2
  refine ⟨fun j c1 c2 c3 c4 c5 c6 c7 c8 => ?_, a2, a3, ⟨by omega, a5⟩, ⟨by omega, a7⟩, a8, a9⟩
  show va_up (va_up M.1 48 (nI A)) 50 (nI (B + 1)) j = _
  rw [va_up_ne _ _ c7, va_up_ne _ _ c6]
  exact a1 j c1 c2 c3 c4 c5 c6 c7 c8
theorem rx_g.s49 {j : Nat} {w : Int32} (h : rx_g M0 M) (hj : rx_b M0 ≤ j) : rx_g M0 (rp_set M 49 j w) := by
  obtain ⟨a1, a2, a3, ⟨a4, a5⟩, ⟨a6, a7⟩, a8, a9⟩ := h
  refine ⟨a1, fun k c1 c2 c3 c4 => ?_, a3, ⟨a4, a5⟩, ⟨a6, fun k hk => ?_⟩, a8, a9⟩
  · show va_up M.2.1 49 _ k = _
    rw [va_up_ne _ _ c4]
    exact a2 k c1 c2 c3 c4
  · show upd (M.2.1 49) j w k = _
    rw [pk_un (by omega)]
    exact a7 k hk
theorem rx_c.to {I p : Nat} (h : rx_c I p M) (h1 : M'.1 42 = M.1 42) (h2 : M'.1 44 = M.1 44) (h3 : M'.2.2.2 = M.2.2.2) : rx_c I p M' := by
  unfold rx_c rx_x rx_y at h ⊢
  rw [h1, h2, h3]
  exact h
/-- operators of both -/
abbrev rx_cls (t o : Int32) : Prop := ((t = 9766 ∨ t = 31868) ∧ rm_rank o < 3 ∧ ¬ rm_rank o = 8 ∧ ¬ o = 42) ∨ (¬ (t = 9766 ∨ t = 31868) ∧ (t = 15420 ∨ t = 15934) ∧ rm_rank o = 8) ∨ (t = 42 ∧ o = 42) ∨ (¬ (t = 9766 ∨ t = 31868) ∧ ¬ (t = 15420 ∨ t = 15934) ∧ ¬ t = 42 ∧ (t = 43 ∨ t = 45 ∨ t = 38 ∨ t = 124 ∨ t = 94) ∧ ¬ rm_rank o < 3 ∧ ¬ rm_rank o = 6 ∧ ¬ rm_rank o = 7 ∧ ¬ rm_rank o = 8 ∧ ¬ o = 42) ∨ (¬ (t = 9766 ∨ t = 31868) ∧ ¬ (t = 15420 ∨ t = 15934) ∧ ¬ t = 42 ∧ ¬ (t = 43 ∨ t = 45 ∨ t = 38 ∨ t = 124 ∨ t = 94) ∧ ¬ rm_rank o < 3 ∧ ¬ rm_rank o = 8 ∧ ¬ o = 42 ∧ (rm_rank o = 6 ∨ rm_rank o = 7))
theorem rx_cls_all : ∀ p ∈ rm_kl, ¬ tx_rank p.1 = 0 → rx_cls p.1 p.2 := by decide
theorem rx_bin {t : tx_Tk} {o : Int32} {x y : Nat} (hp : (t.1, o) ∈ rm_kl) (hr : ¬ tx_rank t.1 = 0) (hx : 1 ≤ x ∧ x ≤ 64) (hy : 1 ≤ y ∧ y ≤ 64) : ∃ d, d ≤ 4160 ∧ tx_bin t (nI x) (nI y) (s.ex v c) = (rp_bmd o (nI x), s.ex (if rm_rank o < 3 ∨ rm_rank o = 8 then v else tx_vk (decide (x = y)) 30 (nI t.2.1) v) (c + d)) ∧ ((rm_rank o < 3 ∨ rm_rank o = 8) ∨ x = y → rp_bco o (nI x) (nI y) = nI d) := by
  have hm := rx_imax (a := x) (b := y) (by omega) (by omega)
  have hmm : max x y * max x y ≤ 64 * 64 := Nat.mul_le_mul (by omega) (by omega)
  have hxy : decide (nI x = nI y) = decide (x = y) := decide_eq_decide.mpr (nI_eq (by omega) (by omega))
  unfold tx_bin rp_bmd rp_bco
  rcases rx_cls_all _ hp hr with ⟨c1, c2, c3, c4⟩ | ⟨c1, c2, c3⟩ | ⟨c1, c2⟩ | ⟨c1, c2, c3, c4, c5, c6, c7, c8, c9⟩ | ⟨c1, c2, c3, c4, c5, c6, c7, c8⟩
  · refine ⟨max x y, by omega, ?_, fun _ => ?_⟩
    · rw [if_pos c1, if_pos (Or.inl c2), if_pos (Or.inl c2), hm.1, tx_ex_spend (by omega)]
    · rw [if_neg c3, if_neg c4, hm.2]
  · have c3' : rm_rank o = 8 := c3
    refine ⟨3 * x + y, by omega, ?_, fun _ => ?_⟩
    · rw [if_neg c1, if_pos c2, if_pos (Or.inr c3'), if_neg (by rw [c3']; decide), show (3 : Int32) = nI 3 from rfl, pk_mul, nI_add, tx_ex_spend (by omega)]
    · rw [if_pos c3', show (3 : Int32) = nI 3 from rfl, pk_mul, nI_add]
  · have c2' : o = 42 := c2
    subst c2'
    refine ⟨max x y * max x y, by omega, ?_, fun hh => ?_⟩
    · rw [if_neg (by rw [c1]; decide), if_neg (by rw [c1]; decide), if_pos c1, hm.1, pk_mul, hxy, tx_ex_ck, tx_ex_spend (by omega), if_neg (by decide), if_neg (by decide)]
    · rw [if_neg (by decide), if_pos rfl, pk_mul]
      rcases hh with hh | hh
      · exact absurd hh (by decide)
      · rw [hh, Nat.max_self]
  · refine ⟨max x y, by omega, ?_, fun _ => ?_⟩
    · rw [if_neg c1, if_neg c2, if_neg c3, if_pos c4, hm.1, hxy, tx_ex_ck, tx_ex_spend (by omega), if_neg (fun z => z.elim c5 (fun z => z.elim c6 c7)), if_neg (fun z => z.elim c5 c8)]
    · rw [if_neg c8, if_neg c9, hm.2]
  · refine ⟨max x y, by omega, ?_, fun _ => ?_⟩
    · rw [if_neg c1, if_neg c2, if_neg c3, if_neg c4, hm.1, hxy, tx_ex_ck, tx_ex_spend (by omega), if_pos (Or.inr c8), if_neg (fun z => z.elim c5 c6)]
    · rw [if_neg c6, if_neg c7, hm.2]
end RXW

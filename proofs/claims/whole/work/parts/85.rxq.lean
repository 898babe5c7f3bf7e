/-! THE SECOND PASS: signs before an operand, operators that wait. -/
section RXQ
variable {n N : Nat} {T : List tx_Tk} {s : tx_S} {M0 M M' : rm_M} {i c p b I f : Nat} {e v : Int32 × Int32} {E' : Nat → Nat → tx_S → tx_R Int32} {E : rp_E}
theorem nI_m1 {i : Nat} (hi : i < 2147483648) : nI i - 1 < nI i := by
  cases i with
  | zero => decide
  | succ j =>
    rw [nI_pred]
    exact nI_lt (by omega) hi
theorem rx_D.unl {K : Int32 → rm_M → Prop} {fs k w : Int32} (h : rx_D M0 M e b I p) (hN : 0 < N) (hK : K w M) : rp_unl fs K N k w M := by
  obtain ⟨N, rfl⟩ : ∃ N', N = N' + 1 := ⟨N - 1, by omega⟩
  unfold rp_unl
  by_cases z : k < fs
  · rw [if_pos z]; exact hK
  · rw [if_neg z, if_neg (by rw [h.2.2.1]; exact h.2.2.2.2.1)]
    exact hK
theorem rx_L.unl {K : Int32 → rm_M → Prop} (hB : rx_B n T s M0) {i0 : Nat} (hi0 : i0 < 10241) : ∀ (d N k c : Nat) (M : rm_M), d < N → i0 + d ≤ T.length → (∀ j, i0 ≤ j → j < i0 + d → tx_isU (tx_ki T j) = true) → 1 ≤ k → k ≤ 64 → rx_L T M0 M i c (p + 3 * d) → (∀ M', rx_L T M0 M' i (c + (rx_ur T i0 d k).1) p → K (nI (rx_ur T i0 d k).2) M') → rp_unl (nI i0) K N (nI (i0 + d) - 1) (nI k) M := by
  intro d
  induction d with
  | zero =>
    intro N k c M hN hT hu k1 k2 h hK
    obtain ⟨N, rfl⟩ : ∃ N', N = N' + 1 := ⟨N - 1, by omega⟩
    unfold rp_unl
    rw [Nat.add_zero, if_pos (nI_m1 (i := i0) (by omega))]
    exact hK M h
  | succ d ih =>
    intro N k c M hN hT hu k1 k2 h hK
    obtain ⟨N, rfl⟩ : ∃ N', N = N' + 1 := ⟨N - 1, by omega⟩
    have hl := hB.len
    unfold rp_unl
    rw [show i0 + (d + 1) = (i0 + d) + 1 from rfl, nI_pred, if_neg (nI_nlt (by omega) (by omega)), if_pos h.2.2.2.2.1]
    refine ⟨i0 + d, rfl, by omega, ?_⟩
    have hkl := ((h.B hB).1.tk.2.1 (i0 + d) (by omega)).1
    have hud := hu (i0 + d) (by omega) (by omega)
    refine (h.le (p' := p + 3 * d + 3) (by omega)).cl hB (d := k) (nI_l (by omega)) (by omega) (fun M' h1 r1 _ _ => ?_)
    rw [r1 4 (by decide)]
    have e : (if M.2.1 4 (i0 + d) = 126 ∨ M.2.1 4 (i0 + d) = 45 then nI k else 1) = nI (if tx_isR (tx_ki T (i0 + d)) = true then 1 else k) := by
      have hq := rm_is1 _ hkl hud
      by_cases z : tx_isR (tx_ki T (i0 + d)) = true
      · rw [if_neg (fun y => hq.mp y z), if_pos z]
        rfl
      · rw [if_pos (hq.mpr z), if_neg z]
    rw [e]
    refine ih N _ (c + k) M' (by omega) (by omega) (fun j h1 h2 => hu j h1 (by omega)) (by by_cases z : tx_isR (tx_ki T (i0 + d)) = true <;> simp [z] <;> omega) (by by_cases z : tx_isR (tx_ki T (i0 + d)) = true <;> simp [z] <;> omega) h1 (fun M2 h2 => ?_)
    have := hK M2 (by rw [show (rx_ur T i0 (d + 1) k).1 = k + (rx_ur T i0 d (if tx_isR (tx_ki T (i0 + d)) = true then 1 else k)).1 from rfl, ← Nat.add_assoc]; exact h2)
    exact this
theorem rx_L.opr {K : Int32 → rm_M → Prop} {w : Int32} {i' : Nat} {s' : tx_S} (hB : rx_B n T s M0) (hk : rx_k f M0) (hv : v.1 = 0) (hE : ∀ f', f' < f → rx_SE n T s E' E f') (hG : ∀ e f i s, i < T.length → tx_fx e s → (E' f i s).gd T i e) (hf : f ≤ 60) (hN : T.length ≤ N) (h : rx_L T M0 M i c p) (hR : tx_opr T E' f i (s.ex v c) = .inr (w, i', s'))
    (hK : ∀ c' M', s' = s.ex v c' → i < i' → rx_L T M0 M' i' c' p → rx_wd w → K w M') (hD : ∀ w' M', s'.1.1 ≠ 0 → i < i' → rx_D M0 M' s'.1 (20000 + 30 * f) i' p → K w' M') : rp_opr N E K M := by
  have hl := hB.len
  have hx := h.ix hB
  have hi := h.2.2.2.1
  unfold tx_opr at hR
  obtain ⟨d, -, d2, d3, d4, d5⟩ := rx_una_p hB.ends (i := i) T.length 0 (by omega) hi
  have d5' : tx_una T T.length i 0 0 false = (i + d, nI (rx_us T i d).1, nI (rx_us T i d).2.1, (rx_us T i d).2.2) := d5
  rw [d5'] at hR
  obtain ⟨w1, i1, s1, hR1, hR⟩ := tx_and_r hR
  have hR1' : tx_prm T E' f (i + d) (s.ex v c) = .inr (w1, i1, s1) := hR1
  unfold rp_opr
  refine rx_L.una hB d3 d N i M p rfl (by omega) d2 h (fun M1 h1 => ?_)
  refine rx_L.prm hB hk hv hE hG hf hN h1 hR1' (fun c' M' e1 e2 h3 h5 => ?_) (fun w' M' e1 e2 h3 => ?_)
  · obtain ⟨k, r1, r2, r3⟩ := h5
    rw [h.2.2.1, h1.2.2.1, r1]
    have hle := rx_us_le T i d
    have hm : (rx_us T i d).2.1 * k ≤ 10241 * 64 := Nat.mul_le_mul (by omega) r3
    refine rx_L.unl hB (i0 := i) (by omega) d N k c' M' (by omega) (by omega) (fun j j1 j2 => d2 j j1 j2) r2 r3 (h3.le (p' := p + 3 * d) (by omega)) (fun M2 h4 => ?_)
    have e0 := rx_ur_us T i d k
    rw [e0] at h4
    rw [e0]
    simp only at hR
    rw [r1, pk_mul, nI_add, e1, tx_ex_spend (by omega)] at hR
    have ew : (if (rx_us T i d).2.2 = true then (1 : Int32) else nI k) = nI (if (rx_us T i d).2.2 = true then 1 else k) := by
      by_cases z : (rx_us T i d).2.2 = true
      · rw [if_pos z, if_pos z]; rfl
      · rw [if_neg z, if_neg z]
    rw [ew] at hR
    cases hR
    exact hK _ M2 rfl (by omega) h4 ⟨_, rfl, by split <;> omega, by split <;> omega⟩
  · cases hR
    refine h3.unl (by omega) ?_
    exact hD w' M' e1 (by omega) (h3.le (Nat.le_refl _) (by omega) (Nat.le_refl _) h3.2.1.2.2.2.2.2.2)
theorem rx_D.opr {K : Int32 → rm_M → Prop} (hB : rx_B n T s M0) (h : rx_D M0 M e b I p) (hb : 10241 ≤ b) (hb2 : b < 65540) (hN : 10242 ≤ N) (hK : ∀ M', rx_D M0 M' e b I p → K 1 M') : rp_opr N E K M := by
  unfold rp_opr
  refine rx_D.una hB hb hb2 10241 N M (by omega) (fun j _ _ => by omega) h (fun M1 h1 => ?_)
  unfold rp_prm
  rw [if_neg (by rw [h1.2.2.1]; exact h1.2.2.2.2.1)]
  exact h1.unl (by omega) (hK M1 h1)
end RXQ

/-! THE SECOND PASS: an operand. -/
/-- an exp's condition follows the reader, while all is well and behind a fault -/
def rx_SE (n : Nat) (T : List tx_Tk) (s : tx_S) (E' : Nat → Nat → tx_S → tx_R Int32) (E : rp_E) (f : Nat) : Prop := ∀ (M0 M : rm_M) (i c p : Nat) (v : Int32 × Int32) (w : Int32) (i' : Nat) (s' : tx_S) (K : Int32 → rm_M → Prop), rx_B n T s M0 → rx_k (f + 1) M0 → rx_L T M0 M i c p → v.1 = 0 → E' f i (s.ex v c) = .inr (w, i', s') → (∀ c' M', s' = s.ex v c' → i < i' → rx_L T M0 M' i' c' p → rx_wd w → K w M') → (∀ w' M', s'.1.1 ≠ 0 → i < i' → rx_D M0 M' s'.1 (20000 + 30 * f) i' p → K w' M') → E K M
def rx_SD (n : Nat) (T : List tx_Tk) (s : tx_S) (E : rp_E) : Prop := ∀ (M0 M : rm_M) (e : Int32 × Int32) (b I p : Nat) (K : Int32 → rm_M → Prop), rx_B n T s M0 → rx_k 1 M0 → rx_D M0 M e b I p → 10241 ≤ b → b < 65000 → (∀ M', rx_D M0 M' e b I p → K 1 M') → E K M
/-- signs before an operand, counted from the left -/
def rx_us (T : List tx_Tk) (i : Nat) : Nat → Nat × Nat × Bool
  | 0 => (0, 0, false)
  | d + 1 => if tx_isR (tx_ki T (i + d)) = true then ((rx_us T i d).1 + (rx_us T i d).2.1, 1, true) else ((rx_us T i d).1, (rx_us T i d).2.1 + 1, (rx_us T i d).2.2)
theorem rx_us_le (T : List tx_Tk) (i : Nat) : ∀ d, (rx_us T i d).1 + (rx_us T i d).2.1 ≤ d := by
  intro d
  induction d with
  | zero => exact Nat.le_refl _
  | succ d ih =>
    unfold rx_us
    by_cases z : tx_isR (tx_ki T (i + d)) = true
    · rw [if_pos z]
      show _ + 1 ≤ _
      omega
    · rw [if_neg z]
      show _ + (_ + 1) ≤ _
      omega
theorem tx_isU_22 {x : Int32} (h : tx_isU x = true) : x ≠ 22 ∧ x ≠ 23 := ⟨fun z => by rw [z] at h; exact absurd h (by decide), fun z => by rw [z] at h; exact absurd h (by decide)⟩
theorem rx_una_p {T : List tx_Tk} (hT : tx_ends T) {i : Nat} : ∀ m d, T.length ≤ i + d + m → i + d < T.length → ∃ d', d ≤ d' ∧ (∀ k, i + d ≤ k → k < i + d' → tx_isU (tx_ki T k) = true) ∧ tx_isU (tx_ki T (i + d')) = false ∧ i + d' < T.length ∧ tx_una T m (i + d) (nI (rx_us T i d).1) (nI (rx_us T i d).2.1) (rx_us T i d).2.2 = (i + d', nI (rx_us T i d').1, nI (rx_us T i d').2.1, (rx_us T i d').2.2) := by
  intro m
  induction m with
  | zero => intro d h1 h2; omega
  | succ m ih =>
    intro d h1 h2
    unfold tx_una
    by_cases z : tx_isU (tx_ki T (i + d)) = true
    · rw [if_pos z]
      have h3 := hT (i + d) h2 (tx_isU_22 z).1 (tx_isU_22 z).2
      obtain ⟨d', a1, a2, a3, a4, a5⟩ := ih (d + 1) (by omega) (by omega)
      refine ⟨d', by omega, fun k hk1 hk2 => ?_, a3, a4, ?_⟩
      · by_cases y : k = i + d
        · rw [y]; exact z
        · exact a2 k (by omega) hk2
      · rw [← a5]
        show _ = tx_una T m (i + d + 1) _ _ _
        by_cases y : tx_isR (tx_ki T (i + d)) = true
        · rw [if_pos y]
          have e : rx_us T i (d + 1) = ((rx_us T i d).1 + (rx_us T i d).2.1, 1, true) := by
            show (if _ then _ else _) = _
            rw [if_pos y]
          rw [e, nI_add]
          rfl
        · rw [if_neg y]
          have e : rx_us T i (d + 1) = ((rx_us T i d).1, (rx_us T i d).2.1 + 1, (rx_us T i d).2.2) := by
            show (if _ then _ else _) = _
            rw [if_neg y]
          rw [e, nI_1]
    · rw [if_neg z]
      exact ⟨d, Nat.le_refl _, fun k h3 h4 => by omega, by simpa using z, h2, rfl⟩
/-- what the signs from the right make of a width, and what they cost -/
def rx_ur (T : List tx_Tk) (i : Nat) : Nat → Nat → Nat × Nat
  | 0, w => (0, w)
  | d + 1, w => (w + (rx_ur T i d (if tx_isR (tx_ki T (i + d)) = true then 1 else w)).1, (rx_ur T i d (if tx_isR (tx_ki T (i + d)) = true then 1 else w)).2)
theorem rx_ur_us (T : List tx_Tk) (i : Nat) : ∀ d w, rx_ur T i d w = ((rx_us T i d).2.1 * w + (rx_us T i d).1, if (rx_us T i d).2.2 = true then 1 else w) := by
  intro d
  induction d with
  | zero => intro w; simp [rx_ur, rx_us]
  | succ d ih =>
    intro w
    unfold rx_ur rx_us
    by_cases z : tx_isR (tx_ki T (i + d)) = true
    · rw [if_pos z, if_pos z, ih]
      simp only [Nat.mul_one, if_true, ite_self]
      congr 1
      omega
    · rw [if_neg z, if_neg z, ih]
      simp only
      congr 1
      rw [Nat.add_mul]
      omega
theorem rm_isU : ∀ p ∈ rm_kl, tx_isU p.2 = tx_isU p.1 := by decide
theorem rm_is1 : ∀ p ∈ rm_kl, tx_isU p.1 = true → ((p.2 = 126 ∨ p.2 = 45) ↔ ¬ tx_isR p.1 = true) := by decide
section RXO
variable {n N : Nat} {T : List tx_Tk} {s : tx_S} {M0 M M' : rm_M} {i c p b I f : Nat} {e v : Int32 × Int32}
theorem rx_B.ends (h : rx_B n T s M) : tx_ends T := fun i hi h1 h2 => h.1.end hi h1 h2
theorem rx_L.una {K : rm_M → Prop} (hB : rx_B n T s M0) {j : Nat} (hU : tx_isU (tx_ki T j) = false) : ∀ (d : Nat) (N i : Nat) (M : rm_M) (p : Nat), j = i + d → d < N → (∀ k, i ≤ k → k < j → tx_isU (tx_ki T k) = true) → rx_L T M0 M i c p → (∀ M', rx_L T M0 M' j c (p + 12 * d) → K M') → rp_una K N M := by
  intro d
  induction d with
  | zero =>
    intro N i M p hj hN hu h hK
    obtain ⟨N, rfl⟩ : ∃ N', N = N' + 1 := ⟨N - 1, by omega⟩
    unfold rp_una
    refine h.kd hB (fun y hy => ?_)
    have e : j = i := by omega
    rw [if_neg (by rw [rm_isU _ hy, ← e, hU]; decide)]
    exact hK M (e ▸ h)
  | succ d ih =>
    intro N i M p hj hN hu h hK
    obtain ⟨N, rfl⟩ : ∃ N', N = N' + 1 := ⟨N - 1, by omega⟩
    unfold rp_una
    refine h.kd hB (fun y hy => ?_)
    have hui := hu i (Nat.le_refl _) (by omega)
    rw [if_pos (by rw [rm_isU _ hy]; exact hui)]
    refine ih N (i + 1) _ (p + 12) (by omega) (by omega) (fun k h1 h2 => hu k (by omega) h2) (h.i1 hB (tx_isU_22 hui).1 (tx_isU_22 hui).2) (fun M' h' => hK M' (h'.le (by omega)))
theorem rx_D.una {K : rm_M → Prop} (hB : rx_B n T s M0) (hb : 10241 ≤ b) (hb2 : b < 65540) : ∀ (d N : Nat) (M : rm_M), d < N → (∀ j, M.1 8 = nI j → j ≤ b → 10241 - j ≤ d) → rx_D M0 M e b I p → (∀ M', rx_D M0 M' e b I p → K M') → rp_una K N M := by
  intro d
  induction d with
  | zero =>
    intro N M hN hd h hK
    obtain ⟨N, rfl⟩ : ∃ N', N = N' + 1 := ⟨N - 1, by omega⟩
    unfold rp_una
    have hB' := h.B hB
    have h0 := h
    obtain ⟨-, -, -, -, -, j, a6, a7⟩ := h
    refine ⟨j, a7, by omega, ?_⟩
    have := hd j a7 a6
    show (if tx_isU (M.2.1 4 j) = true then _ else _)
    rw [if_neg (by rw [hB'.1.2.2.2.2.2 j (by omega)]; decide)]
    exact hK M h0
  | succ d ih =>
    intro N M hN hd h hK
    obtain ⟨N, rfl⟩ : ∃ N', N = N' + 1 := ⟨N - 1, by omega⟩
    unfold rp_una
    have hB' := h.B hB
    have h0 := h
    obtain ⟨a1, a2, a3, a4, a5, j, a6, a7⟩ := h
    refine ⟨j, a7, by omega, ?_⟩
    show (if tx_isU (M.2.1 4 j) = true then _ else _)
    by_cases z : tx_isU (M.2.1 4 j) = true
    · rw [if_pos z]
      have hjn : j ≤ 10240 := by
        rcases Nat.lt_or_ge 10240 j with y | y
        · rw [hB'.1.2.2.2.2.2 j y] at z; cases z
        · exact y
      have h8 : (rp_i M 1).1 8 = nI (j + 1) := by
        show va_up M.1 8 (M.1 8 + 1) 8 = _
        rw [va_up_self, a7, nI_1]
      refine ih N (rp_i M 1) (by omega) (fun k hk hkb => ?_) ?_ hK
      · have e := (nI_eq (by omega) (by omega)).mp (h8.symm.trans hk)
        have := hd j a7 a6
        omega
      · exact h0.o (rx_o.t _ _) rfl rfl ⟨j + 1, by omega, h8⟩
    · rw [if_neg z]
      exact hK M h0
/-- a part of a name -/
theorem nI_part {h l : Nat} (hh : h < 64) (hl : l ≤ h) : nI (256 * h + l) / 256 = nI h ∧ nI (256 * h + l) - nI (256 * h + l) / 256 * 256 = nI l := by
  have h256 : (256 : Int32) = nI 256 := rfl
  rw [h256, pk_rem (by omega) (by omega) (by omega), pk_div (by omega) (by omega) (by omega)]
  constructor
  · congr 1; omega
  · congr 1; omega
theorem rx_L.prt {K : Int32 → rm_M → Prop} {q : Nat} {w w' : Int32} {i' : Nat} {s' : tx_S} (hB : rx_B n T s M0) (h : rx_L T M0 M i c p) (h91 : tx_ki T i = 91) (hq : q < 11000) (hw : M.2.1 20 q = w) (hwd : rx_wd w) (hv : v.1 = 0) (hR : tx_prt T (tx_ta T i) w (i + 1) (s.ex v c) = .inr (w', i', s'))
    (hK : ∀ h l M', h < 64 → l ≤ h → nI h < w → w' = nI (h - l + 1) → s' = s.ex v c → i < i' → rx_L T M0 M' i' c (p + 24) → K (nI (256 * h + l)) M') (hD : ∀ M', s'.1.1 ≠ 0 → i < i' → rx_D M0 M' s'.1 20000 i' (p + 24) → K 0 M') : rp_prt q K M := by
  unfold tx_prt at hR
  obtain ⟨h20, hR⟩ := tx_tka hR
  have n91 : tx_ki T i ≠ 22 ∧ tx_ki T i ≠ 23 := by rw [h91]; decide
  have n20 : tx_ki T (i + 1) ≠ 22 ∧ tx_ki T (i + 1) ≠ 23 := by rw [h20]; decide
  have hl1 := hB.ends i h.2.2.2.1 n91.1 n91.2
  obtain ⟨hv0, hv1, hv2⟩ := (h.B hB).1.plain hl1 h20
  have tail : ∀ (l0 : Nat) (M1 : rm_M) (j : Nat), l0 < 65536 → tx_ki T j = 93 → i + 2 ≤ j → rx_L T M0 M1 j c (p + 24) → (w', i', s') = ((tx_prg (tx_ta T i) w (nI hv0) (nI l0) (s.ex v c)).1, j + 1, (tx_prg (tx_ta T i) w (nI hv0) (nI l0) (s.ex v c)).2) → rp_ptt q (nI (tx_ta T i).2.1) (nI hv0) (nI l0) K (rp_i M1 1) := by
    intro l0 M1 j hl0 h93 hij hL hR
    cases hR
    have hL1 := hL.i1 hB (by rw [h93]; decide) (by rw [h93]; decide)
    have e20 : (rp_i M1 1).2.1 20 q = w := by
      rw [hL1.1.1.2.1 20 (by decide) (by decide) (by decide) (by decide), ← h.1.1.2.1 20 (by decide) (by decide) (by decide) (by decide)]
      exact hw
    obtain ⟨k, hk, hk1, hk2⟩ := hwd
    unfold rp_ptt
    rw [e20]
    by_cases z : l0 ≤ hv0 ∧ hv0 < k
    · have c1 : ¬ (nI hv0 < nI l0 ∨ w ≤ nI hv0) := by
        rintro (y | y)
        · exact nI_nlt z.1 (by omega) y
        · rw [hk] at y
          exact nI_ge z.2 (by omega) y
      have c2 : nI l0 ≤ nI hv0 ∧ nI hv0 < w := by rw [hk]; exact ⟨nI_le z.1 (by omega), nI_lt z.2 (by omega)⟩
      rw [if_neg c1]
      have e : 256 * nI hv0 + nI l0 = nI (256 * hv0 + l0) := by
        rw [show (256 : Int32) = nI 256 from rfl, pk_mul, nI_add]
      rw [e]
      refine hK hv0 l0 _ (by omega) z.1 c2.2 ?_ ?_ (by omega) (hL1.le (by omega))
      · show (if _ then _ else _) = _
        rw [if_pos c2, pk_sub z.1, nI_1]
      · show tx_ck (decide _) _ _ _ = _
        rw [decide_eq_true c2, tx_ck_true]
    · have c1 : nI hv0 < nI l0 ∨ w ≤ nI hv0 := by
        rcases Nat.lt_or_ge hv0 l0 with y | y
        · exact Or.inl (nI_lt y (by omega))
        · refine Or.inr ?_
          rw [hk]
          exact nI_le (by omega) (by omega)
      have c2 : ¬ (nI l0 ≤ nI hv0 ∧ nI hv0 < w) := by
        rintro ⟨y1, y2⟩
        rw [hk] at y2
        exact z ⟨(nI_leI (by omega) (by omega)).mp y1, (nI_ltI (by omega) (by omega)).mp y2⟩
      rw [if_pos c1]
      have es : (tx_prg (tx_ta T i) w (nI hv0) (nI l0) (s.ex v c)).2.1 = (30, nI (tx_ta T i).2.1) := by
        show (tx_ck (decide _) _ _ _).1 = _
        rw [decide_eq_false c2, tx_ex_ck, tx_vk_f _ _ hv]
        rfl
      have hx := hL1.ix hB
      refine hD _ (by rw [es]; exact (by decide : (30 : Int32) ≠ 0)) (by omega) ?_
      rw [es]
      exact (hL1.fail (by decide) (b := 20000) (by omega)).le (Nat.le_refl _) (by omega) (Nat.le_refl _) (by omega)
  refine ⟨hq, h.bg hB ?_⟩
  refine h.num hB (x := M.1 8 + 1) (j := i + 1) (by rw [h.2.2.1, nI_1]) hl1 (Or.inl h20) (fun M1 h1 _ => ?_)
  have h2 := h1.i2 hB n91.1 n91.2 n20.1 n20.2
  have hl2 := h2.2.2.2.1
  refine h2.kd hB (fun y hy => ?_)
  have e1 : (tx_ta T (i + 1)).2.2.2.2.2.toInt32 = nI hv0 := by rw [hv2, lN_i]
  have p1 : tx_pl (tx_ta T (i + 1)) = nI hv0 := e1
  by_cases z : tx_ki T (i + 2) = 58
  · rw [if_pos ((rm_kq hy (c := 58) (a := 58) (by decide)).mpr z)]
    rw [if_pos z] at hR
    obtain ⟨-, hR⟩ := tx_tka hR
    obtain ⟨h20b, hR⟩ := tx_tka hR
    obtain ⟨h93, hR⟩ := tx_tka hR
    have n58 : tx_ki T (i + 2) ≠ 22 ∧ tx_ki T (i + 2) ≠ 23 := by rw [z]; decide
    have n20b : tx_ki T (i + 2 + 1) ≠ 22 ∧ tx_ki T (i + 2 + 1) ≠ 23 := by
      rw [show i + 2 + 1 = i + 1 + 1 + 1 from rfl, h20b]
      decide
    have hl3 := hB.ends (i + 2) hl2 n58.1 n58.2
    obtain ⟨lv0, lv1, lv2⟩ := (h.B hB).1.plain (j := i + 2 + 1) hl3 h20b
    refine h2.num hB (j := i + 2 + 1) (by rw [h2.2.2.1, nI_1]) hl3 (Or.inl h20b) (fun M2 h3 _ => ?_)
    have h4 := h3.i2 hB n58.1 n58.2 n20b.1 n20b.2
    have e2 : (tx_ta T (i + 2 + 1)).2.2.2.2.2.toInt32 = nI lv0 := by rw [lv2, lN_i]
    have p2 : tx_pl (tx_ta T (i + 1 + 1 + 1)) = nI lv0 := e2
    rw [e1, e2]
    rw [p1, p2] at hR
    exact tail lv0 _ (i + 2 + 2) lv1 h93 (by omega) (h4.le (by omega)) (Sum.inr.inj hR).symm
  · rw [if_neg (fun q => z ((rm_kq hy (c := 58) (a := 58) (by decide)).mp q))]
    rw [if_neg z] at hR
    obtain ⟨h93, hR⟩ := tx_tka hR
    rw [e1]
    rw [p1] at hR
    exact tail hv0 _ (i + 2) hv1 h93 (by omega) h2 (Sum.inr.inj hR).symm
end RXO

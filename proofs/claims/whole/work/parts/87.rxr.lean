/-! THE SECOND PASS: operators that wait are reckoned. -/
section RXR
variable {n N : Nat} {T : List tx_Tk} {s : tx_S} {M0 M M' : rm_M} {i c p b I f : Nat} {e v : Int32 × Int32} {E' : Nat → Nat → tx_S → tx_R Int32} {E : rp_E}
/-- cost, a width is set, a step is laid -/
theorem rx_tail {K : rm_M → Prop} {mc j : Nat} {cv : Int64} {u o w : Int32} (hg : rx_g M0 M) (hc : rx_c I (p + 3) M) (hm : M.1 12 = nI mc) (hm2 : mc < 3600) (hj : rx_b M0 ≤ j)
    (hK : ∀ M', rx_g M0 M' → rx_c I p M' → (∀ k, k ≠ 42 → M'.1 k = M.1 k) → (∀ k, k ≠ 41 → k ≠ 49 → M'.2.1 k = M.2.1 k) → M'.2.1 49 = upd (M.2.1 49) j w → M'.2.2.1 45 mc = M.2.2.1 45 mc + cv → rx_x M' = rx_x M + 3 → K M') : rp_cost cv M (fun M1 => rp_lay u o w (rp_set M1 49 j w) K) := by
  refine ⟨mc, hm, hm2, ?_⟩
  have g1 := (rx_o.cm M mc cv).g hg
  have c1 := hc.o (rx_o.cm M mc cv)
  have g2 := g1.s49 (w := w) hj
  have c2 : rx_c I (p + 3) (rp_set (rp_cm M mc cv) 49 j w) := c1.to rfl rfl rfl
  have hx := c2.1
  have hx2 : rx_x (rp_set (rp_cm M mc cv) 49 j w) + 3 ≤ 131072 := by
    obtain ⟨_, _, _, _, _, _, _⟩ := c2
    omega
  refine c2.lay (fun M' q qc => ?_)
  obtain ⟨q1, q2, q3⟩ := rm_la.g hx hx2 q g2
  refine hK M' q1 qc (fun k hk => ?_) (fun k h1 h2 => ?_) ?_ ?_ ?_
  · rw [q.1, va_up_ne _ _ hk]; rfl
  · rw [q.2.1 k h1]
    show va_up M.2.1 49 _ k = _
    rw [va_up_ne _ _ h2]
  · rw [q.2.1 49 (by decide)]
    rfl
  · rw [q.2.2.2.1]
    show va_up M.2.2.1 45 (vp_updL (M.2.2.1 45) mc (M.2.2.1 45 mc + cv)) 45 mc = _
    rw [va_up_self, pk_uLs]
  · rw [q2]
    rfl
theorem rx_bl.rck {K : rm_M → Prop} {x : tx_Tk × Int32} {W : tx_Wt} {w : Int32} (hB : rx_B n T s M0) (hk : rx_k 1 M0) (hv : v.1 = 0) (h : rx_bl T M0 M i c p (x :: W) w) (hb : i ≤ b)
    (hK : ∀ c' M', (tx_bin x.1 x.2 w (s.ex v c)).2 = s.ex v c' → rx_bl T M0 M' i c' p W (tx_bin x.1 x.2 w (s.ex v c)).1 → K M') (hD : ∀ M', (tx_bin x.1 x.2 w (s.ex v c)).2.1.1 ≠ 0 → rx_bd M0 M' (tx_bin x.1 x.2 w (s.ex v c)).2.1 b i p W.length → K M') : rp_rck K M := by
  obtain ⟨a1, a2, a3, a4, a5, a6, a7, a8, a9, a10, a11, a12⟩ := h
  have a12' := a12
  have hW := a12.len
  have hl : (x :: W).length = W.length + 1 := rfl
  rw [hl] at hW a2
  obtain ⟨w1, w2, w3, ⟨kx, w4, w5, w6⟩, w7, w8⟩ := a12'
  obtain ⟨ky, y1, y2, y3⟩ := a11
  have hB' := hB.g a1
  have hr : ¬ tx_rank x.1.1 = 0 := fun z => by
    rw [z] at w7
    exact absurd w7 (by show ¬ W.length + 1 ≤ 0; omega)
  obtain ⟨k1, k2, k3, k4⟩ := hk
  obtain ⟨d, d1, d2, d3⟩ := rx_bin (s := s) (v := v) (c := c) w1 hr ⟨w5, w6⟩ ⟨y2, y3⟩
  rw [w4, y1] at hK hD
  rw [d2] at hK hD
  have r49 : M.2.1 49 (rx_b M0 + W.length + 1) = w := a10
  refine ⟨rx_w M0 + W.length, rx_b M0 + W.length, a8, by omega, a9, by omega, ?_⟩
  rw [w3, r49, w4, y1]
  have g1 := a1.pop (A := rx_w M0 + W.length) (B := rx_b M0 + W.length) (by omega) (by omega) (by omega) (by omega)
  have c1 : rx_c i (p + 3 * W.length + 3) (rp_pop M (rx_w M0 + W.length) (rx_b M0 + W.length)) := (a2.le (p' := p + 3 * W.length + 3) (by omega) (Nat.le_refl _) a2.2.2.2.2.2.2).to rfl rfl rfl
  have hne : nI kx ≠ nI ky ↔ ¬ kx = ky := not_congr (nI_eq (by omega) (by omega))
  by_cases z : (rm_rank (M.2.1 46 (rx_w M0 + W.length)) < 3 ∨ rm_rank (M.2.1 46 (rx_w M0 + W.length)) = 8) ∨ kx = ky
  · have eff : rp_ff (¬ (rm_rank (M.2.1 46 (rx_w M0 + W.length)) < 3 ∨ rm_rank (M.2.1 46 (rx_w M0 + W.length)) = 8) ∧ nI kx ≠ nI ky) 30 (M.2.1 47 (rx_w M0 + W.length)) (rp_pop M (rx_w M0 + W.length) (rx_b M0 + W.length)) = rp_pop M (rx_w M0 + W.length) (rx_b M0 + W.length) := by
      unfold rp_ff
      rw [if_neg (fun y => z.elim y.2.1 (hne.mp y.2.2))]
    rw [eff, d3 z]
    have ev : (if rm_rank (M.2.1 46 (rx_w M0 + W.length)) < 3 ∨ rm_rank (M.2.1 46 (rx_w M0 + W.length)) = 8 then v else tx_vk (decide (kx = ky)) 30 (nI x.1.2.1) v) = v := by
      by_cases y : rm_rank (M.2.1 46 (rx_w M0 + W.length)) < 3 ∨ rm_rank (M.2.1 46 (rx_w M0 + W.length)) = 8
      · rw [if_pos y]
      · rw [if_neg y, decide_eq_true (z.resolve_left y), tx_vk_t]
    rw [ev] at hK
    refine rx_tail (mc := rx_m M) (j := rx_b M0 + W.length) g1 c1 hB'.2.1 hB'.2.2.1 (by omega) (fun M' q1 q2 q3 q4 q5 q6 q7 => hK (c + d) M' rfl ⟨q1, q2, ?_, a4, ?_, ?_, ?_, ?_, ?_, ?_, ?_, ?_⟩)
    · rw [q3 8 (by decide)]; exact a3
    · rw [q3 9 (by decide)]; exact a5
    · have : rx_m M' = rx_m M := by
        unfold rx_m
        rw [q3 12 (by decide)]
        rfl
      rw [this, q6, nI_l (by omega), show (rp_pop M (rx_w M0 + W.length) (rx_b M0 + W.length)).2.2.1 45 (rx_m M) = lN c from a6, lN_add]
    · rw [q7, show rx_x (rp_pop M (rx_w M0 + W.length) (rx_b M0 + W.length)) = rx_x M from rfl]
      omega
    · rw [q3 48 (by decide)]; rfl
    · rw [q3 50 (by decide)]; rfl
    · rw [q5, pk_us]
    · unfold rp_bmd
      split
      · exact ⟨1, rfl, by omega, by omega⟩
      · exact ⟨kx, rfl, w5, w6⟩
    · refine w8.to (fun j hj => ?_) (fun j hj => ?_)
      · rw [q4 46 (by decide) (by decide), q4 47 (by decide) (by decide)]
        exact ⟨rfl, rfl⟩
      · rw [q5, pk_un (by omega)]
        rfl
  · have hz : ¬ (rm_rank (M.2.1 46 (rx_w M0 + W.length)) < 3 ∨ rm_rank (M.2.1 46 (rx_w M0 + W.length)) = 8) ∧ nI kx ≠ nI ky := ⟨fun y => z (Or.inl y), hne.mpr (fun y => z (Or.inr y))⟩
    have eff : rp_ff (¬ (rm_rank (M.2.1 46 (rx_w M0 + W.length)) < 3 ∨ rm_rank (M.2.1 46 (rx_w M0 + W.length)) = 8) ∧ nI kx ≠ nI ky) 30 (M.2.1 47 (rx_w M0 + W.length)) (rp_pop M (rx_w M0 + W.length) (rx_b M0 + W.length)) = rm_fail 30 (M.2.1 47 (rx_w M0 + W.length)) (rp_pop M (rx_w M0 + W.length) (rx_b M0 + W.length)) := by
      unfold rp_ff
      rw [if_pos ⟨a5, hz⟩]
    rw [eff, w2]
    have ho := rx_o.fail 30 (nI x.1.2.1) (rp_pop M (rx_w M0 + W.length) (rx_b M0 + W.length))
    have ev : (if rm_rank (M.2.1 46 (rx_w M0 + W.length)) < 3 ∨ rm_rank (M.2.1 46 (rx_w M0 + W.length)) = 8 then v else tx_vk (decide (kx = ky)) 30 (nI x.1.2.1) v) = (30, nI x.1.2.1) := by
      rw [if_neg hz.1, decide_eq_false (fun y => z (Or.inr y)), tx_vk_f _ _ hv]
    rw [ev] at hD
    have i9 : (rm_fail 30 (nI x.1.2.1) (rp_pop M (rx_w M0 + W.length) (rx_b M0 + W.length))).1 = va_up (va_up (rp_pop M (rx_w M0 + W.length) (rx_b M0 + W.length)).1 9 30) 10 (nI x.1.2.1) := by
      unfold rm_fail
      rw [if_pos (show (rp_pop M (rx_w M0 + W.length) (rx_b M0 + W.length)).1 9 = 0 from a5)]
    refine rx_tail (mc := rx_m M) (j := rx_b M0 + W.length) (ho.g g1) (c1.o ho) ?_ hB'.2.2.1 (by omega) (fun M' q1 q2 q3 q4 q5 q6 q7 => hD M' (show (30 : Int32) ≠ 0 by decide) ⟨q1, q2, ?_, ?_, (show (30 : Int32) ≠ 0 by decide), ⟨i, hb, ?_⟩, ?_, ?_⟩)
    · rw [i9]; exact hB'.2.1
    · rw [q3 9 (by decide), i9]; rfl
    · rw [q3 10 (by decide), i9]; rfl
    · rw [q3 8 (by decide), i9]; exact a3
    · rw [q3 48 (by decide), i9]; rfl
    · rw [q3 50 (by decide), i9]; rfl
theorem rx_bd.rck {K : rm_M → Prop} {a : Nat} (hB : rx_B n T s M0) (hk : rx_k 1 M0) (ha : a < 100) (h : rx_bd M0 M e b I p (a + 1)) (hK : ∀ M', rx_bd M0 M' e b I p a → K M') : rp_rck K M := by
  obtain ⟨a1, a2, a3, a4, a5, ⟨j, a6, a7⟩, a8, a9⟩ := h
  have hB' := hB.g a1
  obtain ⟨k1, k2, k3, k4⟩ := hk
  refine ⟨rx_w M0 + a, rx_b M0 + a, a8, by omega, a9, by omega, ?_⟩
  have g1 := a1.pop (A := rx_w M0 + a) (B := rx_b M0 + a) (by omega) (by omega) (by omega) (by omega)
  have c1 : rx_c I (p + 3 * a + 3) (rp_pop M (rx_w M0 + a) (rx_b M0 + a)) := (a2.le (p' := p + 3 * a + 3) (by omega) (Nat.le_refl _) a2.2.2.2.2.2.2).to rfl rfl rfl
  have eff : ∀ (x : Prop) (hx : Decidable x) (w q : Int32), rp_ff x w q (rp_pop M (rx_w M0 + a) (rx_b M0 + a)) = rp_pop M (rx_w M0 + a) (rx_b M0 + a) := by
    intro x hx w q
    unfold rp_ff
    rw [if_neg (fun y => a5 (by rw [← a3]; exact y.1))]
  rw [eff]
  refine rx_tail (mc := rx_m M) (j := rx_b M0 + a) g1 c1 hB'.2.1 hB'.2.2.1 (by omega) (fun M' q1 q2 q3 q4 q5 q6 q7 => hK M' ⟨q1, q2, ?_, ?_, a5, ⟨j, a6, ?_⟩, ?_, ?_⟩)
  · rw [q3 9 (by decide)]; exact a3
  · rw [q3 10 (by decide)]; exact a4
  · rw [q3 8 (by decide)]; exact a7
  · rw [q3 48 (by decide)]; rfl
  · rw [q3 50 (by decide)]; rfl
/-- those of a rank that is high enough -/
theorem rx_bd.red {K : rm_M → Prop} {r : Int32} (hB : rx_B n T s M0) (hk : rx_k 1 M0) : ∀ (a N : Nat) (M : rm_M), a < N → a < 100 → rx_bd M0 M e b I p a → (∀ a' M', a' ≤ a → rx_bd M0 M' e b I p a' → K M') → rp_red (nI (rx_w M0)) r K N M := by
  intro a
  induction a with
  | zero =>
    intro N M hN _ h hK
    obtain ⟨N, rfl⟩ : ∃ N', N = N' + 1 := ⟨N - 1, by omega⟩
    have h48 := h.2.2.2.2.2.2.1
    have := hk.2.2.1
    unfold rp_red
    rw [h48, if_neg (nI_nlt (by omega) (by omega))]
    exact hK 0 M (Nat.le_refl _) h
  | succ a ih =>
    intro N M hN ha h hK
    obtain ⟨N, rfl⟩ : ∃ N', N = N' + 1 := ⟨N - 1, by omega⟩
    have h48 := h.2.2.2.2.2.2.1
    have := hk.2.2.1
    unfold rp_red
    rw [h48, if_pos (nI_lt (by omega) (by omega))]
    refine ⟨rx_w M0 + a, rfl, by omega, ?_⟩
    by_cases z : r ≤ rm_rank (M.2.1 46 (rx_w M0 + a))
    · rw [if_pos z]
      exact h.rck hB hk (by omega) (fun M' h' => ih N M' (by omega) (by omega) h' (fun a' M2 h1 h2 => hK a' M2 (by omega) h2))
    · rw [if_neg z]
      exact hK (a + 1) M (Nat.le_refl _) h
theorem rx_bd.fin {K : rm_M → Prop} (hB : rx_B n T s M0) (hk : rx_k 1 M0) : ∀ (a N : Nat) (M : rm_M), a < N → a < 100 → rx_bd M0 M e b I p a → (∀ M', rx_bd M0 M' e b I p 0 → K M') → rp_fin (nI (rx_w M0)) K N M := by
  intro a
  induction a with
  | zero =>
    intro N M hN _ h hK
    obtain ⟨N, rfl⟩ : ∃ N', N = N' + 1 := ⟨N - 1, by omega⟩
    have h48 := h.2.2.2.2.2.2.1
    have := hk.2.2.1
    unfold rp_fin
    rw [h48, if_neg (nI_nlt (by omega) (by omega))]
    exact hK M h
  | succ a ih =>
    intro N M hN ha h hK
    obtain ⟨N, rfl⟩ : ∃ N', N = N' + 1 := ⟨N - 1, by omega⟩
    have h48 := h.2.2.2.2.2.2.1
    have := hk.2.2.1
    unfold rp_fin
    rw [h48, if_pos (nI_lt (by omega) (by omega))]
    exact h.rck hB hk (by omega) (fun M' h' => ih N M' (by omega) (by omega) h' hK)
theorem rx_bl.red {K : rm_M → Prop} {r : Int32} (hB : rx_B n T s M0) (hk : rx_k 1 M0) (hv : v.1 = 0) (hb : i ≤ b) : ∀ (W : tx_Wt) (w : Int32) (N c : Nat) (M : rm_M), W.length < N → rx_bl T M0 M i c p W w →
    (∀ c' M', (tx_red r W w (s.ex v c)).2.2 = s.ex v c' → rx_bl T M0 M' i c' p (tx_red r W w (s.ex v c)).1 (tx_red r W w (s.ex v c)).2.1 → (∀ x W', (tx_red r W w (s.ex v c)).1 = x :: W' → ¬ r ≤ tx_rank x.1.1) → K M') →
    (∀ a M', (tx_red r W w (s.ex v c)).2.2.1.1 ≠ 0 → a ≤ W.length → rx_bd M0 M' (tx_red r W w (s.ex v c)).2.2.1 b i p a → K M') → rp_red (nI (rx_w M0)) r K N M := by
  intro W
  induction W with
  | nil =>
    intro w N c M hN h hK hD
    obtain ⟨N, rfl⟩ : ∃ N', N = N' + 1 := ⟨N - 1, by omega⟩
    have h48 := h.2.2.2.2.2.2.2.1
    have := hk.2.2.1
    unfold rp_red
    rw [h48, if_neg (nI_nlt (by show rx_w M0 + 0 ≤ _; omega) (by omega))]
    exact hK c M rfl h (fun x W' z => by cases z)
  | cons x W ih =>
    intro w N c M hN h hK hD
    obtain ⟨N, rfl⟩ : ∃ N', N = N' + 1 := ⟨N - 1, by omega⟩
    have hl : (x :: W).length = W.length + 1 := rfl
    have h48 := h.2.2.2.2.2.2.2.1
    have hwr := h.2.2.2.2.2.2.2.2.2.2.2
    have hlen := hwr.len
    have := hk.2.2.1
    unfold rp_red
    rw [h48, if_pos (nI_lt (by omega) (by omega))]
    refine ⟨rx_w M0 + W.length, rfl, by omega, ?_⟩
    have hrk : rm_rank (M.2.1 46 (rx_w M0 + W.length)) = tx_rank x.1.1 := rm_rk _ hwr.1
    rw [hrk]
    by_cases z : r ≤ tx_rank x.1.1
    · rw [if_pos z]
      have er : tx_red r (x :: W) w (s.ex v c) = tx_red r W (tx_bin x.1 x.2 w (s.ex v c)).1 (tx_bin x.1 x.2 w (s.ex v c)).2 := by
        show (if _ then _ else _) = _
        rw [if_pos z]
      rw [er] at hK hD
      refine h.rck hB hk hv hb (fun c' M' e1 h1 => ?_) (fun M' e1 h1 => ?_)
      · rw [e1] at hK hD
        exact ih _ N c' M' (by omega) h1 hK (fun a M2 h2 h3 h4 => hD a M2 h2 (by omega) h4)
      · have hfx : tx_fx (tx_bin x.1 x.2 w (s.ex v c)).2.1 (tx_red r W (tx_bin x.1 x.2 w (s.ex v c)).1 (tx_bin x.1 x.2 w (s.ex v c)).2).2.2 := tx_fx.red (fun _ => rfl)
        have es := hfx e1
        refine rx_bd.red hB hk W.length N M' (by omega) (by omega) h1 (fun a' M2 h2 h3 => hD a' M2 (by rw [es]; exact e1) (by omega) (by rw [es]; exact h3))
    · rw [if_neg z]
      have er : tx_red r (x :: W) w (s.ex v c) = (x :: W, w, s.ex v c) := by
        show (if _ then _ else _) = _
        rw [if_neg z]
      rw [er] at hK hD
      refine hK c M rfl h (fun y W' hy => ?_)
      cases hy
      exact z
theorem rx_bl.fin {K : rm_M → Prop} (hB : rx_B n T s M0) (hk : rx_k 1 M0) (hv : v.1 = 0) (hb : i ≤ b) : ∀ (W : tx_Wt) (w : Int32) (N c : Nat) (M : rm_M), W.length < N → rx_bl T M0 M i c p W w →
    (∀ c' M', (tx_red 0 W w (s.ex v c)).2.2 = s.ex v c' → rx_bl T M0 M' i c' p [] (tx_red 0 W w (s.ex v c)).2.1 → K M') →
    (∀ M', (tx_red 0 W w (s.ex v c)).2.2.1.1 ≠ 0 → rx_bd M0 M' (tx_red 0 W w (s.ex v c)).2.2.1 b i p 0 → K M') → rp_fin (nI (rx_w M0)) K N M := by
  intro W
  induction W with
  | nil =>
    intro w N c M hN h hK hD
    obtain ⟨N, rfl⟩ : ∃ N', N = N' + 1 := ⟨N - 1, by omega⟩
    have h48 := h.2.2.2.2.2.2.2.1
    have := hk.2.2.1
    unfold rp_fin
    rw [h48, if_neg (nI_nlt (by show rx_w M0 + 0 ≤ _; omega) (by omega))]
    exact hK c M rfl h
  | cons x W ih =>
    intro w N c M hN h hK hD
    obtain ⟨N, rfl⟩ : ∃ N', N = N' + 1 := ⟨N - 1, by omega⟩
    have hl : (x :: W).length = W.length + 1 := rfl
    have h48 := h.2.2.2.2.2.2.2.1
    have hwr := h.2.2.2.2.2.2.2.2.2.2.2
    have hlen := hwr.len
    have := hk.2.2.1
    unfold rp_fin
    rw [h48, if_pos (nI_lt (by omega) (by omega))]
    have z : (0 : Int32) ≤ tx_rank x.1.1 := by
      obtain ⟨k, k1, k2⟩ := rx_rank x.1.1
      rw [k2]
      exact nI_pos' (by omega)
    have er : tx_red 0 (x :: W) w (s.ex v c) = tx_red 0 W (tx_bin x.1 x.2 w (s.ex v c)).1 (tx_bin x.1 x.2 w (s.ex v c)).2 := by
      show (if _ then _ else _) = _
      rw [if_pos z]
    rw [er] at hK hD
    refine h.rck hB hk hv hb (fun c' M' e1 h1 => ?_) (fun M' e1 h1 => ?_)
    · rw [e1] at hK hD
      exact ih _ N c' M' (by omega) h1 hK hD
    · have hfx : tx_fx (tx_bin x.1 x.2 w (s.ex v c)).2.1 (tx_red 0 W (tx_bin x.1 x.2 w (s.ex v c)).1 (tx_bin x.1 x.2 w (s.ex v c)).2).2.2 := tx_fx.red (fun _ => rfl)
      have es := hfx e1
      refine rx_bd.fin hB hk W.length N M' (by omega) (by omega) h1 (fun M2 h3 => hD M2 (by rw [es]; exact e1) (by rw [es]; exact h3))
end RXR

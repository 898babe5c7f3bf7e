/-! THE SECOND PASS: an exp. -/
section RXE
variable {n N : Nat} {T : List tx_Tk} {s : tx_S} {M0 M M' : rm_M} {i c p b I f : Nat} {e v : Int32 × Int32} {E' : Nat → Nat → tx_S → tx_R Int32} {E : rp_E}
theorem rx_g.wt {A j : Nat} (h : rx_g M0 M) (hA : rx_w M0 ≤ A) (hA2 : A + 1 < 2147483648) : rx_g M0 (rp_wt M A j) ∧ rx_w (rp_wt M A j) = A + 1 := by
  obtain ⟨a1, a2, a3, ⟨a4, a5⟩, ⟨a6, a7⟩, a8, a9⟩ := h
  have e1 : rx_w (rp_wt M A j) = A + 1 := by
    show (nI (A + 1)).toNatClampNeg = A + 1
    exact nI_clamp hA2
  refine ⟨⟨fun k c1 c2 c3 c4 c5 c6 c7 c8 => ?_, fun k c1 c2 c3 c4 => ?_, a3, ⟨by omega, fun k hk => ?_⟩, ⟨a6, a7⟩, a8, a9⟩, e1⟩
  · show va_up (va_up M.1 48 _) 8 _ k = _
    rw [va_up_ne _ _ c1, va_up_ne _ _ c6]
    exact a1 k c1 c2 c3 c4 c5 c6 c7 c8
  · show va_up (va_up M.2.1 46 _) 47 _ k = _
    rw [va_up_ne _ _ c3, va_up_ne _ _ c2]
    exact a2 k c1 c2 c3 c4
  · constructor
    · show upd (M.2.1 46) A _ k = _
      rw [pk_un (by omega)]
      exact (a5 k hk).1
    · show upd (M.2.1 47) A _ k = _
      rw [pk_un (by omega)]
      exact (a5 k hk).2
theorem rx_g.wp {B : Nat} {w : Int32} (h : rx_g M0 M) (hB : rx_b M0 ≤ B) (hB2 : B + 1 < 2147483648) : rx_g M0 (rp_wp M B w) := by
  obtain ⟨a1, a2, a3, ⟨a4, a5⟩, ⟨a6, a7⟩, a8, a9⟩ := h
  have e1 : rx_b (rp_wp M B w) = B + 1 := by
    show (nI (B + 1)).toNatClampNeg = B + 1
    exact nI_clamp hB2
  refine ⟨fun k c1 c2 c3 c4 c5 c6 c7 c8 => ?_, fun k c1 c2 c3 c4 => ?_, a3, ⟨a4, a5⟩, ⟨by omega, fun k hk => ?_⟩, a8, a9⟩
  · show va_up M.1 50 _ k = _
    rw [va_up_ne _ _ c7]
    exact a1 k c1 c2 c3 c4 c5 c6 c7 c8
  · show va_up M.2.1 49 _ k = _
    rw [va_up_ne _ _ c4]
    exact a2 k c1 c2 c3 c4
  · show upd (M.2.1 49) B w k = _
    rw [pk_un (by omega)]
    exact a7 k hk
theorem rx_bd.lop {Kf : rm_M → Prop} {a m : Nat} (hB : rx_B n T s M0) (hk : rx_k 1 M0) (ha : a < 100) (hN : 100 ≤ N) (hm : 0 < m) (h : rx_bd M0 M e b I p a) (hK : ∀ M', rx_bd M0 M' e b I p 0 → Kf M') : rp_lop N E (nI (rx_w M0)) (fun M2 => rp_fin (nI (rx_w M0)) Kf N M2) m M := by
  obtain ⟨m, rfl⟩ : ∃ m', m = m' + 1 := ⟨m - 1, by omega⟩
  unfold rp_lop
  rw [if_neg (by rw [h.2.2.1]; exact h.2.2.2.2.1)]
  exact rx_bd.fin hB hk a N M (by omega) ha h hK
theorem rx_bl.lop {Kf : rm_M → Prop} {w' : Int32} {i' : Nat} {s' : tx_S} (hB : rx_B n T s M0) (hk : rx_k (f + 1) M0) (hv : v.1 = 0) (hE : ∀ f', f' < f → rx_SE n T s E' E f') (hG : ∀ e f i s, i < T.length → tx_fx e s → (E' f i s).gd T i e) (hf : f ≤ 60) (hN : T.length ≤ N) (hN2 : 10242 ≤ N) (hN3 : 100 ≤ N) :
    ∀ (m m' i c : Nat) (W : tx_Wt) (w : Int32) (M : rm_M), T.length ≤ i + m → T.length ≤ i + m' → rx_bl T M0 M i c p W w → tx_lop T E' f m W w i (s.ex v c) = .inr (w', i', s') →
    (∀ c' M', s' = s.ex v c' → i ≤ i' → rx_bl T M0 M' i' c' p [] w' → Kf M') → (∀ M', s'.1.1 ≠ 0 → i ≤ i' → rx_bd M0 M' s'.1 (20000 + 30 * f) i' p 0 → Kf M') → rp_lop N E (nI (rx_w M0)) (fun M2 => rp_fin (nI (rx_w M0)) Kf N M2) m' M := by
  have hl := hB.len
  have hk1 : rx_k 1 M0 := hk.le (by omega)
  have hn := hB.1.2.1
  have hk2 := hk
  obtain ⟨k1, k2, k3, k4⟩ := hk2
  intro m
  induction m with
  | zero => intro m' i c W w M h1 _ h; have := h.2.2.2.1; omega
  | succ m ih =>
    intro m' i c W w M h1 h2 h hR hK hD
    have h0 := h
    obtain ⟨a1, a2, a3, a4, a5, a6, a7, a8, a9, a10, a11, a12⟩ := h0
    obtain ⟨m', rfl⟩ : ∃ m1, m' = m1 + 1 := ⟨m' - 1, by omega⟩
    have hB' := hB.g a1
    have hkl := (hB'.1.tk.2.1 i a4).1
    have hlen := a12.len
    unfold rp_lop
    rw [if_pos a5]
    refine ⟨i, a3, by omega, ?_⟩
    have hrk : rm_rank (M.2.1 4 i) = tx_rank (tx_ki T i) := rm_rk _ hkl
    obtain ⟨k, kk1, kk2⟩ := rx_rank (tx_ki T i)
    unfold tx_lop at hR
    show (if 0 < rm_rank (M.2.1 4 i) then _ else _)
    rw [hrk]
    by_cases z : k = 0
    · have z0 : tx_rank (tx_ki T i) = 0 := by rw [kk2, z]; rfl
      rw [z0, if_neg (by decide)]
      rw [if_pos z0, z0] at hR
      cases hR
      exact rx_bl.fin hB hk1 hv (b := 20000 + 30 * f) (by omega) W w N c M (by omega) h (fun c' M' e1 h3 => hK c' M' e1 (Nat.le_refl _) h3) (fun M' e1 h3 => hD M' e1 (Nat.le_refl _) h3)
    · have z0 : ¬ tx_rank (tx_ki T i) = 0 := by rw [kk2]; exact nI_ne0 (by omega) (by omega)
      rw [if_pos (by rw [kk2]; exact nI_lt (a := 0) (by omega) (by omega))]
      rw [if_neg z0] at hR
      obtain ⟨-, hR⟩ := tx_tka hR
      obtain ⟨w3, i3, s3, hR3, hR4⟩ := tx_and_r hR
      have n22 := tx_rk2 z0
      have hi1 := hB.ends i a4 n22.1 n22.2
      refine rx_bl.red hB hk1 hv (b := 15000) (by omega) W w N c M (by omega) h (fun c2 M2 e1 hb2 htop => ?_) (fun a M2 e1 ha hb2 => ?_)
      · generalize hW2 : (tx_red (tx_rank (tx_ki T i)) W w (s.ex v c)).1 = W2 at *
        generalize hw2 : (tx_red (tx_rank (tx_ki T i)) W w (s.ex v c)).2.1 = w2 at *
        rw [e1] at hR3
        obtain ⟨b1, b2, b3, b4, b5, b6, b7, b8, b9, b10, b11, b12⟩ := hb2
        have hlen2 := b12.len
        have hW2k : W2.length + 1 ≤ k := by
          cases hh : W2 with
          | nil => show 0 + 1 ≤ k; omega
          | cons x W3 =>
            have t1 := htop x W3 hh
            rw [hh] at b12
            have t2 := b12.2.2.2.2.1
            obtain ⟨kx, x1, x2⟩ := rx_rank x.1.1
            rw [x2, nI_clamp (by omega)] at t2
            rw [kk2, x2, nI_leI (by omega) (by omega)] at t1
            show W3.length + 1 + 1 ≤ k
            omega
        have hB2 := hB.g b1
        have hkl2 := hB2.1.tk.2.1 i b4
        refine ⟨rx_w M0 + W2.length, i, b8, by omega, b3, by omega, ?_⟩
        obtain ⟨g3, g3w⟩ := b1.wt (A := rx_w M0 + W2.length) (j := i) (by omega) (by omega)
        have hB3 := hB.g g3
        generalize hM3 : rp_wt M2 (rx_w M0 + W2.length) i = M3 at *
        have m3b : rx_b M3 = rx_b M0 + W2.length + 1 := by
          rw [← hM3]
          show (M2.1 50).toNatClampNeg = _
          rw [b9, nI_clamp (by omega)]
        have m348 : M3.1 48 = nI (rx_w M0 + W2.length + 1) := by rw [← hM3]; rfl
        have m350 : M3.1 50 = nI (rx_b M0 + W2.length + 1) := by rw [← hM3]; exact b9
        have hL3 : rx_L T M3 M3 (i + 1) c2 (p + 3 * (W2.length + 1)) := by
          refine ⟨rx_f.rf _, ?_, ?_, hi1, ?_, ?_, ?_⟩
          · have : rx_c i (p + 3 * W2.length) M3 := b2.to (by rw [← hM3]; rfl) (by rw [← hM3]; rfl) (by rw [← hM3]; rfl)
            exact this.le (by omega) (by omega) (by omega)
          · rw [← hM3]; rfl
          · rw [← hM3]; exact b5
          · rw [← hM3]; exact b6
          · have : rx_x M3 = rx_x M2 := by rw [← hM3]; rfl
            rw [this]; omega
        have hk3 : rx_k f M3 := by
          refine ⟨by rw [g3w]; exact m348, by rw [m3b]; exact m350, ?_, ?_⟩
          · rw [g3w]; omega
          · rw [m3b]; omega
        refine rx_L.opr hB3 hk3 hv hE hG hf hN hL3 hR3 (fun c4 M4 e2 i3lt h4 hwd => ?_) (fun w4 M4 e2 i3lt h4 => ?_)
        · have f4 := h4.1
          refine ⟨rx_b M0 + W2.length + 1, by rw [f4.2.2]; exact m350, by omega, ?_⟩
          have g4 : rx_g M0 M4 := g3.tr f4.1
          have g5 := g4.wp (B := rx_b M0 + W2.length + 1) (w := w3) (by omega) (by omega)
          rw [e2] at hR4
          refine ih m' i3 c4 ((tx_ta T i, w2) :: W2) w3 _ (by omega) (by omega) ⟨g5, h4.2.1.to rfl rfl rfl, h4.2.2.1, h4.2.2.2.1, h4.2.2.2.2.1, h4.2.2.2.2.2.1, h4.2.2.2.2.2.2, ?_, rfl, ?_, hwd, ?_⟩ hR4 (fun c' M' q1 q2 q3 => hK c' M' q1 (by omega) q3) (fun M' q1 q2 q3 => hD M' q1 (by omega) q3)
          · show M4.1 48 = _
            rw [f4.2.1]
            exact m348
          · show upd (M4.2.1 49) (rx_b M0 + W2.length + 1) w3 (rx_b M0 + (W2.length + 1)) = w3
            exact pk_us
          · have r46 := f4.1.2.2.2.1.2 (rx_w M0 + W2.length) (by omega)
            have r49 := f4.1.2.2.2.2.1.2 (rx_b M0 + W2.length) (by omega)
            refine ⟨?_, ?_, ?_, b11, ?_, ?_⟩
            · show (tx_ki T i, M4.2.1 46 (rx_w M0 + W2.length)) ∈ rm_kl
              rw [r46.1, ← hM3]
              show (tx_ki T i, upd (M2.2.1 46) _ _ _) ∈ rm_kl
              rw [pk_us]
              exact hkl2.1
            · show M4.2.1 47 (rx_w M0 + W2.length) = nI (tx_ta T i).2.1
              rw [r46.2, ← hM3]
              show upd (M2.2.1 47) _ _ _ = _
              rw [pk_us]
              exact hkl2.2
            · show upd (M4.2.1 49) _ _ _ = w2
              rw [pk_un (by omega), r49, ← hM3]
              exact b10
            · show W2.length + 1 ≤ (tx_rank (tx_ki T i)).toNatClampNeg
              rw [kk2, nI_clamp (by omega)]
              exact hW2k
            · refine b12.to (fun j hj => ?_) (fun j hj => ?_)
              · have r := f4.1.2.2.2.1.2 j (by omega)
                constructor
                · show M4.2.1 46 j = _
                  rw [r.1, ← hM3]
                  show upd (M2.2.1 46) _ _ _ = _
                  rw [pk_un (by omega)]
                · show M4.2.1 47 j = _
                  rw [r.2, ← hM3]
                  show upd (M2.2.1 47) _ _ _ = _
                  rw [pk_un (by omega)]
              · have r := f4.1.2.2.2.2.1.2 j (by omega)
                show upd (M4.2.1 49) _ _ _ = _
                rw [pk_un (by omega), r, ← hM3]
                rfl
        · have f4 := h4.1
          have hg := tx_gd.lop (e := s3.1) hB.ends (fun f i s => hG _ f i s) (f := f) m ((tx_ta T i, w2) :: W2) w3 i3 s3 (by
            have := (tx_gd.opr (e := (0, 0)) hB.ends (fun f i s => hG _ f i s) (f := f) hi1 (s := s.ex v c2) (fun y => absurd rfl y) _ _ _ hR3).2.1
            omega) (fun _ => rfl) w' i' s' hR4
          have es := hg.2.2 e2
          refine ⟨rx_b M0 + W2.length + 1, by rw [f4.2.2]; exact m350, by omega, ?_⟩
          have g4 : rx_g M0 M4 := g3.tr f4.1
          have g5 := g4.wp (B := rx_b M0 + W2.length + 1) (w := w4) (by omega) (by omega)
          have hbd : rx_bd M0 (rp_wp M4 (rx_b M0 + W2.length + 1) w4) s3.1 (20000 + 30 * f) i' p (W2.length + 1) := by
            refine ⟨g5, (h4.2.1.to rfl rfl rfl : rx_c i3 (p + 3 * (W2.length + 1)) _).le (by omega) hg.1 (by omega), h4.2.2.1, h4.2.2.2.1, h4.2.2.2.2.1, h4.2.2.2.2.2, ?_, rfl⟩
            show M4.1 48 = _
            rw [f4.2.1]
            exact m348
          refine hbd.lop hB hk1 (by omega) hN3 (by omega) (fun M' h5 => ?_)
          rw [← es] at h5
          exact hD M' (by rw [es]; exact e2) (by omega) h5
      · have hrest : ((tx_opr T E' f (i + 1) (tx_red (tx_rank (tx_ki T i)) W w (s.ex v c)).2.2).and fun w2 i2 s2 => tx_lop T E' f m ((tx_ta T i, (tx_red (tx_rank (tx_ki T i)) W w (s.ex v c)).2.1) :: (tx_red (tx_rank (tx_ki T i)) W w (s.ex v c)).1) w2 i2 s2).gd T (i + 1) (tx_red (tx_rank (tx_ki T i)) W w (s.ex v c)).2.2.1 :=
          ((tx_gd.opr hB.ends (fun f i s => hG _ f i s) (f := f) hi1 (fun _ => rfl)).le (by omega)).and (fun w2 i2 s2 q1 q2 q3 => (tx_gd.lop hB.ends (fun f i s => hG _ f i s) (f := f) m _ w2 i2 s2 q2 q3).le q1)
        have hg := hrest w' i' s' hR
        have es := hg.2.2 e1
        generalize (tx_red (tx_rank (tx_ki T i)) W w (s.ex v c)).2.2.1 = e0 at *
        obtain ⟨b1, b2, b3, b4, b5, ⟨j, b6, b7⟩, b8, b9⟩ := hb2
        refine ⟨rx_w M0 + a, j, b8, by omega, b7, by omega, ?_⟩
        obtain ⟨g3, g3w⟩ := b1.wt (A := rx_w M0 + a) (j := j) (by omega) (by omega)
        have hB3 := hB.g g3
        have hD3 : rx_D (rp_wt M2 (rx_w M0 + a) j) (rp_wt M2 (rx_w M0 + a) j) e0 20000 i' (p + 3 * (a + 1)) := by
          refine ⟨rx_f.rf _, (b2.to rfl rfl rfl : rx_c i (p + 3 * a) _).le (by omega) (by omega) (by omega), b3, b4, b5, j + 1, by omega, rfl⟩
        refine hD3.opr hB3 (by omega) (by omega) (by omega) (fun M4 h4 => ?_)
        have f4 := h4.1
        have m350 : M4.1 50 = nI (rx_b M0 + a + 1) := by
          rw [f4.2.2]
          exact b9
        refine ⟨rx_b M0 + a + 1, m350, by omega, ?_⟩
        have g4 : rx_g M0 M4 := g3.tr f4.1
        have g5 := g4.wp (B := rx_b M0 + a + 1) (w := 1) (by omega) (by omega)
        have hbd : rx_bd M0 (rp_wp M4 (rx_b M0 + a + 1) 1) e0 (20000 + 30 * f) i' p (a + 1) := by
          obtain ⟨-, c2, c3, c4, c5, j2, c6, c7⟩ := h4
          refine ⟨g5, c2.to rfl rfl rfl, c3, c4, c5, ⟨j2, by omega, c7⟩, ?_, rfl⟩
          show M4.1 48 = _
          rw [f4.2.1]
          rfl
        refine hbd.lop hB hk1 (by omega) hN3 (by omega) (fun M' h5 => ?_)
        rw [← es] at h5
        exact hD M' (by rw [es]; exact e1) (by omega) h5
theorem rx_L.bin {K : Int32 → rm_M → Prop} {w w1 : Int32} {i' i1 : Nat} {s' s1 : tx_S} (hB : rx_B n T s M0) (hk : rx_k (f + 1) M0) (hv : v.1 = 0) (hE : ∀ f', f' < f → rx_SE n T s E' E f') (hG : ∀ e f i s, i < T.length → tx_fx e s → (E' f i s).gd T i e) (hf : f ≤ 60) (hN : T.length ≤ N) (hN2 : 10242 ≤ N) (hN3 : 100 ≤ N) (h : rx_L T M0 M i c p) (hR1 : tx_opr T E' f i (s.ex v c) = .inr (w1, i1, s1)) (hR : tx_lop T E' f T.length [] w1 i1 s1 = .inr (w, i', s'))
    (hK : ∀ c' M', s' = s.ex v c' → i < i' → rx_L T M0 M' i' c' p → rx_wd w → K w M') (hD : ∀ w' M', s'.1.1 ≠ 0 → i < i' → rx_D M0 M' s'.1 (20000 + 30 * f) i' p → K w' M') : rp_bin N E K M := by
  have hl := hB.len
  have hBM := h.B hB
  have hkM : rx_k (f + 1) M := hk.f h.1
  obtain ⟨k1, k2, k3, k4⟩ := hkM
  have hkM : rx_k (f + 1) M := ⟨k1, k2, k3, k4⟩
  unfold rp_bin
  rw [k1]
  refine rx_L.opr hBM (hkM.le (by omega)) hv hE hG hf hN h.base hR1 (fun c2 M2 e2 ilt h2 hwd => ?_) (fun w2 M2 e2 ilt h2 => ?_)
  · refine ⟨rx_b M, by rw [h2.1.2.2]; exact k2, by omega, ?_⟩
    have g3 := h2.1.1.wp (B := rx_b M) (w := w1) (Nat.le_refl _) (by omega)
    rw [e2] at hR
    refine rx_bl.lop hBM hkM hv hE hG hf hN hN2 hN3 T.length N i1 c2 [] w1 _ (by omega) (by omega) ⟨g3, h2.2.1.to rfl rfl rfl, h2.2.2.1, h2.2.2.2.1, h2.2.2.2.2.1, h2.2.2.2.2.2.1, h2.2.2.2.2.2.2, ?_, rfl, pk_us, hwd, trivial⟩ hR (fun c' M' q1 q2 q3 => ?_) (fun M' q1 q2 q3 => ?_)
    · show M2.1 48 = _
      rw [h2.1.2.1]
      exact k1
    · obtain ⟨b1, b2, b3, b4, b5, b6, b7, b8, b9, b10, b11, -⟩ := q3
      refine ⟨rx_b M, b9, by omega, ?_⟩
      rw [show M'.2.1 49 (rx_b M) = w from b10]
      refine hK c' _ q1 (by omega) (rx_L.at h.1 (M := M) ⟨⟨?_, ?_, ?_⟩, b2.to rfl rfl rfl, b3, b4, b5, b6, b7⟩) b11
      · obtain ⟨a1, a2, a3, ⟨a4, a5⟩, ⟨a6, a7⟩, a8, a9⟩ := b1
        refine ⟨fun k c1 c2 c3 c4 c5 c6 c7 c8 => ?_, a2, a3, ⟨a4, a5⟩, ⟨?_, a7⟩, a8, a9⟩
        · show va_up M'.1 50 _ k = _
          rw [va_up_ne _ _ c7]
          exact a1 k c1 c2 c3 c4 c5 c6 c7 c8
        · show _ ≤ (nI (rx_b M)).toNatClampNeg
          rw [nI_clamp (by omega)]
          exact Nat.le_refl _
      · show M'.1 48 = _
        rw [b8, k1]
        rfl
      · show nI (rx_b M) = _
        rw [k2]
    · obtain ⟨b1, b2, b3, b4, b5, b6, b8, b9⟩ := q3
      refine ⟨rx_b M, b9, by omega, ?_⟩
      refine hD _ _ q1 (by omega) (rx_D.at h.1 (M := M) ⟨⟨?_, ?_, ?_⟩, b2.to rfl rfl rfl, b3, b4, b5, b6⟩)
      · obtain ⟨a1, a2, a3, ⟨a4, a5⟩, ⟨a6, a7⟩, a8, a9⟩ := b1
        refine ⟨fun k c1 c2 c3 c4 c5 c6 c7 c8 => ?_, a2, a3, ⟨a4, a5⟩, ⟨?_, a7⟩, a8, a9⟩
        · show va_up M'.1 50 _ k = _
          rw [va_up_ne _ _ c7]
          exact a1 k c1 c2 c3 c4 c5 c6 c7 c8
        · show _ ≤ (nI (rx_b M)).toNatClampNeg
          rw [nI_clamp (by omega)]
          exact Nat.le_refl _
      · show M'.1 48 = _
        rw [b8, k1]
        rfl
      · show nI (rx_b M) = _
        rw [k2]
  · have hg := tx_gd.lop (e := s1.1) hB.ends (fun f i s => hG _ f i s) (f := f) T.length [] w1 i1 s1 (by
      have := (tx_gd.opr (e := (0, 0)) hB.ends (fun f i s => hG _ f i s) (f := f) h.2.2.2.1 (s := s.ex v c) (fun y => absurd rfl y) _ _ _ hR1).2.1
      omega) (fun _ => rfl) w i' s' hR
    have es := hg.2.2 e2
    refine ⟨rx_b M, by rw [h2.1.2.2]; exact k2, by omega, ?_⟩
    have g3 := h2.1.1.wp (B := rx_b M) (w := w2) (Nat.le_refl _) (by omega)
    have hbd : rx_bd M (rp_wp M2 (rx_b M) w2) s1.1 (20000 + 30 * f) i' p 0 := by
      refine ⟨g3, (h2.2.1.to rfl rfl rfl : rx_c i1 p _).le (by omega) hg.1 (by omega), h2.2.2.1, h2.2.2.2.1, h2.2.2.2.2.1, h2.2.2.2.2.2, ?_, rfl⟩
      show M2.1 48 = _
      rw [h2.1.2.1]
      exact k1
    refine hbd.lop hBM (hkM.le (by omega)) (by omega) hN3 (by omega) (fun M' q3 => ?_)
    obtain ⟨b1, b2, b3, b4, b5, b6, b8, b9⟩ := q3
    refine ⟨rx_b M, b9, by omega, ?_⟩
    rw [← es] at b3 b4 b5
    refine hD _ _ (by rw [es]; exact e2) (by omega) (rx_D.at h.1 (M := M) ⟨⟨?_, ?_, ?_⟩, b2.to rfl rfl rfl, b3, b4, b5, b6⟩)
    · obtain ⟨a1, a2, a3, ⟨a4, a5⟩, ⟨a6, a7⟩, a8, a9⟩ := b1
      refine ⟨fun k c1 c2 c3 c4 c5 c6 c7 c8 => ?_, a2, a3, ⟨a4, a5⟩, ⟨?_, a7⟩, a8, a9⟩
      · show va_up M'.1 50 _ k = _
        rw [va_up_ne _ _ c7]
        exact a1 k c1 c2 c3 c4 c5 c6 c7 c8
      · show _ ≤ (nI (rx_b M)).toNatClampNeg
        rw [nI_clamp (by omega)]
        exact Nat.le_refl _
    · show M'.1 48 = _
      rw [b8, k1]
      rfl
    · show nI (rx_b M) = _
      rw [k2]
theorem rx_D.bin {K : Int32 → rm_M → Prop} (hB : rx_B n T s M0) (hk : rx_k 1 M0) (h : rx_D M0 M e b I p) (hb : 10241 ≤ b) (hb2 : b < 65540) (hN2 : 10242 ≤ N) (hN3 : 100 ≤ N) (hK : ∀ M', rx_D M0 M' e b I p → K 1 M') : rp_bin N E K M := by
  have hBM := h.B hB
  have hkM : rx_k 1 M := hk.f h.1
  have hkM' := hkM
  obtain ⟨k1, k2, k3, k4⟩ := hkM'
  unfold rp_bin
  rw [k1]
  refine h.base.opr hBM hb hb2 hN2 (fun M2 h2 => ?_)
  refine ⟨rx_b M, by rw [h2.1.2.2]; exact k2, by omega, ?_⟩
  obtain ⟨N, rfl⟩ : ∃ N', N = N' + 1 := ⟨N - 1, by omega⟩
  have e9 : ¬ (rp_wp M2 (rx_b M) 1).1 9 = 0 := by
    show ¬ M2.1 9 = 0
    rw [h2.2.2.1]
    exact h2.2.2.2.2.1
  unfold rp_lop
  rw [if_neg e9]
  unfold rp_fin
  have e48 : (rp_wp M2 (rx_b M) 1).1 48 = nI (rx_w M) := by
    show M2.1 48 = _
    rw [h2.1.2.1]
    exact k1
  rw [e48, if_neg (nI_nlt (Nat.le_refl _) (by omega))]
  refine ⟨rx_b M, rfl, by omega, ?_⟩
  rw [show (rp_wp M2 (rx_b M) 1).2.1 49 (rx_b M) = 1 from pk_us]
  refine hK _ (rx_D.at h.1 (M := M) ⟨⟨?_, e48.trans k1.symm, ?_⟩, h2.2.1.to rfl rfl rfl, h2.2.2⟩)
  · have g3 := h2.1.1.wp (B := rx_b M) (w := 1) (Nat.le_refl _) (by omega)
    obtain ⟨a1, a2, a3, ⟨a4, a5⟩, ⟨a6, a7⟩, a8, a9⟩ := g3
    refine ⟨fun k c1 c2 c3 c4 c5 c6 c7 c8 => ?_, a2, a3, ⟨a4, a5⟩, ⟨?_, a7⟩, a8, a9⟩
    · show va_up (rp_wp M2 (rx_b M) 1).1 50 _ k = _
      rw [va_up_ne _ _ c7]
      exact a1 k c1 c2 c3 c4 c5 c6 c7 c8
    · show _ ≤ (nI (rx_b M)).toNatClampNeg
      rw [nI_clamp (by omega)]
      exact Nat.le_refl _
  · show nI (rx_b M) = _
    rw [k2]
theorem rx_D.ex1 {K : Int32 → rm_M → Prop} (hB : rx_B n T s M0) (hk : rx_k 1 M0) (h : rx_D M0 M e b I p) (hb : 10241 ≤ b) (hb2 : b < 65540) (hN2 : 10242 ≤ N) (hN3 : 100 ≤ N) (hK : ∀ M', rx_D M0 M' e b I p → K 1 M') : rp_ex1 N E K M := by
  unfold rp_ex1
  refine h.bin hB hk hb hb2 hN2 hN3 (fun M' h' => ?_)
  refine h'.is hb2 ?_
  rw [if_neg (by decide)]
  exact hK M' h'
theorem rx_L.ex1 {K : Int32 → rm_M → Prop} {w : Int32} {i' : Nat} {s' : tx_S} (hB : rx_B n T s M0) (hk : rx_k (f + 1) M0) (hv : v.1 = 0) (hE : ∀ f', f' < f → rx_SE n T s E' E f') (hSD : 0 < f → rx_SD n T s E) (hG : ∀ e f i s, i < T.length → tx_fx e s → (E' f i s).gd T i e) (hf : f ≤ 60) (hN : T.length ≤ N) (hN2 : 10242 ≤ N) (hN3 : 100 ≤ N) (h : rx_L T M0 M i c p) (hR : tx_ex1 T E' f i (s.ex v c) = .inr (w, i', s'))
    (hK : ∀ c' M', s' = s.ex v c' → i < i' → rx_L T M0 M' i' c' p → rx_wd w → K w M') (hD : ∀ w' M', s'.1.1 ≠ 0 → i < i' → rx_D M0 M' s'.1 (20000 + 30 * f) i' p → K w' M') : rp_ex1 N E K M := by
  have hl := hB.len
  have hn := hB.1.2.1
  unfold tx_ex1 at hR
  obtain ⟨w1, i1, s1, hR1, hR⟩ := tx_and_r hR
  obtain ⟨w2, i2, s2, hR2, hR⟩ := tx_and_r hR
  unfold rp_ex1
  refine rx_L.bin hB hk hv hE hG hf hN hN2 hN3 h hR1 hR2 (fun c2 M2 e2 ilt h2 hwd => ?_) (fun w3 M2 e2 ilt h2 => ?_)
  · refine h2.is hB (a := 63) (by decide) ?_
    by_cases z : tx_ki T i2 = 63
    · rw [decide_eq_true z, if_pos rfl]
      rw [if_pos z] at hR
      unfold tx_cnd at hR
      obtain ⟨f1, rfl, -, hR⟩ := tx_op_r hR
      obtain ⟨wx, ix, sx, hRx, hR⟩ := tx_and_r hR
      obtain ⟨k58, hR⟩ := tx_tka hR
      obtain ⟨wy, iy, sy, hRy, hR⟩ := tx_and_r hR
      refine h2.bg hB ?_
      rw [e2] at hRx
      have h3 := h2.i1 hB (by rw [z]; decide) (by rw [z]; decide)
      have hxl := (hG (0, 0) f1 (i2 + 1) (s.ex v c2) h3.2.2.2.1 (fun y => absurd rfl y) _ _ _ hRx).2.1
      have hxl1 := hB.ends ix hxl (by rw [k58]; decide) (by rw [k58]; decide)
      have hyl := (hG (0, 0) f1 (ix + 1) sx hxl1 (fun y => absurd rfl y) _ _ _ hRy)
      have hk' : rx_k (f1 + 1) M0 := hk.le (by omega)
      refine hE f1 (by omega) M0 _ (i2 + 1) c2 (p + 12) v wx ix sx _ hB hk' h3 hv hRx (fun cx Mx ex ixlt hx wdx => ?_) (fun w4 Mx ex ixlt hx => ?_)
      · rw [ex] at hRy
        have h4 := hx.i1 hB (by rw [k58]; decide) (by rw [k58]; decide)
        refine hE f1 (by omega) M0 _ (ix + 1) cx (p + 12) v wy iy sy _ hB hk' (h4.le (by omega)) hv hRy (fun cy My ey iylt hy wdy => ?_) (fun w4 My ey iylt hy => ?_)
        · obtain ⟨kc, c1, c3, c4⟩ := hwd
          obtain ⟨kx, x1, x2, x3⟩ := wdx
          obtain ⟨ky, y1, y2, y3⟩ := wdy
          unfold tx_cond at hR
          rw [ey, c1, x1, y1, (rx_imax (a := kx) (b := ky) (by omega) (by omega)).1, (rx_imax (a := kc) (b := max kx ky) (by omega) (by omega)).1, tx_ex_ck, tx_ex_spend (by omega), decide_eq_decide.mpr (nI_eq (a := kx) (b := ky) (by omega) (by omega))] at hR
          rw [x1, y1, c1, (rx_imax (a := kx) (b := kc) (by omega) (by omega)).2]
          by_cases zz : kx = ky
          · rw [decide_eq_true zz, tx_vk_t] at hR
            cases hR
            rw [hy.ff (fun q => q (by rw [zz]))]
            refine (hy.le (p' := p + 3) (by omega)).cl hB (d := max kx kc) (nI_l (by omega)) (by omega) (fun M4 h6 _ _ _ => ?_)
            refine hK _ M4 rfl (by omega) ?_ ⟨kx, rfl, x2, x3⟩
            rw [show max kc (max kx ky) = max kx kc by omega]
            exact h6
          · rw [decide_eq_false zz, tx_vk_f _ _ hv] at hR
            cases hR
            have h5 := hy.ffD (x := nI kx ≠ nI ky) (w := 30) (q := nI (tx_ta T i2).2.1) (b := 20000 + 30 * (f1 + 1)) (fun q => zz ((nI_eq (by omega) (by omega)).mp q)) (by decide) (by omega)
            refine (h5.le (p' := p + 3) (Nat.le_refl _) (by omega) (Nat.le_refl _) (by omega)).cl hB (fun M4 h6 => ?_)
            exact hD _ M4 (show (30 : Int32) ≠ 0 by decide) (by omega) h6
        · have hfx : tx_fx sy.1 (tx_cond (tx_ta T i2) w2 wx wy sy).2 := tx_fx.cond (fun _ => rfl)
          cases hR
          have es := hfx ey
          rw [hy.ff]
          refine (hy.le (b' := 20000 + 30 * (f1 + 1)) (p' := p + 3) (by omega) (by omega) (Nat.le_refl _) (by omega)).cl hB (fun M4 h6 => ?_)
          rw [← es] at h6
          exact hD _ M4 (by rw [es]; exact ey) (by omega) h6
      · have hgy := hG sx.1 f1 (ix + 1) sx hxl1 (fun _ => rfl) _ _ _ hRy
        have esy := hgy.2.2 ex
        have hfx : tx_fx sy.1 (tx_cond (tx_ta T i2) w2 wx wy sy).2 := tx_fx.cond (fun _ => rfl)
        cases hR
        have es := hfx (by rw [esy]; exact ex)
        rw [esy] at es
        have h5 := hx.mv (d := 1) (x := 1) rfl
        refine hSD (by omega) M0 _ sx.1 (20001 + 30 * f1) ix (p + 12) _ hB (hk.le (by omega)) (h5.le (by omega) (by omega) (Nat.le_refl _) (by omega)) (by omega) (by omega) (fun My hy => ?_)
        rw [hy.ff]
        refine (hy.le (b' := 20000 + 30 * (f1 + 1)) (I' := i') (p' := p + 3) (by omega) (by omega) (by omega) (by omega)).cl hB (fun M4 h6 => ?_)
        rw [← es] at h6
        exact hD _ M4 (by rw [es]; exact ex) (by omega) h6
    · rw [decide_eq_false z, if_neg (by decide)]
      rw [if_neg z] at hR
      cases hR
      exact hK c2 M2 e2 ilt h2 hwd
  · refine h2.is (by omega) ?_
    rw [if_neg (by decide)]
    have hi2 : i2 < T.length := by
      have q1 := (tx_gd.opr (e := (0, 0)) hB.ends (fun f i s => hG _ f i s) (f := f) h.2.2.2.1 (s := s.ex v c) (fun y => absurd rfl y) _ _ _ hR1).2.1
      exact (tx_gd.lop (e := (0, 0)) hB.ends (fun f i s => hG _ f i s) (f := f) T.length [] w1 i1 s1 q1 (fun y => absurd rfl y) _ _ _ hR2).2.1
    have hg : (if tx_ki T i2 = 63 then tx_cnd T E' f w2 i2 s2 else (.inr (w2, i2, s2) : tx_R Int32)).gd T i2 s2.1 := by
      refine tx_gd.i (fun z => ?_) (fun _ => tx_gd.r (Nat.le_refl _) hi2 (fun _ => rfl))
      unfold tx_cnd
      exact tx_gd.op hB.ends hi2 (by decide) (fun f t hl => ((hG _ f _ _ hl (fun _ => rfl)).le (by omega)).and fun x j1 t1 q1 q2 q3 => (tx_gd.tk hB.ends q2 (by omega) q3 (by decide)).and fun _ j2 t2 q4 q5 q6 => ((hG _ f _ _ q5 q6).le q4).and fun y j3 t3 q7 q8 q9 => tx_gd.r q7 q8 q9.cond)
    obtain ⟨g1, g2, g3⟩ := hg w i' s' hR
    have es := g3 e2
    rw [← es] at h2
    exact hD w3 M2 (by rw [es]; exact e2) (by omega) (h2.le (Nat.le_refl _) (by omega) g1 (by omega))
theorem rx_SD_exf (hN2 : 10242 ≤ N) (hN3 : 100 ≤ N) (m : Nat) : rx_SD n T s (rp_exf N (m + 1)) := by
  intro M0 M e b I p K hB hk h hb hb2 hK
  exact h.ex1 hB hk hb (by omega) hN2 hN3 hK
theorem rx_SE_exf (hT : tx_ends T) (hN : T.length ≤ N) (hN2 : 10242 ≤ N) (hN3 : 100 ≤ N) : ∀ (m f : Nat), f < m → f ≤ 60 → rx_SE n T s (tx_exf T m) (rp_exf N m) f := by
  intro m
  induction m with
  | zero => intro f hf; omega
  | succ m ih =>
    intro f hf hf60 M0 M i c p v w i' s' K hB hk h hv hR hK hD
    refine rx_L.ex1 hB hk hv (fun f' h' => ih f' (by omega) (by omega)) (fun h0 => ?_) (fun e f i s hi hs => tx_gd.exf hT m f i s hi hs) hf60 hN hN2 hN3 h hR hK hD
    obtain ⟨m, rfl⟩ : ∃ m', m = m' + 1 := ⟨m - 1, by omega⟩
    exact rx_SD_exf hN2 hN3 m
end RXE

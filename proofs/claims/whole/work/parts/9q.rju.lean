/-! THE SECOND PASS: the whole design follows the reader. -/
theorem tx_gd.dss {T : List tx_Tk} {e : Int32 × Int32} (hT : tx_ends T) : ∀ (m : Nat) (i : Nat) (s : tx_S), i < T.length → tx_fx e s → (tx_dss T m i s).gd T i e := by
  intro m
  induction m with
  | zero => intro i s hi hs; exact tx_gd.r (Nat.le_refl _) hi hs
  | succ m ih =>
    intro i s hi hs
    unfold tx_dss
    refine tx_gd.i (fun _ => tx_gd.r (Nat.le_refl _) hi hs) (fun _ => ?_)
    exact ((tx_gd.unt hT hi hs).le (by omega)).and (fun a j s' h1 h2 h3 => (ih j s' h2 h3).le h1)
section RJU
variable {n N : Nat} {T : List tx_Tk} {s s1 : tx_S} {M0 M M' : rm_M} {i i' p : Nat}
theorem rz_T.kd {K : Int32 → Prop} (h : rz_T n T M0 M s i p) (hK : ∀ y, (tx_ki T i, y) ∈ rm_kl → K y) : rp_kd M K := by
  have hl := h.2.1.len
  have hn := h.2.1.2.1
  obtain ⟨h1, h2, -, h4, h5, h6, -⟩ := h
  exact ⟨i, h5, by omega, hK _ (h2.tk.2.1 i h6).1⟩
theorem rz_T.mds {K : rm_M → Prop} {s' : tx_S} (hN : 65540 ≤ N) (hK : ∀ M', rz_T n T M0 M' s' i' p → tx_ki T i' = 22 → K M') (hD : ∀ M', s'.1.1 ≠ 0 → rz_E M0 M' s'.1 → K M') :
    ∀ (mm N' i : Nat) (s : tx_S) (M : rm_M), T.length ≤ i + mm → T.length ≤ i + N' → rz_T n T M0 M s i p → tx_dss T mm i s = .inr ((), i', s') → rp_mds N K N' M := by
  intro mm
  induction mm with
  | zero => intro N' i s M h1 _ h; have := h.2.2.2.2.2.1; omega
  | succ mm ih =>
    intro N' i s M h1 h2 h hR
    have hi := h.2.2.2.2.2.1
    have hends : tx_ends T := fun i hi h1 h2 => h.2.1.end hi h1 h2
    obtain ⟨N', rfl⟩ : ∃ N1, N' = N1 + 1 := ⟨N' - 1, by omega⟩
    unfold rp_mds
    rw [if_pos h.2.2.2.2.2.2.1]
    refine h.kd (fun y hy => ?_)
    unfold tx_dss at hR
    by_cases z : tx_ki T i = 22
    · rw [if_pos ((rm_kq hy (c := 403) (a := 22) (by decide)).mpr z)]
      rw [if_pos z] at hR
      cases hR
      exact hK M h z
    · rw [if_neg (fun q => z ((rm_kq hy (c := 403) (a := 22) (by decide)).mp q))]
      rw [if_neg z] at hR
      obtain ⟨w1, i1, s1, hR1, hR⟩ := tx_and_r hR
      have hg0 := tx_gd.unt (e := (0, 0)) hends (f := 60) hi (s := s) (fun y => absurd rfl y) _ _ _ hR1
      refine h.unt hN (rz_ins hN) hR1 (fun M1 h3 ilt => ih N' i1 s1 M1 (by omega) (by omega) h3 hR) (fun M1 e1 h3 => ?_)
      have hi1 := hg0.2.1
      have hi2 := hg0.1
      have es : s'.1 = s1.1 := (tx_gd.dss (e := s1.1) hends mm i1 s1 hi1 (fun _ => rfl) _ _ _ hR).2.2 e1
      obtain ⟨N', rfl⟩ : ∃ N1, N' = N1 + 1 := ⟨N' - 1, by omega⟩
      unfold rp_mds
      rw [if_neg (by rw [h3.2.1]; exact h3.2.2.2)]
      rw [← es] at h3
      exact hD M1 (by rw [es]; exact e1) h3
theorem rp_clr_f (M : rm_M) : rz_f M (rp_clr M) := by
  constructor
  · intro j hj
    show va_up (va_up (va_up (va_up (va_up (va_up (va_up (va_up (va_up (va_up (va_up M.1 8 0) 12 0) 18 0) 27 0) 31 0) 35 0) 38 0) 42 0) 44 0) 48 0) 50 0 j = _
    rw [va_up_ne _ _ (by omega), va_up_ne _ _ (by omega), va_up_ne _ _ (by omega), va_up_ne _ _ (by omega), va_up_ne _ _ (by omega), va_up_ne _ _ (by omega), va_up_ne _ _ (by omega), va_up_ne _ _ (by omega), va_up_ne _ _ (by omega), va_up_ne _ _ (by omega), va_up_ne _ _ (by omega)]
  · intro j hj
    exact va_up_ne _ _ (by omega)
theorem rz_T0 (hT : rm_T n T M) (h0 : 0 < T.length) (h9 : M.1 9 = 0) : rz_T n T M (rp_clr M) tx_s0 0 0 := by
  refine ⟨rp_clr_f M, (rp_clr_f M).tt hT, ⟨0, 0, 0, 0, 0, rfl, rfl, rfl, rfl, rfl, rfl, by omega, by omega, by omega, by omega, by omega, Nat.le_refl _, fun j v hv => ?_, ⟨fun j v hv => ?_, fun X j hX => ?_, fun X x hX => ?_, fun u X hu => ?_, fun j v q r x hv => ?_, fun u q r hu => ?_⟩, ⟨rfl, fun X x hX => ?_⟩, fun z => absurd z (Nat.lt_irrefl _)⟩, ?_, rfl, h0, h9, rfl, ?_⟩
  · have hv' : ([] : List tx_U)[j]? = some v := hv
    simp at hv'
  · have hv' : ([] : List tx_U)[j]? = some v := hv
    simp at hv'
  · cases hX
  · cases hX
  · cases hu
  · have hv' : ([] : List tx_U)[j]? = some v := hv
    simp at hv'
  · cases hu
  · cases hX
  · have e1 : rx_x (rp_clr M) = 0 := rfl
    have e2 : rx_y (rp_clr M) = 0 := rfl
    exact ⟨by rw [e1]; rfl, by omega, by omega, by rw [e2]; rfl, by omega, by omega, by omega⟩
  · have e1 : rx_w (rp_clr M) = 0 := rfl
    have e2 : rx_b (rp_clr M) = 0 := rfl
    exact ⟨by rw [e1]; rfl, by rw [e2]; rfl, by omega, by omega⟩
theorem rz_dsg {K : rm_M → Prop} {s' : tx_S} (hN : 65540 ≤ N) (hT : rm_T n T M) (h0 : 0 < T.length) (h9 : M.1 9 = 0) (hR : tx_dsg T 0 tx_s0 = .inr ((), i', s')) (hK : ∀ M', rz_T n T M M' s' i' 0 → tx_ki T i' = 22 → K M') (hD : ∀ M', s'.1.1 ≠ 0 → rz_E M M' s'.1 → K M') : rp_dsg N K M := by
  have hl := hT.len
  have hn := hT.2.1
  have h := rz_T0 hT h0 h9
  have hends : tx_ends T := fun i hi h1 h2 => hT.end hi h1 h2
  unfold tx_dsg at hR
  obtain ⟨w1, i1, s1, hR1, hR⟩ := tx_and_r hR
  have hg0 := tx_gd.unt (e := (0, 0)) hends (f := 60) h0 (s := tx_s0) (fun y => absurd rfl y) _ _ _ hR1
  have k1 : tx_ki T 0 = 1 := by
    have hR1' := hR1
    unfold tx_unt at hR1'
    exact (tx_tka hR1').1
  unfold rp_dsg
  obtain ⟨N1, hN1⟩ : ∃ N1, N = N1 + 1 := ⟨N - 1, by omega⟩
  have key : rp_mds N K (N1 + 1) (rp_clr M) := by
    unfold rp_mds
    rw [if_pos h.2.2.2.2.2.2.1]
    refine h.kd (fun y hy => ?_)
    rw [if_neg (fun q => absurd ((rm_kq hy (c := 403) (a := 22) (by decide)).mp q) (by rw [k1]; decide))]
    refine h.unt hN (rz_ins hN) hR1 (fun M1 h3 ilt => ?_) (fun M1 e1 h3 => ?_)
    · exact rz_T.mds hN hK hD T.length N1 i1 s1 M1 (by omega) (by omega) h3 hR
    · have es : s'.1 = s1.1 := (tx_gd.dss (e := s1.1) hends T.length i1 s1 hg0.2.1 (fun _ => rfl) _ _ _ hR).2.2 e1
      obtain ⟨N2, rfl⟩ : ∃ N2, N1 = N2 + 1 := ⟨N1 - 1, by omega⟩
      unfold rp_mds
      rw [if_neg (by rw [h3.2.1]; exact h3.2.2.2)]
      rw [← es] at h3
      exact hD M1 (by rw [es]; exact e1) h3
  rw [← hN1] at key
  exact key
end RJU

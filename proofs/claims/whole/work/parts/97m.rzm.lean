/-! THE SECOND PASS: the whole design. -/
section RZM
variable {n N : Nat} {T : List tx_Tk} {s s1 : tx_S} {M0 M M' : rm_M} {u : tx_U} {lo li fa a fs b5 lk i i' p b I f c dp : Nat} {e v : Int32 × Int32}
theorem tx_and_rr {A B : Type} (x : A) (F : A → Nat → tx_S → tx_R B) : tx_R.and (.inr (x, i, s)) F = F x i s := rfl
theorem tx_unt_e (h : tx_bun (tx_ta T (i + 1)) s = tx_bun (tx_ta T (i + 1)) (e, s.2)) : tx_unt T f i s = tx_unt T f i (e, s.2) := by
  unfold tx_unt tx_tk
  by_cases z : tx_ki T i = 1
  · rw [if_pos z, if_pos z]
    show (if _ then _ else _ : tx_R tx_Tk).and _ = (if _ then _ else _ : tx_R tx_Tk).and _
    by_cases y : tx_ki T (i + 1) = 19
    · rw [if_pos y, if_pos y]
      rw [tx_and_rr, tx_and_rr, h]
    · rw [if_neg y, if_neg y]
  · rw [if_neg z, if_neg z]
theorem rz_D.pos' {K : rm_M → Prop} (hN : 0 < N) (h : rz_D M0 M e b) (hb : b < 65540) (hK : K M) : rp_pos K N M := by
  obtain ⟨N, rfl⟩ : ∃ N1, N = N1 + 1 := ⟨N - 1, by omega⟩
  unfold rp_pos
  refine h.is hb ?_
  refine h.is hb ?_
  rw [if_neg (by decide)]
  exact hK
/-- from the items on -/
theorem rz_L.unt2 {K : rm_M → Prop} {s' : tx_S} (hN : 65540 ≤ N) (hI : rz_SI n T N M0 p) (h : rz_L n T 0 M0 M s i p) (hR : ((tx_its T 60 T.length i s).and fun _ i s => (tx_tk T 2 i s).and fun _ i s => (.inr ((), i, tx_fun s) : tx_R Unit)) = .inr ((), i', s'))
    (hK : ∀ M', rz_T n T M0 M' s' i' p → i < i' → K M') (hD : ∀ M', s'.1.1 ≠ 0 → rz_E M0 M' s'.1 → K M') : rp_its N (rp_kD N K) N M := by
  have hl := h.len
  have hends := h.ends
  have hi := h.2.2.2.2.2.1
  obtain ⟨w1, i1, s1, hR1, hR⟩ := tx_and_r hR
  obtain ⟨k2, hR⟩ := tx_tka hR
  cases hR
  have hg := tx_gd.its (e := (0, 0)) hends (f := 60) T.length i s hi (fun y => absurd rfl y) _ _ _ hR1
  refine rz_L.its hN (Nat.le_refl _) hI (fun M1 h1 k2' => ?_) (fun M1 e1 h1 => ?_) T.length N i s M (by omega) (by omega) h hR1
  · show ∃ mc, M1.1 12 = nI mc ∧ mc < 3600 ∧ rp_drn (rp_kE K) N (M1.2.1 14 mc) M1
    refine h1.drn hN (fun e2 => ?_) (fun M2 e2 h2 => ?_)
    · have ef : tx_fun s1 = s1.fu := by
        unfold tx_fun
        rw [e2]
      obtain ⟨m1, m2⟩ := h1.m
      refine ⟨s1.2.1.length, m1, m2, hK _ ?_ (by omega)⟩
      rw [ef]
      exact h1.fu k2'
    · have ev : (tx_fun s1).1 = (s1.uu.2.2.1.foldl tx_fck s1).1 := rfl
      refine h2.kE (fun M3 h3 => hD M3 ?_ ?_)
      · rw [ev]; exact e2
      · rw [ev]; exact h3
  · have hfx : tx_fx s1.1 (tx_fun s1) := tx_fx.fun (fun _ => rfl)
    have es := hfx e1
    refine h1.kD (by omega) (fun M3 h3 => hD M3 (by rw [es]; exact e1) ?_)
    rw [es]
    exact h3
theorem rz_T.unt {K : rm_M → Prop} {s' : tx_S} (hN : 65540 ≤ N) (hI : rz_SI n T N M0 p) (h : rz_T n T M0 M s i p) (hR : tx_unt T 60 i s = .inr ((), i', s'))
    (hK : ∀ M', rz_T n T M0 M' s' i' p → i < i' → K M') (hD : ∀ M', s'.1.1 ≠ 0 → rz_E M0 M' s'.1 → K M') : rp_mod N K M := by
  have hl := h.2.1.len
  have hn := h.2.1.2.1
  have hends : tx_ends T := fun i hi h1 h2 => h.2.1.end hi h1 h2
  have hR0 := hR
  unfold tx_unt at hR0
  obtain ⟨k1, hR0⟩ := tx_tka hR0
  obtain ⟨k19, hR0⟩ := tx_tka hR0
  obtain ⟨f1, hf1, k40, hR0⟩ := tx_op_r hR0
  have hf1' : f1 = 59 := by omega
  subst hf1'
  have hm := fun (x : Nat) (X : List Int32) (hX : (tx_ta T x).2.2.2.1 = some X) => h.mo hX
  have hbu := h.bu
  have h0 := h
  obtain ⟨h1, h2, ⟨LO, LI, FS, FA, LK, h12, h18, h27, h35, h38, h31, b1, b2, b3, b4, b5, b6, hF, hu, hdf, hrw⟩, h10, h11, h12', h13, h14, h15⟩ := h0
  have l1 := hends i h12' (by rw [k1]; decide) (by rw [k1]; decide)
  have l2 := hends _ l1 (by rw [k19]; decide) (by rw [k19]; decide)
  have l3 := hends _ l2 (by rw [k40]; decide) (by rw [k40]; decide)
  have hT1 : rm_T n T (rp_i M 1) := ((rx_o.t M (M.1 8 + 1)).f (rx_f.rf M)).y.tt h2
  obtain ⟨X, hX⟩ := h2.nam l1 k19
  refine ⟨n, T, i + 1, s.2.1.length, hT1, by rw [h11, nI_1], l1, k19, h12, by omega, fun q _ hq => ?_, ?_⟩
  · have hv : s.2.1[q]? = some s.2.1[q] := List.getElem?_eq_getElem (by omega)
    obtain ⟨⟨y, y1, y2, y3, -⟩, -⟩ := hF q _ hv
    exact ⟨y, y1, y2, y3⟩
  refine ⟨i + 1, by show M.1 8 + 1 = _; rw [h11, nI_1], by omega, s.2.1.length, h12, by omega, ?_⟩
  have hb : (rp_i M 1).2.1 5 (i + 1) = nI (tx_ta T (i + 1)).2.1 := (hT1.tk.2.1 (i + 1) l1).2
  show rp_pos (fun M => rp_its N (rp_kD N K) N (rp_i M 2)) N (rp_i (rp_lset (rp_fst (rp_set (if (0 : Int32) ≤ rm_on (rm_sN T (M.2.1 13) (i + 1) 0 s.2.1.length) then rm_fail 20 ((rp_i M 1).2.1 5 (i + 1)) (rp_i M 1) else rp_i M 1) 13 s.2.1.length (M.1 8 + 1)) s.2.1.length) 45 s.2.1.length 0) 2)
  rcases hm (i + 1) X hX with ⟨a1, a2⟩ | ⟨j, a1, a2, a3⟩
  · rw [a1, if_neg (show ¬ (0 : Int32) ≤ rm_on none by decide)]
    have hmo : s.mo (tx_ta T (i + 1)).2.2.2.1 = none := by rw [hX]; exact a2
    have hL := hbu l3 k19 hmo
    have ebun : tx_bun (tx_ta T (i + 1)) s = s.bu (tx_ta T (i + 1)) := by
      unfold tx_bun
      rw [hmo]
      show (tx_ck true _ _ s).bu _ = _
      rw [tx_ck_true]
    rw [ebun] at hR0
    obtain ⟨w4, i4, s4, hR4, hR5⟩ := tx_and_r hR0
    obtain ⟨w5, i5, s5, hR6, hR7⟩ := tx_and_r hR5
    obtain ⟨k41, hR7⟩ := tx_tka hR7
    obtain ⟨k59, hR7⟩ := tx_tka hR7
    -- from the bracket's end on
    have hend : ∀ (M2 : rm_M), rz_L n T 2 M0 M2 s5 i5 p → i + 3 ≤ i5 → rp_its N (rp_kD N K) N (rp_i M2 2) := by
      intro M2 h5 hle
      have h6 := h5.i2 (by rw [k41]; decide) (by rw [k41]; decide) (by rw [k59]; decide) (by rw [k59]; decide)
      exact (h6.le (p' := p) (by omega)).p0.unt2 hN hI hR7 (fun M' q1 q2 => hK M' q1 (by omega)) hD
    by_cases z41 : tx_ki T (i + 1 + 1 + 1) = 41
    · rw [if_pos z41] at hR4
      cases hR4
      have e5 : i5 = i + 1 + 1 + 1 ∧ s5 = s.bu (tx_ta T (i + 1)) := by
        cases hT : T.length with
        | zero => omega
        | succ m =>
          rw [hT] at hR6
          unfold tx_pos at hR6
          rw [if_pos z41] at hR6
          cases hR6
          exact ⟨rfl, rfl⟩
      obtain ⟨e5, e6⟩ := e5
      subst e5 e6
      obtain ⟨N1, hN1⟩ : ∃ N1, N = N1 + 1 := ⟨N - 1, by omega⟩
      have hpos : ∀ (K' : rm_M → Prop) (Mx : rm_M), rz_L n T 2 M0 Mx (s.bu (tx_ta T (i + 1))) (i + 3) p → K' Mx → rp_pos K' (N1 + 1) Mx := by
        intro K' Mx hx hk
        unfold rp_pos
        refine hx.is (a := 3) (by decide) ?_
        refine hx.is (a := 4) (by decide) ?_
        rw [if_neg (by
          have : tx_ki T (i + 3) = 41 := z41
          rw [this]
          decide)]
        exact hk
      have := hpos (fun M => rp_its N (rp_kD N K) N (rp_i M 2)) _ hL (hend _ hL (Nat.le_refl _))
      rw [← hN1] at this
      exact this
    · rw [if_neg z41] at hR4
      have hk34 : tx_ki T (i + 3) = 3 ∨ tx_ki T (i + 3) = 4 := by
        have hR4' := hR4
        unfold tx_por at hR4'
        obtain ⟨w7, i7, s7, hR7', -⟩ := tx_and_r hR4'
        by_cases z3 : tx_ki T (i + 1 + 1 + 1) = 3
        · exact Or.inl z3
        · rw [if_neg z3] at hR7'
          exact Or.inr (tx_tka hR7').1
      have g4 := tx_gd.por (e := (0, 0)) hends (f := 59) l3 (s := s.bu (tx_ta T (i + 1))) (fun y => absurd rfl y) _ _ _ hR4
      have g6 := tx_gd.pos (e := (0, 0)) hends (f := 59) T.length i4 s4 g4.2.1 (fun y => absurd rfl y) _ _ _ hR6
      refine rz_L.pos (f := 59) (s' := s5) (i' := i5) (fun M2 h5 k41' => hend M2 h5 (by omega)) (fun M2 e5 h5 => ?_) T.length N (i + 3) (s.bu (tx_ta T (i + 1))) _ (by omega) (by omega) hL hk34 ?_
      · have hi5 := hends _ g6.2.1 (by rw [k41]; decide) (by rw [k41]; decide)
        have hi6 := hends _ hi5 (by rw [k59]; decide) (by rw [k59]; decide)
        have es : s'.1 = s5.1 := by
          obtain ⟨w8, i8, s8, hR8, hR9⟩ := tx_and_r hR7
          obtain ⟨k2, hR9⟩ := tx_tka hR9
          cases hR9
          have g8 := tx_gd.its (e := s5.1) hends (f := 60) T.length (i5 + 1 + 1) s5 hi6 (fun _ => rfl) _ _ _ hR8
          exact (tx_fx.fun g8.2.2) e5
        refine (h5.mv (d := 2) (x := 2) rfl).its' (by omega) (fun M3 h6 => hD M3 (by rw [es]; exact e5) ?_)
        rw [es]
        exact h6
      · rw [show (tx_por T 59 (i + 3) (s.bu (tx_ta T (i + 1)))) = .inr (w4, i4, s4) from hR4]
        show ((tx_pos T 59 T.length i4 s4).and fun _ i s => (tx_tk T 41 i s).and fun _ i s => .inr ((), i, s)) = _
        rw [hR6]
        show ((tx_tk T 41 i5 s5).and fun _ i s => (.inr ((), i, s) : tx_R Unit)) = _
        unfold tx_tk
        rw [if_pos k41]
        rfl
  · rw [a1, show rm_on (some j) = nI j from rfl, if_pos (nI_pos' (by omega)), hb]
    have hmo : (s.mo (tx_ta T (i + 1)).2.2.2.1).isNone = false := by
      rw [hX, a2]
      rfl
    have he : tx_bun (tx_ta T (i + 1)) s = tx_bun (tx_ta T (i + 1)) ((20, nI (tx_ta T (i + 1)).2.1), s.2) := by
      unfold tx_bun
      have : tx_S.mo ((20, nI (tx_ta T (i + 1)).2.1), s.2) (tx_ta T (i + 1)).2.2.2.1 = s.mo (tx_ta T (i + 1)).2.2.2.1 := rfl
      rw [this, hmo]
      unfold tx_ck
      rw [if_pos ⟨rfl, h14⟩, if_neg (fun y => absurd y.2 (show ¬ (20 : Int32) = 0 by decide))]
    rw [tx_unt_e he] at hR
    obtain ⟨g1, g2, g3⟩ := tx_gd.unt (e := (20, nI (tx_ta T (i + 1)).2.1)) hends (f := 60) h12' (s := ((20, nI (tx_ta T (i + 1)).2.1), s.2)) (fun _ => rfl) _ _ _ hR
    have es := g3 (show (20 : Int32) ≠ 0 by decide)
    have h9 : (rp_i M 1).1 9 = 0 := h13
    have hd : rz_D M0 (rp_i (rp_lset (rp_fst (rp_set (rm_fail 20 (nI (tx_ta T (i + 1)).2.1) (rp_i M 1)) 13 s.2.1.length (M.1 8 + 1)) s.2.1.length) 45 s.2.1.length 0) 2) (20, nI (tx_ta T (i + 1)).2.1) 15000 := by
      have ef : rm_fail 20 (nI (tx_ta T (i + 1)).2.1) (rp_i M 1) = (va_up (va_up (rp_i M 1).1 9 20) 10 (nI (tx_ta T (i + 1)).2.1), M.2) := if_pos h9
      rw [ef]
      refine ⟨h1.tr ⟨fun j hj => ?_, fun j hj => ?_⟩, rfl, rfl, (show (20 : Int32) ≠ 0 by decide), ⟨i + 3, by omega, ?_⟩, s.2.1.length, by omega, h12⟩
      · show va_up (va_up (va_up (va_up M.1 8 (M.1 8 + 1)) 9 20) 10 _) 8 _ j = _
        rw [va_up_ne _ _ (by omega), va_up_ne _ _ (by omega), va_up_ne _ _ (by omega), va_up_ne _ _ (by omega)]
      · show va_up (va_up (va_up (va_up (va_up M.2.1 13 _) 14 _) 15 _) 16 _) 17 _ j = _
        rw [va_up_ne _ _ (by omega), va_up_ne _ _ (by omega), va_up_ne _ _ (by omega), va_up_ne _ _ (by omega), va_up_ne _ _ (by omega)]
      · show M.1 8 + 1 + 2 = _
        rw [h11, nI_1]
        exact nI_add (i + 1) 2
    refine hd.pos' (by omega) (by omega) ?_
    refine (hd.mv (d := 2) (x := 2) rfl).its' (by omega) (fun M3 h6 => hD M3 (by rw [es]; exact (by decide : (20 : Int32) ≠ 0)) ?_)
    rw [es]
    exact h6
end RZM

/-! TOKENS: the chain of all of them. -/
theorem tx_at_n (n : Nat) (f : Nat → Int32) (p : Nat) : tx_at n f p = -1 ↔ n ≤ p := by
  unfold tx_at
  by_cases h : p < n
  · rw [if_pos h]
    refine ⟨fun q => ?_, fun q => by omega⟩
    obtain ⟨j, hj, e⟩ := pk_andE (f p) (m := 255) 8 (by decide)
    rw [e] at q
    exact absurd q (nI_ne1 (by omega))
  · rw [if_neg h]
    exact ⟨fun _ => by omega, fun _ => rfl⟩
theorem tx_on_of {c : Int32} (h : tx_dig c = true ∨ tx_let c = true ∨ c = 95) : tx_on c = true := by
  unfold tx_on
  rcases h with h | h | h
  · rw [h]; simp
  · rw [h]; simp
  · rw [h]; rfl
theorem tx_q1 {n p : Nat} {c : Nat → Int32} (hp : p < n) (h : tx_on (c p) = true) : p + 1 ≤ tx_q n c p ∧ tx_q n c p ≤ n := by
  unfold tx_q
  rw [tx_e_step tx_nP_n ⟨hp, h⟩]
  have := tx_e_le (P := tx_nP n c) tx_nP_n (p + 1)
  exact ⟨this.1, this.2 (by omega)⟩
theorem tx_pf1 (h : Int32) : tx_pf h (-1) 8 0 = false := by
  have e : ∀ i, i < 8 → decide ((-1 : Int32) = cx_ch 2 (2 * i + 1)) = false := by decide +kernel
  simp only [tx_pf, e 0 (by decide), e 1 (by decide), e 2 (by decide), e 3 (by decide), e 4 (by decide), e 5 (by decide), e 6 (by decide), e 7 (by decide), Bool.or_eq_false_iff, Bool.and_eq_false_iff]
  simp
/-- where a token ends -/
theorem tx_tokF {n p : Nat} {f : Nat → Int32} (hp : p ≤ n) : (tx_tok n (tx_at n f) p).2.1 ≤ (tx_tok n (tx_at n f) p).2.2.1 ∧ (tx_tok n (tx_at n f) p).2.2.1 ≤ n ∧ p ≤ (tx_tok n (tx_at n f) p).2.1 ∧ (¬ (tx_tok n (tx_at n f) p).1 = 22 → p + 1 ≤ (tx_tok n (tx_at n f) p).2.2.1 ∧ (tx_tok n (tx_at n f) p).2.1 = p) := by
  by_cases h0 : tx_at n f p = -1
  · have e : tx_tok n (tx_at n f) p = (22, n, n, none, 0, 0) := by unfold tx_tok; rw [if_pos h0]
    rw [e]
    exact ⟨Nat.le_refl _, Nat.le_refl _, hp, fun z => absurd rfl z⟩
  · have hpn : p < n := by
      rcases Nat.lt_or_ge p n with z | z
      · exact z
      · exact absurd ((tx_at_n n f p).mpr z) h0
    by_cases h1 : tx_dig (tx_at n f p) = true
    · have hq := tx_q1 (n := n) (c := tx_at n f) hpn (tx_on_of (Or.inl h1))
      by_cases h2 : tx_at n f (tx_q n (tx_at n f) p) = 39
      · have hqn : tx_q n (tx_at n f) p < n := tx_neg h2 (by decide)
        have hne : tx_q n (tx_at n f) p + 1 ≤ tx_ne n (tx_at n f) p ∧ tx_ne n (tx_at n f) p ≤ n := by
          unfold tx_ne
          rw [if_pos h2]
          have := tx_e_le (P := tx_nP n (tx_at n f)) tx_nP_n (tx_q n (tx_at n f) p + 1)
          exact ⟨this.1, this.2 (by omega)⟩
        have e : (tx_tok n (tx_at n f) p).2.1 = p ∧ (tx_tok n (tx_at n f) p).2.2.1 = tx_ne n (tx_at n f) p := by
          unfold tx_tok
          rw [if_neg h0, if_pos h1, if_pos h2]
          by_cases h3 : tx_sz (tx_at n f) p (tx_q n (tx_at n f) p - p) (tx_ne n (tx_at n f) p)
          · rw [if_pos h3]; exact ⟨rfl, rfl⟩
          · rw [if_neg h3]; exact ⟨rfl, rfl⟩
        rw [e.1, e.2]
        exact ⟨by omega, by omega, by omega, fun _ => ⟨by omega, rfl⟩⟩
      · have e : (tx_tok n (tx_at n f) p).2.1 = p ∧ (tx_tok n (tx_at n f) p).2.2.1 = tx_q n (tx_at n f) p := by
          unfold tx_tok
          rw [if_neg h0, if_pos h1, if_neg h2]
          exact ⟨rfl, rfl⟩
        rw [e.1, e.2]
        exact ⟨by omega, by omega, by omega, fun _ => ⟨by omega, rfl⟩⟩
    · by_cases h2 : tx_let (tx_at n f p) = true ∨ tx_at n f p = 95
      · have hq := tx_q1 (n := n) (c := tx_at n f) hpn (tx_on_of (Or.inr h2))
        have e : (tx_tok n (tx_at n f) p).2.1 = p ∧ (tx_tok n (tx_at n f) p).2.2.1 = tx_q n (tx_at n f) p := by
          unfold tx_tok
          rw [if_neg h0, if_neg h1, if_pos h2]
          exact ⟨rfl, rfl⟩
        rw [e.1, e.2]
        exact ⟨by omega, by omega, by omega, fun _ => ⟨by omega, rfl⟩⟩
      · have e : (tx_tok n (tx_at n f) p).2.1 = p ∧ (tx_tok n (tx_at n f) p).2.2.1 = p + tx_sgl (tx_at n f p) (tx_at n f (p + 1)) := by
          unfold tx_tok
          rw [if_neg h0, if_neg h1, if_neg h2]
          exact ⟨rfl, rfl⟩
        have hs : 1 ≤ tx_sgl (tx_at n f p) (tx_at n f (p + 1)) ∧ p + tx_sgl (tx_at n f p) (tx_at n f (p + 1)) ≤ n := by
          by_cases h3 : tx_pf (tx_at n f p) (tx_at n f (p + 1)) 8 0 = true
          · unfold tx_sgl
            rw [if_pos h3]
            refine ⟨by omega, ?_⟩
            rcases Nat.lt_or_ge (p + 1) n with z | z
            · omega
            · rw [(tx_at_n n f (p + 1)).mpr z, tx_pf1] at h3
              cases h3
          · unfold tx_sgl
            rw [if_neg h3]
            exact ⟨by omega, by omega⟩
        rw [e.1, e.2]
        exact ⟨by omega, by omega, by omega, fun _ => ⟨by omega, rfl⟩⟩
/-- all tokens from p on; the last is of kind 22 or 23 -/
noncomputable def tx_lx (n : Nat) (c : Nat → Int32) : Nat → Nat → List tx_Tk
  | 0, p => [tx_tok n c (tx_bl n c p)]
  | m + 1, p => if (tx_tok n c (tx_bl n c p)).1 = 22 ∨ (tx_tok n c (tx_bl n c p)).1 = 23 then [tx_tok n c (tx_bl n c p)] else tx_tok n c (tx_bl n c p) :: tx_lx n c m (tx_tok n c (tx_bl n c p)).2.2.1
noncomputable def tx_lex (n : Nat) (c : Nat → Int32) : List tx_Tk := tx_lx n c n 0
noncomputable def tx_rest (n : Nat) (c : Nat → Int32) (t : tx_Tk) : List tx_Tk := if t.1 = 22 ∨ t.1 = 23 then [] else tx_lx n c (n - t.2.2.1) t.2.2.1
theorem tx_tok22 {n p : Nat} {f : Nat → Int32} (h : n ≤ p) : (tx_tok n (tx_at n f) p).1 = 22 := by
  unfold tx_tok
  rw [if_pos ((tx_at_n n f p).mpr h)]
theorem tx_lx_f {n : Nat} {f : Nat → Int32} : ∀ m m' p, n - p ≤ m → n - p ≤ m' → p ≤ n → tx_lx n (tx_at n f) m p = tx_lx n (tx_at n f) m' p := by
  intro m
  induction m with
  | zero =>
    intro m' p h1 h2 h3
    have hb := tx_bl_le (f := f) h3
    cases m' with
    | zero => rfl
    | succ m' =>
      unfold tx_lx
      rw [if_pos (Or.inl (tx_tok22 (by omega)))]
  | succ m ih =>
    intro m' p h1 h2 h3
    have hb := tx_bl_le (f := f) h3
    have hF := tx_tokF (f := f) hb.2.1
    cases m' with
    | zero =>
      unfold tx_lx
      rw [if_pos (Or.inl (tx_tok22 (by omega)))]
    | succ m' =>
      unfold tx_lx
      by_cases h : (tx_tok n (tx_at n f) (tx_bl n (tx_at n f) p)).1 = 22 ∨ (tx_tok n (tx_at n f) (tx_bl n (tx_at n f) p)).1 = 23
      · rw [if_pos h, if_pos h]
      · rw [if_neg h, if_neg h]
        have h22 := hF.2.2.2 (fun z => h (Or.inl z))
        rw [ih m' _ (by omega) (by omega) (by omega)]
theorem tx_lx_r {n m p : Nat} {f : Nat → Int32} (h1 : n - p ≤ m) (h3 : p ≤ n) : tx_lx n (tx_at n f) m p = tx_tok n (tx_at n f) (tx_bl n (tx_at n f) p) :: tx_rest n (tx_at n f) (tx_tok n (tx_at n f) (tx_bl n (tx_at n f) p)) := by
  have hb := tx_bl_le (f := f) h3
  have hF := tx_tokF (f := f) hb.2.1
  unfold tx_rest
  by_cases h : (tx_tok n (tx_at n f) (tx_bl n (tx_at n f) p)).1 = 22 ∨ (tx_tok n (tx_at n f) (tx_bl n (tx_at n f) p)).1 = 23
  · rw [if_pos h]
    cases m with
    | zero => rfl
    | succ m => rw [tx_lx, if_pos h]
  · rw [if_neg h]
    have h22 := hF.2.2.2 (fun z => h (Or.inl z))
    cases m with
    | zero => exact absurd (tx_tok22 (by omega)) (fun z => h (Or.inl z))
    | succ m =>
      rw [tx_lx, if_neg h]
      rw [tx_lx_f m (n - (tx_tok n (tx_at n f) (tx_bl n (tx_at n f) p)).2.2.1) _ (by omega) (by omega) (by omega)]
/-- the tokens of L, each with its address and its word, stand as a chain -/
abbrev tx_Ls : Type := List (Nat × tx_Tk × Option Nat)
def tx_tc (G : cx_G) (L : tx_Ls) : Prop := (∀ (i : Nat) (x : Nat × tx_Tk × Option Nat), L[i]? = some x → tx_to G x.1 x.2.1 (L[i + 1]?.map (fun y => y.1)) x.2.2) ∧ ∀ (i j : Nat) (x y : Nat × tx_Tk × Option Nat), L[i]? = some x → L[j]? = some y → x.1 = y.1 → i = j
theorem tx_tc.snoc {G1 G2 : cx_G} {L0 : tx_Ls} {x : Nat × tx_Tk × Option Nat} {a : Nat} {t : tx_Tk} {w : Option Nat} (h : tx_tc G1 (L0 ++ [x])) (hk : ∀ b c fs, G1.1 b = some (.inr (c, fs)) → G2.1 b = some (.inr (c, fs))) (ha : G1.1 a = none) (ht : tx_to G2 a t none w) : tx_tc (cx_put G2 x.1 (.inr (7, [.int x.2.1.1, .int (nI x.2.1.2.1), .int (nI x.2.1.2.2.1), .ref a, va_rf x.2.2, .int x.2.1.2.2.2.2.1, .long x.2.1.2.2.2.2.2]))) (L0 ++ [x] ++ [(a, t, w)]) := by
  obtain ⟨h1, h2⟩ := h
  have hx : (L0 ++ [x])[L0.length]? = some x := by rw [List.getElem?_append_right (Nat.le_refl _), Nat.sub_self]; rfl
  have hll : (L0 ++ [x]).length = L0.length + 1 := by rw [List.length_append]; rfl
  have hxa : a ≠ x.1 := fun z => by
    have := h1 _ _ hx
    unfold tx_to at this
    rw [← z, ha] at this
    cases this
  have hlast : (L0 ++ [x] ++ [(a, t, w)])[L0.length + 1]? = some (a, t, w) := by rw [List.getElem?_append_right (by omega), hll, Nat.sub_self]; rfl
  refine ⟨fun i y hy => ?_, fun i j y z hy hz e => ?_⟩
  · rcases Nat.lt_trichotomy i (L0.length + 1) with q | q | q
    · rw [List.getElem?_append_left (by omega)] at hy
      by_cases hi : i = L0.length
      · subst hi
        rw [hx] at hy
        cases hy
        rw [hlast]
        exact cx_ps rfl
      · have hy1 := h1 _ _ hy
        rw [List.getElem?_append_left (by omega)]
        exact cx_pn rfl (hk _ _ _ hy1) (fun z => hi (h2 _ _ _ _ hy hx z))
    · subst q
      rw [hlast] at hy
      cases hy
      rw [List.getElem?_eq_none (by rw [List.length_append, hll]; show L0.length + 1 + 1 ≤ _; omega)]
      exact cx_pn rfl ht hxa
    · rw [List.getElem?_eq_none (by rw [List.length_append, hll]; show L0.length + 1 + 1 ≤ _; omega)] at hy
      cases hy
  · have hin : ∀ i y, (L0 ++ [x] ++ [(a, t, w)])[i]? = some y → (i < L0.length + 1 ∧ (L0 ++ [x])[i]? = some y) ∨ (i = L0.length + 1 ∧ y = (a, t, w)) := by
      intro i y hy
      rcases Nat.lt_trichotomy i (L0.length + 1) with q | q | q
      · rw [List.getElem?_append_left (by omega)] at hy
        exact Or.inl ⟨q, hy⟩
      · subst q
        rw [hlast] at hy
        cases hy
        exact Or.inr ⟨rfl, rfl⟩
      · rw [List.getElem?_eq_none (by rw [List.length_append, hll]; show L0.length + 1 + 1 ≤ _; omega)] at hy
        cases hy
    rcases hin i y hy with ⟨q1, q2⟩ | ⟨q1, q2⟩ <;> rcases hin j z hz with ⟨q3, q4⟩ | ⟨q3, q4⟩
    · exact h2 _ _ _ _ q2 q4 e
    · exfalso
      have := h1 _ _ q2
      unfold tx_to at this
      rw [e, q4, ha] at this
      cases this
    · exfalso
      have := h1 _ _ q4
      unfold tx_to at this
      rw [← e, q2, ha] at this
      cases this
    · omega
set_option maxRecDepth 100000 in
theorem c_Lx_tokenAt {k : cx_K} {l : Launch} {G : cx_G} {lx ta wa ca n p : Nat} {f : Nat → Int32} {C : tx_Cn} (hL : tx_L k G lx ta wa n f) (hW : tx_W k G wa ca C) (hO : tx_kO C) (hpn : p ≤ n) (hn : n ≤ 65536) (r1 : G.2.1 + 3 ≤ 601024) (r2 : G.2.2 + 14 + n ≤ 7293034) (hN0 : ∀ t, G.1 t = none → k.2.2.2.2.2.2 t) : cx_Sp k l m_Lx_tokenAt 5 [.ref lx, .int (nI p)] G (tx_tp k G wa ca C (tx_tok n (tx_at n f) p)) := by
  intro E hE
  have hT : tx_T k G ta n f := id hL.2
  obtain ⟨hl, b, cap, h1, h2, h3, h4, hf⟩ := id hL
  refine cx_aload_n (i := 0) hE d_Lx_tokenAt_0 rfl rfl ?_
  refine cx_get hE d_Lx_tokenAt_1 f_Lx_18 (by assumption) (by rfl) ?_
  refine cx_iload_n (i := 1) hE d_Lx_tokenAt_4 rfl rfl ?_
  refine cx_invV1 hE d_Lx_tokenAt_5 l_Lx_47 (by assumption) (c_Ta_byteAt (p := p) hT (by omega)) rfl (by omega) (Nat.le_of_ble_eq_true rfl) n_Ta_byteAt (by first | rfl | (simp only [List.map_cons, List.map_nil, cx_rfc]; rfl)) ?_
  refine cx_istore_n (i := 2) hE d_Lx_tokenAt_8 rfl (by decide) ?_
  refine cx_iload_n (i := 2) hE d_Lx_tokenAt_9 rfl rfl ?_
  refine cx_iconst (v := -1) hE d_Lx_tokenAt_10 (by decide) ?_
  refine cx_icmp_ne (tgt := 38)  hE d_Lx_tokenAt_11 (by decide) (fun c_11 => ?_) (fun c_11 => ?_)
  · have q_p : p < n := by
      rcases Nat.lt_or_ge p n with z | z
      · exact z
      · exact absurd ((tx_at_n n f p).mpr z) c_11
    refine cx_iload_n (i := 2) hE d_Lx_tokenAt_38 rfl rfl ?_
    refine cx_invS1 hE d_Lx_tokenAt_39 l_Lx_64 (c_Lx_isDigit _) rfl (by omega) (Nat.le_of_ble_eq_true rfl) n_Lx_isDigit (by first | rfl | (simp only [List.map_cons, List.map_nil, cx_rfc]; rfl)) ?_
    refine cx_if_eq (tgt := 51)  hE d_Lx_tokenAt_42 (by decide) (fun c_42 => ?_) (fun c_42 => ?_)
    · have q_42 : ¬ tx_dig (tx_at n f p) = true := by
        have z : tx_dig (tx_at n f p) = false := cx_b0.mp (by simpa using c_42)
        rw [z]; decide
      refine cx_iload_n (i := 2) hE d_Lx_tokenAt_51 rfl rfl ?_
      refine cx_invS1 hE d_Lx_tokenAt_52 l_Lx_71 (c_Lx_isLetter _) rfl (by omega) (Nat.le_of_ble_eq_true rfl) n_Lx_isLetter (by first | rfl | (simp only [List.map_cons, List.map_nil, cx_rfc]; rfl)) ?_
      refine cx_if_ne (tgt := 64)  hE d_Lx_tokenAt_55 (by decide) (fun c_55 => ?_) (fun c_55 => ?_)
      · have q_w : tx_let (tx_at n f p) = true ∨ tx_at n f p = 95 := Or.inl (cx_bn.mp c_55)
        refine cx_aload_n (i := 0) hE d_Lx_tokenAt_64 rfl rfl ?_
        refine cx_iload_n (i := 1) hE d_Lx_tokenAt_65 rfl rfl ?_
        refine cx_invV (Post' := tx_tp k G wa ca C (tx_tok n (tx_at n f) p)) hE d_Lx_tokenAt_66 l_Lx_74 (by assumption) ((c_Lx_word (p := p) hL hW hO (by omega) hn (by omega) (by omega) hN0).weaken (fun r G' h => by
          unfold tx_tok
          rw [if_neg c_11, if_neg q_42, if_pos q_w]
          exact h)) rfl (by omega) (Nat.le_of_ble_eq_true rfl) n_Lx_word (by rfl) (fun v G1 q => ?_) (fun a G1 q => by obtain ⟨_, _, _, q, _⟩ := q; cases q)
        obtain ⟨x, hx⟩ : ∃ x, v = some (.ref x) := by
          obtain ⟨a, _, _, q, _⟩ := q
          exact ⟨a, Sum.inl.inj q⟩
        subst hx
        show cx_V E _ _ [.ref x] G1
        refine cx_goto (tgt := 77) hE d_Lx_tokenAt_69 (by decide) ?_
        refine cx_aret (r := some x) hE d_Lx_tokenAt_77 rfl (by first | exact Or.inl ⟨_, rfl⟩ | exact Or.inr ⟨_, rfl⟩) ?_
        exact q
      · refine cx_iload_n (i := 2) hE d_Lx_tokenAt_58 rfl rfl ?_
        refine cx_bipush (v := 95) hE d_Lx_tokenAt_59 (by decide) ?_
        refine cx_icmp_ne (tgt := 72)  hE d_Lx_tokenAt_61 (by decide) (fun c_61 => ?_) (fun c_61 => ?_)
        · have q_w : ¬ (tx_let (tx_at n f p) = true ∨ tx_at n f p = 95) := fun z => by
            rcases z with z | z
            · have z2 : tx_let (tx_at n f p) = false := cx_b0.mp (by simpa using c_55)
              rw [z2] at z; cases z
            · exact c_61 z
          refine cx_aload_n (i := 0) hE d_Lx_tokenAt_72 rfl rfl ?_
          refine cx_iload_n (i := 1) hE d_Lx_tokenAt_73 rfl rfl ?_
          refine cx_invV (Post' := tx_tp k G wa ca C (tx_tok n (tx_at n f) p)) hE d_Lx_tokenAt_74 l_Lx_77 (by assumption) ((c_Lx_sign (p := p) hL (by omega) (by omega) (by omega)).weaken (fun r G' h => by
            unfold tx_tok
            rw [if_neg c_11, if_neg q_42, if_neg q_w]
            exact h.tp hW hO)) rfl (by omega) (Nat.le_of_ble_eq_true rfl) n_Lx_sign (by rfl) (fun v G1 q => ?_) (fun a G1 q => by obtain ⟨_, _, _, q, _⟩ := q; cases q)
          obtain ⟨x, hx⟩ : ∃ x, v = some (.ref x) := by
            obtain ⟨a, _, _, q, _⟩ := q
            exact ⟨a, Sum.inl.inj q⟩
          subst hx
          show cx_V E _ _ [.ref x] G1
          refine cx_aret (r := some x) hE d_Lx_tokenAt_77 rfl (by first | exact Or.inl ⟨_, rfl⟩ | exact Or.inr ⟨_, rfl⟩) ?_
          exact q
        · have q_w : tx_let (tx_at n f p) = true ∨ tx_at n f p = 95 := Or.inr c_61
          refine cx_aload_n (i := 0) hE d_Lx_tokenAt_64 rfl rfl ?_
          refine cx_iload_n (i := 1) hE d_Lx_tokenAt_65 rfl rfl ?_
          refine cx_invV (Post' := tx_tp k G wa ca C (tx_tok n (tx_at n f) p)) hE d_Lx_tokenAt_66 l_Lx_74 (by assumption) ((c_Lx_word (p := p) hL hW hO (by omega) hn (by omega) (by omega) hN0).weaken (fun r G' h => by
            unfold tx_tok
            rw [if_neg c_11, if_neg q_42, if_pos q_w]
            exact h)) rfl (by omega) (Nat.le_of_ble_eq_true rfl) n_Lx_word (by rfl) (fun v G1 q => ?_) (fun a G1 q => by obtain ⟨_, _, _, q, _⟩ := q; cases q)
          obtain ⟨x, hx⟩ : ∃ x, v = some (.ref x) := by
            obtain ⟨a, _, _, q, _⟩ := q
            exact ⟨a, Sum.inl.inj q⟩
          subst hx
          show cx_V E _ _ [.ref x] G1
          refine cx_goto (tgt := 77) hE d_Lx_tokenAt_69 (by decide) ?_
          refine cx_aret (r := some x) hE d_Lx_tokenAt_77 rfl (by first | exact Or.inl ⟨_, rfl⟩ | exact Or.inr ⟨_, rfl⟩) ?_
          exact q
    · have q_42 := cx_bn.mp c_42
      refine cx_aload_n (i := 0) hE d_Lx_tokenAt_45 rfl rfl ?_
      refine cx_iload_n (i := 1) hE d_Lx_tokenAt_46 rfl rfl ?_
      refine cx_invV (Post' := tx_tp k G wa ca C (tx_tok n (tx_at n f) p)) hE d_Lx_tokenAt_47 l_Lx_68 (by assumption) ((c_Lx_number (p := p) hL (by omega) (by omega) (by omega)).weaken (fun r G' h => by
        unfold tx_tok
        rw [if_neg c_11, if_pos q_42]
        by_cases h2 : tx_at n f (tx_q n (tx_at n f) p) = 39
        · rw [if_pos h2]
          by_cases h3 : tx_sz (tx_at n f) p (tx_q n (tx_at n f) p - p) (tx_ne n (tx_at n f) p)
          · rw [if_pos h3]
            exact ((h.1 h2).1 h3).tp hW hO
          · rw [if_neg h3]
            exact ((h.1 h2).2 h3).tp hW hO
        · rw [if_neg h2]
          exact (h.2 h2).tp hW hO)) rfl (by omega) (Nat.le_of_ble_eq_true rfl) n_Lx_number (by rfl) (fun v G1 q => ?_) (fun a G1 q => by obtain ⟨_, _, _, q, _⟩ := q; cases q)
      obtain ⟨x, hx⟩ : ∃ x, v = some (.ref x) := by
        obtain ⟨a, _, _, q, _⟩ := q
        exact ⟨a, Sum.inl.inj q⟩
      subst hx
      show cx_V E _ _ [.ref x] G1
      refine cx_aret (r := some x) hE d_Lx_tokenAt_50 rfl (by first | exact Or.inl ⟨_, rfl⟩ | exact Or.inr ⟨_, rfl⟩) ?_
      exact q
  · refine cx_newh 7 rfl hE d_Lx_tokenAt_14 z_Lx_32 (by omega) (by omega) (fun a_14 G_14 n_14 b_14 g_14 h_14 => ?_)
    have hl14 := cx_mn g_14 n_14 hl
    have h114 := cx_mn g_14 n_14 h1
    refine cx_dup hE d_Lx_tokenAt_17 ?_
    refine cx_bipush (v := 22) hE d_Lx_tokenAt_18 (by decide) ?_
    refine cx_aload_n (i := 0) hE d_Lx_tokenAt_20 rfl rfl ?_
    refine cx_get hE d_Lx_tokenAt_21 f_Lx_18 (by assumption) (by rfl) ?_
    refine cx_get hE d_Lx_tokenAt_24 f_Lx_58 (by assumption) (by rfl) ?_
    refine cx_aload_n (i := 0) hE d_Lx_tokenAt_27 rfl rfl ?_
    refine cx_get hE d_Lx_tokenAt_28 f_Lx_18 (by assumption) (by rfl) ?_
    refine cx_get hE d_Lx_tokenAt_31 f_Lx_58 (by assumption) (by rfl) ?_
    refine cx_invI0 hE d_Lx_tokenAt_34 l_Lx_61 (c_To_init h_14) rfl (by omega) (Nat.le_of_ble_eq_true rfl) n_To_init (by first | rfl | (simp only [List.map_cons, List.map_nil, cx_rfc]; rfl)) ?_
    refine cx_gen (fun G_34 g_34 => ?_)
    refine cx_aret (r := some a_14) hE d_Lx_tokenAt_37 rfl (by first | exact Or.inl ⟨_, rfl⟩ | exact Or.inr ⟨_, rfl⟩) ?_
    have e0 : tx_tok n (tx_at n f) p = (22, n, n, none, 0, 0) := by unfold tx_tok; rw [if_pos c_11]
    rw [e0]
    subst g_34 g_14
    rw [cx_mp]
    exact (tx_newof n_14 rfl).tp hW hO

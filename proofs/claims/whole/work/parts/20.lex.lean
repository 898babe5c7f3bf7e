/-! TOKENS: the lexer as a whole. -/
def tx_lp (k : cx_K) (G : cx_G) (wa ca n : Nat) (C : tx_Cn) (c : Nat → Int32) : cx_R → cx_G → Prop := fun r G' => ∃ (L : tx_Ls) (C' : tx_Cn) (a : Nat), r = .inl (some (.ref a)) ∧ (L[0]?).map (fun y => y.1) = some a ∧ L.map (fun y => y.2.1) = tx_lex n c ∧ tx_tc G' L ∧ (∀ y ∈ L, tx_wl C' y.2.1 y.2.2 ∧ G.1 y.1 = none) ∧ tx_W k G' wa ca C' ∧ tx_kO C' ∧ tx_nw G C C' ∧ tx_x ca G G' ∧ L.length ≤ n + 1 ∧ G'.2.1 ≤ G.2.1 + 3 * (n + 1) ∧ G'.2.2 ≤ G.2.2 + 14 * (n + 1) + n
theorem tx_tc.one {G : cx_G} {a : Nat} {t : tx_Tk} {w : Option Nat} (h : tx_to G a t none w) : tx_tc G [(a, t, w)] := by
  refine ⟨fun i x hx => ?_, fun i j x y hx hy _ => ?_⟩
  · cases i with
    | zero =>
      cases hx
      exact h
    | succ i =>
      rw [List.getElem?_eq_none (by show 1 ≤ i + 1; omega)] at hx
      cases hx
  · have e : ∀ i (x : Nat × tx_Tk × Option Nat), [(a, t, w)][i]? = some x → i = 0 := by
      intro i x hx
      cases i with
      | zero => rfl
      | succ i =>
        rw [List.getElem?_eq_none (by show 1 ≤ i + 1; omega)] at hx
        cases hx
    rw [e i x hx, e j y hy]
theorem tx_tc.last {G : cx_G} {L0 : tx_Ls} {x : Nat × tx_Tk × Option Nat} (h : tx_tc G (L0 ++ [x])) : tx_to G x.1 x.2.1 none x.2.2 := by
  have hx : (L0 ++ [x])[L0.length]? = some x := by rw [List.getElem?_append_right (Nat.le_refl _), Nat.sub_self]; rfl
  have := h.1 _ _ hx
  rw [List.getElem?_eq_none (by rw [List.length_append]; show L0.length + 1 ≤ _; omega)] at this
  exact this
theorem tx_cn.to {k : cx_K} {G : cx_G} {a : Nat} {fs fs' : List Value} (ha : G.1 a = some (.inr (7, fs))) : ∀ (xs : List (Nat × List Int32 × Int32)) (r : Option Nat), tx_cn k G r xs → tx_cn k (cx_put G a (.inr (7, fs'))) r xs
  | [], _, q => q
  | x :: xs, _, ⟨q1, q2, nx, ⟨tb, q3, g, q5, q6⟩, q4⟩ => ⟨q1, q2, nx, ⟨tb, cx_pn rfl q3 (cx_neO ha q3 (by decide)), g, cx_pn rfl q5 (cx_neB ha q5), q6⟩, tx_cn.to ha xs nx q4⟩
theorem tx_W.to {k : cx_K} {G : cx_G} {wa ca a : Nat} {C : tx_Cn} {fs fs' : List Value} (h : tx_W k G wa ca C) (ha : G.1 a = some (.inr (7, fs))) : tx_W k (cx_put G a (.inr (7, fs'))) wa ca C := by
  obtain ⟨h1, g, h2, h3⟩ := h
  exact ⟨cx_pn rfl h1 (cx_neO ha h1 (by decide)), g, cx_pn rfl h2 (cx_neB ha h2), fun i hi => (h3 i hi).to ha⟩
set_option maxRecDepth 100000 in
theorem c_Lx_tokens {k : cx_K} {l : Launch} {G : cx_G} {lx ta wa ca n : Nat} {f : Nat → Int32} {C : tx_Cn} (hL : tx_L k G lx ta wa n f) (hW : tx_W k G wa ca C) (hO : tx_kO C) (hn : n ≤ 65536) (r1 : G.2.1 + 3 * (n + 1) ≤ 601024) (r2 : G.2.2 + 16 * (n + 1) + 14 ≤ 7293034) (hN0 : ∀ t, G.1 t = none → k.2.2.2.2.2.2 t) : cx_Sp k l m_Lx_tokens 6 [.ref lx] G (tx_lp k G wa ca n C (tx_at n f)) := by
  intro E hE
  have hT : tx_T k G ta n f := id hL.2
  obtain ⟨hl, b, cap, h1, h2, h3, h4, hf⟩ := id hL
  have hloop : ∀ (fst d : Nat) (L0 : tx_Ls) (x : Nat × tx_Tk × Option Nat) (G1 : cx_G) (C1 : tx_Cn), n + 1 - L0.length = d → tx_tc G1 (L0 ++ [x]) → ((L0 ++ [x])[0]?).map (fun y => y.1) = some fst → (∀ y ∈ L0 ++ [x], tx_wl C1 y.2.1 y.2.2 ∧ G.1 y.1 = none) → tx_W k G1 wa ca C1 → tx_kO C1 ∧ tx_nw G C C1 → tx_x ca G G1 → (L0 ++ [x]).map (fun y => y.2.1) ++ tx_rest n (tx_at n f) x.2.1 = tx_lex n (tx_at n f) → x.2.1.2.2.1 ≤ n → L0.length ≤ x.2.1.2.2.1 → (¬ x.2.1.1 = 22 → L0.length + 1 ≤ x.2.1.2.2.1) → G1.2.1 ≤ G.2.1 + 3 * (L0.length + 1) → G1.2.2 ≤ G.2.2 + 14 * (L0.length + 1) + x.2.1.2.2.1 → cx_V E 14 [(3, false, .int (nI L0.length)), (2, false, .ref x.1), (1, false, .ref fst), (0, false, .ref lx)] [] G1 := by
    intro fst d
    induction d using Nat.strongRecOn with
    | ind d ih =>
      intro L0 x G1 C1 hd hc hh hw hW1 hO1 hX hr hb hl1 hl2 hc1 hc2
      have hx1 : G1.1 x.1 = some (.inr (7, [.int x.2.1.1, .int (nI x.2.1.2.1), .int (nI x.2.1.2.2.1), .null, va_rf x.2.2, .int x.2.1.2.2.2.2.1, .long x.2.1.2.2.2.2.2])) := hc.last
      have hL1 := hL.x hX
      have hl1x := hL1.1
      have hnoG : ∀ y, G1.1 y = none → G.1 y = none := by
        intro y hy
        cases hG0 : G.1 y with
        | none => rfl
        | some e =>
          by_cases z : y = ca
          · obtain ⟨-, g, z1, -⟩ := hW1
            rw [← z, hy] at z1
            cases z1
          · have z2 := hX.2 _ _ z hG0
            rw [hy] at z2
            cases z2
      have hend : x.2.1.1 = 22 ∨ x.2.1.1 = 23 → tx_lp k G wa ca n C (tx_at n f) (.inl (some (.ref fst))) G1 := by
        intro hz
        refine ⟨L0 ++ [x], C1, fst, rfl, hh, ?_, hc, hw, hW1, hO1.1, hO1.2, hX, ?_, by omega, by omega⟩
        · rw [← hr, tx_rest, if_pos hz, List.append_nil]
        · rw [List.length_append]; show L0.length + 1 ≤ _; omega
      refine cx_iload_n (i := 3) hE d_Lx_tokens_14 rfl rfl ?_
      refine cx_ldc (v := 65536) hE d_Lx_tokens_15 (in_2 (List.mem_of_getElem? (i := 125) rfl)) ?_
      refine cx_icmp_gt (tgt := 67)  hE d_Lx_tokens_17 (by decide) (fun c_17 => ?_) (fun c_17 => ?_)
      · exact absurd c_17 (nI_nlt (a := 65536) (b := L0.length) (by omega) (by omega))
        -- end
      · refine cx_aload_n (i := 2) hE d_Lx_tokens_20 rfl rfl ?_
        refine cx_get hE d_Lx_tokens_21 f_Lx_31 (by assumption) (by rfl) ?_
        refine cx_bipush (v := 22) hE d_Lx_tokens_24 (by decide) ?_
        refine cx_icmp_eq (tgt := 67)  hE d_Lx_tokens_26 (by decide) (fun c_26 => ?_) (fun c_26 => ?_)
        · refine cx_aload_n (i := 1) hE d_Lx_tokens_67 rfl rfl ?_
          refine cx_aret (r := some fst) hE d_Lx_tokens_68 rfl (by first | exact Or.inl ⟨_, rfl⟩ | exact Or.inr ⟨_, rfl⟩) ?_
          first | exact hend (Or.inl c_26) | exact hend (Or.inr c_35)
        · refine cx_aload_n (i := 2) hE d_Lx_tokens_29 rfl rfl ?_
          refine cx_get hE d_Lx_tokens_30 f_Lx_31 (by assumption) (by rfl) ?_
          refine cx_bipush (v := 23) hE d_Lx_tokens_33 (by decide) ?_
          refine cx_icmp_eq (tgt := 67)  hE d_Lx_tokens_35 (by decide) (fun c_35 => ?_) (fun c_35 => ?_)
          · refine cx_aload_n (i := 1) hE d_Lx_tokens_67 rfl rfl ?_
            refine cx_aret (r := some fst) hE d_Lx_tokens_68 rfl (by first | exact Or.inl ⟨_, rfl⟩ | exact Or.inr ⟨_, rfl⟩) ?_
            first | exact hend (Or.inl c_26) | exact hend (Or.inr c_35)
          · have q_k : ¬ (x.2.1.1 = 22 ∨ x.2.1.1 = 23) := fun z => z.elim c_26 c_35
            have q_l := hl2 c_26
            refine cx_aload_n (i := 0) hE d_Lx_tokens_38 rfl rfl ?_
            refine cx_aload_n (i := 0) hE d_Lx_tokens_39 rfl rfl ?_
            refine cx_aload_n (i := 2) hE d_Lx_tokens_40 rfl rfl ?_
            refine cx_get hE d_Lx_tokens_41 f_Lx_37 (by assumption) (by rfl) ?_
            refine cx_invV1 hE d_Lx_tokens_44 l_Lx_22 (by assumption) (c_Lx_behindBlanks (p := x.2.1.2.2.1) hL1 hb hn) rfl (by omega) (Nat.le_of_ble_eq_true rfl) n_Lx_behindBlanks (by first | rfl | (simp only [List.map_cons, List.map_nil, cx_rfc]; rfl)) ?_
            have hp9 := tx_bl_le (f := f) hb
            refine cx_invV (Post' := tx_tp k G1 wa ca C1 (tx_tok n (tx_at n f) (tx_bl n (tx_at n f) x.2.1.2.2.1))) hE d_Lx_tokens_47 l_Lx_26 (by assumption) (c_Lx_tokenAt hL1 hW1 hO1.1 hp9.2.1 hn (by omega) (by omega) (fun t ht => hN0 t (hnoG t ht))) rfl (by omega) (Nat.le_of_ble_eq_true rfl) n_Lx_tokenAt (by rfl) (fun v G2 q => ?_) (fun a G2 q => by obtain ⟨_, _, _, q, _⟩ := q; cases q)
            obtain ⟨a, w, C2, q0, q1, q2, q3, q4, q5, q6, q7, q8, q9⟩ := q
            cases q0
            have hF := tx_tokF (f := f) hp9.2.1
            have hlr := tx_lx_r (n := n) (f := f) (m := n - x.2.1.2.2.1) (p := x.2.1.2.2.1) (by omega) (by omega)
            show cx_V E _ _ [.ref a] G2
            have hx2 : G2.1 x.1 = some (.inr (7, [.int x.2.1.1, .int (nI x.2.1.2.1), .int (nI x.2.1.2.2.1), .null, va_rf x.2.2, .int x.2.1.2.2.2.2.1, .long x.2.1.2.2.2.2.2])) := q2.o hx1
            refine cx_astore hE d_Lx_tokens_50 (by decide) ?_
            refine cx_aload_n (i := 2) hE d_Lx_tokens_52 rfl rfl ?_
            refine cx_aload hE d_Lx_tokens_53 rfl ?_
            refine cx_putg hE d_Lx_tokens_55 f_Lx_40 (by assumption) (Nat.le_of_ble_eq_true rfl) (by first | rfl | exact cx_nr _ _) (by first | rfl | exact cx_fr _ _) (fun G_55 g_55 h_55 => ?_)
            refine cx_aload hE d_Lx_tokens_58 rfl ?_
            refine cx_astore_n (i := 2) hE d_Lx_tokens_60 rfl (by decide) ?_
            refine cx_iinc (v := nI (L0.length + 1)) hE d_Lx_tokens_61 rfl (nI_1 _) (by decide) ?_
            refine cx_goto (tgt := 14) hE d_Lx_tokens_64 (by decide) ?_
            refine cx_sub [0, 1, 3, 4] rfl ?_
            show cx_V E 14 [(3, false, .int (nI (L0.length + 1))), (2, false, .ref a), (1, false, .ref fst), (0, false, .ref lx)] [] G_55
            have hll : (L0 ++ [x]).length = L0.length + 1 := by rw [List.length_append]; rfl
            rw [← hll]
            refine ih (n + 1 - (L0.length + 1)) (by omega) (L0 ++ [x]) (a, tx_tok n (tx_at n f) (tx_bl n (tx_at n f) x.2.1.2.2.1), w) G_55 C2 (by rw [List.length_append]; rfl) ?_ ?_ ?_ ?_ ⟨q4, fun T9 x9 z9 => (q5.2 T9 x9 z9).elim (hO1.2 T9 x9) (fun z8 => Or.inr (hnoG _ z8))⟩ ?_ ?_ hF.2.1 ?_ ?_ ?_ ?_
            · subst g_55
              exact hc.snoc (fun b c fs z => q2.o z) q1 q6
            · rw [← hh, List.getElem?_append_left (by rw [List.length_append]; show 0 < L0.length + 1; omega)]
            · intro y hy
              rcases List.mem_append.mp hy with z | z
              · exact ⟨(hw y z).1.le q5.1, (hw y z).2⟩
              · have e := List.mem_singleton.mp z
                subst e
                refine ⟨q7, ?_⟩
                cases hG0 : G.1 a with
                | none => rfl
                | some e =>
                  by_cases z : a = ca
                  · obtain ⟨-, g, z1, -⟩ := hW1
                    rw [← z, q1] at z1
                    cases z1
                  · have z2 := hX.2 _ _ z hG0
                    rw [q1] at z2
                    cases z2
            · subst g_55
              exact tx_W.to q3 hx2
            · refine ⟨hX.1, fun b e z1 z2 => ?_⟩
              refine cx_pn g_55 (q2.2 _ _ z1 (hX.2 _ _ z1 z2)) (fun z => ?_)
              rw [z, (hw x (List.mem_append_right _ (List.mem_singleton.mpr rfl))).2] at z2
              cases z2
            · have e9 : tx_rest n (tx_at n f) x.2.1 = _ := (show tx_rest n (tx_at n f) x.2.1 = tx_lx n (tx_at n f) (n - x.2.1.2.2.1) x.2.1.2.2.1 from if_neg q_k).trans hlr
              rw [List.map_append, ← hr, List.append_assoc, e9]
              rfl
            · show (L0 ++ [x]).length ≤ (tx_tok n (tx_at n f) (tx_bl n (tx_at n f) x.2.1.2.2.1)).2.2.1
              rw [hll]
              omega
            · intro z
              show (L0 ++ [x]).length + 1 ≤ (tx_tok n (tx_at n f) (tx_bl n (tx_at n f) x.2.1.2.2.1)).2.2.1
              rw [hll]
              have := hF.2.2.2 z
              omega
            · subst g_55
              show G2.2.1 ≤ G.2.1 + 3 * ((L0 ++ [x]).length + 1)
              rw [List.length_append]
              show G2.2.1 ≤ G.2.1 + 3 * (L0.length + 1 + 1)
              omega
            · subst g_55
              show G2.2.2 ≤ G.2.2 + 14 * ((L0 ++ [x]).length + 1) + (tx_tok n (tx_at n f) (tx_bl n (tx_at n f) x.2.1.2.2.1)).2.2.1
              rw [List.length_append]
              show G2.2.2 ≤ G.2.2 + 14 * (L0.length + 1 + 1) + _
              have := hF.2.2.1
              have := hF.1
              omega
  refine cx_aload_n (i := 0) hE d_Lx_tokens_0 rfl rfl ?_
  refine cx_aload_n (i := 0) hE d_Lx_tokens_1 rfl rfl ?_
  refine cx_iconst (v := 0) hE d_Lx_tokens_2 (by decide) ?_
  refine cx_invV1 hE d_Lx_tokens_3 l_Lx_22 (by assumption) (c_Lx_behindBlanks (p := 0) hL (Nat.zero_le _) hn) rfl (by omega) (Nat.le_of_ble_eq_true rfl) n_Lx_behindBlanks (by first | rfl | (simp only [List.map_cons, List.map_nil, cx_rfc]; rfl)) ?_
  have hp9 := tx_bl_le (n := n) (f := f) (p := 0) (Nat.zero_le _)
  refine cx_invV (Post' := tx_tp k G wa ca C (tx_tok n (tx_at n f) (tx_bl n (tx_at n f) 0))) hE d_Lx_tokens_6 l_Lx_26 (by assumption) (c_Lx_tokenAt hL hW hO hp9.2.1 hn (by omega) (by omega) hN0) rfl (by omega) (Nat.le_of_ble_eq_true rfl) n_Lx_tokenAt (by rfl) (fun v G2 q => ?_) (fun a G2 q => by obtain ⟨_, _, _, q, _⟩ := q; cases q)
  obtain ⟨a, w, C2, q0, q1, q2, q3, q4, q5, q6, q7, q8, q9⟩ := q
  cases q0
  have hF := tx_tokF (f := f) hp9.2.1
  have hlr := tx_lx_r (n := n) (f := f) (m := n) (p := 0) (by omega) (by omega)
  show cx_V E _ _ [.ref a] G2
  refine cx_astore_n (i := 1) hE d_Lx_tokens_9 rfl (by decide) ?_
  refine cx_aload_n (i := 1) hE d_Lx_tokens_10 rfl rfl ?_
  refine cx_astore_n (i := 2) hE d_Lx_tokens_11 rfl (by decide) ?_
  refine cx_iconst (v := 0) hE d_Lx_tokens_12 (by decide) ?_
  refine cx_istore_n (i := 3) hE d_Lx_tokens_13 rfl (by decide) ?_
  refine cx_sub [0, 1, 2, 3] rfl ?_
  refine hloop a (n + 1) [] (a, tx_tok n (tx_at n f) (tx_bl n (tx_at n f) 0), w) G2 C2 rfl (tx_tc.one q6) rfl (fun y hy => ?_) q3 ⟨q4, q5.2⟩ q2 ?_ hF.2.1 (Nat.zero_le _) (fun z => ?_) ?_ ?_
  · have e := List.mem_singleton.mp hy
    subst e
    exact ⟨q7, q1⟩
  · exact hlr.symm
  · have := hF.2.2.2 z
    show 0 + 1 ≤ (tx_tok n (tx_at n f) (tx_bl n (tx_at n f) 0)).2.2.1
    omega
  · show _ ≤ G.2.1 + 3 * (0 + 1)
    omega
  · show _ ≤ G.2.2 + 14 * (0 + 1) + (tx_tok n (tx_at n f) (tx_bl n (tx_at n f) 0)).2.2.1
    omega
theorem tx_cn.ob {k : cx_K} {G : cx_G} {a ci : Nat} {fs fs' : List Value} (hc : ci ≠ 10) (ha : G.1 a = some (.inr (ci, fs))) : ∀ (xs : List (Nat × List Int32 × Int32)) (r : Option Nat), tx_cn k G r xs → tx_cn k (cx_put G a (.inr (ci, fs'))) r xs
  | [], _, q => q
  | x :: xs, _, ⟨q1, q2, nx, ⟨tb, q3, g, q5, q6⟩, q4⟩ => ⟨q1, q2, nx, ⟨tb, cx_pn rfl q3 (cx_neO ha q3 (fun z => hc z.symm)), g, cx_pn rfl q5 (cx_neB ha q5), q6⟩, tx_cn.ob hc ha xs nx q4⟩
theorem tx_W.ob {k : cx_K} {G : cx_G} {wa ca a ci : Nat} {C : tx_Cn} {fs fs' : List Value} (h : tx_W k G wa ca C) (ha : G.1 a = some (.inr (ci, fs))) (hc : ci ≠ 10) (hc' : ci ≠ 11) : tx_W k (cx_put G a (.inr (ci, fs'))) wa ca C := by
  obtain ⟨h1, g, h2, h3⟩ := h
  exact ⟨cx_pn rfl h1 (cx_neO ha h1 (fun z => hc' z.symm)), g, cx_pn rfl h2 (cx_neB ha h2), fun i hi => (h3 i hi).ob hc ha⟩
set_option maxRecDepth 100000 in
theorem c_Lx_init {k : cx_K} {l : Launch} {G : cx_G} {a ta : Nat} (hG : G.1 a = some (.inr (2, [.null, .null]))) (r1 : G.2.1 + 38 ≤ 601024) (r2 : G.2.2 + 314 ≤ 7293034) (hN0 : ∀ t, G.1 t = none → k.2.2.2.2.2.2 t) : cx_Sp k l m_Lx_init 6 [.ref a, .ref ta] G (fun r G1 => ∃ wa ca C, r = .inl none ∧ G1.1 a = some (.inr (2, [.ref ta, .ref wa])) ∧ tx_W k G1 wa ca C ∧ tx_kO C ∧ (∀ T x, tx_fd C T = some x → G.1 x.1 = none) ∧ G.1 wa = none ∧ G.1 ca = none ∧ (∀ b e, b ≠ a → G.1 b = some e → G1.1 b = some e) ∧ G1.2.1 = G.2.1 + 38 ∧ G1.2.2 = G.2.2 + 314) := by
  intro E hE
  refine cx_aload_n (i := 0) hE d_Lx_init_0 rfl rfl ?_
  refine cx_objI hE d_Lx_init_1 (in_2 (List.mem_of_getElem? (i := 8) rfl)) (in_1 (List.mem_of_getElem? (i := 43) rfl)) (in_1 (List.mem_of_getElem? (i := 44) rfl)) (by omega) (Nat.le_of_ble_eq_true rfl) ?_
  refine cx_aload_n (i := 0) hE d_Lx_init_4 rfl rfl ?_
  refine cx_newh 1 rfl hE d_Lx_init_5 z_Lx_9 (by omega) (by omega) (fun a_5 G_5 n_5 b_5 g_5 h_5 => ?_)
  have hw5 := (cx_mc g_5).1
  have hv5 := (cx_mc g_5).2
  refine cx_dup hE d_Lx_init_8 ?_
  refine cx_invI hE d_Lx_init_9 l_Lx_11 (c_Ws_init h_5 (by omega) (by omega) (fun t ht => hN0 t (by
    cases hG0 : G.1 t with
    | none => rfl
    | some e => rw [cx_mn g_5 n_5 hG0] at ht; cases ht))) rfl (by omega) (Nat.le_of_ble_eq_true rfl) n_Ws_init (by rfl) (fun v G2 q => ?_) (fun a G2 q => by obtain ⟨_, _, q, _⟩ := q; cases q)
  obtain ⟨ca, C, q0, q1, q2, qN, q3, q4, q5, q6⟩ := q
  cases q0
  show cx_V E _ _ [.ref a_5, .ref a] G2
  have hla5 : a ≠ a_5 := fun z => by rw [z, n_5] at hG; cases hG
  have hl2 := q4 _ _ hla5 (cx_mn g_5 n_5 hG)
  refine cx_putFg hE d_Lx_init_12 ff_Lx_12 rfl (by assumption) (Nat.le_of_ble_eq_true rfl) (by first | rfl | exact cx_nr _ _) (by first | rfl | exact cx_fr _ _) (fun G_12 g_12 h_12 => ?_)
  refine cx_aload_n (i := 0) hE d_Lx_init_15 rfl rfl ?_
  refine cx_aload_n (i := 1) hE d_Lx_init_16 rfl rfl ?_
  refine cx_putFg hE d_Lx_init_17 ff_Lx_18 rfl (by assumption) (Nat.le_of_ble_eq_true rfl) (by first | rfl | exact cx_nr _ _) (by first | rfl | exact cx_fr _ _) (fun G_17 g_17 h_17 => ?_)
  refine cx_vret hE d_Lx_init_20 rfl ?_
  refine ⟨a_5, ca, C, rfl, ?_, ?_, q2, (fun T9 x9 z9 => by
    cases hG0 : G.1 x9.1 with
    | none => rfl
    | some e =>
      have z8 := qN T9 x9 z9
      rw [cx_mn g_5 n_5 hG0] at z8
      cases z8), ?_, ?_, ?_, ?_, ?_⟩
  · subst g_17 g_12
    simp only [cx_pp]
    exact cx_ps rfl
  · subst g_17 g_12
    simp only [cx_pp]
    exact q1.ob hl2 (by decide) (by decide)
  · exact n_5
  · cases hG0 : G.1 ca with
    | none => rfl
    | some e =>
      rw [cx_mn g_5 n_5 hG0] at q3
      cases q3
  · intro b e hb he
    subst g_17 g_12
    simp only [cx_pp]
    refine cx_pn rfl (q4 b e (fun z => ?_) (cx_mn g_5 n_5 he)) hb
    rw [z, n_5] at he
    cases he
  · subst g_17 g_12
    show G2.2.1 = _
    omega
  · subst g_17 g_12
    show G2.2.2 = _
    omega

/-! WORDS: the chains of a Words object. -/
theorem tx_127 (x : Int32) : ∃ j, j < 128 ∧ x &&& 127 = nI j := by
  refine ⟨x.toBitVec.toNat % 128, Nat.mod_lt _ (by decide), ?_⟩
  apply Int32.toBitVec_inj.mp
  apply BitVec.eq_of_toNat_eq
  rw [Int32.toBitVec_and, BitVec.toNat_and]
  show x.toBitVec.toNat &&& 127 = (x.toBitVec.toNat % 128) % 2 ^ 32
  rw [show (127 : Nat) = 2 ^ 7 - 1 from rfl, Nat.and_two_pow_sub_one_eq_mod, Nat.mod_eq_of_lt (a := x.toBitVec.toNat % 128) (by omega)]
/-- the hash of a text, and its chain -/
def tx_hs (T : List Int32) (i : Nat) : Int32 := (T.take i).foldl (fun h b => 31 * h + b) 0
def tx_hi (T : List Int32) : Nat := (tx_hs T T.length &&& 127).toNatClampNeg
theorem tx_hs1 {T : List Int32} {i : Nat} (h : i < T.length) : tx_hs T (i + 1) = 31 * tx_hs T i + T.getD i 0 := by
  unfold tx_hs
  rw [List.take_succ, List.getElem?_eq_getElem h, List.foldl_append]
  show 31 * _ + T[i] = _
  rw [List.getD_eq_getElem?_getD, List.getElem?_eq_getElem h]
  rfl
/-- a chain of words that no module and no declaration has yet: address, text, kind -/
def tx_cn (k : cx_K) (G : cx_G) : Option Nat → List (Nat × List Int32 × Int32) → Prop
  | r, [] => r = none
  | r, x :: xs => r = some x.1 ∧ x.2.1.length ≤ 1000000 ∧ ∃ nx, tx_wd k G x.1 x.2.1 nx x.2.2 none none ∧ tx_cn k G nx xs
def tx_W (k : cx_K) (G : cx_G) (wa ca : Nat) (C : Nat → List (Nat × List Int32 × Int32)) : Prop := G.1 wa = some (.inr (11, [.ref ca])) ∧ ∃ g, G.1 ca = some (.inl (k.2.1 4, 128, .inr (.inr (.inr (.inr g))))) ∧ ∀ i, i < 128 → tx_cn k G (g i) (C i)
def tx_fd (C : Nat → List (Nat × List Int32 × Int32)) (T : List Int32) : Option (Nat × List Int32 × Int32) := (C (tx_hi T)).find? (fun x => decide (x.2.1 = T))
/-- every cell but the row of references ca is as it was -/
def tx_x (ca : Nat) (G G' : cx_G) : Prop := (∃ c n z, G.1 ca = some (.inl (c, n, .inr z))) ∧ ∀ (b : Nat) (e : va_E), b ≠ ca → G.1 b = some e → G'.1 b = some e
theorem tx_x.tr {ca : Nat} {G G1 G2 : cx_G} (h : tx_x ca G G1) (h' : tx_x ca G1 G2) : tx_x ca G G2 := ⟨h.1, fun b e n q => h'.2 b e n (h.2 b e n q)⟩
theorem tx_x.te {ca : Nat} {G G1 G2 : cx_G} (h : tx_x ca G G1) (h' : cx_ext G1 G2) : tx_x ca G G2 := ⟨h.1, fun b e n q => h' b e (h.2 b e n q)⟩
theorem tx_x.et {ca c n : Nat} {z} {x : ClassId} {G G1 G2 : cx_G} (h : cx_ext G G1) (h' : tx_x ca G1 G2) (hc : G.1 ca = some (.inl (x, n, .inr z))) : tx_x ca G G2 := ⟨⟨_, _, _, hc⟩, fun b e n q => h'.2 b e n (h b e q)⟩
theorem tx_x.o {ca : Nat} {G G' : cx_G} {a c : Nat} {fs : List Value} (h : tx_x ca G G') (hG : G.1 a = some (.inr (c, fs))) : G'.1 a = some (.inr (c, fs)) := h.2 _ _ (fun z => by obtain ⟨⟨c, n, y, q⟩, _⟩ := h; rw [z, q] at hG; cases hG) hG
theorem tx_x.b {ca : Nat} {G G' : cx_G} {a n : Nat} {c : ClassId} {f : Nat → Int32} (h : tx_x ca G G') (hG : G.1 a = some (.inl (c, n, .inl f))) : G'.1 a = some (.inl (c, n, .inl f)) := h.2 _ _ (fun z => by obtain ⟨⟨c, n, y, q⟩, _⟩ := h; rw [z, q] at hG; cases hG) hG
theorem tx_ar.x {k : cx_K} {G G' : cx_G} {ca : Nat} {t : Nat} {T : List Int32} (h : tx_x ca G G') (hT : tx_ar k G t T) : tx_ar k G' t T := by
  obtain ⟨g, h1, h2⟩ := hT
  exact ⟨g, h.b h1, h2⟩
theorem tx_wd.x {k : cx_K} {G G' : cx_G} {ca : Nat} {a : Nat} {T : List Int32} {nx : Option Nat} {kd : Int32} {u d : Option Nat} (h : tx_x ca G G') (hw : tx_wd k G a T nx kd u d) : tx_wd k G' a T nx kd u d := by
  obtain ⟨tb, h1, h2⟩ := hw
  exact ⟨tb, h.o h1, h2.x h⟩
theorem tx_T.x {k : cx_K} {G G' : cx_G} {ca : Nat} {ta n : Nat} {f : Nat → Int32} (h : tx_x ca G G') (hT : tx_T k G ta n f) : tx_T k G' ta n f := by
  obtain ⟨b, cap, h1, h2, h3⟩ := hT
  exact ⟨b, cap, h.o h1, h.b h2, h3⟩
theorem tx_L.x {k : cx_K} {G G' : cx_G} {ca : Nat} {lx ta ws n : Nat} {f : Nat → Int32} (h : tx_x ca G G') (hT : tx_L k G lx ta ws n f) : tx_L k G' lx ta ws n f := ⟨h.o hT.1, tx_T.x h hT.2⟩
theorem tx_cn.x {k : cx_K} {G G' : cx_G} {ca : Nat} (h : tx_x ca G G') : ∀ (xs : List (Nat × List Int32 × Int32)) (r : Option Nat), tx_cn k G r xs → tx_cn k G' r xs
  | [], _, q => q
  | _ :: xs, _, ⟨q1, q2, nx, q3, q4⟩ => ⟨q1, q2, nx, q3.x h, tx_cn.x h xs nx q4⟩
theorem tx_cn.ext {k : cx_K} {G G' : cx_G} (h : cx_ext G G') : ∀ (xs : List (Nat × List Int32 × Int32)) (r : Option Nat), tx_cn k G r xs → tx_cn k G' r xs
  | [], _, q => q
  | _ :: xs, _, ⟨q1, q2, nx, q3, q4⟩ => ⟨q1, q2, nx, q3.ext h, tx_cn.ext h xs nx q4⟩
theorem tx_W.ext {k : cx_K} {G G' : cx_G} {wa ca : Nat} {C : Nat → List (Nat × List Int32 × Int32)} (h : cx_ext G G') (hW : tx_W k G wa ca C) : tx_W k G' wa ca C := by
  obtain ⟨h1, g, h2, h3⟩ := hW
  exact ⟨h _ _ h1, g, h _ _ h2, fun i hi => (h3 i hi).ext h⟩
/-- the word of a text: the one that was there, or a new one -/
def tx_wo (k : cx_K) (G : cx_G) (wa ca : Nat) (C : Nat → List (Nat × List Int32 × Int32)) (T : List Int32) : cx_R → cx_G → Prop := fun r G' =>
  (∃ x, tx_fd C T = some x ∧ r = .inl (some (.ref x.1)) ∧ G' = G) ∨ (tx_fd C T = none ∧ ∃ a, r = .inl (some (.ref a)) ∧ G.1 a = none ∧ tx_x ca G G' ∧ tx_W k G' wa ca (va_up C (tx_hi T) ((a, T, 19) :: C (tx_hi T))) ∧ G'.2.1 = G.2.1 + 1 ∧ G'.2.2 = G.2.2 + 5)
theorem tx_find_no {xs : List (Nat × List Int32 × Int32)} {x : Nat × List Int32 × Int32} {T : List Int32} (h : ¬ x.2.1 = T) : (x :: xs).find? (fun x => decide (x.2.1 = T)) = xs.find? (fun x => decide (x.2.1 = T)) := by
  rw [List.find?_cons_of_neg]
  simpa using h
theorem tx_find_ye {xs : List (Nat × List Int32 × Int32)} {x : Nat × List Int32 × Int32} {T : List Int32} (h : x.2.1 = T) : (x :: xs).find? (fun x => decide (x.2.1 = T)) = some x := by
  rw [List.find?_cons_of_pos]
  simpa using h
set_option maxRecDepth 100000 in
theorem c_Ws_wordOf {k : cx_K} {l : Launch} {G : cx_G} {wa ca t : Nat} {C : Nat → List (Nat × List Int32 × Int32)} {T : List Int32} (hW : tx_W k G wa ca C) (hx : tx_ar k G t T) (l1 : T.length ≤ 1000000) (r1 : G.2.1 + 1 ≤ 601024) (r2 : G.2.2 + 5 ≤ 7293034) : cx_Sp k l m_Ws_wordOf 2 [.ref wa, .ref t] G (tx_wo k G wa ca C T) := by
  intro E hE
  obtain ⟨hwa, g, hca, hC⟩ := hW
  have hx0 := hx
  obtain ⟨gx, hx1, hx2, -⟩ := hx0
  obtain ⟨jx, hj1, hj2⟩ := tx_127 (tx_hs T T.length)
  have hin : vp_in (tx_hs T T.length &&& 127) 128 := by rw [hj2]; exact vp_in_nI (by omega) (by omega)
  have hhi : tx_hi T < 128 := by unfold tx_hi; rw [hj2, nI_clamp (by omega)]; exact hj1
  have hch : ∀ (xs : List (Nat × List Int32 × Int32)) (r : Option Nat), tx_cn k G r xs → tx_fd C T = xs.find? (fun x => decide (x.2.1 = T)) → cx_V E 38 [(4, false, va_rf r), (3, false, .int (tx_hs T T.length &&& 127)), (0, false, .ref wa), (1, false, .ref t)] [] G := by
    intro xs
    induction xs with
    | nil =>
      intro r hr hf
      have hr0 : r = none := hr
      subst hr0
      refine cx_aload hE d_Ws_wordOf_38 rfl ?_
      refine cx_ifnull (tgt := 65) (r := none) hE d_Ws_wordOf_40 (by decide) (fun c_40 => ?_) (fun a_40 c_40 => ?_)
      · refine cx_aload_n (i := 0) hE d_Ws_wordOf_65 rfl rfl ?_
        refine cx_get hE d_Ws_wordOf_66 f_Ws_13 (by assumption) (by rfl) ?_
        refine cx_iload_n (i := 3) hE d_Ws_wordOf_69 rfl rfl ?_
        refine cx_newh 5 rfl hE d_Ws_wordOf_70 z_Ws_11 (by omega) (by omega) (fun a_70 G_70 n_70 b_70 g_70 h_70 => ?_)
        have hw70 := cx_mn g_70 n_70 hwa
        have hc70 := cx_mn g_70 n_70 hca
        refine cx_dup hE d_Ws_wordOf_73 ?_
        refine cx_aload_n (i := 1) hE d_Ws_wordOf_74 rfl rfl ?_
        refine cx_aload_n (i := 0) hE d_Ws_wordOf_75 rfl rfl ?_
        refine cx_get hE d_Ws_wordOf_76 f_Ws_13 (by assumption) (by rfl) ?_
        refine cx_iload_n (i := 3) hE d_Ws_wordOf_79 rfl rfl ?_
        refine cx_aald 4 hE d_Ws_wordOf_80 rfl (by assumption) (hin) ?_
        refine cx_invI0 hE d_Ws_wordOf_81 l_Ws_49 (c_Wd_init (t := t) (nx := g (tx_hi T)) h_70) rfl (by omega) (Nat.le_of_ble_eq_true rfl) n_Wd_init (by first | rfl | (simp only [List.map_cons, List.map_nil, cx_rfc]; rfl)) ?_
        refine cx_gen (fun G_81 g_81 => ?_)
        have h_81 := cx_ps g_81
        have hw81 := cx_pn g_81 hw70 (cx_neO h_70 hw70 (by decide))
        have hc81 := cx_pn g_81 hc70 (cx_neB h_70 hc70)
        refine cx_aast 4 hE d_Ws_wordOf_84 rfl hc81 h_81 ⟨_, rfl, rfl⟩ hin ?_
        have hc84 := cx_ps (rfl : cx_put G_81 ca (.inl (k.2.1 4, 128, .inr (.inr (.inr (.inr (va_up g (tx_hi T) (some a_70))))))) = _)
        have g_w := cx_pn (rfl : cx_put G_81 ca (.inl (k.2.1 4, 128, .inr (.inr (.inr (.inr (va_up g (tx_hi T) (some a_70))))))) = _) hw81 (cx_neA hc81 hw81)
        refine cx_aload_n (i := 0) hE d_Ws_wordOf_85 rfl rfl ?_
        refine cx_get hE d_Ws_wordOf_86 f_Ws_13 (by assumption) (by rfl) ?_
        refine cx_iload_n (i := 3) hE d_Ws_wordOf_89 rfl rfl ?_
        refine cx_aald 4 hE d_Ws_wordOf_90 rfl (by assumption) (hin) ?_
        rw [show va_up g (tx_hi T) (some a_70) (tx_hs T T.length &&& 127).toNatClampNeg = some a_70 from if_pos rfl]
        refine cx_aret (r := some a_70) hE d_Ws_wordOf_91 rfl (by first | exact Or.inl ⟨_, rfl⟩ | exact Or.inr ⟨_, rfl⟩) ?_
        refine Or.inr ⟨hf, a_70, rfl, n_70, ?_, ?_, ?_, ?_⟩
        · subst g_81 g_70
          refine ⟨⟨_, _, _, hca⟩, fun b e q2 q1 => ?_⟩
          refine cx_pn rfl ?_ q2
          simp only [cx_mp]
          exact cx_ext.mk n_70 _ _ q1
        · refine ⟨g_w, va_up g (tx_hi T) (some a_70), cx_ps rfl, ?_⟩
          intro i hi
          unfold va_up
          have hX : tx_x ca G (cx_put G_81 ca (.inl (k.2.1 4, 128, .inr (.inr (.inr (.inr (va_up g (tx_hi T) (some a_70)))))))) := by
            subst g_81 g_70
            refine ⟨⟨_, _, _, hca⟩, fun b e q2 q1 => ?_⟩
            refine cx_pn rfl ?_ q2
            simp only [cx_mp]
            exact cx_ext.mk n_70 _ _ q1
          by_cases hie : i = tx_hi T
          · rw [if_pos hie, if_pos hie]
            exact ⟨rfl, l1, g (tx_hi T), ⟨t, cx_pn rfl h_81 (cx_neA hc81 h_81), hx.x hX⟩, (hC _ hhi).x hX⟩
          · rw [if_neg hie, if_neg hie]
            exact (hC _ hi).x hX
        · subst g_81 g_70; rfl
        · subst g_81 g_70; rfl
      · cases c_40
        -- end
    | cons x xs ih =>
      intro r hr hf
      obtain ⟨hr0, hxl, nx, hxw, hxs⟩ := hr
      subst hr0
      have hxw0 := hxw
      obtain ⟨tb, hx1, hx2⟩ := hxw0
      refine cx_aload hE d_Ws_wordOf_38 rfl ?_
      refine cx_ifnull (tgt := 65) (r := some x.1) hE d_Ws_wordOf_40 (by decide) (fun c_40 => ?_) (fun a_40 c_40 => ?_)
      · cases c_40
        -- end
      · refine cx_aload hE d_Ws_wordOf_43 rfl ?_
        refine cx_aload_n (i := 1) hE d_Ws_wordOf_45 rfl rfl ?_
        refine cx_invV1 hE d_Ws_wordOf_46 l_Ws_41 (by assumption) (c_Wd_spells hxw hx hxl l1) rfl (by omega) (Nat.le_of_ble_eq_true rfl) n_Wd_spells (by first | rfl | (simp only [List.map_cons, List.map_nil, cx_rfc]; rfl)) ?_
        refine cx_if_eq (tgt := 55)  hE d_Ws_wordOf_49 (by decide) (fun c_49 => ?_) (fun c_49 => ?_)
        · have q_49 := of_decide_eq_false (cx_b0.mp (by simpa using c_49))
          refine cx_aload hE d_Ws_wordOf_55 rfl ?_
          refine cx_get hE d_Ws_wordOf_57 f_Ws_45 (by assumption) (by rfl) ?_
          refine cx_astore hE d_Ws_wordOf_60 (by decide) ?_
          refine cx_goto (tgt := 38) hE d_Ws_wordOf_62 (by decide) ?_
          refine cx_sub [0, 1, 2, 3] rfl ?_
          exact ih nx hxs (by rw [hf, tx_find_no q_49])
        · have q_49 := of_decide_eq_true (cx_bn.mp c_49)
          refine cx_aload hE d_Ws_wordOf_52 rfl ?_
          refine cx_aret (r := some x.1) hE d_Ws_wordOf_54 rfl (by first | exact Or.inl ⟨_, rfl⟩ | exact Or.inr ⟨_, rfl⟩) ?_
          exact Or.inl ⟨x, by rw [hf, tx_find_ye q_49], rfl, rfl⟩
  have hloop : ∀ (d i : Nat), T.length - i = d → i ≤ T.length → cx_V E 4 [(2, false, .int (tx_hs T i)), (3, false, .int (nI i)), (0, false, .ref wa), (1, false, .ref t)] [] G := by
    intro d
    induction d using Nat.strongRecOn with
    | ind d ih =>
      intro i hd hi
      refine cx_iload_n (i := 3) hE d_Ws_wordOf_4 rfl rfl ?_
      refine cx_aload_n (i := 1) hE d_Ws_wordOf_5 rfl rfl ?_
      refine cx_alen 0 hE d_Ws_wordOf_6 rfl (by assumption) rfl ?_
      refine cx_icmp_ge (tgt := 25)  hE d_Ws_wordOf_7 (by decide) (fun c_7 => ?_) (fun c_7 => ?_)
      · have q_7 : i = T.length := by have := nJ_le (by omega) c_7; omega
        subst q_7
        refine cx_iload_n (i := 2) hE d_Ws_wordOf_25 rfl rfl ?_
        refine cx_bipush (v := 127) hE d_Ws_wordOf_26 (by decide) ?_
        refine cx_iand hE d_Ws_wordOf_28 ?_
        refine cx_istore_n (i := 3) hE d_Ws_wordOf_29 rfl (by decide) ?_
        refine cx_aload_n (i := 0) hE d_Ws_wordOf_30 rfl rfl ?_
        refine cx_get hE d_Ws_wordOf_31 f_Ws_13 (by assumption) (by rfl) ?_
        refine cx_iload_n (i := 3) hE d_Ws_wordOf_34 rfl rfl ?_
        refine cx_aald 4 hE d_Ws_wordOf_35 rfl (by assumption) (hin) ?_
        refine cx_astore hE d_Ws_wordOf_36 (by decide) ?_
        refine cx_sub [0, 1, 3, 4] rfl ?_
        exact hch (C (tx_hi T)) _ (hC _ hhi) rfl
      · have q_7 := nJ_lt (by omega) c_7
        refine cx_bipush (v := 31) hE d_Ws_wordOf_10 (by decide) ?_
        refine cx_iload_n (i := 2) hE d_Ws_wordOf_12 rfl rfl ?_
        refine cx_imul hE d_Ws_wordOf_13 ?_
        refine cx_aload_n (i := 1) hE d_Ws_wordOf_14 rfl rfl ?_
        refine cx_iload_n (i := 3) hE d_Ws_wordOf_15 rfl rfl ?_
        refine cx_bald 0 hE d_Ws_wordOf_16 rfl (by assumption) (vp_in_nI (by omega) (by omega)) ?_
        refine cx_iadd hE d_Ws_wordOf_17 ?_
        rw [nI_clamp (by omega), hx2 i (by omega), ← tx_hs1 q_7]
        refine cx_istore_n (i := 2) hE d_Ws_wordOf_18 rfl (by decide) ?_
        refine cx_iinc (v := nI (i + 1)) hE d_Ws_wordOf_19 rfl (nI_1 _) (by decide) ?_
        refine cx_goto (tgt := 4) hE d_Ws_wordOf_22 (by decide) ?_
        refine cx_sub [1, 0, 2, 3] rfl ?_
        exact ih (T.length - (i + 1)) (by omega) (i + 1) rfl (by omega)
  refine cx_iconst (v := 0) hE d_Ws_wordOf_0 (by decide) ?_
  refine cx_istore_n (i := 2) hE d_Ws_wordOf_1 rfl (by decide) ?_
  refine cx_iconst (v := 0) hE d_Ws_wordOf_2 (by decide) ?_
  refine cx_istore_n (i := 3) hE d_Ws_wordOf_3 rfl (by decide) ?_
  refine cx_sub [1, 0, 2, 3] rfl ?_
  exact hloop _ 0 rfl (Nat.zero_le _)

/-! THE FACE: feed, a new object. -/
/-- the tape has grown -/
theorem ct_R.ap {k : cx_K} {G G' : cx_G} {x ta b n cap n' b' cap' : Nat} {f f' : Nat → Int32} {ft : Int32} {A : tx_A} {us : List tx_U} (hR : ct_R k G x ta b n cap f ft A us) (hT : ct_T k G' ta b' n' cap' f') (hb : b' = b ∨ G.1 b' = none) (hfr : ∀ c e, c ≠ ta → c ≠ b → G.1 c = some e → G'.1 c = some e) : ct_R k G' x ta b' n' cap' f' ft A us := by
  obtain ⟨hx, ⟨t1, t2, t3, t4, t5, t6⟩, u1, u2, u3, u4, u5, u6⟩ := hR
  have hob : ∀ (a c : Nat) (fs : List Value), c ≠ 6 → G.1 a = some (.inr (c, fs)) → G'.1 a = some (.inr (c, fs)) := fun a c fs hc ha => hfr _ _ (cx_neO t1 ha hc) (cx_neA t2 ha) ha
  have har : ∀ (a c m : Nat) (h : Nat → Option Nat), G.1 a = some (.inl (k.2.1 c, m, .inr (.inr (.inr (.inr h))))) → G'.1 a = some (.inl (k.2.1 c, m, .inr (.inr (.inr (.inr h))))) := fun a c m h ha => hfr _ _ (cx_neB t1 ha) (fun z => by
    rw [z, t2] at ha
    simp only [Option.some.injEq, Sum.inl.injEq, Prod.mk.injEq] at ha
    exact absurd ha.2.2 (fun q => by cases q)) ha
  have hal : ∀ (la ed : Nat) (xs : List Nat) (c : Nat), tx_al k G la ed xs c → tx_al k G' la ed xs c := by
    intro la ed xs c ⟨⟨mc, z1⟩, z2⟩
    refine ⟨⟨mc, hob _ _ _ (by decide) z1⟩, ?_⟩
    rcases z2 with z2 | ⟨h, z2, z3⟩
    · exact Or.inl z2
    · exact Or.inr ⟨h, har _ _ _ _ z2, z3⟩
  refine ⟨hob _ _ _ (by decide) hx, hT, hal _ _ _ _ u1, fun j u hj => hob _ _ _ (by decide) (u2 j u hj), fun j u hj => hal _ _ _ _ (u3 j u hj), fun j u hj q r hr => hob _ _ _ (by decide) (u4 j u hj q r hr), fun T a ha => ?_, u6⟩
  obtain ⟨tb, x1, x2, x3, x4, g, z1, z2, z3, z4⟩ := u5 T a ha
  refine ⟨tb, x1, x2, x3, x4, g, hob _ _ _ (by decide) z1, hfr _ _ (cx_neB t1 z2) z4 z2, z3, ?_⟩
  rcases hb with hb | hb
  · rw [hb]; exact z4
  · exact fun z => by rw [z, hb] at z2; cases z2
/-- what feed leaves -/
def ct_pf (k : cx_K) (G : cx_G) (x ta b n cap : Nat) (f : Nat → Int32) (ft : Int32) (A : tx_A) (us : List tx_U) (av : Nat → Int32) (m : Nat) (G' : cx_G) : Prop := ∃ b' cap' f', ct_R k G' x ta b' (n + 4 * m) cap' f' ft A us ∧ (∀ j, j < n → f' j = f j) ∧ (∀ i, i < m → ∀ j, j < 4 → f' (n + 4 * i + j) = ct_by (av i) (ct_sh j)) ∧ (b' = b ∨ G.1 b' = none) ∧ (∀ c e, c ≠ ta → c ≠ b → G.1 c = some e → G'.1 c = some e) ∧ G.2.1 ≤ G'.2.1 ∧ G'.2.1 ≤ G.2.1 + m ∧ G.2.2 ≤ G'.2.2 ∧ G'.2.2 + 2 * cap ≤ G.2.2 + 2 * cap' ∧ cap ≤ cap' ∧ (cap' = cap ∨ cap' ≤ 2 * (n + 4 * m))
theorem ct_pf.st {k : cx_K} {G G1 G2 : cx_G} {x ta b n cap : Nat} {f : Nat → Int32} {ft : Int32} {A : tx_A} {us : List tx_U} {av : Nat → Int32} {m b1 c1 : Nat} {f1 : Nat → Int32} (hR1 : ct_R k G1 x ta b1 (n + 4 * m) c1 f1 ft A us) (h1 : ∀ j, j < n → f1 j = f j) (h2 : ∀ i, i < m → ∀ j, j < 4 → f1 (n + 4 * i + j) = ct_by (av i) (ct_sh j)) (h3 : b1 = b ∨ G.1 b1 = none) (h4 : ∀ c e, c ≠ ta → c ≠ b → G.1 c = some e → G1.1 c = some e) (h5 : G.2.1 ≤ G1.2.1) (h6 : G1.2.1 ≤ G.2.1 + m) (h7 : G.2.2 ≤ G1.2.2) (h8 : G1.2.2 + 2 * cap ≤ G.2.2 + 2 * c1) (h9 : cap ≤ c1) (h10 : c1 = cap ∨ c1 ≤ 2 * (n + 4 * m))
    (hap : ct_ap k G1 ta b1 (n + 4 * m) c1 f1 (av m) G2) (hbt : G.1 ta ≠ none) : ct_pf k G x ta b n cap f ft A us av (m + 1) G2 := by
  obtain ⟨b2, c2, f2, q1, q2, q3, q4, q5, q6, q7, q8, q9, q10⟩ := hap
  have hc12 : c1 ≤ c2 := by omega
  refine ⟨b2, c2, f2, hR1.ap q1 q4 q5, fun j hj => (q2 j (by omega)).trans (h1 j hj), fun i hi j hj => ?_, ?_, fun c e z1 z2 hc => q5 c e z1 ?_ (h4 c e z1 z2 hc), by omega, by omega, by omega, by omega, by omega, by omega⟩
  · by_cases z : i = m
    · rw [z]; exact q3 j hj
    · rw [q2 _ (by omega)]; exact h2 i (by omega) j hj
  · rcases q4 with z | z
    · rw [z]; exact h3
    · cases hG0 : G.1 b2 with
      | none => exact Or.inr rfl
      | some e =>
        by_cases z1 : b2 = b
        · exact Or.inl z1
        · by_cases z2 : b2 = ta
          · have := hR1.2.1.1
            rw [← z2, z] at this
            cases this
          · have := h4 _ _ z2 z1 hG0
            rw [z] at this
            cases this
  · rcases h3 with z | z
    · rw [z]; exact z2
    · exact fun y => by rw [y, z] at hc; cases hc
set_option maxRecDepth 100000 in
theorem c_CT_feed {k : cx_K} {l : Launch} {G : cx_G} {x ta b n cap : Nat} {f : Nat → Int32} {ft : Int32} {A : tx_A} {us : List tx_U} (hR : ct_R k G x ta b n cap f ft A us) {av : Nat → Int32} (hn : n + 20 ≤ 65536) (hcp : cap ≤ 150000) (r1 : G.2.1 + 6 ≤ 601024) (r2 : G.2.2 + 1500000 ≤ 7293034) : cx_Sp k l m_CT_feed 4 [.ref x, .int (av 0), .int (av 1), .int (av 2), .int (av 3), .int (av 4)] G (fun r G' => r = .inl (some (.int (nI (n + 20)))) ∧ ct_pf k G x ta b n cap f ft A us av 5 G') := by
  intro E hE
  obtain ⟨hx, hT, hU⟩ := id hR
  have hta0 : G.1 ta ≠ none := by rw [hT.1]; exact fun z => by cases z
  have hta := hT.1
  have hnc := hT.2.2.1
  have hR0 : ct_R k G x ta b (n + 4 * 0) cap f ft A us := hR
  have hA0 : ∀ j, j < n → f j = f j := fun _ _ => rfl
  have hB0 : ∀ i, i < 0 → ∀ j, j < 4 → f (n + 4 * i + j) = ct_by (av i) (ct_sh j) := fun i hi => absurd hi (Nat.not_lt_zero _)
  have hC0 : b = b ∨ G.1 b = none := Or.inl rfl
  have hD0 : ∀ c e, c ≠ ta → c ≠ b → G.1 c = some e → G.1 c = some e := fun _ _ _ _ h => h
  have hE0 : G.2.1 ≤ G.2.1 := Nat.le_refl _
  have hF0 : G.2.1 ≤ G.2.1 + 0 := Nat.le_refl _
  have hI0 : G.2.2 ≤ G.2.2 := Nat.le_refl _
  have hJ0 : G.2.2 + 2 * cap ≤ G.2.2 + 2 * cap := Nat.le_refl _
  have hK0 : cap ≤ cap := Nat.le_refl _
  have hL0 : cap = cap ∨ cap ≤ 2 * (n + 4 * 0) := Or.inl rfl
  refine cx_aload_n (i := 0) hE d_CT_feed_0 rfl rfl ?_
  refine cx_get hE d_CT_feed_1 f_CT_10 (by assumption) (by rfl) ?_
  refine cx_get hE d_CT_feed_4 f_CT_27 (by assumption) (by rfl) ?_
  refine cx_bipush (v := 20) hE d_CT_feed_7 (by decide) ?_
  refine cx_iadd hE d_CT_feed_9 ?_
  refine cx_ldc (v := 65536) hE d_CT_feed_10 (in_5 (List.mem_of_getElem? (i := 230) rfl)) ?_
  refine cx_icmp_le (tgt := 25)  hE d_CT_feed_12 (by decide) (fun c_12 => ?_) (fun c_12 => ?_)
  · refine cx_aload_n (i := 0) hE d_CT_feed_25 rfl rfl ?_
    refine cx_get hE d_CT_feed_26 f_CT_10 (by assumption) (by rfl) ?_
    refine cx_iload_n (i := 1) hE d_CT_feed_29 rfl rfl ?_
    refine cx_invV hE d_CT_feed_30 l_CT_38 hR0.2.1.1 (c_Ta_append (x := av 0) hR0.2.1 (by omega) (by omega) (by omega) (by omega)) rfl (by omega) (Nat.le_of_ble_eq_true rfl) n_Ta_append (by rfl) (fun v G1 q => ?_) (fun a G1 q => by cases q.1)
    obtain ⟨q0, hap⟩ := q
    cases q0
    show cx_V E _ _ [] G1
    obtain ⟨b1, c1, f1, hR1, hA1, hB1, hC1, hD1, hE1, hF1, hI1, hJ1, hK1, hL1⟩ := ct_pf.st (G := G) (av := av) (m := 0) hR0 hA0 hB0 hC0 hD0 hE0 hF0 hI0 hJ0 hK0 hL0 hap hta0
    have hx1 := hR1.1
    have ht1 := hR1.2.1.1
    refine cx_aload_n (i := 0) hE d_CT_feed_33 rfl rfl ?_
    refine cx_get hE d_CT_feed_34 f_CT_10 (by assumption) (by rfl) ?_
    refine cx_iload_n (i := 2) hE d_CT_feed_37 rfl rfl ?_
    refine cx_invV hE d_CT_feed_38 l_CT_38 hR1.2.1.1 (c_Ta_append (x := av 1) hR1.2.1 (by omega) (by omega) (by omega) (by omega)) rfl (by omega) (Nat.le_of_ble_eq_true rfl) n_Ta_append (by rfl) (fun v G2 q => ?_) (fun a G2 q => by cases q.1)
    obtain ⟨q0, hap⟩ := q
    cases q0
    show cx_V E _ _ [] G2
    obtain ⟨b2, c2, f2, hR2, hA2, hB2, hC2, hD2, hE2, hF2, hI2, hJ2, hK2, hL2⟩ := ct_pf.st (G := G) (av := av) (m := 1) hR1 hA1 hB1 hC1 hD1 hE1 hF1 hI1 hJ1 hK1 hL1 hap hta0
    have hx2 := hR2.1
    have ht2 := hR2.2.1.1
    refine cx_aload_n (i := 0) hE d_CT_feed_41 rfl rfl ?_
    refine cx_get hE d_CT_feed_42 f_CT_10 (by assumption) (by rfl) ?_
    refine cx_iload_n (i := 3) hE d_CT_feed_45 rfl rfl ?_
    refine cx_invV hE d_CT_feed_46 l_CT_38 hR2.2.1.1 (c_Ta_append (x := av 2) hR2.2.1 (by omega) (by omega) (by omega) (by omega)) rfl (by omega) (Nat.le_of_ble_eq_true rfl) n_Ta_append (by rfl) (fun v G3 q => ?_) (fun a G3 q => by cases q.1)
    obtain ⟨q0, hap⟩ := q
    cases q0
    show cx_V E _ _ [] G3
    obtain ⟨b3, c3, f3, hR3, hA3, hB3, hC3, hD3, hE3, hF3, hI3, hJ3, hK3, hL3⟩ := ct_pf.st (G := G) (av := av) (m := 2) hR2 hA2 hB2 hC2 hD2 hE2 hF2 hI2 hJ2 hK2 hL2 hap hta0
    have hx3 := hR3.1
    have ht3 := hR3.2.1.1
    refine cx_aload_n (i := 0) hE d_CT_feed_49 rfl rfl ?_
    refine cx_get hE d_CT_feed_50 f_CT_10 (by assumption) (by rfl) ?_
    refine cx_iload hE d_CT_feed_53 rfl ?_
    refine cx_invV hE d_CT_feed_55 l_CT_38 hR3.2.1.1 (c_Ta_append (x := av 3) hR3.2.1 (by omega) (by omega) (by omega) (by omega)) rfl (by omega) (Nat.le_of_ble_eq_true rfl) n_Ta_append (by rfl) (fun v G4 q => ?_) (fun a G4 q => by cases q.1)
    obtain ⟨q0, hap⟩ := q
    cases q0
    show cx_V E _ _ [] G4
    obtain ⟨b4, c4, f4, hR4, hA4, hB4, hC4, hD4, hE4, hF4, hI4, hJ4, hK4, hL4⟩ := ct_pf.st (G := G) (av := av) (m := 3) hR3 hA3 hB3 hC3 hD3 hE3 hF3 hI3 hJ3 hK3 hL3 hap hta0
    have hx4 := hR4.1
    have ht4 := hR4.2.1.1
    refine cx_aload_n (i := 0) hE d_CT_feed_58 rfl rfl ?_
    refine cx_get hE d_CT_feed_59 f_CT_10 (by assumption) (by rfl) ?_
    refine cx_iload hE d_CT_feed_62 rfl ?_
    refine cx_invV hE d_CT_feed_64 l_CT_38 hR4.2.1.1 (c_Ta_append (x := av 4) hR4.2.1 (by omega) (by omega) (by omega) (by omega)) rfl (by omega) (Nat.le_of_ble_eq_true rfl) n_Ta_append (by rfl) (fun v G5 q => ?_) (fun a G5 q => by cases q.1)
    obtain ⟨q0, hap⟩ := q
    cases q0
    show cx_V E _ _ [] G5
    obtain ⟨b5, c5, f5, hR5, hA5, hB5, hC5, hD5, hE5, hF5, hI5, hJ5, hK5, hL5⟩ := ct_pf.st (G := G) (av := av) (m := 4) hR4 hA4 hB4 hC4 hD4 hE4 hF4 hI4 hJ4 hK4 hL4 hap hta0
    have hx5 := hR5.1
    have ht5 := hR5.2.1.1
    refine cx_aload_n (i := 0) hE d_CT_feed_67 rfl rfl ?_
    refine cx_get hE d_CT_feed_68 f_CT_10 (by assumption) (by rfl) ?_
    refine cx_get hE d_CT_feed_71 f_CT_27 (by assumption) (by rfl) ?_
    refine cx_iret hE d_CT_feed_74 rfl rfl ?_
    exact ⟨rfl, b5, c5, f5, hR5, hA5, hB5, hC5, hD5, hE5, hF5, hI5, hJ5, hK5, hL5⟩
  · exact absurd (by rw [show nI n + 20 = nI (n + 20) from nI_add n 20]; exact nI_le (a := n + 20) (b := 65536) (by omega) (by omega)) c_12
    -- end
/-- nothing was read yet -/
def ct_A0 (ul e0 : Nat) : tx_A := ((0, 0, ul, e0, 0), fun _ => 0, (fun _ => 0, fun _ => 0, fun _ => 0), fun _ _ => 0, fun _ => none)
set_option maxRecDepth 100000 in
theorem c_CT_init {k : cx_K} {l : Launch} {G : cx_G} {x : Nat} (hG : G.1 x = some (.inr (0, [.null, .null, .int 0]))) (r1 : G.2.1 + 3 ≤ 601024) (r2 : G.2.2 + 517 ≤ 7293034) : cx_Sp k l m_CT_init 4 [.ref x] G (fun r G' => r = .inl none ∧ ∃ ta b ul, (G.1 ta = none ∧ G.1 b = none ∧ G.1 ul = none) ∧ ct_R k G' x ta b 0 512 (fun _ => 0) 0 (ct_A0 ul (k.2.2.2.2.2.1 0)) [] ∧ (∀ c e, c ≠ x → G.1 c = some e → G'.1 c = some e) ∧ G'.2.1 = G.2.1 + 3 ∧ G'.2.2 = G.2.2 + 517) := by
  intro E hE
  refine cx_aload_n (i := 0) hE d_CT_init_0 rfl rfl ?_
  refine cx_objI hE d_CT_init_1 (in_1 (List.mem_of_getElem? (i := 42) rfl)) (in_1 (List.mem_of_getElem? (i := 43) rfl)) (in_1 (List.mem_of_getElem? (i := 44) rfl)) (by omega) (Nat.le_of_ble_eq_true rfl) ?_
  refine cx_aload_n (i := 0) hE d_CT_init_4 rfl rfl ?_
  refine cx_newh 2 rfl hE d_CT_init_5 z_CT_7 (by omega) (by omega) (fun a_5 G_5 n_5 b_5 g_5 h_5 => ?_)
  refine cx_dup hE d_CT_init_8 ?_
  have hc5 := cx_mc g_5
  refine cx_invI hE d_CT_init_9 l_CT_9 (c_Ta_init h_5 (by omega) (by omega)) rfl (by omega) (Nat.le_of_ble_eq_true rfl) n_Ta_init (by rfl) (fun v G2 q => ?_) (fun a G2 q => by cases q.1)
  obtain ⟨q0, b, q1, q2, q3, q4, q5⟩ := q
  cases q0
  show cx_V E _ _ [.ref a_5, .ref x] G2
  have hx2 := q3 _ _ (fun z => by rw [z, n_5] at hG; cases hG) (cx_mn g_5 n_5 hG)
  refine cx_putFg hE d_CT_init_12 ff_CT_10 rfl (by assumption) (Nat.le_of_ble_eq_true rfl) (by first | rfl | exact cx_nr _ _) (by first | rfl | exact cx_fr _ _) (fun G_12 g_12 h_12 => ?_)
  have hta12 := cx_pn g_12 q2.1 (cx_neO hx2 q2.1 (by decide))
  have hb12 := cx_pn g_12 q2.2.1 (cx_neB hx2 q2.2.1)
  have hc12 : G_12.2.1 = G.2.1 + 2 ∧ G_12.2.2 = G.2.2 + 514 := by rw [cx_pc g_12]; omega
  refine cx_aload_n (i := 0) hE d_CT_init_15 rfl rfl ?_
  refine cx_newh 3 rfl hE d_CT_init_16 z_CT_16 (by omega) (by omega) (fun a_16 G_16 n_16 b_16 g_16 h_16 => ?_)
  have hx16 := cx_mn g_16 n_16 h_12
  have hta16 := cx_mn g_16 n_16 hta12
  have hb16 := cx_mn g_16 n_16 hb12
  have hc16 := cx_mc g_16
  refine cx_dup hE d_CT_init_19 ?_
  refine cx_invI0 hE d_CT_init_20 l_CT_18 (c_AL_init h_16) rfl (by omega) (Nat.le_of_ble_eq_true rfl) n_AL_init (by first | rfl | (simp only [List.map_cons, List.map_nil, cx_rfc]; rfl)) ?_
  refine cx_gen (fun G_20 g_20 => ?_)
  have h_20 := cx_ps g_20
  have hx20 := cx_pn g_20 hx16 (cx_neO h_16 hx16 (by decide))
  have hta20 := cx_pn g_20 hta16 (cx_neO h_16 hta16 (by decide))
  have hb20 := cx_pn g_20 hb16 (cx_neB h_16 hb16)
  refine cx_putg hE d_CT_init_23 f_CT_19 (by assumption) (Nat.le_of_ble_eq_true rfl) (by first | rfl | exact cx_nr _ _) (by first | rfl | exact cx_fr _ _) (fun G_23 g_23 h_23 => ?_)
  have hl23 := cx_pn g_23 h_20 (cx_neO hx20 h_20 (by decide))
  have hta23 := cx_pn g_23 hta20 (cx_neO hx20 hta20 (by decide))
  have hb23 := cx_pn g_23 hb20 (cx_neB hx20 hb20)
  refine cx_aload_n (i := 0) hE d_CT_init_26 rfl rfl ?_
  refine cx_iconst (v := 0) hE d_CT_init_27 (by decide) ?_
  refine cx_putg hE d_CT_init_28 f_CT_23 (by assumption) (Nat.le_of_ble_eq_true rfl) (by first | rfl | exact cx_nr _ _) (by first | rfl | exact cx_fr _ _) (fun G_28 g_28 h_28 => ?_)
  have hl28 := cx_pn g_28 hl23 (cx_neO h_23 hl23 (by decide))
  have hta28 := cx_pn g_28 hta23 (cx_neO h_23 hta23 (by decide))
  have hb28 := cx_pn g_28 hb23 (cx_neB h_23 hb23)
  refine cx_vret hE d_CT_init_31 rfl ?_
  refine ⟨rfl, a_5, b, a_16, ?_, ⟨h_28, ⟨hta28, hb28, q2.2.2⟩, ⟨⟨0, hl28⟩, Or.inl ⟨rfl, rfl, rfl⟩⟩, (fun j u hj => (by cases hj)), (fun j u hj => (by cases hj)), (fun j u hj => (by cases hj)), (fun T a ha => (by cases ha)), by decide, (fun j u hj => (by cases hj))⟩, fun c e hc he => ?_, ?_, ?_⟩
  · refine ⟨n_5, ?_, ?_⟩
    · cases hG0 : G.1 b with
      | none => rfl
      | some e => rw [cx_mn g_5 n_5 hG0] at q1; cases q1
    · cases hG0 : G.1 a_16 with
      | none => rfl
      | some e =>
        by_cases z : a_16 = x
        · rw [z] at n_16
          rw [h_12] at n_16
          cases n_16
        · have z1 := cx_mn g_5 n_5 hG0
          have z2 := cx_pn g_12 (q3 _ _ (fun y => by rw [y, n_5] at hG0; cases hG0) z1) z
          rw [n_16] at z2
          cases z2
  · have z0 : c ≠ a_5 := fun z => by rw [z, n_5] at he; cases he
    have z1 := cx_pn g_12 (q3 _ _ z0 (cx_mn g_5 n_5 he)) hc
    have z2 : c ≠ a_16 := fun z => by rw [z, n_16] at z1; cases z1
    exact cx_pn g_28 (cx_pn g_23 (cx_pn g_20 (cx_mn g_16 n_16 z1) z2) hc) hc
  · rw [cx_pc g_28, cx_pc g_23, cx_pc g_20]; omega
  · rw [cx_pc g_28, cx_pc g_23, cx_pc g_20]; omega

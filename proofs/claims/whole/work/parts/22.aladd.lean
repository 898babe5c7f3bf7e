/-! ARRAYLIST: growing, adding. -/
set_option maxRecDepth 100000 in
theorem c_AL_grow2a {k : cx_K} {l : Launch} {G : cx_G} {la ed cap : Nat} {xs : List Nat} {mc : Int32} {f : Nat → Option Nat} (h1 : G.1 la = some (.inr (13, [.ref ed, .int (nI xs.length), .int mc]))) (h2 : G.1 ed = some (.inl (k.2.1 3, cap, .inr (.inr (.inr (.inr f)))))) (h3 : ∀ i, i < xs.length → f i = some (xs.getD i 0)) (h4 : xs.length = cap) (h5 : 10 ≤ cap) (hall : ∀ y ∈ xs, cx_any G y) (hm : cap ≤ 100000) (r1 : G.2.1 + 1 ≤ 601024) (r2 : G.2.2 + 2 * cap ≤ 7293034) : cx_Sp k l m_AL_grow2 3 [.ref la, .int (nI (xs.length + 1))] G (tx_alg k G la xs cap mc) := by
  intro E hE
  refine cx_aload_n (i := 0) hE d_AL_grow2_0 rfl rfl ?_
  refine cx_get hE d_AL_grow2_1 f_AL_9 (by assumption) (by rfl) ?_
  refine cx_alen 3 hE d_AL_grow2_4 rfl (by assumption) rfl ?_
  refine cx_istore_n (i := 2) hE d_AL_grow2_5 rfl (by decide) ?_
  refine cx_iload_n (i := 2) hE d_AL_grow2_6 rfl rfl ?_
  refine cx_if_gt (tgt := 20)  hE d_AL_grow2_7 (by decide) (fun c_7 => ?_) (fun c_7 => ?_)
  · refine cx_iload_n (i := 2) hE d_AL_grow2_20 rfl rfl ?_
    refine cx_iload_n (i := 1) hE d_AL_grow2_21 rfl rfl ?_
    refine cx_iload_n (i := 2) hE d_AL_grow2_22 rfl rfl ?_
    refine cx_isub hE d_AL_grow2_23 ?_
    rw [show Int32.ofNat cap = nI cap from rfl, pk_sub (by omega), show xs.length + 1 - cap = 1 by omega]
    refine cx_iload_n (i := 2) hE d_AL_grow2_24 rfl rfl ?_
    refine cx_iconst (v := 1) hE d_AL_grow2_25 (by decide) ?_
    refine cx_ishr hE d_AL_grow2_26 ?_
    rw [show nI cap >>> ((1 : Int32) &&& 31) = nI (cap / 2) from pk_shrN (by omega) _ 1 (by decide)]
    refine cx_invS1 hE d_AL_grow2_27 l_AL_73 (c_AS_newLength (a := cap) (b := 1) (c := cap / 2) (by omega) (by omega)) rfl (by omega) (Nat.le_of_ble_eq_true rfl) n_AS_newLength (by first | rfl | (simp only [List.map_cons, List.map_nil, cx_rfc]; rfl)) ?_
    rw [show cap + max 1 (cap / 2) = cap + cap / 2 by omega]
    refine cx_istore_n (i := 3) hE d_AL_grow2_30 rfl (by decide) ?_
    refine cx_aload_n (i := 0) hE d_AL_grow2_31 rfl rfl ?_
    refine cx_aload_n (i := 0) hE d_AL_grow2_32 rfl rfl ?_
    refine cx_get hE d_AL_grow2_33 f_AL_9 (by assumption) (by rfl) ?_
    refine cx_iload_n (i := 3) hE d_AL_grow2_36 rfl rfl ?_
    refine cx_invS hE d_AL_grow2_37 l_AL_66 (c_Ar_copyOf2 (m := cap + cap / 2) h2 (fun j hj y hy => hall y (by rw [h3 j (by omega)] at hy; cases hy; rw [List.getD_eq_getElem?_getD, List.getElem?_eq_getElem (by omega)]; exact List.getElem_mem _)) (by omega) (by omega) (by omega) (by omega)) rfl (by omega) (Nat.le_of_ble_eq_true rfl) n_Ar_copyOf2 (by rfl) (fun v G1 q => ?_) (fun a G1 q => by obtain ⟨_, _, q, _⟩ := q; cases q)
    obtain ⟨a1, g1, q0, q1, q2, q3, q4, q5, q6⟩ := q
    cases q0
    show cx_V E _ _ [.ref a1, .ref la] G1
    have h11 := q2 _ _ h1
    refine cx_dup_x1 hE d_AL_grow2_40 ?_
    refine cx_putg hE d_AL_grow2_41 f_AL_9 (by assumption) (Nat.le_of_ble_eq_true rfl) (by first | rfl | exact cx_nr _ _) (by first | rfl | exact cx_fr _ _) (fun G_41 g_41 h_41 => ?_)
    refine cx_aret (r := some a1) hE d_AL_grow2_44 rfl (by first | exact Or.inl ⟨_, rfl⟩ | exact Or.inr ⟨_, rfl⟩) ?_
    refine ⟨a1, cap + cap / 2, g1, rfl, q1, ?_, fun i hi => (q4 i (by omega)).trans (h3 i hi), ?_, fun b e hb he => ?_, ?_, ?_, by omega, by omega, by omega, by omega⟩
    · exact cx_pn g_41 q3 (cx_neB h11 q3)
    · exact h_41
    · exact cx_pn g_41 (q2 _ _ he) hb
    · subst g_41; exact q5
    · subst g_41; exact q6
  · exact absurd (nI_lt (a := 0) (b := cap) (by omega) (by omega)) c_7
    -- end
set_option maxRecDepth 100000 in
theorem c_AL_grow2d {k : cx_K} {l : Launch} {G : cx_G} {la : Nat} {mc : Int32} (h1 : G.1 la = some (.inr (13, [.ref (k.2.2.2.2.2.1 0), .int 0, .int mc]))) (r1 : G.2.1 + 1 ≤ 601024) (r2 : G.2.2 + 10 ≤ 7293034) : cx_Sp k l m_AL_grow2 3 [.ref la, .int (nI 1)] G (tx_alg k G la [] 0 mc) := by
  intro E hE
  refine cx_aload_n (i := 0) hE d_AL_grow2_0 rfl rfl ?_
  refine cx_get hE d_AL_grow2_1 f_AL_9 (by assumption) (by rfl) ?_
  refine cx_dfln hE d_AL_grow2_4 ?_
  refine cx_istore_n (i := 2) hE d_AL_grow2_5 rfl (by decide) ?_
  refine cx_iload_n (i := 2) hE d_AL_grow2_6 rfl rfl ?_
  refine cx_if_gt (tgt := 20)  hE d_AL_grow2_7 (by decide) (fun c_7 => ?_) (fun c_7 => ?_)
  · exact absurd c_7 (by decide)
    -- end
  · refine cx_aload_n (i := 0) hE d_AL_grow2_10 rfl rfl ?_
    refine cx_get hE d_AL_grow2_11 f_AL_9 (by assumption) (by rfl) ?_
    refine cx_dflt hE d_AL_grow2_14 (in_1 (List.mem_of_getElem? (i := 73) rfl)) ?_
    refine cx_acmp_eq (tgt := 45) (rx := some (k.2.2.2.2.2.1 0)) (ry := some (k.2.2.2.2.2.1 0)) hE d_AL_grow2_17 (by decide) (fun c_17 => ?_) (fun c_17 => ?_)
    · refine cx_aload_n (i := 0) hE d_AL_grow2_45 rfl rfl ?_
      refine cx_bipush (v := 10) hE d_AL_grow2_46 (by decide) ?_
      refine cx_iload_n (i := 1) hE d_AL_grow2_48 rfl rfl ?_
      refine cx_mmax hE d_AL_grow2_49 (in_5 (List.mem_of_getElem? (i := 2) rfl)) (in_3 (List.mem_of_getElem? (i := 55) rfl)) (in_1 (List.mem_of_getElem? (i := 12) rfl)) (in_3 (List.mem_of_getElem? (i := 56) rfl)) (by omega) (Nat.le_of_ble_eq_true rfl) ?_
      rw [show (if (10 : Int32) < nI 1 then nI 1 else 10) = nI 10 from by decide]
      refine cx_newq 3 (N' := 10) hE d_AL_grow2_52 (in_5 (List.mem_of_getElem? (i := 3) rfl)) (in_5 (List.mem_of_getElem? (i := 0) rfl)) rfl rfl (nI_pos (by omega)) (nI_clamp (by omega)) (by omega) (by show _ ≤ 601024; omega) (by show _ ≤ 7293034; omega) (fun a_52 n_52 b_52 => ?_)
      refine cx_gen (fun G_52 g_52 => ?_)
      have h_52 := cx_ms g_52
      have hb_52 := cx_mn g_52 n_52 h1
      refine cx_dup_x1 hE d_AL_grow2_55 ?_
      refine cx_putg hE d_AL_grow2_56 f_AL_9 (by assumption) (Nat.le_of_ble_eq_true rfl) (by first | rfl | exact cx_nr _ _) (by first | rfl | exact cx_fr _ _) (fun G_56 g_56 h_56 => ?_)
      refine cx_aret (r := some a_52) hE d_AL_grow2_59 rfl (by first | exact Or.inl ⟨_, rfl⟩ | exact Or.inr ⟨_, rfl⟩) ?_
      refine ⟨a_52, 10, fun _ => none, rfl, n_52, ?_, fun i hi => absurd hi (Nat.not_lt_zero _), ?_, fun b e hb he => ?_, ?_, ?_, by omega, by omega, by omega, by omega⟩
      · exact cx_pn g_56 h_52 (cx_neB hb_52 h_52)
      · exact h_56
      · exact cx_pn g_56 (cx_mn g_52 n_52 he) hb
      · subst g_56 g_52; rfl
      · subst g_56 g_52; rfl
    · exact absurd rfl c_17
      -- end
set_option maxRecDepth 100000 in
theorem c_AL_grow1a {k : cx_K} {l : Launch} {G : cx_G} {la ed cap : Nat} {xs : List Nat} {mc : Int32} {f : Nat → Option Nat} (h1 : G.1 la = some (.inr (13, [.ref ed, .int (nI xs.length), .int mc]))) (h2 : G.1 ed = some (.inl (k.2.1 3, cap, .inr (.inr (.inr (.inr f)))))) (h3 : ∀ i, i < xs.length → f i = some (xs.getD i 0)) (h4 : xs.length = cap) (h5 : 10 ≤ cap) (hall : ∀ y ∈ xs, cx_any G y) (hm : cap ≤ 100000) (r1 : G.2.1 + 1 ≤ 601024) (r2 : G.2.2 + 2 * cap ≤ 7293034) : cx_Sp k l m_AL_grow1 4 [.ref la] G (tx_alg k G la xs cap mc) := by
  intro E hE
  refine cx_aload_n (i := 0) hE d_AL_grow1_0 rfl rfl ?_
  refine cx_aload_n (i := 0) hE d_AL_grow1_1 rfl rfl ?_
  refine cx_get hE d_AL_grow1_2 f_AL_48 (by assumption) (by rfl) ?_
  refine cx_iconst (v := 1) hE d_AL_grow1_5 (by decide) ?_
  refine cx_iadd hE d_AL_grow1_6 ?_
  rw [nI_1]
  refine cx_invV hE d_AL_grow1_7 l_AL_69 h1 (c_AL_grow2a h1 h2 h3 h4 h5 hall hm r1 r2) rfl (by omega) (Nat.le_of_ble_eq_true rfl) n_AL_grow2 (by rfl) (fun v G1 q => ?_) (fun a G1 q => by obtain ⟨_, _, _, q, _⟩ := q; cases q)
  obtain ⟨a1, cap1, f1, q0, q⟩ := q
  cases q0
  show cx_V E _ _ [.ref a1] G1
  refine cx_aret (r := some a1) hE d_AL_grow1_10 rfl (by first | exact Or.inl ⟨_, rfl⟩ | exact Or.inr ⟨_, rfl⟩) ?_
  exact ⟨a1, cap1, f1, rfl, q⟩
set_option maxRecDepth 100000 in
theorem c_AL_grow1d {k : cx_K} {l : Launch} {G : cx_G} {la : Nat} {mc : Int32} (h1 : G.1 la = some (.inr (13, [.ref (k.2.2.2.2.2.1 0), .int 0, .int mc]))) (r1 : G.2.1 + 1 ≤ 601024) (r2 : G.2.2 + 10 ≤ 7293034) : cx_Sp k l m_AL_grow1 4 [.ref la] G (tx_alg k G la [] 0 mc) := by
  intro E hE
  refine cx_aload_n (i := 0) hE d_AL_grow1_0 rfl rfl ?_
  refine cx_aload_n (i := 0) hE d_AL_grow1_1 rfl rfl ?_
  refine cx_get hE d_AL_grow1_2 f_AL_48 (by assumption) (by rfl) ?_
  refine cx_iconst (v := 1) hE d_AL_grow1_5 (by decide) ?_
  refine cx_iadd hE d_AL_grow1_6 ?_
  refine cx_invV hE d_AL_grow1_7 l_AL_69 h1 (c_AL_grow2d h1 r1 r2) rfl (by omega) (Nat.le_of_ble_eq_true rfl) n_AL_grow2 (by rfl) (fun v G1 q => ?_) (fun a G1 q => by obtain ⟨_, _, _, q, _⟩ := q; cases q)
  obtain ⟨a1, cap1, f1, q0, q⟩ := q
  cases q0
  show cx_V E _ _ [.ref a1] G1
  refine cx_aret (r := some a1) hE d_AL_grow1_10 rfl (by first | exact Or.inl ⟨_, rfl⟩ | exact Or.inr ⟨_, rfl⟩) ?_
  exact ⟨a1, cap1, f1, rfl, q⟩
set_option maxRecDepth 100000 in
theorem c_AL_add2a {k : cx_K} {l : Launch} {G : cx_G} {x : Nat} (hx : cx_any G x) {la ed cap : Nat} {xs : List Nat} {mc : Int32} {f : Nat → Option Nat} (h1 : G.1 la = some (.inr (13, [.ref ed, .int (nI xs.length), .int mc]))) (h2 : G.1 ed = some (.inl (k.2.1 3, cap, .inr (.inr (.inr (.inr f)))))) (h3 : ∀ i, i < xs.length → f i = some (xs.getD i 0)) (h4 : xs.length ≤ cap) (h6 : cap ≤ 10 + 2 * xs.length) (h5 : 10 ≤ cap) (hall : ∀ y ∈ xs, cx_any G y) (hm : cap ≤ 100000) (r1 : G.2.1 + 1 ≤ 601024) (r2 : G.2.2 + 2 * cap ≤ 7293034) : cx_Sp k l m_AL_add2 5 [.ref la, .ref x, .ref ed, .int (nI xs.length)] G (fun r G1 => r = .inl none ∧ tx_alp k G la ed xs cap x G1) := by
  intro E hE
  refine cx_iload_n (i := 3) hE d_AL_add2_0 rfl rfl ?_
  refine cx_aload_n (i := 2) hE d_AL_add2_1 rfl rfl ?_
  refine cx_alen 3 hE d_AL_add2_2 rfl (by assumption) rfl ?_
  refine cx_icmp_ne (tgt := 11)  hE d_AL_add2_3 (by decide) (fun c_3 => ?_) (fun c_3 => ?_)
  · have c_q : xs.length < cap := by
      have : ¬ xs.length = cap := fun z => c_3 (by rw [z]; rfl)
      omega
    refine cx_aload_n (i := 2) hE d_AL_add2_11 rfl rfl ?_
    refine cx_iload_n (i := 3) hE d_AL_add2_12 rfl rfl ?_
    refine cx_aload_n (i := 1) hE d_AL_add2_13 rfl rfl ?_
    refine cx_aastM (v := x) hE d_AL_add2_14 h2 hx (vp_in_nI (by omega) (by omega)) ?_
    rw [nI_clamp (by omega)]
    have hl14 := cx_pn (rfl : cx_put G ed (.inl (k.2.1 3, cap, .inr (.inr (.inr (.inr (va_up f xs.length (some x))))))) = _) h1 (cx_neA h2 h1)
    refine cx_aload_n (i := 0) hE d_AL_add2_15 rfl rfl ?_
    refine cx_iload_n (i := 3) hE d_AL_add2_16 rfl rfl ?_
    refine cx_iconst (v := 1) hE d_AL_add2_17 (by decide) ?_
    refine cx_iadd hE d_AL_add2_18 ?_
    rw [nI_1]
    refine cx_putg hE d_AL_add2_19 f_AL_48 (by assumption) (Nat.le_of_ble_eq_true rfl) (by first | rfl | exact cx_nr _ _) (by first | rfl | exact cx_fr _ _) (fun G_19 g_19 h_19 => ?_)
    refine cx_vret hE d_AL_add2_22 rfl ?_
    have e1 : G_19 = cx_put (cx_put G ed (.inl (k.2.1 3, cap, .inr (.inr (.inr (.inr (va_up f xs.length (some x)))))))) la (.inr (13, [.ref ed, .int (nI (xs.length + 1)), .int mc])) := by
      rw [← g_19]
      rfl
    refine ⟨rfl, ed, cap, ?_, Or.inl ⟨rfl, by omega⟩, fun b e hb hb2 he => ?_, ?_, ?_, ?_, ?_⟩
    · rw [e1]
      exact tx_al.app h1 h2 h3 c_q h5 (by omega)
    · rw [e1]
      exact cx_pn rfl (cx_pn rfl he (hb2.resolve_left (by omega))) hb
    · rw [e1]
      exact Nat.le_refl _
    · rw [e1]
      show G.2.1 ≤ _
      omega
    · rw [e1]
      exact Nat.le_refl _
    · rw [e1]
      exact Nat.le_refl _
  · have c_q : xs.length = cap := (nI_eq (by omega) (by omega)).mp c_3
    refine cx_aload_n (i := 0) hE d_AL_add2_6 rfl rfl ?_
    refine cx_invV hE d_AL_add2_7 l_AL_129 h1 (c_AL_grow1a h1 h2 h3 c_q h5 hall hm r1 r2) rfl (by omega) (Nat.le_of_ble_eq_true rfl) n_AL_grow1 (by rfl) (fun v G1 q => ?_) (fun a G1 q => by obtain ⟨_, _, _, q, _⟩ := q; cases q)
    obtain ⟨a1, cap1, f1, q0, q1, q2, q3, q4, q5, q6, q7, q8, q9, q10, q11⟩ := q
    cases q0
    show cx_V E _ _ [.ref a1] G1
    have hx1 : cx_any G1 x := by
      obtain ⟨ci, fs, r, z1, z2⟩ := hx
      by_cases z : x = la
      · rw [z] at z1 ⊢
        rw [h1] at z1
        cases z1
        exact ⟨_, _, r, q4, z2⟩
      · exact ⟨ci, fs, r, q5 _ _ z z1, z2⟩
    refine cx_astore_n (i := 2) hE d_AL_add2_10 rfl (by decide) ?_
    refine cx_aload_n (i := 2) hE d_AL_add2_11 rfl rfl ?_
    refine cx_iload_n (i := 3) hE d_AL_add2_12 rfl rfl ?_
    refine cx_aload_n (i := 1) hE d_AL_add2_13 rfl rfl ?_
    refine cx_aastM (v := x) hE d_AL_add2_14 q2 hx1 (vp_in_nI (by omega) (by omega)) ?_
    rw [nI_clamp (by omega)]
    have hl14 := cx_pn (rfl : cx_put G1 a1 (.inl (k.2.1 3, cap1, .inr (.inr (.inr (.inr (va_up f1 (xs).length (some x))))))) = _) q4 (cx_neA q2 q4)
    refine cx_aload_n (i := 0) hE d_AL_add2_15 rfl rfl ?_
    refine cx_iload_n (i := 3) hE d_AL_add2_16 rfl rfl ?_
    refine cx_iconst (v := 1) hE d_AL_add2_17 (by decide) ?_
    refine cx_iadd hE d_AL_add2_18 ?_
    rw [nI_1]
    refine cx_putg hE d_AL_add2_19 f_AL_48 (by assumption) (Nat.le_of_ble_eq_true rfl) (by first | rfl | exact cx_nr _ _) (by first | rfl | exact cx_fr _ _) (fun G_19 g_19 h_19 => ?_)
    refine cx_vret hE d_AL_add2_22 rfl ?_
    have e1 : G_19 = cx_put (cx_put G1 a1 (.inl (k.2.1 3, cap1, .inr (.inr (.inr (.inr (va_up f1 (xs).length (some x)))))))) la (.inr (13, [.ref a1, .int (nI ((xs).length + 1)), .int mc])) := by
      rw [← g_19]
      rfl
    refine ⟨rfl, a1, cap1, ?_, Or.inr q1, fun b e hb hb2 he => ?_, ?_, ?_, ?_, ?_⟩
    · rw [e1]
      exact tx_al.app q4 q2 q3 (by omega) q9 q10
    · rw [e1]
      exact cx_pn rfl (cx_pn rfl (q5 _ _ hb he) (fun z => by rw [z, q1] at he; cases he)) hb
    · rw [e1]
      show G.2.1 ≤ G1.2.1
      omega
    · rw [e1]
      show G1.2.1 ≤ _
      omega
    · rw [e1]
      show G.2.2 ≤ G1.2.2
      omega
    · rw [e1]
      show G1.2.2 + _ ≤ _
      omega
set_option maxRecDepth 100000 in
theorem c_AL_add2d {k : cx_K} {l : Launch} {G : cx_G} {x : Nat} (hx : cx_any G x) {la : Nat} {mc : Int32} (h1 : G.1 la = some (.inr (13, [.ref (k.2.2.2.2.2.1 0), .int 0, .int mc]))) (r1 : G.2.1 + 1 ≤ 601024) (r2 : G.2.2 + 10 ≤ 7293034) : cx_Sp k l m_AL_add2 5 [.ref la, .ref x, .ref (k.2.2.2.2.2.1 0), .int 0] G (fun r G1 => r = .inl none ∧ tx_alp k G la (k.2.2.2.2.2.1 0) [] 0 x G1) := by
  intro E hE
  refine cx_iload_n (i := 3) hE d_AL_add2_0 rfl rfl ?_
  refine cx_aload_n (i := 2) hE d_AL_add2_1 rfl rfl ?_
  refine cx_dfln hE d_AL_add2_2 ?_
  refine cx_icmp_ne (tgt := 11)  hE d_AL_add2_3 (by decide) (fun c_3 => ?_) (fun c_3 => ?_)
  · exact absurd rfl c_3
    -- end
  · refine cx_aload_n (i := 0) hE d_AL_add2_6 rfl rfl ?_
    refine cx_invV hE d_AL_add2_7 l_AL_129 h1 (c_AL_grow1d h1 r1 r2) rfl (by omega) (Nat.le_of_ble_eq_true rfl) n_AL_grow1 (by rfl) (fun v G1 q => ?_) (fun a G1 q => by obtain ⟨_, _, _, q, _⟩ := q; cases q)
    obtain ⟨a1, cap1, f1, q0, q1, q2, q3, q4, q5, q6, q7, q8, q9, q10, q11⟩ := q
    cases q0
    show cx_V E _ _ [.ref a1] G1
    have hx1 : cx_any G1 x := by
      obtain ⟨ci, fs, r, z1, z2⟩ := hx
      by_cases z : x = la
      · rw [z] at z1 ⊢
        rw [h1] at z1
        cases z1
        exact ⟨_, _, r, q4, z2⟩
      · exact ⟨ci, fs, r, q5 _ _ z z1, z2⟩
    refine cx_astore_n (i := 2) hE d_AL_add2_10 rfl (by decide) ?_
    refine cx_aload_n (i := 2) hE d_AL_add2_11 rfl rfl ?_
    refine cx_iload_n (i := 3) hE d_AL_add2_12 rfl rfl ?_
    refine cx_aload_n (i := 1) hE d_AL_add2_13 rfl rfl ?_
    have hz : ([] : List Nat).length = 0 := rfl
    rw [hz] at q10
    refine cx_aastM (i := nI 0) (v := x) hE d_AL_add2_14 q2 hx1 (vp_in_nI (by omega) (by omega)) ?_
    have hl14 := cx_pn (rfl : cx_put G1 a1 (.inl (k.2.1 3, cap1, .inr (.inr (.inr (.inr (va_up f1 (nI 0).toNatClampNeg (some x))))))) = _) q4 (cx_neA q2 q4)
    refine cx_aload_n (i := 0) hE d_AL_add2_15 rfl rfl ?_
    refine cx_iload_n (i := 3) hE d_AL_add2_16 rfl rfl ?_
    refine cx_iconst (v := 1) hE d_AL_add2_17 (by decide) ?_
    refine cx_iadd hE d_AL_add2_18 ?_
    refine cx_putg hE d_AL_add2_19 f_AL_48 (by assumption) (Nat.le_of_ble_eq_true rfl) (by first | rfl | exact cx_nr _ _) (by first | rfl | exact cx_fr _ _) (fun G_19 g_19 h_19 => ?_)
    refine cx_vret hE d_AL_add2_22 rfl ?_
    have e1 : G_19 = cx_put (cx_put G1 a1 (.inl (k.2.1 3, cap1, .inr (.inr (.inr (.inr (va_up f1 (([] : List Nat)).length (some x)))))))) la (.inr (13, [.ref a1, .int (nI ((([] : List Nat)).length + 1)), .int mc])) := by
      rw [← g_19]
      rfl
    refine ⟨rfl, a1, cap1, ?_, Or.inr q1, fun b e hb hb2 he => ?_, ?_, ?_, ?_, ?_⟩
    · rw [e1]
      exact tx_al.app q4 q2 q3 (by omega) q9 q10
    · rw [e1]
      exact cx_pn rfl (cx_pn rfl (q5 _ _ hb he) (fun z => by rw [z, q1] at he; cases he)) hb
    · rw [e1]
      show G.2.1 ≤ G1.2.1
      omega
    · rw [e1]
      show G1.2.1 ≤ _
      omega
    · rw [e1]
      show G.2.2 ≤ G1.2.2
      omega
    · rw [e1]
      show G1.2.2 + _ ≤ _
      omega
set_option maxRecDepth 100000 in
theorem c_AL_add1 {k : cx_K} {l : Launch} {G : cx_G} {la ed cap x : Nat} {xs : List Nat} (hl : tx_al k G la ed xs cap) (hx : cx_any G x) (hall : ∀ y ∈ xs, cx_any G y) (hm : cap ≤ 100000) (r1 : G.2.1 + 1 ≤ 601024) (r2 : G.2.2 + 2 * cap + 10 ≤ 7293034) : cx_Sp k l m_AL_add1 6 [.ref la, .ref x] G (fun r G1 => r = .inl (some (.int 1)) ∧ tx_alp k G la ed xs cap x G1) := by
  intro E hE
  obtain ⟨⟨mc, h1⟩, hl⟩ := hl
  rcases hl with ⟨h2, h3, h4⟩ | ⟨f, h2, h5, h4, h6, h3⟩
  · subst h2 h3 h4
    refine cx_aload_n (i := 0) hE d_AL_add1_0 rfl rfl ?_
    refine cx_dup hE d_AL_add1_1 ?_
    refine cx_getS hE d_AL_add1_2 fs_AL_63 h1 rfl ?_
    refine cx_iconst (v := 1) hE d_AL_add1_5 (by decide) ?_
    refine cx_iadd hE d_AL_add1_6 ?_
    refine cx_putS hE d_AL_add1_7 fs_AL_63 h1 (Nat.le_of_ble_eq_true rfl) rfl rfl (fun G_7 g_7 h_7 => ?_)
    have hx7 : cx_any G_7 x := by
      obtain ⟨ci, fs, r, z1, z2⟩ := hx
      by_cases z : x = la
      · rw [z] at z1 ⊢
        rw [h1] at z1
        cases z1
        exact ⟨_, _, r, h_7, z2⟩
      · exact ⟨ci, fs, r, cx_pn g_7 z1 z, z2⟩
    refine cx_aload_n (i := 0) hE d_AL_add1_10 rfl rfl ?_
    refine cx_aload_n (i := 1) hE d_AL_add1_11 rfl rfl ?_
    refine cx_aload_n (i := 0) hE d_AL_add1_12 rfl rfl ?_
    refine cx_get hE d_AL_add1_13 f_AL_9 (by assumption) (by rfl) ?_
    refine cx_aload_n (i := 0) hE d_AL_add1_16 rfl rfl ?_
    refine cx_get hE d_AL_add1_17 f_AL_48 (by assumption) (by rfl) ?_
    refine cx_invV hE d_AL_add1_20 l_AL_131 h_7 (c_AL_add2d hx7 h_7 (by subst g_7; exact r1) (by subst g_7; show G.2.2 + 10 ≤ _; omega)) rfl (by omega) (Nat.le_of_ble_eq_true rfl) n_AL_add2 (by rfl) (fun v G1 q => ?_) (fun a G1 q => by obtain ⟨q, _⟩ := q; cases q)
    obtain ⟨q0, q⟩ := q
    cases q0
    show cx_V E _ _ [] G1
    refine cx_iconst (v := 1) hE d_AL_add1_23 (by decide) ?_
    refine cx_iret hE d_AL_add1_24 rfl rfl ?_
    refine ⟨rfl, ?_⟩
    obtain ⟨ed1, cap1, q1, q2, q3, q4, q5, q6, q7⟩ := q
    refine ⟨ed1, cap1, q1, ?_, fun b e hb hb2 he => q3 b e hb hb2 (cx_pn g_7 he hb), ?_, ?_, ?_, ?_⟩
    · rcases q2 with q2 | q2
      · exact Or.inl q2
      · refine Or.inr ?_
        have hz : ed1 ≠ la := fun z => by rw [z, h_7] at q2; cases q2
        subst g_7
        rw [← q2]
        exact (if_neg hz).symm
    · subst g_7; exact q4
    · subst g_7; exact q5
    · subst g_7; exact q6
    · subst g_7; exact q7
  · refine cx_aload_n (i := 0) hE d_AL_add1_0 rfl rfl ?_
    refine cx_dup hE d_AL_add1_1 ?_
    refine cx_getS hE d_AL_add1_2 fs_AL_63 h1 rfl ?_
    refine cx_iconst (v := 1) hE d_AL_add1_5 (by decide) ?_
    refine cx_iadd hE d_AL_add1_6 ?_
    refine cx_putS hE d_AL_add1_7 fs_AL_63 h1 (Nat.le_of_ble_eq_true rfl) rfl rfl (fun G_7 g_7 h_7 => ?_)
    have hx7 : cx_any G_7 x := by
      obtain ⟨ci, fs, r, z1, z2⟩ := hx
      by_cases z : x = la
      · rw [z] at z1 ⊢
        rw [h1] at z1
        cases z1
        exact ⟨_, _, r, h_7, z2⟩
      · exact ⟨ci, fs, r, cx_pn g_7 z1 z, z2⟩
    refine cx_aload_n (i := 0) hE d_AL_add1_10 rfl rfl ?_
    refine cx_aload_n (i := 1) hE d_AL_add1_11 rfl rfl ?_
    refine cx_aload_n (i := 0) hE d_AL_add1_12 rfl rfl ?_
    refine cx_get hE d_AL_add1_13 f_AL_9 (by assumption) (by rfl) ?_
    refine cx_aload_n (i := 0) hE d_AL_add1_16 rfl rfl ?_
    refine cx_get hE d_AL_add1_17 f_AL_48 (by assumption) (by rfl) ?_
    have hall7 : ∀ y ∈ xs, cx_any G_7 y := (fun y hy => by
      obtain ⟨ci, fs, r, z1, z2⟩ := hall y hy
      by_cases z : y = la
      · rw [z] at z1 ⊢
        rw [h1] at z1
        cases z1
        exact ⟨_, _, r, h_7, z2⟩
      · exact ⟨ci, fs, r, cx_pn g_7 z1 z, z2⟩)
    refine cx_invV hE d_AL_add1_20 l_AL_131 h_7 (c_AL_add2a hx7 h_7 (cx_pn g_7 h2 (cx_neB h1 h2)) h3 h4 h6 h5 hall7 hm (by subst g_7; exact r1) (by subst g_7; show G.2.2 + 2 * cap ≤ _; omega)) rfl (by omega) (Nat.le_of_ble_eq_true rfl) n_AL_add2 (by rfl) (fun v G1 q => ?_) (fun a G1 q => by obtain ⟨q, _⟩ := q; cases q)
    obtain ⟨q0, q⟩ := q
    cases q0
    show cx_V E _ _ [] G1
    refine cx_iconst (v := 1) hE d_AL_add1_23 (by decide) ?_
    refine cx_iret hE d_AL_add1_24 rfl rfl ?_
    refine ⟨rfl, ?_⟩
    obtain ⟨ed1, cap1, q1, q2, q3, q4, q5, q6, q7⟩ := q
    refine ⟨ed1, cap1, q1, ?_, fun b e hb hb2 he => q3 b e hb hb2 (cx_pn g_7 he hb), ?_, ?_, ?_, ?_⟩
    · rcases q2 with q2 | q2
      · exact Or.inl q2
      · refine Or.inr ?_
        have hz : ed1 ≠ la := fun z => by rw [z, h_7] at q2; cases q2
        subst g_7
        rw [← q2]
        exact (if_neg hz).symm
    · subst g_7; exact q4
    · subst g_7; exact q5
    · subst g_7; exact q6
    · subst g_7; exact q7
set_option maxRecDepth 100000 in
theorem c_Ar_copyOf1 {k : cx_K} {l : Launch} {G : cx_G} {b n m : Nat} {f : Nat → Int32} (hG : G.1 b = some (.inl (k.2.1 0, n, .inl f))) (hf : ∀ j, fits .byte (.int (f j)) = true) (hnm : n < m) (hm : m ≤ 1048576) (r1 : G.2.1 + 1 ≤ 601024) (r2 : G.2.2 + m ≤ 7293034) : cx_Sp k l m_Ar_copyOf1 1 [.ref b, .int (nI m)] G (fun r G1 => ∃ a g, r = .inl (some (.ref a)) ∧ G.1 a = none ∧ cx_ext G G1 ∧ G1.1 a = some (.inl (k.2.1 0, m, .inl g)) ∧ (∀ j, j < n → g j = f j) ∧ (∀ j, fits .byte (.int (g j)) = true) ∧ G1.2.1 = G.2.1 + 1 ∧ G1.2.2 = G.2.2 + m) := by
  intro E hE
  refine cx_iload_n (i := 1) hE d_Ar_copyOf1_0 rfl rfl ?_
  refine cx_aload_n (i := 0) hE d_Ar_copyOf1_1 rfl rfl ?_
  refine cx_alen 0 hE d_Ar_copyOf1_2 rfl (by assumption) rfl ?_
  refine cx_icmp_ne (tgt := 14)  hE d_Ar_copyOf1_3 (by decide) (fun c_3 => ?_) (fun c_3 => ?_)
  · refine cx_iload_n (i := 1) hE d_Ar_copyOf1_14 rfl rfl ?_
    refine cx_newa 0 (a0 := (m, .inl (fun _ => 0))) (N' := m) hE d_Ar_copyOf1_15 (in_1 (List.mem_of_getElem? (i := 60) rfl)) rfl rfl (fun _ => rfl) (nI_pos (by omega)) (nI_clamp (by omega)) (by show m * 1 ≤ _; omega) (by show _ ≤ 601024; omega) (by show _ ≤ 7293034; omega) (fun a_15 n_15 b_15 => ?_)
    refine cx_gen (fun G_15 g_15 => ?_)
    have h_15 := cx_ms g_15
    have hb_15 := cx_mn g_15 n_15 hG
    refine cx_astore_n (i := 2) hE d_Ar_copyOf1_17 rfl (by decide) ?_
    refine cx_aload_n (i := 0) hE d_Ar_copyOf1_18 rfl rfl ?_
    refine cx_iconst (v := 0) hE d_Ar_copyOf1_19 (by decide) ?_
    refine cx_aload_n (i := 2) hE d_Ar_copyOf1_20 rfl rfl ?_
    refine cx_iconst (v := 0) hE d_Ar_copyOf1_21 (by decide) ?_
    refine cx_aload_n (i := 0) hE d_Ar_copyOf1_22 rfl rfl ?_
    refine cx_alen 0 hE d_Ar_copyOf1_23 rfl (by assumption) rfl ?_
    refine cx_iload_n (i := 1) hE d_Ar_copyOf1_24 rfl rfl ?_
    refine cx_mmin hE d_Ar_copyOf1_25 (in_3 (List.mem_of_getElem? (i := 72) rfl)) (in_2 (List.mem_of_getElem? (i := 171) rfl)) (in_1 (List.mem_of_getElem? (i := 12) rfl)) (in_2 (List.mem_of_getElem? (i := 172) rfl)) (by omega) (Nat.le_of_ble_eq_true rfl) ?_
    rw [show Int32.ofNat n = nI n from rfl, tx_min (by omega) (by omega), Nat.min_eq_left (by omega)]
    refine cx_copyb hE d_Ar_copyOf1_28 (in_3 (List.mem_of_getElem? (i := 73) rfl)) (in_3 (List.mem_of_getElem? (i := 75) rfl)) (in_3 (List.mem_of_getElem? (i := 74) rfl)) (in_1 (List.mem_of_getElem? (i := 13) rfl)) hb_15 h_15 (by omega) (by omega) (by omega) (sp := 0) (dp := 0) (n := n) (by omega) (by omega) (fun i _ => hf _) (by omega) (Nat.le_of_ble_eq_true rfl) ?_
    refine cx_aload_n (i := 2) hE d_Ar_copyOf1_31 rfl rfl ?_
    refine cx_aret (r := some a_15) hE d_Ar_copyOf1_32 rfl (by first | exact Or.inl ⟨_, rfl⟩ | exact Or.inr ⟨_, rfl⟩) ?_
    subst g_15
    refine ⟨_, _, rfl, n_15, ?_, cx_ps rfl, fun j hj => ?_, cx_fitc hf (fun _ => cx_fit0), rfl, rfl⟩
    · rw [cx_mp]
      exact cx_ext.mk n_15
    · rw [pk_cpy_in (by omega) (by omega), Nat.sub_zero, Nat.zero_add]
  · exact absurd ((nI_eq (by omega) (by omega)).mp c_3) (by omega)
    -- end

/-! THE FACE: read, as the class does it. -/
theorem cx_ext.no {G G' : cx_G} (h : cx_ext G G') {a : Nat} (ha : G'.1 a = none) : G.1 a = none := by
  cases hG : G.1 a with
  | none => rfl
  | some e => rw [h _ _ hG] at ha; cases ha
theorem ct_U.kp {k : cx_K} {G G' : cx_G} {A : tx_A} {us : List tx_U} {b : Nat} {X : va_E → Prop} (h : tx_kp X G G') (h1 : ∀ (c : Nat) (fs : List Value), c ≠ 0 → c ≠ 6 → ¬ X (.inr (c, fs))) (h2 : ∀ z, ¬ X (.inl z)) (hU : ct_U k G A us b) : ct_U k G' A us b := by
  obtain ⟨u1, u2, u3, u4, u5, u6⟩ := hU
  refine ⟨u1.kp h (fun _ => h1 _ _ (by decide) (by decide)) h2, u2.kp h (fun _ => h1 _ _ (by decide) (by decide)), u3.kp h (fun _ => h1 _ _ (by decide) (by decide)) h2, u4.kp h (fun _ => h1 _ _ (by decide) (by decide)), fun T a ha => ?_, u6⟩
  obtain ⟨tb, x1, x2, x3, x4, g, z1, z2, z3⟩ := u5 T a ha
  exact ⟨tb, x1, x2, x3, x4, g, h _ _ (h1 _ _ (by decide) (by decide)) z1, h _ _ (h2 _) z2, z3⟩
theorem ct_F.kp {S : Nat → Prop} {G G' : cx_G} {A : tx_A} {us : List tx_U} (h : ∀ T a, A.wf T = some a → G'.1 a = G.1 a) (hF : ct_F S G A us) : ct_F S G' A us := by
  obtain ⟨f1, f2, f3, f4⟩ := hF
  exact ⟨f1, f2, f3, fun T a ha => ⟨(f4 T a ha).1, (f4 T a ha).2.1, fun tb fs z => (f4 T a ha).2.2 tb fs (by rw [← h T a ha]; exact z)⟩⟩
/-- the tape is empty, the fault and perhaps the modules are new -/
theorem ct_R.fin {k : cx_K} {G G2 G3 G4 : cx_G} {x ta b n cap : Nat} {f : Nat → Int32} {ft ft' : Int32} {A A' : tx_A} {us us' : List tx_U} (hR : ct_R k G x ta b n cap f ft A us) (hext : cx_ext G G2) (hU : ct_U k G2 A' us' b) (h3 : cx_put G2 ta (.inr (6, [.ref b, .int (nI 0)])) = G3) (h4 : G4.1 x = some (.inr (0, [.ref ta, .ref A'.ul, .int ft']))) (h5 : ∀ c e, c ≠ x → G3.1 c = some e → G4.1 c = some e) : ct_R k G4 x ta b 0 cap f ft' A' us' := by
  obtain ⟨hx, ⟨t1, t2, t3, t4, t5, t6⟩, -⟩ := hR
  have ht2 := hext _ _ t1
  have hx2 := hext _ _ hx
  have hk3 : tx_kp (tx_is 6) G2 G3 := by rw [← h3]; exact tx_kp.put ht2
  have hx3 := hk3 _ _ (tx_is_ne (by decide)) hx2
  have hk4 : tx_kp (tx_is 0) G3 G4 := fun c e hX hc => h5 c e (fun z => hX (by rw [z, hx3] at hc; cases hc; exact ⟨_, rfl⟩)) hc
  exact ⟨h4, ⟨hk4 _ _ (tx_is_ne (by decide)) (cx_ps h3), hk4 _ _ tx_is_na (hk3 _ _ tx_is_na (hext _ _ t2)), Nat.zero_le _, t4, t5, t6⟩, (hU.kp hk3 (fun c fs _ h => tx_is_ne h) (fun _ => tx_is_na)).kp hk4 (fun c fs h _ => tx_is_ne h) (fun _ => tx_is_na)⟩
/-- what read leaves -/
def ct_pr (k : cx_K) (G : cx_G) (x ta b n cap : Nat) (f : Nat → Int32) (A : tx_A) (us : List tx_U) : cx_R → cx_G → Prop := fun r G' => ∃ A', r = .inl (some (.int (ct_rd n f us).1)) ∧ ct_R k G' x ta b 0 cap f (ct_rd n f us).2.1 A' (ct_rd n f us).2.2 ∧ ((A' = A ∧ (ct_rd n f us).2.2 = us) ∨ ct_F (fun c => ∃ e, G.1 c = some e) G' A' (ct_rd n f us).2.2) ∧ (∀ c e, c ≠ x → c ≠ ta → G.1 c = some e → G'.1 c = some e) ∧ G'.2.1 ≤ G.2.1 + 70 + 8 * (n + 1) ∧ G'.2.2 ≤ G.2.2 + 1000 + 120 * (n + 1)
theorem tx_cn.len {k : cx_K} {G : cx_G} : ∀ (xs : List (Nat × List Int32 × Int32)) (r : Option Nat), tx_cn k G r xs → ∀ x ∈ xs, x.2.1.length ≤ 1000000
  | [], _, _, _, h => by cases h
  | x :: xs, _, ⟨q1, q2, nx, q3, q4⟩, y, h => by
    rcases List.mem_cons.mp h with z | z
    · rw [z]; exact q2
    · exact tx_cn.len xs nx q4 y z
set_option maxRecDepth 100000 in
theorem c_CT_read {k : cx_K} {l : Launch} {G : cx_G} {x ta b n cap : Nat} {f : Nat → Int32} {ft : Int32} {A : tx_A} {us : List tx_U} (hR : ct_R k G x ta b n cap f ft A us) (hfl : l.flags = flags0) (hn : n ≤ 20000) (r1 : G.2.1 + 100 + 8 * (n + 1) ≤ 601024) (r2 : G.2.2 + 2000 + 120 * (n + 1) ≤ 7293034) : cx_Sp k l m_CT_read 563 [.ref x] G (ct_pr k G x ta b n cap f A us) := by
  intro E hE
  obtain ⟨hx, hT, hU⟩ := id hR
  refine cx_newh 2 rfl hE d_CT_read_0 z_CT_47 (by omega) (by omega) (fun a_0 G_0 n_0 b_0 g_0 h_0 => ?_)
  refine cx_dup hE d_CT_read_3 ?_
  refine cx_invI0 hE d_CT_read_4 l_CT_49 (c_Ve_init h_0) rfl (by omega) (Nat.le_of_ble_eq_true rfl) n_Ve_init (by first | rfl | (simp only [List.map_cons, List.map_nil, cx_rfc]; rfl)) ?_
  refine cx_gen (fun G_4 g_4 => ?_)
  have v4 := cx_ps g_4
  have hc0 := cx_mc g_0
  have hc4 : G_4.2 = G_0.2 := cx_pc g_4
  have o4 : cx_ext G G_4 := fun c e h => cx_pn g_4 (cx_mn g_0 n_0 h) (fun z => by rw [z, n_0] at h; cases h)
  have hc41 : G_4.2.1 = G.2.1 + 1 := by rw [hc4]; exact hc0.1
  have hc42 : G_4.2.2 = G.2.2 + 2 := by rw [hc4]; exact hc0.2
  refine cx_astore_n (i := 1) hE d_CT_read_7 rfl (by decide) ?_
  refine cx_newh 3 rfl hE d_CT_read_8 z_CT_50 (by omega) (by omega) (fun a_8 G_8 n_8 b_8 g_8 h_8 => ?_)
  have o8 : cx_ext G G_8 := fun c e h => cx_mn g_8 n_8 (o4 c e h)
  have v8 := cx_mn g_8 n_8 v4
  have hc8 := cx_mc g_8
  refine cx_dup hE d_CT_read_11 ?_
  refine cx_aload_n (i := 1) hE d_CT_read_12 rfl rfl ?_
  refine cx_invI hE d_CT_read_13 l_CT_52 (c_Me_init (ve := a_0) h_8 (by omega) (by omega)) rfl (by omega) (Nat.le_of_ble_eq_true rfl) n_Me_init (by rfl) (fun v G13 q => ?_) (fun a G13 q => by cases q.1)
  obtain ⟨q0, ul, x9, ul8, m13, l13, fr13, c131, c132⟩ := q
  cases q0
  show cx_V E _ _ [.ref a_8] G13
  have o13 : cx_ext G G13 := fun c e h => fr13 c e (fun z => by rw [z, o4.no n_8] at h; cases h) (o8 c e h)
  have v13 := fr13 _ _ (cx_neO h_8 v8 (by decide)) v8
  obtain ⟨⟨mcl, lc13⟩, -⟩ := l13
  refine cx_astore_n (i := 2) hE d_CT_read_16 rfl (by decide) ?_
  refine cx_newh 2 rfl hE d_CT_read_17 z_CT_55 (by omega) (by omega) (fun a_17 G_17 n_17 b_17 g_17 h_17 => ?_)
  have o17 : cx_ext G G_17 := fun c e h => cx_mn g_17 n_17 (o13 c e h)
  have v17 := cx_mn g_17 n_17 v13
  have m17 := cx_mn g_17 n_17 m13
  have lc17 := cx_mn g_17 n_17 lc13
  have hx17 := o17 _ _ hx
  have hc17 := cx_mc g_17
  refine cx_dup hE d_CT_read_20 ?_
  refine cx_aload_n (i := 0) hE d_CT_read_21 rfl rfl ?_
  refine cx_get hE d_CT_read_22 f_CT_10 (by assumption) (by rfl) ?_
  refine cx_invI hE d_CT_read_25 l_CT_57 ((c_Lx_init (k := (cx_wN k (fun t => G.1 t = none))) h_17 (by omega) (by omega) (fun t ht => o17.no ht)).N) rfl (by omega) (Nat.le_of_ble_eq_true rfl) n_Lx_init (by rfl) (fun v G25 q => ?_) (fun a G25 q => by obtain ⟨_, _, _, q, _⟩ := q; cases q)
  obtain ⟨wa, ca, C, q0, x25, W25, O25, N25, wa17, ca17, fr25, c251, c252⟩ := q
  cases q0
  show cx_V E _ _ [.ref a_17] G25
  have ne17 : ∀ c e, G13.1 c = some e → c ≠ a_17 := fun c e h z => by rw [z, n_17] at h; cases h
  have o25 : cx_ext G G25 := fun c e h => fr25 c e (ne17 c e (o13 c e h)) (o17 c e h)
  have v25 := fr25 _ _ (ne17 _ _ v13) v17
  have m25 := fr25 _ _ (ne17 _ _ m13) m17
  have lc25 := fr25 _ _ (ne17 _ _ lc13) lc17
  refine cx_astore_n (i := 3) hE d_CT_read_28 rfl (by decide) ?_
  refine cx_newh 4 rfl hE d_CT_read_29 z_CT_60 (by omega) (by omega) (fun a_29 G_29 n_29 b_29 g_29 h_29 => ?_)
  have o29 : cx_ext G G_29 := fun c e h => cx_mn g_29 n_29 (o25 c e h)
  have v29 := cx_mn g_29 n_29 v25
  have m29 := cx_mn g_29 n_29 m25
  have lc29 := cx_mn g_29 n_29 lc25
  have x29 := cx_mn g_29 n_29 x25
  have W29 := W25.ext (show cx_ext G25 G_29 by rw [← g_29]; exact cx_ext.mk n_29)
  have hL29 : tx_L (cx_wN k (fun t => G.1 t = none)) G_29 a_17 ta wa n f := ⟨x29, b, cap, o29 _ _ hT.1, o29 _ _ hT.2.1, hT.2.2.1, hT.2.2.2.2.1, hT.2.2.2.2.2⟩
  have hc29 := cx_mc g_29
  refine cx_dup hE d_CT_read_32 ?_
  refine cx_aload_n (i := 3) hE d_CT_read_33 rfl rfl ?_
  refine cx_invV hE d_CT_read_34 l_CT_62 x29 ((c_Lx_tokens (k := (cx_wN k (fun t => G.1 t = none))) hL29 W29 O25 (by omega) (by omega) (by omega) (fun t ht => o29.no ht)).N) rfl (by omega) (Nat.le_of_ble_eq_true rfl) n_Lx_tokens (by rfl) (fun v G34 q => ?_) (fun a G34 q => by obtain ⟨_, _, _, q, _⟩ := q; cases q)
  obtain ⟨L, C', tk, q0, hL0, hLm, htc, hwl, W34, O34, hnw, hx34, hlen, c341, c342⟩ := q
  cases q0
  show cx_V E _ _ [.ref tk, .ref a_29, .ref a_29] G34
  have hca : ∀ c e, G13.1 c = some e → c ≠ ca := fun c e h z => by
    have := cx_mn g_17 n_17 h
    rw [z, ca17] at this
    cases this
  have o34 : cx_ext G G34 := fun c e h => hx34.2 c e (hca c e (o13 c e h)) (o29 c e h)
  have v34 := hx34.o v29
  have m34 := hx34.o m29
  have lc34 := hx34.o lc29
  have g34 := hx34.o h_29
  have htk0 : tx_ad L 0 = tk := by unfold tx_ad; rw [hL0]; rfl
  have hLl : 0 < L.length := by
    cases hz : L with
    | nil => rw [hz] at hL0; cases hL0
    | cons y l => exact Nat.succ_pos _
  refine cx_aload_n (i := 2) hE d_CT_read_37 rfl rfl ?_
  refine cx_aload_n (i := 1) hE d_CT_read_38 rfl rfl ?_
  refine cx_invI0 hE d_CT_read_39 l_CT_66 (c_Gr_init (t := tk) (me := a_8) (ve := a_0) g34) rfl (by omega) (Nat.le_of_ble_eq_true rfl) n_Gr_init (by first | rfl | (simp only [List.map_cons, List.map_nil, cx_rfc]; rfl)) ?_
  refine cx_gen (fun G39 g_39 => ?_)
  have o39 : cx_ext G G39 := fun c e h => cx_pn g_39 (o34 c e h) (fun z => by rw [z, o25.no n_29] at h; cases h)
  have v39 := cx_pn g_39 v34 (cx_neO g34 v34 (by decide))
  have m39 := cx_pn g_39 m34 (cx_neO g34 m34 (by decide))
  have lc39 := cx_pn g_39 lc34 (cx_neO g34 lc34 (by decide))
  have gr39 := cx_ps g_39
  have c39 : G39.2 = G34.2 := cx_pc g_39
  have W39 := W34.ob (fs' := [.ref a_8, .ref a_0, .ref tk, .int 0]) g34 (by decide) (by decide)
  rw [g_39] at W39
  rw [← htk0] at gr39
  have hg : tx_g (cx_wN k (fun t => G.1 t = none)) (fun c => ∃ e, G.1 c = some e) L a_29 (G39.2.1, G39.2.2) G39 (ct_Ai a_8 a_0 ul (k.2.2.2.2.2.1 0) C') 0 60 tx_s0 := ct_g0 v39 m39 ⟨⟨mcl, lc39⟩, Or.inl ⟨rfl, rfl, rfl⟩⟩ W39 (fun c ⟨e, h⟩ => ⟨e, o39 c e h⟩) (fun ⟨e, h⟩ => by rw [o4.no n_8] at h; cases h) (fun ⟨e, h⟩ => by rw [n_0] at h; cases h) (fun ⟨e, h⟩ => by rw [o8.no ul8] at h; cases h) (fun T y hy ⟨e, h⟩ => by
    rcases hnw T y hy with z | z
    · have z9 := o17.no (N25 T y z)
      rw [z9] at h
      cases h
    · rw [o29.no z] at h
      cases h) ⟨fun i y hy => cx_pn g_39 (htc.1 i y hy) (cx_neO g34 (htc.1 i y hy) (by decide)), htc.2⟩ (fun y hy => (hwl y hy).1) hLl gr39
  have hc391 : G39.2.1 = G34.2.1 := by rw [c39]
  have hc392 : G39.2.2 = G34.2.2 := by rw [c39]
  have hTm : tx_tks L = tx_lex n (tx_at n f) := hLm
  have hgb : tx_gb L (G39.2.1, G39.2.2) := ⟨by show G39.2.1 + _ + _ ≤ _; omega, by show G39.2.2 + _ + _ ≤ _; omega, by omega, fun i hi h1 h2 => by
    obtain ⟨y, hy⟩ : ∃ y, L[i]? = some y := ⟨_, List.getElem?_eq_getElem hi⟩
    have hy2 : (tx_lx n (tx_at n f) n 0)[i]? = some y.2.1 := by
      have : (tx_tks L)[i]? = some y.2.1 := by unfold tx_tks; rw [List.getElem?_map, hy]; rfl
      rw [hTm] at this
      exact this
    have hk : tx_ki (tx_tks L) i = y.2.1.1 := by unfold tx_ki; rw [tx_ta_of hy]
    rw [hk] at h1 h2
    have := tx_lx_end n 0 (by omega) (by omega) i y.2.1 hy2 (fun z => z.elim h1 h2)
    have hll : (tx_lx n (tx_at n f) n 0).length = L.length := by
      have : (tx_tks L).length = L.length := tx_tks_len
      rw [hTm] at this
      exact this
    omega⟩
  have hdes := (c_Gr_design (k := (cx_wN k (fun t => G.1 t = none))) (l := l) (p1 := []) hfl hgb rfl hg rfl).N
  refine cx_astore hE d_CT_read_42 (by decide) ?_
  refine cx_iconst (v := 1) hE d_CT_read_44 (by decide) ?_
  refine cx_istore hE d_CT_read_45 (by decide) ?_
  refine cx_aload hE d_CT_read_47 rfl ?_
  refine cx_invV hE d_CT_read_49 l_CT_69 hg.cel hdes rfl (by omega) (Nat.le_of_ble_eq_true rfl) n_Gr_design (by rfl) (fun v G2 q => ?_) (fun xa G2 q => ?_)
  · rcases q with ⟨a5, i5, s5, A5, r5, q0, mw5, ve5, hg5, gs5, p5, hp5⟩ | ⟨e, x5, r5, q0, -⟩
    · cases q0
      show cx_V E _ _ [] G2
      have o2 : cx_ext G G2 := fun c e h => gs5 c e (Or.inl ⟨e, h⟩) (fun z => by rw [z, o25.no n_29] at h; cases h) (o39 c e h)
      have hx2 := o2 _ _ hx
      have ht2 := o2 _ _ hT.1
      have hro : G2.2.1 ≤ G39.2.1 + 5 * L.length + 10 ∧ G2.2.2 ≤ G39.2.2 + 80 * L.length + 200 := by have := hg5.room; have hi5 := hg5.lt; exact ⟨by omega, by omega⟩
      have v2 : G2.1 a_0 = some (.inr (9, [.int s5.1.1, .int s5.1.2])) := by
        have h9 := hg5.1.1
        unfold tx_mV at h9
        rw [ve5] at h9
        exact h9
      obtain ⟨x8, m2⟩ : ∃ x8, G2.1 a_8 = some (.inr (3, [.ref a_0, .ref A5.ul, .ref x8])) := by
        obtain ⟨x8, h9, -⟩ := hg5.1.2.1
        rw [show A5.me = a_8 from congrArg (fun y : Nat × (List Int32 → Option Nat) => y.1) mw5, ve5] at h9
        exact ⟨x8, h9⟩
      refine cx_goto (tgt := 60) hE d_CT_read_52 (by decide) ?_
      refine cx_aload_n (i := 0) hE d_CT_read_60 rfl rfl ?_
      refine cx_get hE d_CT_read_61 f_CT_10 (by assumption) (by rfl) ?_
      refine cx_iconst (v := 0) hE d_CT_read_64 (by decide) ?_
      refine cx_putg hE d_CT_read_65 f_CT_27 (by assumption) (Nat.le_of_ble_eq_true rfl) (by first | rfl | exact cx_nr _ _) (by first | rfl | exact cx_fr _ _) (fun G_65 g_65 h_65 => ?_)
      have hx65 := cx_pn g_65 hx2 (cx_neO ht2 hx2 (by decide))
      have v65 := cx_pn g_65 v2 (cx_neO ht2 v2 (by decide))
      have m65 := cx_pn g_65 m2 (cx_neO ht2 m2 (by decide))
      refine cx_aload_n (i := 0) hE d_CT_read_68 rfl rfl ?_
      refine cx_aload_n (i := 1) hE d_CT_read_69 rfl rfl ?_
      refine cx_get hE d_CT_read_70 f_CT_74 (by assumption) (by rfl) ?_
      refine cx_putg hE d_CT_read_73 f_CT_23 (by assumption) (Nat.le_of_ble_eq_true rfl) (by first | rfl | exact cx_nr _ _) (by first | rfl | exact cx_fr _ _) (fun G_73 g_73 h_73 => ?_)
      have v73 := cx_pn g_73 v65 (cx_neO hx65 v65 (by decide))
      have m73 := cx_pn g_73 m65 (cx_neO hx65 m65 (by decide))
      refine cx_iload hE d_CT_read_76 rfl ?_
      refine cx_if_eq (tgt := 88)  hE d_CT_read_78 (by decide) (fun c_78 => ?_) (fun c_78 => ?_)
      · exact absurd c_78 (by decide)
        -- end
      · refine cx_aload_n (i := 1) hE d_CT_read_81 rfl rfl ?_
        refine cx_get hE d_CT_read_82 f_CT_74 (by assumption) (by rfl) ?_
        refine cx_if_eq (tgt := 93)  hE d_CT_read_85 (by decide) (fun c_85 => ?_) (fun c_85 => ?_)
        · refine cx_aload_n (i := 0) hE d_CT_read_93 rfl rfl ?_
          refine cx_aload_n (i := 2) hE d_CT_read_94 rfl rfl ?_
          refine cx_get hE d_CT_read_95 f_CT_80 (by assumption) (by rfl) ?_
          refine cx_putg hE d_CT_read_98 f_CT_19 (by assumption) (Nat.le_of_ble_eq_true rfl) (by first | rfl | exact cx_nr _ _) (by first | rfl | exact cx_fr _ _) (fun G_98 g_98 h_98 => ?_)
          have hd98 := g_98
          refine cx_iconst (v := -1) hE d_CT_read_101 (by decide) ?_
          refine cx_iret hE d_CT_read_102 rfl rfl ?_
          have hcode : s5.1.1 = 0 := by simpa using c_85
          unfold ct_pr
          rw [show ct_rd n f us = (-1, 0, s5.2.1) by unfold ct_rd; rw [← hTm, r5]; show (if _ then _ else _) = _; rw [if_pos hcode]]
          have hu5 := tx_shp.none hp5
          have hwf5 : A5.wf = (ct_Ai a_8 a_0 ul (k.2.2.2.2.2.1 0) C').wf := congrArg (fun y : Nat × (List Int32 → Option Nat) => y.2) mw5
          have hof := ct_of (b := b) hg5.1 hu5 (fun z => by rw [hT.2.1] at z; cases z) (fun t ht ⟨e, h⟩ => by rw [ht] at h; cases h) (fun T a ha => by
            rw [hwf5] at ha
            have ha9 : (tx_fd C' T).map (fun x => x.1) = some a := ha
            cases hy : tx_fd C' T with
            | none => rw [hy] at ha9; cases ha9
            | some y =>
              obtain ⟨-, g9, -, z9⟩ := W34
              have := tx_cn.len _ _ (z9 _ (tx_hi_lt T)) _ (List.mem_of_find?_eq_some hy)
              rw [tx_fd_T hy] at this
              exact this)
          have h4 : G_98.1 x = some (.inr (0, [.ref ta, .ref A5.ul, .int 0])) := by
            have := h_98
            rw [hcode] at this
            exact this
          refine ⟨A5, rfl, hR.fin o2 hof.1 g_65 h4 (fun c e h1 h => cx_pn g_98 (cx_pn g_73 h h1) h1), Or.inr (hof.2.kp (fun T a ha => ?_)), fun c e h1 h2 h => cx_pn g_98 (cx_pn g_73 (cx_pn g_65 (o2 c e h) h2) h1) h1, by rw [cx_pc g_98, cx_pc g_73, cx_pc g_65]; omega, by rw [cx_pc g_98, cx_pc g_73, cx_pc g_65]; omega⟩
          obtain ⟨nx, kd, tb, z1, -⟩ := hg5.1.2.2.2.2.2.2.1 T a ha
          have y1 := cx_pn g_65 z1 (cx_neO ht2 z1 (by decide))
          have y2 := cx_pn g_73 y1 (cx_neO hx65 y1 (by decide))
          rw [z1]
          exact cx_pn g_98 y2 (cx_neO h_73 y2 (by decide))
        · refine cx_aload_n (i := 1) hE d_CT_read_88 rfl rfl ?_
          refine cx_get hE d_CT_read_89 f_CT_77 (by assumption) (by rfl) ?_
          refine cx_iret hE d_CT_read_92 rfl rfl ?_
          have hcode : ¬ s5.1.1 = 0 := c_85
          unfold ct_pr
          rw [show ct_rd n f us = (s5.1.2, s5.1.1, us) by unfold ct_rd; rw [← hTm, r5]; show (if _ then _ else _) = _; rw [if_neg hcode]]
          exact ⟨A, rfl, hR.fin o2 ((ct_U.kp (X := fun _ => False) (tx_kp.ext o2) (fun _ _ _ _ z => z) (fun _ z => z) hU)) g_65 h_73 (fun c e h1 h => cx_pn g_73 h h1), Or.inl ⟨rfl, rfl⟩, fun c e h1 h2 h => cx_pn g_73 (cx_pn g_65 (o2 c e h) h2) h1, by rw [cx_pc g_73, cx_pc g_65]; omega, by rw [cx_pc g_73, cx_pc g_65]; omega⟩
    · cases q0
  · rcases q with ⟨a5, i5, s5, A5, r5, q0, -⟩ | ⟨e, x5, r5, q0, ⟨fs5, t5⟩, ve5, gs5, c51, c52⟩
    · cases q0
    · cases q0
      refine cx_T.catch (pre := []) (rest := []) hE t5 rfl rfl (fun y hy => by cases hy) (by decide) (by decide) (in_1 (List.mem_of_getElem? (i := 101) rfl)) (in_4 (List.mem_of_getElem? (i := 78) rfl)) ?_
      have o2 : cx_ext G G2 := fun c e h => gs5 c e (Or.inl ⟨e, h⟩) (fun z => by rw [z, o25.no n_29] at h; cases h) (o39 c e h)
      have hx2 := o2 _ _ hx
      have ht2 := o2 _ _ hT.1
      have hro : G2.2.1 ≤ G39.2.1 + 5 * L.length + 10 ∧ G2.2.2 ≤ G39.2.2 + 80 * L.length + 200 := ⟨c51, c52⟩
      have v2 : G2.1 a_0 = some (.inr (9, [.int e.1, .int e.2])) := ve5
      refine cx_astore hE d_CT_read_55 (by decide) ?_
      refine cx_iconst (v := 0) hE d_CT_read_57 (by decide) ?_
      refine cx_istore hE d_CT_read_58 (by decide) ?_
      refine cx_aload_n (i := 0) hE d_CT_read_60 rfl rfl ?_
      refine cx_get hE d_CT_read_61 f_CT_10 (by assumption) (by rfl) ?_
      refine cx_iconst (v := 0) hE d_CT_read_64 (by decide) ?_
      refine cx_putg hE d_CT_read_65 f_CT_27 (by assumption) (Nat.le_of_ble_eq_true rfl) (by first | rfl | exact cx_nr _ _) (by first | rfl | exact cx_fr _ _) (fun G_65 g_65 h_65 => ?_)
      have hx65 := cx_pn g_65 hx2 (cx_neO ht2 hx2 (by decide))
      have v65 := cx_pn g_65 v2 (cx_neO ht2 v2 (by decide))
      refine cx_aload_n (i := 0) hE d_CT_read_68 rfl rfl ?_
      refine cx_aload_n (i := 1) hE d_CT_read_69 rfl rfl ?_
      refine cx_get hE d_CT_read_70 f_CT_74 (by assumption) (by rfl) ?_
      refine cx_putg hE d_CT_read_73 f_CT_23 (by assumption) (Nat.le_of_ble_eq_true rfl) (by first | rfl | exact cx_nr _ _) (by first | rfl | exact cx_fr _ _) (fun G_73 g_73 h_73 => ?_)
      have v73 := cx_pn g_73 v65 (cx_neO hx65 v65 (by decide))
      refine cx_iload hE d_CT_read_76 rfl ?_
      refine cx_if_eq (tgt := 88)  hE d_CT_read_78 (by decide) (fun c_78 => ?_) (fun c_78 => ?_)
      · refine cx_aload_n (i := 1) hE d_CT_read_88 rfl rfl ?_
        refine cx_get hE d_CT_read_89 f_CT_77 (by assumption) (by rfl) ?_
        refine cx_iret hE d_CT_read_92 rfl rfl ?_
        unfold ct_pr
        rw [show ct_rd n f us = (e.2, e.1, us) by unfold ct_rd; rw [← hTm, r5]]
        exact ⟨A, rfl, hR.fin o2 ((ct_U.kp (X := fun _ => False) (tx_kp.ext o2) (fun _ _ _ _ z => z) (fun _ z => z) hU)) g_65 h_73 (fun c e h1 h => cx_pn g_73 h h1), Or.inl ⟨rfl, rfl⟩, fun c e h1 h2 h => cx_pn g_73 (cx_pn g_65 (o2 c e h) h2) h1, by rw [cx_pc g_73, cx_pc g_65]; omega, by rw [cx_pc g_73, cx_pc g_65]; omega⟩
      · exact absurd rfl c_78
        -- end
  -- end

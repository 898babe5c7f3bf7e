/-! GRAMMAR: what declares. -/
set_option maxRecDepth 100000 in
theorem c_Me_declareInstance {k : cx_K} {l : Launch} {G : cx_G} {F : Nat → Prop} {A : tx_A} {s : tx_S} {u : tx_U} (hu : s.2.2.1 = some u) {a : Nat} {t : tx_Tk} (ht : tx_tw G A a t) {v : Option Nat} (hv : ∀ j, v = some j → j < s.2.1.length) (hm : tx_m k F G A s) (hF : ∀ b, F b → ∃ e, G.1 b = some e) (hn : u.2.2.1.length < 45000) (r1 : G.2.1 + 2 ≤ 601024) (r2 : G.2.2 + 2 * A.nc s.2.1.length + 30 ≤ 7293034) : cx_Sp k l m_Me_declareInstance 8 [.ref A.me, .ref a, va_rf (v.map A.ua)] G (tx_dq k F G A s.2.1.length u.2.2.1.length (tx_din t v s)) := by
  intro E hE
  obtain ⟨x0, hme, hxu⟩ := hm.2.1
  refine cx_aload_n (i := 0) hE d_Me_declareInstance_0 rfl rfl ?_
  refine cx_aload_n (i := 1) hE d_Me_declareInstance_1 rfl rfl ?_
  refine cx_iconst (v := 5) hE d_Me_declareInstance_2 (by decide) ?_
  refine cx_iconst (v := 0) hE d_Me_declareInstance_3 (by decide) ?_
  have hdc := c_Me_declare (l := l) (kd := 5) (wd := 0) hu ht hm hF hn r1 r2
  refine cx_invV hE d_Me_declareInstance_4 l_Me_139 hme hdc rfl (by omega) (Nat.le_of_ble_eq_true rfl) n_Me_declare (by rfl) (fun v0 G1 q => ?_) (fun a G1 q => by obtain ⟨_, q, _⟩ := q; cases q)
  obtain ⟨A1, q0, q1, q2, q3, q4, q5, hm1, hst1, q6, q7, q8, q9⟩ := q
  cases q0
  show cx_V E _ _ [.ref (A1.na s.2.1.length u.2.2.1.length)] G1
  have hsh0 : tx_shp s = ((tx_shp s).1, some u.2.2.1.length) := by
    have : (tx_shp s).2 = some u.2.2.1.length := by show s.2.2.1.map _ = _; rw [hu]; rfl
    rw [← this]
  have hsh1 := tx_shp.dcl (s := s) (n0 := u.2.2.1.length) (by rw [hsh0]) t 5 0
  obtain ⟨u1, hu1, hul1⟩ := tx_shp.cur (s := tx_dcl t 5 0 s) (n := u.2.2.1.length + 1) (by rw [hsh1])
  have hl1 : (tx_dcl t 5 0 s).2.1.length = s.2.1.length := (tx_shp.l1 hsh1).trans (List.length_map ..)
  obtain ⟨rr, hrr⟩ : ∃ r, u1.2.2.1[u.2.2.1.length]? = some r := ⟨_, List.getElem?_eq_getElem (by omega)⟩
  have hcu1 := tx_S.cur hu1
  rw [hl1] at hcu1
  have hnn := hm1.2.2.2.2.2.1 _ u1 hcu1 _ rr hrr
  unfold tx_nm at hnn
  refine cx_astore_n (i := 3) hE d_Me_declareInstance_7 rfl (by decide) ?_
  refine cx_aload_n (i := 3) hE d_Me_declareInstance_8 rfl rfl ?_
  refine cx_aload_n (i := 2) hE d_Me_declareInstance_9 rfl rfl ?_
  refine cx_putg hE d_Me_declareInstance_10 f_Me_143 (by assumption) (Nat.le_of_ble_eq_true rfl) (by first | rfl | exact cx_nr _ _) (by first | rfl | exact cx_fr _ _) (fun G_10 g_10 h_10 => ?_)
  have hp10 := hm1.nm (f := tx_oof v) hcu1 hrr (fun j' hj' => by rw [hl1]; exact hv j' hj')
  rw [show cx_put G1 (A1.na s.2.1.length u.2.2.1.length) (tx_nm A1 s.2.1.length (tx_oof v rr)) = G_10 by rw [← g_10, ← q5]; rfl] at hp10
  generalize hs10 : (tx_dcl t 5 0 s).mn s.2.1.length u.2.2.1.length (tx_oof v) = s10 at hp10
  have hsh10 : tx_shp s10 = tx_shp (tx_dcl t 5 0 s) := by rw [← hs10]; exact tx_shp.mn ..
  obtain ⟨u2, hu2, hul2⟩ := tx_shp.cur (s := s10) (n := u.2.2.1.length + 1) (by rw [hsh10, hsh1])
  have hl2 : s10.2.1.length = s.2.1.length := (tx_shp.len hsh10).trans hl1
  obtain ⟨x2, hme2, hxu2⟩ := hp10.1.2.1
  have hxu2 := hxu2 u2 hu2
  rw [hl2] at hxu2
  subst hxu2
  rw [q1] at hme2
  have hcu2 := tx_S.cur hu2
  have hun2 := hp10.1.2.2.2.1 _ u2 hcu2
  rw [hl2] at hun2
  unfold tx_um at hun2
  refine cx_aload_n (i := 0) hE d_Me_declareInstance_13 rfl rfl ?_
  refine cx_get hE d_Me_declareInstance_14 f_Me_28 (by assumption) (by rfl) ?_
  refine cx_dup hE d_Me_declareInstance_17 ?_
  refine cx_get hE d_Me_declareInstance_18 f_Me_146 (by assumption) (by rfl) ?_
  refine cx_iconst (v := 1) hE d_Me_declareInstance_21 (by decide) ?_
  refine cx_iadd hE d_Me_declareInstance_22 ?_
  refine cx_putg hE d_Me_declareInstance_23 f_Me_146 (by assumption) (Nat.le_of_ble_eq_true rfl) (by first | rfl | exact cx_nr _ _) (by first | rfl | exact cx_fr _ _) (fun G_23 g_23 h_23 => ?_)
  refine cx_aload_n (i := 3) hE d_Me_declareInstance_26 rfl rfl ?_
  refine cx_aret (r := some (A1.na s.2.1.length u.2.2.1.length)) hE d_Me_declareInstance_27 rfl (by first | exact Or.inl ⟨_, rfl⟩ | exact Or.inr ⟨_, rfl⟩) ?_
  have hum := hp10.1.um (g := tx_inu) hcu2 (fun _ => rfl)
  rw [hl2] at hum
  rw [show cx_put G_10 (A1.ua s.2.1.length) (tx_um A1 s.2.1.length (tx_inu u2)) = G_23 from g_23] at hum
  have hcc : G_23.2 = G1.2 := (cx_pc g_23).trans (cx_pc g_10)
  refine ⟨A1, rfl, q1, q2, q3, q4, q5, ?_, hst1.tr (hp10.2.tr hum.2), by rw [hcc]; exact q6, by rw [hcc]; exact q7, by rw [hcc]; exact q8, by rw [hcc]; exact q9⟩
  have e9 : tx_din t v s = s10.cu tx_inu := by
    unfold tx_din
    rw [show s.uu.2.2.1.length = u.2.2.1.length by unfold tx_S.uu; rw [hu]; rfl, hs10]
  rw [e9]
  unfold tx_S.cu
  rw [hl2]
  exact hum.1
theorem tx_shp.din {s : tx_S} {n0 : Nat} (h : (tx_shp s).2 = some n0) (t : tx_Tk) (v : Option Nat) : tx_shp (tx_din t v s) = ((tx_shp s).1, some (n0 + 1)) := by
  unfold tx_din tx_S.cu
  rw [tx_shp.mu (g := tx_inu) _ _ (fun _ => rfl), tx_shp.mn, tx_shp.dcl h]
set_option maxRecDepth 100000 in
theorem c_Gr_plainName {k : cx_K} {l : Launch} {G : cx_G} {F : Nat → Prop} {L : tx_Ls} {gr : Nat} {b : Nat × Nat} {A : tx_A} {i f n0 : Nat} {p1 : List Nat} {s : tx_S} (hfl : l.flags = flags0) (hb : tx_gb L b) (hp : tx_shp s = (p1, some n0)) (hg : tx_g k F L gr b G A i f s) {R0 : tx_R Unit} {kd : Int32} (hR : R0 = tx_pnm (tx_tks L) kd f i s) : cx_Sp k l m_Gr_plainName 9 [.ref gr, .int kd] G (tx_gd k F L gr b G A.mw A.ve f (fun _ => none) (fun p => ∃ n, p = (p1, some n)) R0) := by
  intro E hE
  have hs := tx_gs.rf F gr G
  obtain ⟨me, hme⟩ : ∃ me, A.mw = me := ⟨_, rfl⟩
  obtain ⟨ve, hve⟩ : ∃ ve, A.ve = ve := ⟨_, rfl⟩
  rw [hme, hve] at hE
  have hT : ∀ e x G', R0 = .inl e → tx_gt F L gr b G ve e x G' → tx_gd k F L gr b G me ve f (fun _ => none) (fun p => ∃ n, p = (p1, some n)) R0 (.inr x) G' := fun e x G' h1 h2 => Or.inr ⟨e, x, h1, rfl, h2⟩
  have hbl := hb.2.2.1
  have hle := hg.le
  have hgr := hg.cel
  have htk := hg.tok hg.lt
  have hn0 : ((p1, some n0) : List Nat × Option Nat).2 = some n0 := rfl
  unfold tx_pnm at hR
  refine cx_aload_n (i := 0) hE d_Gr_plainName_0 rfl rfl ?_
  refine cx_gsubI hE d_Gr_plainName_1 rfl rfl l_Gr_105 hT hve hg hs hp hR (c_Gr_range hfl hb (by rw [hp]) hg rfl) rfl (by omega) (Nat.le_of_ble_eq_true rfl) n_Gr_range (by rfl) (fun w_1 i_1 s_1 G1 hr_1 hg hs hp hR hl => ?_)
  have hgr := hg.cel
  have htk := hg.tok hg.lt
  have hup_1 := tx_up.rng _ _ _ hr_1
  refine cx_istore_n (i := 2) hE d_Gr_plainName_4 rfl (by decide) ?_
  refine cx_aload_n (i := 0) hE d_Gr_plainName_5 rfl rfl ?_
  refine cx_get hE d_Gr_plainName_6 f_Gr_19 (by assumption) (by rfl) ?_
  refine cx_aload_n (i := 0) hE d_Gr_plainName_9 rfl rfl ?_
  refine cx_bipush (v := 19) hE d_Gr_plainName_10 (by decide) ?_
  refine cx_tac (kd := 19) hE d_Gr_plainName_12 rfl rfl hfl hb hT hve hg hs hR (by decide) (by omega) (Nat.le_of_ble_eq_true rfl) (fun G1 hk12 hg hs hR hac => ?_)
  have hgr := hg.cel
  have htk := hg.tok hg.lt
  refine cx_iload_n (i := 1) hE d_Gr_plainName_15 rfl rfl ?_
  refine cx_iload_n (i := 2) hE d_Gr_plainName_16 rfl rfl ?_
  obtain ⟨u, hu, hul⟩ := tx_shp.cur (by first | (rw [hp]; done) | (rw [hp]; exact hn0))
  have hro := hg.room
  have hil := hg.lt
  obtain ⟨hb1, hb2, hb3, hb4⟩ := id hb
  have hcap := (hg.1.2.2.2.2.1 _ u (tx_S.cur hu)).le
  rw [List.length_map, List.length_range] at hcap
  have hro4 := hro.2.2.2
  rw [hp] at hro4
  have hro5 : n0 ≤ _ := hro4
  have hdc := c_Me_declare (l := l) (kd := kd) (wd := w_1) hu (hg.tw (j := i_1) (by have := hg.lt; omega)) hg.1 hg.2.1 (by omega) (by omega) (by omega)
  rw [hul] at hdc
  refine cx_gdq hE d_Gr_plainName_17 rfl l_Gr_109 hme hve hg hs hac hp (tx_shp.dcl (by rw [hp]) _ _ _) hdc rfl (by omega) (Nat.le_of_ble_eq_true rfl) n_Me_declare (by first | rfl | (simp only [List.map_cons, List.map_nil, cx_rfc]; rfl)) (fun A G1 hme hve hua hg hs hp => ?_)
  have hn0 : ((p1, some (n0 + 1)) : List Nat × Option Nat).2 = some (n0 + 1) := rfl
  have hgr := hg.cel
  have htk := hg.tok hg.lt
  refine cx_pop hE d_Gr_plainName_20 ?_
  refine cx_vret hE d_Gr_plainName_21 rfl ?_
  exact Or.inl ⟨_, _, _, _, hR, rfl, hme, hve, hg, hs, ⟨_, hp⟩⟩
set_option maxRecDepth 100000 in
theorem c_Gr_register {k : cx_K} {l : Launch} {G : cx_G} {F : Nat → Prop} {L : tx_Ls} {gr : Nat} {b : Nat × Nat} {A : tx_A} {i f n0 : Nat} {p1 : List Nat} {s : tx_S} (hfl : l.flags = flags0) (hb : tx_gb L b) (hp : tx_shp s = (p1, some n0)) (hg : tx_g k F L gr b G A i f s) {R0 : tx_R Unit} {kd : Int32} (hR : R0 = tx_rgs (tx_tks L) kd f i s) : cx_Sp k l m_Gr_register 9 [.ref gr, .int kd] G (tx_gd k F L gr b G A.mw A.ve f (fun _ => none) (fun p => ∃ n, p = (p1, some n)) R0) := by
  intro E hE
  have hs := tx_gs.rf F gr G
  obtain ⟨me, hme⟩ : ∃ me, A.mw = me := ⟨_, rfl⟩
  obtain ⟨ve, hve⟩ : ∃ ve, A.ve = ve := ⟨_, rfl⟩
  rw [hme, hve] at hE
  have hT : ∀ e x G', R0 = .inl e → tx_gt F L gr b G ve e x G' → tx_gd k F L gr b G me ve f (fun _ => none) (fun p => ∃ n, p = (p1, some n)) R0 (.inr x) G' := fun e x G' h1 h2 => Or.inr ⟨e, x, h1, rfl, h2⟩
  have hbl := hb.2.2.1
  have hle := hg.le
  have hgr := hg.cel
  have htk := hg.tok hg.lt
  have hn0 : ((p1, some n0) : List Nat × Option Nat).2 = some n0 := rfl
  unfold tx_rgs at hR
  refine cx_aload_n (i := 0) hE d_Gr_register_0 rfl rfl ?_
  refine cx_bipush (v := 6) hE d_Gr_register_1 (by decide) ?_
  refine cx_tak (kd := 6) hE d_Gr_register_3 rfl rfl hfl hb hT hve hg hs hR (by decide) (by omega) (Nat.le_of_ble_eq_true rfl) (fun G1 hk3 hg hs hR => ?_)
  have hgr := hg.cel
  have htk := hg.tok hg.lt
  refine cx_pop hE d_Gr_register_6 ?_
  refine cx_aload_n (i := 0) hE d_Gr_register_7 rfl rfl ?_
  refine cx_gsubI hE d_Gr_register_8 rfl rfl l_Gr_105 hT hve hg hs hp hR (c_Gr_range hfl hb (by rw [hp]) hg rfl) rfl (by omega) (Nat.le_of_ble_eq_true rfl) n_Gr_range (by rfl) (fun w_8 i_8 s_8 G1 hr_8 hg hs hp hR hl => ?_)
  have hgr := hg.cel
  have htk := hg.tok hg.lt
  have hup_8 := tx_up.rng _ _ _ hr_8
  refine cx_istore_n (i := 2) hE d_Gr_register_11 rfl (by decide) ?_
  refine cx_aload_n (i := 0) hE d_Gr_register_12 rfl rfl ?_
  refine cx_get hE d_Gr_register_13 f_Gr_19 (by assumption) (by rfl) ?_
  refine cx_aload_n (i := 0) hE d_Gr_register_16 rfl rfl ?_
  refine cx_bipush (v := 19) hE d_Gr_register_17 (by decide) ?_
  refine cx_tac (kd := 19) hE d_Gr_register_19 rfl rfl hfl hb hT hve hg hs hR (by decide) (by omega) (Nat.le_of_ble_eq_true rfl) (fun G1 hk19 hg hs hR hac => ?_)
  have hgr := hg.cel
  have htk := hg.tok hg.lt
  refine cx_iload_n (i := 1) hE d_Gr_register_22 rfl rfl ?_
  refine cx_iload_n (i := 2) hE d_Gr_register_23 rfl rfl ?_
  obtain ⟨u, hu, hul⟩ := tx_shp.cur (by first | (rw [hp]; done) | (rw [hp]; exact hn0))
  have hro := hg.room
  have hil := hg.lt
  obtain ⟨hb1, hb2, hb3, hb4⟩ := id hb
  have hcap := (hg.1.2.2.2.2.1 _ u (tx_S.cur hu)).le
  rw [List.length_map, List.length_range] at hcap
  have hro4 := hro.2.2.2
  rw [hp] at hro4
  have hro5 : n0 ≤ _ := hro4
  have huq : (s_8).uu.2.2.1.length = n0 := by unfold tx_S.uu; rw [hu]; exact hul
  rw [huq] at hR
  have hdc := c_Me_declare (l := l) (kd := kd) (wd := w_8) hu (hg.tw (j := i_8) (by have := hg.lt; omega)) hg.1 hg.2.1 (by omega) (by omega) (by omega)
  rw [hul] at hdc
  refine cx_gdq hE d_Gr_register_24 rfl l_Gr_109 hme hve hg hs hac hp (tx_shp.dcl (by rw [hp]) _ _ _) hdc rfl (by omega) (Nat.le_of_ble_eq_true rfl) n_Me_declare (by first | rfl | (simp only [List.map_cons, List.map_nil, cx_rfc]; rfl)) (fun A G1 hme hve hua hg hs hp => ?_)
  have hn0 : ((p1, some (n0 + 1)) : List Nat × Option Nat).2 = some (n0 + 1) := rfl
  have hgr := hg.cel
  have htk := hg.tok hg.lt
  refine cx_astore_n (i := 3) hE d_Gr_register_27 rfl (by decide) ?_
  refine cx_aload_n (i := 0) hE d_Gr_register_28 rfl rfl ?_
  refine cx_get hE d_Gr_register_29 f_Gr_15 (by assumption) (by rfl) ?_
  refine cx_get hE d_Gr_register_32 f_Gr_31 (by assumption) (by rfl) ?_
  refine cx_bipush (v := 61) hE d_Gr_register_35 (by decide) ?_
  refine cx_icmp_ne (tgt := 61)  hE d_Gr_register_37 (by decide) (fun c_37 => ?_) (fun c_37 => ?_)
  · rw [if_neg c_37] at hR
    try simp only [tx_R.and_as, tx_op_and, tx_R.and_r] at hR
    refine cx_vret hE d_Gr_register_61 rfl ?_
    exact Or.inl ⟨_, _, _, _, hR, rfl, hme, hve, hg, hs, ⟨_, hp⟩⟩
  · rw [if_pos c_37] at hR
    try simp only [tx_R.and_as, tx_op_and, tx_R.and_r] at hR
    refine cx_aload_n (i := 0) hE d_Gr_register_40 rfl rfl ?_
    refine cx_bipush (v := 61) hE d_Gr_register_41 (by decide) ?_
    refine cx_tak (kd := 61) hE d_Gr_register_43 rfl rfl hfl hb hT hve hg hs hR (by decide) (by omega) (Nat.le_of_ble_eq_true rfl) (fun G1 hk43 hg hs hR => ?_)
    have hgr := hg.cel
    have htk := hg.tok hg.lt
    refine cx_pop hE d_Gr_register_46 ?_
    refine cx_aload_n (i := 0) hE d_Gr_register_47 rfl rfl ?_
    refine cx_get hE d_Gr_register_48 f_Gr_19 (by assumption) (by rfl) ?_
    refine cx_aload_n (i := 3) hE d_Gr_register_51 rfl rfl ?_
    refine cx_aload_n (i := 0) hE d_Gr_register_52 rfl rfl ?_
    refine cx_bipush (v := 21) hE d_Gr_register_53 (by decide) ?_
    refine cx_tak (kd := 21) hE d_Gr_register_55 rfl rfl hfl hb hT hve hg hs hR (by decide) (by omega) (Nat.le_of_ble_eq_true rfl) (fun G1 hk55 hg hs hR => ?_)
    have hgr := hg.cel
    have htk := hg.tok hg.lt
    obtain ⟨u1, hu1, hul1⟩ := tx_shp.cur (by first | (rw [hp]; done) | (rw [hp]; exact hn0))
    obtain ⟨rr, hrr⟩ : ∃ r, u1.2.2.1[n0]? = some r := ⟨_, List.getElem?_eq_getElem (by omega)⟩
    have hbg := c_Me_begin (l := l) hu1 hrr (hg.tw (j := i_8 + 1 + 1) (by have := hg.lt; omega)) hg.1
    rw [tx_shp.l1 hp] at hbg
    obtain ⟨x9, hme9, -⟩ := hg.1.2.1
    refine cx_gmq0 hE d_Gr_register_58 rfl l_Gr_113 hme9 hg hs hp hbg (tx_shp.beg ..) rfl (by omega) (Nat.le_of_ble_eq_true rfl) n_Me_begin (by rfl) (fun G1 hg hs hp hl => ?_)
    refine cx_vret hE d_Gr_register_61 rfl ?_
    exact Or.inl ⟨_, _, _, _, hR, rfl, hme, hve, hg, hs, ⟨_, hp⟩⟩
set_option maxRecDepth 100000 in
theorem c_Gr_port {k : cx_K} {l : Launch} {G : cx_G} {F : Nat → Prop} {L : tx_Ls} {gr : Nat} {b : Nat × Nat} {A : tx_A} {i f n0 : Nat} {p1 : List Nat} {s : tx_S} (hfl : l.flags = flags0) (hb : tx_gb L b) (hp : tx_shp s = (p1, some n0)) (hg : tx_g k F L gr b G A i f s) {R0 : tx_R Unit} (hR : R0 = tx_por (tx_tks L) f i s) : cx_Sp k l m_Gr_port 10 [.ref gr] G (tx_gd k F L gr b G A.mw A.ve f (fun _ => none) (fun p => ∃ n, p = (p1, some n)) R0) := by
  intro E hE
  have hs := tx_gs.rf F gr G
  obtain ⟨me, hme⟩ : ∃ me, A.mw = me := ⟨_, rfl⟩
  obtain ⟨ve, hve⟩ : ∃ ve, A.ve = ve := ⟨_, rfl⟩
  rw [hme, hve] at hE
  have hT : ∀ e x G', R0 = .inl e → tx_gt F L gr b G ve e x G' → tx_gd k F L gr b G me ve f (fun _ => none) (fun p => ∃ n, p = (p1, some n)) R0 (.inr x) G' := fun e x G' h1 h2 => Or.inr ⟨e, x, h1, rfl, h2⟩
  have hbl := hb.2.2.1
  have hle := hg.le
  have hgr := hg.cel
  have htk := hg.tok hg.lt
  have hn0 : ((p1, some n0) : List Nat × Option Nat).2 = some n0 := rfl
  unfold tx_por at hR
  refine cx_aload_n (i := 0) hE d_Gr_port_0 rfl rfl ?_
  refine cx_get hE d_Gr_port_1 f_Gr_15 (by assumption) (by rfl) ?_
  refine cx_get hE d_Gr_port_4 f_Gr_31 (by assumption) (by rfl) ?_
  refine cx_iconst (v := 3) hE d_Gr_port_7 (by decide) ?_
  refine cx_icmp_ne (tgt := 25)  hE d_Gr_port_8 (by decide) (fun c_8 => ?_) (fun c_8 => ?_)
  · rw [if_neg c_8] at hR
    try simp only [tx_R.and_as, tx_op_and, tx_R.and_r] at hR
    refine cx_aload_n (i := 0) hE d_Gr_port_25 rfl rfl ?_
    refine cx_iconst (v := 4) hE d_Gr_port_26 (by decide) ?_
    refine cx_tak (kd := 4) hE d_Gr_port_27 rfl rfl hfl hb hT hve hg hs hR (by decide) (by omega) (Nat.le_of_ble_eq_true rfl) (fun G1 hk27 hg hs hR => ?_)
    have hgr := hg.cel
    have htk := hg.tok hg.lt
    refine cx_pop hE d_Gr_port_30 ?_
    refine cx_aload_n (i := 0) hE d_Gr_port_31 rfl rfl ?_
    refine cx_get hE d_Gr_port_32 f_Gr_15 (by assumption) (by rfl) ?_
    refine cx_get hE d_Gr_port_35 f_Gr_31 (by assumption) (by rfl) ?_
    refine cx_bipush (v := 6) hE d_Gr_port_38 (by decide) ?_
    refine cx_icmp_ne (tgt := 51)  hE d_Gr_port_40 (by decide) (fun c_40 => ?_) (fun c_40 => ?_)
    · rw [if_neg c_40] at hR
      try simp only [tx_R.and_as, tx_op_and, tx_R.and_r] at hR
      refine cx_aload_n (i := 0) hE d_Gr_port_51 rfl rfl ?_
      refine cx_iconst (v := 1) hE d_Gr_port_52 (by decide) ?_
      have hsp_53 := c_Gr_plainName (kd := 1) hfl hb hp hg rfl
      rw [hme, hve] at hsp_53
      refine cx_gdU hE d_Gr_port_53 rfl rfl l_Gr_93 hT hg hs hR hsp_53 rfl (by omega) (Nat.le_of_ble_eq_true rfl) n_Gr_plainName (by rfl) (fun w_53 i_53 s_53 A G1 hr_53 hme hve hg hs hq_53 hR => ?_)
      obtain ⟨n_53, hp⟩ := hq_53
      have hn0 : ((p1, some n_53) : List Nat × Option Nat).2 = some n_53 := rfl
      have hgr := hg.cel
      have htk := hg.tok hg.lt
      refine cx_aload_n (i := 0) hE d_Gr_port_56 rfl rfl ?_
      refine cx_get hE d_Gr_port_57 f_Gr_19 (by assumption) (by rfl) ?_
      obtain ⟨u, hu, hul⟩ := tx_shp.cur (by first | (rw [hp]; done) | (rw [hp]; exact hn0))
      obtain ⟨x9, hme9, -⟩ := hg.1.2.1
      have hun := hg.1.2.2.2.1 _ u (tx_S.cur hu)
      unfold tx_um at hun
      refine cx_invV1 hE d_Gr_port_60 l_Gr_96 hme9 (c_Me_unit hu hg.1) rfl (by omega) (Nat.le_of_ble_eq_true rfl) n_Me_unit (by rfl) ?_
      refine cx_dup hE d_Gr_port_63 ?_
      refine cx_get hE d_Gr_port_64 f_Gr_100 (by assumption) (by rfl) ?_
      refine cx_iconst (v := 1) hE d_Gr_port_67 (by decide) ?_
      refine cx_iadd hE d_Gr_port_68 ?_
      refine cx_putg hE d_Gr_port_69 f_Gr_100 (by assumption) (Nat.le_of_ble_eq_true rfl) (by first | rfl | exact cx_nr _ _) (by first | rfl | exact cx_fr _ _) (fun G_69 g_69 h_69 => ?_)
      obtain ⟨hg_69, hl_69, hsh_69⟩ := hg.um (g := tx_pru) hu (fun _ => rfl) rfl g_69
      have hs := hs.tr hl_69
      have hp := hsh_69.trans hp
      have hg := hg_69
      have hgr := hg.cel
      have htk := hg.tok hg.lt
      refine cx_vret hE d_Gr_port_72 rfl ?_
      exact Or.inl ⟨_, _, _, _, hR, rfl, hme, hve, hg, hs, ⟨_, hp⟩⟩
    · rw [if_pos c_40] at hR
      try simp only [tx_R.and_as, tx_op_and, tx_R.and_r] at hR
      refine cx_aload_n (i := 0) hE d_Gr_port_43 rfl rfl ?_
      refine cx_iconst (v := 2) hE d_Gr_port_44 (by decide) ?_
      have hsp_45 := c_Gr_register (kd := 2) hfl hb hp hg rfl
      rw [hme, hve] at hsp_45
      refine cx_gdU hE d_Gr_port_45 rfl rfl l_Gr_71 hT hg hs hR hsp_45 rfl (by omega) (Nat.le_of_ble_eq_true rfl) n_Gr_register (by rfl) (fun w_45 i_45 s_45 A G1 hr_45 hme hve hg hs hq_45 hR => ?_)
      obtain ⟨n_45, hp⟩ := hq_45
      have hn0 : ((p1, some n_45) : List Nat × Option Nat).2 = some n_45 := rfl
      have hgr := hg.cel
      have htk := hg.tok hg.lt
      refine cx_goto (tgt := 56) hE d_Gr_port_48 (by decide) ?_
      refine cx_aload_n (i := 0) hE d_Gr_port_56 rfl rfl ?_
      refine cx_get hE d_Gr_port_57 f_Gr_19 (by assumption) (by rfl) ?_
      obtain ⟨u, hu, hul⟩ := tx_shp.cur (by first | (rw [hp]; done) | (rw [hp]; exact hn0))
      obtain ⟨x9, hme9, -⟩ := hg.1.2.1
      have hun := hg.1.2.2.2.1 _ u (tx_S.cur hu)
      unfold tx_um at hun
      refine cx_invV1 hE d_Gr_port_60 l_Gr_96 hme9 (c_Me_unit hu hg.1) rfl (by omega) (Nat.le_of_ble_eq_true rfl) n_Me_unit (by rfl) ?_
      refine cx_dup hE d_Gr_port_63 ?_
      refine cx_get hE d_Gr_port_64 f_Gr_100 (by assumption) (by rfl) ?_
      refine cx_iconst (v := 1) hE d_Gr_port_67 (by decide) ?_
      refine cx_iadd hE d_Gr_port_68 ?_
      refine cx_putg hE d_Gr_port_69 f_Gr_100 (by assumption) (Nat.le_of_ble_eq_true rfl) (by first | rfl | exact cx_nr _ _) (by first | rfl | exact cx_fr _ _) (fun G_69 g_69 h_69 => ?_)
      obtain ⟨hg_69, hl_69, hsh_69⟩ := hg.um (g := tx_pru) hu (fun _ => rfl) rfl g_69
      have hs := hs.tr hl_69
      have hp := hsh_69.trans hp
      have hg := hg_69
      have hgr := hg.cel
      have htk := hg.tok hg.lt
      refine cx_vret hE d_Gr_port_72 rfl ?_
      exact Or.inl ⟨_, _, _, _, hR, rfl, hme, hve, hg, hs, ⟨_, hp⟩⟩
  · rw [if_pos c_8] at hR
    try simp only [tx_R.and_as, tx_op_and, tx_R.and_r] at hR
    refine cx_aload_n (i := 0) hE d_Gr_port_11 rfl rfl ?_
    refine cx_iconst (v := 3) hE d_Gr_port_12 (by decide) ?_
    refine cx_tak (kd := 3) hE d_Gr_port_13 rfl rfl hfl hb hT hve hg hs hR (by decide) (by omega) (Nat.le_of_ble_eq_true rfl) (fun G1 hk13 hg hs hR => ?_)
    have hgr := hg.cel
    have htk := hg.tok hg.lt
    refine cx_pop hE d_Gr_port_16 ?_
    refine cx_aload_n (i := 0) hE d_Gr_port_17 rfl rfl ?_
    refine cx_iconst (v := 0) hE d_Gr_port_18 (by decide) ?_
    have hsp_19 := c_Gr_plainName (kd := 0) hfl hb hp hg rfl
    rw [hme, hve] at hsp_19
    refine cx_gdU hE d_Gr_port_19 rfl rfl l_Gr_93 hT hg hs hR hsp_19 rfl (by omega) (Nat.le_of_ble_eq_true rfl) n_Gr_plainName (by rfl) (fun w_19 i_19 s_19 A G1 hr_19 hme hve hg hs hq_19 hR => ?_)
    obtain ⟨n_19, hp⟩ := hq_19
    have hn0 : ((p1, some n_19) : List Nat × Option Nat).2 = some n_19 := rfl
    have hgr := hg.cel
    have htk := hg.tok hg.lt
    refine cx_goto (tgt := 56) hE d_Gr_port_22 (by decide) ?_
    refine cx_aload_n (i := 0) hE d_Gr_port_56 rfl rfl ?_
    refine cx_get hE d_Gr_port_57 f_Gr_19 (by assumption) (by rfl) ?_
    obtain ⟨u, hu, hul⟩ := tx_shp.cur (by first | (rw [hp]; done) | (rw [hp]; exact hn0))
    obtain ⟨x9, hme9, -⟩ := hg.1.2.1
    have hun := hg.1.2.2.2.1 _ u (tx_S.cur hu)
    unfold tx_um at hun
    refine cx_invV1 hE d_Gr_port_60 l_Gr_96 hme9 (c_Me_unit hu hg.1) rfl (by omega) (Nat.le_of_ble_eq_true rfl) n_Me_unit (by rfl) ?_
    refine cx_dup hE d_Gr_port_63 ?_
    refine cx_get hE d_Gr_port_64 f_Gr_100 (by assumption) (by rfl) ?_
    refine cx_iconst (v := 1) hE d_Gr_port_67 (by decide) ?_
    refine cx_iadd hE d_Gr_port_68 ?_
    refine cx_putg hE d_Gr_port_69 f_Gr_100 (by assumption) (Nat.le_of_ble_eq_true rfl) (by first | rfl | exact cx_nr _ _) (by first | rfl | exact cx_fr _ _) (fun G_69 g_69 h_69 => ?_)
    obtain ⟨hg_69, hl_69, hsh_69⟩ := hg.um (g := tx_pru) hu (fun _ => rfl) rfl g_69
    have hs := hs.tr hl_69
    have hp := hsh_69.trans hp
    have hg := hg_69
    have hgr := hg.cel
    have htk := hg.tok hg.lt
    refine cx_vret hE d_Gr_port_72 rfl ?_
    exact Or.inl ⟨_, _, _, _, hR, rfl, hme, hve, hg, hs, ⟨_, hp⟩⟩
set_option maxRecDepth 100000 in
theorem c_Gr_wire {k : cx_K} {l : Launch} {G : cx_G} {F : Nat → Prop} {L : tx_Ls} {gr : Nat} {b : Nat × Nat} {A : tx_A} {i f n0 : Nat} {p1 : List Nat} {s : tx_S} (hfl : l.flags = flags0) (hb : tx_gb L b) (hp : tx_shp s = (p1, some n0)) (hg : tx_g k F L gr b G A i f s) {R0 : tx_R Unit} (hR : R0 = tx_wir (tx_tks L) f i s) : cx_Sp k l m_Gr_wire 10 [.ref gr] G (tx_gd k F L gr b G A.mw A.ve f (fun _ => none) (fun p => ∃ n, p = (p1, some n)) R0) := by
  intro E hE
  have hs := tx_gs.rf F gr G
  obtain ⟨me, hme⟩ : ∃ me, A.mw = me := ⟨_, rfl⟩
  obtain ⟨ve, hve⟩ : ∃ ve, A.ve = ve := ⟨_, rfl⟩
  rw [hme, hve] at hE
  have hT : ∀ e x G', R0 = .inl e → tx_gt F L gr b G ve e x G' → tx_gd k F L gr b G me ve f (fun _ => none) (fun p => ∃ n, p = (p1, some n)) R0 (.inr x) G' := fun e x G' h1 h2 => Or.inr ⟨e, x, h1, rfl, h2⟩
  have hbl := hb.2.2.1
  have hle := hg.le
  have hgr := hg.cel
  have htk := hg.tok hg.lt
  have hn0 : ((p1, some n0) : List Nat × Option Nat).2 = some n0 := rfl
  unfold tx_wir at hR
  refine cx_aload_n (i := 0) hE d_Gr_wire_0 rfl rfl ?_
  refine cx_iconst (v := 5) hE d_Gr_wire_1 (by decide) ?_
  refine cx_tak (kd := 5) hE d_Gr_wire_2 rfl rfl hfl hb hT hve hg hs hR (by decide) (by omega) (Nat.le_of_ble_eq_true rfl) (fun G1 hk2 hg hs hR => ?_)
  have hgr := hg.cel
  have htk := hg.tok hg.lt
  refine cx_pop hE d_Gr_wire_5 ?_
  refine cx_aload_n (i := 0) hE d_Gr_wire_6 rfl rfl ?_
  refine cx_iconst (v := 3) hE d_Gr_wire_7 (by decide) ?_
  have hsp_8 := c_Gr_plainName (kd := 3) hfl hb hp hg rfl
  rw [hme, hve] at hsp_8
  refine cx_gdU hE d_Gr_wire_8 rfl rfl l_Gr_93 hT hg hs hR hsp_8 rfl (by omega) (Nat.le_of_ble_eq_true rfl) n_Gr_plainName (by rfl) (fun w_8 i_8 s_8 A G1 hr_8 hme hve hg hs hq_8 hR => ?_)
  obtain ⟨n_8, hp⟩ := hq_8
  have hn0 : ((p1, some n_8) : List Nat × Option Nat).2 = some n_8 := rfl
  have hgr := hg.cel
  have htk := hg.tok hg.lt
  refine cx_aload_n (i := 0) hE d_Gr_wire_11 rfl rfl ?_
  refine cx_bipush (v := 59) hE d_Gr_wire_12 (by decide) ?_
  refine cx_tak (kd := 59) hE d_Gr_wire_14 rfl rfl hfl hb hT hve hg hs hR (by decide) (by omega) (Nat.le_of_ble_eq_true rfl) (fun G1 hk14 hg hs hR => ?_)
  have hgr := hg.cel
  have htk := hg.tok hg.lt
  refine cx_pop hE d_Gr_wire_17 ?_
  refine cx_vret hE d_Gr_wire_18 rfl ?_
  exact Or.inl ⟨_, _, _, _, hR, rfl, hme, hve, hg, hs, ⟨_, hp⟩⟩

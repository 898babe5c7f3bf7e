/-! GRAMMAR: items that declare nothing. -/
set_option maxRecDepth 100000 in
theorem c_Gr_range {k : cx_K} {l : Launch} {G : cx_G} {F : Nat → Prop} {L : tx_Ls} {gr : Nat} {b : Nat × Nat} {A : tx_A} {i f n0 : Nat} {s : tx_S} (hfl : l.flags = flags0) (hb : tx_gb L b) (hn0 : (tx_shp s).2 = some n0) (hg : tx_g k F L gr b G A i f s) {R0 : tx_R Int32} (hR : R0 = tx_rng (tx_tks L) f i s) : cx_Sp k l m_Gr_range 7 [.ref gr] G (tx_gp k F L gr b G A f (fun w => some (.int w)) s R0) := by
  intro E hE
  have hs := tx_gs.rf F gr G
  have hp : tx_shp s = tx_shp s := rfl
  have hT : ∀ e x G', R0 = .inl e → tx_gt F L gr b G A.ve e x G' → tx_gp k F L gr b G A f (fun w => some (.int w)) s R0 (.inr x) G' := fun e x G' h1 h2 => Or.inr ⟨e, x, h1, rfl, h2⟩
  have hbl := hb.2.2.1
  have hle := hg.le
  have hgr := hg.cel
  have htk := hg.tok hg.lt
  unfold tx_rng at hR
  refine cx_aload_n (i := 0) hE d_Gr_range_0 rfl rfl ?_
  refine cx_get hE d_Gr_range_1 f_Gr_15 (by assumption) (by rfl) ?_
  refine cx_get hE d_Gr_range_4 f_Gr_31 (by assumption) (by rfl) ?_
  refine cx_bipush (v := 91) hE d_Gr_range_7 (by decide) ?_
  refine cx_icmp_eq (tgt := 14)  hE d_Gr_range_9 (by decide) (fun c_9 => ?_) (fun c_9 => ?_)
  · rw [if_pos c_9] at hR
    try simp only [tx_R.and_as, tx_op_and, tx_R.and_r] at hR
    refine cx_aload_n (i := 0) hE d_Gr_range_14 rfl rfl ?_
    refine cx_bipush (v := 91) hE d_Gr_range_15 (by decide) ?_
    refine cx_opn (kd := 91) hE d_Gr_range_17 rfl rfl hfl hb hT rfl hg hs hR (by decide) (by omega) (Nat.le_of_ble_eq_true rfl) (fun f_17 G1 hf17 => ?_)
    subst hf17
    intro hk17 hg hs hR
    have hgr := hg.cel
    have htk := hg.tok hg.lt
    refine cx_astore_n (i := 1) hE d_Gr_range_20 rfl (by decide) ?_
    refine cx_aload_n (i := 0) hE d_Gr_range_21 rfl rfl ?_
    refine cx_bipush (v := 20) hE d_Gr_range_22 (by decide) ?_
    refine cx_tak (kd := 20) hE d_Gr_range_24 rfl rfl hfl hb hT rfl hg hs hR (by decide) (by omega) (Nat.le_of_ble_eq_true rfl) (fun G1 hk24 hg hs hR => ?_)
    have hgr := hg.cel
    have htk := hg.tok hg.lt
    refine cx_invV1 hE d_Gr_range_27 l_Gr_117 (hg.tok (j := i + 1) (by have := hg.lt; omega)) (c_To_plain (t := tx_ta (tx_tks L) (i + 1)) (hg.tok (j := i + 1) (by have := hg.lt; omega))) rfl (by omega) (Nat.le_of_ble_eq_true rfl) n_To_plain (by rfl) ?_
    refine cx_istore_n (i := 2) hE d_Gr_range_30 rfl (by decide) ?_
    refine cx_aload_n (i := 0) hE d_Gr_range_31 rfl rfl ?_
    refine cx_bipush (v := 58) hE d_Gr_range_32 (by decide) ?_
    refine cx_tak (kd := 58) hE d_Gr_range_34 rfl rfl hfl hb hT rfl hg hs hR (by decide) (by omega) (Nat.le_of_ble_eq_true rfl) (fun G1 hk34 hg hs hR => ?_)
    have hgr := hg.cel
    have htk := hg.tok hg.lt
    refine cx_pop hE d_Gr_range_37 ?_
    refine cx_aload_n (i := 0) hE d_Gr_range_38 rfl rfl ?_
    refine cx_bipush (v := 20) hE d_Gr_range_39 (by decide) ?_
    refine cx_tak (kd := 20) hE d_Gr_range_41 rfl rfl hfl hb hT rfl hg hs hR (by decide) (by omega) (Nat.le_of_ble_eq_true rfl) (fun G1 hk41 hg hs hR => ?_)
    have hgr := hg.cel
    have htk := hg.tok hg.lt
    refine cx_invV1 hE d_Gr_range_44 l_Gr_117 (hg.tok (j := i + 1 + 1 + 1) (by have := hg.lt; omega)) (c_To_plain (t := tx_ta (tx_tks L) (i + 1 + 1 + 1)) (hg.tok (j := i + 1 + 1 + 1) (by have := hg.lt; omega))) rfl (by omega) (Nat.le_of_ble_eq_true rfl) n_To_plain (by rfl) ?_
    refine cx_istore_n (i := 3) hE d_Gr_range_47 rfl (by decide) ?_
    refine cx_aload_n (i := 0) hE d_Gr_range_48 rfl rfl ?_
    refine cx_bipush (v := 93) hE d_Gr_range_49 (by decide) ?_
    refine cx_clo (kd := 93) hE d_Gr_range_51 rfl rfl hfl hb hT rfl hg hs hR (by decide) (by omega) (by omega) (Nat.le_of_ble_eq_true rfl) (fun G1 hk51 hg hs hR => ?_)
    have hgr := hg.cel
    have htk := hg.tok hg.lt
    refine cx_pop hE d_Gr_range_54 ?_
    refine cx_aload_n (i := 0) hE d_Gr_range_55 rfl rfl ?_
    refine cx_get hE d_Gr_range_56 f_Gr_19 (by assumption) (by rfl) ?_
    refine cx_aload_n (i := 1) hE d_Gr_range_59 rfl rfl ?_
    refine cx_iload_n (i := 2) hE d_Gr_range_60 rfl rfl ?_
    refine cx_iload_n (i := 3) hE d_Gr_range_61 rfl rfl ?_
    obtain ⟨x9, hme, -⟩ := hg.1.2.1
    refine cx_gmq1 hE d_Gr_range_62 rfl l_Gr_120 hme hg hs hp (c_Me_rangeWidth (hg.tw (j := i) (by have := hg.lt; omega)) hg.1) (tx_shp.ck ..) rfl (by omega) (Nat.le_of_ble_eq_true rfl) n_Me_rangeWidth (by first | rfl | (simp only [List.map_cons, List.map_nil, cx_rfc]; rfl)) (fun G1 hg hs hp hl => ?_)
    have hgr := hg.cel
    have htk := hg.tok hg.lt
    refine cx_iret hE d_Gr_range_65 rfl rfl ?_
    exact Or.inl ⟨_, _, _, hR, rfl, hg, hs, hp⟩
  · rw [if_neg c_9] at hR
    try simp only [tx_R.and_as, tx_op_and, tx_R.and_r] at hR
    refine cx_iconst (v := 1) hE d_Gr_range_12 (by decide) ?_
    refine cx_iret hE d_Gr_range_13 rfl rfl ?_
    exact Or.inl ⟨_, _, _, hR, rfl, hg, hs, hp⟩
set_option maxRecDepth 100000 in
theorem c_Gr_assign {k : cx_K} {l : Launch} {G : cx_G} {F : Nat → Prop} {L : tx_Ls} {gr : Nat} {b : Nat × Nat} {A : tx_A} {i f n0 : Nat} {s : tx_S} (hfl : l.flags = flags0) (hb : tx_gb L b) (hn0 : (tx_shp s).2 = some n0) (hg : tx_g k F L gr b G A i f s) {R0 : tx_R Unit} (hR : R0 = tx_asn (tx_tks L) f i s) : cx_Sp k l m_Gr_assign 300 [.ref gr] G (tx_gp k F L gr b G A f (fun _ => none) s R0) := by
  intro E hE
  have hs := tx_gs.rf F gr G
  have hp : tx_shp s = tx_shp s := rfl
  have hT : ∀ e x G', R0 = .inl e → tx_gt F L gr b G A.ve e x G' → tx_gp k F L gr b G A f (fun _ => none) s R0 (.inr x) G' := fun e x G' h1 h2 => Or.inr ⟨e, x, h1, rfl, h2⟩
  have hbl := hb.2.2.1
  have hle := hg.le
  have hgr := hg.cel
  have htk := hg.tok hg.lt
  unfold tx_asn at hR
  refine cx_aload_n (i := 0) hE d_Gr_assign_0 rfl rfl ?_
  refine cx_bipush (v := 7) hE d_Gr_assign_1 (by decide) ?_
  refine cx_tak (kd := 7) hE d_Gr_assign_3 rfl rfl hfl hb hT rfl hg hs hR (by decide) (by omega) (Nat.le_of_ble_eq_true rfl) (fun G1 hk3 hg hs hR => ?_)
  have hgr := hg.cel
  have htk := hg.tok hg.lt
  refine cx_pop hE d_Gr_assign_6 ?_
  refine cx_aload_n (i := 0) hE d_Gr_assign_7 rfl rfl ?_
  refine cx_get hE d_Gr_assign_8 f_Gr_19 (by assumption) (by rfl) ?_
  obtain ⟨u, hu, hul⟩ := tx_shp.cur (by rw [hp]; exact hn0)
  obtain ⟨x9, hme9, -⟩ := hg.1.2.1
  have hun := hg.1.2.2.2.1 _ u (tx_S.cur hu)
  unfold tx_um at hun
  refine cx_invV1 hE d_Gr_assign_11 l_Gr_96 hme9 (c_Me_unit hu hg.1) rfl (by omega) (Nat.le_of_ble_eq_true rfl) n_Me_unit (by rfl) ?_
  refine cx_dup hE d_Gr_assign_14 ?_
  refine cx_get hE d_Gr_assign_15 f_Gr_124 (by assumption) (by rfl) ?_
  refine cx_iconst (v := 1) hE d_Gr_assign_18 (by decide) ?_
  refine cx_iadd hE d_Gr_assign_19 ?_
  refine cx_putg hE d_Gr_assign_20 f_Gr_124 (by assumption) (Nat.le_of_ble_eq_true rfl) (by first | rfl | exact cx_nr _ _) (by first | rfl | exact cx_fr _ _) (fun G_20 g_20 h_20 => ?_)
  obtain ⟨hg_20, hl_20, hsh_20⟩ := hg.um (g := tx_asu) hu (fun _ => rfl) rfl g_20
  have hs := hs.tr hl_20
  have hp := hsh_20.trans hp
  have hg := hg_20
  have hgr := hg.cel
  have htk := hg.tok hg.lt
  refine cx_aload_n (i := 0) hE d_Gr_assign_23 rfl rfl ?_
  refine cx_get hE d_Gr_assign_24 f_Gr_19 (by assumption) (by rfl) ?_
  refine cx_aload_n (i := 0) hE d_Gr_assign_27 rfl rfl ?_
  refine cx_get hE d_Gr_assign_28 f_Gr_19 (by assumption) (by rfl) ?_
  refine cx_aload_n (i := 0) hE d_Gr_assign_31 rfl rfl ?_
  refine cx_bipush (v := 19) hE d_Gr_assign_32 (by decide) ?_
  refine cx_tak (kd := 19) hE d_Gr_assign_34 rfl rfl hfl hb hT rfl hg hs hR (by decide) (by omega) (Nat.le_of_ble_eq_true rfl) (fun G1 hk34 hg hs hR => ?_)
  have hgr := hg.cel
  have htk := hg.tok hg.lt
  have hok := tx_asg_ok hg.1.2.2.2.2.2.2.2.2.1 (tx_ta (tx_tks L) (i + 1))
  obtain ⟨u, hu, hul⟩ := tx_shp.cur (by rw [hp]; exact hn0)
  obtain ⟨x9, hme, -⟩ := hg.1.2.1
  refine cx_gmq1 hE d_Gr_assign_37 rfl l_Gr_127 hme hg hs hp (c_Me_assigned hu (hg.tw (j := i + 1) (by have := hg.lt; omega)) hg.1) (tx_shp.asg ..) rfl (by omega) (Nat.le_of_ble_eq_true rfl) n_Me_assigned (by first | rfl | (simp only [List.map_cons, List.map_nil, cx_rfc]; rfl)) (fun G1 hg hs hp hl => ?_)
  have hgr := hg.cel
  have htk := hg.tok hg.lt
  have hln : (tx_asg (s.cu tx_asu) (tx_ta (tx_tks L) (i + 1))).2.2.1.length = (s.cu tx_asu).2.1.length := tx_shp.len (tx_shp.asg (s.cu tx_asu) (tx_ta (tx_tks L) (i + 1)))
  have hw17 := c_Me_widthOf (l := l) hg.1 hok
  rw [hln] at hw17
  obtain ⟨x8, hme8, -⟩ := hg.1.2.1
  refine cx_invV1 hE d_Gr_assign_40 l_Gr_131 hme8 hw17 rfl (by omega) (Nat.le_of_ble_eq_true rfl) n_Me_widthOf (by simp only [List.map_cons, List.map_nil, cx_rfc]; rfl) ?_
  refine cx_istore_n (i := 1) hE d_Gr_assign_43 rfl (by decide) ?_
  refine cx_aload_n (i := 0) hE d_Gr_assign_44 rfl rfl ?_
  refine cx_bipush (v := 61) hE d_Gr_assign_45 (by decide) ?_
  refine cx_tak (kd := 61) hE d_Gr_assign_47 rfl rfl hfl hb hT rfl hg hs hR (by decide) (by omega) (Nat.le_of_ble_eq_true rfl) (fun G1 hk47 hg hs hR => ?_)
  have hgr := hg.cel
  have htk := hg.tok hg.lt
  refine cx_astore_n (i := 2) hE d_Gr_assign_50 rfl (by decide) ?_
  refine cx_aload_n (i := 0) hE d_Gr_assign_51 rfl rfl ?_
  refine cx_get hE d_Gr_assign_52 f_Gr_23 (by assumption) (by rfl) ?_
  refine cx_iload_n (i := 1) hE d_Gr_assign_55 rfl rfl ?_
  refine cx_aload_n (i := 0) hE d_Gr_assign_56 rfl rfl ?_
  refine cx_gsubI hE d_Gr_assign_57 rfl rfl l_Gr_135 hT rfl hg hs hp hR (c_Gr_exp hfl hb (by rw [hp]; exact hn0) hg) rfl (by omega) (Nat.le_of_ble_eq_true rfl) n_Gr_expression (by rfl) (fun w_57 i_57 s_57 G1 hr_57 hg hs hp hR hl => ?_)
  have hgr := hg.cel
  have htk := hg.tok hg.lt
  have hup_57 := tx_up.exp _ _ _ _ _ _ hr_57
  have hsg := hg.tok (j := i + 1 + 1) (by have := hg.lt; omega)
  refine cx_icmp_ne (tgt := 67)  hE d_Gr_assign_60 (by decide) (fun c_60 => ?_) (fun c_60 => ?_)
  · rw [decide_eq_false c_60] at hR
    refine cx_iconst (v := 0) hE d_Gr_assign_67 (by decide) ?_
    refine cx_bipush (v := 30) hE d_Gr_assign_68 (by decide) ?_
    refine cx_aload_n (i := 2) hE d_Gr_assign_70 rfl rfl ?_
    refine cx_get hE d_Gr_assign_71 f_Gr_41 (by assumption) (by rfl) ?_
    refine cx_gmq0 hE d_Gr_assign_74 rfl l_Gr_138 hg.1.1 hg hs hp (c_ck (right := false) (code := 30) (place := nI (tx_ta (tx_tks L) (i + 1 + 1)).2.1) hg.1) (tx_shp.ck ..) rfl (by omega) (Nat.le_of_ble_eq_true rfl) n_Ve_check (by first | rfl | (simp only [List.map_cons, List.map_nil, cx_rfc]; rfl)) (fun G1 hg hs hp hl => ?_)
    have hgr := hg.cel
    have htk := hg.tok hg.lt
    refine cx_aload_n (i := 0) hE d_Gr_assign_77 rfl rfl ?_
    refine cx_bipush (v := 59) hE d_Gr_assign_78 (by decide) ?_
    refine cx_tak (kd := 59) hE d_Gr_assign_80 rfl rfl hfl hb hT rfl hg hs hR (by decide) (by omega) (Nat.le_of_ble_eq_true rfl) (fun G1 hk80 hg hs hR => ?_)
    have hgr := hg.cel
    have htk := hg.tok hg.lt
    refine cx_pop hE d_Gr_assign_83 ?_
    refine cx_vret hE d_Gr_assign_84 rfl ?_
    exact Or.inl ⟨_, _, _, hR, rfl, hg, hs, hp⟩
  · rw [decide_eq_true c_60] at hR
    refine cx_iconst (v := 1) hE d_Gr_assign_63 (by decide) ?_
    refine cx_goto (tgt := 68) hE d_Gr_assign_64 (by decide) ?_
    refine cx_bipush (v := 30) hE d_Gr_assign_68 (by decide) ?_
    refine cx_aload_n (i := 2) hE d_Gr_assign_70 rfl rfl ?_
    refine cx_get hE d_Gr_assign_71 f_Gr_41 (by assumption) (by rfl) ?_
    refine cx_gmq0 hE d_Gr_assign_74 rfl l_Gr_138 hg.1.1 hg hs hp (c_ck (right := true) (code := 30) (place := nI (tx_ta (tx_tks L) (i + 1 + 1)).2.1) hg.1) (tx_shp.ck ..) rfl (by omega) (Nat.le_of_ble_eq_true rfl) n_Ve_check (by first | rfl | (simp only [List.map_cons, List.map_nil, cx_rfc]; rfl)) (fun G1 hg hs hp hl => ?_)
    have hgr := hg.cel
    have htk := hg.tok hg.lt
    refine cx_aload_n (i := 0) hE d_Gr_assign_77 rfl rfl ?_
    refine cx_bipush (v := 59) hE d_Gr_assign_78 (by decide) ?_
    refine cx_tak (kd := 59) hE d_Gr_assign_80 rfl rfl hfl hb hT rfl hg hs hR (by decide) (by omega) (Nat.le_of_ble_eq_true rfl) (fun G1 hk80 hg hs hR => ?_)
    have hgr := hg.cel
    have htk := hg.tok hg.lt
    refine cx_pop hE d_Gr_assign_83 ?_
    refine cx_vret hE d_Gr_assign_84 rfl ?_
    exact Or.inl ⟨_, _, _, hR, rfl, hg, hs, hp⟩
set_option maxRecDepth 100000 in
theorem c_Gr_alwaysHead {k : cx_K} {l : Launch} {G : cx_G} {F : Nat → Prop} {L : tx_Ls} {gr : Nat} {b : Nat × Nat} {A : tx_A} {i f n0 : Nat} {s : tx_S} (hfl : l.flags = flags0) (hb : tx_gb L b) (hn0 : (tx_shp s).2 = some n0) (hg : tx_g k F L gr b G A i f s) {R0 : tx_R Unit} (hR : R0 = tx_alh (tx_tks L) f i s) : cx_Sp k l m_Gr_alwaysHead 10 [.ref gr] G (tx_gp k F L gr b G A f (fun _ => none) s R0) := by
  intro E hE
  have hs := tx_gs.rf F gr G
  have hp : tx_shp s = tx_shp s := rfl
  have hT : ∀ e x G', R0 = .inl e → tx_gt F L gr b G A.ve e x G' → tx_gp k F L gr b G A f (fun _ => none) s R0 (.inr x) G' := fun e x G' h1 h2 => Or.inr ⟨e, x, h1, rfl, h2⟩
  have hbl := hb.2.2.1
  have hle := hg.le
  have hgr := hg.cel
  have htk := hg.tok hg.lt
  unfold tx_alh at hR
  refine cx_aload_n (i := 0) hE d_Gr_alwaysHead_0 rfl rfl ?_
  refine cx_bipush (v := 8) hE d_Gr_alwaysHead_1 (by decide) ?_
  refine cx_tak (kd := 8) hE d_Gr_alwaysHead_3 rfl rfl hfl hb hT rfl hg hs hR (by decide) (by omega) (Nat.le_of_ble_eq_true rfl) (fun G1 hk3 hg hs hR => ?_)
  have hgr := hg.cel
  have htk := hg.tok hg.lt
  refine cx_pop hE d_Gr_alwaysHead_6 ?_
  refine cx_aload_n (i := 0) hE d_Gr_alwaysHead_7 rfl rfl ?_
  refine cx_bipush (v := 64) hE d_Gr_alwaysHead_8 (by decide) ?_
  refine cx_tak (kd := 64) hE d_Gr_alwaysHead_10 rfl rfl hfl hb hT rfl hg hs hR (by decide) (by omega) (Nat.le_of_ble_eq_true rfl) (fun G1 hk10 hg hs hR => ?_)
  have hgr := hg.cel
  have htk := hg.tok hg.lt
  refine cx_pop hE d_Gr_alwaysHead_13 ?_
  refine cx_aload_n (i := 0) hE d_Gr_alwaysHead_14 rfl rfl ?_
  refine cx_bipush (v := 40) hE d_Gr_alwaysHead_15 (by decide) ?_
  refine cx_opn (kd := 40) hE d_Gr_alwaysHead_17 rfl rfl hfl hb hT rfl hg hs hR (by decide) (by omega) (Nat.le_of_ble_eq_true rfl) (fun f_17 G1 hf17 => ?_)
  subst hf17
  intro hk17 hg hs hR
  have hgr := hg.cel
  have htk := hg.tok hg.lt
  refine cx_pop hE d_Gr_alwaysHead_20 ?_
  refine cx_aload_n (i := 0) hE d_Gr_alwaysHead_21 rfl rfl ?_
  refine cx_bipush (v := 9) hE d_Gr_alwaysHead_22 (by decide) ?_
  refine cx_tak (kd := 9) hE d_Gr_alwaysHead_24 rfl rfl hfl hb hT rfl hg hs hR (by decide) (by omega) (Nat.le_of_ble_eq_true rfl) (fun G1 hk24 hg hs hR => ?_)
  have hgr := hg.cel
  have htk := hg.tok hg.lt
  refine cx_pop hE d_Gr_alwaysHead_27 ?_
  refine cx_aload_n (i := 0) hE d_Gr_alwaysHead_28 rfl rfl ?_
  refine cx_bipush (v := 10) hE d_Gr_alwaysHead_29 (by decide) ?_
  refine cx_tak (kd := 10) hE d_Gr_alwaysHead_31 rfl rfl hfl hb hT rfl hg hs hR (by decide) (by omega) (Nat.le_of_ble_eq_true rfl) (fun G1 hk31 hg hs hR => ?_)
  have hgr := hg.cel
  have htk := hg.tok hg.lt
  refine cx_pop hE d_Gr_alwaysHead_34 ?_
  refine cx_aload_n (i := 0) hE d_Gr_alwaysHead_35 rfl rfl ?_
  refine cx_bipush (v := 41) hE d_Gr_alwaysHead_36 (by decide) ?_
  refine cx_clo (kd := 41) hE d_Gr_alwaysHead_38 rfl rfl hfl hb hT rfl hg hs hR (by decide) (by omega) (by omega) (Nat.le_of_ble_eq_true rfl) (fun G1 hk38 hg hs hR => ?_)
  have hgr := hg.cel
  have htk := hg.tok hg.lt
  refine cx_pop hE d_Gr_alwaysHead_41 ?_
  refine cx_aload_n (i := 0) hE d_Gr_alwaysHead_42 rfl rfl ?_
  refine cx_get hE d_Gr_alwaysHead_43 f_Gr_19 (by assumption) (by rfl) ?_
  obtain ⟨u, hu, hul⟩ := tx_shp.cur (by rw [hp]; exact hn0)
  obtain ⟨x9, hme9, -⟩ := hg.1.2.1
  have hun := hg.1.2.2.2.1 _ u (tx_S.cur hu)
  unfold tx_um at hun
  refine cx_invV1 hE d_Gr_alwaysHead_46 l_Gr_96 hme9 (c_Me_unit hu hg.1) rfl (by omega) (Nat.le_of_ble_eq_true rfl) n_Me_unit (by rfl) ?_
  refine cx_dup hE d_Gr_alwaysHead_49 ?_
  refine cx_get hE d_Gr_alwaysHead_50 f_Gr_142 (by assumption) (by rfl) ?_
  refine cx_iconst (v := 1) hE d_Gr_alwaysHead_53 (by decide) ?_
  refine cx_iadd hE d_Gr_alwaysHead_54 ?_
  refine cx_putg hE d_Gr_alwaysHead_55 f_Gr_142 (by assumption) (Nat.le_of_ble_eq_true rfl) (by first | rfl | exact cx_nr _ _) (by first | rfl | exact cx_fr _ _) (fun G_55 g_55 h_55 => ?_)
  obtain ⟨hg_55, hl_55, hsh_55⟩ := hg.um (g := tx_alu) hu (fun _ => rfl) rfl g_55
  have hs := hs.tr hl_55
  have hp := hsh_55.trans hp
  have hg := hg_55
  have hgr := hg.cel
  have htk := hg.tok hg.lt
  refine cx_vret hE d_Gr_alwaysHead_58 rfl ?_
  exact Or.inl ⟨_, _, _, hR, rfl, hg, hs, hp⟩
set_option maxRecDepth 100000 in
theorem c_Gr_assertion {k : cx_K} {l : Launch} {G : cx_G} {F : Nat → Prop} {L : tx_Ls} {gr : Nat} {b : Nat × Nat} {A : tx_A} {i f n0 : Nat} {s : tx_S} (hfl : l.flags = flags0) (hb : tx_gb L b) (hn0 : (tx_shp s).2 = some n0) (hg : tx_g k F L gr b G A i f s) {R0 : tx_R Unit} (hR : R0 = tx_ast (tx_tks L) f i s) : cx_Sp k l m_Gr_assertion 300 [.ref gr] G (tx_gp k F L gr b G A f (fun _ => none) s R0) := by
  intro E hE
  have hs := tx_gs.rf F gr G
  have hp : tx_shp s = tx_shp s := rfl
  have hT : ∀ e x G', R0 = .inl e → tx_gt F L gr b G A.ve e x G' → tx_gp k F L gr b G A f (fun _ => none) s R0 (.inr x) G' := fun e x G' h1 h2 => Or.inr ⟨e, x, h1, rfl, h2⟩
  have hbl := hb.2.2.1
  have hle := hg.le
  have hgr := hg.cel
  have htk := hg.tok hg.lt
  unfold tx_ast at hR
  refine cx_aload_n (i := 0) hE d_Gr_assertion_0 rfl rfl ?_
  refine cx_bipush (v := 18) hE d_Gr_assertion_1 (by decide) ?_
  refine cx_tak (kd := 18) hE d_Gr_assertion_3 rfl rfl hfl hb hT rfl hg hs hR (by decide) (by omega) (Nat.le_of_ble_eq_true rfl) (fun G1 hk3 hg hs hR => ?_)
  have hgr := hg.cel
  have htk := hg.tok hg.lt
  refine cx_pop hE d_Gr_assertion_6 ?_
  refine cx_aload_n (i := 0) hE d_Gr_assertion_7 rfl rfl ?_
  refine cx_get hE d_Gr_assertion_8 f_Gr_19 (by assumption) (by rfl) ?_
  obtain ⟨u, hu, hul⟩ := tx_shp.cur (by rw [hp]; exact hn0)
  obtain ⟨x9, hme9, -⟩ := hg.1.2.1
  have hun := hg.1.2.2.2.1 _ u (tx_S.cur hu)
  unfold tx_um at hun
  refine cx_invV1 hE d_Gr_assertion_11 l_Gr_96 hme9 (c_Me_unit hu hg.1) rfl (by omega) (Nat.le_of_ble_eq_true rfl) n_Me_unit (by rfl) ?_
  refine cx_dup hE d_Gr_assertion_14 ?_
  refine cx_get hE d_Gr_assertion_15 f_Gr_145 (by assumption) (by rfl) ?_
  refine cx_iconst (v := 1) hE d_Gr_assertion_18 (by decide) ?_
  refine cx_iadd hE d_Gr_assertion_19 ?_
  refine cx_putg hE d_Gr_assertion_20 f_Gr_145 (by assumption) (Nat.le_of_ble_eq_true rfl) (by first | rfl | exact cx_nr _ _) (by first | rfl | exact cx_fr _ _) (fun G_20 g_20 h_20 => ?_)
  obtain ⟨hg_20, hl_20, hsh_20⟩ := hg.um (g := tx_atu) hu (fun _ => rfl) rfl g_20
  have hs := hs.tr hl_20
  have hp := hsh_20.trans hp
  have hg := hg_20
  have hgr := hg.cel
  have htk := hg.tok hg.lt
  refine cx_aload_n (i := 0) hE d_Gr_assertion_23 rfl rfl ?_
  refine cx_bipush (v := 40) hE d_Gr_assertion_24 (by decide) ?_
  refine cx_opn (kd := 40) hE d_Gr_assertion_26 rfl rfl hfl hb hT rfl hg hs hR (by decide) (by omega) (Nat.le_of_ble_eq_true rfl) (fun f_26 G1 hf26 => ?_)
  subst hf26
  intro hk26 hg hs hR
  have hgr := hg.cel
  have htk := hg.tok hg.lt
  refine cx_pop hE d_Gr_assertion_29 ?_
  refine cx_aload_n (i := 0) hE d_Gr_assertion_30 rfl rfl ?_
  refine cx_get hE d_Gr_assertion_31 f_Gr_19 (by assumption) (by rfl) ?_
  refine cx_aload_n (i := 0) hE d_Gr_assertion_34 rfl rfl ?_
  refine cx_gsubI hE d_Gr_assertion_35 rfl rfl l_Gr_135 hT rfl hg hs hp hR (c_Gr_exp hfl hb (by rw [hp]; exact hn0) hg) rfl (by omega) (Nat.le_of_ble_eq_true rfl) n_Gr_expression (by rfl) (fun w_35 i_35 s_35 G1 hr_35 hg hs hp hR hl => ?_)
  have hgr := hg.cel
  have htk := hg.tok hg.lt
  have hup_35 := tx_up.exp _ _ _ _ _ _ hr_35
  obtain ⟨u, hu, hul⟩ := tx_shp.cur (by rw [hp]; exact hn0)
  obtain ⟨x9, hme, -⟩ := hg.1.2.1
  refine cx_gmq0 hE d_Gr_assertion_38 rfl l_Gr_148 hme hg hs hp (c_Me_spend (c := w_35) hu hg.1) (tx_shp.spend ..) rfl (by omega) (Nat.le_of_ble_eq_true rfl) n_Me_spend (by first | rfl | (simp only [List.map_cons, List.map_nil, cx_rfc]; rfl)) (fun G1 hg hs hp hl => ?_)
  have hgr := hg.cel
  have htk := hg.tok hg.lt
  refine cx_aload_n (i := 0) hE d_Gr_assertion_41 rfl rfl ?_
  refine cx_bipush (v := 41) hE d_Gr_assertion_42 (by decide) ?_
  refine cx_clo (kd := 41) hE d_Gr_assertion_44 rfl rfl hfl hb hT rfl hg hs hR (by decide) (by omega) (by omega) (Nat.le_of_ble_eq_true rfl) (fun G1 hk44 hg hs hR => ?_)
  have hgr := hg.cel
  have htk := hg.tok hg.lt
  refine cx_pop hE d_Gr_assertion_47 ?_
  refine cx_aload_n (i := 0) hE d_Gr_assertion_48 rfl rfl ?_
  refine cx_bipush (v := 59) hE d_Gr_assertion_49 (by decide) ?_
  refine cx_tak (kd := 59) hE d_Gr_assertion_51 rfl rfl hfl hb hT rfl hg hs hR (by decide) (by omega) (Nat.le_of_ble_eq_true rfl) (fun G1 hk51 hg hs hR => ?_)
  have hgr := hg.cel
  have htk := hg.tok hg.lt
  refine cx_pop hE d_Gr_assertion_54 ?_
  refine cx_vret hE d_Gr_assertion_55 rfl ?_
  exact Or.inl ⟨_, _, _, hR, rfl, hg, hs, hp⟩
set_option maxRecDepth 100000 in
theorem c_Gr_link {k : cx_K} {l : Launch} {G : cx_G} {F : Nat → Prop} {L : tx_Ls} {gr : Nat} {b : Nat × Nat} {A : tx_A} {i f n0 : Nat} {s : tx_S} (hfl : l.flags = flags0) (hb : tx_gb L b) (hn0 : (tx_shp s).2 = some n0) (hg : tx_g k F L gr b G A i f s) {R0 : tx_R Unit} {q : Nat} (hq : q < n0) (hR : R0 = tx_lnk (tx_tks L) q f i s) : cx_Sp k l m_Gr_link 300 [.ref gr, .ref (A.na s.2.1.length q)] G (tx_gp k F L gr b G A f (fun _ => none) s R0) := by
  intro E hE
  have hs := tx_gs.rf F gr G
  have hp : tx_shp s = tx_shp s := rfl
  have hT : ∀ e x G', R0 = .inl e → tx_gt F L gr b G A.ve e x G' → tx_gp k F L gr b G A f (fun _ => none) s R0 (.inr x) G' := fun e x G' h1 h2 => Or.inr ⟨e, x, h1, rfl, h2⟩
  have hbl := hb.2.2.1
  have hle := hg.le
  have hgr := hg.cel
  have htk := hg.tok hg.lt
  unfold tx_lnk at hR
  refine cx_aload_n (i := 0) hE d_Gr_link_0 rfl rfl ?_
  refine cx_bipush (v := 46) hE d_Gr_link_1 (by decide) ?_
  refine cx_tak (kd := 46) hE d_Gr_link_3 rfl rfl hfl hb hT rfl hg hs hR (by decide) (by omega) (Nat.le_of_ble_eq_true rfl) (fun G1 hk3 hg hs hR => ?_)
  have hgr := hg.cel
  have htk := hg.tok hg.lt
  refine cx_astore_n (i := 2) hE d_Gr_link_6 rfl (by decide) ?_
  refine cx_aload_n (i := 0) hE d_Gr_link_7 rfl rfl ?_
  refine cx_get hE d_Gr_link_8 f_Gr_19 (by assumption) (by rfl) ?_
  refine cx_aload_n (i := 1) hE d_Gr_link_11 rfl rfl ?_
  refine cx_aload_n (i := 0) hE d_Gr_link_12 rfl rfl ?_
  refine cx_bipush (v := 19) hE d_Gr_link_13 (by decide) ?_
  refine cx_tak (kd := 19) hE d_Gr_link_15 rfl rfl hfl hb hT rfl hg hs hR (by decide) (by omega) (Nat.le_of_ble_eq_true rfl) (fun G1 hk15 hg hs hR => ?_)
  have hgr := hg.cel
  have htk := hg.tok hg.lt
  obtain ⟨u, hu, hul⟩ := tx_shp.cur (by rw [hp]; exact hn0)
  obtain ⟨x9, hme, -⟩ := hg.1.2.1
  obtain ⟨r, hr⟩ : ∃ r, u.2.2.1[q]? = some r := ⟨_, List.getElem?_eq_getElem (by omega)⟩
  have hpo := fun x => tx_lpo_ok (x := x) (t := tx_ta (tx_tks L) (i + 1)) hg.1.2.2.2.2.2.2.2.2.1 hu hr
  refine cx_gmq1 hE d_Gr_link_18 rfl l_Gr_166 hme hg hs hp (c_Me_linkedPort hu hr (hg.tw (j := i + 1) (by have := hg.lt; omega)) hg.1) (tx_shp.lpo ..) rfl (by omega) (Nat.le_of_ble_eq_true rfl) n_Me_linkedPort (by first | rfl | (simp only [List.map_cons, List.map_nil, cx_rfc]; rfl)) (fun G1 hg hs hp hl => ?_)
  have hgr := hg.cel
  have htk := hg.tok hg.lt
  refine cx_astore_n (i := 3) hE d_Gr_link_21 rfl (by decide) ?_
  refine cx_aload_n (i := 0) hE d_Gr_link_22 rfl rfl ?_
  refine cx_bipush (v := 40) hE d_Gr_link_23 (by decide) ?_
  refine cx_opn (kd := 40) hE d_Gr_link_25 rfl rfl hfl hb hT rfl hg hs hR (by decide) (by omega) (Nat.le_of_ble_eq_true rfl) (fun f_25 G1 hf25 => ?_)
  subst hf25
  intro hk25 hg hs hR
  have hgr := hg.cel
  have htk := hg.tok hg.lt
  refine cx_pop hE d_Gr_link_28 ?_
  refine cx_aload_n (i := 0) hE d_Gr_link_29 rfl rfl ?_
  refine cx_get hE d_Gr_link_30 f_Gr_15 (by assumption) (by rfl) ?_
  refine cx_astore hE d_Gr_link_33 (by decide) ?_
  refine cx_aload_n (i := 0) hE d_Gr_link_35 rfl rfl ?_
  refine cx_gsubI hE d_Gr_link_36 rfl rfl l_Gr_135 hT rfl hg hs hp hR (c_Gr_exp hfl hb (by rw [hp]; exact hn0) hg) rfl (by omega) (Nat.le_of_ble_eq_true rfl) n_Gr_expression (by rfl) (fun w_36 i_36 s_36 G1 hr_36 hg hs hp hR hl => ?_)
  have hgr := hg.cel
  have htk := hg.tok hg.lt
  have hup_36 := tx_up.exp _ _ _ _ _ _ hr_36
  have hfs := hg.tok (j := (i + 1 + 1 + 1)) (by have := hg.lt; omega)
  have hal9 : (L[(i + 1 + 1 + 1) + 1]?).map (fun y => y.1) = some (tx_ad L i_36) ↔ i_36 = (i + 1 + 1 + 1) + 1 := by
    have hi9 := hg.lt
    have hlt : (i + 1 + 1 + 1) + 1 < L.length := by omega
    rw [List.getElem?_eq_getElem hlt]
    show some (L[(i + 1 + 1 + 1) + 1]).1 = _ ↔ _
    rw [← tx_ad_of (List.getElem?_eq_getElem hlt)]
    exact ⟨fun z => (tx_ad_inj hg hlt hi9 (Option.some.inj z)).symm, fun z => by rw [z]⟩
  refine cx_istore hE d_Gr_link_39 (by decide) ?_
  refine cx_aload hE d_Gr_link_41 rfl ?_
  refine cx_get hE d_Gr_link_43 f_Gr_31 (by assumption) (by rfl) ?_
  refine cx_bipush (v := 19) hE d_Gr_link_46 (by decide) ?_
  refine cx_icmp_ne (tgt := 67)  hE d_Gr_link_48 (by decide) (fun c_48 => ?_) (fun c_48 => ?_)
  · rw [show decide (tx_ki (tx_tks L) (i + 1 + 1 + 1) = 19 ∧ i_36 = (i + 1 + 1 + 1) + 1) = false from decide_eq_false (fun z => c_48 z.1)] at hR
    refine cx_iconst (v := 0) hE d_Gr_link_67 (by decide) ?_
    refine cx_istore hE d_Gr_link_68 (by decide) ?_
    refine cx_aload_n (i := 0) hE d_Gr_link_70 rfl rfl ?_
    refine cx_bipush (v := 41) hE d_Gr_link_71 (by decide) ?_
    refine cx_clo (kd := 41) hE d_Gr_link_73 rfl rfl hfl hb hT rfl hg hs hR (by decide) (by omega) (by omega) (Nat.le_of_ble_eq_true rfl) (fun G1 hk73 hg hs hR => ?_)
    have hgr := hg.cel
    have htk := hg.tok hg.lt
    refine cx_pop hE d_Gr_link_76 ?_
    refine cx_aload_n (i := 0) hE d_Gr_link_77 rfl rfl ?_
    refine cx_get hE d_Gr_link_78 f_Gr_19 (by assumption) (by rfl) ?_
    refine cx_aload_n (i := 2) hE d_Gr_link_81 rfl rfl ?_
    refine cx_aload_n (i := 3) hE d_Gr_link_82 rfl rfl ?_
    refine cx_aload hE d_Gr_link_83 rfl ?_
    refine cx_iload hE d_Gr_link_85 rfl ?_
    refine cx_iload hE d_Gr_link_87 rfl ?_
    obtain ⟨u, hu, hul⟩ := tx_shp.cur (by rw [hp]; exact hn0)
    obtain ⟨x9, hme, -⟩ := hg.1.2.1
    refine cx_gmq0 hE d_Gr_link_89 rfl l_Gr_170 hme hg hs hp (c_Me_link (alone := false) hu (hg.tw (j := (i + 1 + 1 + 1)) (by have := hg.lt; omega)) (hg.tw (j := i) (by have := hg.lt; omega)) (p := (tx_lpo q (tx_ta (tx_tks L) (i + 1)) s).1) (fun x hx9 => by obtain ⟨ux, z1, z2⟩ := hpo x hx9; obtain ⟨u9, y1, y2⟩ := tx_shp.at hp z1; exact ⟨u9, y1, by omega⟩) hg.1) (tx_shp.link ..) rfl (by omega) (Nat.le_of_ble_eq_true rfl) n_Me_link (by first | rfl | (simp only [List.map_cons, List.map_nil, cx_rfc]; rfl)) (fun G1 hg hs hp hl => ?_)
    refine cx_vret hE d_Gr_link_92 rfl ?_
    exact Or.inl ⟨_, _, _, hR, rfl, hg, hs, hp⟩
  · refine cx_aload hE d_Gr_link_51 rfl ?_
    refine cx_get hE d_Gr_link_53 f_Gr_52 (by assumption) (by rfl) ?_
    refine cx_aload_n (i := 0) hE d_Gr_link_56 rfl rfl ?_
    refine cx_get hE d_Gr_link_57 f_Gr_15 (by assumption) (by rfl) ?_
    refine cx_acmp_ne (tgt := 67) (rx := (L[(i + 1 + 1 + 1) + 1]?).map (fun y => y.1)) (ry := some (tx_ad L i_36)) hE d_Gr_link_60 (by decide) (fun c_60 => ?_) (fun c_60 => ?_)
    · rw [show decide (tx_ki (tx_tks L) (i + 1 + 1 + 1) = 19 ∧ i_36 = (i + 1 + 1 + 1) + 1) = false from decide_eq_false (fun z => c_60 (hal9.mpr z.2))] at hR
      refine cx_iconst (v := 0) hE d_Gr_link_67 (by decide) ?_
      refine cx_istore hE d_Gr_link_68 (by decide) ?_
      refine cx_aload_n (i := 0) hE d_Gr_link_70 rfl rfl ?_
      refine cx_bipush (v := 41) hE d_Gr_link_71 (by decide) ?_
      refine cx_clo (kd := 41) hE d_Gr_link_73 rfl rfl hfl hb hT rfl hg hs hR (by decide) (by omega) (by omega) (Nat.le_of_ble_eq_true rfl) (fun G1 hk73 hg hs hR => ?_)
      have hgr := hg.cel
      have htk := hg.tok hg.lt
      refine cx_pop hE d_Gr_link_76 ?_
      refine cx_aload_n (i := 0) hE d_Gr_link_77 rfl rfl ?_
      refine cx_get hE d_Gr_link_78 f_Gr_19 (by assumption) (by rfl) ?_
      refine cx_aload_n (i := 2) hE d_Gr_link_81 rfl rfl ?_
      refine cx_aload_n (i := 3) hE d_Gr_link_82 rfl rfl ?_
      refine cx_aload hE d_Gr_link_83 rfl ?_
      refine cx_iload hE d_Gr_link_85 rfl ?_
      refine cx_iload hE d_Gr_link_87 rfl ?_
      obtain ⟨u, hu, hul⟩ := tx_shp.cur (by rw [hp]; exact hn0)
      obtain ⟨x9, hme, -⟩ := hg.1.2.1
      refine cx_gmq0 hE d_Gr_link_89 rfl l_Gr_170 hme hg hs hp (c_Me_link (alone := false) hu (hg.tw (j := (i + 1 + 1 + 1)) (by have := hg.lt; omega)) (hg.tw (j := i) (by have := hg.lt; omega)) (p := (tx_lpo q (tx_ta (tx_tks L) (i + 1)) s).1) (fun x hx9 => by obtain ⟨ux, z1, z2⟩ := hpo x hx9; obtain ⟨u9, y1, y2⟩ := tx_shp.at hp z1; exact ⟨u9, y1, by omega⟩) hg.1) (tx_shp.link ..) rfl (by omega) (Nat.le_of_ble_eq_true rfl) n_Me_link (by first | rfl | (simp only [List.map_cons, List.map_nil, cx_rfc]; rfl)) (fun G1 hg hs hp hl => ?_)
      refine cx_vret hE d_Gr_link_92 rfl ?_
      exact Or.inl ⟨_, _, _, hR, rfl, hg, hs, hp⟩
    · rw [show decide (tx_ki (tx_tks L) (i + 1 + 1 + 1) = 19 ∧ i_36 = (i + 1 + 1 + 1) + 1) = true from decide_eq_true ⟨c_48, hal9.mp c_60⟩] at hR
      refine cx_iconst (v := 1) hE d_Gr_link_63 (by decide) ?_
      refine cx_goto (tgt := 68) hE d_Gr_link_64 (by decide) ?_
      refine cx_istore hE d_Gr_link_68 (by decide) ?_
      refine cx_aload_n (i := 0) hE d_Gr_link_70 rfl rfl ?_
      refine cx_bipush (v := 41) hE d_Gr_link_71 (by decide) ?_
      refine cx_clo (kd := 41) hE d_Gr_link_73 rfl rfl hfl hb hT rfl hg hs hR (by decide) (by omega) (by omega) (Nat.le_of_ble_eq_true rfl) (fun G1 hk73 hg hs hR => ?_)
      have hgr := hg.cel
      have htk := hg.tok hg.lt
      refine cx_pop hE d_Gr_link_76 ?_
      refine cx_aload_n (i := 0) hE d_Gr_link_77 rfl rfl ?_
      refine cx_get hE d_Gr_link_78 f_Gr_19 (by assumption) (by rfl) ?_
      refine cx_aload_n (i := 2) hE d_Gr_link_81 rfl rfl ?_
      refine cx_aload_n (i := 3) hE d_Gr_link_82 rfl rfl ?_
      refine cx_aload hE d_Gr_link_83 rfl ?_
      refine cx_iload hE d_Gr_link_85 rfl ?_
      refine cx_iload hE d_Gr_link_87 rfl ?_
      obtain ⟨u, hu, hul⟩ := tx_shp.cur (by rw [hp]; exact hn0)
      obtain ⟨x9, hme, -⟩ := hg.1.2.1
      refine cx_gmq0 hE d_Gr_link_89 rfl l_Gr_170 hme hg hs hp (c_Me_link (alone := true) hu (hg.tw (j := (i + 1 + 1 + 1)) (by have := hg.lt; omega)) (hg.tw (j := i) (by have := hg.lt; omega)) (p := (tx_lpo q (tx_ta (tx_tks L) (i + 1)) s).1) (fun x hx9 => by obtain ⟨ux, z1, z2⟩ := hpo x hx9; obtain ⟨u9, y1, y2⟩ := tx_shp.at hp z1; exact ⟨u9, y1, by omega⟩) hg.1) (tx_shp.link ..) rfl (by omega) (Nat.le_of_ble_eq_true rfl) n_Me_link (by first | rfl | (simp only [List.map_cons, List.map_nil, cx_rfc]; rfl)) (fun G1 hg hs hp hl => ?_)
      refine cx_vret hE d_Gr_link_92 rfl ?_
      exact Or.inl ⟨_, _, _, hR, rfl, hg, hs, hp⟩

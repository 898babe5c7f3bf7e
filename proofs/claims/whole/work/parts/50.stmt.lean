/-! GRAMMAR: statements. -/
theorem tx_ti {x n : Int32} (h : ¬ x = n) : x.toInt ≠ n.toInt := fun z => h (Int32.toInt_inj.mp z)
theorem tx_setr_ok {s : tx_S} (hI : tx_mI s) (t : tx_Tk) : (tx_setr s t).2.ok (tx_setr s t).1 := by
  refine tx_S.ok_shp (tx_shp.setr s t) ?_
  have h := tx_S.da_ok hI t.2.2.2.1
  unfold tx_setr
  cases hd : s.da t.2.2.2.1 with
  | none => exact fun q hq => by cases hq
  | some q =>
    rw [hd] at h
    show s.ok (if _ then _ else _ : Option Nat × tx_S).1
    split
    · exact h
    · exact fun q hq => by cases hq
theorem tx_asg_ok {s : tx_S} (hI : tx_mI s) (t : tx_Tk) : (tx_asg s t).2.ok (tx_asg s t).1 := by
  refine tx_S.ok_shp (tx_shp.asg s t) ?_
  have h := tx_S.da_ok hI t.2.2.2.1
  unfold tx_asg
  cases hd : s.da t.2.2.2.1 with
  | none => exact fun q hq => by cases hq
  | some q =>
    rw [hd] at h
    show s.ok (if _ then _ else _ : Option Nat × tx_S).1
    split
    · exact h
    · exact fun q hq => by cases hq
/-- a statement, where f brackets may yet be begun and f is below m -/
def tx_PS (k : cx_K) (l : Launch) (F : Nat → Prop) (L : tx_Ls) (gr : Nat) (b : Nat × Nat) (m : Nat) : Prop := ∀ (f : Nat) (G : cx_G) (A : tx_A) (i : Nat) (s : tx_S) (n0 : Nat), f < m → tx_g k F L gr b G A i f s → (tx_shp s).2 = some n0 → cx_Sp k l m_Gr_statement (4 * m + 300) [.ref gr] G (tx_gp k F L gr b G A f (fun _ => none) s (tx_stf (tx_tks L) m f i s))
set_option maxRecDepth 100000 in
theorem c_Gr_block {k : cx_K} {l : Launch} {G : cx_G} {F : Nat → Prop} {L : tx_Ls} {gr : Nat} {b : Nat × Nat} {A : tx_A} {i f n0 : Nat} {s : tx_S} (hfl : l.flags = flags0) (hb : tx_gb L b) (hn0 : (tx_shp s).2 = some n0) (hg : tx_g k F L gr b G A i f s) {m : Nat} (hx : tx_PS k l F L gr b m) (hfm : f ≤ m) {R0 : tx_R Unit} (hR : R0 = tx_op (tx_tks L) 11 f i s fun f _ i s => (tx_blk (tx_tks L) (tx_stf (tx_tks L) m) f (tx_tks L).length i s).and (fun _ i s => (tx_tk (tx_tks L) 12 i s).and fun _ i s => .inr ((), i, s))) : cx_Sp k l m_Gr_block (4 * m + 301) [.ref gr] G (tx_gp k F L gr b G A f (fun _ => none) s R0) := by
  intro E hE
  have hs := tx_gs.rf F gr G
  have hp : tx_shp s = tx_shp s := rfl
  have hT : ∀ e x G', R0 = .inl e → tx_gt F L gr b G A.ve e x G' → tx_gp k F L gr b G A f (fun _ => none) s R0 (.inr x) G' := fun e x G' h1 h2 => Or.inr ⟨e, x, h1, rfl, h2⟩
  have hbl := hb.2.2.1
  have hle := hg.le
  have hgr := hg.cel
  have htk := hg.tok hg.lt
  refine cx_aload_n (i := 0) hE d_Gr_block_0 rfl rfl ?_
  refine cx_bipush (v := 11) hE d_Gr_block_1 (by decide) ?_
  refine cx_opn (kd := 11) hE d_Gr_block_3 rfl rfl hfl hb hT rfl hg hs hR (by decide) (by omega) (Nat.le_of_ble_eq_true rfl) (fun f_3 G1 hf3 => ?_)
  subst hf3
  intro hk3 hg hs hR
  have hgr := hg.cel
  have htk := hg.tok hg.lt
  obtain ⟨m, rfl⟩ : ∃ m9, m = m9 + 1 := ⟨m - 1, by omega⟩
  have hloop : ∀ (n c i' : Nat) (s' : tx_S) (G1 : cx_G), L.length ≤ i' + n → c ≤ i' → tx_g k F L gr b G1 A i' f_3 s' → tx_gs F gr G G1 → tx_shp s' = tx_shp s → R0 = (tx_blk (tx_tks L) (tx_stf (tx_tks L) (m + 1)) f_3 n i' s').and (fun _ i s => (tx_tk (tx_tks L) 12 i s).and fun _ i s => .inr ((), i, s)) → cx_V E 9 [(1, false, .int (nI c)), (0, false, .ref gr)] [] G1 := by
    intro n
    induction n with
    | zero =>
      intro c i' s' G1 h1 h2 hg hs hp hR
      exact absurd hg.lt (by omega)
    | succ n ih =>
      intro c i' s' G1 h1 h2 hg hs hp hR
      unfold tx_blk at hR
      have hgr := hg.cel
      have htk := hg.tok hg.lt
      refine cx_iload_n (i := 1) hE d_Gr_block_9 rfl rfl ?_
      refine cx_ldc (v := 1000000) hE d_Gr_block_10 (in_5 (List.mem_of_getElem? (i := 16) rfl)) ?_
      refine cx_icmp_ge (tgt := 37)  hE d_Gr_block_12 (by decide) (fun c_12 => ?_) (fun c_12 => ?_)
      · exact absurd c_12 (nI_ge (a := c) (b := 1000000) (by have := hg.lt; omega) (by omega))
        -- end
      · refine cx_aload_n (i := 0) hE d_Gr_block_15 rfl rfl ?_
        refine cx_get hE d_Gr_block_16 f_Gr_15 (by assumption) (by rfl) ?_
        refine cx_get hE d_Gr_block_19 f_Gr_31 (by assumption) (by rfl) ?_
        refine cx_bipush (v := 12) hE d_Gr_block_22 (by decide) ?_
        refine cx_icmp_eq (tgt := 37)  hE d_Gr_block_24 (by decide) (fun c_24 => ?_) (fun c_24 => ?_)
        · rw [if_pos c_24] at hR
          try simp only [tx_R.and_as, tx_op_and, tx_R.and_r] at hR
          refine cx_aload_n (i := 0) hE d_Gr_block_37 rfl rfl ?_
          refine cx_bipush (v := 12) hE d_Gr_block_38 (by decide) ?_
          refine cx_clo (kd := 12) hE d_Gr_block_40 rfl rfl hfl hb hT rfl hg hs hR (by decide) (by omega) (by omega) (Nat.le_of_ble_eq_true rfl) (fun G1 hk40 hg hs hR => ?_)
          have hgr := hg.cel
          have htk := hg.tok hg.lt
          refine cx_pop hE d_Gr_block_43 ?_
          refine cx_vret hE d_Gr_block_44 rfl ?_
          exact Or.inl ⟨_, _, _, hR, rfl, hg, hs, hp⟩
        · rw [if_neg c_24] at hR
          try simp only [tx_R.and_as, tx_op_and, tx_R.and_r] at hR
          refine cx_aload_n (i := 0) hE d_Gr_block_27 rfl rfl ?_
          refine cx_gsubU hE d_Gr_block_28 rfl rfl l_Gr_81 hT rfl hg hs hp hR (hx _ _ _ _ _ _ (by omega) hg (by rw [hp]; exact hn0)) rfl (by omega) (Nat.le_of_ble_eq_true rfl) n_Gr_statement (by rfl) (fun w_28 i_28 s_28 G1 hr_28 hg hs hp hR hl => ?_)
          have hgr := hg.cel
          have htk := hg.tok hg.lt
          have hup_28 := tx_up.stf1 _ _ _ _ _ _ _ hr_28
          refine cx_iinc (v := nI (c + 1)) hE d_Gr_block_31 rfl (nI_1 _) (by decide) ?_
          refine cx_goto (tgt := 9) hE d_Gr_block_34 (by decide) ?_
          refine cx_sub [0, 1] rfl ?_
          exact ih (c + 1) _ _ _ (by omega) (by omega) hg hs hp hR
  refine cx_pop hE d_Gr_block_6 ?_
  refine cx_iconst (v := 0) hE d_Gr_block_7 (by decide) ?_
  refine cx_istore_n (i := 1) hE d_Gr_block_8 rfl (by decide) ?_
  refine cx_sub [0, 1] rfl ?_
  exact hloop L.length 0 _ _ _ (by omega) (by omega) hg hs hp (by rw [tx_tks_len] at hR; exact hR)
set_option maxRecDepth 100000 in
theorem c_Gr_choice {k : cx_K} {l : Launch} {G : cx_G} {F : Nat → Prop} {L : tx_Ls} {gr : Nat} {b : Nat × Nat} {A : tx_A} {i f n0 : Nat} {s : tx_S} (hfl : l.flags = flags0) (hb : tx_gb L b) (hn0 : (tx_shp s).2 = some n0) (hg : tx_g k F L gr b G A i f s) {m : Nat} (hx : tx_PS k l F L gr b m) (hfm : f ≤ m) {R0 : tx_R Unit} (hR : R0 = tx_chc (tx_tks L) (tx_stf (tx_tks L) m) f i s) : cx_Sp k l m_Gr_choice (4 * m + 301) [.ref gr] G (tx_gp k F L gr b G A f (fun _ => none) s R0) := by
  intro E hE
  have hs := tx_gs.rf F gr G
  have hp : tx_shp s = tx_shp s := rfl
  have hT : ∀ e x G', R0 = .inl e → tx_gt F L gr b G A.ve e x G' → tx_gp k F L gr b G A f (fun _ => none) s R0 (.inr x) G' := fun e x G' h1 h2 => Or.inr ⟨e, x, h1, rfl, h2⟩
  have hbl := hb.2.2.1
  have hle := hg.le
  have hgr := hg.cel
  have htk := hg.tok hg.lt
  unfold tx_chc at hR
  refine cx_aload_n (i := 0) hE d_Gr_choice_0 rfl rfl ?_
  refine cx_bipush (v := 13) hE d_Gr_choice_1 (by decide) ?_
  refine cx_opn (kd := 13) hE d_Gr_choice_3 rfl rfl hfl hb hT rfl hg hs hR (by decide) (by omega) (Nat.le_of_ble_eq_true rfl) (fun f_3 G1 hf3 => ?_)
  subst hf3
  intro hk3 hg hs hR
  have hgr := hg.cel
  have htk := hg.tok hg.lt
  refine cx_pop hE d_Gr_choice_6 ?_
  refine cx_aload_n (i := 0) hE d_Gr_choice_7 rfl rfl ?_
  refine cx_bipush (v := 40) hE d_Gr_choice_8 (by decide) ?_
  refine cx_opn (kd := 40) hE d_Gr_choice_10 rfl rfl hfl hb hT rfl hg hs hR (by decide) (by omega) (Nat.le_of_ble_eq_true rfl) (fun f_10 G1 hf10 => ?_)
  subst hf10
  intro hk10 hg hs hR
  have hgr := hg.cel
  have htk := hg.tok hg.lt
  obtain ⟨m, rfl⟩ : ∃ m9, m = m9 + 1 := ⟨m - 1, by omega⟩
  refine cx_pop hE d_Gr_choice_13 ?_
  refine cx_aload_n (i := 0) hE d_Gr_choice_14 rfl rfl ?_
  refine cx_get hE d_Gr_choice_15 f_Gr_19 (by assumption) (by rfl) ?_
  refine cx_aload_n (i := 0) hE d_Gr_choice_18 rfl rfl ?_
  refine cx_gsubI hE d_Gr_choice_19 rfl rfl l_Gr_135 hT rfl hg hs hp hR (c_Gr_exp hfl hb (by rw [hp]; exact hn0) hg) rfl (by omega) (Nat.le_of_ble_eq_true rfl) n_Gr_expression (by rfl) (fun w_19 i_19 s_19 G1 hr_19 hg hs hp hR hl => ?_)
  have hgr := hg.cel
  have htk := hg.tok hg.lt
  have hup_19 := tx_up.exp _ _ _ _ _ _ hr_19
  obtain ⟨u, hu, hul⟩ := tx_shp.cur (by rw [hp]; exact hn0)
  obtain ⟨x9, hme, -⟩ := hg.1.2.1
  refine cx_gmq0 hE d_Gr_choice_22 rfl l_Gr_148 hme hg hs hp (c_Me_spend (c := w_19) hu hg.1) (tx_shp.spend ..) rfl (by omega) (Nat.le_of_ble_eq_true rfl) n_Me_spend (by first | rfl | (simp only [List.map_cons, List.map_nil, cx_rfc]; rfl)) (fun G1 hg hs hp hl => ?_)
  have hgr := hg.cel
  have htk := hg.tok hg.lt
  refine cx_aload_n (i := 0) hE d_Gr_choice_25 rfl rfl ?_
  refine cx_bipush (v := 41) hE d_Gr_choice_26 (by decide) ?_
  refine cx_clo (kd := 41) hE d_Gr_choice_28 rfl rfl hfl hb hT rfl hg hs hR (by decide) (by omega) (by omega) (Nat.le_of_ble_eq_true rfl) (fun G1 hk28 hg hs hR => ?_)
  have hgr := hg.cel
  have htk := hg.tok hg.lt
  refine cx_pop hE d_Gr_choice_31 ?_
  refine cx_aload_n (i := 0) hE d_Gr_choice_32 rfl rfl ?_
  refine cx_gsubU hE d_Gr_choice_33 rfl rfl l_Gr_81 hT rfl hg hs hp hR (hx _ _ _ _ _ _ (by omega) hg (by rw [hp]; exact hn0)) rfl (by omega) (Nat.le_of_ble_eq_true rfl) n_Gr_statement (by rfl) (fun w_33 i_33 s_33 G1 hr_33 hg hs hp hR hl => ?_)
  have hgr := hg.cel
  have htk := hg.tok hg.lt
  have hup_33 := tx_up.stf1 _ _ _ _ _ _ _ hr_33
  refine cx_aload_n (i := 0) hE d_Gr_choice_36 rfl rfl ?_
  refine cx_get hE d_Gr_choice_37 f_Gr_15 (by assumption) (by rfl) ?_
  refine cx_get hE d_Gr_choice_40 f_Gr_31 (by assumption) (by rfl) ?_
  refine cx_bipush (v := 14) hE d_Gr_choice_43 (by decide) ?_
  refine cx_icmp_ne (tgt := 59)  hE d_Gr_choice_45 (by decide) (fun c_45 => ?_) (fun c_45 => ?_)
  · rw [if_neg c_45] at hR
    try simp only [tx_R.and_as, tx_op_and, tx_R.and_r] at hR
    refine cx_aload_n (i := 0) hE d_Gr_choice_59 rfl rfl ?_
    refine cx_dup hE d_Gr_choice_60 ?_
    refine cx_get hE d_Gr_choice_61 f_Gr_9 (by assumption) (by rfl) ?_
    refine cx_iconst (v := 1) hE d_Gr_choice_64 (by decide) ?_
    refine cx_isub hE d_Gr_choice_65 ?_
    refine cx_putg hE d_Gr_choice_66 f_Gr_9 (by assumption) (Nat.le_of_ble_eq_true rfl) (by first | rfl | exact cx_nr _ _) (by first | rfl | exact cx_fr _ _) (fun G_66 g_66 h_66 => ?_)
    have hg66 := hg.mv (f' := f_10 + 1 + 1) (G' := G_66) hg.lt (Nat.le_refl _) (by omega) (by rw [← g_66, ← tx_o62 (f_10 + 1) (by omega)]; rfl)
    have hs := hs.tr (tx_gs.put g_66)
    have hg := hg66
    refine cx_vret hE d_Gr_choice_69 rfl ?_
    exact Or.inl ⟨_, _, _, hR, rfl, hg, hs, hp⟩
  · rw [if_pos c_45] at hR
    try simp only [tx_R.and_as, tx_op_and, tx_R.and_r] at hR
    refine cx_aload_n (i := 0) hE d_Gr_choice_48 rfl rfl ?_
    refine cx_bipush (v := 14) hE d_Gr_choice_49 (by decide) ?_
    refine cx_tak (kd := 14) hE d_Gr_choice_51 rfl rfl hfl hb hT rfl hg hs hR (by decide) (by omega) (Nat.le_of_ble_eq_true rfl) (fun G1 hk51 hg hs hR => ?_)
    have hgr := hg.cel
    have htk := hg.tok hg.lt
    refine cx_pop hE d_Gr_choice_54 ?_
    refine cx_aload_n (i := 0) hE d_Gr_choice_55 rfl rfl ?_
    refine cx_gsubU hE d_Gr_choice_56 rfl rfl l_Gr_81 hT rfl hg hs hp (hR.trans (tx_R.and_id _)) (hx _ _ _ _ _ _ (by omega) hg (by rw [hp]; exact hn0)) rfl (by omega) (Nat.le_of_ble_eq_true rfl) n_Gr_statement (by rfl) (fun w_56 i_56 s_56 G1 hr_56 hg hs hp hR hl => ?_)
    have hgr := hg.cel
    have htk := hg.tok hg.lt
    have hup_56 := tx_up.stf1 _ _ _ _ _ _ _ hr_56
    refine cx_aload_n (i := 0) hE d_Gr_choice_59 rfl rfl ?_
    refine cx_dup hE d_Gr_choice_60 ?_
    refine cx_get hE d_Gr_choice_61 f_Gr_9 (by assumption) (by rfl) ?_
    refine cx_iconst (v := 1) hE d_Gr_choice_64 (by decide) ?_
    refine cx_isub hE d_Gr_choice_65 ?_
    refine cx_putg hE d_Gr_choice_66 f_Gr_9 (by assumption) (Nat.le_of_ble_eq_true rfl) (by first | rfl | exact cx_nr _ _) (by first | rfl | exact cx_fr _ _) (fun G_66 g_66 h_66 => ?_)
    have hg66 := hg.mv (f' := f_10 + 1 + 1) (G' := G_66) hg.lt (Nat.le_refl _) (by omega) (by rw [← g_66, ← tx_o62 (f_10 + 1) (by omega)]; rfl)
    have hs := hs.tr (tx_gs.put g_66)
    have hg := hg66
    refine cx_vret hE d_Gr_choice_69 rfl ?_
    exact Or.inl ⟨_, _, _, hR, rfl, hg, hs, hp⟩
set_option maxRecDepth 100000 in
theorem c_Gr_cases {k : cx_K} {l : Launch} {G : cx_G} {F : Nat → Prop} {L : tx_Ls} {gr : Nat} {b : Nat × Nat} {A : tx_A} {i f n0 : Nat} {s : tx_S} (hfl : l.flags = flags0) (hb : tx_gb L b) (hn0 : (tx_shp s).2 = some n0) (hg : tx_g k F L gr b G A i f s) {m : Nat} (hx : tx_PS k l F L gr b m) (hfm : f ≤ m) {R0 : tx_R Unit} (hR : R0 = tx_css (tx_tks L) (tx_stf (tx_tks L) m) f i s) : cx_Sp k l m_Gr_cases (4 * m + 301) [.ref gr] G (tx_gp k F L gr b G A f (fun _ => none) s R0) := by
  intro E hE
  have hs := tx_gs.rf F gr G
  have hp : tx_shp s = tx_shp s := rfl
  have hT : ∀ e x G', R0 = .inl e → tx_gt F L gr b G A.ve e x G' → tx_gp k F L gr b G A f (fun _ => none) s R0 (.inr x) G' := fun e x G' h1 h2 => Or.inr ⟨e, x, h1, rfl, h2⟩
  have hbl := hb.2.2.1
  have hle := hg.le
  have hgr := hg.cel
  have htk := hg.tok hg.lt
  unfold tx_css at hR
  refine cx_aload_n (i := 0) hE d_Gr_cases_0 rfl rfl ?_
  refine cx_bipush (v := 15) hE d_Gr_cases_1 (by decide) ?_
  refine cx_opn (kd := 15) hE d_Gr_cases_3 rfl rfl hfl hb hT rfl hg hs hR (by decide) (by omega) (Nat.le_of_ble_eq_true rfl) (fun f_3 G1 hf3 => ?_)
  subst hf3
  intro hk3 hg hs hR
  have hgr := hg.cel
  have htk := hg.tok hg.lt
  refine cx_pop hE d_Gr_cases_6 ?_
  refine cx_aload_n (i := 0) hE d_Gr_cases_7 rfl rfl ?_
  refine cx_bipush (v := 40) hE d_Gr_cases_8 (by decide) ?_
  refine cx_opn (kd := 40) hE d_Gr_cases_10 rfl rfl hfl hb hT rfl hg hs hR (by decide) (by omega) (Nat.le_of_ble_eq_true rfl) (fun f_10 G1 hf10 => ?_)
  subst hf10
  intro hk10 hg hs hR
  have hgr := hg.cel
  have htk := hg.tok hg.lt
  obtain ⟨m, rfl⟩ : ∃ m9, m = m9 + 1 := ⟨m - 1, by omega⟩
  refine cx_pop hE d_Gr_cases_13 ?_
  refine cx_aload_n (i := 0) hE d_Gr_cases_14 rfl rfl ?_
  refine cx_gsubI hE d_Gr_cases_15 rfl rfl l_Gr_135 hT rfl hg hs hp hR (c_Gr_exp hfl hb (by rw [hp]; exact hn0) hg) rfl (by omega) (Nat.le_of_ble_eq_true rfl) n_Gr_expression (by rfl) (fun w_15 i_15 s_15 G1 hr_15 hg hs hp hR hl => ?_)
  have hgr := hg.cel
  have htk := hg.tok hg.lt
  have hup_15 := tx_up.exp _ _ _ _ _ _ hr_15
  generalize w_15 = w at *
  have hend : ∀ (i' : Nat) (s' : tx_S) (G1 : cx_G), tx_g k F L gr b G1 A i' (f_10 + 1) s' → tx_gs F gr G G1 → tx_shp s' = tx_shp s → R0 = (fun _ i s => (if tx_ki (tx_tks L) i = 17 then (tx_tk (tx_tks L) 17 i s).and fun _ i s => (tx_tk (tx_tks L) 58 i s).and fun _ i s => (tx_stf (tx_tks L) (m + 1)) (f_10 + 1) i s else .inr ((), i, s)).and (fun _ i s => (tx_tk (tx_tks L) 16 i s).and fun _ i s => .inr ((), i, s))) () i' s' → cx_V E 124 [(0, false, .ref gr)] [] G1 := by
    intro i' s' G1 hg hs hp hR
    simp only [] at hR
    have hgr := hg.cel
    have htk := hg.tok hg.lt
    refine cx_aload_n (i := 0) hE d_Gr_cases_124 rfl rfl ?_
    refine cx_get hE d_Gr_cases_125 f_Gr_15 (by assumption) (by rfl) ?_
    refine cx_get hE d_Gr_cases_128 f_Gr_31 (by assumption) (by rfl) ?_
    refine cx_bipush (v := 17) hE d_Gr_cases_131 (by decide) ?_
    refine cx_icmp_ne (tgt := 154)  hE d_Gr_cases_133 (by decide) (fun c_133 => ?_) (fun c_133 => ?_)
    · rw [if_neg c_133] at hR
      try simp only [tx_R.and_as, tx_op_and, tx_R.and_r] at hR
      refine cx_aload_n (i := 0) hE d_Gr_cases_154 rfl rfl ?_
      refine cx_bipush (v := 16) hE d_Gr_cases_155 (by decide) ?_
      refine cx_clo (kd := 16) hE d_Gr_cases_157 rfl rfl hfl hb hT rfl hg hs hR (by decide) (by omega) (by omega) (Nat.le_of_ble_eq_true rfl) (fun G1 hk157 hg hs hR => ?_)
      have hgr := hg.cel
      have htk := hg.tok hg.lt
      refine cx_pop hE d_Gr_cases_160 ?_
      refine cx_vret hE d_Gr_cases_161 rfl ?_
      exact Or.inl ⟨_, _, _, hR, rfl, hg, hs, hp⟩
    · rw [if_pos c_133] at hR
      try simp only [tx_R.and_as, tx_op_and, tx_R.and_r] at hR
      refine cx_aload_n (i := 0) hE d_Gr_cases_136 rfl rfl ?_
      refine cx_bipush (v := 17) hE d_Gr_cases_137 (by decide) ?_
      refine cx_tak (kd := 17) hE d_Gr_cases_139 rfl rfl hfl hb hT rfl hg hs hR (by decide) (by omega) (Nat.le_of_ble_eq_true rfl) (fun G1 hk139 hg hs hR => ?_)
      have hgr := hg.cel
      have htk := hg.tok hg.lt
      refine cx_pop hE d_Gr_cases_142 ?_
      refine cx_aload_n (i := 0) hE d_Gr_cases_143 rfl rfl ?_
      refine cx_bipush (v := 58) hE d_Gr_cases_144 (by decide) ?_
      refine cx_tak (kd := 58) hE d_Gr_cases_146 rfl rfl hfl hb hT rfl hg hs hR (by decide) (by omega) (Nat.le_of_ble_eq_true rfl) (fun G1 hk146 hg hs hR => ?_)
      have hgr := hg.cel
      have htk := hg.tok hg.lt
      refine cx_pop hE d_Gr_cases_149 ?_
      refine cx_aload_n (i := 0) hE d_Gr_cases_150 rfl rfl ?_
      refine cx_gsubU hE d_Gr_cases_151 rfl rfl l_Gr_81 hT rfl hg hs hp hR (hx _ _ _ _ _ _ (by omega) hg (by rw [hp]; exact hn0)) rfl (by omega) (Nat.le_of_ble_eq_true rfl) n_Gr_statement (by rfl) (fun w_151 i_151 s_151 G1 hr_151 hg hs hp hR hl => ?_)
      have hgr := hg.cel
      have htk := hg.tok hg.lt
      have hup_151 := tx_up.stf1 _ _ _ _ _ _ _ hr_151
      refine cx_aload_n (i := 0) hE d_Gr_cases_154 rfl rfl ?_
      refine cx_bipush (v := 16) hE d_Gr_cases_155 (by decide) ?_
      refine cx_clo (kd := 16) hE d_Gr_cases_157 rfl rfl hfl hb hT rfl hg hs hR (by decide) (by omega) (by omega) (Nat.le_of_ble_eq_true rfl) (fun G1 hk157 hg hs hR => ?_)
      have hgr := hg.cel
      have htk := hg.tok hg.lt
      refine cx_pop hE d_Gr_cases_160 ?_
      refine cx_vret hE d_Gr_cases_161 rfl ?_
      exact Or.inl ⟨_, _, _, hR, rfl, hg, hs, hp⟩
  have hloop : ∀ (n c i' : Nat) (s' : tx_S) (G1 : cx_G), L.length ≤ i' + n → c ≤ i' → tx_g k F L gr b G1 A i' (f_10 + 1) s' → tx_gs F gr G G1 → tx_shp s' = tx_shp s → R0 = (tx_cas (tx_tks L) (tx_stf (tx_tks L) (m + 1)) (f_10 + 1) w n i' s').and (fun _ i s => (if tx_ki (tx_tks L) i = 17 then (tx_tk (tx_tks L) 17 i s).and fun _ i s => (tx_tk (tx_tks L) 58 i s).and fun _ i s => (tx_stf (tx_tks L) (m + 1)) (f_10 + 1) i s else .inr ((), i, s)).and (fun _ i s => (tx_tk (tx_tks L) 16 i s).and fun _ i s => .inr ((), i, s))) → cx_V E 28 [(2, false, .int (nI c)), (1, false, .int w), (0, false, .ref gr)] [] G1 := by
    intro n
    induction n with
    | zero =>
      intro c i' s' G1 h1 h2 hg hs hp hR
      exact absurd hg.lt (by omega)
    | succ n ih =>
      intro c i' s' G1 h1 h2 hg hs hp hR
      unfold tx_cas at hR
      have hgr := hg.cel
      have htk := hg.tok hg.lt
      refine cx_iload_n (i := 2) hE d_Gr_cases_28 rfl rfl ?_
      refine cx_ldc (v := 1000000) hE d_Gr_cases_29 (in_5 (List.mem_of_getElem? (i := 16) rfl)) ?_
      refine cx_icmp_ge (tgt := 124)  hE d_Gr_cases_31 (by decide) (fun c_31 => ?_) (fun c_31 => ?_)
      · exact absurd c_31 (nI_ge (a := c) (b := 1000000) (by have := hg.lt; omega) (by omega))
        -- end
      · refine cx_aload_n (i := 0) hE d_Gr_cases_34 rfl rfl ?_
        refine cx_get hE d_Gr_cases_35 f_Gr_15 (by assumption) (by rfl) ?_
        refine cx_get hE d_Gr_cases_38 f_Gr_31 (by assumption) (by rfl) ?_
        refine cx_bipush (v := 21) hE d_Gr_cases_41 (by decide) ?_
        refine cx_icmp_ne (tgt := 124)  hE d_Gr_cases_43 (by decide) (fun c_43 => ?_) (fun c_43 => ?_)
        · rw [if_neg c_43] at hR
          try simp only [tx_R.and_as, tx_op_and, tx_R.and_r] at hR
          refine cx_sub [2] rfl ?_
          exact hend _ _ _ hg hs hp hR
        · rw [if_pos c_43] at hR
          try simp only [tx_R.and_as, tx_op_and, tx_R.and_r] at hR
          refine cx_aload_n (i := 0) hE d_Gr_cases_46 rfl rfl ?_
          refine cx_get hE d_Gr_cases_47 f_Gr_19 (by assumption) (by rfl) ?_
          refine cx_aload_n (i := 0) hE d_Gr_cases_50 rfl rfl ?_
          refine cx_bipush (v := 21) hE d_Gr_cases_51 (by decide) ?_
          refine cx_tak (kd := 21) hE d_Gr_cases_53 rfl rfl hfl hb hT rfl hg hs hR (by decide) (by omega) (Nat.le_of_ble_eq_true rfl) (fun G1 hk53 hg hs hR => ?_)
          have hgr := hg.cel
          have htk := hg.tok hg.lt
          refine cx_iload_n (i := 1) hE d_Gr_cases_56 rfl rfl ?_
          obtain ⟨u, hu, hul⟩ := tx_shp.cur (by rw [hp]; exact hn0)
          obtain ⟨x9, hme, -⟩ := hg.1.2.1
          refine cx_gmq0 hE d_Gr_cases_57 rfl l_Gr_185 hme hg hs hp (c_Me_caseValue (w := w) hu (hg.tw (j := i') (by have := hg.lt; omega)) hg.1) (tx_shp.csv ..) rfl (by omega) (Nat.le_of_ble_eq_true rfl) n_Me_caseValue (by first | rfl | (simp only [List.map_cons, List.map_nil, cx_rfc]; rfl)) (fun G1 hg hs hp hl => ?_)
          have hgr := hg.cel
          have htk := hg.tok hg.lt
          have hin : ∀ (n2 c2 i2 : Nat) (s2 : tx_S) (G2 : cx_G), L.length ≤ i2 + n2 → c2 ≤ i2 → i' < i2 → tx_g k F L gr b G2 A i2 (f_10 + 1) s2 → tx_gs F gr G G2 → tx_shp s2 = tx_shp s → R0 = (tx_cvs (tx_tks L) w n2 i2 s2).and (fun _ i s => (tx_tk (tx_tks L) 58 i s).and fun _ i s => ((tx_stf (tx_tks L) (m + 1)) (f_10 + 1) i s).and fun _ i s => (tx_cas (tx_tks L) (tx_stf (tx_tks L) (m + 1)) (f_10 + 1) w n i s).and (fun _ i s => (if tx_ki (tx_tks L) i = 17 then (tx_tk (tx_tks L) 17 i s).and fun _ i s => (tx_tk (tx_tks L) 58 i s).and fun _ i s => (tx_stf (tx_tks L) (m + 1)) (f_10 + 1) i s else .inr ((), i, s)).and (fun _ i s => (tx_tk (tx_tks L) 16 i s).and fun _ i s => .inr ((), i, s)))) → cx_V E 62 [(3, false, .int (nI c2)), (2, false, .int (nI c)), (1, false, .int w), (0, false, .ref gr)] [] G2 := by
            intro n2
            induction n2 with
            | zero =>
              intro c2 i2 s2 G2 h4 h5 h6 hg hs hp hR
              exact absurd hg.lt (by omega)
            | succ n2 ih2 =>
              intro c2 i2 s2 G2 h4 h5 h6 hg hs hp hR
              unfold tx_cvs at hR
              have hgr := hg.cel
              have htk := hg.tok hg.lt
              refine cx_iload_n (i := 3) hE d_Gr_cases_62 rfl rfl ?_
              refine cx_ldc (v := 1000000) hE d_Gr_cases_63 (in_5 (List.mem_of_getElem? (i := 16) rfl)) ?_
              refine cx_icmp_ge (tgt := 107)  hE d_Gr_cases_65 (by decide) (fun c_65 => ?_) (fun c_65 => ?_)
              · exact absurd c_65 (nI_ge (a := c2) (b := 1000000) (by have := hg.lt; omega) (by omega))
                -- end
              · refine cx_aload_n (i := 0) hE d_Gr_cases_68 rfl rfl ?_
                refine cx_get hE d_Gr_cases_69 f_Gr_15 (by assumption) (by rfl) ?_
                refine cx_get hE d_Gr_cases_72 f_Gr_31 (by assumption) (by rfl) ?_
                refine cx_bipush (v := 44) hE d_Gr_cases_75 (by decide) ?_
                refine cx_icmp_ne (tgt := 107)  hE d_Gr_cases_77 (by decide) (fun c_77 => ?_) (fun c_77 => ?_)
                · rw [if_neg c_77] at hR
                  try simp only [tx_R.and_as, tx_op_and, tx_R.and_r] at hR
                  refine cx_aload_n (i := 0) hE d_Gr_cases_107 rfl rfl ?_
                  refine cx_bipush (v := 58) hE d_Gr_cases_108 (by decide) ?_
                  refine cx_tak (kd := 58) hE d_Gr_cases_110 rfl rfl hfl hb hT rfl hg hs hR (by decide) (by omega) (Nat.le_of_ble_eq_true rfl) (fun G1 hk110 hg hs hR => ?_)
                  have hgr := hg.cel
                  have htk := hg.tok hg.lt
                  refine cx_pop hE d_Gr_cases_113 ?_
                  refine cx_aload_n (i := 0) hE d_Gr_cases_114 rfl rfl ?_
                  refine cx_gsubU hE d_Gr_cases_115 rfl rfl l_Gr_81 hT rfl hg hs hp hR (hx _ _ _ _ _ _ (by omega) hg (by rw [hp]; exact hn0)) rfl (by omega) (Nat.le_of_ble_eq_true rfl) n_Gr_statement (by rfl) (fun w_115 i_115 s_115 G1 hr_115 hg hs hp hR hl => ?_)
                  have hgr := hg.cel
                  have htk := hg.tok hg.lt
                  have hup_115 := tx_up.stf1 _ _ _ _ _ _ _ hr_115
                  refine cx_iinc (v := nI (c + 1)) hE d_Gr_cases_118 rfl (nI_1 _) (by decide) ?_
                  refine cx_goto (tgt := 28) hE d_Gr_cases_121 (by decide) ?_
                  refine cx_sub [0, 2, 3] rfl ?_
                  exact ih (c + 1) _ _ _ (by omega) (by omega) hg hs hp hR
                · rw [if_pos c_77] at hR
                  try simp only [tx_R.and_as, tx_op_and, tx_R.and_r] at hR
                  refine cx_aload_n (i := 0) hE d_Gr_cases_80 rfl rfl ?_
                  refine cx_bipush (v := 44) hE d_Gr_cases_81 (by decide) ?_
                  refine cx_tak (kd := 44) hE d_Gr_cases_83 rfl rfl hfl hb hT rfl hg hs hR (by decide) (by omega) (Nat.le_of_ble_eq_true rfl) (fun G1 hk83 hg hs hR => ?_)
                  have hgr := hg.cel
                  have htk := hg.tok hg.lt
                  refine cx_pop hE d_Gr_cases_86 ?_
                  refine cx_aload_n (i := 0) hE d_Gr_cases_87 rfl rfl ?_
                  refine cx_get hE d_Gr_cases_88 f_Gr_19 (by assumption) (by rfl) ?_
                  refine cx_aload_n (i := 0) hE d_Gr_cases_91 rfl rfl ?_
                  refine cx_bipush (v := 21) hE d_Gr_cases_92 (by decide) ?_
                  refine cx_tak (kd := 21) hE d_Gr_cases_94 rfl rfl hfl hb hT rfl hg hs hR (by decide) (by omega) (Nat.le_of_ble_eq_true rfl) (fun G1 hk94 hg hs hR => ?_)
                  have hgr := hg.cel
                  have htk := hg.tok hg.lt
                  refine cx_iload_n (i := 1) hE d_Gr_cases_97 rfl rfl ?_
                  obtain ⟨u, hu, hul⟩ := tx_shp.cur (by rw [hp]; exact hn0)
                  obtain ⟨x9, hme, -⟩ := hg.1.2.1
                  refine cx_gmq0 hE d_Gr_cases_98 rfl l_Gr_185 hme hg hs hp (c_Me_caseValue (w := w) hu (hg.tw (j := i2 + 1) (by have := hg.lt; omega)) hg.1) (tx_shp.csv ..) rfl (by omega) (Nat.le_of_ble_eq_true rfl) n_Me_caseValue (by first | rfl | (simp only [List.map_cons, List.map_nil, cx_rfc]; rfl)) (fun G1 hg hs hp hl => ?_)
                  have hgr := hg.cel
                  have htk := hg.tok hg.lt
                  refine cx_iinc (v := nI (c2 + 1)) hE d_Gr_cases_101 rfl (nI_1 _) (by decide) ?_
                  refine cx_goto (tgt := 62) hE d_Gr_cases_104 (by decide) ?_
                  refine cx_sub [0, 1, 2, 3] rfl ?_
                  exact ih2 (c2 + 1) _ _ _ (by omega) (by omega) (by omega) hg hs hp hR
          refine cx_iconst (v := 0) hE d_Gr_cases_60 (by decide) ?_
          refine cx_istore_n (i := 3) hE d_Gr_cases_61 rfl (by decide) ?_
          refine cx_sub [0, 1, 2, 3] rfl ?_
          exact hin L.length 0 _ _ _ (by omega) (by omega) (by omega) hg hs hp (by rw [tx_tks_len] at hR; exact hR)
  refine cx_istore_n (i := 1) hE d_Gr_cases_18 rfl (by decide) ?_
  refine cx_aload_n (i := 0) hE d_Gr_cases_19 rfl rfl ?_
  refine cx_bipush (v := 41) hE d_Gr_cases_20 (by decide) ?_
  refine cx_clo (kd := 41) hE d_Gr_cases_22 rfl rfl hfl hb hT rfl hg hs hR (by decide) (by omega) (by omega) (Nat.le_of_ble_eq_true rfl) (fun G1 hk22 hg hs hR => ?_)
  have hgr := hg.cel
  have htk := hg.tok hg.lt
  refine cx_pop hE d_Gr_cases_25 ?_
  refine cx_iconst (v := 0) hE d_Gr_cases_26 (by decide) ?_
  refine cx_istore_n (i := 2) hE d_Gr_cases_27 rfl (by decide) ?_
  refine cx_sub [0, 1, 2] rfl ?_
  exact hloop L.length 0 _ _ _ (by omega) (by omega) hg hs hp (by rw [tx_tks_len] at hR; exact hR)
set_option maxRecDepth 100000 in
theorem c_Gr_setting {k : cx_K} {l : Launch} {G : cx_G} {F : Nat → Prop} {L : tx_Ls} {gr : Nat} {b : Nat × Nat} {A : tx_A} {i f n0 : Nat} {s : tx_S} (hfl : l.flags = flags0) (hb : tx_gb L b) (hn0 : (tx_shp s).2 = some n0) (hg : tx_g k F L gr b G A i f s) {R0 : tx_R Unit} (hR : R0 = tx_stg (tx_tks L) f i s) : cx_Sp k l m_Gr_setting 300 [.ref gr] G (tx_gp k F L gr b G A f (fun _ => none) s R0) := by
  intro E hE
  have hs := tx_gs.rf F gr G
  have hp : tx_shp s = tx_shp s := rfl
  have hT : ∀ e x G', R0 = .inl e → tx_gt F L gr b G A.ve e x G' → tx_gp k F L gr b G A f (fun _ => none) s R0 (.inr x) G' := fun e x G' h1 h2 => Or.inr ⟨e, x, h1, rfl, h2⟩
  have hbl := hb.2.2.1
  have hle := hg.le
  have hgr := hg.cel
  have htk := hg.tok hg.lt
  unfold tx_stg at hR
  refine cx_aload_n (i := 0) hE d_Gr_setting_0 rfl rfl ?_
  refine cx_get hE d_Gr_setting_1 f_Gr_19 (by assumption) (by rfl) ?_
  refine cx_aload_n (i := 0) hE d_Gr_setting_4 rfl rfl ?_
  refine cx_get hE d_Gr_setting_5 f_Gr_19 (by assumption) (by rfl) ?_
  refine cx_aload_n (i := 0) hE d_Gr_setting_8 rfl rfl ?_
  refine cx_bipush (v := 19) hE d_Gr_setting_9 (by decide) ?_
  refine cx_tak (kd := 19) hE d_Gr_setting_11 rfl rfl hfl hb hT rfl hg hs hR (by decide) (by omega) (Nat.le_of_ble_eq_true rfl) (fun G1 hk11 hg hs hR => ?_)
  have hgr := hg.cel
  have htk := hg.tok hg.lt
  have hok := tx_setr_ok hg.1.2.2.2.2.2.2.2.2.1 (tx_ta (tx_tks L) i)
  obtain ⟨u, hu, hul⟩ := tx_shp.cur (by rw [hp]; exact hn0)
  obtain ⟨x9, hme, -⟩ := hg.1.2.1
  refine cx_gmq1 hE d_Gr_setting_14 rfl l_Gr_189 hme hg hs hp (c_Me_setRegister hu (hg.tw (j := i) (by have := hg.lt; omega)) hg.1) (tx_shp.setr ..) rfl (by omega) (Nat.le_of_ble_eq_true rfl) n_Me_setRegister (by first | rfl | (simp only [List.map_cons, List.map_nil, cx_rfc]; rfl)) (fun G1 hg hs hp hl => ?_)
  have hgr := hg.cel
  have htk := hg.tok hg.lt
  have hln : (tx_setr s (tx_ta (tx_tks L) i)).2.2.1.length = s.2.1.length := tx_shp.len (tx_shp.setr s (tx_ta (tx_tks L) i))
  have hw17 := c_Me_widthOf (l := l) hg.1 hok
  rw [hln] at hw17
  obtain ⟨x8, hme8, -⟩ := hg.1.2.1
  refine cx_invV1 hE d_Gr_setting_17 l_Gr_131 hme8 hw17 rfl (by omega) (Nat.le_of_ble_eq_true rfl) n_Me_widthOf (by simp only [List.map_cons, List.map_nil, cx_rfc]; rfl) ?_
  refine cx_istore_n (i := 1) hE d_Gr_setting_20 rfl (by decide) ?_
  refine cx_aload_n (i := 0) hE d_Gr_setting_21 rfl rfl ?_
  refine cx_get hE d_Gr_setting_22 f_Gr_15 (by assumption) (by rfl) ?_
  refine cx_get hE d_Gr_setting_25 f_Gr_31 (by assumption) (by rfl) ?_
  refine cx_bipush (v := 91) hE d_Gr_setting_28 (by decide) ?_
  refine cx_icmp_ne (tgt := 45)  hE d_Gr_setting_30 (by decide) (fun c_30 => ?_) (fun c_30 => ?_)
  · rw [if_neg c_30] at hR
    try simp only [tx_R.and_as, tx_op_and, tx_R.and_r] at hR
    refine cx_aload_n (i := 0) hE d_Gr_setting_45 rfl rfl ?_
    refine cx_sipush (v := 15421) hE d_Gr_setting_46 (by decide) ?_
    try unfold tx_str at hR
    refine cx_tak (kd := 15421) hE d_Gr_setting_49 rfl rfl hfl hb hT rfl hg hs hR (by decide) (by omega) (Nat.le_of_ble_eq_true rfl) (fun G1 hk49 hg hs hR => ?_)
    have hgr := hg.cel
    have htk := hg.tok hg.lt
    refine cx_astore_n (i := 2) hE d_Gr_setting_52 rfl (by decide) ?_
    refine cx_aload_n (i := 0) hE d_Gr_setting_53 rfl rfl ?_
    refine cx_get hE d_Gr_setting_54 f_Gr_23 (by assumption) (by rfl) ?_
    refine cx_iload_n (i := 1) hE d_Gr_setting_57 rfl rfl ?_
    refine cx_aload_n (i := 0) hE d_Gr_setting_58 rfl rfl ?_
    refine cx_gsubI hE d_Gr_setting_59 rfl rfl l_Gr_135 hT rfl hg hs hp hR (c_Gr_exp hfl hb (by rw [hp]; exact hn0) hg) rfl (by omega) (Nat.le_of_ble_eq_true rfl) n_Gr_expression (by rfl) (fun w_59 i_59 s_59 G1 hr_59 hg hs hp hR hl => ?_)
    have hgr := hg.cel
    have htk := hg.tok hg.lt
    have hup_59 := tx_up.exp _ _ _ _ _ _ hr_59
    have hsg := hg.tok (j := (i + 1)) (by have := hg.lt; omega)
    refine cx_icmp_ne (tgt := 69)  hE d_Gr_setting_62 (by decide) (fun c_62 => ?_) (fun c_62 => ?_)
    · rw [decide_eq_false c_62] at hR
      refine cx_iconst (v := 0) hE d_Gr_setting_69 (by decide) ?_
      refine cx_bipush (v := 30) hE d_Gr_setting_70 (by decide) ?_
      refine cx_aload_n (i := 2) hE d_Gr_setting_72 rfl rfl ?_
      refine cx_get hE d_Gr_setting_73 f_Gr_41 (by assumption) (by rfl) ?_
      refine cx_gmq0 hE d_Gr_setting_76 rfl l_Gr_138 hg.1.1 hg hs hp (c_ck (right := false) (code := 30) (place := nI (tx_ta (tx_tks L) (i + 1)).2.1) hg.1) (tx_shp.ck ..) rfl (by omega) (Nat.le_of_ble_eq_true rfl) n_Ve_check (by first | rfl | (simp only [List.map_cons, List.map_nil, cx_rfc]; rfl)) (fun G1 hg hs hp hl => ?_)
      have hgr := hg.cel
      have htk := hg.tok hg.lt
      refine cx_aload_n (i := 0) hE d_Gr_setting_79 rfl rfl ?_
      refine cx_get hE d_Gr_setting_80 f_Gr_19 (by assumption) (by rfl) ?_
      refine cx_iload_n (i := 1) hE d_Gr_setting_83 rfl rfl ?_
      obtain ⟨u, hu, hul⟩ := tx_shp.cur (by rw [hp]; exact hn0)
      obtain ⟨x9, hme, -⟩ := hg.1.2.1
      refine cx_gmq0 hE d_Gr_setting_84 rfl l_Gr_148 hme hg hs hp (c_Me_spend (c := _) hu hg.1) (tx_shp.spend ..) rfl (by omega) (Nat.le_of_ble_eq_true rfl) n_Me_spend (by first | rfl | (simp only [List.map_cons, List.map_nil, cx_rfc]; rfl)) (fun G1 hg hs hp hl => ?_)
      have hgr := hg.cel
      have htk := hg.tok hg.lt
      refine cx_aload_n (i := 0) hE d_Gr_setting_87 rfl rfl ?_
      refine cx_bipush (v := 59) hE d_Gr_setting_88 (by decide) ?_
      refine cx_tak (kd := 59) hE d_Gr_setting_90 rfl rfl hfl hb hT rfl hg hs hR (by decide) (by omega) (Nat.le_of_ble_eq_true rfl) (fun G1 hk90 hg hs hR => ?_)
      have hgr := hg.cel
      have htk := hg.tok hg.lt
      refine cx_pop hE d_Gr_setting_93 ?_
      refine cx_vret hE d_Gr_setting_94 rfl ?_
      exact Or.inl ⟨_, _, _, hR, rfl, hg, hs, hp⟩
    · rw [decide_eq_true c_62] at hR
      refine cx_iconst (v := 1) hE d_Gr_setting_65 (by decide) ?_
      refine cx_goto (tgt := 70) hE d_Gr_setting_66 (by decide) ?_
      refine cx_bipush (v := 30) hE d_Gr_setting_70 (by decide) ?_
      refine cx_aload_n (i := 2) hE d_Gr_setting_72 rfl rfl ?_
      refine cx_get hE d_Gr_setting_73 f_Gr_41 (by assumption) (by rfl) ?_
      refine cx_gmq0 hE d_Gr_setting_76 rfl l_Gr_138 hg.1.1 hg hs hp (c_ck (right := true) (code := 30) (place := nI (tx_ta (tx_tks L) (i + 1)).2.1) hg.1) (tx_shp.ck ..) rfl (by omega) (Nat.le_of_ble_eq_true rfl) n_Ve_check (by first | rfl | (simp only [List.map_cons, List.map_nil, cx_rfc]; rfl)) (fun G1 hg hs hp hl => ?_)
      have hgr := hg.cel
      have htk := hg.tok hg.lt
      refine cx_aload_n (i := 0) hE d_Gr_setting_79 rfl rfl ?_
      refine cx_get hE d_Gr_setting_80 f_Gr_19 (by assumption) (by rfl) ?_
      refine cx_iload_n (i := 1) hE d_Gr_setting_83 rfl rfl ?_
      obtain ⟨u, hu, hul⟩ := tx_shp.cur (by rw [hp]; exact hn0)
      obtain ⟨x9, hme, -⟩ := hg.1.2.1
      refine cx_gmq0 hE d_Gr_setting_84 rfl l_Gr_148 hme hg hs hp (c_Me_spend (c := _) hu hg.1) (tx_shp.spend ..) rfl (by omega) (Nat.le_of_ble_eq_true rfl) n_Me_spend (by first | rfl | (simp only [List.map_cons, List.map_nil, cx_rfc]; rfl)) (fun G1 hg hs hp hl => ?_)
      have hgr := hg.cel
      have htk := hg.tok hg.lt
      refine cx_aload_n (i := 0) hE d_Gr_setting_87 rfl rfl ?_
      refine cx_bipush (v := 59) hE d_Gr_setting_88 (by decide) ?_
      refine cx_tak (kd := 59) hE d_Gr_setting_90 rfl rfl hfl hb hT rfl hg hs hR (by decide) (by omega) (Nat.le_of_ble_eq_true rfl) (fun G1 hk90 hg hs hR => ?_)
      have hgr := hg.cel
      have htk := hg.tok hg.lt
      refine cx_pop hE d_Gr_setting_93 ?_
      refine cx_vret hE d_Gr_setting_94 rfl ?_
      exact Or.inl ⟨_, _, _, hR, rfl, hg, hs, hp⟩
  · rw [if_pos c_30] at hR
    try simp only [tx_R.and_as, tx_op_and, tx_R.and_r] at hR
    refine cx_aload_n (i := 0) hE d_Gr_setting_33 rfl rfl ?_
    refine cx_aload_n (i := 0) hE d_Gr_setting_34 rfl rfl ?_
    refine cx_bipush (v := 91) hE d_Gr_setting_35 (by decide) ?_
    refine cx_opn (kd := 91) hE d_Gr_setting_37 rfl rfl hfl hb hT rfl hg hs hR (by decide) (by omega) (Nat.le_of_ble_eq_true rfl) (fun f_37 G1 hf37 => ?_)
    subst hf37
    intro hk37 hg hs hR
    have hgr := hg.cel
    have htk := hg.tok hg.lt
    refine cx_iload_n (i := 1) hE d_Gr_setting_40 rfl rfl ?_
    refine cx_gsubI hE d_Gr_setting_41 rfl rfl l_Gr_192 hT rfl hg hs hp hR (c_Gr_part hfl hb (by rw [hp]; exact hn0) hg (j := i + 1) (by have := hg.lt; omega) (by omega) rfl) rfl (by omega) (Nat.le_of_ble_eq_true rfl) n_Gr_part (by rfl) (fun w_41 i_41 s_41 G1 hr_41 hg hs hp hR hl => ?_)
    have hgr := hg.cel
    have htk := hg.tok hg.lt
    have hup_41 := tx_up.prt (Nat.le_refl _) _ _ _ hr_41
    unfold tx_str at hR
    refine cx_istore_n (i := 1) hE d_Gr_setting_44 rfl (by decide) ?_
    refine cx_aload_n (i := 0) hE d_Gr_setting_45 rfl rfl ?_
    refine cx_sipush (v := 15421) hE d_Gr_setting_46 (by decide) ?_
    try unfold tx_str at hR
    refine cx_tak (kd := 15421) hE d_Gr_setting_49 rfl rfl hfl hb hT rfl hg hs hR (by decide) (by omega) (Nat.le_of_ble_eq_true rfl) (fun G1 hk49 hg hs hR => ?_)
    have hgr := hg.cel
    have htk := hg.tok hg.lt
    refine cx_astore_n (i := 2) hE d_Gr_setting_52 rfl (by decide) ?_
    refine cx_aload_n (i := 0) hE d_Gr_setting_53 rfl rfl ?_
    refine cx_get hE d_Gr_setting_54 f_Gr_23 (by assumption) (by rfl) ?_
    refine cx_iload_n (i := 1) hE d_Gr_setting_57 rfl rfl ?_
    refine cx_aload_n (i := 0) hE d_Gr_setting_58 rfl rfl ?_
    refine cx_gsubI hE d_Gr_setting_59 rfl rfl l_Gr_135 hT rfl hg hs hp hR (c_Gr_exp hfl hb (by rw [hp]; exact hn0) hg) rfl (by omega) (Nat.le_of_ble_eq_true rfl) n_Gr_expression (by rfl) (fun w_59 i_59 s_59 G1 hr_59 hg hs hp hR hl => ?_)
    have hgr := hg.cel
    have htk := hg.tok hg.lt
    have hup_59 := tx_up.exp _ _ _ _ _ _ hr_59
    have hsg := hg.tok (j := i_41) (by have := hg.lt; omega)
    refine cx_icmp_ne (tgt := 69)  hE d_Gr_setting_62 (by decide) (fun c_62 => ?_) (fun c_62 => ?_)
    · rw [decide_eq_false c_62] at hR
      refine cx_iconst (v := 0) hE d_Gr_setting_69 (by decide) ?_
      refine cx_bipush (v := 30) hE d_Gr_setting_70 (by decide) ?_
      refine cx_aload_n (i := 2) hE d_Gr_setting_72 rfl rfl ?_
      refine cx_get hE d_Gr_setting_73 f_Gr_41 (by assumption) (by rfl) ?_
      refine cx_gmq0 hE d_Gr_setting_76 rfl l_Gr_138 hg.1.1 hg hs hp (c_ck (right := false) (code := 30) (place := nI (tx_ta (tx_tks L) i_41).2.1) hg.1) (tx_shp.ck ..) rfl (by omega) (Nat.le_of_ble_eq_true rfl) n_Ve_check (by first | rfl | (simp only [List.map_cons, List.map_nil, cx_rfc]; rfl)) (fun G1 hg hs hp hl => ?_)
      have hgr := hg.cel
      have htk := hg.tok hg.lt
      refine cx_aload_n (i := 0) hE d_Gr_setting_79 rfl rfl ?_
      refine cx_get hE d_Gr_setting_80 f_Gr_19 (by assumption) (by rfl) ?_
      refine cx_iload_n (i := 1) hE d_Gr_setting_83 rfl rfl ?_
      obtain ⟨u, hu, hul⟩ := tx_shp.cur (by rw [hp]; exact hn0)
      obtain ⟨x9, hme, -⟩ := hg.1.2.1
      refine cx_gmq0 hE d_Gr_setting_84 rfl l_Gr_148 hme hg hs hp (c_Me_spend (c := _) hu hg.1) (tx_shp.spend ..) rfl (by omega) (Nat.le_of_ble_eq_true rfl) n_Me_spend (by first | rfl | (simp only [List.map_cons, List.map_nil, cx_rfc]; rfl)) (fun G1 hg hs hp hl => ?_)
      have hgr := hg.cel
      have htk := hg.tok hg.lt
      refine cx_aload_n (i := 0) hE d_Gr_setting_87 rfl rfl ?_
      refine cx_bipush (v := 59) hE d_Gr_setting_88 (by decide) ?_
      refine cx_tak (kd := 59) hE d_Gr_setting_90 rfl rfl hfl hb hT rfl hg hs hR (by decide) (by omega) (Nat.le_of_ble_eq_true rfl) (fun G1 hk90 hg hs hR => ?_)
      have hgr := hg.cel
      have htk := hg.tok hg.lt
      refine cx_pop hE d_Gr_setting_93 ?_
      refine cx_vret hE d_Gr_setting_94 rfl ?_
      exact Or.inl ⟨_, _, _, hR, rfl, hg, hs, hp⟩
    · rw [decide_eq_true c_62] at hR
      refine cx_iconst (v := 1) hE d_Gr_setting_65 (by decide) ?_
      refine cx_goto (tgt := 70) hE d_Gr_setting_66 (by decide) ?_
      refine cx_bipush (v := 30) hE d_Gr_setting_70 (by decide) ?_
      refine cx_aload_n (i := 2) hE d_Gr_setting_72 rfl rfl ?_
      refine cx_get hE d_Gr_setting_73 f_Gr_41 (by assumption) (by rfl) ?_
      refine cx_gmq0 hE d_Gr_setting_76 rfl l_Gr_138 hg.1.1 hg hs hp (c_ck (right := true) (code := 30) (place := nI (tx_ta (tx_tks L) i_41).2.1) hg.1) (tx_shp.ck ..) rfl (by omega) (Nat.le_of_ble_eq_true rfl) n_Ve_check (by first | rfl | (simp only [List.map_cons, List.map_nil, cx_rfc]; rfl)) (fun G1 hg hs hp hl => ?_)
      have hgr := hg.cel
      have htk := hg.tok hg.lt
      refine cx_aload_n (i := 0) hE d_Gr_setting_79 rfl rfl ?_
      refine cx_get hE d_Gr_setting_80 f_Gr_19 (by assumption) (by rfl) ?_
      refine cx_iload_n (i := 1) hE d_Gr_setting_83 rfl rfl ?_
      obtain ⟨u, hu, hul⟩ := tx_shp.cur (by rw [hp]; exact hn0)
      obtain ⟨x9, hme, -⟩ := hg.1.2.1
      refine cx_gmq0 hE d_Gr_setting_84 rfl l_Gr_148 hme hg hs hp (c_Me_spend (c := _) hu hg.1) (tx_shp.spend ..) rfl (by omega) (Nat.le_of_ble_eq_true rfl) n_Me_spend (by first | rfl | (simp only [List.map_cons, List.map_nil, cx_rfc]; rfl)) (fun G1 hg hs hp hl => ?_)
      have hgr := hg.cel
      have htk := hg.tok hg.lt
      refine cx_aload_n (i := 0) hE d_Gr_setting_87 rfl rfl ?_
      refine cx_bipush (v := 59) hE d_Gr_setting_88 (by decide) ?_
      refine cx_tak (kd := 59) hE d_Gr_setting_90 rfl rfl hfl hb hT rfl hg hs hR (by decide) (by omega) (Nat.le_of_ble_eq_true rfl) (fun G1 hk90 hg hs hR => ?_)
      have hgr := hg.cel
      have htk := hg.tok hg.lt
      refine cx_pop hE d_Gr_setting_93 ?_
      refine cx_vret hE d_Gr_setting_94 rfl ?_
      exact Or.inl ⟨_, _, _, hR, rfl, hg, hs, hp⟩
set_option maxRecDepth 100000 in
theorem c_Gr_statement {k : cx_K} {l : Launch} {G : cx_G} {F : Nat → Prop} {L : tx_Ls} {gr : Nat} {b : Nat × Nat} {A : tx_A} {i f n0 : Nat} {s : tx_S} (hfl : l.flags = flags0) (hb : tx_gb L b) (hn0 : (tx_shp s).2 = some n0) (hg : tx_g k F L gr b G A i f s) {m : Nat} (hx : tx_PS k l F L gr b m) (hfm : f ≤ m) {R0 : tx_R Unit} (hR : R0 = tx_st1 (tx_tks L) (tx_stf (tx_tks L) m) f i s) : cx_Sp k l m_Gr_statement (4 * m + 302) [.ref gr] G (tx_gp k F L gr b G A f (fun _ => none) s R0) := by
  intro E hE
  have hs := tx_gs.rf F gr G
  have hp : tx_shp s = tx_shp s := rfl
  have hT : ∀ e x G', R0 = .inl e → tx_gt F L gr b G A.ve e x G' → tx_gp k F L gr b G A f (fun _ => none) s R0 (.inr x) G' := fun e x G' h1 h2 => Or.inr ⟨e, x, h1, rfl, h2⟩
  have hbl := hb.2.2.1
  have hle := hg.le
  have hgr := hg.cel
  have htk := hg.tok hg.lt
  refine cx_aload_n (i := 0) hE d_Gr_statement_0 rfl rfl ?_
  refine cx_get hE d_Gr_statement_1 f_Gr_15 (by assumption) (by rfl) ?_
  refine cx_get hE d_Gr_statement_4 f_Gr_31 (by assumption) (by rfl) ?_
  by_cases e_7_11 : tx_ki (tx_tks L) i = 11
  · refine cx_tableIn (off := 33) (tgt := 40) hE d_Gr_statement_7 (by rw [e_7_11]; decide) (by rw [e_7_11]; decide) (by rw [e_7_11]; rfl) (by decide) ?_
    unfold tx_st1 at hR
    rw [if_pos e_7_11] at hR
    refine cx_aload_n (i := 0) hE d_Gr_statement_40 rfl rfl ?_
    refine cx_gsubU hE d_Gr_statement_41 rfl rfl l_Gr_173 hT rfl hg hs hp (hR.trans (tx_R.and_id _)) (c_Gr_block hfl hb (by rw [hp]; exact hn0) hg hx (by omega) rfl) rfl (by omega) (Nat.le_of_ble_eq_true rfl) n_Gr_block (by rfl) (fun w_41 i_41 s_41 G1 hr_41 hg hs hp hR hl => ?_)
    have hgr := hg.cel
    have htk := hg.tok hg.lt
    refine cx_goto (tgt := 65) hE d_Gr_statement_44 (by decide) ?_
    refine cx_vret hE d_Gr_statement_65 rfl ?_
    exact Or.inl ⟨_, _, _, hR, rfl, hg, hs, hp⟩
  by_cases e_7_12 : tx_ki (tx_tks L) i = 12
  · refine cx_tableIn (off := 54) (tgt := 61) hE d_Gr_statement_7 (by rw [e_7_12]; decide) (by rw [e_7_12]; decide) (by rw [e_7_12]; rfl) (by decide) ?_
    unfold tx_st1 at hR
    rw [if_neg e_7_11, if_neg (by rw [e_7_12]; decide), if_neg (by rw [e_7_12]; decide)] at hR
    refine cx_aload_n (i := 0) hE d_Gr_statement_61 rfl rfl ?_
    refine cx_gsubU hE d_Gr_statement_62 rfl rfl l_Gr_182 hT rfl hg hs hp (hR.trans (tx_R.and_id _)) (c_Gr_setting hfl hb (by rw [hp]; exact hn0) hg rfl) rfl (by omega) (Nat.le_of_ble_eq_true rfl) n_Gr_setting (by rfl) (fun w_62 i_62 s_62 G1 hr_62 hg hs hp hR hl => ?_)
    have hgr := hg.cel
    have htk := hg.tok hg.lt
    refine cx_vret hE d_Gr_statement_65 rfl ?_
    exact Or.inl ⟨_, _, _, hR, rfl, hg, hs, hp⟩
  by_cases e_7_13 : tx_ki (tx_tks L) i = 13
  · refine cx_tableIn (off := 40) (tgt := 47) hE d_Gr_statement_7 (by rw [e_7_13]; decide) (by rw [e_7_13]; decide) (by rw [e_7_13]; rfl) (by decide) ?_
    unfold tx_st1 at hR
    rw [if_neg e_7_11, if_pos e_7_13] at hR
    refine cx_aload_n (i := 0) hE d_Gr_statement_47 rfl rfl ?_
    refine cx_gsubU hE d_Gr_statement_48 rfl rfl l_Gr_176 hT rfl hg hs hp (hR.trans (tx_R.and_id _)) (c_Gr_choice hfl hb (by rw [hp]; exact hn0) hg hx (by omega) rfl) rfl (by omega) (Nat.le_of_ble_eq_true rfl) n_Gr_choice (by rfl) (fun w_48 i_48 s_48 G1 hr_48 hg hs hp hR hl => ?_)
    have hgr := hg.cel
    have htk := hg.tok hg.lt
    refine cx_goto (tgt := 65) hE d_Gr_statement_51 (by decide) ?_
    refine cx_vret hE d_Gr_statement_65 rfl ?_
    exact Or.inl ⟨_, _, _, hR, rfl, hg, hs, hp⟩
  by_cases e_7_14 : tx_ki (tx_tks L) i = 14
  · refine cx_tableIn (off := 54) (tgt := 61) hE d_Gr_statement_7 (by rw [e_7_14]; decide) (by rw [e_7_14]; decide) (by rw [e_7_14]; rfl) (by decide) ?_
    unfold tx_st1 at hR
    rw [if_neg e_7_11, if_neg e_7_13, if_neg (by rw [e_7_14]; decide)] at hR
    refine cx_aload_n (i := 0) hE d_Gr_statement_61 rfl rfl ?_
    refine cx_gsubU hE d_Gr_statement_62 rfl rfl l_Gr_182 hT rfl hg hs hp (hR.trans (tx_R.and_id _)) (c_Gr_setting hfl hb (by rw [hp]; exact hn0) hg rfl) rfl (by omega) (Nat.le_of_ble_eq_true rfl) n_Gr_setting (by rfl) (fun w_62 i_62 s_62 G1 hr_62 hg hs hp hR hl => ?_)
    have hgr := hg.cel
    have htk := hg.tok hg.lt
    refine cx_vret hE d_Gr_statement_65 rfl ?_
    exact Or.inl ⟨_, _, _, hR, rfl, hg, hs, hp⟩
  by_cases e_7_15 : tx_ki (tx_tks L) i = 15
  · refine cx_tableIn (off := 47) (tgt := 54) hE d_Gr_statement_7 (by rw [e_7_15]; decide) (by rw [e_7_15]; decide) (by rw [e_7_15]; rfl) (by decide) ?_
    unfold tx_st1 at hR
    rw [if_neg e_7_11, if_neg e_7_13, if_pos e_7_15] at hR
    refine cx_aload_n (i := 0) hE d_Gr_statement_54 rfl rfl ?_
    refine cx_gsubU hE d_Gr_statement_55 rfl rfl l_Gr_179 hT rfl hg hs hp (hR.trans (tx_R.and_id _)) (c_Gr_cases hfl hb (by rw [hp]; exact hn0) hg hx (by omega) rfl) rfl (by omega) (Nat.le_of_ble_eq_true rfl) n_Gr_cases (by rfl) (fun w_55 i_55 s_55 G1 hr_55 hg hs hp hR hl => ?_)
    have hgr := hg.cel
    have htk := hg.tok hg.lt
    refine cx_goto (tgt := 65) hE d_Gr_statement_58 (by decide) ?_
    refine cx_vret hE d_Gr_statement_65 rfl ?_
    exact Or.inl ⟨_, _, _, hR, rfl, hg, hs, hp⟩
  refine cx_tableOut (tgt := 61) hE d_Gr_statement_7 (by have h_11 := tx_ti (n := 11) e_7_11; have h_12 := tx_ti (n := 12) e_7_12; have h_13 := tx_ti (n := 13) e_7_13; have h_14 := tx_ti (n := 14) e_7_14; have h_15 := tx_ti (n := 15) e_7_15; simp only [Int32.reduceToInt] at *; omega) (by decide) ?_
  unfold tx_st1 at hR
  rw [if_neg e_7_11, if_neg e_7_13, if_neg e_7_15] at hR
  refine cx_aload_n (i := 0) hE d_Gr_statement_61 rfl rfl ?_
  refine cx_gsubU hE d_Gr_statement_62 rfl rfl l_Gr_182 hT rfl hg hs hp (hR.trans (tx_R.and_id _)) (c_Gr_setting hfl hb (by rw [hp]; exact hn0) hg rfl) rfl (by omega) (Nat.le_of_ble_eq_true rfl) n_Gr_setting (by rfl) (fun w_62 i_62 s_62 G1 hr_62 hg hs hp hR hl => ?_)
  have hgr := hg.cel
  have htk := hg.tok hg.lt
  refine cx_vret hE d_Gr_statement_65 rfl ?_
  exact Or.inl ⟨_, _, _, hR, rfl, hg, hs, hp⟩
theorem tx_PS.all {k : cx_K} {l : Launch} {F : Nat → Prop} {L : tx_Ls} {gr : Nat} {b : Nat × Nat} (hfl : l.flags = flags0) (hb : tx_gb L b) : ∀ m, tx_PS k l F L gr b m := by
  intro m
  induction m with
  | zero => exact fun f G A i s n0 hf => absurd hf (Nat.not_lt_zero _)
  | succ m ih => exact fun f G A i s n0 hf hg hn0 => (c_Gr_statement hfl hb hn0 hg ih (by omega) rfl).more (by omega)
theorem c_Gr_stm {k : cx_K} {l : Launch} {G : cx_G} {F : Nat → Prop} {L : tx_Ls} {gr : Nat} {b : Nat × Nat} {A : tx_A} {i f n0 : Nat} {s : tx_S} (hfl : l.flags = flags0) (hb : tx_gb L b) (hn0 : (tx_shp s).2 = some n0) (hg : tx_g k F L gr b G A i f s) : cx_Sp k l m_Gr_statement 544 [.ref gr] G (tx_gp k F L gr b G A f (fun _ => none) s (tx_stm (tx_tks L) f i s)) := tx_PS.all hfl hb 61 f G A i s n0 (by have := hg.le; omega) hg hn0

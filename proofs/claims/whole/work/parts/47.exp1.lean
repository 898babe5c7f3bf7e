/-! GRAMMAR: an exp. -/
theorem tx_R.and_as {α β γ : Type} (r : tx_R α) (g : α → Nat → tx_S → tx_R β) (h : β → Nat → tx_S → tx_R γ) : (r.and g).and h = r.and (fun a i s => (g a i s).and h) := by
  unfold tx_R.and
  cases r <;> rfl
theorem tx_R.and_r {α β : Type} (a : α) (i : Nat) (s : tx_S) (g : α → Nat → tx_S → tx_R β) : tx_R.and (.inr (a, i, s)) g = g a i s := rfl
theorem tx_op_and {β γ : Type} (T : List tx_Tk) (kd : Int32) (f i : Nat) (s : tx_S) (g : Nat → tx_Tk → Nat → tx_S → tx_R β) (h : β → Nat → tx_S → tx_R γ) : (tx_op T kd f i s g).and h = tx_op T kd f i s (fun f t i s => (g f t i s).and h) := by
  unfold tx_op
  by_cases e : tx_ki T i = kd
  · rw [if_pos e, if_pos e]
    cases f <;> rfl
  · rw [if_neg e, if_neg e]
    rfl
theorem tx_S.ok_shp {s s' : tx_S} {d : Option Nat} (h : tx_shp s' = tx_shp s) (hok : s.ok d) : s'.ok d := by
  intro q hq
  obtain ⟨u, r, hu, hr⟩ := hok q hq
  have h2 : (tx_shp s').2 = some u.2.2.1.length := by rw [h]; show s.2.2.1.map _ = _; rw [hu]; rfl
  obtain ⟨u', hu', hl⟩ := tx_shp.cur h2
  have hql := (List.getElem?_eq_some_iff.mp hr).1
  exact ⟨u', _, hu', List.getElem?_eq_getElem (by omega)⟩
theorem tx_isU_eq (c : Int32) : tx_isU c = (decide (c = 126) || (decide (c = 45) || tx_isR c)) := by
  unfold tx_isU tx_isR
  simp only [Bool.decide_or]
theorem tx_used_ok {s : tx_S} (hI : tx_mI s) (t : tx_Tk) : (tx_used s t).2.ok (tx_used s t).1 := by
  refine tx_S.ok_shp (tx_shp.used s t) ?_
  have h := tx_S.da_ok hI t.2.2.2.1
  unfold tx_used
  cases hd : s.da t.2.2.2.1 with
  | none => exact fun q hq => by cases hq
  | some q =>
    rw [hd] at h
    show s.ok (if _ then _ else _ : Option Nat × tx_S).1
    split
    · exact fun q hq => by cases hq
    · exact h
set_option maxRecDepth 100000 in
theorem c_Gr_isReducing {k : cx_K} {l : Launch} {G : cx_G} (c : Int32) : cx_Sp k l m_Gr_isReducing 0 [.int c] G (cx_rd (some (.int (cx_b (tx_isR c)))) G) := by
  intro E hE
  refine cx_iload_n (i := 0) hE d_Gr_isReducing_0 rfl rfl ?_
  refine cx_bipush (v := 33) hE d_Gr_isReducing_1 (by decide) ?_
  refine cx_icmp_eq (tgt := 24)  hE d_Gr_isReducing_3 (by decide) (fun c_3 => ?_) (fun c_3 => ?_)
  · refine cx_iconst (v := 1) hE d_Gr_isReducing_24 (by decide) ?_
    refine cx_goto (tgt := 29) hE d_Gr_isReducing_25 (by decide) ?_
    refine cx_iret hE d_Gr_isReducing_29 rfl rfl ?_
    clear hE
    refine ⟨?_, rfl⟩
    try simp only [cx_b0, Bool.not_eq_false] at *
    simp [tx_isR, cx_b, *]
  · refine cx_iload_n (i := 0) hE d_Gr_isReducing_6 rfl rfl ?_
    refine cx_bipush (v := 38) hE d_Gr_isReducing_7 (by decide) ?_
    refine cx_icmp_eq (tgt := 24)  hE d_Gr_isReducing_9 (by decide) (fun c_9 => ?_) (fun c_9 => ?_)
    · refine cx_iconst (v := 1) hE d_Gr_isReducing_24 (by decide) ?_
      refine cx_goto (tgt := 29) hE d_Gr_isReducing_25 (by decide) ?_
      refine cx_iret hE d_Gr_isReducing_29 rfl rfl ?_
      clear hE
      refine ⟨?_, rfl⟩
      try simp only [cx_b0, Bool.not_eq_false] at *
      simp [tx_isR, cx_b, *]
    · refine cx_iload_n (i := 0) hE d_Gr_isReducing_12 rfl rfl ?_
      refine cx_bipush (v := 124) hE d_Gr_isReducing_13 (by decide) ?_
      refine cx_icmp_eq (tgt := 24)  hE d_Gr_isReducing_15 (by decide) (fun c_15 => ?_) (fun c_15 => ?_)
      · refine cx_iconst (v := 1) hE d_Gr_isReducing_24 (by decide) ?_
        refine cx_goto (tgt := 29) hE d_Gr_isReducing_25 (by decide) ?_
        refine cx_iret hE d_Gr_isReducing_29 rfl rfl ?_
        clear hE
        refine ⟨?_, rfl⟩
        try simp only [cx_b0, Bool.not_eq_false] at *
        simp [tx_isR, cx_b, *]
      · refine cx_iload_n (i := 0) hE d_Gr_isReducing_18 rfl rfl ?_
        refine cx_bipush (v := 94) hE d_Gr_isReducing_19 (by decide) ?_
        refine cx_icmp_ne (tgt := 28)  hE d_Gr_isReducing_21 (by decide) (fun c_21 => ?_) (fun c_21 => ?_)
        · refine cx_iconst (v := 0) hE d_Gr_isReducing_28 (by decide) ?_
          refine cx_iret hE d_Gr_isReducing_29 rfl rfl ?_
          clear hE
          refine ⟨?_, rfl⟩
          try simp only [cx_b0, Bool.not_eq_false] at *
          simp [tx_isR, cx_b, *]
        · refine cx_iconst (v := 1) hE d_Gr_isReducing_24 (by decide) ?_
          refine cx_goto (tgt := 29) hE d_Gr_isReducing_25 (by decide) ?_
          refine cx_iret hE d_Gr_isReducing_29 rfl rfl ?_
          clear hE
          refine ⟨?_, rfl⟩
          try simp only [cx_b0, Bool.not_eq_false] at *
          simp [tx_isR, cx_b, *]
set_option maxRecDepth 100000 in
theorem c_Gr_isUnary {k : cx_K} {l : Launch} {G : cx_G} (c : Int32) : cx_Sp k l m_Gr_isUnary 1 [.int c] G (cx_rd (some (.int (cx_b (tx_isU c)))) G) := by
  intro E hE
  refine cx_iload_n (i := 0) hE d_Gr_isUnary_0 rfl rfl ?_
  refine cx_bipush (v := 126) hE d_Gr_isUnary_1 (by decide) ?_
  refine cx_icmp_eq (tgt := 19)  hE d_Gr_isUnary_3 (by decide) (fun c_3 => ?_) (fun c_3 => ?_)
  · refine cx_iconst (v := 1) hE d_Gr_isUnary_19 (by decide) ?_
    refine cx_goto (tgt := 24) hE d_Gr_isUnary_20 (by decide) ?_
    refine cx_iret hE d_Gr_isUnary_24 rfl rfl ?_
    clear hE
    refine ⟨?_, rfl⟩
    try simp only [cx_b0, Bool.not_eq_false] at *
    rw [tx_isU_eq]
    simp [cx_b, *]
  · refine cx_iload_n (i := 0) hE d_Gr_isUnary_6 rfl rfl ?_
    refine cx_bipush (v := 45) hE d_Gr_isUnary_7 (by decide) ?_
    refine cx_icmp_eq (tgt := 19)  hE d_Gr_isUnary_9 (by decide) (fun c_9 => ?_) (fun c_9 => ?_)
    · refine cx_iconst (v := 1) hE d_Gr_isUnary_19 (by decide) ?_
      refine cx_goto (tgt := 24) hE d_Gr_isUnary_20 (by decide) ?_
      refine cx_iret hE d_Gr_isUnary_24 rfl rfl ?_
      clear hE
      refine ⟨?_, rfl⟩
      try simp only [cx_b0, Bool.not_eq_false] at *
      rw [tx_isU_eq]
      simp [cx_b, *]
    · refine cx_iload_n (i := 0) hE d_Gr_isUnary_12 rfl rfl ?_
      refine cx_invS1 hE d_Gr_isUnary_13 l_Gr_231 (c_Gr_isReducing c) rfl (by omega) (Nat.le_of_ble_eq_true rfl) n_Gr_isReducing (by first | rfl | (simp only [List.map_cons, List.map_nil, cx_rfc]; rfl)) ?_
      refine cx_if_eq (tgt := 23)  hE d_Gr_isUnary_16 (by decide) (fun c_16 => ?_) (fun c_16 => ?_)
      · refine cx_iconst (v := 0) hE d_Gr_isUnary_23 (by decide) ?_
        refine cx_iret hE d_Gr_isUnary_24 rfl rfl ?_
        clear hE
        refine ⟨?_, rfl⟩
        try simp only [cx_b0, Bool.not_eq_false] at *
        rw [tx_isU_eq]
        simp [cx_b, *]
      · refine cx_iconst (v := 1) hE d_Gr_isUnary_19 (by decide) ?_
        refine cx_goto (tgt := 24) hE d_Gr_isUnary_20 (by decide) ?_
        refine cx_iret hE d_Gr_isUnary_24 rfl rfl ?_
        clear hE
        refine ⟨?_, rfl⟩
        try simp only [cx_b0, Bool.not_eq_false] at *
        rw [tx_isU_eq]
        simp [cx_b, *]
set_option maxRecDepth 100000 in
theorem c_Gr_rankOf {k : cx_K} {l : Launch} {G : cx_G} (c : Int32) : cx_Sp k l m_Gr_rankOf 0 [.int c] G (cx_rd (some (.int (tx_rank c))) G) := by
  intro E hE
  refine cx_iload_n (i := 0) hE d_Gr_rankOf_0 rfl rfl ?_
  by_cases e_1_38 : c = 38
  · refine cx_lookup (tgt := 148) hE d_Gr_rankOf_1 (by decide) (by first | (rw [e_1_38]; done) | (rw [e_1_38]; rfl)) (by decide) ?_
    refine cx_iconst (v := 5) hE d_Gr_rankOf_148 (by decide) ?_
    refine cx_iret hE d_Gr_rankOf_149 rfl rfl ?_
    clear hE
    refine ⟨?_, rfl⟩
    subst_vars
    simp [tx_rank, *]
  by_cases e_1_42 : c = 42
  · refine cx_lookup (tgt := 162) hE d_Gr_rankOf_1 (by decide) (by first | (rw [e_1_42]; done) | (rw [e_1_42]; rfl)) (by decide) ?_
    refine cx_bipush (v := 10) hE d_Gr_rankOf_162 (by decide) ?_
    refine cx_iret hE d_Gr_rankOf_164 rfl rfl ?_
    clear hE
    refine ⟨?_, rfl⟩
    subst_vars
    simp [tx_rank, *]
  by_cases e_1_43 : c = 43
  · refine cx_lookup (tgt := 159) hE d_Gr_rankOf_1 (by decide) (by first | (rw [e_1_43]; done) | (rw [e_1_43]; rfl)) (by decide) ?_
    refine cx_bipush (v := 9) hE d_Gr_rankOf_159 (by decide) ?_
    refine cx_iret hE d_Gr_rankOf_161 rfl rfl ?_
    clear hE
    refine ⟨?_, rfl⟩
    subst_vars
    simp [tx_rank, *]
  by_cases e_1_45 : c = 45
  · refine cx_lookup (tgt := 159) hE d_Gr_rankOf_1 (by decide) (by first | (rw [e_1_45]; done) | (rw [e_1_45]; rfl)) (by decide) ?_
    refine cx_bipush (v := 9) hE d_Gr_rankOf_159 (by decide) ?_
    refine cx_iret hE d_Gr_rankOf_161 rfl rfl ?_
    clear hE
    refine ⟨?_, rfl⟩
    subst_vars
    simp [tx_rank, *]
  by_cases e_1_60 : c = 60
  · refine cx_lookup (tgt := 153) hE d_Gr_rankOf_1 (by decide) (by first | (rw [e_1_60]; done) | (rw [e_1_60]; rfl)) (by decide) ?_
    refine cx_bipush (v := 7) hE d_Gr_rankOf_153 (by decide) ?_
    refine cx_iret hE d_Gr_rankOf_155 rfl rfl ?_
    clear hE
    refine ⟨?_, rfl⟩
    subst_vars
    simp [tx_rank, *]
  by_cases e_1_62 : c = 62
  · refine cx_lookup (tgt := 153) hE d_Gr_rankOf_1 (by decide) (by first | (rw [e_1_62]; done) | (rw [e_1_62]; rfl)) (by decide) ?_
    refine cx_bipush (v := 7) hE d_Gr_rankOf_153 (by decide) ?_
    refine cx_iret hE d_Gr_rankOf_155 rfl rfl ?_
    clear hE
    refine ⟨?_, rfl⟩
    subst_vars
    simp [tx_rank, *]
  by_cases e_1_94 : c = 94
  · refine cx_lookup (tgt := 146) hE d_Gr_rankOf_1 (by decide) (by first | (rw [e_1_94]; done) | (rw [e_1_94]; rfl)) (by decide) ?_
    refine cx_iconst (v := 4) hE d_Gr_rankOf_146 (by decide) ?_
    refine cx_iret hE d_Gr_rankOf_147 rfl rfl ?_
    clear hE
    refine ⟨?_, rfl⟩
    subst_vars
    simp [tx_rank, *]
  by_cases e_1_124 : c = 124
  · refine cx_lookup (tgt := 144) hE d_Gr_rankOf_1 (by decide) (by first | (rw [e_1_124]; done) | (rw [e_1_124]; rfl)) (by decide) ?_
    refine cx_iconst (v := 3) hE d_Gr_rankOf_144 (by decide) ?_
    refine cx_iret hE d_Gr_rankOf_145 rfl rfl ?_
    clear hE
    refine ⟨?_, rfl⟩
    subst_vars
    simp [tx_rank, *]
  by_cases e_1_8509 : c = 8509
  · refine cx_lookup (tgt := 150) hE d_Gr_rankOf_1 (by decide) (by first | (rw [e_1_8509]; done) | (rw [e_1_8509]; rfl)) (by decide) ?_
    refine cx_bipush (v := 6) hE d_Gr_rankOf_150 (by decide) ?_
    refine cx_iret hE d_Gr_rankOf_152 rfl rfl ?_
    clear hE
    refine ⟨?_, rfl⟩
    subst_vars
    simp [tx_rank, *]
  by_cases e_1_9766 : c = 9766
  · refine cx_lookup (tgt := 142) hE d_Gr_rankOf_1 (by decide) (by first | (rw [e_1_9766]; done) | (rw [e_1_9766]; rfl)) (by decide) ?_
    refine cx_iconst (v := 2) hE d_Gr_rankOf_142 (by decide) ?_
    refine cx_iret hE d_Gr_rankOf_143 rfl rfl ?_
    clear hE
    refine ⟨?_, rfl⟩
    subst_vars
    simp [tx_rank, *]
  by_cases e_1_15420 : c = 15420
  · refine cx_lookup (tgt := 156) hE d_Gr_rankOf_1 (by decide) (by first | (rw [e_1_15420]; done) | (rw [e_1_15420]; rfl)) (by decide) ?_
    refine cx_bipush (v := 8) hE d_Gr_rankOf_156 (by decide) ?_
    refine cx_iret hE d_Gr_rankOf_158 rfl rfl ?_
    clear hE
    refine ⟨?_, rfl⟩
    subst_vars
    simp [tx_rank, *]
  by_cases e_1_15421 : c = 15421
  · refine cx_lookup (tgt := 153) hE d_Gr_rankOf_1 (by decide) (by first | (rw [e_1_15421]; done) | (rw [e_1_15421]; rfl)) (by decide) ?_
    refine cx_bipush (v := 7) hE d_Gr_rankOf_153 (by decide) ?_
    refine cx_iret hE d_Gr_rankOf_155 rfl rfl ?_
    clear hE
    refine ⟨?_, rfl⟩
    subst_vars
    simp [tx_rank, *]
  by_cases e_1_15677 : c = 15677
  · refine cx_lookup (tgt := 150) hE d_Gr_rankOf_1 (by decide) (by first | (rw [e_1_15677]; done) | (rw [e_1_15677]; rfl)) (by decide) ?_
    refine cx_bipush (v := 6) hE d_Gr_rankOf_150 (by decide) ?_
    refine cx_iret hE d_Gr_rankOf_152 rfl rfl ?_
    clear hE
    refine ⟨?_, rfl⟩
    subst_vars
    simp [tx_rank, *]
  by_cases e_1_15933 : c = 15933
  · refine cx_lookup (tgt := 153) hE d_Gr_rankOf_1 (by decide) (by first | (rw [e_1_15933]; done) | (rw [e_1_15933]; rfl)) (by decide) ?_
    refine cx_bipush (v := 7) hE d_Gr_rankOf_153 (by decide) ?_
    refine cx_iret hE d_Gr_rankOf_155 rfl rfl ?_
    clear hE
    refine ⟨?_, rfl⟩
    subst_vars
    simp [tx_rank, *]
  by_cases e_1_15934 : c = 15934
  · refine cx_lookup (tgt := 156) hE d_Gr_rankOf_1 (by decide) (by first | (rw [e_1_15934]; done) | (rw [e_1_15934]; rfl)) (by decide) ?_
    refine cx_bipush (v := 8) hE d_Gr_rankOf_156 (by decide) ?_
    refine cx_iret hE d_Gr_rankOf_158 rfl rfl ?_
    clear hE
    refine ⟨?_, rfl⟩
    subst_vars
    simp [tx_rank, *]
  by_cases e_1_31868 : c = 31868
  · refine cx_lookup (tgt := 140) hE d_Gr_rankOf_1 (by decide) (by first | (rw [e_1_31868]; done) | (rw [e_1_31868]; rfl)) (by decide) ?_
    refine cx_iconst (v := 1) hE d_Gr_rankOf_140 (by decide) ?_
    refine cx_iret hE d_Gr_rankOf_141 rfl rfl ?_
    clear hE
    refine ⟨?_, rfl⟩
    subst_vars
    simp [tx_rank, *]
  refine cx_lookup (tgt := 165) hE d_Gr_rankOf_1 (by decide) (off := 164) (by show Op.lookupswitch.offset [(38, 147), (42, 161), (43, 158), (45, 158), (60, 152), (62, 152), (94, 145), (124, 143), (8509, 149), (9766, 141), (15420, 155), (15421, 152), (15677, 149), (15933, 152), (15934, 155), (31868, 139)] 164 _ = _; rw [lv_osw (k := 38) e_1_38 (by decide), lv_osw (k := 42) e_1_42 (by decide), lv_osw (k := 43) e_1_43 (by decide), lv_osw (k := 45) e_1_45 (by decide), lv_osw (k := 60) e_1_60 (by decide), lv_osw (k := 62) e_1_62 (by decide), lv_osw (k := 94) e_1_94 (by decide), lv_osw (k := 124) e_1_124 (by decide), lv_osw (k := 8509) e_1_8509 (by decide), lv_osw (k := 9766) e_1_9766 (by decide), lv_osw (k := 15420) e_1_15420 (by decide), lv_osw (k := 15421) e_1_15421 (by decide), lv_osw (k := 15677) e_1_15677 (by decide), lv_osw (k := 15933) e_1_15933 (by decide), lv_osw (k := 15934) e_1_15934 (by decide), lv_osw (k := 31868) e_1_31868 (by decide)]; rfl) (by decide) ?_
  refine cx_iconst (v := 0) hE d_Gr_rankOf_165 (by decide) ?_
  refine cx_iret hE d_Gr_rankOf_166 rfl rfl ?_
  clear hE
  refine ⟨?_, rfl⟩
  subst_vars
  simp [tx_rank, *]
set_option maxRecDepth 100000 in
theorem c_Gr_part {k : cx_K} {l : Launch} {G : cx_G} {F : Nat → Prop} {L : tx_Ls} {gr : Nat} {b : Nat × Nat} {A : tx_A} {i f n0 : Nat} {s : tx_S} (hfl : l.flags = flags0) (hb : tx_gb L b) (hn0 : (tx_shp s).2 = some n0) (hg : tx_g k F L gr b G A i f s) {R0 : tx_R Int32} {j : Nat} {w : Int32} (hj : j < L.length) (hf : f < 60) (hR : R0 = tx_prt (tx_tks L) (tx_ta (tx_tks L) j) w i s) : cx_Sp k l m_Gr_part 7 [.ref gr, .ref (tx_ad L j), .int w] G (tx_gp k F L gr b G A (f + 1) (fun w => some (.int w)) s R0) := by
  intro E hE
  have hs := tx_gs.rf F gr G
  have hp : tx_shp s = tx_shp s := rfl
  have hT : ∀ e x G', R0 = .inl e → tx_gt F L gr b G A.ve e x G' → tx_gp k F L gr b G A (f + 1) (fun w => some (.int w)) s R0 (.inr x) G' := fun e x G' h1 h2 => Or.inr ⟨e, x, h1, rfl, h2⟩
  have hbl := hb.2.2.1
  have hle := hg.le
  have hgr := hg.cel
  have htk := hg.tok hg.lt
  unfold tx_prt at hR
  refine cx_aload_n (i := 0) hE d_Gr_part_0 rfl rfl ?_
  refine cx_bipush (v := 20) hE d_Gr_part_1 (by decide) ?_
  refine cx_tak (kd := 20) hE d_Gr_part_3 rfl rfl hfl hb hT rfl hg hs hR (by decide) (by omega) (Nat.le_of_ble_eq_true rfl) (fun G1 hk3 hg hs hR => ?_)
  have hgr := hg.cel
  have htk := hg.tok hg.lt
  have hbr := hg.tok hj
  refine cx_invV1 hE d_Gr_part_6 l_Gr_117 (hg.tok (j := i) (by have := hg.lt; omega)) (c_To_plain (t := tx_ta (tx_tks L) (i)) (hg.tok (j := i) (by have := hg.lt; omega))) rfl (by omega) (Nat.le_of_ble_eq_true rfl) n_To_plain (by rfl) ?_
  refine cx_istore_n (i := 3) hE d_Gr_part_9 rfl (by decide) ?_
  refine cx_iload_n (i := 3) hE d_Gr_part_10 rfl rfl ?_
  refine cx_istore hE d_Gr_part_11 (by decide) ?_
  refine cx_aload_n (i := 0) hE d_Gr_part_13 rfl rfl ?_
  refine cx_get hE d_Gr_part_14 f_Gr_15 (by assumption) (by rfl) ?_
  refine cx_get hE d_Gr_part_17 f_Gr_31 (by assumption) (by rfl) ?_
  refine cx_bipush (v := 58) hE d_Gr_part_20 (by decide) ?_
  refine cx_icmp_ne (tgt := 43)  hE d_Gr_part_22 (by decide) (fun c_22 => ?_) (fun c_22 => ?_)
  · rw [if_neg c_22] at hR
    try simp only [tx_R.and_as, tx_op_and, tx_R.and_r] at hR
    refine cx_aload_n (i := 0) hE d_Gr_part_43 rfl rfl ?_
    refine cx_bipush (v := 93) hE d_Gr_part_44 (by decide) ?_
    refine cx_clo (kd := 93) hE d_Gr_part_46 rfl rfl hfl hb hT rfl hg hs hR (by decide) (by omega) (by omega) (Nat.le_of_ble_eq_true rfl) (fun G1 hk46 hg hs hR => ?_)
    have hgr := hg.cel
    have htk := hg.tok hg.lt
    have hbr := hg.tok hj
    refine cx_pop hE d_Gr_part_49 ?_
    refine cx_iload hE d_Gr_part_50 rfl ?_
    refine cx_iload_n (i := 3) hE d_Gr_part_52 rfl rfl ?_
    refine cx_icmp_gt (tgt := 65)  hE d_Gr_part_53 (by decide) (fun c_53 => ?_) (fun c_53 => ?_)
    · have hlh : ¬ ((tx_pl (tx_ta (tx_tks L) i)) ≤ (tx_pl (tx_ta (tx_tks L) i)) ∧ (tx_pl (tx_ta (tx_tks L) i)) < w) := fun z => absurd z.1 (by first | exact c_53 | exact Int32.not_le.mpr c_53)
      refine cx_iconst (v := 0) hE d_Gr_part_65 (by decide) ?_
      refine cx_istore hE d_Gr_part_66 (by decide) ?_
      refine cx_aload_n (i := 0) hE d_Gr_part_68 rfl rfl ?_
      refine cx_get hE d_Gr_part_69 f_Gr_23 (by assumption) (by rfl) ?_
      refine cx_iload hE d_Gr_part_72 rfl ?_
      refine cx_bipush (v := 30) hE d_Gr_part_74 (by decide) ?_
      refine cx_aload_n (i := 1) hE d_Gr_part_76 rfl rfl ?_
      refine cx_get hE d_Gr_part_77 f_Gr_41 (by assumption) (by rfl) ?_
      refine cx_gmq0 hE d_Gr_part_80 rfl l_Gr_138 hg.1.1 hg hs hp (c_ck (right := false) (code := 30) (place := nI (tx_ta (tx_tks L) j).2.1) hg.1) (tx_shp.ck ..) rfl (by omega) (Nat.le_of_ble_eq_true rfl) n_Ve_check (by first | rfl | (simp only [List.map_cons, List.map_nil, cx_rfc]; rfl)) (fun G1 hg hs hp hl => ?_)
      have hgr := hg.cel
      have htk := hg.tok hg.lt
      have hbr := hg.tok hj
      refine cx_iload hE d_Gr_part_83 rfl ?_
      refine cx_if_eq (tgt := 97)  hE d_Gr_part_85 (by decide) (fun c_85 => ?_) (fun c_85 => ?_)
      · refine cx_iconst (v := 1) hE d_Gr_part_97 (by decide) ?_
        refine cx_iret hE d_Gr_part_98 rfl rfl ?_
        first
          | (first
               | (rw [show tx_prg (tx_ta (tx_tks L) j) w (tx_pl (tx_ta (tx_tks L) i)) (tx_pl (tx_ta (tx_tks L) (i + 1 + 1))) s = ((tx_pl (tx_ta (tx_tks L) i)) - (tx_pl (tx_ta (tx_tks L) (i + 1 + 1))) + 1, tx_ck true 30 (nI (tx_ta (tx_tks L) j).2.1) s) by unfold tx_prg; rw [if_pos hlh, decide_eq_true hlh]] at hR
                  exact Or.inl ⟨_, _, _, hR, rfl, hg, hs, hp⟩)
               | (rw [show tx_prg (tx_ta (tx_tks L) j) w (tx_pl (tx_ta (tx_tks L) i)) (tx_pl (tx_ta (tx_tks L) (i + 1 + 1))) s = (1, tx_ck false 30 (nI (tx_ta (tx_tks L) j).2.1) s) by unfold tx_prg; rw [if_neg hlh, decide_eq_false hlh]] at hR
                  exact Or.inl ⟨_, _, _, hR, rfl, hg, hs, hp⟩))
          | (first
               | (rw [show tx_prg (tx_ta (tx_tks L) j) w (tx_pl (tx_ta (tx_tks L) i)) (tx_pl (tx_ta (tx_tks L) i)) s = ((tx_pl (tx_ta (tx_tks L) i)) - (tx_pl (tx_ta (tx_tks L) i)) + 1, tx_ck true 30 (nI (tx_ta (tx_tks L) j).2.1) s) by unfold tx_prg; rw [if_pos hlh, decide_eq_true hlh]] at hR
                  exact Or.inl ⟨_, _, _, hR, rfl, hg, hs, hp⟩)
               | (rw [show tx_prg (tx_ta (tx_tks L) j) w (tx_pl (tx_ta (tx_tks L) i)) (tx_pl (tx_ta (tx_tks L) i)) s = (1, tx_ck false 30 (nI (tx_ta (tx_tks L) j).2.1) s) by unfold tx_prg; rw [if_neg hlh, decide_eq_false hlh]] at hR
                  exact Or.inl ⟨_, _, _, hR, rfl, hg, hs, hp⟩))
      · exact absurd rfl c_85
        -- end
    · refine cx_iload_n (i := 3) hE d_Gr_part_56 rfl rfl ?_
      refine cx_iload_n (i := 2) hE d_Gr_part_57 rfl rfl ?_
      refine cx_icmp_ge (tgt := 65)  hE d_Gr_part_58 (by decide) (fun c_58 => ?_) (fun c_58 => ?_)
      · have hlh : ¬ ((tx_pl (tx_ta (tx_tks L) i)) ≤ (tx_pl (tx_ta (tx_tks L) i)) ∧ (tx_pl (tx_ta (tx_tks L) i)) < w) := fun z => absurd z.2 (by first | exact c_58 | exact Int32.not_lt.mpr c_58)
        refine cx_iconst (v := 0) hE d_Gr_part_65 (by decide) ?_
        refine cx_istore hE d_Gr_part_66 (by decide) ?_
        refine cx_aload_n (i := 0) hE d_Gr_part_68 rfl rfl ?_
        refine cx_get hE d_Gr_part_69 f_Gr_23 (by assumption) (by rfl) ?_
        refine cx_iload hE d_Gr_part_72 rfl ?_
        refine cx_bipush (v := 30) hE d_Gr_part_74 (by decide) ?_
        refine cx_aload_n (i := 1) hE d_Gr_part_76 rfl rfl ?_
        refine cx_get hE d_Gr_part_77 f_Gr_41 (by assumption) (by rfl) ?_
        refine cx_gmq0 hE d_Gr_part_80 rfl l_Gr_138 hg.1.1 hg hs hp (c_ck (right := false) (code := 30) (place := nI (tx_ta (tx_tks L) j).2.1) hg.1) (tx_shp.ck ..) rfl (by omega) (Nat.le_of_ble_eq_true rfl) n_Ve_check (by first | rfl | (simp only [List.map_cons, List.map_nil, cx_rfc]; rfl)) (fun G1 hg hs hp hl => ?_)
        have hgr := hg.cel
        have htk := hg.tok hg.lt
        have hbr := hg.tok hj
        refine cx_iload hE d_Gr_part_83 rfl ?_
        refine cx_if_eq (tgt := 97)  hE d_Gr_part_85 (by decide) (fun c_85 => ?_) (fun c_85 => ?_)
        · refine cx_iconst (v := 1) hE d_Gr_part_97 (by decide) ?_
          refine cx_iret hE d_Gr_part_98 rfl rfl ?_
          first
            | (first
                 | (rw [show tx_prg (tx_ta (tx_tks L) j) w (tx_pl (tx_ta (tx_tks L) i)) (tx_pl (tx_ta (tx_tks L) (i + 1 + 1))) s = ((tx_pl (tx_ta (tx_tks L) i)) - (tx_pl (tx_ta (tx_tks L) (i + 1 + 1))) + 1, tx_ck true 30 (nI (tx_ta (tx_tks L) j).2.1) s) by unfold tx_prg; rw [if_pos hlh, decide_eq_true hlh]] at hR
                    exact Or.inl ⟨_, _, _, hR, rfl, hg, hs, hp⟩)
                 | (rw [show tx_prg (tx_ta (tx_tks L) j) w (tx_pl (tx_ta (tx_tks L) i)) (tx_pl (tx_ta (tx_tks L) (i + 1 + 1))) s = (1, tx_ck false 30 (nI (tx_ta (tx_tks L) j).2.1) s) by unfold tx_prg; rw [if_neg hlh, decide_eq_false hlh]] at hR
                    exact Or.inl ⟨_, _, _, hR, rfl, hg, hs, hp⟩))
            | (first
                 | (rw [show tx_prg (tx_ta (tx_tks L) j) w (tx_pl (tx_ta (tx_tks L) i)) (tx_pl (tx_ta (tx_tks L) i)) s = ((tx_pl (tx_ta (tx_tks L) i)) - (tx_pl (tx_ta (tx_tks L) i)) + 1, tx_ck true 30 (nI (tx_ta (tx_tks L) j).2.1) s) by unfold tx_prg; rw [if_pos hlh, decide_eq_true hlh]] at hR
                    exact Or.inl ⟨_, _, _, hR, rfl, hg, hs, hp⟩)
                 | (rw [show tx_prg (tx_ta (tx_tks L) j) w (tx_pl (tx_ta (tx_tks L) i)) (tx_pl (tx_ta (tx_tks L) i)) s = (1, tx_ck false 30 (nI (tx_ta (tx_tks L) j).2.1) s) by unfold tx_prg; rw [if_neg hlh, decide_eq_false hlh]] at hR
                    exact Or.inl ⟨_, _, _, hR, rfl, hg, hs, hp⟩))
        · exact absurd rfl c_85
          -- end
      · have hlh : (tx_pl (tx_ta (tx_tks L) i)) ≤ (tx_pl (tx_ta (tx_tks L) i)) ∧ (tx_pl (tx_ta (tx_tks L) i)) < w := ⟨by first | exact c_53 | exact Int32.not_lt.mp c_53, by first | exact c_58 | exact Int32.not_le.mp c_58⟩
        refine cx_iconst (v := 1) hE d_Gr_part_61 (by decide) ?_
        refine cx_goto (tgt := 66) hE d_Gr_part_62 (by decide) ?_
        refine cx_istore hE d_Gr_part_66 (by decide) ?_
        refine cx_aload_n (i := 0) hE d_Gr_part_68 rfl rfl ?_
        refine cx_get hE d_Gr_part_69 f_Gr_23 (by assumption) (by rfl) ?_
        refine cx_iload hE d_Gr_part_72 rfl ?_
        refine cx_bipush (v := 30) hE d_Gr_part_74 (by decide) ?_
        refine cx_aload_n (i := 1) hE d_Gr_part_76 rfl rfl ?_
        refine cx_get hE d_Gr_part_77 f_Gr_41 (by assumption) (by rfl) ?_
        refine cx_gmq0 hE d_Gr_part_80 rfl l_Gr_138 hg.1.1 hg hs hp (c_ck (right := true) (code := 30) (place := nI (tx_ta (tx_tks L) j).2.1) hg.1) (tx_shp.ck ..) rfl (by omega) (Nat.le_of_ble_eq_true rfl) n_Ve_check (by first | rfl | (simp only [List.map_cons, List.map_nil, cx_rfc]; rfl)) (fun G1 hg hs hp hl => ?_)
        have hgr := hg.cel
        have htk := hg.tok hg.lt
        have hbr := hg.tok hj
        refine cx_iload hE d_Gr_part_83 rfl ?_
        refine cx_if_eq (tgt := 97)  hE d_Gr_part_85 (by decide) (fun c_85 => ?_) (fun c_85 => ?_)
        · exact absurd c_85 (by decide)
          -- end
        · refine cx_iload_n (i := 3) hE d_Gr_part_88 rfl rfl ?_
          refine cx_iload hE d_Gr_part_89 rfl ?_
          refine cx_isub hE d_Gr_part_91 ?_
          refine cx_iconst (v := 1) hE d_Gr_part_92 (by decide) ?_
          refine cx_iadd hE d_Gr_part_93 ?_
          refine cx_goto (tgt := 98) hE d_Gr_part_94 (by decide) ?_
          refine cx_iret hE d_Gr_part_98 rfl rfl ?_
          first
            | (first
                 | (rw [show tx_prg (tx_ta (tx_tks L) j) w (tx_pl (tx_ta (tx_tks L) i)) (tx_pl (tx_ta (tx_tks L) (i + 1 + 1))) s = ((tx_pl (tx_ta (tx_tks L) i)) - (tx_pl (tx_ta (tx_tks L) (i + 1 + 1))) + 1, tx_ck true 30 (nI (tx_ta (tx_tks L) j).2.1) s) by unfold tx_prg; rw [if_pos hlh, decide_eq_true hlh]] at hR
                    exact Or.inl ⟨_, _, _, hR, rfl, hg, hs, hp⟩)
                 | (rw [show tx_prg (tx_ta (tx_tks L) j) w (tx_pl (tx_ta (tx_tks L) i)) (tx_pl (tx_ta (tx_tks L) (i + 1 + 1))) s = (1, tx_ck false 30 (nI (tx_ta (tx_tks L) j).2.1) s) by unfold tx_prg; rw [if_neg hlh, decide_eq_false hlh]] at hR
                    exact Or.inl ⟨_, _, _, hR, rfl, hg, hs, hp⟩))
            | (first
                 | (rw [show tx_prg (tx_ta (tx_tks L) j) w (tx_pl (tx_ta (tx_tks L) i)) (tx_pl (tx_ta (tx_tks L) i)) s = ((tx_pl (tx_ta (tx_tks L) i)) - (tx_pl (tx_ta (tx_tks L) i)) + 1, tx_ck true 30 (nI (tx_ta (tx_tks L) j).2.1) s) by unfold tx_prg; rw [if_pos hlh, decide_eq_true hlh]] at hR
                    exact Or.inl ⟨_, _, _, hR, rfl, hg, hs, hp⟩)
                 | (rw [show tx_prg (tx_ta (tx_tks L) j) w (tx_pl (tx_ta (tx_tks L) i)) (tx_pl (tx_ta (tx_tks L) i)) s = (1, tx_ck false 30 (nI (tx_ta (tx_tks L) j).2.1) s) by unfold tx_prg; rw [if_neg hlh, decide_eq_false hlh]] at hR
                    exact Or.inl ⟨_, _, _, hR, rfl, hg, hs, hp⟩))
  · rw [if_pos c_22] at hR
    try simp only [tx_R.and_as, tx_op_and, tx_R.and_r] at hR
    refine cx_aload_n (i := 0) hE d_Gr_part_25 rfl rfl ?_
    refine cx_bipush (v := 58) hE d_Gr_part_26 (by decide) ?_
    refine cx_tak (kd := 58) hE d_Gr_part_28 rfl rfl hfl hb hT rfl hg hs hR (by decide) (by omega) (Nat.le_of_ble_eq_true rfl) (fun G1 hk28 hg hs hR => ?_)
    have hgr := hg.cel
    have htk := hg.tok hg.lt
    have hbr := hg.tok hj
    refine cx_pop hE d_Gr_part_31 ?_
    refine cx_aload_n (i := 0) hE d_Gr_part_32 rfl rfl ?_
    refine cx_bipush (v := 20) hE d_Gr_part_33 (by decide) ?_
    refine cx_tak (kd := 20) hE d_Gr_part_35 rfl rfl hfl hb hT rfl hg hs hR (by decide) (by omega) (Nat.le_of_ble_eq_true rfl) (fun G1 hk35 hg hs hR => ?_)
    have hgr := hg.cel
    have htk := hg.tok hg.lt
    have hbr := hg.tok hj
    refine cx_invV1 hE d_Gr_part_38 l_Gr_117 (hg.tok (j := i + 1 + 1) (by have := hg.lt; omega)) (c_To_plain (t := tx_ta (tx_tks L) (i + 1 + 1)) (hg.tok (j := i + 1 + 1) (by have := hg.lt; omega))) rfl (by omega) (Nat.le_of_ble_eq_true rfl) n_To_plain (by rfl) ?_
    refine cx_istore hE d_Gr_part_41 (by decide) ?_
    refine cx_aload_n (i := 0) hE d_Gr_part_43 rfl rfl ?_
    refine cx_bipush (v := 93) hE d_Gr_part_44 (by decide) ?_
    refine cx_clo (kd := 93) hE d_Gr_part_46 rfl rfl hfl hb hT rfl hg hs hR (by decide) (by omega) (by omega) (Nat.le_of_ble_eq_true rfl) (fun G1 hk46 hg hs hR => ?_)
    have hgr := hg.cel
    have htk := hg.tok hg.lt
    have hbr := hg.tok hj
    refine cx_pop hE d_Gr_part_49 ?_
    refine cx_iload hE d_Gr_part_50 rfl ?_
    refine cx_iload_n (i := 3) hE d_Gr_part_52 rfl rfl ?_
    refine cx_icmp_gt (tgt := 65)  hE d_Gr_part_53 (by decide) (fun c_53 => ?_) (fun c_53 => ?_)
    · have hlh : ¬ ((tx_pl (tx_ta (tx_tks L) (i + 1 + 1))) ≤ (tx_pl (tx_ta (tx_tks L) i)) ∧ (tx_pl (tx_ta (tx_tks L) i)) < w) := fun z => absurd z.1 (by first | exact c_53 | exact Int32.not_le.mpr c_53)
      refine cx_iconst (v := 0) hE d_Gr_part_65 (by decide) ?_
      refine cx_istore hE d_Gr_part_66 (by decide) ?_
      refine cx_aload_n (i := 0) hE d_Gr_part_68 rfl rfl ?_
      refine cx_get hE d_Gr_part_69 f_Gr_23 (by assumption) (by rfl) ?_
      refine cx_iload hE d_Gr_part_72 rfl ?_
      refine cx_bipush (v := 30) hE d_Gr_part_74 (by decide) ?_
      refine cx_aload_n (i := 1) hE d_Gr_part_76 rfl rfl ?_
      refine cx_get hE d_Gr_part_77 f_Gr_41 (by assumption) (by rfl) ?_
      refine cx_gmq0 hE d_Gr_part_80 rfl l_Gr_138 hg.1.1 hg hs hp (c_ck (right := false) (code := 30) (place := nI (tx_ta (tx_tks L) j).2.1) hg.1) (tx_shp.ck ..) rfl (by omega) (Nat.le_of_ble_eq_true rfl) n_Ve_check (by first | rfl | (simp only [List.map_cons, List.map_nil, cx_rfc]; rfl)) (fun G1 hg hs hp hl => ?_)
      have hgr := hg.cel
      have htk := hg.tok hg.lt
      have hbr := hg.tok hj
      refine cx_iload hE d_Gr_part_83 rfl ?_
      refine cx_if_eq (tgt := 97)  hE d_Gr_part_85 (by decide) (fun c_85 => ?_) (fun c_85 => ?_)
      · refine cx_iconst (v := 1) hE d_Gr_part_97 (by decide) ?_
        refine cx_iret hE d_Gr_part_98 rfl rfl ?_
        first
          | (first
               | (rw [show tx_prg (tx_ta (tx_tks L) j) w (tx_pl (tx_ta (tx_tks L) i)) (tx_pl (tx_ta (tx_tks L) (i + 1 + 1))) s = ((tx_pl (tx_ta (tx_tks L) i)) - (tx_pl (tx_ta (tx_tks L) (i + 1 + 1))) + 1, tx_ck true 30 (nI (tx_ta (tx_tks L) j).2.1) s) by unfold tx_prg; rw [if_pos hlh, decide_eq_true hlh]] at hR
                  exact Or.inl ⟨_, _, _, hR, rfl, hg, hs, hp⟩)
               | (rw [show tx_prg (tx_ta (tx_tks L) j) w (tx_pl (tx_ta (tx_tks L) i)) (tx_pl (tx_ta (tx_tks L) (i + 1 + 1))) s = (1, tx_ck false 30 (nI (tx_ta (tx_tks L) j).2.1) s) by unfold tx_prg; rw [if_neg hlh, decide_eq_false hlh]] at hR
                  exact Or.inl ⟨_, _, _, hR, rfl, hg, hs, hp⟩))
          | (first
               | (rw [show tx_prg (tx_ta (tx_tks L) j) w (tx_pl (tx_ta (tx_tks L) i)) (tx_pl (tx_ta (tx_tks L) i)) s = ((tx_pl (tx_ta (tx_tks L) i)) - (tx_pl (tx_ta (tx_tks L) i)) + 1, tx_ck true 30 (nI (tx_ta (tx_tks L) j).2.1) s) by unfold tx_prg; rw [if_pos hlh, decide_eq_true hlh]] at hR
                  exact Or.inl ⟨_, _, _, hR, rfl, hg, hs, hp⟩)
               | (rw [show tx_prg (tx_ta (tx_tks L) j) w (tx_pl (tx_ta (tx_tks L) i)) (tx_pl (tx_ta (tx_tks L) i)) s = (1, tx_ck false 30 (nI (tx_ta (tx_tks L) j).2.1) s) by unfold tx_prg; rw [if_neg hlh, decide_eq_false hlh]] at hR
                  exact Or.inl ⟨_, _, _, hR, rfl, hg, hs, hp⟩))
      · exact absurd rfl c_85
        -- end
    · refine cx_iload_n (i := 3) hE d_Gr_part_56 rfl rfl ?_
      refine cx_iload_n (i := 2) hE d_Gr_part_57 rfl rfl ?_
      refine cx_icmp_ge (tgt := 65)  hE d_Gr_part_58 (by decide) (fun c_58 => ?_) (fun c_58 => ?_)
      · have hlh : ¬ ((tx_pl (tx_ta (tx_tks L) (i + 1 + 1))) ≤ (tx_pl (tx_ta (tx_tks L) i)) ∧ (tx_pl (tx_ta (tx_tks L) i)) < w) := fun z => absurd z.2 (by first | exact c_58 | exact Int32.not_lt.mpr c_58)
        refine cx_iconst (v := 0) hE d_Gr_part_65 (by decide) ?_
        refine cx_istore hE d_Gr_part_66 (by decide) ?_
        refine cx_aload_n (i := 0) hE d_Gr_part_68 rfl rfl ?_
        refine cx_get hE d_Gr_part_69 f_Gr_23 (by assumption) (by rfl) ?_
        refine cx_iload hE d_Gr_part_72 rfl ?_
        refine cx_bipush (v := 30) hE d_Gr_part_74 (by decide) ?_
        refine cx_aload_n (i := 1) hE d_Gr_part_76 rfl rfl ?_
        refine cx_get hE d_Gr_part_77 f_Gr_41 (by assumption) (by rfl) ?_
        refine cx_gmq0 hE d_Gr_part_80 rfl l_Gr_138 hg.1.1 hg hs hp (c_ck (right := false) (code := 30) (place := nI (tx_ta (tx_tks L) j).2.1) hg.1) (tx_shp.ck ..) rfl (by omega) (Nat.le_of_ble_eq_true rfl) n_Ve_check (by first | rfl | (simp only [List.map_cons, List.map_nil, cx_rfc]; rfl)) (fun G1 hg hs hp hl => ?_)
        have hgr := hg.cel
        have htk := hg.tok hg.lt
        have hbr := hg.tok hj
        refine cx_iload hE d_Gr_part_83 rfl ?_
        refine cx_if_eq (tgt := 97)  hE d_Gr_part_85 (by decide) (fun c_85 => ?_) (fun c_85 => ?_)
        · refine cx_iconst (v := 1) hE d_Gr_part_97 (by decide) ?_
          refine cx_iret hE d_Gr_part_98 rfl rfl ?_
          first
            | (first
                 | (rw [show tx_prg (tx_ta (tx_tks L) j) w (tx_pl (tx_ta (tx_tks L) i)) (tx_pl (tx_ta (tx_tks L) (i + 1 + 1))) s = ((tx_pl (tx_ta (tx_tks L) i)) - (tx_pl (tx_ta (tx_tks L) (i + 1 + 1))) + 1, tx_ck true 30 (nI (tx_ta (tx_tks L) j).2.1) s) by unfold tx_prg; rw [if_pos hlh, decide_eq_true hlh]] at hR
                    exact Or.inl ⟨_, _, _, hR, rfl, hg, hs, hp⟩)
                 | (rw [show tx_prg (tx_ta (tx_tks L) j) w (tx_pl (tx_ta (tx_tks L) i)) (tx_pl (tx_ta (tx_tks L) (i + 1 + 1))) s = (1, tx_ck false 30 (nI (tx_ta (tx_tks L) j).2.1) s) by unfold tx_prg; rw [if_neg hlh, decide_eq_false hlh]] at hR
                    exact Or.inl ⟨_, _, _, hR, rfl, hg, hs, hp⟩))
            | (first
                 | (rw [show tx_prg (tx_ta (tx_tks L) j) w (tx_pl (tx_ta (tx_tks L) i)) (tx_pl (tx_ta (tx_tks L) i)) s = ((tx_pl (tx_ta (tx_tks L) i)) - (tx_pl (tx_ta (tx_tks L) i)) + 1, tx_ck true 30 (nI (tx_ta (tx_tks L) j).2.1) s) by unfold tx_prg; rw [if_pos hlh, decide_eq_true hlh]] at hR
                    exact Or.inl ⟨_, _, _, hR, rfl, hg, hs, hp⟩)
                 | (rw [show tx_prg (tx_ta (tx_tks L) j) w (tx_pl (tx_ta (tx_tks L) i)) (tx_pl (tx_ta (tx_tks L) i)) s = (1, tx_ck false 30 (nI (tx_ta (tx_tks L) j).2.1) s) by unfold tx_prg; rw [if_neg hlh, decide_eq_false hlh]] at hR
                    exact Or.inl ⟨_, _, _, hR, rfl, hg, hs, hp⟩))
        · exact absurd rfl c_85
          -- end
      · have hlh : (tx_pl (tx_ta (tx_tks L) (i + 1 + 1))) ≤ (tx_pl (tx_ta (tx_tks L) i)) ∧ (tx_pl (tx_ta (tx_tks L) i)) < w := ⟨by first | exact c_53 | exact Int32.not_lt.mp c_53, by first | exact c_58 | exact Int32.not_le.mp c_58⟩
        refine cx_iconst (v := 1) hE d_Gr_part_61 (by decide) ?_
        refine cx_goto (tgt := 66) hE d_Gr_part_62 (by decide) ?_
        refine cx_istore hE d_Gr_part_66 (by decide) ?_
        refine cx_aload_n (i := 0) hE d_Gr_part_68 rfl rfl ?_
        refine cx_get hE d_Gr_part_69 f_Gr_23 (by assumption) (by rfl) ?_
        refine cx_iload hE d_Gr_part_72 rfl ?_
        refine cx_bipush (v := 30) hE d_Gr_part_74 (by decide) ?_
        refine cx_aload_n (i := 1) hE d_Gr_part_76 rfl rfl ?_
        refine cx_get hE d_Gr_part_77 f_Gr_41 (by assumption) (by rfl) ?_
        refine cx_gmq0 hE d_Gr_part_80 rfl l_Gr_138 hg.1.1 hg hs hp (c_ck (right := true) (code := 30) (place := nI (tx_ta (tx_tks L) j).2.1) hg.1) (tx_shp.ck ..) rfl (by omega) (Nat.le_of_ble_eq_true rfl) n_Ve_check (by first | rfl | (simp only [List.map_cons, List.map_nil, cx_rfc]; rfl)) (fun G1 hg hs hp hl => ?_)
        have hgr := hg.cel
        have htk := hg.tok hg.lt
        have hbr := hg.tok hj
        refine cx_iload hE d_Gr_part_83 rfl ?_
        refine cx_if_eq (tgt := 97)  hE d_Gr_part_85 (by decide) (fun c_85 => ?_) (fun c_85 => ?_)
        · exact absurd c_85 (by decide)
          -- end
        · refine cx_iload_n (i := 3) hE d_Gr_part_88 rfl rfl ?_
          refine cx_iload hE d_Gr_part_89 rfl ?_
          refine cx_isub hE d_Gr_part_91 ?_
          refine cx_iconst (v := 1) hE d_Gr_part_92 (by decide) ?_
          refine cx_iadd hE d_Gr_part_93 ?_
          refine cx_goto (tgt := 98) hE d_Gr_part_94 (by decide) ?_
          refine cx_iret hE d_Gr_part_98 rfl rfl ?_
          first
            | (first
                 | (rw [show tx_prg (tx_ta (tx_tks L) j) w (tx_pl (tx_ta (tx_tks L) i)) (tx_pl (tx_ta (tx_tks L) (i + 1 + 1))) s = ((tx_pl (tx_ta (tx_tks L) i)) - (tx_pl (tx_ta (tx_tks L) (i + 1 + 1))) + 1, tx_ck true 30 (nI (tx_ta (tx_tks L) j).2.1) s) by unfold tx_prg; rw [if_pos hlh, decide_eq_true hlh]] at hR
                    exact Or.inl ⟨_, _, _, hR, rfl, hg, hs, hp⟩)
                 | (rw [show tx_prg (tx_ta (tx_tks L) j) w (tx_pl (tx_ta (tx_tks L) i)) (tx_pl (tx_ta (tx_tks L) (i + 1 + 1))) s = (1, tx_ck false 30 (nI (tx_ta (tx_tks L) j).2.1) s) by unfold tx_prg; rw [if_neg hlh, decide_eq_false hlh]] at hR
                    exact Or.inl ⟨_, _, _, hR, rfl, hg, hs, hp⟩))
            | (first
                 | (rw [show tx_prg (tx_ta (tx_tks L) j) w (tx_pl (tx_ta (tx_tks L) i)) (tx_pl (tx_ta (tx_tks L) i)) s = ((tx_pl (tx_ta (tx_tks L) i)) - (tx_pl (tx_ta (tx_tks L) i)) + 1, tx_ck true 30 (nI (tx_ta (tx_tks L) j).2.1) s) by unfold tx_prg; rw [if_pos hlh, decide_eq_true hlh]] at hR
                    exact Or.inl ⟨_, _, _, hR, rfl, hg, hs, hp⟩)
                 | (rw [show tx_prg (tx_ta (tx_tks L) j) w (tx_pl (tx_ta (tx_tks L) i)) (tx_pl (tx_ta (tx_tks L) i)) s = (1, tx_ck false 30 (nI (tx_ta (tx_tks L) j).2.1) s) by unfold tx_prg; rw [if_neg hlh, decide_eq_false hlh]] at hR
                    exact Or.inl ⟨_, _, _, hR, rfl, hg, hs, hp⟩))
/-- an exp, where f brackets may yet be begun and f is below m -/
def tx_PE (k : cx_K) (l : Launch) (F : Nat → Prop) (L : tx_Ls) (gr : Nat) (b : Nat × Nat) (m : Nat) : Prop := ∀ (f : Nat) (G : cx_G) (A : tx_A) (i : Nat) (s : tx_S) (n0 : Nat), f < m → tx_g k F L gr b G A i f s → (tx_shp s).2 = some n0 → cx_Sp k l m_Gr_expression (4 * m + 20) [.ref gr] G (tx_gp k F L gr b G A f (fun w => some (.int w)) s (tx_exf (tx_tks L) m f i s))
set_option maxRecDepth 100000 in
theorem c_Gr_named {k : cx_K} {l : Launch} {G : cx_G} {F : Nat → Prop} {L : tx_Ls} {gr : Nat} {b : Nat × Nat} {A : tx_A} {i f n0 : Nat} {s : tx_S} (hfl : l.flags = flags0) (hb : tx_gb L b) (hn0 : (tx_shp s).2 = some n0) (hg : tx_g k F L gr b G A i f s) {m : Nat} (hx : tx_PE k l F L gr b m) (hfm : f ≤ m) {R0 : tx_R Int32} (hR : R0 = tx_nmd (tx_tks L) (tx_exf (tx_tks L) m) f i s) : cx_Sp k l m_Gr_named (4 * m + 21) [.ref gr] G (tx_gp k F L gr b G A f (fun w => some (.int w)) s R0) := by
  intro E hE
  have hs := tx_gs.rf F gr G
  have hp : tx_shp s = tx_shp s := rfl
  have hT : ∀ e x G', R0 = .inl e → tx_gt F L gr b G A.ve e x G' → tx_gp k F L gr b G A f (fun w => some (.int w)) s R0 (.inr x) G' := fun e x G' h1 h2 => Or.inr ⟨e, x, h1, rfl, h2⟩
  have hbl := hb.2.2.1
  have hle := hg.le
  have hgr := hg.cel
  have htk := hg.tok hg.lt
  unfold tx_nmd at hR
  refine cx_aload_n (i := 0) hE d_Gr_named_0 rfl rfl ?_
  refine cx_get hE d_Gr_named_1 f_Gr_19 (by assumption) (by rfl) ?_
  refine cx_aload_n (i := 0) hE d_Gr_named_4 rfl rfl ?_
  refine cx_get hE d_Gr_named_5 f_Gr_19 (by assumption) (by rfl) ?_
  refine cx_aload_n (i := 0) hE d_Gr_named_8 rfl rfl ?_
  refine cx_bipush (v := 19) hE d_Gr_named_9 (by decide) ?_
  refine cx_tak (kd := 19) hE d_Gr_named_11 rfl rfl hfl hb hT rfl hg hs hR (by decide) (by omega) (Nat.le_of_ble_eq_true rfl) (fun G1 hk11 hg hs hR => ?_)
  have hgr := hg.cel
  have htk := hg.tok hg.lt
  have hok := tx_used_ok hg.1.2.2.2.2.2.2.2.2.1 (tx_ta (tx_tks L) i)
  obtain ⟨u, hu, hul⟩ := tx_shp.cur (by rw [hp]; exact hn0)
  obtain ⟨x9, hme, -⟩ := hg.1.2.1
  refine cx_gmq1 hE d_Gr_named_14 rfl l_Gr_241 hme hg hs hp (c_Me_used hu (hg.tw (j := i) (by have := hg.lt; omega)) hg.1) (tx_shp.used ..) rfl (by omega) (Nat.le_of_ble_eq_true rfl) n_Me_used (by first | rfl | (simp only [List.map_cons, List.map_nil, cx_rfc]; rfl)) (fun G1 hg hs hp hl => ?_)
  have hgr := hg.cel
  have htk := hg.tok hg.lt
  have hln : (tx_used s (tx_ta (tx_tks L) i)).2.2.1.length = s.2.1.length := tx_shp.len (tx_shp.used s (tx_ta (tx_tks L) i))
  have hw17 := c_Me_widthOf (l := l) hg.1 hok
  rw [hln] at hw17
  obtain ⟨x8, hme8, -⟩ := hg.1.2.1
  refine cx_invV1 hE d_Gr_named_17 l_Gr_131 hme8 hw17 rfl (by omega) (Nat.le_of_ble_eq_true rfl) n_Me_widthOf (by simp only [List.map_cons, List.map_nil, cx_rfc]; rfl) ?_
  refine cx_istore_n (i := 1) hE d_Gr_named_20 rfl (by decide) ?_
  refine cx_aload_n (i := 0) hE d_Gr_named_21 rfl rfl ?_
  refine cx_get hE d_Gr_named_22 f_Gr_15 (by assumption) (by rfl) ?_
  refine cx_get hE d_Gr_named_25 f_Gr_31 (by assumption) (by rfl) ?_
  refine cx_bipush (v := 91) hE d_Gr_named_28 (by decide) ?_
  refine cx_icmp_eq (tgt := 35)  hE d_Gr_named_30 (by decide) (fun c_30 => ?_) (fun c_30 => ?_)
  · rw [if_pos c_30] at hR
    try simp only [tx_R.and_as, tx_op_and, tx_R.and_r] at hR
    refine cx_aload_n (i := 0) hE d_Gr_named_35 rfl rfl ?_
    refine cx_bipush (v := 91) hE d_Gr_named_36 (by decide) ?_
    refine cx_opn (kd := 91) hE d_Gr_named_38 rfl rfl hfl hb hT rfl hg hs hR (by decide) (by omega) (Nat.le_of_ble_eq_true rfl) (fun f_38 G1 hf38 => ?_)
    subst hf38
    intro hk38 hg hs hR
    have hgr := hg.cel
    have htk := hg.tok hg.lt
    refine cx_astore_n (i := 2) hE d_Gr_named_41 rfl (by decide) ?_
    refine cx_aload_n (i := 0) hE d_Gr_named_42 rfl rfl ?_
    refine cx_get hE d_Gr_named_43 f_Gr_15 (by assumption) (by rfl) ?_
    refine cx_get hE d_Gr_named_46 f_Gr_31 (by assumption) (by rfl) ?_
    refine cx_bipush (v := 20) hE d_Gr_named_49 (by decide) ?_
    refine cx_icmp_ne (tgt := 61)  hE d_Gr_named_51 (by decide) (fun c_51 => ?_) (fun c_51 => ?_)
    · rw [if_neg c_51] at hR
      try simp only [tx_R.and_as, tx_op_and, tx_R.and_r] at hR
      refine cx_aload_n (i := 0) hE d_Gr_named_61 rfl rfl ?_
      refine cx_get hE d_Gr_named_62 f_Gr_19 (by assumption) (by rfl) ?_
      refine cx_iload_n (i := 1) hE d_Gr_named_65 rfl rfl ?_
      refine cx_aload_n (i := 0) hE d_Gr_named_66 rfl rfl ?_
      refine cx_gsubI hE d_Gr_named_67 rfl rfl l_Gr_135 hT rfl hg hs hp hR (hx _ _ _ _ _ _ (by omega) hg (by rw [hp]; exact hn0)) rfl (by omega) (Nat.le_of_ble_eq_true rfl) n_Gr_expression (by rfl) (fun w_67 i_67 s_67 G1 hr_67 hg hs hp hR hl => ?_)
      have hgr := hg.cel
      have htk := hg.tok hg.lt
      have hup_67 := tx_up.exf _ _ _ _ _ _ _ hr_67
      refine cx_mmax hE d_Gr_named_70 (in_5 (List.mem_of_getElem? (i := 76) rfl)) (in_3 (List.mem_of_getElem? (i := 55) rfl)) (in_1 (List.mem_of_getElem? (i := 12) rfl)) (in_3 (List.mem_of_getElem? (i := 56) rfl)) (by omega) (Nat.le_of_ble_eq_true rfl) ?_
      obtain ⟨u, hu, hul⟩ := tx_shp.cur (by rw [hp]; exact hn0)
      obtain ⟨x9, hme, -⟩ := hg.1.2.1
      refine cx_gmq0 hE d_Gr_named_73 rfl l_Gr_148 hme hg hs hp (c_Me_spend (c := (tx_imax ((tx_used s (tx_ta (tx_tks L) i)).2.wo (tx_used s (tx_ta (tx_tks L) i)).1) w_67)) hu hg.1) (tx_shp.spend ..) rfl (by omega) (Nat.le_of_ble_eq_true rfl) n_Me_spend (by first | rfl | (simp only [List.map_cons, List.map_nil, cx_rfc]; rfl)) (fun G1 hg hs hp hl => ?_)
      have hgr := hg.cel
      have htk := hg.tok hg.lt
      refine cx_aload_n (i := 0) hE d_Gr_named_76 rfl rfl ?_
      refine cx_bipush (v := 93) hE d_Gr_named_77 (by decide) ?_
      refine cx_clo (kd := 93) hE d_Gr_named_79 rfl rfl hfl hb hT rfl hg hs hR (by decide) (by omega) (by omega) (Nat.le_of_ble_eq_true rfl) (fun G1 hk79 hg hs hR => ?_)
      have hgr := hg.cel
      have htk := hg.tok hg.lt
      refine cx_pop hE d_Gr_named_82 ?_
      refine cx_iconst (v := 1) hE d_Gr_named_83 (by decide) ?_
      refine cx_iret hE d_Gr_named_84 rfl rfl ?_
      exact Or.inl ⟨_, _, _, hR, rfl, hg, hs, hp⟩
    · rw [if_pos c_51] at hR
      try simp only [tx_R.and_as, tx_op_and, tx_R.and_r] at hR
      refine cx_aload_n (i := 0) hE d_Gr_named_54 rfl rfl ?_
      refine cx_aload_n (i := 2) hE d_Gr_named_55 rfl rfl ?_
      refine cx_iload_n (i := 1) hE d_Gr_named_56 rfl rfl ?_
      refine cx_gsubI hE d_Gr_named_57 rfl rfl l_Gr_192 hT rfl hg hs hp (hR.trans (tx_R.and_id _)) (c_Gr_part hfl hb (by rw [hp]; exact hn0) hg (j := i + 1) (by have := hg.lt; omega) (by omega) rfl) rfl (by omega) (Nat.le_of_ble_eq_true rfl) n_Gr_part (by rfl) (fun w_57 i_57 s_57 G1 hr_57 hg hs hp hR hl => ?_)
      have hgr := hg.cel
      have htk := hg.tok hg.lt
      refine cx_iret hE d_Gr_named_60 rfl rfl ?_
      exact Or.inl ⟨_, _, _, hR, rfl, hg, hs, hp⟩
  · rw [if_neg c_30] at hR
    try simp only [tx_R.and_as, tx_op_and, tx_R.and_r] at hR
    refine cx_iload_n (i := 1) hE d_Gr_named_33 rfl rfl ?_
    refine cx_iret hE d_Gr_named_34 rfl rfl ?_
    exact Or.inl ⟨_, _, _, hR, rfl, hg, hs, hp⟩
set_option maxRecDepth 100000 in
theorem c_Gr_conditional {k : cx_K} {l : Launch} {G : cx_G} {F : Nat → Prop} {L : tx_Ls} {gr : Nat} {b : Nat × Nat} {A : tx_A} {i f n0 : Nat} {s : tx_S} (hfl : l.flags = flags0) (hb : tx_gb L b) (hn0 : (tx_shp s).2 = some n0) (hg : tx_g k F L gr b G A i f s) {m : Nat} (hx : tx_PE k l F L gr b m) (hfm : f ≤ m) {R0 : tx_R Int32} {w : Int32} (hR : R0 = tx_cnd (tx_tks L) (tx_exf (tx_tks L) m) f w i s) : cx_Sp k l m_Gr_conditional (4 * m + 21) [.ref gr, .int w] G (tx_gp k F L gr b G A f (fun w => some (.int w)) s R0) := by
  intro E hE
  have hi0 := hg.lt
  have hs := tx_gs.rf F gr G
  have hp : tx_shp s = tx_shp s := rfl
  have hT : ∀ e x G', R0 = .inl e → tx_gt F L gr b G A.ve e x G' → tx_gp k F L gr b G A f (fun w => some (.int w)) s R0 (.inr x) G' := fun e x G' h1 h2 => Or.inr ⟨e, x, h1, rfl, h2⟩
  have hbl := hb.2.2.1
  have hle := hg.le
  have hgr := hg.cel
  have htk := hg.tok hg.lt
  unfold tx_cnd at hR
  refine cx_aload_n (i := 0) hE d_Gr_conditional_0 rfl rfl ?_
  refine cx_bipush (v := 63) hE d_Gr_conditional_1 (by decide) ?_
  refine cx_opn (kd := 63) hE d_Gr_conditional_3 rfl rfl hfl hb hT rfl hg hs hR (by decide) (by omega) (Nat.le_of_ble_eq_true rfl) (fun f_3 G1 hf3 => ?_)
  subst hf3
  intro hk3 hg hs hR
  have hgr := hg.cel
  have htk := hg.tok hg.lt
  have hmk := hg.tok hi0
  refine cx_astore_n (i := 2) hE d_Gr_conditional_6 rfl (by decide) ?_
  refine cx_aload_n (i := 0) hE d_Gr_conditional_7 rfl rfl ?_
  refine cx_gsubI hE d_Gr_conditional_8 rfl rfl l_Gr_135 hT rfl hg hs hp hR (hx _ _ _ _ _ _ (by omega) hg (by rw [hp]; exact hn0)) rfl (by omega) (Nat.le_of_ble_eq_true rfl) n_Gr_expression (by rfl) (fun w_8 i_8 s_8 G1 hr_8 hg hs hp hR hl => ?_)
  have hgr := hg.cel
  have htk := hg.tok hg.lt
  have hmk := hg.tok hi0
  have hup_8 := tx_up.exf _ _ _ _ _ _ _ hr_8
  refine cx_istore_n (i := 3) hE d_Gr_conditional_11 rfl (by decide) ?_
  refine cx_aload_n (i := 0) hE d_Gr_conditional_12 rfl rfl ?_
  refine cx_bipush (v := 58) hE d_Gr_conditional_13 (by decide) ?_
  refine cx_tak (kd := 58) hE d_Gr_conditional_15 rfl rfl hfl hb hT rfl hg hs hR (by decide) (by omega) (Nat.le_of_ble_eq_true rfl) (fun G1 hk15 hg hs hR => ?_)
  have hgr := hg.cel
  have htk := hg.tok hg.lt
  have hmk := hg.tok hi0
  refine cx_pop hE d_Gr_conditional_18 ?_
  refine cx_aload_n (i := 0) hE d_Gr_conditional_19 rfl rfl ?_
  refine cx_gsubI hE d_Gr_conditional_20 rfl rfl l_Gr_135 hT rfl hg hs hp hR (hx _ _ _ _ _ _ (by omega) hg (by rw [hp]; exact hn0)) rfl (by omega) (Nat.le_of_ble_eq_true rfl) n_Gr_expression (by rfl) (fun w_20 i_20 s_20 G1 hr_20 hg hs hp hR hl => ?_)
  have hgr := hg.cel
  have htk := hg.tok hg.lt
  have hmk := hg.tok hi0
  have hup_20 := tx_up.exf _ _ _ _ _ _ _ hr_20
  refine cx_istore hE d_Gr_conditional_23 (by decide) ?_
  refine cx_aload_n (i := 0) hE d_Gr_conditional_25 rfl rfl ?_
  refine cx_dup hE d_Gr_conditional_26 ?_
  refine cx_get hE d_Gr_conditional_27 f_Gr_9 (by assumption) (by rfl) ?_
  refine cx_iconst (v := 1) hE d_Gr_conditional_30 (by decide) ?_
  refine cx_isub hE d_Gr_conditional_31 ?_
  refine cx_putg hE d_Gr_conditional_32 f_Gr_9 (by assumption) (Nat.le_of_ble_eq_true rfl) (by first | rfl | exact cx_nr _ _) (by first | rfl | exact cx_fr _ _) (fun G_32 g_32 h_32 => ?_)
  have h_32 : tx_g k F L gr b G_32 A i_20 (f_3 + 1) s_20 := hg.mv (j := i_20) hg.lt (Nat.le_refl _) (by omega) (by rw [← g_32, ← tx_o62 f_3 (by omega)]; rfl)
  have hs := hs.tr (tx_gs.put g_32)
  have hg := h_32
  have hgr := hg.cel
  have htk := hg.tok hg.lt
  have hmk := hg.tok hi0
  refine cx_aload_n (i := 0) hE d_Gr_conditional_35 rfl rfl ?_
  refine cx_get hE d_Gr_conditional_36 f_Gr_19 (by assumption) (by rfl) ?_
  refine cx_aload_n (i := 2) hE d_Gr_conditional_39 rfl rfl ?_
  refine cx_iload_n (i := 1) hE d_Gr_conditional_40 rfl rfl ?_
  refine cx_iload_n (i := 3) hE d_Gr_conditional_41 rfl rfl ?_
  refine cx_iload hE d_Gr_conditional_42 rfl ?_
  obtain ⟨u, hu, hul⟩ := tx_shp.cur (by rw [hp]; exact hn0)
  obtain ⟨x9, hme, -⟩ := hg.1.2.1
  refine cx_gmq1 hE d_Gr_conditional_44 rfl l_Gr_224 hme hg hs hp (c_Me_conditional (c := w) (x := w_8) (y := w_20) hu (hg.tw (j := i) (by have := hg.lt; omega)) hg.1) (tx_shp.cond ..) rfl (by omega) (Nat.le_of_ble_eq_true rfl) n_Me_conditional (by first | rfl | (simp only [List.map_cons, List.map_nil, cx_rfc]; rfl)) (fun G1 hg hs hp hl => ?_)
  have hgr := hg.cel
  have htk := hg.tok hg.lt
  have hmk := hg.tok hi0
  refine cx_iret hE d_Gr_conditional_47 rfl rfl ?_
  exact Or.inl ⟨_, _, _, hR, rfl, hg, hs, hp⟩

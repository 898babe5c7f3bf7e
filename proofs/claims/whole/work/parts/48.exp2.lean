/-! GRAMMAR: braces, an operand, an exp. -/
theorem tx_una_r {T : List tx_Tk} {n i : Nat} {b c : Int32} {r : Bool} (h : tx_isU (tx_ki T i) = true) (h' : tx_isR (tx_ki T i) = true) : tx_una T (n + 1) i b c r = tx_una T n (i + 1) (b + c) (0 + 1) true := by
  rw [show tx_una T (n + 1) i b c r = if tx_isU (tx_ki T i) = true then (if tx_isR (tx_ki T i) = true then tx_una T n (i + 1) (b + c) 1 true else tx_una T n (i + 1) b (c + 1) r) else (i, b, c, r) from rfl, if_pos h, if_pos h']
  rfl
theorem tx_una_u {T : List tx_Tk} {n i : Nat} {b c : Int32} {r : Bool} (h : tx_isU (tx_ki T i) = true) (h' : tx_isR (tx_ki T i) = false) : tx_una T (n + 1) i b c r = tx_una T n (i + 1) b (c + 1) r := by
  rw [show tx_una T (n + 1) i b c r = if tx_isU (tx_ki T i) = true then (if tx_isR (tx_ki T i) = true then tx_una T n (i + 1) (b + c) 1 true else tx_una T n (i + 1) b (c + 1) r) else (i, b, c, r) from rfl, if_pos h, if_neg (by rw [h']; decide)]
theorem tx_una_e {T : List tx_Tk} {n i : Nat} {b c : Int32} {r : Bool} (h : tx_isU (tx_ki T i) = false) : tx_una T (n + 1) i b c r = (i, b, c, r) := by
  rw [show tx_una T (n + 1) i b c r = if tx_isU (tx_ki T i) = true then (if tx_isR (tx_ki T i) = true then tx_una T n (i + 1) (b + c) 1 true else tx_una T n (i + 1) b (c + 1) r) else (i, b, c, r) from rfl, if_neg (by rw [h]; decide)]
theorem tx_isU_pk {k : Int32} (h : tx_isU k = true) : tx_pk k = true := by
  have h9 := of_decide_eq_true h
  rcases h9 with z | z | z | z | z | z <;> (subst z; decide)
theorem tx_rank_pk {k : Int32} (h : tx_rank k ≠ 0) : tx_pk k = true := by
  unfold tx_rank at h
  repeat' split at h
  all_goals first | (subst_vars; decide) | (rename_i z; rcases z with z | z <;> (subst z; decide)) | (rename_i z; rcases z with z | z | z | z <;> (subst z; decide)) | exact absurd rfl h
theorem tx_take_id {α : Type} {T : List tx_Tk} {i : Nat} {s : tx_S} (R : tx_R α) : R = (tx_tk T (tx_ki T i) i s).and (fun _ _ _ => R) := by
  unfold tx_tk
  rw [if_pos rfl]
  rfl
set_option maxRecDepth 100000 in
theorem c_Gr_braces {k : cx_K} {l : Launch} {G : cx_G} {F : Nat → Prop} {L : tx_Ls} {gr : Nat} {b : Nat × Nat} {A : tx_A} {i0 f n0 : Nat} {s : tx_S} (hfl : l.flags = flags0) (hb : tx_gb L b) (hn0 : (tx_shp s).2 = some n0) (hg : tx_g k F L gr b G A i0 f s) {m : Nat} (hx : tx_PE k l F L gr b m) (hfm : f ≤ m) {R0 : tx_R Int32} (hR : R0 = tx_brc (tx_tks L) (tx_exf (tx_tks L) m) f i0 s) : cx_Sp k l m_Gr_braces (4 * m + 21) [.ref gr] G (tx_gp k F L gr b G A f (fun w => some (.int w)) s R0) := by
  intro E hE
  have hi0 := hg.lt
  have hs := tx_gs.rf F gr G
  have hp : tx_shp s = tx_shp s := rfl
  have hT : ∀ e x G', R0 = .inl e → tx_gt F L gr b G A.ve e x G' → tx_gp k F L gr b G A f (fun w => some (.int w)) s R0 (.inr x) G' := fun e x G' h1 h2 => Or.inr ⟨e, x, h1, rfl, h2⟩
  have hbl := hb.2.2.1
  have hle := hg.le
  have hgr := hg.cel
  have htk := hg.tok hg.lt
  unfold tx_brc tx_brw at hR
  refine cx_aload_n (i := 0) hE d_Gr_braces_0 rfl rfl ?_
  refine cx_bipush (v := 123) hE d_Gr_braces_1 (by decide) ?_
  refine cx_opn (kd := 123) hE d_Gr_braces_3 rfl rfl hfl hb hT rfl hg hs hR (by decide) (by omega) (Nat.le_of_ble_eq_true rfl) (fun f_3 G1 hf3 => ?_)
  subst hf3
  intro hk3 hg hs hR
  have hgr := hg.cel
  have htk := hg.tok hg.lt
  have hbr := hg.tok hi0
  refine cx_astore_n (i := 1) hE d_Gr_braces_6 rfl (by decide) ?_
  refine cx_iconst (v := 0) hE d_Gr_braces_7 (by decide) ?_
  refine cx_istore_n (i := 2) hE d_Gr_braces_8 rfl (by decide) ?_
  refine cx_aload_n (i := 0) hE d_Gr_braces_9 rfl rfl ?_
  refine cx_get hE d_Gr_braces_10 f_Gr_15 (by assumption) (by rfl) ?_
  refine cx_get hE d_Gr_braces_13 f_Gr_31 (by assumption) (by rfl) ?_
  refine cx_bipush (v := 20) hE d_Gr_braces_16 (by decide) ?_
  refine cx_icmp_ne (tgt := 55)  hE d_Gr_braces_18 (by decide) (fun c_18 => ?_) (fun c_18 => ?_)
  · rw [if_neg c_18] at hR
    try simp only [tx_R.and_as, tx_op_and, tx_R.and_r] at hR
    refine cx_aload_n (i := 0) hE d_Gr_braces_55 rfl rfl ?_
    refine cx_gsubI hE d_Gr_braces_56 rfl rfl l_Gr_135 hT rfl hg hs hp hR (hx _ _ _ _ _ _ (by omega) hg (by rw [hp]; exact hn0)) rfl (by omega) (Nat.le_of_ble_eq_true rfl) n_Gr_expression (by rfl) (fun w_56 i_56 s_56 G1 hr_56 hg hs hp hR hl => ?_)
    have hgr := hg.cel
    have htk := hg.tok hg.lt
    have hbr := hg.tok hi0
    have hup_56 := tx_up.exf _ _ _ _ _ _ _ hr_56
    have hloop : ∀ (n c : Nat) (w : Int32) (i' : Nat) (s' : tx_S) (G1 : cx_G), L.length ≤ i' + n → c ≤ i' → i0 < i' → tx_g k F L gr b G1 A i' f_3 s' → tx_gs F gr G G1 → tx_shp s' = tx_shp s → R0 = (tx_cms (tx_tks L) (tx_exf (tx_tks L) m) f_3 n w i' s').and (fun w i s => (tx_tk (tx_tks L) 125 i s).and fun _ i s => .inr (if tx_bw w = true then w else 1, i, tx_ck (tx_bw w) 30 (nI (tx_ta (tx_tks L) i0).2.1) s)) → cx_V E 62 [(3, false, .int (nI c)), (2, false, .int w), (1, false, .ref (tx_ad L i0)), (0, false, .ref gr)] [] G1 := by
      intro n
      induction n with
      | zero =>
        intro c w i' s' G1 h1 h2 h3 hg hs hp hR
        exact absurd hg.lt (by omega)
      | succ n ih =>
        intro c w i' s' G1 h1 h2 h3 hg hs hp hR
        unfold tx_cms at hR
        have hgr := hg.cel
        have htk := hg.tok hg.lt
        have hbr := hg.tok hi0
        refine cx_iload_n (i := 3) hE d_Gr_braces_62 rfl rfl ?_
        refine cx_ldc (v := 1000000) hE d_Gr_braces_63 (in_5 (List.mem_of_getElem? (i := 16) rfl)) ?_
        refine cx_icmp_ge (tgt := 100)  hE d_Gr_braces_65 (by decide) (fun c_65 => ?_) (fun c_65 => ?_)
        · exact absurd c_65 (nI_ge (a := c) (b := 1000000) (by have := hg.lt; omega) (by omega))
          -- end
        · refine cx_aload_n (i := 0) hE d_Gr_braces_68 rfl rfl ?_
          refine cx_get hE d_Gr_braces_69 f_Gr_15 (by assumption) (by rfl) ?_
          refine cx_get hE d_Gr_braces_72 f_Gr_31 (by assumption) (by rfl) ?_
          refine cx_bipush (v := 44) hE d_Gr_braces_75 (by decide) ?_
          refine cx_icmp_ne (tgt := 100)  hE d_Gr_braces_77 (by decide) (fun c_77 => ?_) (fun c_77 => ?_)
          · rw [if_neg c_77] at hR
            try simp only [tx_R.and_as, tx_op_and, tx_R.and_r] at hR
            refine cx_aload_n (i := 0) hE d_Gr_braces_100 rfl rfl ?_
            refine cx_bipush (v := 125) hE d_Gr_braces_101 (by decide) ?_
            refine cx_clo (kd := 125) hE d_Gr_braces_103 rfl rfl hfl hb hT rfl hg hs hR (by decide) (by omega) (by omega) (Nat.le_of_ble_eq_true rfl) (fun G1 hk103 hg hs hR => ?_)
            have hgr := hg.cel
            have htk := hg.tok hg.lt
            have hbr := hg.tok hi0
            refine cx_pop hE d_Gr_braces_106 ?_
            refine cx_aload_n (i := 0) hE d_Gr_braces_107 rfl rfl ?_
            refine cx_get hE d_Gr_braces_108 f_Gr_19 (by assumption) (by rfl) ?_
            refine cx_aload_n (i := 1) hE d_Gr_braces_111 rfl rfl ?_
            refine cx_iload_n (i := 2) hE d_Gr_braces_112 rfl rfl ?_
            obtain ⟨x9, hme, -⟩ := hg.1.2.1
            refine cx_gmq1 hE d_Gr_braces_113 rfl l_Gr_250 hme hg hs hp (c_Me_bracesWidth (w := w) (hg.tw (j := i0) (by have := hg.lt; omega)) hg.1) (tx_shp.ck ..) rfl (by omega) (Nat.le_of_ble_eq_true rfl) n_Me_bracesWidth (by first | rfl | (simp only [List.map_cons, List.map_nil, cx_rfc]; rfl)) (fun G1 hg hs hp hl => ?_)
            have hgr := hg.cel
            have htk := hg.tok hg.lt
            have hbr := hg.tok hi0
            refine cx_iret hE d_Gr_braces_116 rfl rfl ?_
            exact Or.inl ⟨_, _, _, hR, rfl, hg, hs, hp⟩
          · rw [if_pos c_77] at hR
            try simp only [tx_R.and_as, tx_op_and, tx_R.and_r] at hR
            refine cx_aload_n (i := 0) hE d_Gr_braces_80 rfl rfl ?_
            refine cx_bipush (v := 44) hE d_Gr_braces_81 (by decide) ?_
            refine cx_tak (kd := 44) hE d_Gr_braces_83 rfl rfl hfl hb hT rfl hg hs hR (by decide) (by omega) (Nat.le_of_ble_eq_true rfl) (fun G1 hk83 hg hs hR => ?_)
            have hgr := hg.cel
            have htk := hg.tok hg.lt
            have hbr := hg.tok hi0
            refine cx_pop hE d_Gr_braces_86 ?_
            refine cx_iload_n (i := 2) hE d_Gr_braces_87 rfl rfl ?_
            refine cx_aload_n (i := 0) hE d_Gr_braces_88 rfl rfl ?_
            refine cx_gsubI hE d_Gr_braces_89 rfl rfl l_Gr_135 hT rfl hg hs hp hR (hx _ _ _ _ _ _ (by omega) hg (by rw [hp]; exact hn0)) rfl (by omega) (Nat.le_of_ble_eq_true rfl) n_Gr_expression (by rfl) (fun w_89 i_89 s_89 G1 hr_89 hg hs hp hR hl => ?_)
            have hgr := hg.cel
            have htk := hg.tok hg.lt
            have hbr := hg.tok hi0
            have hup_89 := tx_up.exf _ _ _ _ _ _ _ hr_89
            refine cx_iadd hE d_Gr_braces_92 ?_
            refine cx_istore_n (i := 2) hE d_Gr_braces_93 rfl (by decide) ?_
            refine cx_iinc (v := nI (c + 1)) hE d_Gr_braces_94 rfl (nI_1 _) (by decide) ?_
            refine cx_goto (tgt := 62) hE d_Gr_braces_97 (by decide) ?_
            refine cx_sub [0, 1, 2, 3] rfl ?_
            exact ih (c + 1) _ _ _ _ (by omega) (by omega) (by omega) hg hs hp hR
    refine cx_istore_n (i := 2) hE d_Gr_braces_59 rfl (by decide) ?_
    refine cx_iconst (v := 0) hE d_Gr_braces_60 (by decide) ?_
    refine cx_istore_n (i := 3) hE d_Gr_braces_61 rfl (by decide) ?_
    refine cx_sub [0, 1, 2, 3] rfl ?_
    exact hloop L.length 0 _ _ _ _ (by omega) (by omega) (by omega) hg hs hp (by rw [tx_tks_len] at hR; exact hR)
  · rw [if_pos c_18] at hR
    try simp only [tx_R.and_as, tx_op_and, tx_R.and_r] at hR
    refine cx_aload_n (i := 0) hE d_Gr_braces_21 rfl rfl ?_
    refine cx_bipush (v := 20) hE d_Gr_braces_22 (by decide) ?_
    refine cx_tak (kd := 20) hE d_Gr_braces_24 rfl rfl hfl hb hT rfl hg hs hR (by decide) (by omega) (Nat.le_of_ble_eq_true rfl) (fun G1 hk24 hg hs hR => ?_)
    have hgr := hg.cel
    have htk := hg.tok hg.lt
    have hbr := hg.tok hi0
    refine cx_invV1 hE d_Gr_braces_27 l_Gr_117 (hg.tok (j := i0 + 1) (by have := hg.lt; omega)) (c_To_plain (t := tx_ta (tx_tks L) (i0 + 1)) (hg.tok (j := i0 + 1) (by have := hg.lt; omega))) rfl (by omega) (Nat.le_of_ble_eq_true rfl) n_To_plain (by rfl) ?_
    refine cx_istore_n (i := 3) hE d_Gr_braces_30 rfl (by decide) ?_
    refine cx_aload_n (i := 0) hE d_Gr_braces_31 rfl rfl ?_
    refine cx_bipush (v := 123) hE d_Gr_braces_32 (by decide) ?_
    refine cx_opn (kd := 123) hE d_Gr_braces_34 rfl rfl hfl hb hT rfl hg hs hR (by decide) (by omega) (Nat.le_of_ble_eq_true rfl) (fun f_34 G1 hf34 => ?_)
    subst hf34
    intro hk34 hg hs hR
    have hgr := hg.cel
    have htk := hg.tok hg.lt
    have hbr := hg.tok hi0
    refine cx_pop hE d_Gr_braces_37 ?_
    refine cx_iload_n (i := 3) hE d_Gr_braces_38 rfl rfl ?_
    refine cx_aload_n (i := 0) hE d_Gr_braces_39 rfl rfl ?_
    refine cx_gsubI hE d_Gr_braces_40 rfl rfl l_Gr_135 hT rfl hg hs hp hR (hx _ _ _ _ _ _ (by omega) hg (by rw [hp]; exact hn0)) rfl (by omega) (Nat.le_of_ble_eq_true rfl) n_Gr_expression (by rfl) (fun w_40 i_40 s_40 G1 hr_40 hg hs hp hR hl => ?_)
    have hgr := hg.cel
    have htk := hg.tok hg.lt
    have hbr := hg.tok hi0
    have hup_40 := tx_up.exf _ _ _ _ _ _ _ hr_40
    refine cx_imul hE d_Gr_braces_43 ?_
    refine cx_istore_n (i := 2) hE d_Gr_braces_44 rfl (by decide) ?_
    refine cx_aload_n (i := 0) hE d_Gr_braces_45 rfl rfl ?_
    refine cx_bipush (v := 125) hE d_Gr_braces_46 (by decide) ?_
    refine cx_clo (kd := 125) hE d_Gr_braces_48 rfl rfl hfl hb hT rfl hg hs hR (by decide) (by omega) (by omega) (Nat.le_of_ble_eq_true rfl) (fun G1 hk48 hg hs hR => ?_)
    have hgr := hg.cel
    have htk := hg.tok hg.lt
    have hbr := hg.tok hi0
    refine cx_pop hE d_Gr_braces_51 ?_
    refine cx_goto (tgt := 100) hE d_Gr_braces_52 (by decide) ?_
    refine cx_aload_n (i := 0) hE d_Gr_braces_100 rfl rfl ?_
    refine cx_bipush (v := 125) hE d_Gr_braces_101 (by decide) ?_
    refine cx_clo (kd := 125) hE d_Gr_braces_103 rfl rfl hfl hb hT rfl hg hs hR (by decide) (by omega) (by omega) (Nat.le_of_ble_eq_true rfl) (fun G1 hk103 hg hs hR => ?_)
    have hgr := hg.cel
    have htk := hg.tok hg.lt
    have hbr := hg.tok hi0
    refine cx_pop hE d_Gr_braces_106 ?_
    refine cx_aload_n (i := 0) hE d_Gr_braces_107 rfl rfl ?_
    refine cx_get hE d_Gr_braces_108 f_Gr_19 (by assumption) (by rfl) ?_
    refine cx_aload_n (i := 1) hE d_Gr_braces_111 rfl rfl ?_
    refine cx_iload_n (i := 2) hE d_Gr_braces_112 rfl rfl ?_
    obtain ⟨x9, hme, -⟩ := hg.1.2.1
    refine cx_gmq1 hE d_Gr_braces_113 rfl l_Gr_250 hme hg hs hp (c_Me_bracesWidth (w := (tx_pl (tx_ta (tx_tks L) (i0 + 1)) * w_40)) (hg.tw (j := i0) (by have := hg.lt; omega)) hg.1) (tx_shp.ck ..) rfl (by omega) (Nat.le_of_ble_eq_true rfl) n_Me_bracesWidth (by first | rfl | (simp only [List.map_cons, List.map_nil, cx_rfc]; rfl)) (fun G1 hg hs hp hl => ?_)
    have hgr := hg.cel
    have htk := hg.tok hg.lt
    have hbr := hg.tok hi0
    refine cx_iret hE d_Gr_braces_116 rfl rfl ?_
    exact Or.inl ⟨_, _, _, hR, rfl, hg, hs, hp⟩
set_option maxRecDepth 100000 in
theorem c_Gr_operand {k : cx_K} {l : Launch} {G : cx_G} {F : Nat → Prop} {L : tx_Ls} {gr : Nat} {b : Nat × Nat} {A : tx_A} {i f n0 : Nat} {s : tx_S} (hfl : l.flags = flags0) (hb : tx_gb L b) (hn0 : (tx_shp s).2 = some n0) (hg : tx_g k F L gr b G A i f s) {m : Nat} (hx : tx_PE k l F L gr b m) (hfm : f ≤ m) {R0 : tx_R Int32} (hR : R0 = tx_opr (tx_tks L) (tx_exf (tx_tks L) m) f i s) : cx_Sp k l m_Gr_operand (4 * m + 22) [.ref gr] G (tx_gp k F L gr b G A f (fun w => some (.int w)) s R0) := by
  intro E hE
  have hs := tx_gs.rf F gr G
  have hp : tx_shp s = tx_shp s := rfl
  have hT : ∀ e x G', R0 = .inl e → tx_gt F L gr b G A.ve e x G' → tx_gp k F L gr b G A f (fun w => some (.int w)) s R0 (.inr x) G' := fun e x G' h1 h2 => Or.inr ⟨e, x, h1, rfl, h2⟩
  have hbl := hb.2.2.1
  have hle := hg.le
  have hgr := hg.cel
  have htk := hg.tok hg.lt
  have htail : ∀ (i' : Nat) (bf sn : Int32) (rd : Bool) (G1 : cx_G), i ≤ i' → tx_g k F L gr b G1 A i' f s → tx_gs F gr G G1 → tx_una (tx_tks L) (tx_tks L).length i 0 0 false = (i', bf, sn, rd) → cx_V E 71 [(3, false, .int (cx_b rd)), (2, false, .int sn), (1, false, .int bf), (0, false, .ref gr)] [] G1 := by
    intro i' bf sn rd G1 hii hg hs hu9
    unfold tx_opr at hR
    rw [hu9] at hR
    simp only [] at hR
    have hgr := hg.cel
    have htk := hg.tok hg.lt
    refine cx_iconst (v := 1) hE d_Gr_operand_71 (by decide) ?_
    refine cx_istore hE d_Gr_operand_72 (by decide) ?_
    refine cx_aload_n (i := 0) hE d_Gr_operand_74 rfl rfl ?_
    refine cx_get hE d_Gr_operand_75 f_Gr_15 (by assumption) (by rfl) ?_
    refine cx_get hE d_Gr_operand_78 f_Gr_31 (by assumption) (by rfl) ?_
    by_cases e_81_21 : tx_ki (tx_tks L) i' = 21
    · refine cx_lookup (tgt := 116) hE d_Gr_operand_81 (by decide) (by first | (rw [e_81_21]; done) | (rw [e_81_21]; rfl)) (by decide) ?_
      refine cx_aload_n (i := 0) hE d_Gr_operand_116 rfl rfl ?_
      refine cx_bipush (v := 21) hE d_Gr_operand_117 (by decide) ?_
      unfold tx_prm at hR
      rw [if_pos e_81_21] at hR
      try simp only [tx_R.and_as, tx_op_and, tx_R.and_r] at hR
      refine cx_tak (kd := 21) hE d_Gr_operand_119 rfl rfl hfl hb hT rfl hg hs hR (by decide) (by omega) (Nat.le_of_ble_eq_true rfl) (fun G1 hk119 hg hs hR => ?_)
      have hgr := hg.cel
      have htk := hg.tok hg.lt
      have ht0 := hg.tok (j := i') (by have := hg.lt; omega)
      refine cx_get hE d_Gr_operand_122 f_Gr_234 (by assumption) (by rfl) ?_
      refine cx_istore hE d_Gr_operand_125 (by decide) ?_
      refine cx_goto (tgt := 168) hE d_Gr_operand_127 (by decide) ?_
      refine cx_aload_n (i := 0) hE d_Gr_operand_168 rfl rfl ?_
      refine cx_get hE d_Gr_operand_169 f_Gr_19 (by assumption) (by rfl) ?_
      refine cx_iload_n (i := 2) hE d_Gr_operand_172 rfl rfl ?_
      refine cx_iload hE d_Gr_operand_173 rfl ?_
      refine cx_imul hE d_Gr_operand_175 ?_
      refine cx_iload_n (i := 1) hE d_Gr_operand_176 rfl rfl ?_
      refine cx_iadd hE d_Gr_operand_177 ?_
      obtain ⟨u, hu, hul⟩ := tx_shp.cur (by rw [hp]; exact hn0)
      obtain ⟨x9, hme, -⟩ := hg.1.2.1
      refine cx_gmq0 hE d_Gr_operand_178 rfl l_Gr_148 hme hg hs hp (c_Me_spend hu hg.1) (tx_shp.spend ..) rfl (by omega) (Nat.le_of_ble_eq_true rfl) n_Me_spend (by rfl) (fun G1 hg hs hp hl => ?_)
      refine cx_iload_n (i := 3) hE d_Gr_operand_181 rfl rfl ?_
      refine cx_if_eq (tgt := 189)  hE d_Gr_operand_182 (by decide) (fun c_182 => ?_) (fun c_182 => ?_)
      · rw [if_neg (by rw [cx_b0.mp c_182]; decide)] at hR
        refine cx_iload hE d_Gr_operand_189 rfl ?_
        refine cx_iret hE d_Gr_operand_191 rfl rfl ?_
        exact Or.inl ⟨_, _, _, hR, rfl, hg, hs, hp⟩
      · rw [if_pos (cx_bn.mp c_182)] at hR
        refine cx_iconst (v := 1) hE d_Gr_operand_185 (by decide) ?_
        refine cx_goto (tgt := 191) hE d_Gr_operand_186 (by decide) ?_
        refine cx_iret hE d_Gr_operand_191 rfl rfl ?_
        exact Or.inl ⟨_, _, _, hR, rfl, hg, hs, hp⟩
    by_cases e_81_40 : tx_ki (tx_tks L) i' = 40
    · refine cx_lookup (tgt := 130) hE d_Gr_operand_81 (by decide) (by first | (rw [e_81_40]; done) | (rw [e_81_40]; rfl)) (by decide) ?_
      refine cx_aload_n (i := 0) hE d_Gr_operand_130 rfl rfl ?_
      refine cx_bipush (v := 40) hE d_Gr_operand_131 (by decide) ?_
      unfold tx_prm at hR
      rw [if_neg e_81_21, if_pos e_81_40] at hR
      try simp only [tx_R.and_as, tx_op_and, tx_R.and_r] at hR
      refine cx_opn (kd := 40) hE d_Gr_operand_133 rfl rfl hfl hb hT rfl hg hs hR (by decide) (by omega) (Nat.le_of_ble_eq_true rfl) (fun f_133 G1 hf133 => ?_)
      subst hf133
      intro hk133 hg hs hR
      have hgr := hg.cel
      have htk := hg.tok hg.lt
      have ht0 := hg.tok (j := i') (by have := hg.lt; omega)
      refine cx_pop hE d_Gr_operand_136 ?_
      refine cx_aload_n (i := 0) hE d_Gr_operand_137 rfl rfl ?_
      refine cx_gsubI hE d_Gr_operand_138 rfl rfl l_Gr_135 hT rfl hg hs hp hR (hx _ _ _ _ _ _ (by omega) hg (by rw [hp]; exact hn0)) rfl (by omega) (Nat.le_of_ble_eq_true rfl) n_Gr_expression (by rfl) (fun w_138 i_138 s_138 G1 hr_138 hg hs hp hR hl => ?_)
      have hgr := hg.cel
      have htk := hg.tok hg.lt
      have hup_138 := tx_up.exf _ _ _ _ _ _ _ hr_138
      refine cx_istore hE d_Gr_operand_141 (by decide) ?_
      refine cx_aload_n (i := 0) hE d_Gr_operand_143 rfl rfl ?_
      refine cx_bipush (v := 41) hE d_Gr_operand_144 (by decide) ?_
      refine cx_clo (kd := 41) hE d_Gr_operand_146 rfl rfl hfl hb hT rfl hg hs hR (by decide) (by omega) (by omega) (Nat.le_of_ble_eq_true rfl) (fun G1 hk146 hg hs hR => ?_)
      have hgr := hg.cel
      have htk := hg.tok hg.lt
      refine cx_pop hE d_Gr_operand_149 ?_
      refine cx_goto (tgt := 168) hE d_Gr_operand_150 (by decide) ?_
      refine cx_aload_n (i := 0) hE d_Gr_operand_168 rfl rfl ?_
      refine cx_get hE d_Gr_operand_169 f_Gr_19 (by assumption) (by rfl) ?_
      refine cx_iload_n (i := 2) hE d_Gr_operand_172 rfl rfl ?_
      refine cx_iload hE d_Gr_operand_173 rfl ?_
      refine cx_imul hE d_Gr_operand_175 ?_
      refine cx_iload_n (i := 1) hE d_Gr_operand_176 rfl rfl ?_
      refine cx_iadd hE d_Gr_operand_177 ?_
      obtain ⟨u, hu, hul⟩ := tx_shp.cur (by rw [hp]; exact hn0)
      obtain ⟨x9, hme, -⟩ := hg.1.2.1
      refine cx_gmq0 hE d_Gr_operand_178 rfl l_Gr_148 hme hg hs hp (c_Me_spend hu hg.1) (tx_shp.spend ..) rfl (by omega) (Nat.le_of_ble_eq_true rfl) n_Me_spend (by rfl) (fun G1 hg hs hp hl => ?_)
      refine cx_iload_n (i := 3) hE d_Gr_operand_181 rfl rfl ?_
      refine cx_if_eq (tgt := 189)  hE d_Gr_operand_182 (by decide) (fun c_182 => ?_) (fun c_182 => ?_)
      · rw [if_neg (by rw [cx_b0.mp c_182]; decide)] at hR
        refine cx_iload hE d_Gr_operand_189 rfl ?_
        refine cx_iret hE d_Gr_operand_191 rfl rfl ?_
        exact Or.inl ⟨_, _, _, hR, rfl, hg, hs, hp⟩
      · rw [if_pos (cx_bn.mp c_182)] at hR
        refine cx_iconst (v := 1) hE d_Gr_operand_185 (by decide) ?_
        refine cx_goto (tgt := 191) hE d_Gr_operand_186 (by decide) ?_
        refine cx_iret hE d_Gr_operand_191 rfl rfl ?_
        exact Or.inl ⟨_, _, _, hR, rfl, hg, hs, hp⟩
    by_cases e_81_123 : tx_ki (tx_tks L) i' = 123
    · refine cx_lookup (tgt := 153) hE d_Gr_operand_81 (by decide) (by first | (rw [e_81_123]; done) | (rw [e_81_123]; rfl)) (by decide) ?_
      refine cx_aload_n (i := 0) hE d_Gr_operand_153 rfl rfl ?_
      unfold tx_prm at hR
      rw [if_neg e_81_21, if_neg e_81_40, if_pos e_81_123] at hR
      try simp only [tx_R.and_as, tx_op_and, tx_R.and_r] at hR
      refine cx_gsubI hE d_Gr_operand_154 rfl rfl l_Gr_235 hT rfl hg hs hp hR (c_Gr_braces hfl hb (by rw [hp]; exact hn0) hg hx (by omega) rfl) rfl (by omega) (Nat.le_of_ble_eq_true rfl) n_Gr_braces (by rfl) (fun w_154 i_154 s_154 G1 hr_154 hg hs hp hR hl => ?_)
      have hgr := hg.cel
      have htk := hg.tok hg.lt
      refine cx_istore hE d_Gr_operand_157 (by decide) ?_
      refine cx_goto (tgt := 168) hE d_Gr_operand_159 (by decide) ?_
      refine cx_aload_n (i := 0) hE d_Gr_operand_168 rfl rfl ?_
      refine cx_get hE d_Gr_operand_169 f_Gr_19 (by assumption) (by rfl) ?_
      refine cx_iload_n (i := 2) hE d_Gr_operand_172 rfl rfl ?_
      refine cx_iload hE d_Gr_operand_173 rfl ?_
      refine cx_imul hE d_Gr_operand_175 ?_
      refine cx_iload_n (i := 1) hE d_Gr_operand_176 rfl rfl ?_
      refine cx_iadd hE d_Gr_operand_177 ?_
      obtain ⟨u, hu, hul⟩ := tx_shp.cur (by rw [hp]; exact hn0)
      obtain ⟨x9, hme, -⟩ := hg.1.2.1
      refine cx_gmq0 hE d_Gr_operand_178 rfl l_Gr_148 hme hg hs hp (c_Me_spend hu hg.1) (tx_shp.spend ..) rfl (by omega) (Nat.le_of_ble_eq_true rfl) n_Me_spend (by rfl) (fun G1 hg hs hp hl => ?_)
      refine cx_iload_n (i := 3) hE d_Gr_operand_181 rfl rfl ?_
      refine cx_if_eq (tgt := 189)  hE d_Gr_operand_182 (by decide) (fun c_182 => ?_) (fun c_182 => ?_)
      · rw [if_neg (by rw [cx_b0.mp c_182]; decide)] at hR
        refine cx_iload hE d_Gr_operand_189 rfl ?_
        refine cx_iret hE d_Gr_operand_191 rfl rfl ?_
        exact Or.inl ⟨_, _, _, hR, rfl, hg, hs, hp⟩
      · rw [if_pos (cx_bn.mp c_182)] at hR
        refine cx_iconst (v := 1) hE d_Gr_operand_185 (by decide) ?_
        refine cx_goto (tgt := 191) hE d_Gr_operand_186 (by decide) ?_
        refine cx_iret hE d_Gr_operand_191 rfl rfl ?_
        exact Or.inl ⟨_, _, _, hR, rfl, hg, hs, hp⟩
    refine cx_lookup (tgt := 162) hE d_Gr_operand_81 (by decide) (off := 81) (by show Op.lookupswitch.offset [(21, 35), (40, 49), (123, 72)] 81 _ = _; rw [lv_osw (k := 21) e_81_21 (by decide), lv_osw (k := 40) e_81_40 (by decide), lv_osw (k := 123) e_81_123 (by decide)]; rfl) (by decide) ?_
    refine cx_aload_n (i := 0) hE d_Gr_operand_162 rfl rfl ?_
    unfold tx_prm at hR
    rw [if_neg e_81_21, if_neg e_81_40, if_neg e_81_123] at hR
    try simp only [tx_R.and_as, tx_op_and, tx_R.and_r] at hR
    refine cx_gsubI hE d_Gr_operand_163 rfl rfl l_Gr_238 hT rfl hg hs hp hR (c_Gr_named hfl hb (by rw [hp]; exact hn0) hg hx (by omega) rfl) rfl (by omega) (Nat.le_of_ble_eq_true rfl) n_Gr_named (by rfl) (fun w_163 i_163 s_163 G1 hr_163 hg hs hp hR hl => ?_)
    have hgr := hg.cel
    have htk := hg.tok hg.lt
    refine cx_istore hE d_Gr_operand_166 (by decide) ?_
    refine cx_aload_n (i := 0) hE d_Gr_operand_168 rfl rfl ?_
    refine cx_get hE d_Gr_operand_169 f_Gr_19 (by assumption) (by rfl) ?_
    refine cx_iload_n (i := 2) hE d_Gr_operand_172 rfl rfl ?_
    refine cx_iload hE d_Gr_operand_173 rfl ?_
    refine cx_imul hE d_Gr_operand_175 ?_
    refine cx_iload_n (i := 1) hE d_Gr_operand_176 rfl rfl ?_
    refine cx_iadd hE d_Gr_operand_177 ?_
    obtain ⟨u, hu, hul⟩ := tx_shp.cur (by rw [hp]; exact hn0)
    obtain ⟨x9, hme, -⟩ := hg.1.2.1
    refine cx_gmq0 hE d_Gr_operand_178 rfl l_Gr_148 hme hg hs hp (c_Me_spend hu hg.1) (tx_shp.spend ..) rfl (by omega) (Nat.le_of_ble_eq_true rfl) n_Me_spend (by rfl) (fun G1 hg hs hp hl => ?_)
    refine cx_iload_n (i := 3) hE d_Gr_operand_181 rfl rfl ?_
    refine cx_if_eq (tgt := 189)  hE d_Gr_operand_182 (by decide) (fun c_182 => ?_) (fun c_182 => ?_)
    · rw [if_neg (by rw [cx_b0.mp c_182]; decide)] at hR
      refine cx_iload hE d_Gr_operand_189 rfl ?_
      refine cx_iret hE d_Gr_operand_191 rfl rfl ?_
      exact Or.inl ⟨_, _, _, hR, rfl, hg, hs, hp⟩
    · rw [if_pos (cx_bn.mp c_182)] at hR
      refine cx_iconst (v := 1) hE d_Gr_operand_185 (by decide) ?_
      refine cx_goto (tgt := 191) hE d_Gr_operand_186 (by decide) ?_
      refine cx_iret hE d_Gr_operand_191 rfl rfl ?_
      exact Or.inl ⟨_, _, _, hR, rfl, hg, hs, hp⟩
  have hloop : ∀ (n c i' : Nat) (bf sn : Int32) (rd : Bool) (G1 : cx_G), L.length ≤ i' + n → c ≤ i' → i ≤ i' → tx_g k F L gr b G1 A i' f s → tx_gs F gr G G1 → tx_una (tx_tks L) (tx_tks L).length i 0 0 false = tx_una (tx_tks L) n i' bf sn rd → cx_V E 9 [(4, false, .int (nI c)), (3, false, .int (cx_b rd)), (2, false, .int sn), (1, false, .int bf), (0, false, .ref gr)] [] G1 := by
    intro n
    induction n with
    | zero =>
      intro c i' bf sn rd G1 h1 h2 h3 hg hs hu9
      exact absurd hg.lt (by omega)
    | succ n ih =>
      intro c i' bf sn rd G1 h1 h2 h3 hg hs hu9
      have hgr := hg.cel
      have htk := hg.tok hg.lt
      refine cx_iload hE d_Gr_operand_9 rfl ?_
      refine cx_ldc (v := 1000000) hE d_Gr_operand_11 (in_5 (List.mem_of_getElem? (i := 16) rfl)) ?_
      refine cx_icmp_ge (tgt := 71)  hE d_Gr_operand_13 (by decide) (fun c_13 => ?_) (fun c_13 => ?_)
      · exact absurd c_13 (nI_ge (a := c) (b := 1000000) (by have := hg.lt; omega) (by omega))
        -- end
      · refine cx_aload_n (i := 0) hE d_Gr_operand_16 rfl rfl ?_
        refine cx_get hE d_Gr_operand_17 f_Gr_15 (by assumption) (by rfl) ?_
        refine cx_get hE d_Gr_operand_20 f_Gr_31 (by assumption) (by rfl) ?_
        refine cx_invS1 hE d_Gr_operand_23 l_Gr_227 (c_Gr_isUnary (tx_ki (tx_tks L) i')) rfl (by omega) (Nat.le_of_ble_eq_true rfl) n_Gr_isUnary (by first | rfl | (simp only [List.map_cons, List.map_nil, cx_rfc]; rfl)) ?_
        refine cx_if_eq (tgt := 71)  hE d_Gr_operand_26 (by decide) (fun c_26 => ?_) (fun c_26 => ?_)
        · have q_26 := cx_b0.mp c_26
          refine cx_sub [1, 2, 3, 4] rfl ?_
          exact htail i' bf sn rd _ (by omega) hg hs (by rw [hu9]; exact tx_una_e q_26)
        · have q_26 := cx_bn.mp c_26
          refine cx_aload_n (i := 0) hE d_Gr_operand_29 rfl rfl ?_
          refine cx_get hE d_Gr_operand_30 f_Gr_15 (by assumption) (by rfl) ?_
          refine cx_get hE d_Gr_operand_33 f_Gr_31 (by assumption) (by rfl) ?_
          refine cx_invS1 hE d_Gr_operand_36 l_Gr_231 (c_Gr_isReducing (tx_ki (tx_tks L) i')) rfl (by omega) (Nat.le_of_ble_eq_true rfl) n_Gr_isReducing (by first | rfl | (simp only [List.map_cons, List.map_nil, cx_rfc]; rfl)) ?_
          refine cx_if_eq (tgt := 50)  hE d_Gr_operand_39 (by decide) (fun c_39 => ?_) (fun c_39 => ?_)
          · have q_39 := cx_b0.mp c_39
            refine cx_iinc hE d_Gr_operand_50 rfl rfl (by decide) ?_
            refine cx_aload_n (i := 0) hE d_Gr_operand_53 rfl rfl ?_
            refine cx_aload_n (i := 0) hE d_Gr_operand_54 rfl rfl ?_
            refine cx_get hE d_Gr_operand_55 f_Gr_15 (by assumption) (by rfl) ?_
            refine cx_get hE d_Gr_operand_58 f_Gr_31 (by assumption) (by rfl) ?_
            refine cx_tak (kd := tx_ki (tx_tks L) i') hE d_Gr_operand_61 rfl rfl hfl hb hT rfl hg hs (tx_take_id (T := tx_tks L) (i := i') (s := s) R0) (tx_isU_pk q_26) (by omega) (Nat.le_of_ble_eq_true rfl) (fun G1 hk61 hg hs _ => ?_)
            refine cx_pop hE d_Gr_operand_64 ?_
            refine cx_iinc (v := nI (c + 1)) hE d_Gr_operand_65 rfl (nI_1 _) (by decide) ?_
            refine cx_goto (tgt := 9) hE d_Gr_operand_68 (by decide) ?_
            refine cx_sub [0, 2, 1, 3, 4] rfl ?_
            first
              | exact ih (c + 1) (i' + 1) (bf + sn) (0 + 1) true _ (by omega) (by omega) (by omega) hg hs (by rw [hu9]; exact tx_una_r q_26 q_39)
              | exact ih (c + 1) (i' + 1) bf (sn + 1) rd _ (by omega) (by omega) (by omega) hg hs (by rw [hu9]; exact tx_una_u q_26 q_39)
          · have q_39 := cx_bn.mp c_39
            refine cx_iload_n (i := 1) hE d_Gr_operand_42 rfl rfl ?_
            refine cx_iload_n (i := 2) hE d_Gr_operand_43 rfl rfl ?_
            refine cx_iadd hE d_Gr_operand_44 ?_
            refine cx_istore_n (i := 1) hE d_Gr_operand_45 rfl (by decide) ?_
            refine cx_iconst (v := 0) hE d_Gr_operand_46 (by decide) ?_
            refine cx_istore_n (i := 2) hE d_Gr_operand_47 rfl (by decide) ?_
            refine cx_iconst (v := 1) hE d_Gr_operand_48 (by decide) ?_
            refine cx_istore_n (i := 3) hE d_Gr_operand_49 rfl (by decide) ?_
            refine cx_iinc hE d_Gr_operand_50 rfl rfl (by decide) ?_
            refine cx_aload_n (i := 0) hE d_Gr_operand_53 rfl rfl ?_
            refine cx_aload_n (i := 0) hE d_Gr_operand_54 rfl rfl ?_
            refine cx_get hE d_Gr_operand_55 f_Gr_15 (by assumption) (by rfl) ?_
            refine cx_get hE d_Gr_operand_58 f_Gr_31 (by assumption) (by rfl) ?_
            refine cx_tak (kd := tx_ki (tx_tks L) i') hE d_Gr_operand_61 rfl rfl hfl hb hT rfl hg hs (tx_take_id (T := tx_tks L) (i := i') (s := s) R0) (tx_isU_pk q_26) (by omega) (Nat.le_of_ble_eq_true rfl) (fun G1 hk61 hg hs _ => ?_)
            refine cx_pop hE d_Gr_operand_64 ?_
            refine cx_iinc (v := nI (c + 1)) hE d_Gr_operand_65 rfl (nI_1 _) (by decide) ?_
            refine cx_goto (tgt := 9) hE d_Gr_operand_68 (by decide) ?_
            refine cx_sub [0, 2, 1, 3, 4] rfl ?_
            first
              | exact ih (c + 1) (i' + 1) (bf + sn) (0 + 1) true _ (by omega) (by omega) (by omega) hg hs (by rw [hu9]; exact tx_una_r q_26 q_39)
              | exact ih (c + 1) (i' + 1) bf (sn + 1) rd _ (by omega) (by omega) (by omega) hg hs (by rw [hu9]; exact tx_una_u q_26 q_39)
  refine cx_iconst (v := 0) hE d_Gr_operand_0 (by decide) ?_
  refine cx_istore_n (i := 1) hE d_Gr_operand_1 rfl (by decide) ?_
  refine cx_iconst (v := 0) hE d_Gr_operand_2 (by decide) ?_
  refine cx_istore_n (i := 2) hE d_Gr_operand_3 rfl (by decide) ?_
  refine cx_iconst (v := 0) hE d_Gr_operand_4 (by decide) ?_
  refine cx_istore_n (i := 3) hE d_Gr_operand_5 rfl (by decide) ?_
  refine cx_iconst (v := 0) hE d_Gr_operand_6 (by decide) ?_
  refine cx_istore hE d_Gr_operand_7 (by decide) ?_
  refine cx_sub [0, 1, 2, 3, 4] rfl ?_
  exact hloop L.length 0 i 0 0 false G (by omega) (by omega) (Nat.le_refl _) hg hs (by rw [tx_tks_len])

/-! GRAMMAR: operators, an exp. -/
set_option maxRecDepth 100000 in
theorem c_Pe_init {k : cx_K} {l : Launch} {G : cx_G} {a t : Nat} {w : Int32} {r : Option Nat} (hG : G.1 a = some (.inr (5, [.null, .int 0, .null]))) : cx_Sp k l m_Pe_init 1 [.ref a, .ref t, .int w, va_rf r] G (cx_rd none (cx_put G a (.inr (5, [.ref t, .int w, va_rf r])))) := by
  intro E hE
  refine cx_aload_n (i := 0) hE d_Pe_init_0 rfl rfl ?_
  refine cx_objI hE d_Pe_init_1 (in_5 (List.mem_of_getElem? (i := 95) rfl)) (in_1 (List.mem_of_getElem? (i := 43) rfl)) (in_1 (List.mem_of_getElem? (i := 44) rfl)) (by omega) (Nat.le_of_ble_eq_true rfl) ?_
  refine cx_aload_n (i := 0) hE d_Pe_init_4 rfl rfl ?_
  refine cx_aload_n (i := 1) hE d_Pe_init_5 rfl rfl ?_
  refine cx_putFg hE d_Pe_init_6 ff_Pe_7 rfl (by assumption) (Nat.le_of_ble_eq_true rfl) (by first | rfl | exact cx_nr _ _) (by first | rfl | exact cx_fr _ _) (fun G_6 g_6 h_6 => ?_)
  refine cx_aload_n (i := 0) hE d_Pe_init_9 rfl rfl ?_
  refine cx_iload_n (i := 2) hE d_Pe_init_10 rfl rfl ?_
  refine cx_putFg hE d_Pe_init_11 ff_Pe_13 rfl (by assumption) (Nat.le_of_ble_eq_true rfl) (by first | rfl | exact cx_nr _ _) (by first | rfl | exact cx_fr _ _) (fun G_11 g_11 h_11 => ?_)
  refine cx_aload_n (i := 0) hE d_Pe_init_14 rfl rfl ?_
  refine cx_aload_n (i := 3) hE d_Pe_init_15 rfl rfl ?_
  refine cx_putFg hE d_Pe_init_16 ff_Pe_17 rfl (by assumption) (Nat.le_of_ble_eq_true rfl) (by first | rfl | exact cx_nr _ _) (by first | rfl | exact cx_fr _ _) (fun G_16 g_16 h_16 => ?_)
  refine cx_vret hE d_Pe_init_19 rfl ?_
  refine ⟨rfl, ?_⟩
  subst g_16 g_11 g_6
  simp only [cx_pp]
  rfl
set_option maxRecDepth 100000 in
theorem c_Gr_init {k : cx_K} {l : Launch} {G : cx_G} {a t me ve : Nat} (hG : G.1 a = some (.inr (1, [.null, .null, .null, .int 0]))) : cx_Sp k l m_Gr_init 1 [.ref a, .ref t, .ref me, .ref ve] G (cx_rd none (cx_put G a (.inr (1, [.ref me, .ref ve, .ref t, .int 0])))) := by
  intro E hE
  refine cx_aload_n (i := 0) hE d_Gr_init_0 rfl rfl ?_
  refine cx_objI hE d_Gr_init_1 (in_4 (List.mem_of_getElem? (i := 50) rfl)) (in_1 (List.mem_of_getElem? (i := 43) rfl)) (in_1 (List.mem_of_getElem? (i := 44) rfl)) (by omega) (Nat.le_of_ble_eq_true rfl) ?_
  refine cx_aload_n (i := 0) hE d_Gr_init_4 rfl rfl ?_
  refine cx_iconst (v := 0) hE d_Gr_init_5 (by decide) ?_
  refine cx_putg hE d_Gr_init_6 f_Gr_9 (by assumption) (Nat.le_of_ble_eq_true rfl) (by first | rfl | exact cx_nr _ _) (by first | rfl | exact cx_fr _ _) (fun G_6 g_6 h_6 => ?_)
  refine cx_aload_n (i := 0) hE d_Gr_init_9 rfl rfl ?_
  refine cx_aload_n (i := 1) hE d_Gr_init_10 rfl rfl ?_
  refine cx_putg hE d_Gr_init_11 f_Gr_15 (by assumption) (Nat.le_of_ble_eq_true rfl) (by first | rfl | exact cx_nr _ _) (by first | rfl | exact cx_fr _ _) (fun G_11 g_11 h_11 => ?_)
  refine cx_aload_n (i := 0) hE d_Gr_init_14 rfl rfl ?_
  refine cx_aload_n (i := 2) hE d_Gr_init_15 rfl rfl ?_
  refine cx_putFg hE d_Gr_init_16 ff_Gr_19 rfl (by assumption) (Nat.le_of_ble_eq_true rfl) (by first | rfl | exact cx_nr _ _) (by first | rfl | exact cx_fr _ _) (fun G_16 g_16 h_16 => ?_)
  refine cx_aload_n (i := 0) hE d_Gr_init_19 rfl rfl ?_
  refine cx_aload_n (i := 3) hE d_Gr_init_20 rfl rfl ?_
  refine cx_putFg hE d_Gr_init_21 ff_Gr_23 rfl (by assumption) (Nat.le_of_ble_eq_true rfl) (by first | rfl | exact cx_nr _ _) (by first | rfl | exact cx_fr _ _) (fun G_21 g_21 h_21 => ?_)
  refine cx_vret hE d_Gr_init_24 rfl ?_
  refine ⟨rfl, ?_⟩
  subst g_21 g_16 g_11 g_6
  simp only [cx_pp]
  rfl
set_option maxRecDepth 100000 in
theorem c_Gr_expression {k : cx_K} {l : Launch} {G : cx_G} {F : Nat → Prop} {L : tx_Ls} {gr : Nat} {b : Nat × Nat} {A : tx_A} {i f n0 : Nat} {s : tx_S} (hfl : l.flags = flags0) (hb : tx_gb L b) (hn0 : (tx_shp s).2 = some n0) (hg : tx_g k F L gr b G A i f s) {m : Nat} (hx : tx_PE k l F L gr b m) (hfm : f ≤ m) {R0 : tx_R Int32} (hR : R0 = tx_ex1 (tx_tks L) (tx_exf (tx_tks L) m) f i s) : cx_Sp k l m_Gr_expression (4 * m + 24) [.ref gr] G (tx_gp k F L gr b G A f (fun w => some (.int w)) s R0) := by
  intro E hE
  have hs := tx_gs.rf F gr G
  have hp : tx_shp s = tx_shp s := rfl
  have hT : ∀ e x G', R0 = .inl e → tx_gt F L gr b G A.ve e x G' → tx_gp k F L gr b G A f (fun w => some (.int w)) s R0 (.inr x) G' := fun e x G' h1 h2 => Or.inr ⟨e, x, h1, rfl, h2⟩
  have hbl := hb.2.2.1
  have hle := hg.le
  have hgr := hg.cel
  have htk := hg.tok hg.lt
  unfold tx_ex1 at hR
  have hend : ∀ (w : Int32) (i' : Nat) (s' : tx_S) (G1 : cx_G), tx_g k F L gr b G1 A i' f s' → tx_gs F gr G G1 → tx_shp s' = tx_shp s → R0 = (if tx_ki (tx_tks L) i' = 63 then tx_cnd (tx_tks L) (tx_exf (tx_tks L) m) f w i' s' else .inr (w, i', s')) → cx_V E 111 [(2, false, .int w), (0, false, .ref gr)] [] G1 := by
    intro w i' s' G1 hg hs hp hR
    have hgr := hg.cel
    have htk := hg.tok hg.lt
    refine cx_aload_n (i := 0) hE d_Gr_expression_111 rfl rfl ?_
    refine cx_get hE d_Gr_expression_112 f_Gr_15 (by assumption) (by rfl) ?_
    refine cx_get hE d_Gr_expression_115 f_Gr_31 (by assumption) (by rfl) ?_
    refine cx_bipush (v := 63) hE d_Gr_expression_118 (by decide) ?_
    refine cx_icmp_ne (tgt := 131)  hE d_Gr_expression_120 (by decide) (fun c_120 => ?_) (fun c_120 => ?_)
    · rw [if_neg c_120] at hR
      try simp only [tx_R.and_as, tx_op_and, tx_R.and_r] at hR
      refine cx_iload_n (i := 2) hE d_Gr_expression_131 rfl rfl ?_
      refine cx_iret hE d_Gr_expression_132 rfl rfl ?_
      exact Or.inl ⟨_, _, _, hR, rfl, hg, hs, hp⟩
    · rw [if_pos c_120] at hR
      try simp only [tx_R.and_as, tx_op_and, tx_R.and_r] at hR
      refine cx_aload_n (i := 0) hE d_Gr_expression_123 rfl rfl ?_
      refine cx_iload_n (i := 2) hE d_Gr_expression_124 rfl rfl ?_
      refine cx_gsubI hE d_Gr_expression_125 rfl rfl l_Gr_221 hT rfl hg hs hp (hR.trans (tx_R.and_id _)) (c_Gr_conditional hfl hb (by rw [hp]; exact hn0) hg hx (by omega) rfl) rfl (by omega) (Nat.le_of_ble_eq_true rfl) n_Gr_conditional (by rfl) (fun w_125 i_125 s_125 G1 hr_125 hg hs hp hR hl => ?_)
      have hgr := hg.cel
      have htk := hg.tok hg.lt
      refine cx_goto (tgt := 132) hE d_Gr_expression_128 (by decide) ?_
      refine cx_iret hE d_Gr_expression_132 rfl rfl ?_
      exact Or.inl ⟨_, _, _, hR, rfl, hg, hs, hp⟩
  have hloop : ∀ (n c : Nat) (W : tx_Wt) (o : Option Nat) (w : Int32) (i' : Nat) (s' : tx_S) (G1 : cx_G), L.length ≤ i' + n → c ≤ i' → tx_pd L G1 W o → tx_g k F L gr b G1 A i' f s' → tx_gs F gr G G1 → tx_shp s' = tx_shp s → R0 = (tx_lop (tx_tks L) (tx_exf (tx_tks L) m) f n W w i' s').and (fun w i s => if tx_ki (tx_tks L) i = 63 then tx_cnd (tx_tks L) (tx_exf (tx_tks L) m) f w i s else .inr (w, i, s)) → cx_V E 9 [(3, false, .int (nI c)), (2, false, .int w), (1, false, va_rf o), (0, false, .ref gr)] [] G1 := by
    intro n
    induction n with
    | zero =>
      intro c W o w i' s' G1 h1 h2 hpd hg hs hp hR
      exact absurd hg.lt (by omega)
    | succ n ih =>
      intro c W o w i' s' G1 h1 h2 hpd hg hs hp hR
      unfold tx_lop at hR
      have h71 : ∀ (W' : tx_Wt) (o' : Option Nat) (w' : Int32) (s9 : tx_S) (G2 : cx_G), tx_pd L G2 W' o' → tx_g k F L gr b G2 A i' f s9 → tx_gs F gr G G2 → tx_shp s9 = tx_shp s → tx_red (tx_rank (tx_ki (tx_tks L) i')) W w s' = (W', w', s9) → cx_V E 71 [(4, false, .int (tx_rank (tx_ki (tx_tks L) i'))), (3, false, .int (nI c)), (2, false, .int w'), (1, false, va_rf o'), (0, false, .ref gr)] [] G2 := by
        intro W' o' w' s9 G2 hpd hg hs hp hred
        rw [hred] at hR
        simp only [] at hR
        have hgr := hg.cel
        have htk := hg.tok hg.lt
        have hro := hg.room
        have hil := hg.lt
        obtain ⟨hb1, hb2, hb3, hb4⟩ := id hb
        refine cx_iload hE d_Gr_expression_71 rfl ?_
        refine cx_if_ne (tgt := 79)  hE d_Gr_expression_73 (by decide) (fun c_73 => ?_) (fun c_73 => ?_)
        · rw [if_neg c_73] at hR
          try simp only [tx_R.and_as, tx_op_and, tx_R.and_r] at hR
          refine cx_newh 3 rfl hE d_Gr_expression_79 z_Gr_204 (by omega) (by omega) (fun a_79 G_79 n_79 b_79 g_79 h_79 => ?_)
          have hgr79 := cx_mn g_79 n_79 hgr
          have htk79 := cx_mn g_79 n_79 htk
          refine cx_dup hE d_Gr_expression_82 ?_
          refine cx_aload_n (i := 0) hE d_Gr_expression_83 rfl rfl ?_
          refine cx_aload_n (i := 0) hE d_Gr_expression_84 rfl rfl ?_
          refine cx_get hE d_Gr_expression_85 f_Gr_15 (by assumption) (by rfl) ?_
          refine cx_get hE d_Gr_expression_88 f_Gr_31 (by assumption) (by rfl) ?_
          refine cx_taN (kd := tx_ki (tx_tks L) i') (a := a_79) hE d_Gr_expression_91 rfl rfl hfl hb hT rfl hg hs n_79 g_79 hR (tx_rank_pk c_73) (by omega) (Nat.le_of_ble_eq_true rfl) (fun G3 hk91 hg3 ha3 hks hR => ?_)
          refine cx_iload_n (i := 2) hE d_Gr_expression_94 rfl rfl ?_
          refine cx_aload_n (i := 1) hE d_Gr_expression_95 rfl rfl ?_
          refine cx_invI0 hE d_Gr_expression_96 l_Gr_218 (c_Pe_init ha3) rfl (by omega) (Nat.le_of_ble_eq_true rfl) n_Pe_init (by first | rfl | (simp only [List.map_cons, List.map_nil, cx_rfc]; rfl)) ?_
          refine cx_gen (fun G4 g4 => ?_)
          have hnea : ∀ c e, G2.1 c = some e → c ≠ a_79 := fun c e hc z => by rw [z, n_79] at hc; cases hc
          have hs : tx_gs F gr G G4 := fun c e hX hn hc => cx_pn g4 (hks c e (hs c e hX hn hc) hn) (hnea c e (hs c e hX hn hc))
          have hpd : tx_pd L G4 ((tx_ta (tx_tks L) i', w') :: W') (some a_79) := ⟨a_79, i', o', rfl, hg.lt, rfl, cx_ps g4, tx_pd.kp (fun c fs hc => cx_pn g4 (hks c _ hc (cx_neO hgr hc (by decide))) (hnea c _ hc)) W' o' hpd⟩
          have hg := hg3.wr ha3 g4
          have hgr := hg.cel
          have htk := hg.tok hg.lt
          refine cx_astore_n (i := 1) hE d_Gr_expression_99 rfl (by decide) ?_
          refine cx_aload_n (i := 0) hE d_Gr_expression_100 rfl rfl ?_
          have hgr0 := hgr
          refine cx_gsubI hE d_Gr_expression_101 rfl rfl l_Gr_196 hT rfl hg hs hp hR (c_Gr_operand hfl hb (by rw [hp]; exact hn0) hg hx (by omega) rfl) rfl (by omega) (Nat.le_of_ble_eq_true rfl) n_Gr_operand (by rfl) (fun w_101 i_101 s_101 G1 hr_101 hg hs hp hR hl => ?_)
          have hgr := hg.cel
          have htk := hg.tok hg.lt
          have hup_101 := tx_up.opr (tx_up.exf m) _ _ _ hr_101
          have hpd := hpd.gs hl hgr0
          refine cx_istore_n (i := 2) hE d_Gr_expression_104 rfl (by decide) ?_
          refine cx_iinc (v := nI (c + 1)) hE d_Gr_expression_105 rfl (nI_1 _) (by decide) ?_
          refine cx_goto (tgt := 9) hE d_Gr_expression_108 (by decide) ?_
          refine cx_sub [0, 1, 2, 4] rfl ?_
          exact ih (c + 1) _ _ _ _ _ _ (by omega) (by omega) hpd hg hs hp hR
        · rw [if_pos c_73] at hR
          try simp only [tx_R.and_as, tx_op_and, tx_R.and_r] at hR
          refine cx_goto (tgt := 111) hE d_Gr_expression_76 (by decide) ?_
          refine cx_sub [2, 4] rfl ?_
          exact hend _ _ _ _ hg hs hp hR
      have hin : ∀ (W' : tx_Wt) (o' : Option Nat) (w' : Int32) (s9 : tx_S) (G2 : cx_G), tx_pd L G2 W' o' → tx_g k F L gr b G2 A i' f s9 → tx_gs F gr G G2 → tx_shp s9 = tx_shp s → tx_red (tx_rank (tx_ki (tx_tks L) i')) W' w' s9 = tx_red (tx_rank (tx_ki (tx_tks L) i')) W w s' → cx_V E 27 [(4, false, .int (tx_rank (tx_ki (tx_tks L) i'))), (3, false, .int (nI c)), (2, false, .int w'), (1, false, va_rf o'), (0, false, .ref gr)] [] G2 := by
        intro W'
        induction W' with
        | nil =>
          intro o' w' s9 G2 hpd hg hs hp hred
          have hpd9 : o' = none := hpd
          subst hpd9
          refine cx_aload_n (i := 1) hE d_Gr_expression_27 rfl rfl ?_
          refine cx_ifnull (tgt := 71) (r := none) hE d_Gr_expression_28 (by decide) (fun c_28 => ?_) (fun a_28 c_28 => ?_)
          · refine cx_sub [0, 1, 2, 3, 4] rfl ?_
            exact h71 [] none w' s9 G2 rfl hg hs hp hred.symm
          · cases c_28
            -- end
        | cons x W' ihW =>
          intro o' w' s9 G2 hpd hg hs hp hred
          obtain ⟨a, j, nx, rfl, hj, hxt, hpc, hpd⟩ := hpd
          have hgr := hg.cel
          have htk := hg.tok hg.lt
          have htj := hg.tok hj
          refine cx_aload_n (i := 1) hE d_Gr_expression_27 rfl rfl ?_
          refine cx_ifnull (tgt := 71) (r := some a) hE d_Gr_expression_28 (by decide) (fun c_28 => ?_) (fun a_28 c_28 => ?_)
          · cases c_28
            -- end
          · refine cx_aload_n (i := 1) hE d_Gr_expression_31 rfl rfl ?_
            refine cx_get hE d_Gr_expression_32 f_Gr_203 (by assumption) (by rfl) ?_
            refine cx_get hE d_Gr_expression_35 f_Gr_31 (by assumption) (by rfl) ?_
            refine cx_invS1 hE d_Gr_expression_38 l_Gr_199 (c_Gr_rankOf (tx_ki (tx_tks L) j)) rfl (by omega) (Nat.le_of_ble_eq_true rfl) n_Gr_rankOf (by first | rfl | (simp only [List.map_cons, List.map_nil, cx_rfc]; rfl)) ?_
            refine cx_iload hE d_Gr_expression_41 rfl ?_
            refine cx_icmp_lt (tgt := 71)  hE d_Gr_expression_43 (by decide) (fun c_43 => ?_) (fun c_43 => ?_)
            · have q_43 : ¬ (tx_rank (tx_ki (tx_tks L) i')) ≤ tx_rank x.1.1 := by rw [hxt]; exact Int32.not_le.mpr c_43
              refine cx_sub [0, 1, 2, 3, 4] rfl ?_
              exact h71 (x :: W') (some a) w' s9 G2 ⟨a, j, nx, rfl, hj, hxt, hpc, hpd⟩ hg hs hp (by rw [← hred]; show (if _ then _ else _) = _; rw [if_neg q_43])
            · have q_43 : (tx_rank (tx_ki (tx_tks L) i')) ≤ tx_rank x.1.1 := by rw [hxt]; exact Int32.not_lt.mp c_43
              refine cx_aload_n (i := 0) hE d_Gr_expression_46 rfl rfl ?_
              refine cx_get hE d_Gr_expression_47 f_Gr_19 (by assumption) (by rfl) ?_
              refine cx_aload_n (i := 1) hE d_Gr_expression_50 rfl rfl ?_
              refine cx_get hE d_Gr_expression_51 f_Gr_203 (by assumption) (by rfl) ?_
              refine cx_aload_n (i := 1) hE d_Gr_expression_54 rfl rfl ?_
              refine cx_get hE d_Gr_expression_55 f_Gr_208 (by assumption) (by rfl) ?_
              refine cx_iload_n (i := 2) hE d_Gr_expression_58 rfl rfl ?_
              have hgr0 := hgr
              obtain ⟨u, hu, hul⟩ := tx_shp.cur (by rw [hp]; exact hn0)
              obtain ⟨x9, hme, -⟩ := hg.1.2.1
              refine cx_gmq1 hE d_Gr_expression_59 rfl l_Gr_211 hme hg hs hp (c_Me_binary (x := x.2) (y := w') hu (hg.tw hj) hg.1) (tx_shp.bin ..) rfl (by omega) (Nat.le_of_ble_eq_true rfl) n_Me_binary (by first | rfl | (simp only [List.map_cons, List.map_nil, cx_rfc]; rfl)) (fun G1 hg hs hp hl => ?_)
              have hgr := hg.cel
              have htk := hg.tok hg.lt
              have hpc := hl _ _ (Or.inr (fun z => by rcases z with z | z | z | z | z | z <;> exact absurd z (by decide))) (cx_neO hgr0 hpc (by decide)) hpc
              have hpd := hpd.gs hl hgr0
              refine cx_istore_n (i := 2) hE d_Gr_expression_62 rfl (by decide) ?_
              refine cx_aload_n (i := 1) hE d_Gr_expression_63 rfl rfl ?_
              refine cx_get hE d_Gr_expression_64 f_Gr_214 (by assumption) (by rfl) ?_
              refine cx_astore_n (i := 1) hE d_Gr_expression_67 rfl (by decide) ?_
              refine cx_goto (tgt := 27) hE d_Gr_expression_68 (by decide) ?_
              refine cx_sub [2, 3, 1, 0, 4] rfl ?_
              exact ihW nx _ _ _ hpd hg hs hp (by rw [← hred]; show _ = (if _ then _ else _); rw [if_pos q_43, hxt])
      have hgr := hg.cel
      have htk := hg.tok hg.lt
      refine cx_iload_n (i := 3) hE d_Gr_expression_9 rfl rfl ?_
      refine cx_ldc (v := 1000000) hE d_Gr_expression_10 (in_5 (List.mem_of_getElem? (i := 16) rfl)) ?_
      refine cx_icmp_ge (tgt := 111)  hE d_Gr_expression_12 (by decide) (fun c_12 => ?_) (fun c_12 => ?_)
      · exact absurd c_12 (nI_ge (a := c) (b := 1000000) (by have := hg.lt; omega) (by omega))
        -- end
      · refine cx_aload_n (i := 0) hE d_Gr_expression_15 rfl rfl ?_
        refine cx_get hE d_Gr_expression_16 f_Gr_15 (by assumption) (by rfl) ?_
        refine cx_get hE d_Gr_expression_19 f_Gr_31 (by assumption) (by rfl) ?_
        refine cx_invS1 hE d_Gr_expression_22 l_Gr_199 (c_Gr_rankOf (tx_ki (tx_tks L) i')) rfl (by omega) (Nat.le_of_ble_eq_true rfl) n_Gr_rankOf (by first | rfl | (simp only [List.map_cons, List.map_nil, cx_rfc]; rfl)) ?_
        refine cx_istore hE d_Gr_expression_25 (by decide) ?_
        refine cx_sub [0, 1, 2, 3, 4] rfl ?_
        exact hin W o w s' G1 hpd hg hs hp rfl
  refine cx_null hE d_Gr_expression_0 ?_
  refine cx_astore_n (i := 1) hE d_Gr_expression_1 rfl (by decide) ?_
  refine cx_aload_n (i := 0) hE d_Gr_expression_2 rfl rfl ?_
  refine cx_gsubI hE d_Gr_expression_3 rfl rfl l_Gr_196 hT rfl hg hs hp hR (c_Gr_operand hfl hb (by rw [hp]; exact hn0) hg hx (by omega) rfl) rfl (by omega) (Nat.le_of_ble_eq_true rfl) n_Gr_operand (by rfl) (fun w_3 i_3 s_3 G1 hr_3 hg hs hp hR hl => ?_)
  have hgr := hg.cel
  have htk := hg.tok hg.lt
  have hup_3 := tx_up.opr (tx_up.exf m) _ _ _ hr_3
  refine cx_istore_n (i := 2) hE d_Gr_expression_6 rfl (by decide) ?_
  refine cx_iconst (v := 0) hE d_Gr_expression_7 (by decide) ?_
  refine cx_istore_n (i := 3) hE d_Gr_expression_8 rfl (by decide) ?_
  refine cx_sub [0, 1, 2, 3] rfl ?_
  exact hloop L.length 0 [] none _ _ _ _ (by omega) (by omega) rfl hg hs hp (by rw [tx_tks_len] at hR; exact hR)
theorem tx_PE.all {k : cx_K} {l : Launch} {F : Nat → Prop} {L : tx_Ls} {gr : Nat} {b : Nat × Nat} (hfl : l.flags = flags0) (hb : tx_gb L b) : ∀ m, tx_PE k l F L gr b m := by
  intro m
  induction m with
  | zero => exact fun f G A i s n0 hf => absurd hf (Nat.not_lt_zero _)
  | succ m ih => exact fun f G A i s n0 hf hg hn0 => c_Gr_expression hfl hb hn0 hg ih (by omega) rfl
/-- an exp -/
theorem c_Gr_exp {k : cx_K} {l : Launch} {G : cx_G} {F : Nat → Prop} {L : tx_Ls} {gr : Nat} {b : Nat × Nat} {A : tx_A} {i f n0 : Nat} {s : tx_S} (hfl : l.flags = flags0) (hb : tx_gb L b) (hn0 : (tx_shp s).2 = some n0) (hg : tx_g k F L gr b G A i f s) : cx_Sp k l m_Gr_expression 264 [.ref gr] G (tx_gp k F L gr b G A f (fun w => some (.int w)) s (tx_exp (tx_tks L) f i s)) := tx_PE.all hfl hb 61 f G A i s n0 (by have := hg.le; omega) hg hn0

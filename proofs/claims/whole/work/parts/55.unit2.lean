/-! GRAMMAR: an instanc, a module, the whole text. -/
theorem tx_mo_lt {s : tx_S} (hI : tx_mI s) {x : tx_X} {j : Nat} (h : s.mo x = some j) : j < s.2.1.length := by
  unfold tx_S.mo at h
  cases x with
  | none => cases h
  | some T => exact hI.1 T j h
theorem tx_shp.none {s : tx_S} {p1 : List Nat} (h : tx_shp s = (p1, Option.none)) : s.2.2.1 = Option.none := by
  have h9 : s.2.2.1.map (fun u => u.2.2.1.length) = Option.none := congrArg Prod.snd h
  cases hc : s.2.2.1 with
  | none => rfl
  | some u => rw [hc] at h9; cases h9
set_option maxRecDepth 100000 in
theorem c_Gr_instance {k : cx_K} {l : Launch} {G : cx_G} {F : Nat → Prop} {L : tx_Ls} {gr : Nat} {b : Nat × Nat} {A : tx_A} {i f n0 : Nat} {p1 : List Nat} {s : tx_S} (hfl : l.flags = flags0) (hb : tx_gb L b) (hp : tx_shp s = (p1, some n0)) (hg : tx_g k F L gr b G A i f s) {R0 : tx_R Unit} (hR : R0 = tx_ins (tx_tks L) f i s) : cx_Sp k l m_Gr_instance 302 [.ref gr] G (tx_gd k F L gr b G A.mw A.ve f (fun _ => none) (fun p => ∃ n, p = (p1, some n)) R0) := by
  intro E hE
  have hs := tx_gs.rf F gr G
  obtain ⟨me, hme⟩ : ∃ me, A.mw = me := ⟨_, rfl⟩
  obtain ⟨ve, hve⟩ : ∃ ve, A.ve = ve := ⟨_, rfl⟩
  rw [hme, hve] at hE
  have hT : ∀ e x G', R0 = .inl e → tx_gt F L gr b G ve e x G' → tx_gd k F L gr b G me ve f (fun _ => none) (fun p => ∃ n, p = (p1, some n)) R0 (.inr x) G' := fun e x G' h1 h2 => Or.inr ⟨e, x, h1, rfl, h2⟩
  have hbl := hb.2.2.1
  have hle := hg.le
  have hgr := hg.cel
  have htk := hg.tok hg.lt
  have hn0 : ((p1, some n0) : List Nat × Option Nat).2 = some n0 := rfl
  have hI0 := hg.1.2.2.2.2.2.2.2.2.1
  unfold tx_ins at hR
  refine cx_aload_n (i := 0) hE d_Gr_instance_0 rfl rfl ?_
  refine cx_get hE d_Gr_instance_1 f_Gr_19 (by assumption) (by rfl) ?_
  refine cx_aload_n (i := 0) hE d_Gr_instance_4 rfl rfl ?_
  refine cx_bipush (v := 19) hE d_Gr_instance_5 (by decide) ?_
  refine cx_tak (kd := 19) hE d_Gr_instance_7 rfl rfl hfl hb hT hve hg hs hR (by decide) (by omega) (Nat.le_of_ble_eq_true rfl) (fun G1 hk7 hg hs hR => ?_)
  have hgr := hg.cel
  have htk := hg.tok hg.lt
  obtain ⟨x9, hme9, -⟩ := hg.1.2.1
  refine cx_gmq1 hE d_Gr_instance_10 rfl l_Gr_151 hme9 hg hs hp (c_Me_instanced (hg.tw (j := i) (by have := hg.lt; omega)) hg.1) (tx_shp.ck ..) rfl (by omega) (Nat.le_of_ble_eq_true rfl) n_Me_instanced (by first | rfl | (simp only [List.map_cons, List.map_nil, cx_rfc]; rfl)) (fun G1 hg hs hp hl => ?_)
  have hgr := hg.cel
  have htk := hg.tok hg.lt
  refine cx_astore_n (i := 1) hE d_Gr_instance_13 rfl (by decide) ?_
  refine cx_aload_n (i := 0) hE d_Gr_instance_14 rfl rfl ?_
  refine cx_get hE d_Gr_instance_15 f_Gr_19 (by assumption) (by rfl) ?_
  refine cx_aload_n (i := 0) hE d_Gr_instance_18 rfl rfl ?_
  refine cx_bipush (v := 19) hE d_Gr_instance_19 (by decide) ?_
  refine cx_tac (kd := 19) hE d_Gr_instance_21 rfl rfl hfl hb hT hve hg hs hR (by decide) (by omega) (Nat.le_of_ble_eq_true rfl) (fun G1 hk21 hg hs hR hac => ?_)
  have hgr := hg.cel
  have htk := hg.tok hg.lt
  refine cx_aload_n (i := 1) hE d_Gr_instance_24 rfl rfl ?_
  obtain ⟨u, hu, hul⟩ := tx_shp.cur (by first | (rw [hp]; done) | (rw [hp]; exact hn0))
  have hro := hg.room
  have hil := hg.lt
  obtain ⟨hb1, hb2, hb3, hb4⟩ := id hb
  have hcap := (hg.1.2.2.2.2.1 _ u (tx_S.cur hu)).le
  rw [List.length_map, List.length_range] at hcap
  have hro4 := hro.2.2.2
  rw [hp] at hro4
  have hro5 : n0 ≤ _ := hro4
  have huq : (tx_ck (s.mo (tx_ta (tx_tks L) i).2.2.2.1).isSome 22 (nI (tx_ta (tx_tks L) i).2.1) s).uu.2.2.1.length = n0 := by unfold tx_S.uu; rw [hu]; exact hul
  rw [huq] at hR
  have hdc := c_Me_declareInstance (l := l) (v := (s.mo (tx_ta (tx_tks L) i).2.2.2.1)) hu (hg.tw (j := i + 1) (by have := hg.lt; omega)) (fun j hj => by rw [tx_ck_all]; exact tx_mo_lt hI0 hj) hg.1 hg.2.1 (by omega) (by omega) (by omega)
  rw [hul] at hdc
  refine cx_gdq hE d_Gr_instance_25 rfl l_Gr_155 hme hve hg hs hac hp (tx_shp.din (by rw [hp]) _ _) hdc rfl (by omega) (Nat.le_of_ble_eq_true rfl) n_Me_declareInstance (by first | rfl | (simp only [List.map_cons, List.map_nil, cx_rfc]; rfl)) (fun A G1 hme hve hua hg hs hp => ?_)
  have hn0 : ((p1, some (n0 + 1)) : List Nat × Option Nat).2 = some (n0 + 1) := rfl
  have hgr := hg.cel
  have htk := hg.tok hg.lt
  refine cx_astore_n (i := 2) hE d_Gr_instance_28 rfl (by decide) ?_
  refine cx_aload_n (i := 0) hE d_Gr_instance_29 rfl rfl ?_
  refine cx_bipush (v := 40) hE d_Gr_instance_30 (by decide) ?_
  refine cx_opn (kd := 40) hE d_Gr_instance_32 rfl rfl hfl hb hT hve hg hs hR (by decide) (by omega) (Nat.le_of_ble_eq_true rfl) (fun f_32 G1 hf32 => ?_)
  subst hf32
  intro hk32 hg hs hR
  have hgr := hg.cel
  have htk := hg.tok hg.lt
  have hloop : ∀ (n c i' : Nat) (s' : tx_S) (G1 : cx_G), L.length ≤ i' + n → c ≤ i' → tx_g k F L gr b G1 A i' f_32 s' → tx_gs F gr G G1 → tx_shp s' = (p1, some (n0 + 1)) → R0 = (tx_lks' (tx_tks L) n0 f_32 n i' s').and (fun _ i s => (tx_tk (tx_tks L) 41 i s).and fun _ i s => (tx_tk (tx_tks L) 59 i s).and fun _ i s => .inr ((), i, tx_fini n0 s)) → cx_V E 55 [(3, false, .int (nI c)), (2, false, .ref (A.na p1.length n0)), (0, false, .ref gr)] [] G1 := by
    intro n
    induction n with
    | zero =>
      intro c i' s' G1 h1 h2 hg hs hp hR
      exact absurd hg.lt (by omega)
    | succ n ih =>
      intro c i' s' G1 h1 h2 hg hs hp hR
      unfold tx_lks' at hR
      have hgr := hg.cel
      have htk := hg.tok hg.lt
      refine cx_iload_n (i := 3) hE d_Gr_instance_55 rfl rfl ?_
      refine cx_ldc (v := 1000000) hE d_Gr_instance_56 (in_5 (List.mem_of_getElem? (i := 16) rfl)) ?_
      refine cx_icmp_ge (tgt := 91)  hE d_Gr_instance_58 (by decide) (fun c_58 => ?_) (fun c_58 => ?_)
      · exact absurd c_58 (nI_ge (a := c) (b := 1000000) (by have := hg.lt; omega) (by omega))
        -- end
      · refine cx_aload_n (i := 0) hE d_Gr_instance_61 rfl rfl ?_
        refine cx_get hE d_Gr_instance_62 f_Gr_15 (by assumption) (by rfl) ?_
        refine cx_get hE d_Gr_instance_65 f_Gr_31 (by assumption) (by rfl) ?_
        refine cx_bipush (v := 41) hE d_Gr_instance_68 (by decide) ?_
        refine cx_icmp_eq (tgt := 91)  hE d_Gr_instance_70 (by decide) (fun c_70 => ?_) (fun c_70 => ?_)
        · rw [if_pos c_70] at hR
          try simp only [tx_R.and_as, tx_op_and, tx_R.and_r] at hR
          refine cx_aload_n (i := 0) hE d_Gr_instance_91 rfl rfl ?_
          refine cx_bipush (v := 41) hE d_Gr_instance_92 (by decide) ?_
          refine cx_clo (kd := 41) hE d_Gr_instance_94 rfl rfl hfl hb hT hve hg hs hR (by decide) (by omega) (by omega) (Nat.le_of_ble_eq_true rfl) (fun G1 hk94 hg hs hR => ?_)
          have hgr := hg.cel
          have htk := hg.tok hg.lt
          refine cx_pop hE d_Gr_instance_97 ?_
          refine cx_aload_n (i := 0) hE d_Gr_instance_98 rfl rfl ?_
          refine cx_bipush (v := 59) hE d_Gr_instance_99 (by decide) ?_
          refine cx_tak (kd := 59) hE d_Gr_instance_101 rfl rfl hfl hb hT hve hg hs hR (by decide) (by omega) (Nat.le_of_ble_eq_true rfl) (fun G1 hk101 hg hs hR => ?_)
          have hgr := hg.cel
          have htk := hg.tok hg.lt
          refine cx_pop hE d_Gr_instance_104 ?_
          refine cx_aload_n (i := 0) hE d_Gr_instance_105 rfl rfl ?_
          refine cx_get hE d_Gr_instance_106 f_Gr_19 (by assumption) (by rfl) ?_
          refine cx_aload_n (i := 2) hE d_Gr_instance_109 rfl rfl ?_
          obtain ⟨u1, hu1, hul1⟩ := tx_shp.cur (by first | (rw [hp]; done) | (rw [hp]; exact hn0))
          obtain ⟨rr, hrr⟩ : ∃ r, u1.2.2.1[n0]? = some r := ⟨_, List.getElem?_eq_getElem (by omega)⟩
          have hfi := c_Me_finishInstance (l := l) hu1 hrr hg.1
          rw [tx_shp.l1 hp] at hfi
          obtain ⟨x9, hme9, -⟩ := hg.1.2.1
          refine cx_gmq0 hE d_Gr_instance_110 rfl l_Gr_163 hme9 hg hs hp hfi (tx_shp.fini ..) rfl (by omega) (Nat.le_of_ble_eq_true rfl) n_Me_finishInstance (by rfl) (fun G1 hg hs hp hl => ?_)
          refine cx_vret hE d_Gr_instance_113 rfl ?_
          exact Or.inl ⟨_, _, _, _, hR, rfl, hme, hve, hg, hs, ⟨_, hp⟩⟩
        · rw [if_neg c_70] at hR
          try simp only [tx_R.and_as, tx_op_and, tx_R.and_r] at hR
          refine cx_aload_n (i := 0) hE d_Gr_instance_73 rfl rfl ?_
          refine cx_bipush (v := 44) hE d_Gr_instance_74 (by decide) ?_
          refine cx_tak (kd := 44) hE d_Gr_instance_76 rfl rfl hfl hb hT hve hg hs hR (by decide) (by omega) (Nat.le_of_ble_eq_true rfl) (fun G1 hk76 hg hs hR => ?_)
          have hgr := hg.cel
          have htk := hg.tok hg.lt
          refine cx_pop hE d_Gr_instance_79 ?_
          refine cx_aload_n (i := 0) hE d_Gr_instance_80 rfl rfl ?_
          refine cx_aload_n (i := 2) hE d_Gr_instance_81 rfl rfl ?_
          have hlk := c_Gr_link (l := l) (q := n0) (n0 := n0 + 1) hfl hb (by rw [hp]) hg (by omega) rfl
          rw [tx_shp.l1 hp] at hlk
          refine cx_gsubU hE d_Gr_instance_82 rfl rfl l_Gr_159 hT hve hg hs hp hR (hlk) rfl (by omega) (Nat.le_of_ble_eq_true rfl) n_Gr_link (by rfl) (fun w_82 i_82 s_82 G1 hr_82 hg hs hp hR hl => ?_)
          have hgr := hg.cel
          have htk := hg.tok hg.lt
          have hup_82 := tx_up.lnk _ _ _ hr_82
          refine cx_iinc (v := nI (c + 1)) hE d_Gr_instance_85 rfl (nI_1 _) (by decide) ?_
          refine cx_goto (tgt := 55) hE d_Gr_instance_88 (by decide) ?_
          refine cx_sub [0, 1, 2] rfl ?_
          exact ih (c + 1) _ _ _ (by omega) (by omega) hg hs hp hR
  refine cx_pop hE d_Gr_instance_35 ?_
  refine cx_aload_n (i := 0) hE d_Gr_instance_36 rfl rfl ?_
  refine cx_get hE d_Gr_instance_37 f_Gr_15 (by assumption) (by rfl) ?_
  refine cx_get hE d_Gr_instance_40 f_Gr_31 (by assumption) (by rfl) ?_
  refine cx_bipush (v := 41) hE d_Gr_instance_43 (by decide) ?_
  refine cx_icmp_eq (tgt := 53)  hE d_Gr_instance_45 (by decide) (fun c_45 => ?_) (fun c_45 => ?_)
  · rw [if_pos c_45] at hR
    try simp only [tx_R.and_as, tx_op_and, tx_R.and_r] at hR
    refine cx_iconst (v := 0) hE d_Gr_instance_53 (by decide) ?_
    refine cx_istore_n (i := 3) hE d_Gr_instance_54 rfl (by decide) ?_
    refine cx_sub [0, 1, 3] rfl ?_
    exact hloop L.length 0 _ _ _ (by omega) (by omega) hg hs hp (by rw [tx_tks_len] at hR; exact hR)
  · rw [if_neg c_45] at hR
    try simp only [tx_R.and_as, tx_op_and, tx_R.and_r] at hR
    refine cx_aload_n (i := 0) hE d_Gr_instance_48 rfl rfl ?_
    refine cx_aload_n (i := 2) hE d_Gr_instance_49 rfl rfl ?_
    have hlk := c_Gr_link (l := l) (q := n0) (n0 := n0 + 1) hfl hb (by rw [hp]) hg (by omega) rfl
    rw [tx_shp.l1 hp] at hlk
    refine cx_gsubU hE d_Gr_instance_50 rfl rfl l_Gr_159 hT hve hg hs hp hR (hlk) rfl (by omega) (Nat.le_of_ble_eq_true rfl) n_Gr_link (by rfl) (fun w_50 i_50 s_50 G1 hr_50 hg hs hp hR hl => ?_)
    have hgr := hg.cel
    have htk := hg.tok hg.lt
    have hup_50 := tx_up.lnk _ _ _ hr_50
    refine cx_iconst (v := 0) hE d_Gr_instance_53 (by decide) ?_
    refine cx_istore_n (i := 3) hE d_Gr_instance_54 rfl (by decide) ?_
    refine cx_sub [0, 1, 3] rfl ?_
    exact hloop L.length 0 _ _ _ (by omega) (by omega) hg hs hp (by rw [tx_tks_len] at hR; exact hR)
set_option maxRecDepth 100000 in
theorem c_Gr_unitText {k : cx_K} {l : Launch} {G : cx_G} {F : Nat → Prop} {L : tx_Ls} {gr : Nat} {b : Nat × Nat} {A : tx_A} {i f : Nat} {p1 : List Nat} {s : tx_S} (hfl : l.flags = flags0) (hb : tx_gb L b) (hp : tx_shp s = (p1, none)) (hg : tx_g k F L gr b G A i f s) {R0 : tx_R Unit} (hR : R0 = tx_unt (tx_tks L) f i s) : cx_Sp k l m_Gr_unitText 560 [.ref gr] G (tx_gd k F L gr b G A.mw A.ve f (fun _ => none) (fun p => ∃ p9, p = (p9, none)) R0) := by
  intro E hE
  have hs := tx_gs.rf F gr G
  obtain ⟨me, hme⟩ : ∃ me, A.mw = me := ⟨_, rfl⟩
  obtain ⟨ve, hve⟩ : ∃ ve, A.ve = ve := ⟨_, rfl⟩
  rw [hme, hve] at hE
  have hT : ∀ e x G', R0 = .inl e → tx_gt F L gr b G ve e x G' → tx_gd k F L gr b G me ve f (fun _ => none) (fun p => ∃ p9, p = (p9, none)) R0 (.inr x) G' := fun e x G' h1 h2 => Or.inr ⟨e, x, h1, rfl, h2⟩
  have hbl := hb.2.2.1
  have hle := hg.le
  have hgr := hg.cel
  have htk := hg.tok hg.lt
  unfold tx_unt at hR
  refine cx_aload_n (i := 0) hE d_Gr_unitText_0 rfl rfl ?_
  refine cx_iconst (v := 1) hE d_Gr_unitText_1 (by decide) ?_
  refine cx_tak (kd := 1) hE d_Gr_unitText_2 rfl rfl hfl hb hT hve hg hs hR (by decide) (by omega) (Nat.le_of_ble_eq_true rfl) (fun G1 hk2 hg hs hR => ?_)
  have hgr := hg.cel
  have htk := hg.tok hg.lt
  refine cx_pop hE d_Gr_unitText_5 ?_
  refine cx_aload_n (i := 0) hE d_Gr_unitText_6 rfl rfl ?_
  refine cx_get hE d_Gr_unitText_7 f_Gr_19 (by assumption) (by rfl) ?_
  refine cx_aload_n (i := 0) hE d_Gr_unitText_10 rfl rfl ?_
  refine cx_bipush (v := 19) hE d_Gr_unitText_11 (by decide) ?_
  refine cx_tac (kd := 19) hE d_Gr_unitText_13 rfl rfl hfl hb hT hve hg hs hR (by decide) (by omega) (Nat.le_of_ble_eq_true rfl) (fun G1 hk13 hg hs hR hac => ?_)
  have hgr := hg.cel
  have htk := hg.tok hg.lt
  obtain ⟨x9, hme9, -⟩ := hg.1.2.1
  have hro := hg.room
  have hil := hg.lt
  obtain ⟨hb1, hb2, hb3, hb4⟩ := id hb
  have hro3 := hro.2.2.1
  rw [hp] at hro3
  have hro5 : p1.length ≤ _ := hro3
  have hbq := c_Me_beginUnit (l := l) (hg.tw (j := i + 1) (by have := hg.lt; omega)) hg.1 hg.2.1 (tx_shp.none hp) (by rw [tx_shp.l1 hp]; show p1.length < _; omega) (by omega) (by omega)
  refine cx_invV hE d_Gr_unitText_16 l_Gr_59 hme9 hbq rfl (by omega) (Nat.le_of_ble_eq_true rfl) n_Me_beginUnit (by rfl) (fun v0 G1 q => ?_) (fun x G1 q => by obtain ⟨_, q, _⟩ := q; cases q)
  obtain ⟨A1, q0, q1, q2, q3, q4, q5, q6, q7, q8, q9⟩ := q
  cases q0
  show cx_V E _ _ [] G1
  have hsh1 : tx_shp (tx_bun (tx_ta (tx_tks L) (i + 1)) s) = (p1, some 0) := by rw [tx_shp.bu, hp]
  have hg := hg.bq hac hp hsh1 q1 q2 q3 q4 q5 q6 q7 q8 q9
  have hs := hs.tr (q7.gs (gr := gr))
  have hme : A1.mw = me := by rw [← hme]; unfold tx_A.mw; rw [q1, q3]
  have hve := q2.trans hve
  have hp := hsh1
  have hgr := hg.cel
  have htk := hg.tok hg.lt
  refine cx_aload_n (i := 0) hE d_Gr_unitText_19 rfl rfl ?_
  refine cx_bipush (v := 40) hE d_Gr_unitText_20 (by decide) ?_
  refine cx_opn (kd := 40) hE d_Gr_unitText_22 rfl rfl hfl hb hT hve hg hs hR (by decide) (by omega) (Nat.le_of_ble_eq_true rfl) (fun f_22 G1 hf22 => ?_)
  subst hf22
  intro hk22 hg hs hR
  have hgr := hg.cel
  have htk := hg.tok hg.lt
  have hl2 : ∀ (n c i' n0 : Nat) (s' : tx_S) (A : tx_A) (G1 : cx_G), L.length ≤ i' + n → c ≤ i' → A.mw = me → A.ve = ve → tx_g k F L gr b G1 A i' (f_22 + 1) s' → tx_gs F gr G G1 → tx_shp s' = (p1, some n0) → R0 = (tx_its (tx_tks L) (f_22 + 1) n i' s').and (fun _ i s => (tx_tk (tx_tks L) 2 i s).and fun _ i s => .inr ((), i, tx_fun s)) → cx_V E 95 [(1, false, .int (nI c)), (0, false, .ref gr)] [] G1 := by
    intro n
    induction n with
    | zero =>
      intro c i' n0 s' A G1 h1 h2 hme hve hg hs hp hR
      exact absurd hg.lt (by omega)
    | succ n ih =>
      intro c i' n0 s' A G1 h1 h2 hme hve hg hs hp hR
      unfold tx_its at hR
      have hn0 : ((p1, some n0) : List Nat × Option Nat).2 = some n0 := rfl
      have hgr := hg.cel
      have htk := hg.tok hg.lt
      refine cx_iload_n (i := 1) hE d_Gr_unitText_95 rfl rfl ?_
      refine cx_ldc (v := 1000000) hE d_Gr_unitText_96 (in_5 (List.mem_of_getElem? (i := 16) rfl)) ?_
      refine cx_icmp_ge (tgt := 245)  hE d_Gr_unitText_98 (by decide) (fun c_98 => ?_) (fun c_98 => ?_)
      · exact absurd c_98 (nI_ge (a := c) (b := 1000000) (by have := hg.lt; omega) (by omega))
        -- end
      · refine cx_aload_n (i := 0) hE d_Gr_unitText_101 rfl rfl ?_
        refine cx_get hE d_Gr_unitText_102 f_Gr_15 (by assumption) (by rfl) ?_
        refine cx_get hE d_Gr_unitText_105 f_Gr_31 (by assumption) (by rfl) ?_
        refine cx_iconst (v := 2) hE d_Gr_unitText_108 (by decide) ?_
        refine cx_icmp_eq (tgt := 245)  hE d_Gr_unitText_109 (by decide) (fun c_109 => ?_) (fun c_109 => ?_)
        · rw [if_pos c_109] at hR
          try simp only [tx_R.and_as, tx_op_and, tx_R.and_r] at hR
          refine cx_aload_n (i := 0) hE d_Gr_unitText_245 rfl rfl ?_
          refine cx_iconst (v := 2) hE d_Gr_unitText_246 (by decide) ?_
          refine cx_tac (kd := 2) hE d_Gr_unitText_247 rfl rfl hfl hb hT hve hg hs hR (by decide) (by omega) (Nat.le_of_ble_eq_true rfl) (fun G1 hk247 hg hs hR hac => ?_)
          have hgr := hg.cel
          have htk := hg.tok hg.lt
          refine cx_pop hE d_Gr_unitText_250 ?_
          refine cx_aload_n (i := 0) hE d_Gr_unitText_251 rfl rfl ?_
          refine cx_get hE d_Gr_unitText_252 f_Gr_19 (by assumption) (by rfl) ?_
          obtain ⟨u, hu, hul⟩ := tx_shp.cur (s := s') (n := n0) (by rw [hp])
          obtain ⟨x9, hme9, -⟩ := hg.1.2.1
          have hro := hg.room
          have hil := hg.lt
          obtain ⟨hb1, hb2, hb3, hb4⟩ := id hb
          have hro3 := hro.2.2.1
          have hro4 := hro.2.2.2
          rw [hp] at hro3 hro4
          have hro5 : p1.length ≤ _ := hro3
          have hro6 : n0 ≤ _ := hro4
          have hucap := hg.1.2.2.1.le
          rw [List.length_map, List.length_range, tx_shp.l1 hp] at hucap
          have hucap : 4 * A.uc ≤ 40 + 8 * p1.length := hucap
          have hfq := c_Me_finishUnit (l := l) hu hg.1 hg.2.1 (by omega) (by rw [tx_shp.l1 hp]; show p1.length < _; omega) (by omega) (by omega)
          refine cx_invV hE d_Gr_unitText_255 l_Gr_90 hme9 hfq rfl (by omega) (Nat.le_of_ble_eq_true rfl) n_Me_finishUnit (by rfl) (fun v0 G1 q => ?_) (fun x G1 q => by obtain ⟨_, q, _⟩ := q; cases q)
          obtain ⟨A1, q0, q1, q2, q3, q4, q5, q6, q7, q8, q9⟩ := q
          cases q0
          show cx_V E _ _ [] G1
          have hsh1 : tx_shp (tx_fun s') = (p1 ++ [n0], none) := by rw [tx_shp.fu (n0 := n0) (by rw [hp]), hp]
          have hg := hg.fq hac hp hsh1 q1 q2 q3 q4 q5 q7 q9
          have hs := hs.tr (q5.gs (gr := gr))
          have hme : A1.mw = me := by rw [← hme]; unfold tx_A.mw; rw [q1, q3]
          have hve := q2.trans hve
          have hp := hsh1
          refine cx_vret hE d_Gr_unitText_258 rfl ?_
          exact Or.inl ⟨_, _, _, _, hR, rfl, hme, hve, hg, hs, ⟨_, hp⟩⟩
        · rw [if_neg c_109] at hR
          try simp only [tx_R.and_as, tx_op_and, tx_R.and_r] at hR
          refine cx_aload_n (i := 0) hE d_Gr_unitText_112 rfl rfl ?_
          refine cx_get hE d_Gr_unitText_113 f_Gr_15 (by assumption) (by rfl) ?_
          refine cx_get hE d_Gr_unitText_116 f_Gr_31 (by assumption) (by rfl) ?_
          by_cases e_119_5 : tx_ki (tx_tks L) i' = 5
          · refine cx_tableIn (off := 69) (tgt := 188) hE d_Gr_unitText_119 (by rw [e_119_5]; decide) (by rw [e_119_5]; decide) (by rw [e_119_5]; rfl) (by decide) ?_
            unfold tx_itm at hR
            rw [if_pos e_119_5] at hR
            try simp only [tx_R.and_as, tx_op_and, tx_R.and_r] at hR
            refine cx_aload_n (i := 0) hE d_Gr_unitText_188 rfl rfl ?_
            have hsp_189 := c_Gr_wire (l := l) hfl hb hp hg rfl
            rw [hme, hve] at hsp_189
            refine cx_gdU hE d_Gr_unitText_189 rfl rfl l_Gr_68 hT hg hs hR hsp_189 rfl (by omega) (Nat.le_of_ble_eq_true rfl) n_Gr_wire (by rfl) (fun w_189 i_189 s_189 A G1 hr_189 hme hve hg hs hq_189 hR => ?_)
            obtain ⟨n_189, hp⟩ := hq_189
            have hn0 : ((p1, some n_189) : List Nat × Option Nat).2 = some n_189 := rfl
            have hgr := hg.cel
            have htk := hg.tok hg.lt
            have hup_189 := tx_up.wir _ _ _ hr_189
            refine cx_goto (tgt := 239) hE d_Gr_unitText_192 (by decide) ?_
            refine cx_iinc (v := nI (c + 1)) hE d_Gr_unitText_239 rfl (nI_1 _) (by decide) ?_
            refine cx_goto (tgt := 95) hE d_Gr_unitText_242 (by decide) ?_
            refine cx_sub [0, 1] rfl ?_
            exact ih (c + 1) _ _ _ _ _ (by omega) (by omega) hme hve hg hs hp hR
          by_cases e_119_6 : tx_ki (tx_tks L) i' = 6
          · refine cx_tableIn (off := 76) (tgt := 195) hE d_Gr_unitText_119 (by rw [e_119_6]; decide) (by rw [e_119_6]; decide) (by rw [e_119_6]; rfl) (by decide) ?_
            unfold tx_itm at hR
            rw [if_neg e_119_5, if_pos e_119_6] at hR
            try simp only [tx_R.and_as, tx_op_and, tx_R.and_r] at hR
            refine cx_aload_n (i := 0) hE d_Gr_unitText_195 rfl rfl ?_
            refine cx_iconst (v := 4) hE d_Gr_unitText_196 (by decide) ?_
            have hsp_197 := c_Gr_register (l := l) (kd := 4) hfl hb hp hg rfl
            rw [hme, hve] at hsp_197
            refine cx_gdU hE d_Gr_unitText_197 rfl rfl l_Gr_71 hT hg hs hR hsp_197 rfl (by omega) (Nat.le_of_ble_eq_true rfl) n_Gr_register (by rfl) (fun w_197 i_197 s_197 A G1 hr_197 hme hve hg hs hq_197 hR => ?_)
            obtain ⟨n_197, hp⟩ := hq_197
            have hn0 : ((p1, some n_197) : List Nat × Option Nat).2 = some n_197 := rfl
            have hgr := hg.cel
            have htk := hg.tok hg.lt
            have hup_197 := tx_up.rgs _ _ _ hr_197
            refine cx_aload_n (i := 0) hE d_Gr_unitText_200 rfl rfl ?_
            refine cx_bipush (v := 59) hE d_Gr_unitText_201 (by decide) ?_
            refine cx_tak (kd := 59) hE d_Gr_unitText_203 rfl rfl hfl hb hT hve hg hs hR (by decide) (by omega) (Nat.le_of_ble_eq_true rfl) (fun G1 hk203 hg hs hR => ?_)
            have hgr := hg.cel
            have htk := hg.tok hg.lt
            refine cx_pop hE d_Gr_unitText_206 ?_
            refine cx_goto (tgt := 239) hE d_Gr_unitText_207 (by decide) ?_
            refine cx_iinc (v := nI (c + 1)) hE d_Gr_unitText_239 rfl (nI_1 _) (by decide) ?_
            refine cx_goto (tgt := 95) hE d_Gr_unitText_242 (by decide) ?_
            refine cx_sub [0, 1] rfl ?_
            exact ih (c + 1) _ _ _ _ _ (by omega) (by omega) hme hve hg hs hp hR
          by_cases e_119_7 : tx_ki (tx_tks L) i' = 7
          · refine cx_tableIn (off := 91) (tgt := 210) hE d_Gr_unitText_119 (by rw [e_119_7]; decide) (by rw [e_119_7]; decide) (by rw [e_119_7]; rfl) (by decide) ?_
            unfold tx_itm at hR
            rw [if_neg e_119_5, if_neg e_119_6, if_pos e_119_7] at hR
            try simp only [tx_R.and_as, tx_op_and, tx_R.and_r] at hR
            refine cx_aload_n (i := 0) hE d_Gr_unitText_210 rfl rfl ?_
            refine cx_gsubU hE d_Gr_unitText_211 rfl rfl l_Gr_75 hT hve hg hs hp hR (c_Gr_assign hfl hb (by rw [hp]) hg rfl) rfl (by omega) (Nat.le_of_ble_eq_true rfl) n_Gr_assign (by rfl) (fun w_211 i_211 s_211 G1 hr_211 hg hs hp hR hl => ?_)
            have hgr := hg.cel
            have htk := hg.tok hg.lt
            have hup_211 := tx_up.asn _ _ _ hr_211
            refine cx_goto (tgt := 239) hE d_Gr_unitText_214 (by decide) ?_
            refine cx_iinc (v := nI (c + 1)) hE d_Gr_unitText_239 rfl (nI_1 _) (by decide) ?_
            refine cx_goto (tgt := 95) hE d_Gr_unitText_242 (by decide) ?_
            refine cx_sub [0, 1] rfl ?_
            exact ih (c + 1) _ _ _ _ _ (by omega) (by omega) hme hve hg hs hp hR
          by_cases e_119_8 : tx_ki (tx_tks L) i' = 8
          · refine cx_tableIn (off := 98) (tgt := 217) hE d_Gr_unitText_119 (by rw [e_119_8]; decide) (by rw [e_119_8]; decide) (by rw [e_119_8]; rfl) (by decide) ?_
            unfold tx_itm at hR
            rw [if_neg e_119_5, if_neg e_119_6, if_neg e_119_7, if_pos e_119_8] at hR
            try simp only [tx_R.and_as, tx_op_and, tx_R.and_r] at hR
            refine cx_aload_n (i := 0) hE d_Gr_unitText_217 rfl rfl ?_
            refine cx_gsubU hE d_Gr_unitText_218 rfl rfl l_Gr_78 hT hve hg hs hp hR (c_Gr_alwaysHead hfl hb (by rw [hp]) hg rfl) rfl (by omega) (Nat.le_of_ble_eq_true rfl) n_Gr_alwaysHead (by rfl) (fun w_218 i_218 s_218 G1 hr_218 hg hs hp hR hl => ?_)
            have hgr := hg.cel
            have htk := hg.tok hg.lt
            have hup_218 := tx_up.alh _ _ _ hr_218
            refine cx_aload_n (i := 0) hE d_Gr_unitText_221 rfl rfl ?_
            refine cx_gsubU hE d_Gr_unitText_222 rfl rfl l_Gr_81 hT hve hg hs hp hR (c_Gr_stm hfl hb (by rw [hp]) hg) rfl (by omega) (Nat.le_of_ble_eq_true rfl) n_Gr_statement (by rfl) (fun w_222 i_222 s_222 G1 hr_222 hg hs hp hR hl => ?_)
            have hgr := hg.cel
            have htk := hg.tok hg.lt
            have hup_222 := tx_up.stm _ _ _ _ _ _ hr_222
            refine cx_goto (tgt := 239) hE d_Gr_unitText_225 (by decide) ?_
            refine cx_iinc (v := nI (c + 1)) hE d_Gr_unitText_239 rfl (nI_1 _) (by decide) ?_
            refine cx_goto (tgt := 95) hE d_Gr_unitText_242 (by decide) ?_
            refine cx_sub [0, 1] rfl ?_
            exact ih (c + 1) _ _ _ _ _ (by omega) (by omega) hme hve hg hs hp hR
          by_cases e_119_9 : tx_ki (tx_tks L) i' = 9
          · refine cx_tableIn (off := 116) (tgt := 235) hE d_Gr_unitText_119 (by rw [e_119_9]; decide) (by rw [e_119_9]; decide) (by rw [e_119_9]; rfl) (by decide) ?_
            unfold tx_itm at hR
            rw [if_neg e_119_5, if_neg e_119_6, if_neg e_119_7, if_neg e_119_8, if_neg (by rw [e_119_9]; decide)] at hR
            try simp only [tx_R.and_as, tx_op_and, tx_R.and_r] at hR
            refine cx_aload_n (i := 0) hE d_Gr_unitText_235 rfl rfl ?_
            have hsp_236 := c_Gr_instance (l := l) hfl hb hp hg rfl
            rw [hme, hve] at hsp_236
            refine cx_gdU hE d_Gr_unitText_236 rfl rfl l_Gr_87 hT hg hs hR hsp_236 rfl (by omega) (Nat.le_of_ble_eq_true rfl) n_Gr_instance (by rfl) (fun w_236 i_236 s_236 A G1 hr_236 hme hve hg hs hq_236 hR => ?_)
            obtain ⟨n_236, hp⟩ := hq_236
            have hn0 : ((p1, some n_236) : List Nat × Option Nat).2 = some n_236 := rfl
            have hgr := hg.cel
            have htk := hg.tok hg.lt
            have hup_236 := tx_up.ins _ _ _ hr_236
            refine cx_iinc (v := nI (c + 1)) hE d_Gr_unitText_239 rfl (nI_1 _) (by decide) ?_
            refine cx_goto (tgt := 95) hE d_Gr_unitText_242 (by decide) ?_
            refine cx_sub [0, 1] rfl ?_
            exact ih (c + 1) _ _ _ _ _ (by omega) (by omega) hme hve hg hs hp hR
          by_cases e_119_10 : tx_ki (tx_tks L) i' = 10
          · refine cx_tableIn (off := 116) (tgt := 235) hE d_Gr_unitText_119 (by rw [e_119_10]; decide) (by rw [e_119_10]; decide) (by rw [e_119_10]; rfl) (by decide) ?_
            unfold tx_itm at hR
            rw [if_neg e_119_5, if_neg e_119_6, if_neg e_119_7, if_neg e_119_8, if_neg (by rw [e_119_10]; decide)] at hR
            try simp only [tx_R.and_as, tx_op_and, tx_R.and_r] at hR
            refine cx_aload_n (i := 0) hE d_Gr_unitText_235 rfl rfl ?_
            have hsp_236 := c_Gr_instance (l := l) hfl hb hp hg rfl
            rw [hme, hve] at hsp_236
            refine cx_gdU hE d_Gr_unitText_236 rfl rfl l_Gr_87 hT hg hs hR hsp_236 rfl (by omega) (Nat.le_of_ble_eq_true rfl) n_Gr_instance (by rfl) (fun w_236 i_236 s_236 A G1 hr_236 hme hve hg hs hq_236 hR => ?_)
            obtain ⟨n_236, hp⟩ := hq_236
            have hn0 : ((p1, some n_236) : List Nat × Option Nat).2 = some n_236 := rfl
            have hgr := hg.cel
            have htk := hg.tok hg.lt
            have hup_236 := tx_up.ins _ _ _ hr_236
            refine cx_iinc (v := nI (c + 1)) hE d_Gr_unitText_239 rfl (nI_1 _) (by decide) ?_
            refine cx_goto (tgt := 95) hE d_Gr_unitText_242 (by decide) ?_
            refine cx_sub [0, 1] rfl ?_
            exact ih (c + 1) _ _ _ _ _ (by omega) (by omega) hme hve hg hs hp hR
          by_cases e_119_11 : tx_ki (tx_tks L) i' = 11
          · refine cx_tableIn (off := 116) (tgt := 235) hE d_Gr_unitText_119 (by rw [e_119_11]; decide) (by rw [e_119_11]; decide) (by rw [e_119_11]; rfl) (by decide) ?_
            unfold tx_itm at hR
            rw [if_neg e_119_5, if_neg e_119_6, if_neg e_119_7, if_neg e_119_8, if_neg (by rw [e_119_11]; decide)] at hR
            try simp only [tx_R.and_as, tx_op_and, tx_R.and_r] at hR
            refine cx_aload_n (i := 0) hE d_Gr_unitText_235 rfl rfl ?_
            have hsp_236 := c_Gr_instance (l := l) hfl hb hp hg rfl
            rw [hme, hve] at hsp_236
            refine cx_gdU hE d_Gr_unitText_236 rfl rfl l_Gr_87 hT hg hs hR hsp_236 rfl (by omega) (Nat.le_of_ble_eq_true rfl) n_Gr_instance (by rfl) (fun w_236 i_236 s_236 A G1 hr_236 hme hve hg hs hq_236 hR => ?_)
            obtain ⟨n_236, hp⟩ := hq_236
            have hn0 : ((p1, some n_236) : List Nat × Option Nat).2 = some n_236 := rfl
            have hgr := hg.cel
            have htk := hg.tok hg.lt
            have hup_236 := tx_up.ins _ _ _ hr_236
            refine cx_iinc (v := nI (c + 1)) hE d_Gr_unitText_239 rfl (nI_1 _) (by decide) ?_
            refine cx_goto (tgt := 95) hE d_Gr_unitText_242 (by decide) ?_
            refine cx_sub [0, 1] rfl ?_
            exact ih (c + 1) _ _ _ _ _ (by omega) (by omega) hme hve hg hs hp hR
          by_cases e_119_12 : tx_ki (tx_tks L) i' = 12
          · refine cx_tableIn (off := 116) (tgt := 235) hE d_Gr_unitText_119 (by rw [e_119_12]; decide) (by rw [e_119_12]; decide) (by rw [e_119_12]; rfl) (by decide) ?_
            unfold tx_itm at hR
            rw [if_neg e_119_5, if_neg e_119_6, if_neg e_119_7, if_neg e_119_8, if_neg (by rw [e_119_12]; decide)] at hR
            try simp only [tx_R.and_as, tx_op_and, tx_R.and_r] at hR
            refine cx_aload_n (i := 0) hE d_Gr_unitText_235 rfl rfl ?_
            have hsp_236 := c_Gr_instance (l := l) hfl hb hp hg rfl
            rw [hme, hve] at hsp_236
            refine cx_gdU hE d_Gr_unitText_236 rfl rfl l_Gr_87 hT hg hs hR hsp_236 rfl (by omega) (Nat.le_of_ble_eq_true rfl) n_Gr_instance (by rfl) (fun w_236 i_236 s_236 A G1 hr_236 hme hve hg hs hq_236 hR => ?_)
            obtain ⟨n_236, hp⟩ := hq_236
            have hn0 : ((p1, some n_236) : List Nat × Option Nat).2 = some n_236 := rfl
            have hgr := hg.cel
            have htk := hg.tok hg.lt
            have hup_236 := tx_up.ins _ _ _ hr_236
            refine cx_iinc (v := nI (c + 1)) hE d_Gr_unitText_239 rfl (nI_1 _) (by decide) ?_
            refine cx_goto (tgt := 95) hE d_Gr_unitText_242 (by decide) ?_
            refine cx_sub [0, 1] rfl ?_
            exact ih (c + 1) _ _ _ _ _ (by omega) (by omega) hme hve hg hs hp hR
          by_cases e_119_13 : tx_ki (tx_tks L) i' = 13
          · refine cx_tableIn (off := 116) (tgt := 235) hE d_Gr_unitText_119 (by rw [e_119_13]; decide) (by rw [e_119_13]; decide) (by rw [e_119_13]; rfl) (by decide) ?_
            unfold tx_itm at hR
            rw [if_neg e_119_5, if_neg e_119_6, if_neg e_119_7, if_neg e_119_8, if_neg (by rw [e_119_13]; decide)] at hR
            try simp only [tx_R.and_as, tx_op_and, tx_R.and_r] at hR
            refine cx_aload_n (i := 0) hE d_Gr_unitText_235 rfl rfl ?_
            have hsp_236 := c_Gr_instance (l := l) hfl hb hp hg rfl
            rw [hme, hve] at hsp_236
            refine cx_gdU hE d_Gr_unitText_236 rfl rfl l_Gr_87 hT hg hs hR hsp_236 rfl (by omega) (Nat.le_of_ble_eq_true rfl) n_Gr_instance (by rfl) (fun w_236 i_236 s_236 A G1 hr_236 hme hve hg hs hq_236 hR => ?_)
            obtain ⟨n_236, hp⟩ := hq_236
            have hn0 : ((p1, some n_236) : List Nat × Option Nat).2 = some n_236 := rfl
            have hgr := hg.cel
            have htk := hg.tok hg.lt
            have hup_236 := tx_up.ins _ _ _ hr_236
            refine cx_iinc (v := nI (c + 1)) hE d_Gr_unitText_239 rfl (nI_1 _) (by decide) ?_
            refine cx_goto (tgt := 95) hE d_Gr_unitText_242 (by decide) ?_
            refine cx_sub [0, 1] rfl ?_
            exact ih (c + 1) _ _ _ _ _ (by omega) (by omega) hme hve hg hs hp hR
          by_cases e_119_14 : tx_ki (tx_tks L) i' = 14
          · refine cx_tableIn (off := 116) (tgt := 235) hE d_Gr_unitText_119 (by rw [e_119_14]; decide) (by rw [e_119_14]; decide) (by rw [e_119_14]; rfl) (by decide) ?_
            unfold tx_itm at hR
            rw [if_neg e_119_5, if_neg e_119_6, if_neg e_119_7, if_neg e_119_8, if_neg (by rw [e_119_14]; decide)] at hR
            try simp only [tx_R.and_as, tx_op_and, tx_R.and_r] at hR
            refine cx_aload_n (i := 0) hE d_Gr_unitText_235 rfl rfl ?_
            have hsp_236 := c_Gr_instance (l := l) hfl hb hp hg rfl
            rw [hme, hve] at hsp_236
            refine cx_gdU hE d_Gr_unitText_236 rfl rfl l_Gr_87 hT hg hs hR hsp_236 rfl (by omega) (Nat.le_of_ble_eq_true rfl) n_Gr_instance (by rfl) (fun w_236 i_236 s_236 A G1 hr_236 hme hve hg hs hq_236 hR => ?_)
            obtain ⟨n_236, hp⟩ := hq_236
            have hn0 : ((p1, some n_236) : List Nat × Option Nat).2 = some n_236 := rfl
            have hgr := hg.cel
            have htk := hg.tok hg.lt
            have hup_236 := tx_up.ins _ _ _ hr_236
            refine cx_iinc (v := nI (c + 1)) hE d_Gr_unitText_239 rfl (nI_1 _) (by decide) ?_
            refine cx_goto (tgt := 95) hE d_Gr_unitText_242 (by decide) ?_
            refine cx_sub [0, 1] rfl ?_
            exact ih (c + 1) _ _ _ _ _ (by omega) (by omega) hme hve hg hs hp hR
          by_cases e_119_15 : tx_ki (tx_tks L) i' = 15
          · refine cx_tableIn (off := 116) (tgt := 235) hE d_Gr_unitText_119 (by rw [e_119_15]; decide) (by rw [e_119_15]; decide) (by rw [e_119_15]; rfl) (by decide) ?_
            unfold tx_itm at hR
            rw [if_neg e_119_5, if_neg e_119_6, if_neg e_119_7, if_neg e_119_8, if_neg (by rw [e_119_15]; decide)] at hR
            try simp only [tx_R.and_as, tx_op_and, tx_R.and_r] at hR
            refine cx_aload_n (i := 0) hE d_Gr_unitText_235 rfl rfl ?_
            have hsp_236 := c_Gr_instance (l := l) hfl hb hp hg rfl
            rw [hme, hve] at hsp_236
            refine cx_gdU hE d_Gr_unitText_236 rfl rfl l_Gr_87 hT hg hs hR hsp_236 rfl (by omega) (Nat.le_of_ble_eq_true rfl) n_Gr_instance (by rfl) (fun w_236 i_236 s_236 A G1 hr_236 hme hve hg hs hq_236 hR => ?_)
            obtain ⟨n_236, hp⟩ := hq_236
            have hn0 : ((p1, some n_236) : List Nat × Option Nat).2 = some n_236 := rfl
            have hgr := hg.cel
            have htk := hg.tok hg.lt
            have hup_236 := tx_up.ins _ _ _ hr_236
            refine cx_iinc (v := nI (c + 1)) hE d_Gr_unitText_239 rfl (nI_1 _) (by decide) ?_
            refine cx_goto (tgt := 95) hE d_Gr_unitText_242 (by decide) ?_
            refine cx_sub [0, 1] rfl ?_
            exact ih (c + 1) _ _ _ _ _ (by omega) (by omega) hme hve hg hs hp hR
          by_cases e_119_16 : tx_ki (tx_tks L) i' = 16
          · refine cx_tableIn (off := 116) (tgt := 235) hE d_Gr_unitText_119 (by rw [e_119_16]; decide) (by rw [e_119_16]; decide) (by rw [e_119_16]; rfl) (by decide) ?_
            unfold tx_itm at hR
            rw [if_neg e_119_5, if_neg e_119_6, if_neg e_119_7, if_neg e_119_8, if_neg (by rw [e_119_16]; decide)] at hR
            try simp only [tx_R.and_as, tx_op_and, tx_R.and_r] at hR
            refine cx_aload_n (i := 0) hE d_Gr_unitText_235 rfl rfl ?_
            have hsp_236 := c_Gr_instance (l := l) hfl hb hp hg rfl
            rw [hme, hve] at hsp_236
            refine cx_gdU hE d_Gr_unitText_236 rfl rfl l_Gr_87 hT hg hs hR hsp_236 rfl (by omega) (Nat.le_of_ble_eq_true rfl) n_Gr_instance (by rfl) (fun w_236 i_236 s_236 A G1 hr_236 hme hve hg hs hq_236 hR => ?_)
            obtain ⟨n_236, hp⟩ := hq_236
            have hn0 : ((p1, some n_236) : List Nat × Option Nat).2 = some n_236 := rfl
            have hgr := hg.cel
            have htk := hg.tok hg.lt
            have hup_236 := tx_up.ins _ _ _ hr_236
            refine cx_iinc (v := nI (c + 1)) hE d_Gr_unitText_239 rfl (nI_1 _) (by decide) ?_
            refine cx_goto (tgt := 95) hE d_Gr_unitText_242 (by decide) ?_
            refine cx_sub [0, 1] rfl ?_
            exact ih (c + 1) _ _ _ _ _ (by omega) (by omega) hme hve hg hs hp hR
          by_cases e_119_17 : tx_ki (tx_tks L) i' = 17
          · refine cx_tableIn (off := 116) (tgt := 235) hE d_Gr_unitText_119 (by rw [e_119_17]; decide) (by rw [e_119_17]; decide) (by rw [e_119_17]; rfl) (by decide) ?_
            unfold tx_itm at hR
            rw [if_neg e_119_5, if_neg e_119_6, if_neg e_119_7, if_neg e_119_8, if_neg (by rw [e_119_17]; decide)] at hR
            try simp only [tx_R.and_as, tx_op_and, tx_R.and_r] at hR
            refine cx_aload_n (i := 0) hE d_Gr_unitText_235 rfl rfl ?_
            have hsp_236 := c_Gr_instance (l := l) hfl hb hp hg rfl
            rw [hme, hve] at hsp_236
            refine cx_gdU hE d_Gr_unitText_236 rfl rfl l_Gr_87 hT hg hs hR hsp_236 rfl (by omega) (Nat.le_of_ble_eq_true rfl) n_Gr_instance (by rfl) (fun w_236 i_236 s_236 A G1 hr_236 hme hve hg hs hq_236 hR => ?_)
            obtain ⟨n_236, hp⟩ := hq_236
            have hn0 : ((p1, some n_236) : List Nat × Option Nat).2 = some n_236 := rfl
            have hgr := hg.cel
            have htk := hg.tok hg.lt
            have hup_236 := tx_up.ins _ _ _ hr_236
            refine cx_iinc (v := nI (c + 1)) hE d_Gr_unitText_239 rfl (nI_1 _) (by decide) ?_
            refine cx_goto (tgt := 95) hE d_Gr_unitText_242 (by decide) ?_
            refine cx_sub [0, 1] rfl ?_
            exact ih (c + 1) _ _ _ _ _ (by omega) (by omega) hme hve hg hs hp hR
          by_cases e_119_18 : tx_ki (tx_tks L) i' = 18
          · refine cx_tableIn (off := 109) (tgt := 228) hE d_Gr_unitText_119 (by rw [e_119_18]; decide) (by rw [e_119_18]; decide) (by rw [e_119_18]; rfl) (by decide) ?_
            unfold tx_itm at hR
            rw [if_neg e_119_5, if_neg e_119_6, if_neg e_119_7, if_neg e_119_8, if_pos e_119_18] at hR
            try simp only [tx_R.and_as, tx_op_and, tx_R.and_r] at hR
            refine cx_aload_n (i := 0) hE d_Gr_unitText_228 rfl rfl ?_
            refine cx_gsubU hE d_Gr_unitText_229 rfl rfl l_Gr_84 hT hve hg hs hp hR (c_Gr_assertion hfl hb (by rw [hp]) hg rfl) rfl (by omega) (Nat.le_of_ble_eq_true rfl) n_Gr_assertion (by rfl) (fun w_229 i_229 s_229 G1 hr_229 hg hs hp hR hl => ?_)
            have hgr := hg.cel
            have htk := hg.tok hg.lt
            have hup_229 := tx_up.ast _ _ _ hr_229
            refine cx_goto (tgt := 239) hE d_Gr_unitText_232 (by decide) ?_
            refine cx_iinc (v := nI (c + 1)) hE d_Gr_unitText_239 rfl (nI_1 _) (by decide) ?_
            refine cx_goto (tgt := 95) hE d_Gr_unitText_242 (by decide) ?_
            refine cx_sub [0, 1] rfl ?_
            exact ih (c + 1) _ _ _ _ _ (by omega) (by omega) hme hve hg hs hp hR
          refine cx_tableOut (tgt := 235) hE d_Gr_unitText_119 (by have h_5 := tx_ti (n := 5) e_119_5; have h_6 := tx_ti (n := 6) e_119_6; have h_7 := tx_ti (n := 7) e_119_7; have h_8 := tx_ti (n := 8) e_119_8; have h_9 := tx_ti (n := 9) e_119_9; have h_10 := tx_ti (n := 10) e_119_10; have h_11 := tx_ti (n := 11) e_119_11; have h_12 := tx_ti (n := 12) e_119_12; have h_13 := tx_ti (n := 13) e_119_13; have h_14 := tx_ti (n := 14) e_119_14; have h_15 := tx_ti (n := 15) e_119_15; have h_16 := tx_ti (n := 16) e_119_16; have h_17 := tx_ti (n := 17) e_119_17; have h_18 := tx_ti (n := 18) e_119_18; simp only [Int32.reduceToInt] at *; omega) (by decide) ?_
          unfold tx_itm at hR
          rw [if_neg e_119_5, if_neg e_119_6, if_neg e_119_7, if_neg e_119_8, if_neg e_119_18] at hR
          try simp only [tx_R.and_as, tx_op_and, tx_R.and_r] at hR
          refine cx_aload_n (i := 0) hE d_Gr_unitText_235 rfl rfl ?_
          have hsp_236 := c_Gr_instance (l := l) hfl hb hp hg rfl
          rw [hme, hve] at hsp_236
          refine cx_gdU hE d_Gr_unitText_236 rfl rfl l_Gr_87 hT hg hs hR hsp_236 rfl (by omega) (Nat.le_of_ble_eq_true rfl) n_Gr_instance (by rfl) (fun w_236 i_236 s_236 A G1 hr_236 hme hve hg hs hq_236 hR => ?_)
          obtain ⟨n_236, hp⟩ := hq_236
          have hn0 : ((p1, some n_236) : List Nat × Option Nat).2 = some n_236 := rfl
          have hgr := hg.cel
          have htk := hg.tok hg.lt
          have hup_236 := tx_up.ins _ _ _ hr_236
          refine cx_iinc (v := nI (c + 1)) hE d_Gr_unitText_239 rfl (nI_1 _) (by decide) ?_
          refine cx_goto (tgt := 95) hE d_Gr_unitText_242 (by decide) ?_
          refine cx_sub [0, 1] rfl ?_
          exact ih (c + 1) _ _ _ _ _ (by omega) (by omega) hme hve hg hs hp hR
  have hl1 : ∀ (n c i' n0 : Nat) (s' : tx_S) (A : tx_A) (G1 : cx_G), L.length ≤ i' + n → c ≤ i' → A.mw = me → A.ve = ve → tx_g k F L gr b G1 A i' f_22 s' → tx_gs F gr G G1 → tx_shp s' = (p1, some n0) → R0 = (tx_pos (tx_tks L) f_22 n i' s').and (fun _ i s => (tx_tk (tx_tks L) 41 i s).and fun _ i s => (tx_tk (tx_tks L) 59 i s).and fun _ i s => (tx_its (tx_tks L) (f_22 + 1) (tx_tks L).length i s).and (fun _ i s => (tx_tk (tx_tks L) 2 i s).and fun _ i s => .inr ((), i, tx_fun s))) → cx_V E 44 [(1, false, .int (nI c)), (0, false, .ref gr)] [] G1 := by
    intro n
    induction n with
    | zero =>
      intro c i' n0 s' A G1 h1 h2 hme hve hg hs hp hR
      exact absurd hg.lt (by omega)
    | succ n ih =>
      intro c i' n0 s' A G1 h1 h2 hme hve hg hs hp hR
      unfold tx_pos at hR
      have hn0 : ((p1, some n0) : List Nat × Option Nat).2 = some n0 := rfl
      have hgr := hg.cel
      have htk := hg.tok hg.lt
      refine cx_iload_n (i := 1) hE d_Gr_unitText_44 rfl rfl ?_
      refine cx_ldc (v := 1000000) hE d_Gr_unitText_45 (in_5 (List.mem_of_getElem? (i := 16) rfl)) ?_
      refine cx_icmp_ge (tgt := 79)  hE d_Gr_unitText_47 (by decide) (fun c_47 => ?_) (fun c_47 => ?_)
      · exact absurd c_47 (nI_ge (a := c) (b := 1000000) (by have := hg.lt; omega) (by omega))
        -- end
      · refine cx_aload_n (i := 0) hE d_Gr_unitText_50 rfl rfl ?_
        refine cx_get hE d_Gr_unitText_51 f_Gr_15 (by assumption) (by rfl) ?_
        refine cx_get hE d_Gr_unitText_54 f_Gr_31 (by assumption) (by rfl) ?_
        refine cx_bipush (v := 41) hE d_Gr_unitText_57 (by decide) ?_
        refine cx_icmp_eq (tgt := 79)  hE d_Gr_unitText_59 (by decide) (fun c_59 => ?_) (fun c_59 => ?_)
        · rw [if_pos c_59] at hR
          try simp only [tx_R.and_as, tx_op_and, tx_R.and_r] at hR
          refine cx_aload_n (i := 0) hE d_Gr_unitText_79 rfl rfl ?_
          refine cx_bipush (v := 41) hE d_Gr_unitText_80 (by decide) ?_
          refine cx_clo (kd := 41) hE d_Gr_unitText_82 rfl rfl hfl hb hT hve hg hs hR (by decide) (by omega) (by omega) (Nat.le_of_ble_eq_true rfl) (fun G1 hk82 hg hs hR => ?_)
          have hgr := hg.cel
          have htk := hg.tok hg.lt
          refine cx_pop hE d_Gr_unitText_85 ?_
          refine cx_aload_n (i := 0) hE d_Gr_unitText_86 rfl rfl ?_
          refine cx_bipush (v := 59) hE d_Gr_unitText_87 (by decide) ?_
          refine cx_tak (kd := 59) hE d_Gr_unitText_89 rfl rfl hfl hb hT hve hg hs hR (by decide) (by omega) (Nat.le_of_ble_eq_true rfl) (fun G1 hk89 hg hs hR => ?_)
          have hgr := hg.cel
          have htk := hg.tok hg.lt
          refine cx_pop hE d_Gr_unitText_92 ?_
          refine cx_iconst (v := 0) hE d_Gr_unitText_93 (by decide) ?_
          refine cx_istore_n (i := 1) hE d_Gr_unitText_94 rfl (by decide) ?_
          refine cx_sub [0, 1] rfl ?_
          exact hl2 L.length 0 _ _ _ _ _ (by omega) (by omega) hme hve hg hs hp (by rw [tx_tks_len] at hR; exact hR)
        · rw [if_neg c_59] at hR
          try simp only [tx_R.and_as, tx_op_and, tx_R.and_r] at hR
          refine cx_aload_n (i := 0) hE d_Gr_unitText_62 rfl rfl ?_
          refine cx_bipush (v := 44) hE d_Gr_unitText_63 (by decide) ?_
          refine cx_tak (kd := 44) hE d_Gr_unitText_65 rfl rfl hfl hb hT hve hg hs hR (by decide) (by omega) (Nat.le_of_ble_eq_true rfl) (fun G1 hk65 hg hs hR => ?_)
          have hgr := hg.cel
          have htk := hg.tok hg.lt
          refine cx_pop hE d_Gr_unitText_68 ?_
          refine cx_aload_n (i := 0) hE d_Gr_unitText_69 rfl rfl ?_
          have hsp_70 := c_Gr_port (l := l) hfl hb hp hg rfl
          rw [hme, hve] at hsp_70
          refine cx_gdU hE d_Gr_unitText_70 rfl rfl l_Gr_65 hT hg hs hR hsp_70 rfl (by omega) (Nat.le_of_ble_eq_true rfl) n_Gr_port (by rfl) (fun w_70 i_70 s_70 A G1 hr_70 hme hve hg hs hq_70 hR => ?_)
          obtain ⟨n_70, hp⟩ := hq_70
          have hn0 : ((p1, some n_70) : List Nat × Option Nat).2 = some n_70 := rfl
          have hgr := hg.cel
          have htk := hg.tok hg.lt
          have hup_70 := tx_up.por _ _ _ hr_70
          refine cx_iinc (v := nI (c + 1)) hE d_Gr_unitText_73 rfl (nI_1 _) (by decide) ?_
          refine cx_goto (tgt := 44) hE d_Gr_unitText_76 (by decide) ?_
          refine cx_sub [0, 1] rfl ?_
          exact ih (c + 1) _ _ _ _ _ (by omega) (by omega) hme hve hg hs hp hR
  refine cx_pop hE d_Gr_unitText_25 ?_
  refine cx_aload_n (i := 0) hE d_Gr_unitText_26 rfl rfl ?_
  refine cx_get hE d_Gr_unitText_27 f_Gr_15 (by assumption) (by rfl) ?_
  refine cx_get hE d_Gr_unitText_30 f_Gr_31 (by assumption) (by rfl) ?_
  refine cx_bipush (v := 41) hE d_Gr_unitText_33 (by decide) ?_
  refine cx_icmp_eq (tgt := 42)  hE d_Gr_unitText_35 (by decide) (fun c_35 => ?_) (fun c_35 => ?_)
  · rw [if_pos c_35] at hR
    try simp only [tx_R.and_as, tx_op_and, tx_R.and_r] at hR
    refine cx_iconst (v := 0) hE d_Gr_unitText_42 (by decide) ?_
    refine cx_istore_n (i := 1) hE d_Gr_unitText_43 rfl (by decide) ?_
    refine cx_sub [0, 1] rfl ?_
    exact hl1 L.length 0 _ _ _ _ _ (by omega) (by omega) hme hve hg hs hp (by rw [tx_tks_len] at hR; rw [tx_tks_len]; exact hR)
  · rw [if_neg c_35] at hR
    try simp only [tx_R.and_as, tx_op_and, tx_R.and_r] at hR
    refine cx_aload_n (i := 0) hE d_Gr_unitText_38 rfl rfl ?_
    have hsp_39 := c_Gr_port (l := l) hfl hb hp hg rfl
    rw [hme, hve] at hsp_39
    refine cx_gdU hE d_Gr_unitText_39 rfl rfl l_Gr_65 hT hg hs hR hsp_39 rfl (by omega) (Nat.le_of_ble_eq_true rfl) n_Gr_port (by rfl) (fun w_39 i_39 s_39 A G1 hr_39 hme hve hg hs hq_39 hR => ?_)
    obtain ⟨n_39, hp⟩ := hq_39
    have hn0 : ((p1, some n_39) : List Nat × Option Nat).2 = some n_39 := rfl
    have hgr := hg.cel
    have htk := hg.tok hg.lt
    have hup_39 := tx_up.por _ _ _ hr_39
    refine cx_iconst (v := 0) hE d_Gr_unitText_42 (by decide) ?_
    refine cx_istore_n (i := 1) hE d_Gr_unitText_43 rfl (by decide) ?_
    refine cx_sub [0, 1] rfl ?_
    exact hl1 L.length 0 _ _ _ _ _ (by omega) (by omega) hme hve hg hs hp (by rw [tx_tks_len] at hR; rw [tx_tks_len]; exact hR)
set_option maxRecDepth 100000 in
theorem c_Gr_design {k : cx_K} {l : Launch} {G : cx_G} {F : Nat → Prop} {L : tx_Ls} {gr : Nat} {b : Nat × Nat} {A : tx_A} {i : Nat} {p1 : List Nat} {s : tx_S} (hfl : l.flags = flags0) (hb : tx_gb L b) (hp : tx_shp s = (p1, none)) (hg : tx_g k F L gr b G A i 60 s) {R0 : tx_R Unit} (hR : R0 = tx_dsg (tx_tks L) i s) : cx_Sp k l m_Gr_design 561 [.ref gr] G (tx_gd k F L gr b G A.mw A.ve 60 (fun _ => none) (fun p => ∃ p9, p = (p9, none)) R0) := by
  intro E hE
  have hs := tx_gs.rf F gr G
  obtain ⟨me, hme⟩ : ∃ me, A.mw = me := ⟨_, rfl⟩
  obtain ⟨ve, hve⟩ : ∃ ve, A.ve = ve := ⟨_, rfl⟩
  rw [hme, hve] at hE
  have hT : ∀ e x G', R0 = .inl e → tx_gt F L gr b G ve e x G' → tx_gd k F L gr b G me ve 60 (fun _ => none) (fun p => ∃ p9, p = (p9, none)) R0 (.inr x) G' := fun e x G' h1 h2 => Or.inr ⟨e, x, h1, rfl, h2⟩
  have hbl := hb.2.2.1
  have hle := hg.le
  have hgr := hg.cel
  have htk := hg.tok hg.lt
  unfold tx_dsg at hR
  have hloop : ∀ (n c i' : Nat) (p1 : List Nat) (s' : tx_S) (A : tx_A) (G1 : cx_G), L.length ≤ i' + n → c ≤ i' → A.mw = me → A.ve = ve → tx_g k F L gr b G1 A i' 60 s' → tx_gs F gr G G1 → tx_shp s' = (p1, none) → R0 = tx_dss (tx_tks L) n i' s' → cx_V E 6 [(1, false, .int (nI c)), (0, false, .ref gr)] [] G1 := by
    intro n
    induction n with
    | zero =>
      intro c i' p1 s' A G1 h1 h2 hme hve hg hs hp hR
      exact absurd hg.lt (by omega)
    | succ n ih =>
      intro c i' p1 s' A G1 h1 h2 hme hve hg hs hp hR
      unfold tx_dss at hR
      have hgr := hg.cel
      have htk := hg.tok hg.lt
      refine cx_iload_n (i := 1) hE d_Gr_design_6 rfl rfl ?_
      refine cx_ldc (v := 1000000) hE d_Gr_design_7 (in_5 (List.mem_of_getElem? (i := 16) rfl)) ?_
      refine cx_icmp_ge (tgt := 34)  hE d_Gr_design_9 (by decide) (fun c_9 => ?_) (fun c_9 => ?_)
      · exact absurd c_9 (nI_ge (a := c) (b := 1000000) (by have := hg.lt; omega) (by omega))
        -- end
      · refine cx_aload_n (i := 0) hE d_Gr_design_12 rfl rfl ?_
        refine cx_get hE d_Gr_design_13 f_Gr_15 (by assumption) (by rfl) ?_
        refine cx_get hE d_Gr_design_16 f_Gr_31 (by assumption) (by rfl) ?_
        refine cx_bipush (v := 22) hE d_Gr_design_19 (by decide) ?_
        refine cx_icmp_eq (tgt := 34)  hE d_Gr_design_21 (by decide) (fun c_21 => ?_) (fun c_21 => ?_)
        · rw [if_pos c_21] at hR
          try simp only [tx_R.and_as, tx_op_and, tx_R.and_r] at hR
          refine cx_vret hE d_Gr_design_34 rfl ?_
          exact Or.inl ⟨_, _, _, _, hR, rfl, hme, hve, hg, hs, ⟨_, hp⟩⟩
        · rw [if_neg c_21] at hR
          try simp only [tx_R.and_as, tx_op_and, tx_R.and_r] at hR
          refine cx_aload_n (i := 0) hE d_Gr_design_24 rfl rfl ?_
          have hsp_25 := c_Gr_unitText (l := l) hfl hb hp hg rfl
          rw [hme, hve] at hsp_25
          refine cx_gdU hE d_Gr_design_25 rfl rfl l_Gr_27 hT hg hs hR hsp_25 rfl (by omega) (Nat.le_of_ble_eq_true rfl) n_Gr_unitText (by rfl) (fun w_25 i_25 s_25 A G1 hr_25 hme hve hg hs hq_25 hR => ?_)
          obtain ⟨p_25, hp⟩ := hq_25
          have hup_25 := tx_up.unt _ _ _ hr_25
          have hgr := hg.cel
          have htk := hg.tok hg.lt
          refine cx_iinc (v := nI (c + 1)) hE d_Gr_design_28 rfl (nI_1 _) (by decide) ?_
          refine cx_goto (tgt := 6) hE d_Gr_design_31 (by decide) ?_
          refine cx_sub [0, 1] rfl ?_
          exact ih (c + 1) _ _ _ _ _ (by omega) (by omega) hme hve hg hs hp hR
  refine cx_aload_n (i := 0) hE d_Gr_design_0 rfl rfl ?_
  have hsp_1 := c_Gr_unitText (l := l) hfl hb hp hg rfl
  rw [hme, hve] at hsp_1
  refine cx_gdU hE d_Gr_design_1 rfl rfl l_Gr_27 hT hg hs hR hsp_1 rfl (by omega) (Nat.le_of_ble_eq_true rfl) n_Gr_unitText (by rfl) (fun w_1 i_1 s_1 A G1 hr_1 hme hve hg hs hq_1 hR => ?_)
  obtain ⟨p_1, hp⟩ := hq_1
  have hup_1 := tx_up.unt _ _ _ hr_1
  have hgr := hg.cel
  have htk := hg.tok hg.lt
  refine cx_iconst (v := 0) hE d_Gr_design_4 (by decide) ?_
  refine cx_istore_n (i := 1) hE d_Gr_design_5 rfl (by decide) ?_
  refine cx_sub [0, 1] rfl ?_
  exact hloop L.length 0 _ _ _ _ _ (by omega) (by omega) hme hve hg hs hp (by rw [tx_tks_len] at hR; exact hR)

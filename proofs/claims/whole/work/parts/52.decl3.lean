/-! MEANING: an instanc is declared, a module begins, a module ends. -/
/-- what the beginning of a module leaves -/
def tx_bq (k : cx_K) (F : Nat → Prop) (G : cx_G) (A : tx_A) (n : Nat) (s' : tx_S) : cx_R → cx_G → Prop := fun r G' => ∃ A' : tx_A, r = .inl none ∧ A'.me = A.me ∧ A'.ve = A.ve ∧ A'.wf = A.wf ∧ A'.uc = A.uc ∧ A'.nc n = 0 ∧ tx_m k F G' A' s' ∧ tx_st F G G' ∧ G'.2.1 = G.2.1 + 2 ∧ G'.2.2 = G.2.2 + 13
/-- what the end of a module leaves -/
def tx_fq (k : cx_K) (F : Nat → Prop) (G : cx_G) (A : tx_A) (s' : tx_S) : cx_R → cx_G → Prop := fun r G' => ∃ A' : tx_A, r = .inl none ∧ A'.me = A.me ∧ A'.ve = A.ve ∧ A'.wf = A.wf ∧ tx_m k F G' A' s' ∧ tx_st F G G' ∧ G.2.1 ≤ G'.2.1 ∧ G'.2.1 ≤ G.2.1 + 1 ∧ G.2.2 ≤ G'.2.2 ∧ G'.2.2 + 4 * A.uc ≤ G.2.2 + 4 * A'.uc
theorem tx_units {k : cx_K} {F : Nat → Prop} {G : cx_G} {A : tx_A} {s : tx_S} (hm : tx_m k F G A s) : ∀ y ∈ (List.range s.2.1.length).map A.ua, ∃ fs, G.1 y = some (.inr (8, fs)) := by
  intro y hy
  obtain ⟨q, hq, rfl⟩ := List.mem_map.mp hy
  have hq9 := List.mem_range.mp hq
  exact ⟨_, hm.2.2.2.1 q _ (by unfold tx_S.all; rw [List.getElem?_append_left hq9]; exact List.getElem?_eq_getElem hq9)⟩
theorem tx_fck_2 : ∀ (l : List tx_N) (s : tx_S), (l.foldl tx_fck s).2 = s.2 := by
  intro l
  induction l with
  | nil => intro s; rfl
  | cons r l ih => intro s; exact (ih _).trans (tx_ck_all ..)
set_option maxRecDepth 100000 in
theorem c_Me_beginUnit {k : cx_K} {l : Launch} {G : cx_G} {F : Nat → Prop} {A : tx_A} {s : tx_S} {a : Nat} {t : tx_Tk} (ht : tx_tw G A a t) (hm : tx_m k F G A s) (hF : ∀ b, F b → ∃ e, G.1 b = some e) (hc : s.2.2.1 = none) (hn : s.2.1.length < 45000) (r1 : G.2.1 + 2 ≤ 601024) (r2 : G.2.2 + 13 ≤ 7293034) : cx_Sp k l m_Me_beginUnit 5 [.ref A.me, .ref a] G (tx_bq k F G A s.2.1.length (tx_bun t s)) := by
  intro E hE
  obtain ⟨x0, hme, hxu⟩ := hm.2.1
  obtain ⟨nx, ht0, hwf⟩ := id ht
  have hta : G.1 a = some (.inr (7, [.int t.1, .int (nI t.2.1), .int (nI t.2.2.1), va_rf nx, va_rf (A.w t.2.2.2.1), .int t.2.2.2.2.1, .long t.2.2.2.2.2])) := ht0
  have hu1n : ∀ b, (tx_ck b 20 (nI t.2.1) s).2.2.1 = none := fun b => by rw [tx_ck_all]; exact hc
  cases hd : s.mo t.2.2.2.1 with
  | none =>
    refine cx_aload_n (i := 0) hE d_Me_beginUnit_0 rfl rfl ?_
    refine cx_get hE d_Me_beginUnit_1 f_Me_32 (by assumption) (by rfl) ?_
    refine cx_aload_n (i := 1) hE d_Me_beginUnit_4 rfl rfl ?_
    have hmo := c_Me_moduleOf (l := l) hm ht
    rw [hd] at hmo
    refine cx_invS1 hE d_Me_beginUnit_5 l_Me_36 hmo rfl (by omega) (Nat.le_of_ble_eq_true rfl) n_Me_moduleOf (by rfl) ?_
    refine cx_ifnonnull (tgt := 15) (r := none) hE d_Me_beginUnit_8 (by decide) (fun a_8 c_8 => ?_) (fun c_8 => ?_)
    · cases c_8
      -- end
    · refine cx_iconst (v := 1) hE d_Me_beginUnit_11 (by decide) ?_
      refine cx_goto (tgt := 16) hE d_Me_beginUnit_12 (by decide) ?_
      refine cx_bipush (v := 20) hE d_Me_beginUnit_16 (by decide) ?_
      refine cx_aload_n (i := 1) hE d_Me_beginUnit_18 rfl rfl ?_
      refine cx_get hE d_Me_beginUnit_19 f_Me_40 (by assumption) (by rfl) ?_
      refine cx_invV hE d_Me_beginUnit_22 l_Me_44 hm.1 (c_ck (right := true) (code := 20) (place := (nI t.2.1)) hm) rfl (by omega) (Nat.le_of_ble_eq_true rfl) n_Ve_check (by rfl) (fun v G1 q => ?_) (fun a G1 q => by cases q.1)
      obtain ⟨q0, hm1, hs1, hc1⟩ := q
      cases q0
      show cx_V E _ _ [] G1
      obtain ⟨x1, hme1, -⟩ := hm1.2.1
      have ht1 := hs1.t ht0
      have hl1 : (tx_ck true 20 (nI t.2.1) s).2.1.length = s.2.1.length := by rw [tx_ck_all]
      have hul1 := hm1.2.2.1
      rw [hl1] at hul1
      have hc11 : G1.2.1 = G.2.1 := by rw [hc1]
      have hc12 : G1.2.2 = G.2.2 := by rw [hc1]
      have hF1 : ∀ b, F b → ∃ e, G1.1 b = some e := fun b hb => by obtain ⟨e, he⟩ := hF b hb; exact ⟨e, hs1 _ _ (Or.inl hb) he⟩
      refine cx_aload_n (i := 0) hE d_Me_beginUnit_25 rfl rfl ?_
      refine cx_newh 10 rfl hE d_Me_beginUnit_26 z_Me_18 (by omega) (by omega) (fun a_26 G_26 n_26 b_26 g_26 h_26 => ?_)
      have hme26 := cx_mn g_26 n_26 hme1
      have ht26 : tx_to G_26 a t nx (A.w t.2.2.2.1) := cx_mn g_26 n_26 ht1
      have hul26 : tx_al k G_26 A.ul A.ue ((List.range s.2.1.length).map A.ua) A.uc := tx_al.kp (X := fun _ => False) (tx_kp.ext (by rw [← g_26]; exact cx_ext.mk n_26)) (fun _ z => z) (fun _ z => z) hul1
      obtain ⟨⟨mc26, hlc26⟩, -⟩ := id hul26
      have hc26 := cx_mc g_26
      rw [hc1] at hc26
      refine cx_dup hE d_Me_beginUnit_29 ?_
      refine cx_aload_n (i := 1) hE d_Me_beginUnit_30 rfl rfl ?_
      refine cx_aload_n (i := 0) hE d_Me_beginUnit_31 rfl rfl ?_
      refine cx_get hE d_Me_beginUnit_32 f_Me_12 (by assumption) (by rfl) ?_
      refine cx_invV1 hE d_Me_beginUnit_35 l_Me_50 hlc26 (c_AL_size hul26) rfl (by omega) (Nat.le_of_ble_eq_true rfl) n_AL_size (by rfl) ?_
      rw [List.length_map, List.length_range]
      refine cx_invI hE d_Me_beginUnit_38 l_Me_25 (c_Un_init h_26 ht26 (by omega) (by omega)) rfl (by omega) (Nat.le_of_ble_eq_true rfl) n_Un_init (by rfl) (fun v G2 q => ?_) (fun a G2 q => by cases q.1)
      obtain ⟨q0, la, q1, q2, q3, q4, q5, q6⟩ := q
      cases q0
      show cx_V E _ _ [.ref a_26, .ref A.me] G2
      have hne26 : ∀ c e, G1.1 c = some e → c ≠ a_26 := fun c e hc z => by rw [z, n_26] at hc; cases hc
      have hext2 : cx_ext G1 G2 := fun c e hc => q4 c e (hne26 c e hc) (cx_mn g_26 n_26 hc)
      have hme2 := hext2 _ _ hme1
      have hla : G1.1 la = none := by
        cases hz : G1.1 la with
        | none => rfl
        | some e => rw [cx_mn g_26 n_26 hz] at q1; cases q1
      refine cx_putg hE d_Me_beginUnit_41 f_Me_28 (by assumption) (Nat.le_of_ble_eq_true rfl) (by first | rfl | exact cx_nr _ _) (by first | rfl | exact cx_fr _ _) (fun G_41 g_41 h_41 => ?_)
      refine cx_vret hE d_Me_beginUnit_44 rfl ?_
      have hbu := hm1.bu (t := t) hF1 (hu1n true) (by rw [hl1]; omega) hext2 n_26 hla (by rw [hl1]; exact q2) q3 hme2 g_41
      rw [hl1] at hbu
      refine ⟨A.bu s.2.1.length a_26 la (k.2.2.2.2.2.1 0), rfl, rfl, rfl, rfl, rfl, if_pos rfl, (by rw [show tx_bun t s = (tx_ck true 20 (nI t.2.1) s).bu t by unfold tx_bun; rw [hd]; rfl]; exact hbu.1), hs1.tr hbu.2, ?_, ?_⟩
      · rw [cx_pc g_41]; omega
      · rw [cx_pc g_41]; omega
  | some q =>
    refine cx_aload_n (i := 0) hE d_Me_beginUnit_0 rfl rfl ?_
    refine cx_get hE d_Me_beginUnit_1 f_Me_32 (by assumption) (by rfl) ?_
    refine cx_aload_n (i := 1) hE d_Me_beginUnit_4 rfl rfl ?_
    have hmo := c_Me_moduleOf (l := l) hm ht
    rw [hd] at hmo
    refine cx_invS1 hE d_Me_beginUnit_5 l_Me_36 hmo rfl (by omega) (Nat.le_of_ble_eq_true rfl) n_Me_moduleOf (by rfl) ?_
    refine cx_ifnonnull (tgt := 15) (r := some (A.ua q)) hE d_Me_beginUnit_8 (by decide) (fun a_8 c_8 => ?_) (fun c_8 => ?_)
    · refine cx_iconst (v := 0) hE d_Me_beginUnit_15 (by decide) ?_
      refine cx_bipush (v := 20) hE d_Me_beginUnit_16 (by decide) ?_
      refine cx_aload_n (i := 1) hE d_Me_beginUnit_18 rfl rfl ?_
      refine cx_get hE d_Me_beginUnit_19 f_Me_40 (by assumption) (by rfl) ?_
      refine cx_invV hE d_Me_beginUnit_22 l_Me_44 hm.1 (c_ck (right := false) (code := 20) (place := (nI t.2.1)) hm) rfl (by omega) (Nat.le_of_ble_eq_true rfl) n_Ve_check (by rfl) (fun v G1 q => ?_) (fun a G1 q => by cases q.1)
      obtain ⟨q0, hm1, hs1, hc1⟩ := q
      cases q0
      show cx_V E _ _ [] G1
      obtain ⟨x1, hme1, -⟩ := hm1.2.1
      have ht1 := hs1.t ht0
      have hl1 : (tx_ck false 20 (nI t.2.1) s).2.1.length = s.2.1.length := by rw [tx_ck_all]
      have hul1 := hm1.2.2.1
      rw [hl1] at hul1
      have hc11 : G1.2.1 = G.2.1 := by rw [hc1]
      have hc12 : G1.2.2 = G.2.2 := by rw [hc1]
      have hF1 : ∀ b, F b → ∃ e, G1.1 b = some e := fun b hb => by obtain ⟨e, he⟩ := hF b hb; exact ⟨e, hs1 _ _ (Or.inl hb) he⟩
      refine cx_aload_n (i := 0) hE d_Me_beginUnit_25 rfl rfl ?_
      refine cx_newh 10 rfl hE d_Me_beginUnit_26 z_Me_18 (by omega) (by omega) (fun a_26 G_26 n_26 b_26 g_26 h_26 => ?_)
      have hme26 := cx_mn g_26 n_26 hme1
      have ht26 : tx_to G_26 a t nx (A.w t.2.2.2.1) := cx_mn g_26 n_26 ht1
      have hul26 : tx_al k G_26 A.ul A.ue ((List.range s.2.1.length).map A.ua) A.uc := tx_al.kp (X := fun _ => False) (tx_kp.ext (by rw [← g_26]; exact cx_ext.mk n_26)) (fun _ z => z) (fun _ z => z) hul1
      obtain ⟨⟨mc26, hlc26⟩, -⟩ := id hul26
      have hc26 := cx_mc g_26
      rw [hc1] at hc26
      refine cx_dup hE d_Me_beginUnit_29 ?_
      refine cx_aload_n (i := 1) hE d_Me_beginUnit_30 rfl rfl ?_
      refine cx_aload_n (i := 0) hE d_Me_beginUnit_31 rfl rfl ?_
      refine cx_get hE d_Me_beginUnit_32 f_Me_12 (by assumption) (by rfl) ?_
      refine cx_invV1 hE d_Me_beginUnit_35 l_Me_50 hlc26 (c_AL_size hul26) rfl (by omega) (Nat.le_of_ble_eq_true rfl) n_AL_size (by rfl) ?_
      rw [List.length_map, List.length_range]
      refine cx_invI hE d_Me_beginUnit_38 l_Me_25 (c_Un_init h_26 ht26 (by omega) (by omega)) rfl (by omega) (Nat.le_of_ble_eq_true rfl) n_Un_init (by rfl) (fun v G2 q => ?_) (fun a G2 q => by cases q.1)
      obtain ⟨q0, la, q1, q2, q3, q4, q5, q6⟩ := q
      cases q0
      show cx_V E _ _ [.ref a_26, .ref A.me] G2
      have hne26 : ∀ c e, G1.1 c = some e → c ≠ a_26 := fun c e hc z => by rw [z, n_26] at hc; cases hc
      have hext2 : cx_ext G1 G2 := fun c e hc => q4 c e (hne26 c e hc) (cx_mn g_26 n_26 hc)
      have hme2 := hext2 _ _ hme1
      have hla : G1.1 la = none := by
        cases hz : G1.1 la with
        | none => rfl
        | some e => rw [cx_mn g_26 n_26 hz] at q1; cases q1
      refine cx_putg hE d_Me_beginUnit_41 f_Me_28 (by assumption) (Nat.le_of_ble_eq_true rfl) (by first | rfl | exact cx_nr _ _) (by first | rfl | exact cx_fr _ _) (fun G_41 g_41 h_41 => ?_)
      refine cx_vret hE d_Me_beginUnit_44 rfl ?_
      have hbu := hm1.bu (t := t) hF1 (hu1n false) (by rw [hl1]; omega) hext2 n_26 hla (by rw [hl1]; exact q2) q3 hme2 g_41
      rw [hl1] at hbu
      refine ⟨A.bu s.2.1.length a_26 la (k.2.2.2.2.2.1 0), rfl, rfl, rfl, rfl, rfl, if_pos rfl, (by rw [show tx_bun t s = (tx_ck false 20 (nI t.2.1) s).bu t by unfold tx_bun; rw [hd]; rfl]; exact hbu.1), hs1.tr hbu.2, ?_, ?_⟩
      · rw [cx_pc g_41]; omega
      · rw [cx_pc g_41]; omega
    · cases c_8
      -- end
set_option maxRecDepth 100000 in
theorem c_Me_finishUnit {k : cx_K} {l : Launch} {G : cx_G} {F : Nat → Prop} {A : tx_A} {s : tx_S} {u : tx_U} (hu : s.2.2.1 = some u) (hm : tx_m k F G A s) (hF : ∀ b, F b → ∃ e, G.1 b = some e) (hn : u.2.2.1.length < 45000) (hn2 : s.2.1.length < 45000) (r1 : G.2.1 + 1 ≤ 601024) (r2 : G.2.2 + 2 * A.uc + 10 ≤ 7293034) : cx_Sp k l m_Me_finishUnit 7 [.ref A.me] G (tx_fq k F G A (tx_fun s)) := by
  intro E hE
  have huu : s.uu = u := by unfold tx_S.uu; rw [hu]; rfl
  have hro := r1
  have hcap0 := (hm.2.2.2.2.1 _ u (tx_S.cur hu)).le
  rw [List.length_map, List.length_range] at hcap0
  have hloop : ∀ (m q : Nat) (G1 : cx_G) (s1 : tx_S), u.2.2.1.length - q = m → q ≤ u.2.2.1.length → s1.2 = s.2 → tx_m k F G1 A s1 → tx_st F G G1 → G1.2 = G.2 → (u.2.2.1.drop q).foldl tx_fck s1 = u.2.2.1.foldl tx_fck s → cx_V E 2 [(1, false, .int (nI q)), (0, false, .ref A.me)] [] G1 := by
    intro m
    induction m with
    | zero =>
      intro q G1 s1 hm9 hq h2 hm1 hst1 hc1 hfo
      have hF1 : ∀ b, F b → ∃ e, G1.1 b = some e := fun b hb => by obtain ⟨e, he⟩ := hF b hb; exact ⟨e, hst1 _ _ (Or.inl hb) he⟩
      rw [List.drop_eq_nil_of_le (by omega)] at hfo
      have hu1 : s1.2.2.1 = some u := by rw [h2]; exact hu
      have hl1 : s1.2.1.length = s.2.1.length := by rw [h2]
      obtain ⟨x1, hme1, hxu1⟩ := hm1.2.1
      have hxu1 := hxu1 u hu1
      rw [hl1] at hxu1
      subst hxu1
      have hun1 := hm1.2.2.2.1 _ u (tx_S.cur hu1)
      rw [hl1] at hun1
      unfold tx_um at hun1
      have hll := hm1.2.2.2.2.1 _ u (tx_S.cur hu1)
      rw [hl1] at hll
      obtain ⟨⟨mc, hlc⟩, -⟩ := id hll
      have hcap := hll.le
      rw [List.length_map, List.length_range] at hcap
      have hge : ∀ q, q < u.2.2.1.length → ((List.range u.2.2.1.length).map (A.na s.2.1.length)).getD q 0 = A.na s.2.1.length q := by
        intro q hq
        rw [List.getD_eq_getElem?_getD, List.getElem?_map, List.getElem?_range hq]
        rfl
      cases hw : A.w u.1 with
      | none =>
        refine cx_iload_n (i := 1) hE d_Me_finishUnit_2 rfl rfl ?_
        refine cx_aload_n (i := 0) hE d_Me_finishUnit_3 rfl rfl ?_
        refine cx_get hE d_Me_finishUnit_4 f_Me_28 (by assumption) (by rfl) ?_
        refine cx_get hE d_Me_finishUnit_7 f_Me_54 (by assumption) (by rfl) ?_
        refine cx_invV1 hE d_Me_finishUnit_10 l_Me_50 hlc (c_AL_size hll) rfl (by omega) (Nat.le_of_ble_eq_true rfl) n_AL_size (by rfl) ?_
        rw [List.length_map, List.length_range]
        refine cx_icmp_ge (tgt := 69)  hE d_Me_finishUnit_13 (by decide) (fun c_13 => ?_) (fun c_13 => ?_)
        · refine cx_aload_n (i := 0) hE d_Me_finishUnit_69 rfl rfl ?_
          refine cx_get hE d_Me_finishUnit_70 f_Me_12 (by assumption) (by rfl) ?_
          refine cx_aload_n (i := 0) hE d_Me_finishUnit_73 rfl rfl ?_
          refine cx_get hE d_Me_finishUnit_74 f_Me_28 (by assumption) (by rfl) ?_
          have hul := hm1.2.2.1
          rw [hl1] at hul
          obtain ⟨⟨mcu, hulc⟩, -⟩ := id hul
          have hus := tx_units hm1
          rw [hl1] at hus
          have hucap := hul.le
          rw [List.length_map, List.length_range] at hucap
          refine cx_invV hE d_Me_finishUnit_77 l_Me_72 hulc (c_AL_add1 hul (tx_any8 hun1) (fun y hy => by obtain ⟨fs, z⟩ := hus y hy; exact tx_any8 z) (by omega) (by rw [hc1]; omega) (by rw [hc1]; omega)) rfl (by omega) (Nat.le_of_ble_eq_true rfl) n_AL_add1 (by rfl) (fun v G4 q => ?_) (fun a G4 q => by cases q.1)
          obtain ⟨q0, hq4⟩ := q
          cases q0
          show cx_V E _ _ [.int 1] G4
          have hob : ∀ (c ci : Nat) (fs : List Value), ci ≠ 13 → G1.1 c = some (.inr (ci, fs)) → G4.1 c = some (.inr (ci, fs)) := by
            intro c ci fs hci hc
            obtain ⟨ed, cap, -, -, al3, -⟩ := hq4
            refine al3 _ _ (cx_neO hulc hc hci) ?_ hc
            rcases hul.2 with ⟨z, -⟩ | ⟨f, z, -⟩
            · exact Or.inl z
            · exact Or.inr (cx_neA z hc)
          have hme4 := hob _ _ _ (by decide) hme1
          have hun4 := hob _ _ _ (by decide) hun1
          rw [hw] at hun4
          refine cx_pop hE d_Me_finishUnit_80 ?_
          refine cx_aload_n (i := 0) hE d_Me_finishUnit_81 rfl rfl ?_
          refine cx_get hE d_Me_finishUnit_82 f_Me_28 (by assumption) (by rfl) ?_
          refine cx_get hE d_Me_finishUnit_85 f_Me_76 (by assumption) (by rfl) ?_
          refine cx_ifnull (tgt := 105) (r := none) hE d_Me_finishUnit_88 (by decide) (fun c_88 => ?_) (fun a_88 c_88 => ?_)
          · refine cx_vret hE d_Me_finishUnit_105 rfl ?_
            rw [← hl1] at hq4
            obtain ⟨ed, cap, hm5, hst5, y1, y2, y3, y4⟩ := hm1.fu (G3 := G4) hF1 hu1 hq4 (Or.inl ⟨hw, rfl⟩)
            rw [hc1] at y1 y2 y3 y4
            refine ⟨A.fu ed cap, rfl, rfl, rfl, rfl, (by rw [show tx_fun s = s1.fu by unfold tx_fun; rw [huu]; rw [← hfo]; rfl]; exact hm5), hst1.tr hst5, by omega, by omega, by omega, ?_⟩
            exact y4
          · cases c_88
            -- end
        · exact absurd (nJ_lt (by omega) c_13) (by omega)
          -- end
      | some w =>
        obtain ⟨T, hT, hTw⟩ : ∃ T, u.1 = some T ∧ A.wf T = some w := by
          cases hx : u.1 with
          | none => rw [hx] at hw; cases hw
          | some T => rw [hx] at hw; exact ⟨T, rfl, hw⟩
        obtain ⟨nx9, kd9, tb9, hwd1, -⟩ := hm1.2.2.2.2.2.2.1 T w hTw
        refine cx_iload_n (i := 1) hE d_Me_finishUnit_2 rfl rfl ?_
        refine cx_aload_n (i := 0) hE d_Me_finishUnit_3 rfl rfl ?_
        refine cx_get hE d_Me_finishUnit_4 f_Me_28 (by assumption) (by rfl) ?_
        refine cx_get hE d_Me_finishUnit_7 f_Me_54 (by assumption) (by rfl) ?_
        refine cx_invV1 hE d_Me_finishUnit_10 l_Me_50 hlc (c_AL_size hll) rfl (by omega) (Nat.le_of_ble_eq_true rfl) n_AL_size (by rfl) ?_
        rw [List.length_map, List.length_range]
        refine cx_icmp_ge (tgt := 69)  hE d_Me_finishUnit_13 (by decide) (fun c_13 => ?_) (fun c_13 => ?_)
        · refine cx_aload_n (i := 0) hE d_Me_finishUnit_69 rfl rfl ?_
          refine cx_get hE d_Me_finishUnit_70 f_Me_12 (by assumption) (by rfl) ?_
          refine cx_aload_n (i := 0) hE d_Me_finishUnit_73 rfl rfl ?_
          refine cx_get hE d_Me_finishUnit_74 f_Me_28 (by assumption) (by rfl) ?_
          have hul := hm1.2.2.1
          rw [hl1] at hul
          obtain ⟨⟨mcu, hulc⟩, -⟩ := id hul
          have hus := tx_units hm1
          rw [hl1] at hus
          have hucap := hul.le
          rw [List.length_map, List.length_range] at hucap
          refine cx_invV hE d_Me_finishUnit_77 l_Me_72 hulc (c_AL_add1 hul (tx_any8 hun1) (fun y hy => by obtain ⟨fs, z⟩ := hus y hy; exact tx_any8 z) (by omega) (by rw [hc1]; omega) (by rw [hc1]; omega)) rfl (by omega) (Nat.le_of_ble_eq_true rfl) n_AL_add1 (by rfl) (fun v G4 q => ?_) (fun a G4 q => by cases q.1)
          obtain ⟨q0, hq4⟩ := q
          cases q0
          show cx_V E _ _ [.int 1] G4
          have hob : ∀ (c ci : Nat) (fs : List Value), ci ≠ 13 → G1.1 c = some (.inr (ci, fs)) → G4.1 c = some (.inr (ci, fs)) := by
            intro c ci fs hci hc
            obtain ⟨ed, cap, -, -, al3, -⟩ := hq4
            refine al3 _ _ (cx_neO hulc hc hci) ?_ hc
            rcases hul.2 with ⟨z, -⟩ | ⟨f, z, -⟩
            · exact Or.inl z
            · exact Or.inr (cx_neA z hc)
          have hme4 := hob _ _ _ (by decide) hme1
          have hun4 := hob _ _ _ (by decide) hun1
          rw [hw] at hun4
          have hwd4 := hob _ _ _ (by decide) hwd1
          refine cx_pop hE d_Me_finishUnit_80 ?_
          refine cx_aload_n (i := 0) hE d_Me_finishUnit_81 rfl rfl ?_
          refine cx_get hE d_Me_finishUnit_82 f_Me_28 (by assumption) (by rfl) ?_
          refine cx_get hE d_Me_finishUnit_85 f_Me_76 (by assumption) (by rfl) ?_
          refine cx_ifnull (tgt := 105) (r := some w) hE d_Me_finishUnit_88 (by decide) (fun c_88 => ?_) (fun a_88 c_88 => ?_)
          · cases c_88
            -- end
          · refine cx_aload_n (i := 0) hE d_Me_finishUnit_91 rfl rfl ?_
            refine cx_get hE d_Me_finishUnit_92 f_Me_28 (by assumption) (by rfl) ?_
            refine cx_get hE d_Me_finishUnit_95 f_Me_76 (by assumption) (by rfl) ?_
            refine cx_aload_n (i := 0) hE d_Me_finishUnit_98 rfl rfl ?_
            refine cx_get hE d_Me_finishUnit_99 f_Me_28 (by assumption) (by rfl) ?_
            refine cx_putg hE d_Me_finishUnit_102 f_Me_80 (by assumption) (Nat.le_of_ble_eq_true rfl) (by first | rfl | exact cx_nr _ _) (by first | rfl | exact cx_fr _ _) (fun G_102 g_102 h_102 => ?_)
            refine cx_vret hE d_Me_finishUnit_105 rfl ?_
            rw [← hl1] at hq4
            obtain ⟨ed, cap, hm5, hst5, y1, y2, y3, y4⟩ := hm1.fu (G3 := G_102) hF1 hu1 hq4 (by rw [hl1]; exact Or.inr ⟨T, w, _, _, _, _, _, hT, hTw, hwd4, g_102.symm⟩)
            rw [hc1] at y1 y2 y3 y4
            refine ⟨A.fu ed cap, rfl, rfl, rfl, rfl, (by rw [show tx_fun s = s1.fu by unfold tx_fun; rw [huu]; rw [← hfo]; rfl]; exact hm5), hst1.tr hst5, by omega, by omega, by omega, ?_⟩
            exact y4
        · exact absurd (nJ_lt (by omega) c_13) (by omega)
          -- end
    | succ m ih =>
      intro q G1 s1 hm9 hq h2 hm1 hst1 hc1 hfo
      have hu1 : s1.2.2.1 = some u := by rw [h2]; exact hu
      have hl1 : s1.2.1.length = s.2.1.length := by rw [h2]
      obtain ⟨x1, hme1, hxu1⟩ := hm1.2.1
      have hxu1 := hxu1 u hu1
      rw [hl1] at hxu1
      subst hxu1
      have hun1 := hm1.2.2.2.1 _ u (tx_S.cur hu1)
      rw [hl1] at hun1
      unfold tx_um at hun1
      have hll := hm1.2.2.2.2.1 _ u (tx_S.cur hu1)
      rw [hl1] at hll
      obtain ⟨⟨mc, hlc⟩, -⟩ := id hll
      have hcap := hll.le
      rw [List.length_map, List.length_range] at hcap
      have hge : ∀ q, q < u.2.2.1.length → ((List.range u.2.2.1.length).map (A.na s.2.1.length)).getD q 0 = A.na s.2.1.length q := by
        intro q hq
        rw [List.getD_eq_getElem?_getD, List.getElem?_map, List.getElem?_range hq]
        rfl
      have hql : q < u.2.2.1.length := by omega
      obtain ⟨r, hr⟩ : ∃ r, u.2.2.1[q]? = some r := ⟨_, List.getElem?_eq_getElem hql⟩
      have hdr : u.2.2.1.drop q = r :: u.2.2.1.drop (q + 1) := by rw [List.drop_eq_getElem_cons hql]; rw [List.getElem?_eq_getElem hql] at hr; rw [Option.some.inj hr]
      have hn9 := hm1.2.2.2.2.2.1 _ u (tx_S.cur hu1) q r hr
      rw [hl1] at hn9
      unfold tx_nm at hn9
      refine cx_iload_n (i := 1) hE d_Me_finishUnit_2 rfl rfl ?_
      refine cx_aload_n (i := 0) hE d_Me_finishUnit_3 rfl rfl ?_
      refine cx_get hE d_Me_finishUnit_4 f_Me_28 (by assumption) (by rfl) ?_
      refine cx_get hE d_Me_finishUnit_7 f_Me_54 (by assumption) (by rfl) ?_
      refine cx_invV1 hE d_Me_finishUnit_10 l_Me_50 hlc (c_AL_size hll) rfl (by omega) (Nat.le_of_ble_eq_true rfl) n_AL_size (by rfl) ?_
      rw [List.length_map, List.length_range]
      refine cx_icmp_ge (tgt := 69)  hE d_Me_finishUnit_13 (by decide) (fun c_13 => ?_) (fun c_13 => ?_)
      · exact absurd c_13 (nI_ge (a := q) (b := u.2.2.1.length) (by omega) (by omega))
        -- end
      · refine cx_aload_n (i := 0) hE d_Me_finishUnit_16 rfl rfl ?_
        refine cx_get hE d_Me_finishUnit_17 f_Me_28 (by assumption) (by rfl) ?_
        refine cx_get hE d_Me_finishUnit_20 f_Me_54 (by assumption) (by rfl) ?_
        refine cx_iload_n (i := 1) hE d_Me_finishUnit_23 rfl rfl ?_
        refine cx_invV1 hE d_Me_finishUnit_24 l_Me_57 hlc (c_AL_get (i := q) hll (by rw [List.length_map, List.length_range]; omega) (by omega)) rfl (by omega) (Nat.le_of_ble_eq_true rfl) n_AL_get (by rfl) ?_
        rw [hge q (by omega)]
        refine cx_cast hE d_Me_finishUnit_27 hn9 rfl (in_4 (List.mem_of_getElem? (i := 131) rfl)) ?_
        refine cx_astore_n (i := 2) hE d_Me_finishUnit_30 rfl (by decide) ?_
        refine cx_aload_n (i := 0) hE d_Me_finishUnit_31 rfl rfl ?_
        refine cx_get hE d_Me_finishUnit_32 f_Me_32 (by assumption) (by rfl) ?_
        refine cx_aload_n (i := 2) hE d_Me_finishUnit_35 rfl rfl ?_
        refine cx_get hE d_Me_finishUnit_36 f_Me_63 (by assumption) (by rfl) ?_
        refine cx_if_ne (tgt := 49)  hE d_Me_finishUnit_39 (by decide) (fun c_39 => ?_) (fun c_39 => ?_)
        · have q_9 : (r.2.2.2.2.2.1 || !decide (r.2.1 = 1 ∨ r.2.1 = 3)) = true := by rw [cx_bn.mp c_39]; rfl
          refine cx_iconst (v := 1) hE d_Me_finishUnit_49 (by decide) ?_
          refine cx_goto (tgt := 54) hE d_Me_finishUnit_50 (by decide) ?_
          refine cx_bipush (v := 33) hE d_Me_finishUnit_54 (by decide) ?_
          refine cx_aload_n (i := 2) hE d_Me_finishUnit_56 rfl rfl ?_
          refine cx_get hE d_Me_finishUnit_57 f_Me_71 (by assumption) (by rfl) ?_
          refine cx_invV hE d_Me_finishUnit_60 l_Me_44 hm1.1 (c_ck (right := true) (code := 33) (place := (nI r.2.2.2.1)) hm1) rfl (by omega) (Nat.le_of_ble_eq_true rfl) n_Ve_check (by rfl) (fun v G2 q => ?_) (fun a G2 q => by cases q.1)
          obtain ⟨q0, hm2, hs2, hc2⟩ := q
          cases q0
          show cx_V E _ _ [] G2
          refine cx_iinc (v := nI (q + 1)) hE d_Me_finishUnit_63 rfl (nI_1 _) (by decide) ?_
          refine cx_goto (tgt := 2) hE d_Me_finishUnit_66 (by decide) ?_
          refine cx_sub [0, 2] rfl ?_
          exact ih (q + 1) _ _ (by omega) (by omega) (by rw [tx_ck_all]; exact h2) hm2 (hst1.tr hs2) (hc2.trans hc1) (by rw [← hfo, hdr]; show _ = List.foldl tx_fck (tx_fck s1 r) _; unfold tx_fck; rw [q_9])
        · refine cx_aload_n (i := 2) hE d_Me_finishUnit_42 rfl rfl ?_
          refine cx_invV1 hE d_Me_finishUnit_43 l_Me_67 hn9 (c_Nm_isDrivable hn9) rfl (by omega) (Nat.le_of_ble_eq_true rfl) n_Nm_isDrivable (by rfl) ?_
          refine cx_if_ne (tgt := 53)  hE d_Me_finishUnit_46 (by decide) (fun c_46 => ?_) (fun c_46 => ?_)
          · have q_9 : (r.2.2.2.2.2.1 || !decide (r.2.1 = 1 ∨ r.2.1 = 3)) = false := by rw [cx_bn.mp c_46, cx_b0.mp (show cx_b r.2.2.2.2.2.1 = 0 by simpa using c_39)]; rfl
            refine cx_iconst (v := 0) hE d_Me_finishUnit_53 (by decide) ?_
            refine cx_bipush (v := 33) hE d_Me_finishUnit_54 (by decide) ?_
            refine cx_aload_n (i := 2) hE d_Me_finishUnit_56 rfl rfl ?_
            refine cx_get hE d_Me_finishUnit_57 f_Me_71 (by assumption) (by rfl) ?_
            refine cx_invV hE d_Me_finishUnit_60 l_Me_44 hm1.1 (c_ck (right := false) (code := 33) (place := (nI r.2.2.2.1)) hm1) rfl (by omega) (Nat.le_of_ble_eq_true rfl) n_Ve_check (by rfl) (fun v G2 q => ?_) (fun a G2 q => by cases q.1)
            obtain ⟨q0, hm2, hs2, hc2⟩ := q
            cases q0
            show cx_V E _ _ [] G2
            refine cx_iinc (v := nI (q + 1)) hE d_Me_finishUnit_63 rfl (nI_1 _) (by decide) ?_
            refine cx_goto (tgt := 2) hE d_Me_finishUnit_66 (by decide) ?_
            refine cx_sub [0, 2] rfl ?_
            exact ih (q + 1) _ _ (by omega) (by omega) (by rw [tx_ck_all]; exact h2) hm2 (hst1.tr hs2) (hc2.trans hc1) (by rw [← hfo, hdr]; show _ = List.foldl tx_fck (tx_fck s1 r) _; unfold tx_fck; rw [q_9])
          · have q_9 : (r.2.2.2.2.2.1 || !decide (r.2.1 = 1 ∨ r.2.1 = 3)) = true := by rw [cx_b0.mp c_46]; simp
            refine cx_iconst (v := 1) hE d_Me_finishUnit_49 (by decide) ?_
            refine cx_goto (tgt := 54) hE d_Me_finishUnit_50 (by decide) ?_
            refine cx_bipush (v := 33) hE d_Me_finishUnit_54 (by decide) ?_
            refine cx_aload_n (i := 2) hE d_Me_finishUnit_56 rfl rfl ?_
            refine cx_get hE d_Me_finishUnit_57 f_Me_71 (by assumption) (by rfl) ?_
            refine cx_invV hE d_Me_finishUnit_60 l_Me_44 hm1.1 (c_ck (right := true) (code := 33) (place := (nI r.2.2.2.1)) hm1) rfl (by omega) (Nat.le_of_ble_eq_true rfl) n_Ve_check (by rfl) (fun v G2 q => ?_) (fun a G2 q => by cases q.1)
            obtain ⟨q0, hm2, hs2, hc2⟩ := q
            cases q0
            show cx_V E _ _ [] G2
            refine cx_iinc (v := nI (q + 1)) hE d_Me_finishUnit_63 rfl (nI_1 _) (by decide) ?_
            refine cx_goto (tgt := 2) hE d_Me_finishUnit_66 (by decide) ?_
            refine cx_sub [0, 2] rfl ?_
            exact ih (q + 1) _ _ (by omega) (by omega) (by rw [tx_ck_all]; exact h2) hm2 (hst1.tr hs2) (hc2.trans hc1) (by rw [← hfo, hdr]; show _ = List.foldl tx_fck (tx_fck s1 r) _; unfold tx_fck; rw [q_9])
  refine cx_iconst (v := 0) hE d_Me_finishUnit_0 (by decide) ?_
  refine cx_istore_n (i := 1) hE d_Me_finishUnit_1 rfl (by decide) ?_
  refine cx_sub [0, 1] rfl ?_
  exact hloop _ 0 G s rfl (Nat.zero_le _) rfl hm (tx_st.rf _ _) rfl rfl

/-! MEANING: its methods that make cells. -/
theorem tx_any4 {G : cx_G} {v : Nat} {fs : List Value} (h : G.1 v = some (.inr (4, fs))) : cx_any G v := ⟨4, fs, _, h, rfl, (in_8 (List.mem_of_getElem? (i := 152) rfl))⟩
theorem tx_any8 {G : cx_G} {v : Nat} {fs : List Value} (h : G.1 v = some (.inr (8, fs))) : cx_any G v := ⟨8, fs, _, h, rfl, (in_8 (List.mem_of_getElem? (i := 145) rfl))⟩
/-- what a method that declares leaves: the new name's place, and where things lie now -/
def tx_dq (k : cx_K) (F : Nat → Prop) (G : cx_G) (A : tx_A) (n len : Nat) (s' : tx_S) : cx_R → cx_G → Prop := fun r G' => ∃ A' : tx_A, r = .inl (some (.ref (A'.na n len))) ∧ A'.me = A.me ∧ A'.ve = A.ve ∧ A'.wf = A.wf ∧ A'.uc = A.uc ∧ A'.ua = A.ua ∧ tx_m k F G' A' s' ∧ tx_st F G G' ∧ G.2.1 ≤ G'.2.1 ∧ G'.2.1 ≤ G.2.1 + 2 ∧ G.2.2 ≤ G'.2.2 ∧ G'.2.2 + 4 * A.nc n ≤ G.2.2 + 11 + 4 * A'.nc n
theorem tx_names {k : cx_K} {F : Nat → Prop} {G : cx_G} {A : tx_A} {s : tx_S} (hm : tx_m k F G A s) {j : Nat} {u : tx_U} (hj : s.all[j]? = some u) : ∀ y ∈ (List.range u.2.2.1.length).map (A.na j), ∃ fs, G.1 y = some (.inr (4, fs)) := by
  intro y hy
  obtain ⟨q, hq, rfl⟩ := List.mem_map.mp hy
  have hq9 := List.mem_range.mp hq
  exact ⟨_, hm.2.2.2.2.2.1 j u hj q _ (List.getElem?_eq_getElem hq9)⟩
set_option maxRecDepth 100000 in
theorem c_Me_declare {k : cx_K} {l : Launch} {G : cx_G} {F : Nat → Prop} {A : tx_A} {s : tx_S} {u : tx_U} (hu : s.2.2.1 = some u) {a : Nat} {t : tx_Tk} (ht : tx_tw G A a t) {kd wd : Int32} (hm : tx_m k F G A s) (hF : ∀ b, F b → ∃ e, G.1 b = some e) (hn : u.2.2.1.length < 45000) (r1 : G.2.1 + 2 ≤ 601024) (r2 : G.2.2 + 2 * A.nc s.2.1.length + 30 ≤ 7293034) : cx_Sp k l m_Me_declare 7 [.ref A.me, .ref a, .int kd, .int wd] G (tx_dq k F G A s.2.1.length u.2.2.1.length (tx_dcl t kd wd s)) := by
  intro E hE
  cases hd : s.da t.2.2.2.1 with
  | none =>
    cases hw : A.w t.2.2.2.1 with
    | none =>
      have htn : t.2.2.2.1 = none := by
        cases hx : t.2.2.2.1 with
        | none => rfl
        | some T =>
          obtain ⟨w, z⟩ := ht.choose_spec.2 T hx
          rw [hx] at hw
          exact absurd (z.symm.trans hw) (fun q => by cases q)
      refine cx_newh 11 rfl hE d_Me_declare_0 z_Me_61 (by omega) (by omega) (fun a_0 G_0 n_0 b_0 g_0 h_0 => ?_)
      have hmk := (hm.keep n_0).ext (cx_ext.mk (n := 11) (e := .inr (4, [.null, .null, .int 0, .int 0, .int 0, .long 0, .int 0, .int 0, .null, .int 0, .null])) n_0)
      rw [g_0] at hmk
      obtain ⟨x0, hme, hxu⟩ := hmk.2.1
      have hxu := hxu u hu
      subst hxu
      have ht_0 : tx_tw G_0 A a t := by
        obtain ⟨nx, z1, z2⟩ := ht
        exact ⟨nx, cx_mn g_0 n_0 z1, z2⟩
      obtain ⟨nx, ht0, hwf⟩ := id ht_0
      refine cx_dup hE d_Me_declare_3 ?_
      refine cx_aload_n (i := 0) hE d_Me_declare_4 rfl rfl ?_
      refine cx_get hE d_Me_declare_5 f_Me_28 (by assumption) (by rfl) ?_
      refine cx_aload_n (i := 1) hE d_Me_declare_8 rfl rfl ?_
      refine cx_iload_n (i := 2) hE d_Me_declare_9 rfl rfl ?_
      refine cx_iload_n (i := 3) hE d_Me_declare_10 rfl rfl ?_
      refine cx_invI0 hE d_Me_declare_11 l_Me_90 (c_Nm_init h_0 ht0) rfl (by omega) (Nat.le_of_ble_eq_true rfl) n_Nm_init (by rfl) ?_
      refine cx_gen (fun G1 g1 => ?_)
      have e1 : G1 = cx_mk G a_0 (tx_nm A s.2.1.length (tx_new0 t kd wd)) 11 := by
        rw [← g1, ← g_0, cx_mp]
        rfl
      have hext1 : cx_ext G G1 := by rw [e1]; exact cx_ext.mk n_0
      have hx1 : G1.1 a_0 = some (tx_nm A s.2.1.length (tx_new0 t kd wd)) := by rw [e1]; exact cx_ms rfl
      have hm1 := (hm.keep n_0).ext hext1
      have ht1 : tx_tw G1 A a t := by
        obtain ⟨nx, z1, z2⟩ := ht
        exact ⟨nx, hext1 _ _ z1, z2⟩
      obtain ⟨nx1, ht01, hwf1⟩ := id ht1
      have hta1 : G1.1 a = some (.inr (7, [.int t.1, .int (nI t.2.1), .int (nI t.2.2.1), va_rf nx1, va_rf (A.w t.2.2.2.1), .int t.2.2.2.2.1, .long t.2.2.2.2.2])) := ht01
      obtain ⟨x1, hme1, hxu1⟩ := hm1.2.1
      have hxu1 := hxu1 u hu
      subst hxu1
      have hv1 := hm1.1
      refine cx_astore hE d_Me_declare_14 (by decide) ?_
      refine cx_aload_n (i := 0) hE d_Me_declare_16 rfl rfl ?_
      refine cx_get hE d_Me_declare_17 f_Me_32 (by assumption) (by rfl) ?_
      refine cx_aload_n (i := 0) hE d_Me_declare_20 rfl rfl ?_
      refine cx_aload_n (i := 1) hE d_Me_declare_21 rfl rfl ?_
      have hda := c_Me_declaredAs (l := l) hm1 hu ht1
      rw [hd] at hda
      refine cx_invV1 hE d_Me_declare_22 l_Me_93 hme1 hda rfl (by omega) (Nat.le_of_ble_eq_true rfl) n_Me_declaredAs (by rfl) ?_
      refine cx_ifnonnull (tgt := 32) (r := none) hE d_Me_declare_25 (by decide) (fun a_25 c_25 => ?_) (fun c_25 => ?_)
      · cases c_25
        -- end
      · refine cx_iconst (v := 1) hE d_Me_declare_28 (by decide) ?_
        refine cx_goto (tgt := 33) hE d_Me_declare_29 (by decide) ?_
        refine cx_bipush (v := 21) hE d_Me_declare_33 (by decide) ?_
        refine cx_aload_n (i := 1) hE d_Me_declare_35 rfl rfl ?_
        refine cx_get hE d_Me_declare_36 f_Me_40 (by assumption) (by rfl) ?_
        refine cx_invV hE d_Me_declare_39 l_Me_44 hm1.1 (c_ck (right := true) (code := 21) (place := (nI t.2.1)) hm1) rfl (by omega) (Nat.le_of_ble_eq_true rfl) n_Ve_check (by rfl) (fun v G2 q => ?_) (fun a G2 q => by cases q.1)
        obtain ⟨q0, hm2, hs2, hc2⟩ := q
        cases q0
        show cx_V E _ _ [] G2
        have hx2 := hs2 _ _ (Or.inl (Or.inr rfl)) hx1
        have ht2 := hs2.t ht01
        have hta2 : G2.1 a = some (.inr (7, [.int t.1, .int (nI t.2.1), .int (nI t.2.2.1), va_rf nx1, va_rf (A.w t.2.2.2.1), .int t.2.2.2.2.1, .long t.2.2.2.2.2])) := ht2
        rw [hw] at hta2
        have hu2 : (tx_ck true 21 (nI t.2.1) s).2.2.1 = some u := by rw [tx_ck_all]; exact hu
        have hl2 : (tx_ck true 21 (nI t.2.1) s).2.1.length = s.2.1.length := by rw [tx_ck_all]
        obtain ⟨x2, hme2, hxu2⟩ := hm2.2.1
        have hxu2 := hxu2 u hu2
        rw [hl2] at hxu2
        subst hxu2
        have hun2 := hm2.2.2.2.1 _ u (tx_S.cur hu2)
        rw [hl2] at hun2
        unfold tx_um at hun2
        have hal2 := hm2.2.2.2.2.1 _ u (tx_S.cur hu2)
        rw [hl2] at hal2
        have hnm2 := tx_names hm2 (tx_S.cur hu2)
        rw [hl2] at hnm2
        have hc12 : G1.2.1 = G.2.1 + 1 ∧ G1.2.2 = G.2.2 + 11 := by rw [e1]; exact ⟨rfl, rfl⟩
        rw [← hc2] at hc12
        have hcap := hal2.le
        rw [List.length_map, List.length_range] at hcap
        refine cx_aload_n (i := 1) hE d_Me_declare_42 rfl rfl ?_
        refine cx_get hE d_Me_declare_43 f_Me_89 (by assumption) (by rfl) ?_
        refine cx_ifnull (tgt := 58) (r := none) hE d_Me_declare_46 (by decide) (fun c_46 => ?_) (fun a_46 c_46 => ?_)
        · refine cx_aload_n (i := 0) hE d_Me_declare_58 rfl rfl ?_
          refine cx_get hE d_Me_declare_59 f_Me_28 (by assumption) (by rfl) ?_
          refine cx_get hE d_Me_declare_62 f_Me_54 (by assumption) (by rfl) ?_
          refine cx_aload hE d_Me_declare_65 rfl ?_
          have hal3 := hal2
          have hx3 := hx2
          have hnm3 := hnm2
          have hc3 : G2.2 = G2.2 := rfl
          obtain ⟨⟨mc3, hlc3⟩, -⟩ := id hal3
          refine cx_invV hE d_Me_declare_67 l_Me_72 hlc3 (c_AL_add1 hal3 (tx_any4 hx3) (fun y hy => by obtain ⟨fs, z⟩ := hnm3 y hy; exact tx_any4 z) (by omega) (by rw [hc3]; omega) (by rw [hc3]; omega)) rfl (by omega) (Nat.le_of_ble_eq_true rfl) n_AL_add1 (by rfl) (fun v G4 q => ?_) (fun a G4 q => by cases q.1)
          obtain ⟨q0, hq4⟩ := q
          cases q0
          show cx_V E _ _ [.int 1] G4
          rw [← hl2] at hq4
          obtain ⟨ed, cap, hm4, hst4, y1, y2, y3, y4⟩ := hm2.add (fun b hb => by obtain ⟨e, z⟩ := hF b hb; exact ⟨e, hs2 _ _ (Or.inl (Or.inl hb)) (hext1 _ _ z)⟩) (fun z => by obtain ⟨e, z9⟩ := hF _ z; rw [n_0] at z9; cases z9) hu2 (by rw [hl2]; exact hx2) rfl rfl (by omega) (fun T9 hT9 => hwf1 T9 hT9) (Or.inl ⟨htn, rfl⟩) hq4
          rw [hl2] at hm4 y4
          rw [hc3] at y1 y2 y3 y4
          refine cx_pop hE d_Me_declare_70 ?_
          refine cx_aload hE d_Me_declare_71 rfl ?_
          refine cx_aret (r := some a_0) hE d_Me_declare_73 rfl (by first | exact Or.inl ⟨_, rfl⟩ | exact Or.inr ⟨_, rfl⟩) ?_
          refine ⟨A.ad s.2.1.length u.2.2.1.length a_0 ed cap, ?_, rfl, rfl, rfl, rfl, rfl, (by rw [show tx_dcl t kd wd s = (tx_ck true 21 (nI t.2.1) s).ad (tx_new0 t kd wd) by unfold tx_dcl; rw [hd]; rfl]; exact hm4), fun b9 e9 hb he => hst4 b9 e9 hb (hs2 b9 e9 (hb.imp Or.inl (fun z => z)) (hext1 _ _ he)), by omega, by omega, by omega, ?_⟩
          · show _ = Sum.inl (some (Value.ref ((A.ad s.2.1.length u.2.2.1.length a_0 ed cap).na s.2.1.length u.2.2.1.length)))
            rw [show (A.ad s.2.1.length u.2.2.1.length a_0 ed cap).na s.2.1.length u.2.2.1.length = a_0 from if_pos ⟨rfl, rfl⟩]
            rfl
          · rw [show (A.ad s.2.1.length u.2.2.1.length a_0 ed cap).nc s.2.1.length = cap from if_pos rfl]
            omega
        · cases c_46
          -- end
    | some w =>
      obtain ⟨T, hT, hTw⟩ : ∃ T, t.2.2.2.1 = some T ∧ A.wf T = some w := by
        cases hx : t.2.2.2.1 with
        | none => rw [hx] at hw; cases hw
        | some T => rw [hx] at hw; exact ⟨T, rfl, hw⟩
      refine cx_newh 11 rfl hE d_Me_declare_0 z_Me_61 (by omega) (by omega) (fun a_0 G_0 n_0 b_0 g_0 h_0 => ?_)
      have hmk := (hm.keep n_0).ext (cx_ext.mk (n := 11) (e := .inr (4, [.null, .null, .int 0, .int 0, .int 0, .long 0, .int 0, .int 0, .null, .int 0, .null])) n_0)
      rw [g_0] at hmk
      obtain ⟨x0, hme, hxu⟩ := hmk.2.1
      have hxu := hxu u hu
      subst hxu
      have ht_0 : tx_tw G_0 A a t := by
        obtain ⟨nx, z1, z2⟩ := ht
        exact ⟨nx, cx_mn g_0 n_0 z1, z2⟩
      obtain ⟨nx, ht0, hwf⟩ := id ht_0
      refine cx_dup hE d_Me_declare_3 ?_
      refine cx_aload_n (i := 0) hE d_Me_declare_4 rfl rfl ?_
      refine cx_get hE d_Me_declare_5 f_Me_28 (by assumption) (by rfl) ?_
      refine cx_aload_n (i := 1) hE d_Me_declare_8 rfl rfl ?_
      refine cx_iload_n (i := 2) hE d_Me_declare_9 rfl rfl ?_
      refine cx_iload_n (i := 3) hE d_Me_declare_10 rfl rfl ?_
      refine cx_invI0 hE d_Me_declare_11 l_Me_90 (c_Nm_init h_0 ht0) rfl (by omega) (Nat.le_of_ble_eq_true rfl) n_Nm_init (by rfl) ?_
      refine cx_gen (fun G1 g1 => ?_)
      have e1 : G1 = cx_mk G a_0 (tx_nm A s.2.1.length (tx_new0 t kd wd)) 11 := by
        rw [← g1, ← g_0, cx_mp]
        rfl
      have hext1 : cx_ext G G1 := by rw [e1]; exact cx_ext.mk n_0
      have hx1 : G1.1 a_0 = some (tx_nm A s.2.1.length (tx_new0 t kd wd)) := by rw [e1]; exact cx_ms rfl
      have hm1 := (hm.keep n_0).ext hext1
      have ht1 : tx_tw G1 A a t := by
        obtain ⟨nx, z1, z2⟩ := ht
        exact ⟨nx, hext1 _ _ z1, z2⟩
      obtain ⟨nx1, ht01, hwf1⟩ := id ht1
      have hta1 : G1.1 a = some (.inr (7, [.int t.1, .int (nI t.2.1), .int (nI t.2.2.1), va_rf nx1, va_rf (A.w t.2.2.2.1), .int t.2.2.2.2.1, .long t.2.2.2.2.2])) := ht01
      obtain ⟨x1, hme1, hxu1⟩ := hm1.2.1
      have hxu1 := hxu1 u hu
      subst hxu1
      have hv1 := hm1.1
      refine cx_astore hE d_Me_declare_14 (by decide) ?_
      refine cx_aload_n (i := 0) hE d_Me_declare_16 rfl rfl ?_
      refine cx_get hE d_Me_declare_17 f_Me_32 (by assumption) (by rfl) ?_
      refine cx_aload_n (i := 0) hE d_Me_declare_20 rfl rfl ?_
      refine cx_aload_n (i := 1) hE d_Me_declare_21 rfl rfl ?_
      have hda := c_Me_declaredAs (l := l) hm1 hu ht1
      rw [hd] at hda
      refine cx_invV1 hE d_Me_declare_22 l_Me_93 hme1 hda rfl (by omega) (Nat.le_of_ble_eq_true rfl) n_Me_declaredAs (by rfl) ?_
      refine cx_ifnonnull (tgt := 32) (r := none) hE d_Me_declare_25 (by decide) (fun a_25 c_25 => ?_) (fun c_25 => ?_)
      · cases c_25
        -- end
      · refine cx_iconst (v := 1) hE d_Me_declare_28 (by decide) ?_
        refine cx_goto (tgt := 33) hE d_Me_declare_29 (by decide) ?_
        refine cx_bipush (v := 21) hE d_Me_declare_33 (by decide) ?_
        refine cx_aload_n (i := 1) hE d_Me_declare_35 rfl rfl ?_
        refine cx_get hE d_Me_declare_36 f_Me_40 (by assumption) (by rfl) ?_
        refine cx_invV hE d_Me_declare_39 l_Me_44 hm1.1 (c_ck (right := true) (code := 21) (place := (nI t.2.1)) hm1) rfl (by omega) (Nat.le_of_ble_eq_true rfl) n_Ve_check (by rfl) (fun v G2 q => ?_) (fun a G2 q => by cases q.1)
        obtain ⟨q0, hm2, hs2, hc2⟩ := q
        cases q0
        show cx_V E _ _ [] G2
        have hx2 := hs2 _ _ (Or.inl (Or.inr rfl)) hx1
        have ht2 := hs2.t ht01
        have hta2 : G2.1 a = some (.inr (7, [.int t.1, .int (nI t.2.1), .int (nI t.2.2.1), va_rf nx1, va_rf (A.w t.2.2.2.1), .int t.2.2.2.2.1, .long t.2.2.2.2.2])) := ht2
        rw [hw] at hta2
        have hu2 : (tx_ck true 21 (nI t.2.1) s).2.2.1 = some u := by rw [tx_ck_all]; exact hu
        have hl2 : (tx_ck true 21 (nI t.2.1) s).2.1.length = s.2.1.length := by rw [tx_ck_all]
        obtain ⟨x2, hme2, hxu2⟩ := hm2.2.1
        have hxu2 := hxu2 u hu2
        rw [hl2] at hxu2
        subst hxu2
        have hun2 := hm2.2.2.2.1 _ u (tx_S.cur hu2)
        rw [hl2] at hun2
        unfold tx_um at hun2
        have hal2 := hm2.2.2.2.2.1 _ u (tx_S.cur hu2)
        rw [hl2] at hal2
        have hnm2 := tx_names hm2 (tx_S.cur hu2)
        rw [hl2] at hnm2
        have hc12 : G1.2.1 = G.2.1 + 1 ∧ G1.2.2 = G.2.2 + 11 := by rw [e1]; exact ⟨rfl, rfl⟩
        rw [← hc2] at hc12
        have hcap := hal2.le
        rw [List.length_map, List.length_range] at hcap
        obtain ⟨nx9, kd9, tb9, hwd2, hwd3⟩ := hm2.2.2.2.2.2.2.1 T w hTw
        refine cx_aload_n (i := 1) hE d_Me_declare_42 rfl rfl ?_
        refine cx_get hE d_Me_declare_43 f_Me_89 (by assumption) (by rfl) ?_
        refine cx_ifnull (tgt := 58) (r := some w) hE d_Me_declare_46 (by decide) (fun c_46 => ?_) (fun a_46 c_46 => ?_)
        · cases c_46
          -- end
        · refine cx_aload_n (i := 1) hE d_Me_declare_49 rfl rfl ?_
          refine cx_get hE d_Me_declare_50 f_Me_89 (by assumption) (by rfl) ?_
          refine cx_aload hE d_Me_declare_53 rfl ?_
          refine cx_putg hE d_Me_declare_55 f_Me_97 (by assumption) (Nat.le_of_ble_eq_true rfl) (by first | rfl | exact cx_nr _ _) (by first | rfl | exact cx_fr _ _) (fun G_55 g_55 h_55 => ?_)
          have hme3 := cx_pn g_55 hme2 (cx_neO hwd2 hme2 (by decide))
          have hun3 := cx_pn g_55 hun2 (cx_neO hwd2 hun2 (by decide))
          refine cx_aload_n (i := 0) hE d_Me_declare_58 rfl rfl ?_
          refine cx_get hE d_Me_declare_59 f_Me_28 (by assumption) (by rfl) ?_
          refine cx_get hE d_Me_declare_62 f_Me_54 (by assumption) (by rfl) ?_
          refine cx_aload hE d_Me_declare_65 rfl ?_
          have hk3 : tx_kp (tx_is 10) G2 G_55 := by rw [← g_55]; exact tx_kp.put hwd2
          have hal3 := hal2.kp hk3 (fun _ => tx_is_ne (by decide)) (fun _ => tx_is_na)
          have hx3 := hk3 _ _ (tx_is_ne (by decide)) hx2
          have hnm3 : ∀ y ∈ (List.range u.2.2.1.length).map (A.na s.2.1.length), ∃ fs, G_55.1 y = some (.inr (4, fs)) := fun y hy => by
            obtain ⟨fs, z⟩ := hnm2 y hy
            exact ⟨fs, hk3 _ _ (tx_is_ne (by decide)) z⟩
          have hc3 : G_55.2 = G2.2 := cx_pc g_55
          obtain ⟨⟨mc3, hlc3⟩, -⟩ := id hal3
          refine cx_invV hE d_Me_declare_67 l_Me_72 hlc3 (c_AL_add1 hal3 (tx_any4 hx3) (fun y hy => by obtain ⟨fs, z⟩ := hnm3 y hy; exact tx_any4 z) (by omega) (by rw [hc3]; omega) (by rw [hc3]; omega)) rfl (by omega) (Nat.le_of_ble_eq_true rfl) n_AL_add1 (by rfl) (fun v G4 q => ?_) (fun a G4 q => by cases q.1)
          obtain ⟨q0, hq4⟩ := q
          cases q0
          show cx_V E _ _ [.int 1] G4
          rw [← hl2] at hq4
          obtain ⟨ed, cap, hm4, hst4, y1, y2, y3, y4⟩ := hm2.add (fun b hb => by obtain ⟨e, z⟩ := hF b hb; exact ⟨e, hs2 _ _ (Or.inl (Or.inl hb)) (hext1 _ _ z)⟩) (fun z => by obtain ⟨e, z9⟩ := hF _ z; rw [n_0] at z9; cases z9) hu2 (by rw [hl2]; exact hx2) rfl rfl (by omega) (fun T9 hT9 => hwf1 T9 hT9) (Or.inr ⟨T, w, _, _, _, _, _, hT, hTw, hwd2, g_55.symm⟩) hq4
          rw [hl2] at hm4 y4
          rw [hc3] at y1 y2 y3 y4
          refine cx_pop hE d_Me_declare_70 ?_
          refine cx_aload hE d_Me_declare_71 rfl ?_
          refine cx_aret (r := some a_0) hE d_Me_declare_73 rfl (by first | exact Or.inl ⟨_, rfl⟩ | exact Or.inr ⟨_, rfl⟩) ?_
          refine ⟨A.ad s.2.1.length u.2.2.1.length a_0 ed cap, ?_, rfl, rfl, rfl, rfl, rfl, (by rw [show tx_dcl t kd wd s = (tx_ck true 21 (nI t.2.1) s).ad (tx_new0 t kd wd) by unfold tx_dcl; rw [hd]; rfl]; exact hm4), fun b9 e9 hb he => hst4 b9 e9 hb (hs2 b9 e9 (hb.imp Or.inl (fun z => z)) (hext1 _ _ he)), by omega, by omega, by omega, ?_⟩
          · show _ = Sum.inl (some (Value.ref ((A.ad s.2.1.length u.2.2.1.length a_0 ed cap).na s.2.1.length u.2.2.1.length)))
            rw [show (A.ad s.2.1.length u.2.2.1.length a_0 ed cap).na s.2.1.length u.2.2.1.length = a_0 from if_pos ⟨rfl, rfl⟩]
            rfl
          · rw [show (A.ad s.2.1.length u.2.2.1.length a_0 ed cap).nc s.2.1.length = cap from if_pos rfl]
            omega
  | some q =>
    cases hw : A.w t.2.2.2.1 with
    | none =>
      have htn : t.2.2.2.1 = none := by
        cases hx : t.2.2.2.1 with
        | none => rfl
        | some T =>
          obtain ⟨w, z⟩ := ht.choose_spec.2 T hx
          rw [hx] at hw
          exact absurd (z.symm.trans hw) (fun q => by cases q)
      refine cx_newh 11 rfl hE d_Me_declare_0 z_Me_61 (by omega) (by omega) (fun a_0 G_0 n_0 b_0 g_0 h_0 => ?_)
      have hmk := (hm.keep n_0).ext (cx_ext.mk (n := 11) (e := .inr (4, [.null, .null, .int 0, .int 0, .int 0, .long 0, .int 0, .int 0, .null, .int 0, .null])) n_0)
      rw [g_0] at hmk
      obtain ⟨x0, hme, hxu⟩ := hmk.2.1
      have hxu := hxu u hu
      subst hxu
      have ht_0 : tx_tw G_0 A a t := by
        obtain ⟨nx, z1, z2⟩ := ht
        exact ⟨nx, cx_mn g_0 n_0 z1, z2⟩
      obtain ⟨nx, ht0, hwf⟩ := id ht_0
      refine cx_dup hE d_Me_declare_3 ?_
      refine cx_aload_n (i := 0) hE d_Me_declare_4 rfl rfl ?_
      refine cx_get hE d_Me_declare_5 f_Me_28 (by assumption) (by rfl) ?_
      refine cx_aload_n (i := 1) hE d_Me_declare_8 rfl rfl ?_
      refine cx_iload_n (i := 2) hE d_Me_declare_9 rfl rfl ?_
      refine cx_iload_n (i := 3) hE d_Me_declare_10 rfl rfl ?_
      refine cx_invI0 hE d_Me_declare_11 l_Me_90 (c_Nm_init h_0 ht0) rfl (by omega) (Nat.le_of_ble_eq_true rfl) n_Nm_init (by rfl) ?_
      refine cx_gen (fun G1 g1 => ?_)
      have e1 : G1 = cx_mk G a_0 (tx_nm A s.2.1.length (tx_new0 t kd wd)) 11 := by
        rw [← g1, ← g_0, cx_mp]
        rfl
      have hext1 : cx_ext G G1 := by rw [e1]; exact cx_ext.mk n_0
      have hx1 : G1.1 a_0 = some (tx_nm A s.2.1.length (tx_new0 t kd wd)) := by rw [e1]; exact cx_ms rfl
      have hm1 := (hm.keep n_0).ext hext1
      have ht1 : tx_tw G1 A a t := by
        obtain ⟨nx, z1, z2⟩ := ht
        exact ⟨nx, hext1 _ _ z1, z2⟩
      obtain ⟨nx1, ht01, hwf1⟩ := id ht1
      have hta1 : G1.1 a = some (.inr (7, [.int t.1, .int (nI t.2.1), .int (nI t.2.2.1), va_rf nx1, va_rf (A.w t.2.2.2.1), .int t.2.2.2.2.1, .long t.2.2.2.2.2])) := ht01
      obtain ⟨x1, hme1, hxu1⟩ := hm1.2.1
      have hxu1 := hxu1 u hu
      subst hxu1
      have hv1 := hm1.1
      refine cx_astore hE d_Me_declare_14 (by decide) ?_
      refine cx_aload_n (i := 0) hE d_Me_declare_16 rfl rfl ?_
      refine cx_get hE d_Me_declare_17 f_Me_32 (by assumption) (by rfl) ?_
      refine cx_aload_n (i := 0) hE d_Me_declare_20 rfl rfl ?_
      refine cx_aload_n (i := 1) hE d_Me_declare_21 rfl rfl ?_
      have hda := c_Me_declaredAs (l := l) hm1 hu ht1
      rw [hd] at hda
      refine cx_invV1 hE d_Me_declare_22 l_Me_93 hme1 hda rfl (by omega) (Nat.le_of_ble_eq_true rfl) n_Me_declaredAs (by rfl) ?_
      refine cx_ifnonnull (tgt := 32) (r := some (A.na s.2.1.length q)) hE d_Me_declare_25 (by decide) (fun a_25 c_25 => ?_) (fun c_25 => ?_)
      · refine cx_iconst (v := 0) hE d_Me_declare_32 (by decide) ?_
        refine cx_bipush (v := 21) hE d_Me_declare_33 (by decide) ?_
        refine cx_aload_n (i := 1) hE d_Me_declare_35 rfl rfl ?_
        refine cx_get hE d_Me_declare_36 f_Me_40 (by assumption) (by rfl) ?_
        refine cx_invV hE d_Me_declare_39 l_Me_44 hm1.1 (c_ck (right := false) (code := 21) (place := (nI t.2.1)) hm1) rfl (by omega) (Nat.le_of_ble_eq_true rfl) n_Ve_check (by rfl) (fun v G2 q => ?_) (fun a G2 q => by cases q.1)
        obtain ⟨q0, hm2, hs2, hc2⟩ := q
        cases q0
        show cx_V E _ _ [] G2
        have hx2 := hs2 _ _ (Or.inl (Or.inr rfl)) hx1
        have ht2 := hs2.t ht01
        have hta2 : G2.1 a = some (.inr (7, [.int t.1, .int (nI t.2.1), .int (nI t.2.2.1), va_rf nx1, va_rf (A.w t.2.2.2.1), .int t.2.2.2.2.1, .long t.2.2.2.2.2])) := ht2
        rw [hw] at hta2
        have hu2 : (tx_ck false 21 (nI t.2.1) s).2.2.1 = some u := by rw [tx_ck_all]; exact hu
        have hl2 : (tx_ck false 21 (nI t.2.1) s).2.1.length = s.2.1.length := by rw [tx_ck_all]
        obtain ⟨x2, hme2, hxu2⟩ := hm2.2.1
        have hxu2 := hxu2 u hu2
        rw [hl2] at hxu2
        subst hxu2
        have hun2 := hm2.2.2.2.1 _ u (tx_S.cur hu2)
        rw [hl2] at hun2
        unfold tx_um at hun2
        have hal2 := hm2.2.2.2.2.1 _ u (tx_S.cur hu2)
        rw [hl2] at hal2
        have hnm2 := tx_names hm2 (tx_S.cur hu2)
        rw [hl2] at hnm2
        have hc12 : G1.2.1 = G.2.1 + 1 ∧ G1.2.2 = G.2.2 + 11 := by rw [e1]; exact ⟨rfl, rfl⟩
        rw [← hc2] at hc12
        have hcap := hal2.le
        rw [List.length_map, List.length_range] at hcap
        refine cx_aload_n (i := 1) hE d_Me_declare_42 rfl rfl ?_
        refine cx_get hE d_Me_declare_43 f_Me_89 (by assumption) (by rfl) ?_
        refine cx_ifnull (tgt := 58) (r := none) hE d_Me_declare_46 (by decide) (fun c_46 => ?_) (fun a_46 c_46 => ?_)
        · refine cx_aload_n (i := 0) hE d_Me_declare_58 rfl rfl ?_
          refine cx_get hE d_Me_declare_59 f_Me_28 (by assumption) (by rfl) ?_
          refine cx_get hE d_Me_declare_62 f_Me_54 (by assumption) (by rfl) ?_
          refine cx_aload hE d_Me_declare_65 rfl ?_
          have hal3 := hal2
          have hx3 := hx2
          have hnm3 := hnm2
          have hc3 : G2.2 = G2.2 := rfl
          obtain ⟨⟨mc3, hlc3⟩, -⟩ := id hal3
          refine cx_invV hE d_Me_declare_67 l_Me_72 hlc3 (c_AL_add1 hal3 (tx_any4 hx3) (fun y hy => by obtain ⟨fs, z⟩ := hnm3 y hy; exact tx_any4 z) (by omega) (by rw [hc3]; omega) (by rw [hc3]; omega)) rfl (by omega) (Nat.le_of_ble_eq_true rfl) n_AL_add1 (by rfl) (fun v G4 q => ?_) (fun a G4 q => by cases q.1)
          obtain ⟨q0, hq4⟩ := q
          cases q0
          show cx_V E _ _ [.int 1] G4
          rw [← hl2] at hq4
          obtain ⟨ed, cap, hm4, hst4, y1, y2, y3, y4⟩ := hm2.add (fun b hb => by obtain ⟨e, z⟩ := hF b hb; exact ⟨e, hs2 _ _ (Or.inl (Or.inl hb)) (hext1 _ _ z)⟩) (fun z => by obtain ⟨e, z9⟩ := hF _ z; rw [n_0] at z9; cases z9) hu2 (by rw [hl2]; exact hx2) rfl rfl (by omega) (fun T9 hT9 => hwf1 T9 hT9) (Or.inl ⟨htn, rfl⟩) hq4
          rw [hl2] at hm4 y4
          rw [hc3] at y1 y2 y3 y4
          refine cx_pop hE d_Me_declare_70 ?_
          refine cx_aload hE d_Me_declare_71 rfl ?_
          refine cx_aret (r := some a_0) hE d_Me_declare_73 rfl (by first | exact Or.inl ⟨_, rfl⟩ | exact Or.inr ⟨_, rfl⟩) ?_
          refine ⟨A.ad s.2.1.length u.2.2.1.length a_0 ed cap, ?_, rfl, rfl, rfl, rfl, rfl, (by rw [show tx_dcl t kd wd s = (tx_ck false 21 (nI t.2.1) s).ad (tx_new0 t kd wd) by unfold tx_dcl; rw [hd]; rfl]; exact hm4), fun b9 e9 hb he => hst4 b9 e9 hb (hs2 b9 e9 (hb.imp Or.inl (fun z => z)) (hext1 _ _ he)), by omega, by omega, by omega, ?_⟩
          · show _ = Sum.inl (some (Value.ref ((A.ad s.2.1.length u.2.2.1.length a_0 ed cap).na s.2.1.length u.2.2.1.length)))
            rw [show (A.ad s.2.1.length u.2.2.1.length a_0 ed cap).na s.2.1.length u.2.2.1.length = a_0 from if_pos ⟨rfl, rfl⟩]
            rfl
          · rw [show (A.ad s.2.1.length u.2.2.1.length a_0 ed cap).nc s.2.1.length = cap from if_pos rfl]
            omega
        · cases c_46
          -- end
      · cases c_25
        -- end
    | some w =>
      obtain ⟨T, hT, hTw⟩ : ∃ T, t.2.2.2.1 = some T ∧ A.wf T = some w := by
        cases hx : t.2.2.2.1 with
        | none => rw [hx] at hw; cases hw
        | some T => rw [hx] at hw; exact ⟨T, rfl, hw⟩
      refine cx_newh 11 rfl hE d_Me_declare_0 z_Me_61 (by omega) (by omega) (fun a_0 G_0 n_0 b_0 g_0 h_0 => ?_)
      have hmk := (hm.keep n_0).ext (cx_ext.mk (n := 11) (e := .inr (4, [.null, .null, .int 0, .int 0, .int 0, .long 0, .int 0, .int 0, .null, .int 0, .null])) n_0)
      rw [g_0] at hmk
      obtain ⟨x0, hme, hxu⟩ := hmk.2.1
      have hxu := hxu u hu
      subst hxu
      have ht_0 : tx_tw G_0 A a t := by
        obtain ⟨nx, z1, z2⟩ := ht
        exact ⟨nx, cx_mn g_0 n_0 z1, z2⟩
      obtain ⟨nx, ht0, hwf⟩ := id ht_0
      refine cx_dup hE d_Me_declare_3 ?_
      refine cx_aload_n (i := 0) hE d_Me_declare_4 rfl rfl ?_
      refine cx_get hE d_Me_declare_5 f_Me_28 (by assumption) (by rfl) ?_
      refine cx_aload_n (i := 1) hE d_Me_declare_8 rfl rfl ?_
      refine cx_iload_n (i := 2) hE d_Me_declare_9 rfl rfl ?_
      refine cx_iload_n (i := 3) hE d_Me_declare_10 rfl rfl ?_
      refine cx_invI0 hE d_Me_declare_11 l_Me_90 (c_Nm_init h_0 ht0) rfl (by omega) (Nat.le_of_ble_eq_true rfl) n_Nm_init (by rfl) ?_
      refine cx_gen (fun G1 g1 => ?_)
      have e1 : G1 = cx_mk G a_0 (tx_nm A s.2.1.length (tx_new0 t kd wd)) 11 := by
        rw [← g1, ← g_0, cx_mp]
        rfl
      have hext1 : cx_ext G G1 := by rw [e1]; exact cx_ext.mk n_0
      have hx1 : G1.1 a_0 = some (tx_nm A s.2.1.length (tx_new0 t kd wd)) := by rw [e1]; exact cx_ms rfl
      have hm1 := (hm.keep n_0).ext hext1
      have ht1 : tx_tw G1 A a t := by
        obtain ⟨nx, z1, z2⟩ := ht
        exact ⟨nx, hext1 _ _ z1, z2⟩
      obtain ⟨nx1, ht01, hwf1⟩ := id ht1
      have hta1 : G1.1 a = some (.inr (7, [.int t.1, .int (nI t.2.1), .int (nI t.2.2.1), va_rf nx1, va_rf (A.w t.2.2.2.1), .int t.2.2.2.2.1, .long t.2.2.2.2.2])) := ht01
      obtain ⟨x1, hme1, hxu1⟩ := hm1.2.1
      have hxu1 := hxu1 u hu
      subst hxu1
      have hv1 := hm1.1
      refine cx_astore hE d_Me_declare_14 (by decide) ?_
      refine cx_aload_n (i := 0) hE d_Me_declare_16 rfl rfl ?_
      refine cx_get hE d_Me_declare_17 f_Me_32 (by assumption) (by rfl) ?_
      refine cx_aload_n (i := 0) hE d_Me_declare_20 rfl rfl ?_
      refine cx_aload_n (i := 1) hE d_Me_declare_21 rfl rfl ?_
      have hda := c_Me_declaredAs (l := l) hm1 hu ht1
      rw [hd] at hda
      refine cx_invV1 hE d_Me_declare_22 l_Me_93 hme1 hda rfl (by omega) (Nat.le_of_ble_eq_true rfl) n_Me_declaredAs (by rfl) ?_
      refine cx_ifnonnull (tgt := 32) (r := some (A.na s.2.1.length q)) hE d_Me_declare_25 (by decide) (fun a_25 c_25 => ?_) (fun c_25 => ?_)
      · refine cx_iconst (v := 0) hE d_Me_declare_32 (by decide) ?_
        refine cx_bipush (v := 21) hE d_Me_declare_33 (by decide) ?_
        refine cx_aload_n (i := 1) hE d_Me_declare_35 rfl rfl ?_
        refine cx_get hE d_Me_declare_36 f_Me_40 (by assumption) (by rfl) ?_
        refine cx_invV hE d_Me_declare_39 l_Me_44 hm1.1 (c_ck (right := false) (code := 21) (place := (nI t.2.1)) hm1) rfl (by omega) (Nat.le_of_ble_eq_true rfl) n_Ve_check (by rfl) (fun v G2 q => ?_) (fun a G2 q => by cases q.1)
        obtain ⟨q0, hm2, hs2, hc2⟩ := q
        cases q0
        show cx_V E _ _ [] G2
        have hx2 := hs2 _ _ (Or.inl (Or.inr rfl)) hx1
        have ht2 := hs2.t ht01
        have hta2 : G2.1 a = some (.inr (7, [.int t.1, .int (nI t.2.1), .int (nI t.2.2.1), va_rf nx1, va_rf (A.w t.2.2.2.1), .int t.2.2.2.2.1, .long t.2.2.2.2.2])) := ht2
        rw [hw] at hta2
        have hu2 : (tx_ck false 21 (nI t.2.1) s).2.2.1 = some u := by rw [tx_ck_all]; exact hu
        have hl2 : (tx_ck false 21 (nI t.2.1) s).2.1.length = s.2.1.length := by rw [tx_ck_all]
        obtain ⟨x2, hme2, hxu2⟩ := hm2.2.1
        have hxu2 := hxu2 u hu2
        rw [hl2] at hxu2
        subst hxu2
        have hun2 := hm2.2.2.2.1 _ u (tx_S.cur hu2)
        rw [hl2] at hun2
        unfold tx_um at hun2
        have hal2 := hm2.2.2.2.2.1 _ u (tx_S.cur hu2)
        rw [hl2] at hal2
        have hnm2 := tx_names hm2 (tx_S.cur hu2)
        rw [hl2] at hnm2
        have hc12 : G1.2.1 = G.2.1 + 1 ∧ G1.2.2 = G.2.2 + 11 := by rw [e1]; exact ⟨rfl, rfl⟩
        rw [← hc2] at hc12
        have hcap := hal2.le
        rw [List.length_map, List.length_range] at hcap
        obtain ⟨nx9, kd9, tb9, hwd2, hwd3⟩ := hm2.2.2.2.2.2.2.1 T w hTw
        refine cx_aload_n (i := 1) hE d_Me_declare_42 rfl rfl ?_
        refine cx_get hE d_Me_declare_43 f_Me_89 (by assumption) (by rfl) ?_
        refine cx_ifnull (tgt := 58) (r := some w) hE d_Me_declare_46 (by decide) (fun c_46 => ?_) (fun a_46 c_46 => ?_)
        · cases c_46
          -- end
        · refine cx_aload_n (i := 1) hE d_Me_declare_49 rfl rfl ?_
          refine cx_get hE d_Me_declare_50 f_Me_89 (by assumption) (by rfl) ?_
          refine cx_aload hE d_Me_declare_53 rfl ?_
          refine cx_putg hE d_Me_declare_55 f_Me_97 (by assumption) (Nat.le_of_ble_eq_true rfl) (by first | rfl | exact cx_nr _ _) (by first | rfl | exact cx_fr _ _) (fun G_55 g_55 h_55 => ?_)
          have hme3 := cx_pn g_55 hme2 (cx_neO hwd2 hme2 (by decide))
          have hun3 := cx_pn g_55 hun2 (cx_neO hwd2 hun2 (by decide))
          refine cx_aload_n (i := 0) hE d_Me_declare_58 rfl rfl ?_
          refine cx_get hE d_Me_declare_59 f_Me_28 (by assumption) (by rfl) ?_
          refine cx_get hE d_Me_declare_62 f_Me_54 (by assumption) (by rfl) ?_
          refine cx_aload hE d_Me_declare_65 rfl ?_
          have hk3 : tx_kp (tx_is 10) G2 G_55 := by rw [← g_55]; exact tx_kp.put hwd2
          have hal3 := hal2.kp hk3 (fun _ => tx_is_ne (by decide)) (fun _ => tx_is_na)
          have hx3 := hk3 _ _ (tx_is_ne (by decide)) hx2
          have hnm3 : ∀ y ∈ (List.range u.2.2.1.length).map (A.na s.2.1.length), ∃ fs, G_55.1 y = some (.inr (4, fs)) := fun y hy => by
            obtain ⟨fs, z⟩ := hnm2 y hy
            exact ⟨fs, hk3 _ _ (tx_is_ne (by decide)) z⟩
          have hc3 : G_55.2 = G2.2 := cx_pc g_55
          obtain ⟨⟨mc3, hlc3⟩, -⟩ := id hal3
          refine cx_invV hE d_Me_declare_67 l_Me_72 hlc3 (c_AL_add1 hal3 (tx_any4 hx3) (fun y hy => by obtain ⟨fs, z⟩ := hnm3 y hy; exact tx_any4 z) (by omega) (by rw [hc3]; omega) (by rw [hc3]; omega)) rfl (by omega) (Nat.le_of_ble_eq_true rfl) n_AL_add1 (by rfl) (fun v G4 q => ?_) (fun a G4 q => by cases q.1)
          obtain ⟨q0, hq4⟩ := q
          cases q0
          show cx_V E _ _ [.int 1] G4
          rw [← hl2] at hq4
          obtain ⟨ed, cap, hm4, hst4, y1, y2, y3, y4⟩ := hm2.add (fun b hb => by obtain ⟨e, z⟩ := hF b hb; exact ⟨e, hs2 _ _ (Or.inl (Or.inl hb)) (hext1 _ _ z)⟩) (fun z => by obtain ⟨e, z9⟩ := hF _ z; rw [n_0] at z9; cases z9) hu2 (by rw [hl2]; exact hx2) rfl rfl (by omega) (fun T9 hT9 => hwf1 T9 hT9) (Or.inr ⟨T, w, _, _, _, _, _, hT, hTw, hwd2, g_55.symm⟩) hq4
          rw [hl2] at hm4 y4
          rw [hc3] at y1 y2 y3 y4
          refine cx_pop hE d_Me_declare_70 ?_
          refine cx_aload hE d_Me_declare_71 rfl ?_
          refine cx_aret (r := some a_0) hE d_Me_declare_73 rfl (by first | exact Or.inl ⟨_, rfl⟩ | exact Or.inr ⟨_, rfl⟩) ?_
          refine ⟨A.ad s.2.1.length u.2.2.1.length a_0 ed cap, ?_, rfl, rfl, rfl, rfl, rfl, (by rw [show tx_dcl t kd wd s = (tx_ck false 21 (nI t.2.1) s).ad (tx_new0 t kd wd) by unfold tx_dcl; rw [hd]; rfl]; exact hm4), fun b9 e9 hb he => hst4 b9 e9 hb (hs2 b9 e9 (hb.imp Or.inl (fun z => z)) (hext1 _ _ he)), by omega, by omega, by omega, ?_⟩
          · show _ = Sum.inl (some (Value.ref ((A.ad s.2.1.length u.2.2.1.length a_0 ed cap).na s.2.1.length u.2.2.1.length)))
            rw [show (A.ad s.2.1.length u.2.2.1.length a_0 ed cap).na s.2.1.length u.2.2.1.length = a_0 from if_pos ⟨rfl, rfl⟩]
            rfl
          · rw [show (A.ad s.2.1.length u.2.2.1.length a_0 ed cap).nc s.2.1.length = cap from if_pos rfl]
            omega
      · cases c_25
        -- end

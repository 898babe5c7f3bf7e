/-! MEANING: assigned, set, begun. -/
set_option maxRecDepth 100000 in
theorem c_Me_begin {k : cx_K} {l : Launch} {G : cx_G} {F : Nat → Prop} {A : tx_A} {s : tx_S} {u : tx_U} (hu : s.2.2.1 = some u) {q : Nat} {r : tx_N} (hr : u.2.2.1[q]? = some r) {a : Nat} {t : tx_Tk} (ht : tx_tw G A a t) (hm : tx_m k F G A s)  : cx_Sp k l m_Me_begin 1 [.ref A.me, .ref (A.na s.2.1.length q), .ref a] G (tx_mq k F G A (tx_beg q t s) none) := by
  intro E hE
  obtain ⟨x0, hme, hxu⟩ := hm.2.1
  obtain ⟨nx, ht0, hwf⟩ := id ht
  have hta : G.1 a = some (.inr (7, [.int t.1, .int (nI t.2.1), .int (nI t.2.2.1), va_rf nx, va_rf (A.w t.2.2.2.1), .int t.2.2.2.2.1, .long t.2.2.2.2.2])) := ht0
  have hn9 := hm.2.2.2.2.2.1 _ u (tx_S.cur hu) q r hr
  unfold tx_nm at hn9
  have hrc := tx_S.rc_of hu hr
  refine cx_aload_n (i := 0) hE d_Me_begin_0 rfl rfl ?_
  refine cx_get hE d_Me_begin_1 f_Me_32 (by assumption) (by rfl) ?_
  refine cx_aload_n (i := 1) hE d_Me_begin_4 rfl rfl ?_
  refine cx_get hE d_Me_begin_5 f_Me_86 (by assumption) (by rfl) ?_
  refine cx_aload_n (i := 2) hE d_Me_begin_8 rfl rfl ?_
  refine cx_get hE d_Me_begin_9 f_Me_101 (by assumption) (by rfl) ?_
  refine cx_icmp_ne (tgt := 19)  hE d_Me_begin_12 (by decide) (fun c_12 => ?_) (fun c_12 => ?_)
  · refine cx_iconst (v := 0) hE d_Me_begin_19 (by decide) ?_
    refine cx_bipush (v := 30) hE d_Me_begin_20 (by decide) ?_
    refine cx_aload_n (i := 2) hE d_Me_begin_22 rfl rfl ?_
    refine cx_get hE d_Me_begin_23 f_Me_40 (by assumption) (by rfl) ?_
    refine cx_invV hE d_Me_begin_26 l_Me_44 hm.1 (c_ck (right := false) (code := 30) (place := (nI t.2.1)) hm) rfl (by omega) (Nat.le_of_ble_eq_true rfl) n_Ve_check (by rfl) (fun v G1 q => ?_) (fun a G1 q => by cases q.1)
    obtain ⟨q0, hm1, hs1, hc1⟩ := q
    cases q0
    show cx_V E _ _ [] G1
    have hall1 := tx_S.cur hu
    rw [← tx_ck_a false 30 (nI t.2.1) s] at hall1
    have hn1 := hm1.2.2.2.2.2.1 _ u hall1 q r hr
    unfold tx_nm at hn1
    have hta1 : G1.1 a = some (.inr (7, [.int t.1, .int (nI t.2.1), .int (nI t.2.2.1), va_rf nx, va_rf (A.w t.2.2.2.1), .int t.2.2.2.2.1, .long t.2.2.2.2.2])) := hs1.t ht0
    refine cx_aload_n (i := 1) hE d_Me_begin_29 rfl rfl ?_
    refine cx_aload_n (i := 2) hE d_Me_begin_30 rfl rfl ?_
    refine cx_get hE d_Me_begin_31 f_Me_102 (by assumption) (by rfl) ?_
    refine cx_putg hE d_Me_begin_34 f_Me_106 (by assumption) (Nat.le_of_ble_eq_true rfl) (by first | rfl | exact cx_nr _ _) (by first | rfl | exact cx_fr _ _) (fun G_34 g_34 h_34 => ?_)
    refine cx_vret hE d_Me_begin_37 rfl ?_
    first
      | (rw [show tx_beg q t s = (tx_ck true 30 (nI t.2.1) s).mn s.2.1.length q (tx_bgn t.2.2.2.2.2) by unfold tx_beg; rw [hrc, decide_eq_true c_12]]
         have hp := hm1.nm (f := tx_bgn t.2.2.2.2.2) hall1 hr (fun j' hj' => by rw [tx_ck_l]; exact ((hm.2.2.2.2.2.2.2.2.1.2.2.2 _ u (tx_S.cur hu)).2 q r hr).1 j' hj')
         have e1 : G_34 = cx_put G1 (A.na s.2.1.length q) (tx_nm A s.2.1.length (tx_bgn t.2.2.2.2.2 r)) := by rw [← g_34]; rfl
         rw [e1]
         exact ⟨rfl, hp.1, hs1.tr hp.2, hc1⟩)
      | (rw [show tx_beg q t s = (tx_ck false 30 (nI t.2.1) s).mn s.2.1.length q (tx_bgn t.2.2.2.2.2) by unfold tx_beg; rw [hrc, decide_eq_false c_12]]
         have hp := hm1.nm (f := tx_bgn t.2.2.2.2.2) hall1 hr (fun j' hj' => by rw [tx_ck_l]; exact ((hm.2.2.2.2.2.2.2.2.1.2.2.2 _ u (tx_S.cur hu)).2 q r hr).1 j' hj')
         have e1 : G_34 = cx_put G1 (A.na s.2.1.length q) (tx_nm A s.2.1.length (tx_bgn t.2.2.2.2.2 r)) := by rw [← g_34]; rfl
         rw [e1]
         exact ⟨rfl, hp.1, hs1.tr hp.2, hc1⟩)
  · refine cx_iconst (v := 1) hE d_Me_begin_15 (by decide) ?_
    refine cx_goto (tgt := 20) hE d_Me_begin_16 (by decide) ?_
    refine cx_bipush (v := 30) hE d_Me_begin_20 (by decide) ?_
    refine cx_aload_n (i := 2) hE d_Me_begin_22 rfl rfl ?_
    refine cx_get hE d_Me_begin_23 f_Me_40 (by assumption) (by rfl) ?_
    refine cx_invV hE d_Me_begin_26 l_Me_44 hm.1 (c_ck (right := true) (code := 30) (place := (nI t.2.1)) hm) rfl (by omega) (Nat.le_of_ble_eq_true rfl) n_Ve_check (by rfl) (fun v G1 q => ?_) (fun a G1 q => by cases q.1)
    obtain ⟨q0, hm1, hs1, hc1⟩ := q
    cases q0
    show cx_V E _ _ [] G1
    have hall1 := tx_S.cur hu
    rw [← tx_ck_a true 30 (nI t.2.1) s] at hall1
    have hn1 := hm1.2.2.2.2.2.1 _ u hall1 q r hr
    unfold tx_nm at hn1
    have hta1 : G1.1 a = some (.inr (7, [.int t.1, .int (nI t.2.1), .int (nI t.2.2.1), va_rf nx, va_rf (A.w t.2.2.2.1), .int t.2.2.2.2.1, .long t.2.2.2.2.2])) := hs1.t ht0
    refine cx_aload_n (i := 1) hE d_Me_begin_29 rfl rfl ?_
    refine cx_aload_n (i := 2) hE d_Me_begin_30 rfl rfl ?_
    refine cx_get hE d_Me_begin_31 f_Me_102 (by assumption) (by rfl) ?_
    refine cx_putg hE d_Me_begin_34 f_Me_106 (by assumption) (Nat.le_of_ble_eq_true rfl) (by first | rfl | exact cx_nr _ _) (by first | rfl | exact cx_fr _ _) (fun G_34 g_34 h_34 => ?_)
    refine cx_vret hE d_Me_begin_37 rfl ?_
    first
      | (rw [show tx_beg q t s = (tx_ck true 30 (nI t.2.1) s).mn s.2.1.length q (tx_bgn t.2.2.2.2.2) by unfold tx_beg; rw [hrc, decide_eq_true c_12]]
         have hp := hm1.nm (f := tx_bgn t.2.2.2.2.2) hall1 hr (fun j' hj' => by rw [tx_ck_l]; exact ((hm.2.2.2.2.2.2.2.2.1.2.2.2 _ u (tx_S.cur hu)).2 q r hr).1 j' hj')
         have e1 : G_34 = cx_put G1 (A.na s.2.1.length q) (tx_nm A s.2.1.length (tx_bgn t.2.2.2.2.2 r)) := by rw [← g_34]; rfl
         rw [e1]
         exact ⟨rfl, hp.1, hs1.tr hp.2, hc1⟩)
      | (rw [show tx_beg q t s = (tx_ck false 30 (nI t.2.1) s).mn s.2.1.length q (tx_bgn t.2.2.2.2.2) by unfold tx_beg; rw [hrc, decide_eq_false c_12]]
         have hp := hm1.nm (f := tx_bgn t.2.2.2.2.2) hall1 hr (fun j' hj' => by rw [tx_ck_l]; exact ((hm.2.2.2.2.2.2.2.2.1.2.2.2 _ u (tx_S.cur hu)).2 q r hr).1 j' hj')
         have e1 : G_34 = cx_put G1 (A.na s.2.1.length q) (tx_nm A s.2.1.length (tx_bgn t.2.2.2.2.2 r)) := by rw [← g_34]; rfl
         rw [e1]
         exact ⟨rfl, hp.1, hs1.tr hp.2, hc1⟩)
set_option maxRecDepth 100000 in
theorem c_Me_assigned {k : cx_K} {l : Launch} {G : cx_G} {F : Nat → Prop} {A : tx_A} {s : tx_S} {u : tx_U} (hu : s.2.2.1 = some u) {a : Nat} {t : tx_Tk} (ht : tx_tw G A a t) (hm : tx_m k F G A s)  : cx_Sp k l m_Me_assigned 2 [.ref A.me, .ref a] G (tx_mq k F G A (tx_asg s t).2 (some (va_rf ((tx_asg s t).1.map (A.na s.2.1.length))))) := by
  intro E hE
  obtain ⟨x0, hme, hxu⟩ := hm.2.1
  have hxu := hxu u hu
  subst hxu
  obtain ⟨nx, ht0, hwf⟩ := id ht
  have hta : G.1 a = some (.inr (7, [.int t.1, .int (nI t.2.1), .int (nI t.2.2.1), va_rf nx, va_rf (A.w t.2.2.2.1), .int t.2.2.2.2.1, .long t.2.2.2.2.2])) := ht0
  have hda := c_Me_declaredAs (l := l) hm hu ht
  cases hd : s.da t.2.2.2.1 with
  | none =>
    rw [hd] at hda
    refine cx_aload_n (i := 0) hE d_Me_assigned_0 rfl rfl ?_
    refine cx_aload_n (i := 1) hE d_Me_assigned_1 rfl rfl ?_
    refine cx_invV1 hE d_Me_assigned_2 l_Me_93 hme hda rfl (by omega) (Nat.le_of_ble_eq_true rfl) n_Me_declaredAs (by rfl) ?_
    refine cx_astore_n (i := 2) hE d_Me_assigned_5 rfl (by decide) ?_
    refine cx_aload_n (i := 2) hE d_Me_assigned_6 rfl rfl ?_
    refine cx_ifnull (tgt := 21) (r := none) hE d_Me_assigned_7 (by decide) (fun c_7 => ?_) (fun a_7 c_7 => ?_)
    · refine cx_iconst (v := 0) hE d_Me_assigned_21 (by decide) ?_
      refine cx_istore_n (i := 3) hE d_Me_assigned_22 rfl (by decide) ?_
      refine cx_aload_n (i := 0) hE d_Me_assigned_23 rfl rfl ?_
      refine cx_get hE d_Me_assigned_24 f_Me_32 (by assumption) (by rfl) ?_
      refine cx_iload_n (i := 3) hE d_Me_assigned_27 rfl rfl ?_
      refine cx_bipush (v := 22) hE d_Me_assigned_28 (by decide) ?_
      refine cx_aload_n (i := 1) hE d_Me_assigned_30 rfl rfl ?_
      refine cx_get hE d_Me_assigned_31 f_Me_40 (by assumption) (by rfl) ?_
      refine cx_invV hE d_Me_assigned_34 l_Me_44 hm.1 (c_ck (right := false) (code := 22) (place := (nI t.2.1)) hm) rfl (by omega) (Nat.le_of_ble_eq_true rfl) n_Ve_check (by rfl) (fun v G1 q => ?_) (fun a G1 q => by cases q.1)
      obtain ⟨q0, hm1, hs1, hc1⟩ := q
      cases q0
      show cx_V E _ _ [] G1
      refine cx_iload_n (i := 3) hE d_Me_assigned_37 rfl rfl ?_
      refine cx_if_eq (tgt := 47)  hE d_Me_assigned_38 (by decide) (fun c_38 => ?_) (fun c_38 => ?_)
      · refine cx_iload_n (i := 3) hE d_Me_assigned_47 rfl rfl ?_
        refine cx_if_eq (tgt := 55)  hE d_Me_assigned_48 (by decide) (fun c_48 => ?_) (fun c_48 => ?_)
        · refine cx_null hE d_Me_assigned_55 ?_
          refine cx_aret (r := none) hE d_Me_assigned_56 rfl (by first | exact Or.inl ⟨_, rfl⟩ | exact Or.inr ⟨_, rfl⟩) ?_
          have e9 : tx_asg s t = (none, tx_ck false 22 (nI t.2.1) s) := by unfold tx_asg; rw [hd]
          rw [e9]
          exact ⟨rfl, hm1, hs1, hc1⟩
        · exact absurd rfl c_48
          -- end
      · exact absurd rfl c_38
        -- end
    · cases c_7
      -- end
  | some q =>
    rw [hd] at hda
    obtain ⟨u9, r, hu9, hr⟩ := tx_S.da_ok hm.2.2.2.2.2.2.2.2.1 _ q hd
    cases hu.symm.trans hu9
    have hn9 := hm.2.2.2.2.2.1 _ u (tx_S.cur hu) q r hr
    unfold tx_nm at hn9
    have hrc := tx_S.rc_of hu hr
    refine cx_aload_n (i := 0) hE d_Me_assigned_0 rfl rfl ?_
    refine cx_aload_n (i := 1) hE d_Me_assigned_1 rfl rfl ?_
    refine cx_invV1 hE d_Me_assigned_2 l_Me_93 hme hda rfl (by omega) (Nat.le_of_ble_eq_true rfl) n_Me_declaredAs (by rfl) ?_
    refine cx_astore_n (i := 2) hE d_Me_assigned_5 rfl (by decide) ?_
    refine cx_aload_n (i := 2) hE d_Me_assigned_6 rfl rfl ?_
    refine cx_ifnull (tgt := 21) (r := some (A.na s.2.1.length q)) hE d_Me_assigned_7 (by decide) (fun c_7 => ?_) (fun a_7 c_7 => ?_)
    · cases c_7
      -- end
    · refine cx_aload_n (i := 2) hE d_Me_assigned_10 rfl rfl ?_
      refine cx_invV1 hE d_Me_assigned_11 l_Me_67 hn9 (c_Nm_isDrivable hn9) rfl (by omega) (Nat.le_of_ble_eq_true rfl) n_Nm_isDrivable (by rfl) ?_
      refine cx_if_eq (tgt := 21)  hE d_Me_assigned_14 (by decide) (fun c_14 => ?_) (fun c_14 => ?_)
      · have q_14 := of_decide_eq_false (cx_b0.mp c_14)
        refine cx_iconst (v := 0) hE d_Me_assigned_21 (by decide) ?_
        refine cx_istore_n (i := 3) hE d_Me_assigned_22 rfl (by decide) ?_
        refine cx_aload_n (i := 0) hE d_Me_assigned_23 rfl rfl ?_
        refine cx_get hE d_Me_assigned_24 f_Me_32 (by assumption) (by rfl) ?_
        refine cx_iload_n (i := 3) hE d_Me_assigned_27 rfl rfl ?_
        refine cx_bipush (v := 22) hE d_Me_assigned_28 (by decide) ?_
        refine cx_aload_n (i := 1) hE d_Me_assigned_30 rfl rfl ?_
        refine cx_get hE d_Me_assigned_31 f_Me_40 (by assumption) (by rfl) ?_
        refine cx_invV hE d_Me_assigned_34 l_Me_44 hm.1 (c_ck (right := false) (code := 22) (place := (nI t.2.1)) hm) rfl (by omega) (Nat.le_of_ble_eq_true rfl) n_Ve_check (by rfl) (fun v G1 q => ?_) (fun a G1 q => by cases q.1)
        obtain ⟨q0, hm1, hs1, hc1⟩ := q
        cases q0
        show cx_V E _ _ [] G1
        have hall1 := tx_S.cur hu
        rw [← tx_ck_a false 22 (nI t.2.1) s] at hall1
        have hn1 := hm1.2.2.2.2.2.1 _ u hall1 q r hr
        unfold tx_nm at hn1
        refine cx_iload_n (i := 3) hE d_Me_assigned_37 rfl rfl ?_
        refine cx_if_eq (tgt := 47)  hE d_Me_assigned_38 (by decide) (fun c_38 => ?_) (fun c_38 => ?_)
        · refine cx_iload_n (i := 3) hE d_Me_assigned_47 rfl rfl ?_
          refine cx_if_eq (tgt := 55)  hE d_Me_assigned_48 (by decide) (fun c_48 => ?_) (fun c_48 => ?_)
          · refine cx_null hE d_Me_assigned_55 ?_
            refine cx_aret (r := none) hE d_Me_assigned_56 rfl (by first | exact Or.inl ⟨_, rfl⟩ | exact Or.inr ⟨_, rfl⟩) ?_
            first
              | (have e9 : tx_asg s t = (some q, tx_drive q t (tx_ck true 22 (nI t.2.1) s)) := by
                   unfold tx_asg
                   rw [hd]
                   show (if (s.rc q).2.1 = 1 ∨ (s.rc q).2.1 = 3 then _ else _) = _
                   rw [hrc, if_pos q_14]
                 rw [e9]
                 exact ⟨rfl, hm2, hs1.tr hs2, hc2.trans hc1⟩)
              | (have e9 : tx_asg s t = (none, tx_ck false 22 (nI t.2.1) s) := by
                   unfold tx_asg
                   rw [hd]
                   show (if (s.rc q).2.1 = 1 ∨ (s.rc q).2.1 = 3 then _ else _) = _
                   rw [hrc, if_neg q_14]
                 rw [e9]
                 exact ⟨rfl, hm1, hs1, hc1⟩)
          · exact absurd rfl c_48
            -- end
        · exact absurd rfl c_38
          -- end
      · have q_14 := of_decide_eq_true (cx_bn.mp c_14)
        refine cx_iconst (v := 1) hE d_Me_assigned_17 (by decide) ?_
        refine cx_goto (tgt := 22) hE d_Me_assigned_18 (by decide) ?_
        refine cx_istore_n (i := 3) hE d_Me_assigned_22 rfl (by decide) ?_
        refine cx_aload_n (i := 0) hE d_Me_assigned_23 rfl rfl ?_
        refine cx_get hE d_Me_assigned_24 f_Me_32 (by assumption) (by rfl) ?_
        refine cx_iload_n (i := 3) hE d_Me_assigned_27 rfl rfl ?_
        refine cx_bipush (v := 22) hE d_Me_assigned_28 (by decide) ?_
        refine cx_aload_n (i := 1) hE d_Me_assigned_30 rfl rfl ?_
        refine cx_get hE d_Me_assigned_31 f_Me_40 (by assumption) (by rfl) ?_
        refine cx_invV hE d_Me_assigned_34 l_Me_44 hm.1 (c_ck (right := true) (code := 22) (place := (nI t.2.1)) hm) rfl (by omega) (Nat.le_of_ble_eq_true rfl) n_Ve_check (by rfl) (fun v G1 q => ?_) (fun a G1 q => by cases q.1)
        obtain ⟨q0, hm1, hs1, hc1⟩ := q
        cases q0
        show cx_V E _ _ [] G1
        have hall1 := tx_S.cur hu
        rw [← tx_ck_a true 22 (nI t.2.1) s] at hall1
        have hn1 := hm1.2.2.2.2.2.1 _ u hall1 q r hr
        unfold tx_nm at hn1
        refine cx_iload_n (i := 3) hE d_Me_assigned_37 rfl rfl ?_
        refine cx_if_eq (tgt := 47)  hE d_Me_assigned_38 (by decide) (fun c_38 => ?_) (fun c_38 => ?_)
        · exact absurd c_38 (by decide)
          -- end
        · refine cx_aload_n (i := 0) hE d_Me_assigned_41 rfl rfl ?_
          refine cx_aload_n (i := 2) hE d_Me_assigned_42 rfl rfl ?_
          refine cx_aload_n (i := 1) hE d_Me_assigned_43 rfl rfl ?_
          obtain ⟨x9, hme9, -⟩ := hm1.2.1
          have hu1 : (tx_ck true 22 (nI t.2.1) s).2.2.1 = some u := by rw [tx_ck_all]; exact hu
          have hdr := c_Me_drive (l := l) hu1 hr (ht.st hs1) hm1
          rw [tx_ck_l] at hdr
          refine cx_invV hE d_Me_assigned_44 l_Me_115 hme9 (hdr) rfl (by omega) (Nat.le_of_ble_eq_true rfl) n_Me_drive (by rfl) (fun v G2 q => ?_) (fun a G2 q => by cases q.1)
          obtain ⟨q0, hm2, hs2, hc2⟩ := q
          cases q0
          show cx_V E _ _ [] G2
          refine cx_iload_n (i := 3) hE d_Me_assigned_47 rfl rfl ?_
          refine cx_if_eq (tgt := 55)  hE d_Me_assigned_48 (by decide) (fun c_48 => ?_) (fun c_48 => ?_)
          · exact absurd c_48 (by decide)
            -- end
          · refine cx_aload_n (i := 2) hE d_Me_assigned_51 rfl rfl ?_
            refine cx_goto (tgt := 56) hE d_Me_assigned_52 (by decide) ?_
            refine cx_aret (r := some (A.na s.2.1.length q)) hE d_Me_assigned_56 rfl (by first | exact Or.inl ⟨_, rfl⟩ | exact Or.inr ⟨_, rfl⟩) ?_
            first
              | (have e9 : tx_asg s t = (some q, tx_drive q t (tx_ck true 22 (nI t.2.1) s)) := by
                   unfold tx_asg
                   rw [hd]
                   show (if (s.rc q).2.1 = 1 ∨ (s.rc q).2.1 = 3 then _ else _) = _
                   rw [hrc, if_pos q_14]
                 rw [e9]
                 exact ⟨rfl, hm2, hs1.tr hs2, hc2.trans hc1⟩)
              | (have e9 : tx_asg s t = (none, tx_ck false 22 (nI t.2.1) s) := by
                   unfold tx_asg
                   rw [hd]
                   show (if (s.rc q).2.1 = 1 ∨ (s.rc q).2.1 = 3 then _ else _) = _
                   rw [hrc, if_neg q_14]
                 rw [e9]
                 exact ⟨rfl, hm1, hs1, hc1⟩)
set_option maxRecDepth 100000 in
theorem c_Me_setRegister {k : cx_K} {l : Launch} {G : cx_G} {F : Nat → Prop} {A : tx_A} {s : tx_S} {u : tx_U} (hu : s.2.2.1 = some u) {a : Nat} {t : tx_Tk} (ht : tx_tw G A a t) (hm : tx_m k F G A s)  : cx_Sp k l m_Me_setRegister 1 [.ref A.me, .ref a] G (tx_mq k F G A (tx_setr s t).2 (some (va_rf ((tx_setr s t).1.map (A.na s.2.1.length))))) := by
  intro E hE
  obtain ⟨x0, hme, hxu⟩ := hm.2.1
  have hxu := hxu u hu
  subst hxu
  obtain ⟨nx, ht0, hwf⟩ := id ht
  have hta : G.1 a = some (.inr (7, [.int t.1, .int (nI t.2.1), .int (nI t.2.2.1), va_rf nx, va_rf (A.w t.2.2.2.1), .int t.2.2.2.2.1, .long t.2.2.2.2.2])) := ht0
  have hda := c_Me_declaredAs (l := l) hm hu ht
  cases hd : s.da t.2.2.2.1 with
  | none =>
    rw [hd] at hda
    refine cx_aload_n (i := 0) hE d_Me_setRegister_0 rfl rfl ?_
    refine cx_aload_n (i := 1) hE d_Me_setRegister_1 rfl rfl ?_
    refine cx_invV1 hE d_Me_setRegister_2 l_Me_93 hme hda rfl (by omega) (Nat.le_of_ble_eq_true rfl) n_Me_declaredAs (by rfl) ?_
    refine cx_astore_n (i := 2) hE d_Me_setRegister_5 rfl (by decide) ?_
    refine cx_aload_n (i := 2) hE d_Me_setRegister_6 rfl rfl ?_
    refine cx_ifnull (tgt := 21) (r := none) hE d_Me_setRegister_7 (by decide) (fun c_7 => ?_) (fun a_7 c_7 => ?_)
    · refine cx_iconst (v := 0) hE d_Me_setRegister_21 (by decide) ?_
      refine cx_istore_n (i := 3) hE d_Me_setRegister_22 rfl (by decide) ?_
      refine cx_aload_n (i := 0) hE d_Me_setRegister_23 rfl rfl ?_
      refine cx_get hE d_Me_setRegister_24 f_Me_32 (by assumption) (by rfl) ?_
      refine cx_iload_n (i := 3) hE d_Me_setRegister_27 rfl rfl ?_
      refine cx_bipush (v := 22) hE d_Me_setRegister_28 (by decide) ?_
      refine cx_aload_n (i := 1) hE d_Me_setRegister_30 rfl rfl ?_
      refine cx_get hE d_Me_setRegister_31 f_Me_40 (by assumption) (by rfl) ?_
      refine cx_invV hE d_Me_setRegister_34 l_Me_44 hm.1 (c_ck (right := false) (code := 22) (place := (nI t.2.1)) hm) rfl (by omega) (Nat.le_of_ble_eq_true rfl) n_Ve_check (by rfl) (fun v G1 q => ?_) (fun a G1 q => by cases q.1)
      obtain ⟨q0, hm1, hs1, hc1⟩ := q
      cases q0
      show cx_V E _ _ [] G1
      refine cx_iload_n (i := 3) hE d_Me_setRegister_37 rfl rfl ?_
      refine cx_if_eq (tgt := 91)  hE d_Me_setRegister_38 (by decide) (fun c_38 => ?_) (fun c_38 => ?_)
      · refine cx_iload_n (i := 3) hE d_Me_setRegister_91 rfl rfl ?_
        refine cx_if_eq (tgt := 99)  hE d_Me_setRegister_92 (by decide) (fun c_92 => ?_) (fun c_92 => ?_)
        · refine cx_null hE d_Me_setRegister_99 ?_
          refine cx_aret (r := none) hE d_Me_setRegister_100 rfl (by first | exact Or.inl ⟨_, rfl⟩ | exact Or.inr ⟨_, rfl⟩) ?_
          have e9 : tx_setr s t = (none, tx_ck false 22 (nI t.2.1) s) := by unfold tx_setr; rw [hd]
          rw [e9]
          exact ⟨rfl, hm1, hs1, hc1⟩
        · exact absurd rfl c_92
          -- end
      · exact absurd rfl c_38
        -- end
    · cases c_7
      -- end
  | some q =>
    rw [hd] at hda
    obtain ⟨u9, r, hu9, hr⟩ := tx_S.da_ok hm.2.2.2.2.2.2.2.2.1 _ q hd
    cases hu.symm.trans hu9
    have hn9 := hm.2.2.2.2.2.1 _ u (tx_S.cur hu) q r hr
    unfold tx_nm at hn9
    have hrc := tx_S.rc_of hu hr
    have huu : s.uu = u := by unfold tx_S.uu; rw [hu]; rfl
    refine cx_aload_n (i := 0) hE d_Me_setRegister_0 rfl rfl ?_
    refine cx_aload_n (i := 1) hE d_Me_setRegister_1 rfl rfl ?_
    refine cx_invV1 hE d_Me_setRegister_2 l_Me_93 hme hda rfl (by omega) (Nat.le_of_ble_eq_true rfl) n_Me_declaredAs (by rfl) ?_
    refine cx_astore_n (i := 2) hE d_Me_setRegister_5 rfl (by decide) ?_
    refine cx_aload_n (i := 2) hE d_Me_setRegister_6 rfl rfl ?_
    refine cx_ifnull (tgt := 21) (r := some (A.na s.2.1.length q)) hE d_Me_setRegister_7 (by decide) (fun c_7 => ?_) (fun a_7 c_7 => ?_)
    · cases c_7
      -- end
    · refine cx_aload_n (i := 2) hE d_Me_setRegister_10 rfl rfl ?_
      refine cx_invV1 hE d_Me_setRegister_11 l_Me_119 hn9 (c_Nm_isRegister hn9) rfl (by omega) (Nat.le_of_ble_eq_true rfl) n_Nm_isRegister (by rfl) ?_
      refine cx_if_eq (tgt := 21)  hE d_Me_setRegister_14 (by decide) (fun c_14 => ?_) (fun c_14 => ?_)
      · have q_14 := of_decide_eq_false (cx_b0.mp c_14)
        refine cx_iconst (v := 0) hE d_Me_setRegister_21 (by decide) ?_
        refine cx_istore_n (i := 3) hE d_Me_setRegister_22 rfl (by decide) ?_
        refine cx_aload_n (i := 0) hE d_Me_setRegister_23 rfl rfl ?_
        refine cx_get hE d_Me_setRegister_24 f_Me_32 (by assumption) (by rfl) ?_
        refine cx_iload_n (i := 3) hE d_Me_setRegister_27 rfl rfl ?_
        refine cx_bipush (v := 22) hE d_Me_setRegister_28 (by decide) ?_
        refine cx_aload_n (i := 1) hE d_Me_setRegister_30 rfl rfl ?_
        refine cx_get hE d_Me_setRegister_31 f_Me_40 (by assumption) (by rfl) ?_
        refine cx_invV hE d_Me_setRegister_34 l_Me_44 hm.1 (c_ck (right := false) (code := 22) (place := (nI t.2.1)) hm) rfl (by omega) (Nat.le_of_ble_eq_true rfl) n_Ve_check (by rfl) (fun v G1 q => ?_) (fun a G1 q => by cases q.1)
        obtain ⟨q0, hm1, hs1, hc1⟩ := q
        cases q0
        show cx_V E _ _ [] G1
        have hall1 := tx_S.cur hu
        rw [← tx_ck_a false 22 (nI t.2.1) s] at hall1
        have hn1 := hm1.2.2.2.2.2.1 _ u hall1 q r hr
        unfold tx_nm at hn1
        obtain ⟨x1, hme1, hxu1⟩ := hm1.2.1
        have hxu1 := hxu1 u (by rw [tx_ck_all]; exact hu)
        rw [tx_ck_l] at hxu1
        subst hxu1
        have hun1 := hm1.2.2.2.1 _ u hall1
        unfold tx_um at hun1
        have hta1 : G1.1 a = some (.inr (7, [.int t.1, .int (nI t.2.1), .int (nI t.2.2.1), va_rf nx, va_rf (A.w t.2.2.2.1), .int t.2.2.2.2.1, .long t.2.2.2.2.2])) := hs1.t ht0
        refine cx_iload_n (i := 3) hE d_Me_setRegister_37 rfl rfl ?_
        refine cx_if_eq (tgt := 91)  hE d_Me_setRegister_38 (by decide) (fun c_38 => ?_) (fun c_38 => ?_)
        · refine cx_iload_n (i := 3) hE d_Me_setRegister_91 rfl rfl ?_
          refine cx_if_eq (tgt := 99)  hE d_Me_setRegister_92 (by decide) (fun c_92 => ?_) (fun c_92 => ?_)
          · refine cx_null hE d_Me_setRegister_99 ?_
            refine cx_aret (r := none) hE d_Me_setRegister_100 rfl (by first | exact Or.inl ⟨_, rfl⟩ | exact Or.inr ⟨_, rfl⟩) ?_
            first
              | (have e9 : tx_setr s t = (some q, (tx_ck true 32 (nI t.2.1) (tx_ck true 22 (nI t.2.1) s)).mn s.2.1.length q (tx_sin u.2.2.2.2.2.1)) := by
                   unfold tx_setr
                   rw [hd]
                   show (if (s.rc q).2.1 = 2 ∨ (s.rc q).2.1 = 4 then _ else _) = _
                   rw [hrc, if_pos q_14, huu, decide_eq_true (by first | exact Or.inl (by simpa using c_49) | exact Or.inr c_63)]
                 rw [e9]
                 have hp := hm2.nm (f := tx_sin u.2.2.2.2.2.1) hall2 hr (fun j' hj' => by rw [tx_ck_l, tx_ck_l]; exact ((hm.2.2.2.2.2.2.2.2.1.2.2.2 _ u (tx_S.cur hu)).2 q r hr).1 j' hj')
                 have e1 : G_88 = cx_put G2 (A.na s.2.1.length q) (tx_nm A s.2.1.length (tx_sin u.2.2.2.2.2.1 r)) := by rw [← g_88]; rfl
                 rw [e1]
                 exact ⟨rfl, hp.1, hs1.tr (hs2.tr hp.2), hc2.trans hc1⟩)
              | (have e9 : tx_setr s t = (some q, (tx_ck false 32 (nI t.2.1) (tx_ck true 22 (nI t.2.1) s)).mn s.2.1.length q (tx_sin u.2.2.2.2.2.1)) := by
                   unfold tx_setr
                   rw [hd]
                   show (if (s.rc q).2.1 = 2 ∨ (s.rc q).2.1 = 4 then _ else _) = _
                   rw [hrc, if_pos q_14, huu, decide_eq_false (fun z => z.elim c_49 c_63)]
                 rw [e9]
                 have hp := hm2.nm (f := tx_sin u.2.2.2.2.2.1) hall2 hr (fun j' hj' => by rw [tx_ck_l, tx_ck_l]; exact ((hm.2.2.2.2.2.2.2.2.1.2.2.2 _ u (tx_S.cur hu)).2 q r hr).1 j' hj')
                 have e1 : G_88 = cx_put G2 (A.na s.2.1.length q) (tx_nm A s.2.1.length (tx_sin u.2.2.2.2.2.1 r)) := by rw [← g_88]; rfl
                 rw [e1]
                 exact ⟨rfl, hp.1, hs1.tr (hs2.tr hp.2), hc2.trans hc1⟩)
              | (have e9 : tx_setr s t = (none, tx_ck false 22 (nI t.2.1) s) := by
                   unfold tx_setr
                   rw [hd]
                   show (if (s.rc q).2.1 = 2 ∨ (s.rc q).2.1 = 4 then _ else _) = _
                   rw [hrc, if_neg q_14]
                 rw [e9]
                 exact ⟨rfl, hm1, hs1, hc1⟩)
          · exact absurd rfl c_92
            -- end
        · exact absurd rfl c_38
          -- end
      · have q_14 := of_decide_eq_true (cx_bn.mp c_14)
        refine cx_iconst (v := 1) hE d_Me_setRegister_17 (by decide) ?_
        refine cx_goto (tgt := 22) hE d_Me_setRegister_18 (by decide) ?_
        refine cx_istore_n (i := 3) hE d_Me_setRegister_22 rfl (by decide) ?_
        refine cx_aload_n (i := 0) hE d_Me_setRegister_23 rfl rfl ?_
        refine cx_get hE d_Me_setRegister_24 f_Me_32 (by assumption) (by rfl) ?_
        refine cx_iload_n (i := 3) hE d_Me_setRegister_27 rfl rfl ?_
        refine cx_bipush (v := 22) hE d_Me_setRegister_28 (by decide) ?_
        refine cx_aload_n (i := 1) hE d_Me_setRegister_30 rfl rfl ?_
        refine cx_get hE d_Me_setRegister_31 f_Me_40 (by assumption) (by rfl) ?_
        refine cx_invV hE d_Me_setRegister_34 l_Me_44 hm.1 (c_ck (right := true) (code := 22) (place := (nI t.2.1)) hm) rfl (by omega) (Nat.le_of_ble_eq_true rfl) n_Ve_check (by rfl) (fun v G1 q => ?_) (fun a G1 q => by cases q.1)
        obtain ⟨q0, hm1, hs1, hc1⟩ := q
        cases q0
        show cx_V E _ _ [] G1
        have hall1 := tx_S.cur hu
        rw [← tx_ck_a true 22 (nI t.2.1) s] at hall1
        have hn1 := hm1.2.2.2.2.2.1 _ u hall1 q r hr
        unfold tx_nm at hn1
        obtain ⟨x1, hme1, hxu1⟩ := hm1.2.1
        have hxu1 := hxu1 u (by rw [tx_ck_all]; exact hu)
        rw [tx_ck_l] at hxu1
        subst hxu1
        have hun1 := hm1.2.2.2.1 _ u hall1
        unfold tx_um at hun1
        have hta1 : G1.1 a = some (.inr (7, [.int t.1, .int (nI t.2.1), .int (nI t.2.2.1), va_rf nx, va_rf (A.w t.2.2.2.1), .int t.2.2.2.2.1, .long t.2.2.2.2.2])) := hs1.t ht0
        refine cx_iload_n (i := 3) hE d_Me_setRegister_37 rfl rfl ?_
        refine cx_if_eq (tgt := 91)  hE d_Me_setRegister_38 (by decide) (fun c_38 => ?_) (fun c_38 => ?_)
        · exact absurd c_38 (by decide)
          -- end
        · refine cx_aload_n (i := 0) hE d_Me_setRegister_41 rfl rfl ?_
          refine cx_get hE d_Me_setRegister_42 f_Me_32 (by assumption) (by rfl) ?_
          refine cx_aload_n (i := 2) hE d_Me_setRegister_45 rfl rfl ?_
          refine cx_get hE d_Me_setRegister_46 f_Me_122 (by assumption) (by rfl) ?_
          refine cx_if_eq (tgt := 66)  hE d_Me_setRegister_49 (by decide) (fun c_49 => ?_) (fun c_49 => ?_)
          · refine cx_iconst (v := 1) hE d_Me_setRegister_66 (by decide) ?_
            refine cx_goto (tgt := 71) hE d_Me_setRegister_67 (by decide) ?_
            refine cx_bipush (v := 32) hE d_Me_setRegister_71 (by decide) ?_
            refine cx_aload_n (i := 1) hE d_Me_setRegister_73 rfl rfl ?_
            refine cx_get hE d_Me_setRegister_74 f_Me_40 (by assumption) (by rfl) ?_
            refine cx_invV hE d_Me_setRegister_77 l_Me_44 hm1.1 (c_ck (right := true) (code := 32) (place := (nI t.2.1)) hm1) rfl (by omega) (Nat.le_of_ble_eq_true rfl) n_Ve_check (by rfl) (fun v G2 q => ?_) (fun a G2 q => by cases q.1)
            obtain ⟨q0, hm2, hs2, hc2⟩ := q
            cases q0
            show cx_V E _ _ [] G2
            obtain ⟨x2, hme2, hxu2⟩ := hm2.2.1
            have hxu2 := hxu2 u (by rw [tx_ck_all, tx_ck_all]; exact hu)
            rw [tx_ck_l, tx_ck_l] at hxu2
            subst hxu2
            have hall2 := hall1
            rw [← tx_ck_a true 32 (nI t.2.1) (tx_ck true 22 (nI t.2.1) s)] at hall2
            have hn2 := hm2.2.2.2.2.2.1 _ u hall2 q r hr
            unfold tx_nm at hn2
            have hun2 := hm2.2.2.2.1 _ u hall2
            unfold tx_um at hun2
            refine cx_aload_n (i := 2) hE d_Me_setRegister_80 rfl rfl ?_
            refine cx_aload_n (i := 0) hE d_Me_setRegister_81 rfl rfl ?_
            refine cx_get hE d_Me_setRegister_82 f_Me_28 (by assumption) (by rfl) ?_
            refine cx_get hE d_Me_setRegister_85 f_Me_125 (by assumption) (by rfl) ?_
            refine cx_putg hE d_Me_setRegister_88 f_Me_122 (by assumption) (Nat.le_of_ble_eq_true rfl) (by first | rfl | exact cx_nr _ _) (by first | rfl | exact cx_fr _ _) (fun G_88 g_88 h_88 => ?_)
            refine cx_iload_n (i := 3) hE d_Me_setRegister_91 rfl rfl ?_
            refine cx_if_eq (tgt := 99)  hE d_Me_setRegister_92 (by decide) (fun c_92 => ?_) (fun c_92 => ?_)
            · exact absurd c_92 (by decide)
              -- end
            · refine cx_aload_n (i := 2) hE d_Me_setRegister_95 rfl rfl ?_
              refine cx_goto (tgt := 100) hE d_Me_setRegister_96 (by decide) ?_
              refine cx_aret (r := some (A.na s.2.1.length q)) hE d_Me_setRegister_100 rfl (by first | exact Or.inl ⟨_, rfl⟩ | exact Or.inr ⟨_, rfl⟩) ?_
              first
                | (have e9 : tx_setr s t = (some q, (tx_ck true 32 (nI t.2.1) (tx_ck true 22 (nI t.2.1) s)).mn s.2.1.length q (tx_sin u.2.2.2.2.2.1)) := by
                     unfold tx_setr
                     rw [hd]
                     show (if (s.rc q).2.1 = 2 ∨ (s.rc q).2.1 = 4 then _ else _) = _
                     rw [hrc, if_pos q_14, huu, decide_eq_true (by first | exact Or.inl (by simpa using c_49) | exact Or.inr c_63)]
                   rw [e9]
                   have hp := hm2.nm (f := tx_sin u.2.2.2.2.2.1) hall2 hr (fun j' hj' => by rw [tx_ck_l, tx_ck_l]; exact ((hm.2.2.2.2.2.2.2.2.1.2.2.2 _ u (tx_S.cur hu)).2 q r hr).1 j' hj')
                   have e1 : G_88 = cx_put G2 (A.na s.2.1.length q) (tx_nm A s.2.1.length (tx_sin u.2.2.2.2.2.1 r)) := by rw [← g_88]; rfl
                   rw [e1]
                   exact ⟨rfl, hp.1, hs1.tr (hs2.tr hp.2), hc2.trans hc1⟩)
                | (have e9 : tx_setr s t = (some q, (tx_ck false 32 (nI t.2.1) (tx_ck true 22 (nI t.2.1) s)).mn s.2.1.length q (tx_sin u.2.2.2.2.2.1)) := by
                     unfold tx_setr
                     rw [hd]
                     show (if (s.rc q).2.1 = 2 ∨ (s.rc q).2.1 = 4 then _ else _) = _
                     rw [hrc, if_pos q_14, huu, decide_eq_false (fun z => z.elim c_49 c_63)]
                   rw [e9]
                   have hp := hm2.nm (f := tx_sin u.2.2.2.2.2.1) hall2 hr (fun j' hj' => by rw [tx_ck_l, tx_ck_l]; exact ((hm.2.2.2.2.2.2.2.2.1.2.2.2 _ u (tx_S.cur hu)).2 q r hr).1 j' hj')
                   have e1 : G_88 = cx_put G2 (A.na s.2.1.length q) (tx_nm A s.2.1.length (tx_sin u.2.2.2.2.2.1 r)) := by rw [← g_88]; rfl
                   rw [e1]
                   exact ⟨rfl, hp.1, hs1.tr (hs2.tr hp.2), hc2.trans hc1⟩)
                | (have e9 : tx_setr s t = (none, tx_ck false 22 (nI t.2.1) s) := by
                     unfold tx_setr
                     rw [hd]
                     show (if (s.rc q).2.1 = 2 ∨ (s.rc q).2.1 = 4 then _ else _) = _
                     rw [hrc, if_neg q_14]
                   rw [e9]
                   exact ⟨rfl, hm1, hs1, hc1⟩)
          · refine cx_aload_n (i := 2) hE d_Me_setRegister_52 rfl rfl ?_
            refine cx_get hE d_Me_setRegister_53 f_Me_122 (by assumption) (by rfl) ?_
            refine cx_aload_n (i := 0) hE d_Me_setRegister_56 rfl rfl ?_
            refine cx_get hE d_Me_setRegister_57 f_Me_28 (by assumption) (by rfl) ?_
            refine cx_get hE d_Me_setRegister_60 f_Me_125 (by assumption) (by rfl) ?_
            refine cx_icmp_ne (tgt := 70)  hE d_Me_setRegister_63 (by decide) (fun c_63 => ?_) (fun c_63 => ?_)
            · refine cx_iconst (v := 0) hE d_Me_setRegister_70 (by decide) ?_
              refine cx_bipush (v := 32) hE d_Me_setRegister_71 (by decide) ?_
              refine cx_aload_n (i := 1) hE d_Me_setRegister_73 rfl rfl ?_
              refine cx_get hE d_Me_setRegister_74 f_Me_40 (by assumption) (by rfl) ?_
              refine cx_invV hE d_Me_setRegister_77 l_Me_44 hm1.1 (c_ck (right := false) (code := 32) (place := (nI t.2.1)) hm1) rfl (by omega) (Nat.le_of_ble_eq_true rfl) n_Ve_check (by rfl) (fun v G2 q => ?_) (fun a G2 q => by cases q.1)
              obtain ⟨q0, hm2, hs2, hc2⟩ := q
              cases q0
              show cx_V E _ _ [] G2
              obtain ⟨x2, hme2, hxu2⟩ := hm2.2.1
              have hxu2 := hxu2 u (by rw [tx_ck_all, tx_ck_all]; exact hu)
              rw [tx_ck_l, tx_ck_l] at hxu2
              subst hxu2
              have hall2 := hall1
              rw [← tx_ck_a false 32 (nI t.2.1) (tx_ck true 22 (nI t.2.1) s)] at hall2
              have hn2 := hm2.2.2.2.2.2.1 _ u hall2 q r hr
              unfold tx_nm at hn2
              have hun2 := hm2.2.2.2.1 _ u hall2
              unfold tx_um at hun2
              refine cx_aload_n (i := 2) hE d_Me_setRegister_80 rfl rfl ?_
              refine cx_aload_n (i := 0) hE d_Me_setRegister_81 rfl rfl ?_
              refine cx_get hE d_Me_setRegister_82 f_Me_28 (by assumption) (by rfl) ?_
              refine cx_get hE d_Me_setRegister_85 f_Me_125 (by assumption) (by rfl) ?_
              refine cx_putg hE d_Me_setRegister_88 f_Me_122 (by assumption) (Nat.le_of_ble_eq_true rfl) (by first | rfl | exact cx_nr _ _) (by first | rfl | exact cx_fr _ _) (fun G_88 g_88 h_88 => ?_)
              refine cx_iload_n (i := 3) hE d_Me_setRegister_91 rfl rfl ?_
              refine cx_if_eq (tgt := 99)  hE d_Me_setRegister_92 (by decide) (fun c_92 => ?_) (fun c_92 => ?_)
              · exact absurd c_92 (by decide)
                -- end
              · refine cx_aload_n (i := 2) hE d_Me_setRegister_95 rfl rfl ?_
                refine cx_goto (tgt := 100) hE d_Me_setRegister_96 (by decide) ?_
                refine cx_aret (r := some (A.na s.2.1.length q)) hE d_Me_setRegister_100 rfl (by first | exact Or.inl ⟨_, rfl⟩ | exact Or.inr ⟨_, rfl⟩) ?_
                first
                  | (have e9 : tx_setr s t = (some q, (tx_ck true 32 (nI t.2.1) (tx_ck true 22 (nI t.2.1) s)).mn s.2.1.length q (tx_sin u.2.2.2.2.2.1)) := by
                       unfold tx_setr
                       rw [hd]
                       show (if (s.rc q).2.1 = 2 ∨ (s.rc q).2.1 = 4 then _ else _) = _
                       rw [hrc, if_pos q_14, huu, decide_eq_true (by first | exact Or.inl (by simpa using c_49) | exact Or.inr c_63)]
                     rw [e9]
                     have hp := hm2.nm (f := tx_sin u.2.2.2.2.2.1) hall2 hr (fun j' hj' => by rw [tx_ck_l, tx_ck_l]; exact ((hm.2.2.2.2.2.2.2.2.1.2.2.2 _ u (tx_S.cur hu)).2 q r hr).1 j' hj')
                     have e1 : G_88 = cx_put G2 (A.na s.2.1.length q) (tx_nm A s.2.1.length (tx_sin u.2.2.2.2.2.1 r)) := by rw [← g_88]; rfl
                     rw [e1]
                     exact ⟨rfl, hp.1, hs1.tr (hs2.tr hp.2), hc2.trans hc1⟩)
                  | (have e9 : tx_setr s t = (some q, (tx_ck false 32 (nI t.2.1) (tx_ck true 22 (nI t.2.1) s)).mn s.2.1.length q (tx_sin u.2.2.2.2.2.1)) := by
                       unfold tx_setr
                       rw [hd]
                       show (if (s.rc q).2.1 = 2 ∨ (s.rc q).2.1 = 4 then _ else _) = _
                       rw [hrc, if_pos q_14, huu, decide_eq_false (fun z => z.elim c_49 c_63)]
                     rw [e9]
                     have hp := hm2.nm (f := tx_sin u.2.2.2.2.2.1) hall2 hr (fun j' hj' => by rw [tx_ck_l, tx_ck_l]; exact ((hm.2.2.2.2.2.2.2.2.1.2.2.2 _ u (tx_S.cur hu)).2 q r hr).1 j' hj')
                     have e1 : G_88 = cx_put G2 (A.na s.2.1.length q) (tx_nm A s.2.1.length (tx_sin u.2.2.2.2.2.1 r)) := by rw [← g_88]; rfl
                     rw [e1]
                     exact ⟨rfl, hp.1, hs1.tr (hs2.tr hp.2), hc2.trans hc1⟩)
                  | (have e9 : tx_setr s t = (none, tx_ck false 22 (nI t.2.1) s) := by
                       unfold tx_setr
                       rw [hd]
                       show (if (s.rc q).2.1 = 2 ∨ (s.rc q).2.1 = 4 then _ else _) = _
                       rw [hrc, if_neg q_14]
                     rw [e9]
                     exact ⟨rfl, hm1, hs1, hc1⟩)
            · refine cx_iconst (v := 1) hE d_Me_setRegister_66 (by decide) ?_
              refine cx_goto (tgt := 71) hE d_Me_setRegister_67 (by decide) ?_
              refine cx_bipush (v := 32) hE d_Me_setRegister_71 (by decide) ?_
              refine cx_aload_n (i := 1) hE d_Me_setRegister_73 rfl rfl ?_
              refine cx_get hE d_Me_setRegister_74 f_Me_40 (by assumption) (by rfl) ?_
              refine cx_invV hE d_Me_setRegister_77 l_Me_44 hm1.1 (c_ck (right := true) (code := 32) (place := (nI t.2.1)) hm1) rfl (by omega) (Nat.le_of_ble_eq_true rfl) n_Ve_check (by rfl) (fun v G2 q => ?_) (fun a G2 q => by cases q.1)
              obtain ⟨q0, hm2, hs2, hc2⟩ := q
              cases q0
              show cx_V E _ _ [] G2
              obtain ⟨x2, hme2, hxu2⟩ := hm2.2.1
              have hxu2 := hxu2 u (by rw [tx_ck_all, tx_ck_all]; exact hu)
              rw [tx_ck_l, tx_ck_l] at hxu2
              subst hxu2
              have hall2 := hall1
              rw [← tx_ck_a true 32 (nI t.2.1) (tx_ck true 22 (nI t.2.1) s)] at hall2
              have hn2 := hm2.2.2.2.2.2.1 _ u hall2 q r hr
              unfold tx_nm at hn2
              have hun2 := hm2.2.2.2.1 _ u hall2
              unfold tx_um at hun2
              refine cx_aload_n (i := 2) hE d_Me_setRegister_80 rfl rfl ?_
              refine cx_aload_n (i := 0) hE d_Me_setRegister_81 rfl rfl ?_
              refine cx_get hE d_Me_setRegister_82 f_Me_28 (by assumption) (by rfl) ?_
              refine cx_get hE d_Me_setRegister_85 f_Me_125 (by assumption) (by rfl) ?_
              refine cx_putg hE d_Me_setRegister_88 f_Me_122 (by assumption) (Nat.le_of_ble_eq_true rfl) (by first | rfl | exact cx_nr _ _) (by first | rfl | exact cx_fr _ _) (fun G_88 g_88 h_88 => ?_)
              refine cx_iload_n (i := 3) hE d_Me_setRegister_91 rfl rfl ?_
              refine cx_if_eq (tgt := 99)  hE d_Me_setRegister_92 (by decide) (fun c_92 => ?_) (fun c_92 => ?_)
              · exact absurd c_92 (by decide)
                -- end
              · refine cx_aload_n (i := 2) hE d_Me_setRegister_95 rfl rfl ?_
                refine cx_goto (tgt := 100) hE d_Me_setRegister_96 (by decide) ?_
                refine cx_aret (r := some (A.na s.2.1.length q)) hE d_Me_setRegister_100 rfl (by first | exact Or.inl ⟨_, rfl⟩ | exact Or.inr ⟨_, rfl⟩) ?_
                first
                  | (have e9 : tx_setr s t = (some q, (tx_ck true 32 (nI t.2.1) (tx_ck true 22 (nI t.2.1) s)).mn s.2.1.length q (tx_sin u.2.2.2.2.2.1)) := by
                       unfold tx_setr
                       rw [hd]
                       show (if (s.rc q).2.1 = 2 ∨ (s.rc q).2.1 = 4 then _ else _) = _
                       rw [hrc, if_pos q_14, huu, decide_eq_true (by first | exact Or.inl (by simpa using c_49) | exact Or.inr c_63)]
                     rw [e9]
                     have hp := hm2.nm (f := tx_sin u.2.2.2.2.2.1) hall2 hr (fun j' hj' => by rw [tx_ck_l, tx_ck_l]; exact ((hm.2.2.2.2.2.2.2.2.1.2.2.2 _ u (tx_S.cur hu)).2 q r hr).1 j' hj')
                     have e1 : G_88 = cx_put G2 (A.na s.2.1.length q) (tx_nm A s.2.1.length (tx_sin u.2.2.2.2.2.1 r)) := by rw [← g_88]; rfl
                     rw [e1]
                     exact ⟨rfl, hp.1, hs1.tr (hs2.tr hp.2), hc2.trans hc1⟩)
                  | (have e9 : tx_setr s t = (some q, (tx_ck false 32 (nI t.2.1) (tx_ck true 22 (nI t.2.1) s)).mn s.2.1.length q (tx_sin u.2.2.2.2.2.1)) := by
                       unfold tx_setr
                       rw [hd]
                       show (if (s.rc q).2.1 = 2 ∨ (s.rc q).2.1 = 4 then _ else _) = _
                       rw [hrc, if_pos q_14, huu, decide_eq_false (fun z => z.elim c_49 c_63)]
                     rw [e9]
                     have hp := hm2.nm (f := tx_sin u.2.2.2.2.2.1) hall2 hr (fun j' hj' => by rw [tx_ck_l, tx_ck_l]; exact ((hm.2.2.2.2.2.2.2.2.1.2.2.2 _ u (tx_S.cur hu)).2 q r hr).1 j' hj')
                     have e1 : G_88 = cx_put G2 (A.na s.2.1.length q) (tx_nm A s.2.1.length (tx_sin u.2.2.2.2.2.1 r)) := by rw [← g_88]; rfl
                     rw [e1]
                     exact ⟨rfl, hp.1, hs1.tr (hs2.tr hp.2), hc2.trans hc1⟩)
                  | (have e9 : tx_setr s t = (none, tx_ck false 22 (nI t.2.1) s) := by
                       unfold tx_setr
                       rw [hd]
                       show (if (s.rc q).2.1 = 2 ∨ (s.rc q).2.1 = 4 then _ else _) = _
                       rw [hrc, if_neg q_14]
                     rw [e9]
                     exact ⟨rfl, hm1, hs1, hc1⟩)

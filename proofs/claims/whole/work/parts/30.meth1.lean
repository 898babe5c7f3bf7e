/-! MEANING: its methods, first half. -/
def tx_n0 : tx_N := (none, 0, 0, 0, 0, false, 0, none, 0, none)
/-- name q of the module that is being read -/
def tx_S.rc (s : tx_S) (q : Nat) : tx_N := (s.2.2.1.bind (fun u => u.2.2.1[q]?)).getD tx_n0
def tx_S.wo (s : tx_S) (d : Option Nat) : Int32 := match d with
  | none => 1
  | some q => (s.rc q).2.2.1
theorem tx_S.rc_of {s : tx_S} {u : tx_U} {q : Nat} {r : tx_N} (hu : s.2.2.1 = some u) (hr : u.2.2.1[q]? = some r) : s.rc q = r := by
  unfold tx_S.rc
  rw [hu]
  show (u.2.2.1[q]?).getD tx_n0 = r
  rw [hr]
  rfl
/-- a name of the module that is being read, if any -/
def tx_S.ok (s : tx_S) (d : Option Nat) : Prop := ∀ q, d = some q → ∃ u r, s.2.2.1 = some u ∧ u.2.2.1[q]? = some r
theorem tx_S.da_ok {s : tx_S} (hI : tx_mI s) (x : tx_X) : s.ok (s.da x) := by
  intro q hq
  obtain ⟨T, -, h2, u, hu⟩ := tx_S.da_some hq
  obtain ⟨u', r, h3, h4⟩ := tx_S.nm_of hI h2
  cases (tx_S.cur hu).symm.trans h3
  exact ⟨u, r, hu, h4⟩
theorem tx_ck_all (right : Bool) (code place : Int32) (s : tx_S) : (tx_ck right code place s).2 = s.2 := by
  unfold tx_ck
  split <;> rfl
def tx_used (s : tx_S) (t : tx_Tk) : Option Nat × tx_S := match s.da t.2.2.2.1 with
  | none => (none, tx_ck false 22 (nI t.2.1) s)
  | some q => if (s.rc q).2.1 = 5 then (none, tx_ck false 22 (nI t.2.1) s) else (some q, tx_ck true 22 (nI t.2.1) s)
def tx_rw (hi lo : Int32) : Bool := decide (lo = 0 ∧ ¬ (64 : Int32) ≤ hi)
def tx_bw (w : Int32) : Bool := decide (¬ w < 1 ∧ ¬ (64 : Int32) < w)
/-- the cost grows -/
def tx_cap (x : Int32) : Int32 := if (1501 : Int32) < x then 1501 else x
def tx_spu (c : Int32) (u : tx_U) : tx_U := (u.1, u.2.1, u.2.2.1, u.2.2.2.1, u.2.2.2.2.1, u.2.2.2.2.2.1, u.2.2.2.2.2.2.1, u.2.2.2.2.2.2.2.1, tx_cap (u.2.2.2.2.2.2.2.2 + c))
def tx_spend (c : Int32) (s : tx_S) : tx_S := s.mu s.2.1.length (tx_spu c)
def tx_imax (x y : Int32) : Int32 := if x < y then y else x
def tx_bin (t : tx_Tk) (x y : Int32) (s : tx_S) : Int32 × tx_S :=
  if t.1 = 9766 ∨ t.1 = 31868 then (1, tx_spend (tx_imax x y) s)
  else if t.1 = 15420 ∨ t.1 = 15934 then (x, tx_spend (3 * x + y) s)
  else if t.1 = 42 then (x, tx_spend (tx_imax x y * tx_imax x y) (tx_ck (decide (x = y)) 30 (nI t.2.1) s))
  else if t.1 = 43 ∨ t.1 = 45 ∨ t.1 = 38 ∨ t.1 = 124 ∨ t.1 = 94 then (x, tx_spend (tx_imax x y) (tx_ck (decide (x = y)) 30 (nI t.2.1) s))
  else (1, tx_spend (tx_imax x y) (tx_ck (decide (x = y)) 30 (nI t.2.1) s))
def tx_cond (t : tx_Tk) (c x y : Int32) (s : tx_S) : Int32 × tx_S := (x, tx_spend (tx_imax c (tx_imax x y)) (tx_ck (decide (x = y)) 30 (nI t.2.1) s))
set_option maxRecDepth 100000 in
theorem c_Me_widthOf {k : cx_K} {l : Launch} {G : cx_G} {F : Nat → Prop} {A : tx_A} {s : tx_S} {d : Option Nat} (hm : tx_m k F G A s) (hok : s.ok d) : cx_Sp k l m_Me_widthOf 0 [.ref A.me, va_rf (d.map (A.na s.2.1.length))] G (cx_rd (some (.int (s.wo d))) G) := by
  intro E hE
  cases d with
  | none =>
    refine cx_aload_n (i := 1) hE d_Me_widthOf_0 rfl rfl ?_
    refine cx_ifnonnull (tgt := 8) (r := none) hE d_Me_widthOf_1 (by decide) (fun a_1 c_1 => ?_) (fun c_1 => ?_)
    · cases c_1
      -- end
    · refine cx_iconst (v := 1) hE d_Me_widthOf_4 (by decide) ?_
      refine cx_goto (tgt := 12) hE d_Me_widthOf_5 (by decide) ?_
      refine cx_iret hE d_Me_widthOf_12 rfl rfl ?_
      exact ⟨rfl, rfl⟩
  | some q =>
    obtain ⟨u, r, hu, hr⟩ := hok q rfl
    have hn9 := hm.2.2.2.2.2.1 _ u (tx_S.cur hu) q r hr
    unfold tx_nm at hn9
    refine cx_aload_n (i := 1) hE d_Me_widthOf_0 rfl rfl ?_
    refine cx_ifnonnull (tgt := 8) (r := some (A.na s.2.1.length q)) hE d_Me_widthOf_1 (by decide) (fun a_1 c_1 => ?_) (fun c_1 => ?_)
    · refine cx_aload_n (i := 1) hE d_Me_widthOf_8 rfl rfl ?_
      refine cx_get hE d_Me_widthOf_9 f_Me_86 (by assumption) (by rfl) ?_
      refine cx_iret hE d_Me_widthOf_12 rfl rfl ?_
      refine ⟨?_, rfl⟩
      show _ = Sum.inl (some (Value.int (s.rc q).2.2.1))
      rw [tx_S.rc_of hu hr]
    · cases c_1
      -- end
set_option maxRecDepth 100000 in
theorem c_Me_unit {k : cx_K} {l : Launch} {G : cx_G} {F : Nat → Prop} {A : tx_A} {s : tx_S} {u : tx_U} (hu : s.2.2.1 = some u) (hm : tx_m k F G A s)  : cx_Sp k l m_Me_unit 0 [.ref A.me] G (cx_rd (some (.ref (A.ua s.2.1.length))) G) := by
  intro E hE
  obtain ⟨x0, hme, hxu⟩ := hm.2.1
  have hxu := hxu u hu
  subst hxu
  refine cx_aload_n (i := 0) hE d_Me_unit_0 rfl rfl ?_
  refine cx_get hE d_Me_unit_1 f_Me_28 (by assumption) (by rfl) ?_
  refine cx_aret (r := some (A.ua s.2.1.length)) hE d_Me_unit_4 rfl (by first | exact Or.inl ⟨_, rfl⟩ | exact Or.inr ⟨_, rfl⟩) ?_
  exact ⟨rfl, rfl⟩
theorem tx_cap_le {x : Int32} (h : x ≤ 1500) : tx_cap x = x := by
  rw [Int32.le_iff_toInt_le] at h
  have e : (1500 : Int32).toInt = 1500 := by decide
  have e2 : (1501 : Int32).toInt = 1501 := by decide
  refine if_neg (fun y => ?_)
  rw [Int32.lt_iff_toInt_lt] at y
  omega
theorem tx_cap_gt {x : Int32} (h : ¬ x ≤ 1500) : tx_cap x = 1501 := by
  rw [Int32.le_iff_toInt_le] at h
  have e : (1500 : Int32).toInt = 1500 := by decide
  have e2 : (1501 : Int32).toInt = 1501 := by decide
  unfold tx_cap
  split
  · rfl
  · next y =>
    rw [Int32.lt_iff_toInt_lt] at y
    exact Int32.toInt_inj.mp (by omega)
set_option maxRecDepth 100000 in
theorem c_Me_spend {k : cx_K} {l : Launch} {G : cx_G} {F : Nat → Prop} {A : tx_A} {s : tx_S} {u : tx_U} (hu : s.2.2.1 = some u) {c : Int32} (hm : tx_m k F G A s)  : cx_Sp k l m_Me_spend 1 [.ref A.me, .int c] G (tx_mq k F G A (tx_spend c s) none) := by
  intro E hE
  obtain ⟨x0, hme, hxu⟩ := hm.2.1
  have hxu := hxu u hu
  subst hxu
  have hun := hm.2.2.2.1 _ u (tx_S.cur hu)
  unfold tx_um at hun
  refine cx_aload_n (i := 0) hE d_Me_spend_0 rfl rfl ?_
  refine cx_get hE d_Me_spend_1 f_Me_28 (by assumption) (by rfl) ?_
  refine cx_get hE d_Me_spend_4 f_Me_83 (by assumption) (by rfl) ?_
  refine cx_iload_n (i := 1) hE d_Me_spend_7 rfl rfl ?_
  refine cx_iadd hE d_Me_spend_8 ?_
  refine cx_istore_n (i := 2) hE d_Me_spend_9 rfl (by decide) ?_
  refine cx_aload_n (i := 0) hE d_Me_spend_10 rfl rfl ?_
  refine cx_get hE d_Me_spend_11 f_Me_28 (by assumption) (by rfl) ?_
  refine cx_iload_n (i := 2) hE d_Me_spend_14 rfl rfl ?_
  refine cx_sipush (v := 1500) hE d_Me_spend_15 (by decide) ?_
  have hp := hm.um (g := tx_spu c) (tx_S.cur hu) (fun _ => rfl)
  refine cx_icmp_le (tgt := 27) hE d_Me_spend_18 (by decide) (fun c_18 => ?_) (fun c_18 => ?_)
  · refine cx_iload_n (i := 2) hE d_Me_spend_27 rfl rfl ?_
    refine cx_putg hE d_Me_spend_28 f_Me_83 (by assumption) (Nat.le_of_ble_eq_true rfl) (by first | rfl | exact cx_nr _ _) (by first | rfl | exact cx_fr _ _) (fun G_28 g_28 h_28 => ?_)
    refine cx_vret hE d_Me_spend_31 rfl ?_
    have e1 : G_28 = cx_put G (A.ua s.2.1.length) (tx_um A s.2.1.length (tx_spu c u)) := by
      rw [← g_28]
      unfold tx_spu
      rw [tx_cap_le c_18]
      rfl
    rw [e1]
    exact ⟨rfl, hp.1, hp.2, rfl⟩
  · refine cx_sipush (v := 1501) hE d_Me_spend_21 (by decide) ?_
    refine cx_goto (tgt := 28) hE d_Me_spend_24 (by decide) ?_
    refine cx_putg hE d_Me_spend_28 f_Me_83 (by assumption) (Nat.le_of_ble_eq_true rfl) (by first | rfl | exact cx_nr _ _) (by first | rfl | exact cx_fr _ _) (fun G_28 g_28 h_28 => ?_)
    refine cx_vret hE d_Me_spend_31 rfl ?_
    have e1 : G_28 = cx_put G (A.ua s.2.1.length) (tx_um A s.2.1.length (tx_spu c u)) := by
      rw [← g_28]
      unfold tx_spu
      rw [tx_cap_gt c_18]
      rfl
    rw [e1]
    exact ⟨rfl, hp.1, hp.2, rfl⟩
set_option maxRecDepth 100000 in
theorem c_Me_used {k : cx_K} {l : Launch} {G : cx_G} {F : Nat → Prop} {A : tx_A} {s : tx_S} {u : tx_U} (hu : s.2.2.1 = some u) {a : Nat} {t : tx_Tk} (ht : tx_tw G A a t) (hm : tx_m k F G A s)  : cx_Sp k l m_Me_used 1 [.ref A.me, .ref a] G (tx_mq k F G A (tx_used s t).2 (some (va_rf ((tx_used s t).1.map (A.na s.2.1.length))))) := by
  intro E hE
  obtain ⟨x0, hme, hxu⟩ := hm.2.1
  have hxu := hxu u hu
  subst hxu
  obtain ⟨nx, ht0, hwf⟩ := id ht
  have hta : G.1 a = some (.inr (7, [.int t.1, .int (nI t.2.1), .int (nI t.2.2.1), va_rf nx, va_rf (A.w t.2.2.2.1), .int t.2.2.2.2.1, .long t.2.2.2.2.2])) := ht0
  have hda := c_Me_declaredAs (l := l) hm hu ht
  cases hd : s.da t.2.2.2.1 with
  | none =>
    rw [hd] at hda
    refine cx_aload_n (i := 0) hE d_Me_used_0 rfl rfl ?_
    refine cx_aload_n (i := 1) hE d_Me_used_1 rfl rfl ?_
    refine cx_invV1 hE d_Me_used_2 l_Me_93 hme hda rfl (by omega) (Nat.le_of_ble_eq_true rfl) n_Me_declaredAs (by rfl) ?_
    refine cx_astore_n (i := 2) hE d_Me_used_5 rfl (by decide) ?_
    refine cx_aload_n (i := 2) hE d_Me_used_6 rfl rfl ?_
    refine cx_ifnull (tgt := 22) (r := none) hE d_Me_used_7 (by decide) (fun c_7 => ?_) (fun a_7 c_7 => ?_)
    · refine cx_iconst (v := 0) hE d_Me_used_22 (by decide) ?_
      refine cx_istore_n (i := 3) hE d_Me_used_23 rfl (by decide) ?_
      refine cx_aload_n (i := 0) hE d_Me_used_24 rfl rfl ?_
      refine cx_get hE d_Me_used_25 f_Me_32 (by assumption) (by rfl) ?_
      refine cx_iload_n (i := 3) hE d_Me_used_28 rfl rfl ?_
      refine cx_bipush (v := 22) hE d_Me_used_29 (by decide) ?_
      refine cx_aload_n (i := 1) hE d_Me_used_31 rfl rfl ?_
      refine cx_get hE d_Me_used_32 f_Me_40 (by assumption) (by rfl) ?_
      refine cx_invV hE d_Me_used_35 l_Me_44 hm.1 (c_ck (right := false) (code := 22) (place := (nI t.2.1)) hm) rfl (by omega) (Nat.le_of_ble_eq_true rfl) n_Ve_check (by rfl) (fun v G1 q => ?_) (fun a G1 q => by cases q.1)
      obtain ⟨q0, hm1, hs1, hc1⟩ := q
      cases q0
      show cx_V E _ _ [] G1
      refine cx_iload_n (i := 3) hE d_Me_used_38 rfl rfl ?_
      refine cx_if_eq (tgt := 46)  hE d_Me_used_39 (by decide) (fun c_39 => ?_) (fun c_39 => ?_)
      · refine cx_null hE d_Me_used_46 ?_
        refine cx_aret (r := none) hE d_Me_used_47 rfl (by first | exact Or.inl ⟨_, rfl⟩ | exact Or.inr ⟨_, rfl⟩) ?_
        have e9 : tx_used s t = (none, tx_ck false 22 (nI t.2.1) s) := by unfold tx_used; rw [hd]
        rw [e9]
        exact ⟨rfl, hm1, hs1, hc1⟩
      · exact absurd rfl c_39
        -- end
    · cases c_7
      -- end
  | some q =>
    rw [hd] at hda
    obtain ⟨u9, r, hu9, hr⟩ := tx_S.da_ok hm.2.2.2.2.2.2.2.2.1 _ q hd
    have hn9 := hm.2.2.2.2.2.1 _ u9 (tx_S.cur hu9) q r hr
    unfold tx_nm at hn9
    have hrc := tx_S.rc_of hu9 hr
    refine cx_aload_n (i := 0) hE d_Me_used_0 rfl rfl ?_
    refine cx_aload_n (i := 1) hE d_Me_used_1 rfl rfl ?_
    refine cx_invV1 hE d_Me_used_2 l_Me_93 hme hda rfl (by omega) (Nat.le_of_ble_eq_true rfl) n_Me_declaredAs (by rfl) ?_
    refine cx_astore_n (i := 2) hE d_Me_used_5 rfl (by decide) ?_
    refine cx_aload_n (i := 2) hE d_Me_used_6 rfl rfl ?_
    refine cx_ifnull (tgt := 22) (r := some (A.na s.2.1.length q)) hE d_Me_used_7 (by decide) (fun c_7 => ?_) (fun a_7 c_7 => ?_)
    · cases c_7
      -- end
    · refine cx_aload_n (i := 2) hE d_Me_used_10 rfl rfl ?_
      refine cx_get hE d_Me_used_11 f_Me_112 (by assumption) (by rfl) ?_
      refine cx_iconst (v := 5) hE d_Me_used_14 (by decide) ?_
      refine cx_icmp_eq (tgt := 22)  hE d_Me_used_15 (by decide) (fun c_15 => ?_) (fun c_15 => ?_)
      · refine cx_iconst (v := 0) hE d_Me_used_22 (by decide) ?_
        refine cx_istore_n (i := 3) hE d_Me_used_23 rfl (by decide) ?_
        refine cx_aload_n (i := 0) hE d_Me_used_24 rfl rfl ?_
        refine cx_get hE d_Me_used_25 f_Me_32 (by assumption) (by rfl) ?_
        refine cx_iload_n (i := 3) hE d_Me_used_28 rfl rfl ?_
        refine cx_bipush (v := 22) hE d_Me_used_29 (by decide) ?_
        refine cx_aload_n (i := 1) hE d_Me_used_31 rfl rfl ?_
        refine cx_get hE d_Me_used_32 f_Me_40 (by assumption) (by rfl) ?_
        refine cx_invV hE d_Me_used_35 l_Me_44 hm.1 (c_ck (right := false) (code := 22) (place := (nI t.2.1)) hm) rfl (by omega) (Nat.le_of_ble_eq_true rfl) n_Ve_check (by rfl) (fun v G1 q => ?_) (fun a G1 q => by cases q.1)
        obtain ⟨q0, hm1, hs1, hc1⟩ := q
        cases q0
        show cx_V E _ _ [] G1
        refine cx_iload_n (i := 3) hE d_Me_used_38 rfl rfl ?_
        refine cx_if_eq (tgt := 46)  hE d_Me_used_39 (by decide) (fun c_39 => ?_) (fun c_39 => ?_)
        · refine cx_null hE d_Me_used_46 ?_
          refine cx_aret (r := none) hE d_Me_used_47 rfl (by first | exact Or.inl ⟨_, rfl⟩ | exact Or.inr ⟨_, rfl⟩) ?_
          first
            | (have e9 : tx_used s t = (some q, tx_ck true 22 (nI t.2.1) s) := by
                 unfold tx_used
                 rw [hd]
                 show (if (s.rc q).2.1 = 5 then _ else _) = _
                 rw [hrc, if_neg c_15]
               rw [e9]
               exact ⟨rfl, hm1, hs1, hc1⟩)
            | (have e9 : tx_used s t = (none, tx_ck false 22 (nI t.2.1) s) := by
                 unfold tx_used
                 rw [hd]
                 show (if (s.rc q).2.1 = 5 then _ else _) = _
                 rw [hrc, if_pos c_15]
               rw [e9]
               exact ⟨rfl, hm1, hs1, hc1⟩)
        · exact absurd rfl c_39
          -- end
      · refine cx_iconst (v := 1) hE d_Me_used_18 (by decide) ?_
        refine cx_goto (tgt := 23) hE d_Me_used_19 (by decide) ?_
        refine cx_istore_n (i := 3) hE d_Me_used_23 rfl (by decide) ?_
        refine cx_aload_n (i := 0) hE d_Me_used_24 rfl rfl ?_
        refine cx_get hE d_Me_used_25 f_Me_32 (by assumption) (by rfl) ?_
        refine cx_iload_n (i := 3) hE d_Me_used_28 rfl rfl ?_
        refine cx_bipush (v := 22) hE d_Me_used_29 (by decide) ?_
        refine cx_aload_n (i := 1) hE d_Me_used_31 rfl rfl ?_
        refine cx_get hE d_Me_used_32 f_Me_40 (by assumption) (by rfl) ?_
        refine cx_invV hE d_Me_used_35 l_Me_44 hm.1 (c_ck (right := true) (code := 22) (place := (nI t.2.1)) hm) rfl (by omega) (Nat.le_of_ble_eq_true rfl) n_Ve_check (by rfl) (fun v G1 q => ?_) (fun a G1 q => by cases q.1)
        obtain ⟨q0, hm1, hs1, hc1⟩ := q
        cases q0
        show cx_V E _ _ [] G1
        refine cx_iload_n (i := 3) hE d_Me_used_38 rfl rfl ?_
        refine cx_if_eq (tgt := 46)  hE d_Me_used_39 (by decide) (fun c_39 => ?_) (fun c_39 => ?_)
        · exact absurd c_39 (by decide)
          -- end
        · refine cx_aload_n (i := 2) hE d_Me_used_42 rfl rfl ?_
          refine cx_goto (tgt := 47) hE d_Me_used_43 (by decide) ?_
          refine cx_aret (r := some (A.na s.2.1.length q)) hE d_Me_used_47 rfl (by first | exact Or.inl ⟨_, rfl⟩ | exact Or.inr ⟨_, rfl⟩) ?_
          first
            | (have e9 : tx_used s t = (some q, tx_ck true 22 (nI t.2.1) s) := by
                 unfold tx_used
                 rw [hd]
                 show (if (s.rc q).2.1 = 5 then _ else _) = _
                 rw [hrc, if_neg c_15]
               rw [e9]
               exact ⟨rfl, hm1, hs1, hc1⟩)
            | (have e9 : tx_used s t = (none, tx_ck false 22 (nI t.2.1) s) := by
                 unfold tx_used
                 rw [hd]
                 show (if (s.rc q).2.1 = 5 then _ else _) = _
                 rw [hrc, if_pos c_15]
               rw [e9]
               exact ⟨rfl, hm1, hs1, hc1⟩)
set_option maxRecDepth 100000 in
theorem c_Me_rangeWidth {k : cx_K} {l : Launch} {G : cx_G} {F : Nat → Prop} {A : tx_A} {s : tx_S} {a : Nat} {t : tx_Tk} (ht : tx_tw G A a t) {hi lo : Int32} (hm : tx_m k F G A s)  : cx_Sp k l m_Me_rangeWidth 1 [.ref A.me, .ref a, .int hi, .int lo] G (tx_mq k F G A (tx_ck (tx_rw hi lo) 30 (nI t.2.1) s) (some (.int (if tx_rw hi lo = true then hi + 1 else 1)))) := by
  intro E hE
  obtain ⟨x0, hme, hxu⟩ := hm.2.1
  obtain ⟨nx, ht0, hwf⟩ := id ht
  have hta : G.1 a = some (.inr (7, [.int t.1, .int (nI t.2.1), .int (nI t.2.2.1), va_rf nx, va_rf (A.w t.2.2.2.1), .int t.2.2.2.2.1, .long t.2.2.2.2.2])) := ht0
  refine cx_iload_n (i := 3) hE d_Me_rangeWidth_0 rfl rfl ?_
  refine cx_if_ne (tgt := 14)  hE d_Me_rangeWidth_1 (by decide) (fun c_1 => ?_) (fun c_1 => ?_)
  · refine cx_iconst (v := 0) hE d_Me_rangeWidth_14 (by decide) ?_
    refine cx_istore hE d_Me_rangeWidth_15 (by decide) ?_
    refine cx_aload_n (i := 0) hE d_Me_rangeWidth_17 rfl rfl ?_
    refine cx_get hE d_Me_rangeWidth_18 f_Me_32 (by assumption) (by rfl) ?_
    refine cx_iload hE d_Me_rangeWidth_21 rfl ?_
    refine cx_bipush (v := 30) hE d_Me_rangeWidth_23 (by decide) ?_
    refine cx_aload_n (i := 1) hE d_Me_rangeWidth_25 rfl rfl ?_
    refine cx_get hE d_Me_rangeWidth_26 f_Me_40 (by assumption) (by rfl) ?_
    refine cx_invV hE d_Me_rangeWidth_29 l_Me_44 hm.1 (c_ck (right := false) (code := 30) (place := (nI t.2.1)) hm) rfl (by omega) (Nat.le_of_ble_eq_true rfl) n_Ve_check (by rfl) (fun v G1 q => ?_) (fun a G1 q => by cases q.1)
    obtain ⟨q0, hm1, hs1, hc1⟩ := q
    cases q0
    show cx_V E _ _ [] G1
    refine cx_iload hE d_Me_rangeWidth_32 rfl ?_
    refine cx_if_eq (tgt := 43)  hE d_Me_rangeWidth_34 (by decide) (fun c_34 => ?_) (fun c_34 => ?_)
    · refine cx_iconst (v := 1) hE d_Me_rangeWidth_43 (by decide) ?_
      refine cx_iret hE d_Me_rangeWidth_44 rfl rfl ?_
      first
        | (have e9 : tx_rw hi lo = true := decide_eq_true ⟨by simpa using c_1, c_7⟩
           rw [e9]
           exact ⟨rfl, hm1, hs1, hc1⟩)
        | (have e9 : tx_rw hi lo = false := decide_eq_false (fun z => by first | exact c_1 z.1 | exact z.2 c_7)
           rw [e9]
           exact ⟨rfl, hm1, hs1, hc1⟩)
    · exact absurd rfl c_34
      -- end
  · refine cx_iload_n (i := 2) hE d_Me_rangeWidth_4 rfl rfl ?_
    refine cx_bipush (v := 64) hE d_Me_rangeWidth_5 (by decide) ?_
    refine cx_icmp_ge (tgt := 14)  hE d_Me_rangeWidth_7 (by decide) (fun c_7 => ?_) (fun c_7 => ?_)
    · refine cx_iconst (v := 0) hE d_Me_rangeWidth_14 (by decide) ?_
      refine cx_istore hE d_Me_rangeWidth_15 (by decide) ?_
      refine cx_aload_n (i := 0) hE d_Me_rangeWidth_17 rfl rfl ?_
      refine cx_get hE d_Me_rangeWidth_18 f_Me_32 (by assumption) (by rfl) ?_
      refine cx_iload hE d_Me_rangeWidth_21 rfl ?_
      refine cx_bipush (v := 30) hE d_Me_rangeWidth_23 (by decide) ?_
      refine cx_aload_n (i := 1) hE d_Me_rangeWidth_25 rfl rfl ?_
      refine cx_get hE d_Me_rangeWidth_26 f_Me_40 (by assumption) (by rfl) ?_
      refine cx_invV hE d_Me_rangeWidth_29 l_Me_44 hm.1 (c_ck (right := false) (code := 30) (place := (nI t.2.1)) hm) rfl (by omega) (Nat.le_of_ble_eq_true rfl) n_Ve_check (by rfl) (fun v G1 q => ?_) (fun a G1 q => by cases q.1)
      obtain ⟨q0, hm1, hs1, hc1⟩ := q
      cases q0
      show cx_V E _ _ [] G1
      refine cx_iload hE d_Me_rangeWidth_32 rfl ?_
      refine cx_if_eq (tgt := 43)  hE d_Me_rangeWidth_34 (by decide) (fun c_34 => ?_) (fun c_34 => ?_)
      · refine cx_iconst (v := 1) hE d_Me_rangeWidth_43 (by decide) ?_
        refine cx_iret hE d_Me_rangeWidth_44 rfl rfl ?_
        first
          | (have e9 : tx_rw hi lo = true := decide_eq_true ⟨by simpa using c_1, c_7⟩
             rw [e9]
             exact ⟨rfl, hm1, hs1, hc1⟩)
          | (have e9 : tx_rw hi lo = false := decide_eq_false (fun z => by first | exact c_1 z.1 | exact z.2 c_7)
             rw [e9]
             exact ⟨rfl, hm1, hs1, hc1⟩)
      · exact absurd rfl c_34
        -- end
    · refine cx_iconst (v := 1) hE d_Me_rangeWidth_10 (by decide) ?_
      refine cx_goto (tgt := 15) hE d_Me_rangeWidth_11 (by decide) ?_
      refine cx_istore hE d_Me_rangeWidth_15 (by decide) ?_
      refine cx_aload_n (i := 0) hE d_Me_rangeWidth_17 rfl rfl ?_
      refine cx_get hE d_Me_rangeWidth_18 f_Me_32 (by assumption) (by rfl) ?_
      refine cx_iload hE d_Me_rangeWidth_21 rfl ?_
      refine cx_bipush (v := 30) hE d_Me_rangeWidth_23 (by decide) ?_
      refine cx_aload_n (i := 1) hE d_Me_rangeWidth_25 rfl rfl ?_
      refine cx_get hE d_Me_rangeWidth_26 f_Me_40 (by assumption) (by rfl) ?_
      refine cx_invV hE d_Me_rangeWidth_29 l_Me_44 hm.1 (c_ck (right := true) (code := 30) (place := (nI t.2.1)) hm) rfl (by omega) (Nat.le_of_ble_eq_true rfl) n_Ve_check (by rfl) (fun v G1 q => ?_) (fun a G1 q => by cases q.1)
      obtain ⟨q0, hm1, hs1, hc1⟩ := q
      cases q0
      show cx_V E _ _ [] G1
      refine cx_iload hE d_Me_rangeWidth_32 rfl ?_
      refine cx_if_eq (tgt := 43)  hE d_Me_rangeWidth_34 (by decide) (fun c_34 => ?_) (fun c_34 => ?_)
      · exact absurd c_34 (by decide)
        -- end
      · refine cx_iload_n (i := 2) hE d_Me_rangeWidth_37 rfl rfl ?_
        refine cx_iconst (v := 1) hE d_Me_rangeWidth_38 (by decide) ?_
        refine cx_iadd hE d_Me_rangeWidth_39 ?_
        refine cx_goto (tgt := 44) hE d_Me_rangeWidth_40 (by decide) ?_
        refine cx_iret hE d_Me_rangeWidth_44 rfl rfl ?_
        first
          | (have e9 : tx_rw hi lo = true := decide_eq_true ⟨by simpa using c_1, c_7⟩
             rw [e9]
             exact ⟨rfl, hm1, hs1, hc1⟩)
          | (have e9 : tx_rw hi lo = false := decide_eq_false (fun z => by first | exact c_1 z.1 | exact z.2 c_7)
             rw [e9]
             exact ⟨rfl, hm1, hs1, hc1⟩)
set_option maxRecDepth 100000 in
theorem c_Me_bracesWidth {k : cx_K} {l : Launch} {G : cx_G} {F : Nat → Prop} {A : tx_A} {s : tx_S} {a : Nat} {t : tx_Tk} (ht : tx_tw G A a t) {w : Int32} (hm : tx_m k F G A s)  : cx_Sp k l m_Me_bracesWidth 1 [.ref A.me, .ref a, .int w] G (tx_mq k F G A (tx_ck (tx_bw w) 30 (nI t.2.1) s) (some (.int (if tx_bw w = true then w else 1)))) := by
  intro E hE
  obtain ⟨x0, hme, hxu⟩ := hm.2.1
  obtain ⟨nx, ht0, hwf⟩ := id ht
  have hta : G.1 a = some (.inr (7, [.int t.1, .int (nI t.2.1), .int (nI t.2.2.1), va_rf nx, va_rf (A.w t.2.2.2.1), .int t.2.2.2.2.1, .long t.2.2.2.2.2])) := ht0
  refine cx_iload_n (i := 2) hE d_Me_bracesWidth_0 rfl rfl ?_
  refine cx_iconst (v := 1) hE d_Me_bracesWidth_1 (by decide) ?_
  refine cx_icmp_lt (tgt := 15)  hE d_Me_bracesWidth_2 (by decide) (fun c_2 => ?_) (fun c_2 => ?_)
  · refine cx_iconst (v := 0) hE d_Me_bracesWidth_15 (by decide) ?_
    refine cx_istore_n (i := 3) hE d_Me_bracesWidth_16 rfl (by decide) ?_
    refine cx_aload_n (i := 0) hE d_Me_bracesWidth_17 rfl rfl ?_
    refine cx_get hE d_Me_bracesWidth_18 f_Me_32 (by assumption) (by rfl) ?_
    refine cx_iload_n (i := 3) hE d_Me_bracesWidth_21 rfl rfl ?_
    refine cx_bipush (v := 30) hE d_Me_bracesWidth_22 (by decide) ?_
    refine cx_aload_n (i := 1) hE d_Me_bracesWidth_24 rfl rfl ?_
    refine cx_get hE d_Me_bracesWidth_25 f_Me_40 (by assumption) (by rfl) ?_
    refine cx_invV hE d_Me_bracesWidth_28 l_Me_44 hm.1 (c_ck (right := false) (code := 30) (place := (nI t.2.1)) hm) rfl (by omega) (Nat.le_of_ble_eq_true rfl) n_Ve_check (by rfl) (fun v G1 q => ?_) (fun a G1 q => by cases q.1)
    obtain ⟨q0, hm1, hs1, hc1⟩ := q
    cases q0
    show cx_V E _ _ [] G1
    refine cx_iload_n (i := 3) hE d_Me_bracesWidth_31 rfl rfl ?_
    refine cx_if_eq (tgt := 39)  hE d_Me_bracesWidth_32 (by decide) (fun c_32 => ?_) (fun c_32 => ?_)
    · refine cx_iconst (v := 1) hE d_Me_bracesWidth_39 (by decide) ?_
      refine cx_iret hE d_Me_bracesWidth_40 rfl rfl ?_
      first
        | (have e9 : tx_bw w = true := decide_eq_true ⟨c_2, c_8⟩
           rw [e9]
           exact ⟨rfl, hm1, hs1, hc1⟩)
        | (have e9 : tx_bw w = false := decide_eq_false (fun z => by first | exact z.1 c_2 | exact z.2 c_8)
           rw [e9]
           exact ⟨rfl, hm1, hs1, hc1⟩)
    · exact absurd rfl c_32
      -- end
  · refine cx_iload_n (i := 2) hE d_Me_bracesWidth_5 rfl rfl ?_
    refine cx_bipush (v := 64) hE d_Me_bracesWidth_6 (by decide) ?_
    refine cx_icmp_gt (tgt := 15)  hE d_Me_bracesWidth_8 (by decide) (fun c_8 => ?_) (fun c_8 => ?_)
    · refine cx_iconst (v := 0) hE d_Me_bracesWidth_15 (by decide) ?_
      refine cx_istore_n (i := 3) hE d_Me_bracesWidth_16 rfl (by decide) ?_
      refine cx_aload_n (i := 0) hE d_Me_bracesWidth_17 rfl rfl ?_
      refine cx_get hE d_Me_bracesWidth_18 f_Me_32 (by assumption) (by rfl) ?_
      refine cx_iload_n (i := 3) hE d_Me_bracesWidth_21 rfl rfl ?_
      refine cx_bipush (v := 30) hE d_Me_bracesWidth_22 (by decide) ?_
      refine cx_aload_n (i := 1) hE d_Me_bracesWidth_24 rfl rfl ?_
      refine cx_get hE d_Me_bracesWidth_25 f_Me_40 (by assumption) (by rfl) ?_
      refine cx_invV hE d_Me_bracesWidth_28 l_Me_44 hm.1 (c_ck (right := false) (code := 30) (place := (nI t.2.1)) hm) rfl (by omega) (Nat.le_of_ble_eq_true rfl) n_Ve_check (by rfl) (fun v G1 q => ?_) (fun a G1 q => by cases q.1)
      obtain ⟨q0, hm1, hs1, hc1⟩ := q
      cases q0
      show cx_V E _ _ [] G1
      refine cx_iload_n (i := 3) hE d_Me_bracesWidth_31 rfl rfl ?_
      refine cx_if_eq (tgt := 39)  hE d_Me_bracesWidth_32 (by decide) (fun c_32 => ?_) (fun c_32 => ?_)
      · refine cx_iconst (v := 1) hE d_Me_bracesWidth_39 (by decide) ?_
        refine cx_iret hE d_Me_bracesWidth_40 rfl rfl ?_
        first
          | (have e9 : tx_bw w = true := decide_eq_true ⟨c_2, c_8⟩
             rw [e9]
             exact ⟨rfl, hm1, hs1, hc1⟩)
          | (have e9 : tx_bw w = false := decide_eq_false (fun z => by first | exact z.1 c_2 | exact z.2 c_8)
             rw [e9]
             exact ⟨rfl, hm1, hs1, hc1⟩)
      · exact absurd rfl c_32
        -- end
    · refine cx_iconst (v := 1) hE d_Me_bracesWidth_11 (by decide) ?_
      refine cx_goto (tgt := 16) hE d_Me_bracesWidth_12 (by decide) ?_
      refine cx_istore_n (i := 3) hE d_Me_bracesWidth_16 rfl (by decide) ?_
      refine cx_aload_n (i := 0) hE d_Me_bracesWidth_17 rfl rfl ?_
      refine cx_get hE d_Me_bracesWidth_18 f_Me_32 (by assumption) (by rfl) ?_
      refine cx_iload_n (i := 3) hE d_Me_bracesWidth_21 rfl rfl ?_
      refine cx_bipush (v := 30) hE d_Me_bracesWidth_22 (by decide) ?_
      refine cx_aload_n (i := 1) hE d_Me_bracesWidth_24 rfl rfl ?_
      refine cx_get hE d_Me_bracesWidth_25 f_Me_40 (by assumption) (by rfl) ?_
      refine cx_invV hE d_Me_bracesWidth_28 l_Me_44 hm.1 (c_ck (right := true) (code := 30) (place := (nI t.2.1)) hm) rfl (by omega) (Nat.le_of_ble_eq_true rfl) n_Ve_check (by rfl) (fun v G1 q => ?_) (fun a G1 q => by cases q.1)
      obtain ⟨q0, hm1, hs1, hc1⟩ := q
      cases q0
      show cx_V E _ _ [] G1
      refine cx_iload_n (i := 3) hE d_Me_bracesWidth_31 rfl rfl ?_
      refine cx_if_eq (tgt := 39)  hE d_Me_bracesWidth_32 (by decide) (fun c_32 => ?_) (fun c_32 => ?_)
      · exact absurd c_32 (by decide)
        -- end
      · refine cx_iload_n (i := 2) hE d_Me_bracesWidth_35 rfl rfl ?_
        refine cx_goto (tgt := 40) hE d_Me_bracesWidth_36 (by decide) ?_
        refine cx_iret hE d_Me_bracesWidth_40 rfl rfl ?_
        first
          | (have e9 : tx_bw w = true := decide_eq_true ⟨c_2, c_8⟩
             rw [e9]
             exact ⟨rfl, hm1, hs1, hc1⟩)
          | (have e9 : tx_bw w = false := decide_eq_false (fun z => by first | exact z.1 c_2 | exact z.2 c_8)
             rw [e9]
             exact ⟨rfl, hm1, hs1, hc1⟩)
set_option maxRecDepth 100000 in
theorem c_Me_instanced {k : cx_K} {l : Launch} {G : cx_G} {F : Nat → Prop} {A : tx_A} {s : tx_S} {a : Nat} {t : tx_Tk} (ht : tx_tw G A a t) (hm : tx_m k F G A s)  : cx_Sp k l m_Me_instanced 1 [.ref A.me, .ref a] G (tx_mq k F G A (tx_ck (s.mo t.2.2.2.1).isSome 22 (nI t.2.1) s) (some (va_rf ((s.mo t.2.2.2.1).map A.ua)))) := by
  intro E hE
  obtain ⟨x0, hme, hxu⟩ := hm.2.1
  obtain ⟨nx, ht0, hwf⟩ := id ht
  have hta : G.1 a = some (.inr (7, [.int t.1, .int (nI t.2.1), .int (nI t.2.2.1), va_rf nx, va_rf (A.w t.2.2.2.1), .int t.2.2.2.2.1, .long t.2.2.2.2.2])) := ht0
  have hmo := c_Me_moduleOf (l := l) hm ht
  cases hd : s.mo t.2.2.2.1 with
  | none =>
    rw [hd] at hmo
    refine cx_aload_n (i := 1) hE d_Me_instanced_0 rfl rfl ?_
    refine cx_invS1 hE d_Me_instanced_1 l_Me_36 hmo rfl (by omega) (Nat.le_of_ble_eq_true rfl) n_Me_moduleOf (by rfl) ?_
    refine cx_astore_n (i := 2) hE d_Me_instanced_4 rfl (by decide) ?_
    refine cx_aload_n (i := 0) hE d_Me_instanced_5 rfl rfl ?_
    refine cx_get hE d_Me_instanced_6 f_Me_32 (by assumption) (by rfl) ?_
    refine cx_aload_n (i := 2) hE d_Me_instanced_9 rfl rfl ?_
    refine cx_ifnull (tgt := 17) (r := none) hE d_Me_instanced_10 (by decide) (fun c_10 => ?_) (fun a_10 c_10 => ?_)
    · refine cx_iconst (v := 0) hE d_Me_instanced_17 (by decide) ?_
      refine cx_bipush (v := 22) hE d_Me_instanced_18 (by decide) ?_
      refine cx_aload_n (i := 1) hE d_Me_instanced_20 rfl rfl ?_
      refine cx_get hE d_Me_instanced_21 f_Me_40 (by assumption) (by rfl) ?_
      refine cx_invV hE d_Me_instanced_24 l_Me_44 hm.1 (c_ck (right := false) (code := 22) (place := (nI t.2.1)) hm) rfl (by omega) (Nat.le_of_ble_eq_true rfl) n_Ve_check (by rfl) (fun v G1 q => ?_) (fun a G1 q => by cases q.1)
      obtain ⟨q0, hm1, hs1, hc1⟩ := q
      cases q0
      show cx_V E _ _ [] G1
      refine cx_aload_n (i := 2) hE d_Me_instanced_27 rfl rfl ?_
      refine cx_aret (r := none) hE d_Me_instanced_28 rfl (by first | exact Or.inl ⟨_, rfl⟩ | exact Or.inr ⟨_, rfl⟩) ?_
      rw [hd]
      exact ⟨rfl, hm1, hs1, hc1⟩
    · cases c_10
      -- end
  | some j =>
    rw [hd] at hmo
    refine cx_aload_n (i := 1) hE d_Me_instanced_0 rfl rfl ?_
    refine cx_invS1 hE d_Me_instanced_1 l_Me_36 hmo rfl (by omega) (Nat.le_of_ble_eq_true rfl) n_Me_moduleOf (by rfl) ?_
    refine cx_astore_n (i := 2) hE d_Me_instanced_4 rfl (by decide) ?_
    refine cx_aload_n (i := 0) hE d_Me_instanced_5 rfl rfl ?_
    refine cx_get hE d_Me_instanced_6 f_Me_32 (by assumption) (by rfl) ?_
    refine cx_aload_n (i := 2) hE d_Me_instanced_9 rfl rfl ?_
    refine cx_ifnull (tgt := 17) (r := some (A.ua j)) hE d_Me_instanced_10 (by decide) (fun c_10 => ?_) (fun a_10 c_10 => ?_)
    · cases c_10
      -- end
    · refine cx_iconst (v := 1) hE d_Me_instanced_13 (by decide) ?_
      refine cx_goto (tgt := 18) hE d_Me_instanced_14 (by decide) ?_
      refine cx_bipush (v := 22) hE d_Me_instanced_18 (by decide) ?_
      refine cx_aload_n (i := 1) hE d_Me_instanced_20 rfl rfl ?_
      refine cx_get hE d_Me_instanced_21 f_Me_40 (by assumption) (by rfl) ?_
      refine cx_invV hE d_Me_instanced_24 l_Me_44 hm.1 (c_ck (right := true) (code := 22) (place := (nI t.2.1)) hm) rfl (by omega) (Nat.le_of_ble_eq_true rfl) n_Ve_check (by rfl) (fun v G1 q => ?_) (fun a G1 q => by cases q.1)
      obtain ⟨q0, hm1, hs1, hc1⟩ := q
      cases q0
      show cx_V E _ _ [] G1
      refine cx_aload_n (i := 2) hE d_Me_instanced_27 rfl rfl ?_
      refine cx_aret (r := some (A.ua j)) hE d_Me_instanced_28 rfl (by first | exact Or.inl ⟨_, rfl⟩ | exact Or.inr ⟨_, rfl⟩) ?_
      rw [hd]
      exact ⟨rfl, hm1, hs1, hc1⟩
set_option maxRecDepth 100000 in
theorem c_Me_caseValue {k : cx_K} {l : Launch} {G : cx_G} {F : Nat → Prop} {A : tx_A} {s : tx_S} {u : tx_U} (hu : s.2.2.1 = some u) {a : Nat} {t : tx_Tk} (ht : tx_tw G A a t) {w : Int32} (hm : tx_m k F G A s)  : cx_Sp k l m_Me_caseValue 2 [.ref A.me, .ref a, .int w] G (tx_mq k F G A (tx_spend w (tx_ck (decide (t.2.2.2.2.1 = w)) 30 (nI t.2.1) s)) none) := by
  intro E hE
  obtain ⟨x0, hme, hxu⟩ := hm.2.1
  obtain ⟨nx, ht0, hwf⟩ := id ht
  have hta : G.1 a = some (.inr (7, [.int t.1, .int (nI t.2.1), .int (nI t.2.2.1), va_rf nx, va_rf (A.w t.2.2.2.1), .int t.2.2.2.2.1, .long t.2.2.2.2.2])) := ht0
  refine cx_aload_n (i := 0) hE d_Me_caseValue_0 rfl rfl ?_
  refine cx_get hE d_Me_caseValue_1 f_Me_32 (by assumption) (by rfl) ?_
  refine cx_aload_n (i := 1) hE d_Me_caseValue_4 rfl rfl ?_
  refine cx_get hE d_Me_caseValue_5 f_Me_101 (by assumption) (by rfl) ?_
  refine cx_iload_n (i := 2) hE d_Me_caseValue_8 rfl rfl ?_
  refine cx_icmp_ne (tgt := 16)  hE d_Me_caseValue_9 (by decide) (fun c_9 => ?_) (fun c_9 => ?_)
  · refine cx_iconst (v := 0) hE d_Me_caseValue_16 (by decide) ?_
    refine cx_bipush (v := 30) hE d_Me_caseValue_17 (by decide) ?_
    refine cx_aload_n (i := 1) hE d_Me_caseValue_19 rfl rfl ?_
    refine cx_get hE d_Me_caseValue_20 f_Me_40 (by assumption) (by rfl) ?_
    refine cx_invV hE d_Me_caseValue_23 l_Me_44 hm.1 (c_ck (right := false) (code := 30) (place := (nI t.2.1)) hm) rfl (by omega) (Nat.le_of_ble_eq_true rfl) n_Ve_check (by rfl) (fun v G1 q => ?_) (fun a G1 q => by cases q.1)
    obtain ⟨q0, hm1, hs1, hc1⟩ := q
    cases q0
    show cx_V E _ _ [] G1
    refine cx_aload_n (i := 0) hE d_Me_caseValue_26 rfl rfl ?_
    refine cx_iload_n (i := 2) hE d_Me_caseValue_27 rfl rfl ?_
    obtain ⟨x9, hme9, -⟩ := hm1.2.1
    refine cx_invV hE d_Me_caseValue_28 l_Me_128 hme9 (c_Me_spend (c := w) (u := u) (by rw [tx_ck_all]; exact hu) hm1) rfl (by omega) (Nat.le_of_ble_eq_true rfl) n_Me_spend (by rfl) (fun v G2 q => ?_) (fun a G2 q => by cases q.1)
    obtain ⟨q0, hm2, hs2, hc2⟩ := q
    cases q0
    show cx_V E _ _ [] G2
    refine cx_vret hE d_Me_caseValue_31 rfl ?_
    first
      | (rw [decide_eq_true c_9]; exact ⟨rfl, hm2, hs1.tr hs2, hc2.trans hc1⟩)
      | (rw [decide_eq_false c_9]; exact ⟨rfl, hm2, hs1.tr hs2, hc2.trans hc1⟩)
  · refine cx_iconst (v := 1) hE d_Me_caseValue_12 (by decide) ?_
    refine cx_goto (tgt := 17) hE d_Me_caseValue_13 (by decide) ?_
    refine cx_bipush (v := 30) hE d_Me_caseValue_17 (by decide) ?_
    refine cx_aload_n (i := 1) hE d_Me_caseValue_19 rfl rfl ?_
    refine cx_get hE d_Me_caseValue_20 f_Me_40 (by assumption) (by rfl) ?_
    refine cx_invV hE d_Me_caseValue_23 l_Me_44 hm.1 (c_ck (right := true) (code := 30) (place := (nI t.2.1)) hm) rfl (by omega) (Nat.le_of_ble_eq_true rfl) n_Ve_check (by rfl) (fun v G1 q => ?_) (fun a G1 q => by cases q.1)
    obtain ⟨q0, hm1, hs1, hc1⟩ := q
    cases q0
    show cx_V E _ _ [] G1
    refine cx_aload_n (i := 0) hE d_Me_caseValue_26 rfl rfl ?_
    refine cx_iload_n (i := 2) hE d_Me_caseValue_27 rfl rfl ?_
    obtain ⟨x9, hme9, -⟩ := hm1.2.1
    refine cx_invV hE d_Me_caseValue_28 l_Me_128 hme9 (c_Me_spend (c := w) (u := u) (by rw [tx_ck_all]; exact hu) hm1) rfl (by omega) (Nat.le_of_ble_eq_true rfl) n_Me_spend (by rfl) (fun v G2 q => ?_) (fun a G2 q => by cases q.1)
    obtain ⟨q0, hm2, hs2, hc2⟩ := q
    cases q0
    show cx_V E _ _ [] G2
    refine cx_vret hE d_Me_caseValue_31 rfl ?_
    first
      | (rw [decide_eq_true c_9]; exact ⟨rfl, hm2, hs1.tr hs2, hc2.trans hc1⟩)
      | (rw [decide_eq_false c_9]; exact ⟨rfl, hm2, hs1.tr hs2, hc2.trans hc1⟩)
set_option maxRecDepth 100000 in
theorem c_Me_conditional {k : cx_K} {l : Launch} {G : cx_G} {F : Nat → Prop} {A : tx_A} {s : tx_S} {u : tx_U} (hu : s.2.2.1 = some u) {a : Nat} {t : tx_Tk} (ht : tx_tw G A a t) {c x y : Int32} (hm : tx_m k F G A s)  : cx_Sp k l m_Me_conditional 2 [.ref A.me, .ref a, .int c, .int x, .int y] G (tx_mq k F G A (tx_cond t c x y s).2 (some (.int (tx_cond t c x y s).1))) := by
  intro E hE
  obtain ⟨x0, hme, hxu⟩ := hm.2.1
  obtain ⟨nx, ht0, hwf⟩ := id ht
  have hta : G.1 a = some (.inr (7, [.int t.1, .int (nI t.2.1), .int (nI t.2.2.1), va_rf nx, va_rf (A.w t.2.2.2.1), .int t.2.2.2.2.1, .long t.2.2.2.2.2])) := ht0
  refine cx_aload_n (i := 0) hE d_Me_conditional_0 rfl rfl ?_
  refine cx_get hE d_Me_conditional_1 f_Me_32 (by assumption) (by rfl) ?_
  refine cx_iload_n (i := 3) hE d_Me_conditional_4 rfl rfl ?_
  refine cx_iload hE d_Me_conditional_5 rfl ?_
  refine cx_icmp_ne (tgt := 14)  hE d_Me_conditional_7 (by decide) (fun c_7 => ?_) (fun c_7 => ?_)
  · refine cx_iconst (v := 0) hE d_Me_conditional_14 (by decide) ?_
    refine cx_bipush (v := 30) hE d_Me_conditional_15 (by decide) ?_
    refine cx_aload_n (i := 1) hE d_Me_conditional_17 rfl rfl ?_
    refine cx_get hE d_Me_conditional_18 f_Me_40 (by assumption) (by rfl) ?_
    refine cx_invV hE d_Me_conditional_21 l_Me_44 hm.1 (c_ck (right := false) (code := 30) (place := (nI t.2.1)) hm) rfl (by omega) (Nat.le_of_ble_eq_true rfl) n_Ve_check (by rfl) (fun v G1 q => ?_) (fun a G1 q => by cases q.1)
    obtain ⟨q0, hm1, hs1, hc1⟩ := q
    cases q0
    show cx_V E _ _ [] G1
    refine cx_aload_n (i := 0) hE d_Me_conditional_24 rfl rfl ?_
    refine cx_iload_n (i := 2) hE d_Me_conditional_25 rfl rfl ?_
    refine cx_iload_n (i := 3) hE d_Me_conditional_26 rfl rfl ?_
    refine cx_iload hE d_Me_conditional_27 rfl ?_
    refine cx_mmax hE d_Me_conditional_29 (in_5 (List.mem_of_getElem? (i := 88) rfl)) (in_3 (List.mem_of_getElem? (i := 55) rfl)) (in_1 (List.mem_of_getElem? (i := 12) rfl)) (in_3 (List.mem_of_getElem? (i := 56) rfl)) (by omega) (Nat.le_of_ble_eq_true rfl) ?_
    refine cx_mmax hE d_Me_conditional_32 (in_5 (List.mem_of_getElem? (i := 88) rfl)) (in_3 (List.mem_of_getElem? (i := 55) rfl)) (in_1 (List.mem_of_getElem? (i := 12) rfl)) (in_3 (List.mem_of_getElem? (i := 56) rfl)) (by omega) (Nat.le_of_ble_eq_true rfl) ?_
    obtain ⟨x9, hme9, -⟩ := hm1.2.1
    refine cx_invV hE d_Me_conditional_35 l_Me_128 hme9 (c_Me_spend (c := (tx_imax c (tx_imax x y))) (u := u) (by rw [tx_ck_all]; exact hu) hm1) rfl (by omega) (Nat.le_of_ble_eq_true rfl) n_Me_spend (by rfl) (fun v G2 q => ?_) (fun a G2 q => by cases q.1)
    obtain ⟨q0, hm2, hs2, hc2⟩ := q
    cases q0
    show cx_V E _ _ [] G2
    refine cx_iload_n (i := 3) hE d_Me_conditional_38 rfl rfl ?_
    refine cx_iret hE d_Me_conditional_39 rfl rfl ?_
    unfold tx_cond
    first
      | (rw [decide_eq_true c_7]; exact ⟨rfl, hm2, hs1.tr hs2, hc2.trans hc1⟩)
      | (rw [decide_eq_false c_7]; exact ⟨rfl, hm2, hs1.tr hs2, hc2.trans hc1⟩)
  · refine cx_iconst (v := 1) hE d_Me_conditional_10 (by decide) ?_
    refine cx_goto (tgt := 15) hE d_Me_conditional_11 (by decide) ?_
    refine cx_bipush (v := 30) hE d_Me_conditional_15 (by decide) ?_
    refine cx_aload_n (i := 1) hE d_Me_conditional_17 rfl rfl ?_
    refine cx_get hE d_Me_conditional_18 f_Me_40 (by assumption) (by rfl) ?_
    refine cx_invV hE d_Me_conditional_21 l_Me_44 hm.1 (c_ck (right := true) (code := 30) (place := (nI t.2.1)) hm) rfl (by omega) (Nat.le_of_ble_eq_true rfl) n_Ve_check (by rfl) (fun v G1 q => ?_) (fun a G1 q => by cases q.1)
    obtain ⟨q0, hm1, hs1, hc1⟩ := q
    cases q0
    show cx_V E _ _ [] G1
    refine cx_aload_n (i := 0) hE d_Me_conditional_24 rfl rfl ?_
    refine cx_iload_n (i := 2) hE d_Me_conditional_25 rfl rfl ?_
    refine cx_iload_n (i := 3) hE d_Me_conditional_26 rfl rfl ?_
    refine cx_iload hE d_Me_conditional_27 rfl ?_
    refine cx_mmax hE d_Me_conditional_29 (in_5 (List.mem_of_getElem? (i := 88) rfl)) (in_3 (List.mem_of_getElem? (i := 55) rfl)) (in_1 (List.mem_of_getElem? (i := 12) rfl)) (in_3 (List.mem_of_getElem? (i := 56) rfl)) (by omega) (Nat.le_of_ble_eq_true rfl) ?_
    refine cx_mmax hE d_Me_conditional_32 (in_5 (List.mem_of_getElem? (i := 88) rfl)) (in_3 (List.mem_of_getElem? (i := 55) rfl)) (in_1 (List.mem_of_getElem? (i := 12) rfl)) (in_3 (List.mem_of_getElem? (i := 56) rfl)) (by omega) (Nat.le_of_ble_eq_true rfl) ?_
    obtain ⟨x9, hme9, -⟩ := hm1.2.1
    refine cx_invV hE d_Me_conditional_35 l_Me_128 hme9 (c_Me_spend (c := (tx_imax c (tx_imax x y))) (u := u) (by rw [tx_ck_all]; exact hu) hm1) rfl (by omega) (Nat.le_of_ble_eq_true rfl) n_Me_spend (by rfl) (fun v G2 q => ?_) (fun a G2 q => by cases q.1)
    obtain ⟨q0, hm2, hs2, hc2⟩ := q
    cases q0
    show cx_V E _ _ [] G2
    refine cx_iload_n (i := 3) hE d_Me_conditional_38 rfl rfl ?_
    refine cx_iret hE d_Me_conditional_39 rfl rfl ?_
    unfold tx_cond
    first
      | (rw [decide_eq_true c_7]; exact ⟨rfl, hm2, hs1.tr hs2, hc2.trans hc1⟩)
      | (rw [decide_eq_false c_7]; exact ⟨rfl, hm2, hs1.tr hs2, hc2.trans hc1⟩)

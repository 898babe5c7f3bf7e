/-! THE REFERENCE: find. -/
theorem rr_255 {a b : Int32} (ha : fits .byte (.int a) = true) (hb : fits .byte (.int b) = true) (h : a &&& 255 = b &&& 255) : a = b := by
  have fa : -128 ≤ a.toInt ∧ a.toInt ≤ 127 := by
    simp only [fits, Bool.and_eq_true, decide_eq_true_eq] at ha
    exact ⟨Int32.le_iff_toInt_le.mp ha.1, Int32.le_iff_toInt_le.mp ha.2⟩
  have fb : -128 ≤ b.toInt ∧ b.toInt ≤ 127 := by
    simp only [fits, Bool.and_eq_true, decide_eq_true_eq] at hb
    exact ⟨Int32.le_iff_toInt_le.mp hb.1, Int32.le_iff_toInt_le.mp hb.2⟩
  rw [tx_255, tx_255, nI_eq (by omega) (by omega)] at h
  have e1 : a.toInt = a.toBitVec.toInt := rfl
  have e2 := BitVec.toInt_eq_toNat_cond a.toBitVec
  have e3 := a.toBitVec.isLt
  have d1 : b.toInt = b.toBitVec.toInt := rfl
  have d2 := BitVec.toInt_eq_toNat_cond b.toBitVec
  have d3 := b.toBitVec.isLt
  apply Int32.toInt_inj.mp
  rw [e1, d1]
  rw [e1] at fa
  rw [d1] at fb
  split at e2 <;> split at d2 <;> omega
theorem rr_txg {c : Nat → Int32} {p e i : Nat} (hi : i < e - p) : (tx_tx c p e).getD i 0 = c (p + i) := by
  unfold tx_tx
  rw [List.getD_eq_getElem?_getD, List.getElem?_map, List.getElem?_range hi]
  rfl
theorem rr_txl (c : Nat → Int32) (p e : Nat) : (tx_tx c p e).length = e - p := by
  unfold tx_tx
  rw [List.length_map, List.length_range]
/-- a word's token, in the rows -/
theorem rr_tkn {nn y : Nat} {T : List tx_Tk} {M : rm_M} (hT : rm_T nn T M) (hy : y < T.length) (ky : tx_ki T y = 19) : ∃ p e X, M.2.1 5 y = nI p ∧ M.2.1 6 y = nI e ∧ p < e ∧ e ≤ nn ∧ (tx_ta T y).2.2.2.1 = some X ∧ X.length = e - p ∧ ∀ i, i < e - p → X.getD i 0 = M.2.1 53 (p + i) := by
  have ty := hT.tok hy
  have gy : (tx_tok nn (tx_at nn (M.2.1 53)) (tx_ta T y).2.1).1 = 19 := by rw [← ty.2]; exact ky
  have ny := rm_nam gy
  rw [← ty.2] at ny
  have ry := hT.2.2.2.1 y hy
  have raw : ∀ i, tx_on ((tx_at nn (M.2.1 53)) i) = true → (tx_at nn (M.2.1 53)) i = M.2.1 53 i := fun i hi => by
    have h1 := tx_onn hi
    have h2 := tx_on_low hi
    unfold tx_at at h2 ⊢
    rw [if_pos h1] at h2 ⊢
    exact tx_low (hT.2.2.2.2.1 i) h2
  refine ⟨_, _, _, ry.2.1, (ry.2.2 (Or.inl ky)).trans (by rw [ny.2.1]), ny.2.2.2.2.1, ny.2.2.2.2.2, ny.2.2.1, rr_txl _ _ _, fun i hi => ?_⟩
  rw [rr_txg hi]
  exact raw _ (ny.2.2.2.1 _ (by omega) (by omega))
def rr_pr : Nat → Int32
  | 0 => -1
  | t + 1 => nI t
theorem rr_prd (t : Nat) : nI t + (-1) = rr_pr t := by
  cases t with
  | zero => rfl
  | succ t => exact pk_m1 t
theorem rr_pr1 (t : Nat) : nI t - 1 = rr_pr t := by
  cases t with
  | zero => rfl
  | succ t =>
    show nI (t + 1) - nI 1 = _
    rw [pk_sub (by omega)]
    rfl
/-- the first of the names from t on that the tape spells -/
def rr_fi (n : Nat) (f : Nat → Int32) (u : tx_U) (t : Nat) (v : Int32) : Prop := (v = -1 ∧ ∀ q, t ≤ q → q < u.2.2.1.length → ¬ ct_fs n f u q) ∨ ∃ q, t ≤ q ∧ q < u.2.2.1.length ∧ v = nI q ∧ ct_fs n f u q ∧ ∀ p, t ≤ p → p < q → ¬ ct_fs n f u p
theorem rr_fi.fw {n : Nat} {f : Nat → Int32} {u : tx_U} {v : Int32} (h : rr_fi n f u 0 v) : ct_fw n f u v := by
  rcases h with ⟨h1, h2⟩ | ⟨q, h1, h2, h3, h4, h5⟩
  · exact Or.inl ⟨h1, fun q hq => h2 q (Nat.zero_le _) hq⟩
  · exact Or.inr ⟨q, h2, h3, h4, fun p hp => h5 p (Nat.zero_le _) hp⟩
theorem rr_fi.y {n t : Nat} {f : Nat → Int32} {u : tx_U} (ht : t < u.2.2.1.length) (h : ct_fs n f u t) : rr_fi n f u t (nI t) := Or.inr ⟨t, Nat.le_refl _, ht, rfl, h, fun p h1 h2 => absurd h1 (by omega)⟩
theorem rr_fi.n {n t : Nat} {f : Nat → Int32} {u : tx_U} {v : Int32} (h : rr_fi n f u (t + 1) v) (h0 : ¬ ct_fs n f u t) : rr_fi n f u t v := by
  rcases h with ⟨h1, h2⟩ | ⟨q, h1, h2, h3, h4, h5⟩
  · refine Or.inl ⟨h1, fun q hq hl => ?_⟩
    by_cases z : q = t
    · rw [z]; exact h0
    · exact h2 q (by omega) hl
  · refine Or.inr ⟨q, by omega, h2, h3, h4, fun p hp hl => ?_⟩
    by_cases z : p = t
    · rw [z]; exact h0
    · exact h5 p (by omega) hl
def rr_pq (us : List tx_U) (n : Nat) (f : Nat → Int32) (m : Int32) (M : rm_M) (v : Int32) (M' : rm_M) : Prop := match ct_ix m us.length with
  | none => M' = rp_int M 0 1
  | some j => ct_fw n f (us.getD j tx_u0) v ∧ M' = rp_int (rp_int M 0 0) 54 0
theorem rr_pq.a {us : List tx_U} {n : Nat} {f : Nat → Int32} {m v : Int32} {M : rm_M} (h : ct_ix m us.length = none) : rr_pq us n f m M v (rp_int M 0 1) := by simp only [rr_pq, h]
theorem rr_pq.c {us : List tx_U} {n j : Nat} {f : Nat → Int32} {m v : Int32} {M : rm_M} (h : ct_ix m us.length = some j) (hv : ct_fw n f (us.getD j tx_u0) v) : rr_pq us n f m M v (rp_int (rp_int M 0 0) 54 0) := by
  simp only [rr_pq, h]
  exact ⟨hv, trivial⟩
set_option maxRecDepth 100000 in
theorem c_Mo_isTape {k : cx_K} {l : Launch} {G : cx_G} {mo : Nat} {P : Nat → Nat} {M : rm_M} {b : Nat × Nat} (hm : rm_R k G mo P M) (hQ : rm_Q b G M) {n : Nat} {f : Nat → Int32} {ft : Int32} {us : List tx_U} (hI : rr_I M n f ft us) {nn y : Nat} {T : List tx_Tk} {X' : List Int32} (hT : rm_T nn T M) (hy : y < T.length) (ky : tx_ki T y = 19) (hX : (tx_ta T y).2.2.2.1 = some X')  : cx_Sp k l m_Mo_isTape 0 [.ref mo, .int (nI y)] G (rp_R G (fun v => ∃ sb : Bool, v = cx_b sb ∧ (sb = true ↔ ct_sp n f X'))) := by
  intro E hE
  have W0 := rm_W.rf hm hQ
  have m0 := hm.1
  obtain ⟨g54, gn, gf, g3, gb, gu, gT⟩ := hI
  obtain ⟨p, e, X, t5, t6, tp, te, tX, tl, tb⟩ := rr_tkn hT hy ky
  have hnn := hT.2.1
  have hyl := hT.len
  have heX : some X = some X' := tX.symm.trans hX
  cases heX
  have hsp : (e - p = n ∧ ∀ i, i < n → M.2.1 1 i = M.2.1 53 (p + i)) ↔ ct_sp n f X' := by
    constructor
    · rintro ⟨h1, h2⟩
      refine ⟨by omega, fun i hi => ?_⟩
      have hin : i < n := by omega
      rw [tb i (by omega)]
      unfold tx_at
      rw [if_pos hin, ← h2 i hin, gf i hin]
    · rintro ⟨h1, h2⟩
      refine ⟨by omega, fun i hi => ?_⟩
      have h3 := h2 i (by omega)
      rw [tb i (by omega)] at h3
      unfold tx_at at h3
      rw [if_pos hi] at h3
      exact rr_255 (gb 1 (by simp) i) (gb 53 (by simp) _) (by rw [gf i hi]; exact h3.symm)
  have h28 : ∀ (d t : Nat) (sb : Bool), t + d = n → (sb = true ↔ (e - p = n ∧ ∀ i, i < t → M.2.1 1 i = M.2.1 53 (p + i))) → cx_V E 28 [(3, false, .int (nI t)), (2, false, .int (cx_b sb)), (0, false, .ref mo), (1, false, .int (nI y))] [] G := by
    intro d
    induction d using Nat.strongRecOn with
    | ind d ih =>
      intro t sb htd hsb
      refine cx_iload_n (i := 2) hE d_Mo_isTape_28 rfl rfl ?_
      refine cx_if_eq (tgt := 74)  hE d_Mo_isTape_29 (by decide) (fun c_29 => ?_) (fun c_29 => ?_)
      · refine cx_iload_n (i := 2) hE d_Mo_isTape_74 rfl rfl ?_
        refine cx_iret hE d_Mo_isTape_75 rfl (by cases sb <;> rfl) ?_
        refine ⟨_, rfl, rfl, sb, rfl, ?_⟩
        have hf : sb = false := cx_b0.mp c_29
        rw [hf]
        constructor
        · intro z; cases z
        · intro z
          have z2 := hsp.mpr z
          have := hsb.mpr ⟨z2.1, fun i hi => z2.2 i (by omega)⟩
          rw [hf] at this
          cases this
      · have hst := hsb.mp (cx_bn.mp c_29)
        refine cx_iload_n (i := 3) hE d_Mo_isTape_32 rfl rfl ?_
        refine cx_aload_n (i := 0) hE d_Mo_isTape_33 rfl rfl ?_
        refine cx_get hE d_Mo_isTape_34 f_Mo_407 (by assumption) (by rfl) ?_
        rw [g54]
        refine cx_icmp_ge (tgt := 74)  hE d_Mo_isTape_37 (by decide) (fun c_37 => ?_) (fun c_37 => ?_)
        · refine cx_iload_n (i := 2) hE d_Mo_isTape_74 rfl rfl ?_
          refine cx_iret hE d_Mo_isTape_75 rfl (by cases sb <;> rfl) ?_
          refine ⟨_, rfl, rfl, sb, rfl, ?_⟩
          have et : t = n := by
            have := (nI_leI (by omega) (by omega)).mp c_37
            omega
          rw [hsb, et]
          exact hsp
        · have hlt : t < n := by
            rcases Nat.lt_or_ge t n with y | y
            · exact y
            · exact absurd (nI_le y (by omega)) c_37
          refine cx_aload_n (i := 0) hE d_Mo_isTape_40 rfl rfl ?_
          refine cx_get hE d_Mo_isTape_41 f_Mo_8 (by assumption) (by rfl) ?_
          refine cx_iload_n (i := 3) hE d_Mo_isTape_44 rfl rfl ?_
          refine cx_bald 0 hE d_Mo_isTape_45 rfl (W0.1.b 1 rfl) (vp_in_nI (by show _ < 65536; omega) (by show 65536 < 2147483648; omega)) ?_
          rw [nI_clamp (by omega)]
          refine cx_aload_n (i := 0) hE d_Mo_isTape_46 rfl rfl ?_
          refine cx_get hE d_Mo_isTape_47 f_Mo_116 (by assumption) (by rfl) ?_
          refine cx_aload_n (i := 0) hE d_Mo_isTape_50 rfl rfl ?_
          refine cx_get hE d_Mo_isTape_51 f_Mo_19 (by assumption) (by rfl) ?_
          refine cx_iload_n (i := 1) hE d_Mo_isTape_54 rfl rfl ?_
          refine cx_iald 1 hE d_Mo_isTape_55 rfl (W0.1.i 5 rfl) (vp_in_nI (by show _ < 65540; omega) (by show 65540 < 2147483648; omega)) ?_
          rw [nI_clamp (by omega)]
          rw [t5]
          refine cx_iload_n (i := 3) hE d_Mo_isTape_56 rfl rfl ?_
          skip
          refine cx_iadd hE d_Mo_isTape_57 ?_
          rw [nI_add]
          refine cx_bald 0 hE d_Mo_isTape_58 rfl (W0.1.b 53 rfl) (vp_in_nI (by show _ < 65536; omega) (by show 65536 < 2147483648; omega)) ?_
          rw [nI_clamp (by omega)]
          refine cx_icmp_ne (tgt := 66)  hE d_Mo_isTape_59 (by decide) (fun c_59 => ?_) (fun c_59 => ?_)
          · refine cx_iconst (v := 0) hE d_Mo_isTape_66 (by decide) ?_
            refine cx_istore_n (i := 2) hE d_Mo_isTape_67 rfl (by decide) ?_
            refine cx_iinc (v := nI (t + 1)) hE d_Mo_isTape_68 rfl (nI_1 _) (by decide) ?_
            refine cx_goto (tgt := 28) hE d_Mo_isTape_71 (by decide) ?_
            refine cx_sub [0, 1, 2, 3] rfl ?_
            refine ih (d - 1) (by omega) (t + 1) false (by omega) ?_
            constructor
            · intro z; cases z
            · intro z; exact absurd (z.2 t (by omega)) c_59
          · refine cx_iconst (v := 1) hE d_Mo_isTape_62 (by decide) ?_
            refine cx_goto (tgt := 67) hE d_Mo_isTape_63 (by decide) ?_
            refine cx_istore_n (i := 2) hE d_Mo_isTape_67 rfl (by decide) ?_
            refine cx_iinc (v := nI (t + 1)) hE d_Mo_isTape_68 rfl (nI_1 _) (by decide) ?_
            refine cx_goto (tgt := 28) hE d_Mo_isTape_71 (by decide) ?_
            refine cx_sub [0, 1, 2, 3] rfl ?_
            refine ih (d - 1) (by omega) (t + 1) true (by omega) ?_
            constructor
            · intro _
              refine ⟨hst.1, fun i hi => ?_⟩
              by_cases z : i = t
              · rw [z]; exact c_59
              · exact hst.2 i (by omega)
            · intro _; rfl
  refine cx_aload_n (i := 0) hE d_Mo_isTape_0 rfl rfl ?_
  refine cx_get hE d_Mo_isTape_1 f_Mo_22 (by assumption) (by rfl) ?_
  refine cx_iload_n (i := 1) hE d_Mo_isTape_4 rfl rfl ?_
  refine cx_iald 1 hE d_Mo_isTape_5 rfl (W0.1.i 6 rfl) (vp_in_nI (by show _ < 65540; omega) (by show 65540 < 2147483648; omega)) ?_
  rw [nI_clamp (by omega)]
  rw [t6]
  refine cx_aload_n (i := 0) hE d_Mo_isTape_6 rfl rfl ?_
  refine cx_get hE d_Mo_isTape_7 f_Mo_19 (by assumption) (by rfl) ?_
  refine cx_iload_n (i := 1) hE d_Mo_isTape_10 rfl rfl ?_
  refine cx_iald 1 hE d_Mo_isTape_11 rfl (W0.1.i 5 rfl) (vp_in_nI (by show _ < 65540; omega) (by show 65540 < 2147483648; omega)) ?_
  rw [nI_clamp (by omega)]
  rw [t5]
  refine cx_isub hE d_Mo_isTape_12 ?_
  rw [pk_sub (by omega)]
  refine cx_aload_n (i := 0) hE d_Mo_isTape_13 rfl rfl ?_
  refine cx_get hE d_Mo_isTape_14 f_Mo_407 (by assumption) (by rfl) ?_
  rw [g54]
  refine cx_icmp_ne (tgt := 24)  hE d_Mo_isTape_17 (by decide) (fun c_17 => ?_) (fun c_17 => ?_)
  · refine cx_iconst (v := 0) hE d_Mo_isTape_24 (by decide) ?_
    refine cx_istore_n (i := 2) hE d_Mo_isTape_25 rfl (by decide) ?_
    refine cx_iconst (v := 0) hE d_Mo_isTape_26 (by decide) ?_
    refine cx_istore_n (i := 3) hE d_Mo_isTape_27 rfl (by decide) ?_
    refine cx_sub [0, 1, 2, 3] rfl ?_
    refine h28 n 0 false (Nat.zero_add _) ?_
    constructor
    · intro z; cases z
    · intro z
      rw [z.1] at c_17
      exact absurd rfl c_17
  · refine cx_iconst (v := 1) hE d_Mo_isTape_20 (by decide) ?_
    refine cx_goto (tgt := 25) hE d_Mo_isTape_21 (by decide) ?_
    refine cx_istore_n (i := 2) hE d_Mo_isTape_25 rfl (by decide) ?_
    refine cx_iconst (v := 0) hE d_Mo_isTape_26 (by decide) ?_
    refine cx_istore_n (i := 3) hE d_Mo_isTape_27 rfl (by decide) ?_
    refine cx_sub [0, 1, 2, 3] rfl ?_
    refine h28 n 0 true (Nat.zero_add _) ?_
    constructor
    · intro _
      exact ⟨(nI_eq (by omega) (by omega)).mp c_17, fun i hi => absurd hi (Nat.not_lt_zero _)⟩
    · intro _; rfl
set_option maxRecDepth 100000 in
theorem c_Mo_find {k : cx_K} {l : Launch} {G : cx_G} {mo : Nat} {P : Nat → Nat} {M : rm_M} {b : Nat × Nat} (hm : rm_R k G mo P M) (hQ : rm_Q b G M) {n : Nat} {f : Nat → Int32} {ft : Int32} {us : List tx_U} (hI : rr_I M n f ft us) {m : Int32}  : cx_Sp k l m_Mo_find 1 [.ref mo, .int m] G (rp_P k mo b G P (rr_pq us n f m M)) := by
  intro E hE
  have W0 := rm_W.rf hm hQ
  have m0 := hm.1
  refine cx_aload_n (i := 0) hE d_Mo_find_0 rfl rfl ?_
  refine cx_aload_n (i := 0) hE d_Mo_find_1 rfl rfl ?_
  refine cx_iload_n (i := 1) hE d_Mo_find_2 rfl rfl ?_
  refine cx_wR hE d_Mo_find_3 l_Mo_422 W0 (c_Mo_isModule W0.1 W0.2.2 hI) rfl (by omega) (Nat.le_of_ble_eq_true rfl) n_Mo_isModule (by first | rfl | (simp only [List.map_cons, List.map_nil, cx_rfc]; rfl)) (fun v_3 K_3 => ?_)
  subst K_3
  refine cx_if_eq (tgt := 13)  hE d_Mo_find_6 (by decide) (fun c_6 => ?_) (fun c_6 => ?_)
  · refine cx_iconst (v := 1) hE d_Mo_find_13 (by decide) ?_
    refine cx_putg hE d_Mo_find_14 f_Mo_122 (by assumption) (Nat.le_of_ble_eq_true rfl) (by first | rfl | exact cx_nr _ _) (by first | rfl | exact cx_fr _ _) (fun G_14 g_14 h_14 => ?_)
    rw [rm_s0] at g_14
    clear h_14
    have W_14 : rm_W k mo b G P G_14 P (rp_int M 0 1) := W0.pi g_14
    have m_14 := W_14.1.1
    refine cx_aload_n (i := 0) hE d_Mo_find_17 rfl rfl ?_
    refine cx_get hE d_Mo_find_18 f_Mo_122 (by assumption) (by rfl) ?_
    refine cx_if_le (tgt := 26)  hE d_Mo_find_21 (by decide) (fun c_21 => ?_) (fun c_21 => ?_)
    · exact absurd c_21 (show ¬ (1 : Int32) ≤ 0 by decide)
      -- end
    · refine cx_iconst (v := 0) hE d_Mo_find_24 (by decide) ?_
      refine cx_iret hE d_Mo_find_25 rfl rfl ?_
      exact ⟨_, _, _, rfl, W_14, rr_pq.a (rr_ixn (cx_b0.mp c_6))⟩
  · obtain ⟨j, rfl, hj, hj31, hix⟩ := rr_ixs (cx_bn.mp c_6)
    have hv := ct_gd hj
    obtain ⟨nn, T, LO, LI, tT, hLO, hLI, hF, e12, l12, h51⟩ := hI.ex hv
    have hj36 : j < 3600 := by omega
    obtain ⟨lo, li, hG⟩ := hF.g hLO hLI
    have hln := rr_len (us.getD j tx_u0).2.2.1
    have hg5 := hG.2.2.2.2.1
    have hg6 := hG.2.2.2.2.2.1
    refine cx_iconst (v := 0) hE d_Mo_find_9 (by decide) ?_
    refine cx_goto (tgt := 14) hE d_Mo_find_10 (by decide) ?_
    refine cx_putg hE d_Mo_find_14 f_Mo_122 (by assumption) (Nat.le_of_ble_eq_true rfl) (by first | rfl | exact cx_nr _ _) (by first | rfl | exact cx_fr _ _) (fun G_14 g_14 h_14 => ?_)
    rw [rm_s0] at g_14
    clear h_14
    have W_14 : rm_W k mo b G P G_14 P (rp_int M 0 0) := W0.pi g_14
    have m_14 := W_14.1.1
    refine cx_aload_n (i := 0) hE d_Mo_find_17 rfl rfl ?_
    refine cx_get hE d_Mo_find_18 f_Mo_122 (by assumption) (by rfl) ?_
    refine cx_if_le (tgt := 26)  hE d_Mo_find_21 (by decide) (fun c_21 => ?_) (fun c_21 => ?_)
    · refine cx_iconst (v := -1) hE d_Mo_find_26 (by decide) ?_
      refine cx_istore_n (i := 2) hE d_Mo_find_27 rfl (by decide) ?_
      refine cx_aload_n (i := 0) hE d_Mo_find_28 rfl rfl ?_
      refine cx_iload_n (i := 1) hE d_Mo_find_29 rfl rfl ?_
      refine cx_wR hE d_Mo_find_30 l_Mo_425 W_14 (c_Mo_names W_14.1 W_14.2.2 hj36 (show rr_F T (rp_int M 0 0) j (us.getD j tx_u0) lo li from hG)) rfl (by omega) (Nat.le_of_ble_eq_true rfl) n_Mo_names (by first | rfl | (simp only [List.map_cons, List.map_nil, cx_rfc]; rfl)) (fun v_30 K_30 => ?_)
      subst K_30
      refine cx_iconst (v := 1) hE d_Mo_find_33 (by decide) ?_
      refine cx_isub hE d_Mo_find_34 ?_
      rw [rr_pr1]
      refine cx_istore_n (i := 3) hE d_Mo_find_35 rfl (by decide) ?_
      refine cx_sub [0, 1, 2, 3] rfl ?_
      have h36 : ∀ (t : Nat) (fd : Int32), t ≤ (us.getD j tx_u0).2.2.1.length → rr_fi n f (us.getD j tx_u0) t fd → cx_V E 36 [(3, false, .int (rr_pr t)), (2, false, .int fd), (0, false, .ref mo), (1, false, .int (nI j))] [] G_14 := by
        intro t
        induction t with
        | zero =>
          intro fd htl hfd
          refine cx_iload_n (i := 3) hE d_Mo_find_36 rfl rfl ?_
          refine cx_if_lt (tgt := 91)  hE d_Mo_find_37 (by decide) (fun c_37 => ?_) (fun c_37 => ?_)
          · refine cx_aload_n (i := 0) hE d_Mo_find_91 rfl rfl ?_
            refine cx_iconst (v := 0) hE d_Mo_find_92 (by decide) ?_
            refine cx_putg hE d_Mo_find_93 f_Mo_407 (by assumption) (Nat.le_of_ble_eq_true rfl) (by first | rfl | exact cx_nr _ _) (by first | rfl | exact cx_fr _ _) (fun G_93 g_93 h_93 => ?_)
            rw [rm_s54] at g_93
            clear h_93
            have W_93 : rm_W k mo b G P G_93 P (rp_int (rp_int M 0 0) 54 0) := W_14.pi g_93
            have m_93 := W_93.1.1
            refine cx_iload_n (i := 2) hE d_Mo_find_96 rfl rfl ?_
            refine cx_iret hE d_Mo_find_97 rfl rfl ?_
            exact ⟨_, _, _, rfl, W_93, rr_pq.c hix hfd.fw⟩
          · exact absurd (show rr_pr 0 < 0 by decide) c_37
            -- end
        | succ t ih =>
          intro fd htl hfd
          have htl : t < (us.getD j tx_u0).2.2.1.length := htl
          show cx_V E 36 [(3, false, .int (nI t)), (2, false, .int fd), (0, false, .ref mo), (1, false, .int (nI j))] [] G_14
          refine cx_iload_n (i := 3) hE d_Mo_find_36 rfl rfl ?_
          refine cx_if_lt (tgt := 91)  hE d_Mo_find_37 (by decide) (fun c_37 => ?_) (fun c_37 => ?_)
          · exact absurd c_37 (nI_pos (by omega))
            -- end
          · refine cx_aload_n (i := 0) hE d_Mo_find_40 rfl rfl ?_
            refine cx_iload_n (i := 1) hE d_Mo_find_41 rfl rfl ?_
            refine cx_iload_n (i := 3) hE d_Mo_find_42 rfl rfl ?_
            have hr : (us.getD j tx_u0).2.2.1[t]? = some (us.getD j tx_u0).2.2.1[t] := List.getElem?_eq_getElem htl
            generalize (us.getD j tx_u0).2.2.1[t] = r at hr
            have hgd := rr_gd hr
            have hL := hG.2.2.2.2.2.2.1 t r hr
            refine cx_wR hE d_Mo_find_43 l_Mo_430 W_14 (c_Mo_nameAt W_14.1 W_14.2.2 hj36 (show rr_F T (rp_int M 0 0) j (us.getD j tx_u0) lo li from hG) (show t < _ from htl)) rfl (by omega) (Nat.le_of_ble_eq_true rfl) n_Mo_nameAt (by first | rfl | (simp only [List.map_cons, List.map_nil, cx_rfc]; rfl)) (fun v_43 K_43 => ?_)
            subst K_43
            refine cx_istore hE d_Mo_find_46 (by decide) ?_
            refine cx_aload_n (i := 0) hE d_Mo_find_48 rfl rfl ?_
            refine cx_iload hE d_Mo_find_49 rfl ?_
            refine cx_if_ge (tgt := 66)  hE d_Mo_find_51 (by decide) (fun c_51 => ?_) (fun c_51 => ?_)
            · have hs : rt_sg r = true := by
                cases hsr : rt_sg r with
                | true => rfl
                | false =>
                  exfalso
                  have lj := rt_lt (P := fun r => !rt_sg r) hr (by rw [hsr]; rfl)
                  unfold rr_nc at c_51
                  rw [hgd, if_neg (by rw [hsr]; decide)] at c_51
                  exact rr_ng (by unfold rt_j; omega) c_51
              have hl1 := hL.1 hs
              have lk := rt_lt (P := rt_sg) hr hs
              rw [show rr_nc (us.getD j tx_u0).2.2.1 lo li t = nI (lo + rt_k (us.getD j tx_u0).2.2.1 t) by unfold rr_nc; rw [hgd, if_pos hs]]
              generalize hK9 : lo + rt_k (us.getD j tx_u0).2.2.1 t = kx at hl1 ⊢
              have hkx : kx < 11000 := by
                rw [← hK9]
                unfold rt_k
                omega
              obtain ⟨⟨yy, hy1, hy2⟩, -⟩ := hl1
              refine cx_aload_n (i := 0) hE d_Mo_find_66 rfl rfl ?_
              refine cx_get hE d_Mo_find_67 f_Mo_40 (by assumption) (by rfl) ?_
              refine cx_iload hE d_Mo_find_70 rfl ?_
              refine cx_iald 1 hE d_Mo_find_72 rfl (W_14.1.i 19 rfl) (vp_in_nI (by show _ < 11000; omega) (by show 11000 < 2147483648; omega)) ?_
              rw [nI_clamp (by omega)]
              rw [show (rp_int M 0 0).2.1 19 kx = nI yy from hy1]
              obtain ⟨X', hX'⟩ := tT.nam hy2.1 hy2.2.1
              refine cx_wR hE d_Mo_find_73 l_Mo_433 W_14 (c_Mo_isTape W_14.1 W_14.2.2 (hI.z 0) (show rm_T nn T (rp_int M 0 0) from tT) hy2.1 hy2.2.1 hX') rfl (by omega) (Nat.le_of_ble_eq_true rfl) n_Mo_isTape (by first | rfl | (simp only [List.map_cons, List.map_nil, cx_rfc]; rfl)) (fun v_73 K_73 => ?_)
              obtain ⟨sb, rfl, hsb⟩ := K_73
              have hfs : sb = true ↔ ct_fs n f (us.getD j tx_u0) t := by
                rw [hsb]
                have er : ((us.getD j tx_u0).2.2.1.getD t tx_n0).1 = some X' := by rw [hgd, ← hy2.2.2.1]; exact hX'
                constructor
                · intro z; exact ⟨X', er, z⟩
                · rintro ⟨X2, z1, z2⟩
                  rw [er] at z1
                  cases z1
                  exact z2
              refine cx_if_eq (tgt := 83)  hE d_Mo_find_76 (by decide) (fun c_76 => ?_) (fun c_76 => ?_)
              · refine cx_iload_n (i := 2) hE d_Mo_find_83 rfl rfl ?_
                refine cx_istore_n (i := 2) hE d_Mo_find_84 rfl (by decide) ?_
                refine cx_iinc (v := rr_pr t) hE d_Mo_find_85 rfl (rr_prd t) (by decide) ?_
                refine cx_goto (tgt := 36) hE d_Mo_find_88 (by decide) ?_
                refine cx_sub [0, 1, 3, 4] rfl ?_
                refine ih _ (by omega) ?_
                exact hfd.n (fun z => by have := hfs.mpr z; rw [cx_b0.mp c_76] at this; cases this)
              · refine cx_iload_n (i := 3) hE d_Mo_find_79 rfl rfl ?_
                refine cx_goto (tgt := 84) hE d_Mo_find_80 (by decide) ?_
                refine cx_istore_n (i := 2) hE d_Mo_find_84 rfl (by decide) ?_
                refine cx_iinc (v := rr_pr t) hE d_Mo_find_85 rfl (rr_prd t) (by decide) ?_
                refine cx_goto (tgt := 36) hE d_Mo_find_88 (by decide) ?_
                refine cx_sub [0, 1, 3, 4] rfl ?_
                refine ih _ (by omega) ?_
                exact rr_fi.y htl (hfs.mp (cx_bn.mp c_76))
            · have hs : rt_sg r = false := by
                cases hsr : rt_sg r with
                | false => rfl
                | true =>
                  exfalso
                  have lk := rt_lt (P := rt_sg) hr hsr
                  unfold rr_nc at c_51
                  rw [hgd, if_pos hsr] at c_51
                  exact c_51 (nI_pos' (by unfold rt_k; omega))
              have hl1 := hL.2 hs
              have lj := rt_lt (P := fun r => !rt_sg r) hr (by rw [hs]; rfl)
              rw [show rr_nc (us.getD j tx_u0).2.2.1 lo li t = -1 - nI (li + rt_j (us.getD j tx_u0).2.2.1 t) by unfold rr_nc; rw [hgd, if_neg (by rw [hs]; decide)]]
              generalize hK9 : li + rt_j (us.getD j tx_u0).2.2.1 t = kx at hl1 ⊢
              have hkx : kx < 11000 := by
                rw [← hK9]
                unfold rt_j
                omega
              obtain ⟨⟨yy, hy1, hy2⟩, -⟩ := hl1
              refine cx_aload_n (i := 0) hE d_Mo_find_54 rfl rfl ?_
              refine cx_get hE d_Mo_find_55 f_Mo_68 (by assumption) (by rfl) ?_
              refine cx_iconst (v := -1) hE d_Mo_find_58 (by decide) ?_
              refine cx_iload hE d_Mo_find_59 rfl ?_
              refine cx_isub hE d_Mo_find_61 ?_
              rw [rr_neg]
              refine cx_iald 1 hE d_Mo_find_62 rfl (W_14.1.i 29 rfl) (vp_in_nI (by show _ < 11000; omega) (by show 11000 < 2147483648; omega)) ?_
              rw [nI_clamp (by omega)]
              rw [show (rp_int M 0 0).2.1 29 kx = nI yy from hy1]
              refine cx_goto (tgt := 73) hE d_Mo_find_63 (by decide) ?_
              obtain ⟨X', hX'⟩ := tT.nam hy2.1 hy2.2.1
              refine cx_wR hE d_Mo_find_73 l_Mo_433 W_14 (c_Mo_isTape W_14.1 W_14.2.2 (hI.z 0) (show rm_T nn T (rp_int M 0 0) from tT) hy2.1 hy2.2.1 hX') rfl (by omega) (Nat.le_of_ble_eq_true rfl) n_Mo_isTape (by first | rfl | (simp only [List.map_cons, List.map_nil, cx_rfc]; rfl)) (fun v_73 K_73 => ?_)
              obtain ⟨sb, rfl, hsb⟩ := K_73
              have hfs : sb = true ↔ ct_fs n f (us.getD j tx_u0) t := by
                rw [hsb]
                have er : ((us.getD j tx_u0).2.2.1.getD t tx_n0).1 = some X' := by rw [hgd, ← hy2.2.2.1]; exact hX'
                constructor
                · intro z; exact ⟨X', er, z⟩
                · rintro ⟨X2, z1, z2⟩
                  rw [er] at z1
                  cases z1
                  exact z2
              refine cx_if_eq (tgt := 83)  hE d_Mo_find_76 (by decide) (fun c_76 => ?_) (fun c_76 => ?_)
              · refine cx_iload_n (i := 2) hE d_Mo_find_83 rfl rfl ?_
                refine cx_istore_n (i := 2) hE d_Mo_find_84 rfl (by decide) ?_
                refine cx_iinc (v := rr_pr t) hE d_Mo_find_85 rfl (rr_prd t) (by decide) ?_
                refine cx_goto (tgt := 36) hE d_Mo_find_88 (by decide) ?_
                refine cx_sub [0, 1, 3, 4] rfl ?_
                refine ih _ (by omega) ?_
                exact hfd.n (fun z => by have := hfs.mpr z; rw [cx_b0.mp c_76] at this; cases this)
              · refine cx_iload_n (i := 3) hE d_Mo_find_79 rfl rfl ?_
                refine cx_goto (tgt := 84) hE d_Mo_find_80 (by decide) ?_
                refine cx_istore_n (i := 2) hE d_Mo_find_84 rfl (by decide) ?_
                refine cx_iinc (v := rr_pr t) hE d_Mo_find_85 rfl (rr_prd t) (by decide) ?_
                refine cx_goto (tgt := 36) hE d_Mo_find_88 (by decide) ?_
                refine cx_sub [0, 1, 3, 4] rfl ?_
                refine ih _ (by omega) ?_
                exact rr_fi.y htl (hfs.mp (cx_bn.mp c_76))
      exact h36 _ _ (Nat.le_refl _) (Or.inl ⟨rfl, fun q h1 h2 => absurd h1 (by omega)⟩)
    · exact absurd (show (0 : Int32) ≤ 0 by decide) c_21
      -- end

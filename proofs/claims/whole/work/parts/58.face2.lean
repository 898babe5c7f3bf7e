/-! THE FACE: module, declared, beginning. -/
theorem ct_md_v (u : tx_U) : ct_md u 0 = some u.2.2.2.1 ∧ ct_md u 1 = some (nI u.2.2.1.length) ∧ ct_md u 2 = some u.2.2.2.2.1 ∧ ct_md u 3 = some u.2.2.2.2.2.1 ∧ ct_md u 4 = some u.2.2.2.2.2.2.1 ∧ ct_md u 5 = some u.2.2.2.2.2.2.2.1 ∧ ct_md u 6 = some u.2.2.2.2.2.2.2.2 ∧ ct_md u 7 = some (nI u.2.1) := ⟨rfl, rfl, rfl, rfl, rfl, rfl, rfl, rfl⟩
theorem ct_md_n {u : tx_U} {w : Int32} (h0 : ¬ w = 0) (h1 : ¬ w = 1) (h2 : ¬ w = 2) (h3 : ¬ w = 3) (h4 : ¬ w = 4) (h5 : ¬ w = 5) (h6 : ¬ w = 6) (h7 : ¬ w = 7) : ct_md u w = none := by
  unfold ct_md
  rw [if_neg h0, if_neg h1, if_neg h2, if_neg h3, if_neg h4, if_neg h5, if_neg h6, if_neg h7]
theorem ct_dc_n {r : tx_N} {w : Int32} (h0 : ¬ w = 0) (h1 : ¬ w = 1) (h2 : ¬ w = 2) (h3 : ¬ w = 3) : ct_dc r w = none := by
  unfold ct_dc
  rw [if_neg h0, if_neg h1, if_neg h2, if_neg h3]
def ct_pm (G : cx_G) (us : List tx_U) (m w : Int32) : cx_R → cx_G → Prop := match ct_ix m us.length with
  | none => ct_th G 16
  | some j => match ct_md (us.getD j tx_u0) w with
    | some v => cx_rd (some (.int v)) G
    | none => ct_th G 15
def ct_nm (us : List tx_U) (y : Nat × Nat) : tx_N := (us.getD y.1 tx_u0).2.2.1.getD y.2 tx_n0
def ct_pd (G : cx_G) (us : List tx_U) (m q w : Int32) : cx_R → cx_G → Prop := match ct_np us m q with
  | none => ct_th G 16
  | some y => match ct_dc (ct_nm us y) w with
    | some v => cx_rd (some (.int v)) G
    | none => ct_th G 15
def ct_pb (G : cx_G) (us : List tx_U) (m q : Int32) : cx_R → cx_G → Prop := match ct_np us m q with
  | none => ct_th G 16
  | some y => cx_rd (some (.long (ct_nm us y).2.2.2.2.1)) G
theorem ct_np.ok {us : List tx_U} {m q : Int32} {y : Nat × Nat} (h : ct_np us m q = some y) : y.1 < us.length ∧ us[y.1]? = some (us.getD y.1 tx_u0) ∧ (us.getD y.1 tx_u0).2.2.1[y.2]? = some (ct_nm us y) := by
  unfold ct_np at h
  cases hj : ct_ix m us.length with
  | none => rw [hj] at h; cases h
  | some j =>
    rw [hj] at h
    have h9 : (ct_ix q (us.getD j tx_u0).2.2.1.length).map (fun i => (j, i)) = some y := h
    cases hi : ct_ix q (us.getD j tx_u0).2.2.1.length with
    | none => rw [hi] at h9; cases h9
    | some i =>
      rw [hi] at h9
      cases h9
      have hjl := ct_ix.lt hj
      have hil := ct_ix.lt hi
      refine ⟨hjl, ct_gd hjl, ?_⟩
      have e : ∀ (l : List tx_N) (i : Nat), i < l.length → l[i]? = some (l.getD i tx_n0) := fun l i h => by rw [List.getD_eq_getElem?_getD, List.getElem?_eq_getElem h]; rfl
      exact e _ _ hil
set_option maxRecDepth 100000 in
theorem c_CT_module {k : cx_K} {l : Launch} {G : cx_G} {x ta b n cap : Nat} {f : Nat → Int32} {ft : Int32} {A : tx_A} {us : List tx_U} (hR : ct_R k G x ta b n cap f ft A us) {m w : Int32} (hfl : l.flags = flags0) (r1 : G.2.1 + 1 ≤ 601024) (r2 : G.2.2 + 6 ≤ 7293034) : cx_Sp k l m_CT_module 7 [.ref x, .int m, .int w] G (ct_pm G us m w) := by
  intro E hE
  obtain ⟨hx, hT, hU⟩ := id hR
  cases hjm : ct_ix m us.length with
  | none =>
    rw [show ct_pm G us m w = ct_th G 16 by unfold ct_pm; rw [hjm]] at hE
    refine cx_aload_n (i := 0) hE d_CT_module_0 rfl rfl ?_
    refine cx_iload_n (i := 1) hE d_CT_module_1 rfl rfl ?_
    have hua := c_CT_unitAt (l := l) (m := m) hR
    rw [hjm] at hua
    refine cx_invV1 hE d_CT_module_2 l_CT_85 hx hua rfl (by omega) (Nat.le_of_ble_eq_true rfl) n_CT_unitAt (by rfl) ?_
    refine cx_astore_n (i := 3) hE d_CT_module_5 rfl (by decide) ?_
    refine cx_aload_n (i := 3) hE d_CT_module_6 rfl rfl ?_
    refine cx_ifnonnull (tgt := 20) (r := none) hE d_CT_module_7 (by decide) (fun a_7 c_7 => ?_) (fun c_7 => ?_)
    · cases c_7
      -- end
    · refine cx_newX (i := 7) hE hfl xa_CT_89 d_CT_module_10 d_CT_module_13 d_CT_module_14 d_CT_module_16 rfl rfl rfl (by omega) (Nat.le_of_ble_eq_true rfl) (by omega) (by omega) (fun a9 fs9 h9 hk9 => ?_)
      refine cx_athrow hE d_CT_module_19 (cx_T.out hE rfl ?_)
      exact ⟨a9, fs9, rfl, h9, rfl⟩
      -- end
  | some j =>
    have hjl : j < us.length := ct_ix.lt hjm
    have hgj := ct_gd hjl
    have hpm : ct_pm G us m w = (match ct_md (us.getD j tx_u0) w with | some v => cx_rd (some (.int v)) G | none => ct_th G 15) := by unfold ct_pm; rw [hjm]
    rw [hpm] at hE
    clear hpm
    generalize hu9 : us.getD j tx_u0 = u at hgj hE
    have hun := hU.2.1 j _ hgj
    unfold tx_um at hun
    have hna := hU.2.2.1 j _ hgj
    obtain ⟨⟨mcn, hnl⟩, -⟩ := id hna
    have hnn := (hU.2.2.2.2.2.2 j _ hgj).1
    have hcn := hna.le
    rw [List.length_map, List.length_range] at hcn
    refine cx_aload_n (i := 0) hE d_CT_module_0 rfl rfl ?_
    refine cx_iload_n (i := 1) hE d_CT_module_1 rfl rfl ?_
    have hua := c_CT_unitAt (l := l) (m := m) hR
    rw [hjm] at hua
    refine cx_invV1 hE d_CT_module_2 l_CT_85 hx hua rfl (by omega) (Nat.le_of_ble_eq_true rfl) n_CT_unitAt (by rfl) ?_
    refine cx_astore_n (i := 3) hE d_CT_module_5 rfl (by decide) ?_
    refine cx_aload_n (i := 3) hE d_CT_module_6 rfl rfl ?_
    refine cx_ifnonnull (tgt := 20) (r := some (A.ua j)) hE d_CT_module_7 (by decide) (fun a_7 c_7 => ?_) (fun c_7 => ?_)
    · refine cx_iload_n (i := 2) hE d_CT_module_20 rfl rfl ?_
      by_cases e_21_0 : w = 0
      · refine cx_tableIn (off := 47) (tgt := 68) hE d_CT_module_21 (by rw [e_21_0]; decide) (by rw [e_21_0]; decide) (by rw [e_21_0]; rfl) (by decide) ?_
        rw [e_21_0, (ct_md_v u).1] at hE
        refine cx_aload_n (i := 3) hE d_CT_module_68 rfl rfl ?_
        refine cx_get hE d_CT_module_69 f_CT_94 (by assumption) (by rfl) ?_
        refine cx_iret hE d_CT_module_72 rfl rfl ?_
        exact ⟨rfl, rfl⟩
      by_cases e_21_1 : w = 1
      · refine cx_tableIn (off := 52) (tgt := 73) hE d_CT_module_21 (by rw [e_21_1]; decide) (by rw [e_21_1]; decide) (by rw [e_21_1]; rfl) (by decide) ?_
        rw [e_21_1, (ct_md_v u).2.1] at hE
        refine cx_aload_n (i := 3) hE d_CT_module_73 rfl rfl ?_
        refine cx_get hE d_CT_module_74 f_CT_99 (by assumption) (by rfl) ?_
        refine cx_invV1 hE d_CT_module_77 l_CT_81 hnl (c_AL_size hna) rfl (by omega) (Nat.le_of_ble_eq_true rfl) n_AL_size (by rfl) ?_
        rw [List.length_map, List.length_range]
        refine cx_iret hE d_CT_module_80 rfl rfl ?_
        exact ⟨rfl, rfl⟩
      by_cases e_21_2 : w = 2
      · refine cx_tableIn (off := 60) (tgt := 81) hE d_CT_module_21 (by rw [e_21_2]; decide) (by rw [e_21_2]; decide) (by rw [e_21_2]; rfl) (by decide) ?_
        rw [e_21_2, (ct_md_v u).2.2.1] at hE
        refine cx_aload_n (i := 3) hE d_CT_module_81 rfl rfl ?_
        refine cx_get hE d_CT_module_82 f_CT_102 (by assumption) (by rfl) ?_
        refine cx_iret hE d_CT_module_85 rfl rfl ?_
        exact ⟨rfl, rfl⟩
      by_cases e_21_3 : w = 3
      · refine cx_tableIn (off := 65) (tgt := 86) hE d_CT_module_21 (by rw [e_21_3]; decide) (by rw [e_21_3]; decide) (by rw [e_21_3]; rfl) (by decide) ?_
        rw [e_21_3, (ct_md_v u).2.2.2.1] at hE
        refine cx_aload_n (i := 3) hE d_CT_module_86 rfl rfl ?_
        refine cx_get hE d_CT_module_87 f_CT_105 (by assumption) (by rfl) ?_
        refine cx_iret hE d_CT_module_90 rfl rfl ?_
        exact ⟨rfl, rfl⟩
      by_cases e_21_4 : w = 4
      · refine cx_tableIn (off := 70) (tgt := 91) hE d_CT_module_21 (by rw [e_21_4]; decide) (by rw [e_21_4]; decide) (by rw [e_21_4]; rfl) (by decide) ?_
        rw [e_21_4, (ct_md_v u).2.2.2.2.1] at hE
        refine cx_aload_n (i := 3) hE d_CT_module_91 rfl rfl ?_
        refine cx_get hE d_CT_module_92 f_CT_108 (by assumption) (by rfl) ?_
        refine cx_iret hE d_CT_module_95 rfl rfl ?_
        exact ⟨rfl, rfl⟩
      by_cases e_21_5 : w = 5
      · refine cx_tableIn (off := 75) (tgt := 96) hE d_CT_module_21 (by rw [e_21_5]; decide) (by rw [e_21_5]; decide) (by rw [e_21_5]; rfl) (by decide) ?_
        rw [e_21_5, (ct_md_v u).2.2.2.2.2.1] at hE
        refine cx_aload_n (i := 3) hE d_CT_module_96 rfl rfl ?_
        refine cx_get hE d_CT_module_97 f_CT_111 (by assumption) (by rfl) ?_
        refine cx_iret hE d_CT_module_100 rfl rfl ?_
        exact ⟨rfl, rfl⟩
      by_cases e_21_6 : w = 6
      · refine cx_tableIn (off := 80) (tgt := 101) hE d_CT_module_21 (by rw [e_21_6]; decide) (by rw [e_21_6]; decide) (by rw [e_21_6]; rfl) (by decide) ?_
        rw [e_21_6, (ct_md_v u).2.2.2.2.2.2.1] at hE
        refine cx_aload_n (i := 3) hE d_CT_module_101 rfl rfl ?_
        refine cx_get hE d_CT_module_102 f_CT_114 (by assumption) (by rfl) ?_
        refine cx_iret hE d_CT_module_105 rfl rfl ?_
        exact ⟨rfl, rfl⟩
      by_cases e_21_7 : w = 7
      · refine cx_tableIn (off := 85) (tgt := 106) hE d_CT_module_21 (by rw [e_21_7]; decide) (by rw [e_21_7]; decide) (by rw [e_21_7]; rfl) (by decide) ?_
        rw [e_21_7, (ct_md_v u).2.2.2.2.2.2.2] at hE
        refine cx_aload_n (i := 3) hE d_CT_module_106 rfl rfl ?_
        refine cx_get hE d_CT_module_107 f_CT_117 (by assumption) (by rfl) ?_
        refine cx_iret hE d_CT_module_110 rfl rfl ?_
        exact ⟨rfl, rfl⟩
      refine cx_tableOut (tgt := 111) hE d_CT_module_21 (by have h_0 := tx_ti (n := 0) e_21_0; have h_1 := tx_ti (n := 1) e_21_1; have h_2 := tx_ti (n := 2) e_21_2; have h_3 := tx_ti (n := 3) e_21_3; have h_4 := tx_ti (n := 4) e_21_4; have h_5 := tx_ti (n := 5) e_21_5; have h_6 := tx_ti (n := 6) e_21_6; have h_7 := tx_ti (n := 7) e_21_7; simp only [Int32.reduceToInt] at *; omega) (by decide) ?_
      rw [ct_md_n e_21_0 e_21_1 e_21_2 e_21_3 e_21_4 e_21_5 e_21_6 e_21_7] at hE
      refine cx_newX (i := 8) hE hfl xa_CT_42 d_CT_module_111 d_CT_module_114 d_CT_module_115 d_CT_module_117 rfl rfl rfl (by omega) (Nat.le_of_ble_eq_true rfl) (by omega) (by omega) (fun a9 fs9 h9 hk9 => ?_)
      refine cx_athrow hE d_CT_module_120 (cx_T.out hE rfl ?_)
      exact ⟨a9, fs9, rfl, h9, rfl⟩
      -- end
    · cases c_7
      -- end
set_option maxRecDepth 100000 in
theorem c_CT_beginning {k : cx_K} {l : Launch} {G : cx_G} {x ta b n cap : Nat} {f : Nat → Int32} {ft : Int32} {A : tx_A} {us : List tx_U} (hR : ct_R k G x ta b n cap f ft A us) {m q : Int32} (hfl : l.flags = flags0) (r1 : G.2.1 + 1 ≤ 601024) (r2 : G.2.2 + 6 ≤ 7293034) : cx_Sp k l m_CT_beginning 7 [.ref x, .int m, .int q] G (ct_pb G us m q) := by
  intro E hE
  obtain ⟨hx, hT, hU⟩ := id hR
  cases hnp : ct_np us m q with
  | none =>
    rw [show ct_pb G us m q = ct_th G 16 by unfold ct_pb; rw [hnp]] at hE
    refine cx_aload_n (i := 0) hE d_CT_beginning_0 rfl rfl ?_
    refine cx_iload_n (i := 1) hE d_CT_beginning_1 rfl rfl ?_
    refine cx_iload_n (i := 2) hE d_CT_beginning_2 rfl rfl ?_
    have hna9 := c_CT_nameAt (l := l) (m := m) (q := q) hR
    rw [hnp] at hna9
    refine cx_invV1 hE d_CT_beginning_3 l_CT_120 hx hna9 rfl (by omega) (Nat.le_of_ble_eq_true rfl) n_CT_nameAt (by rfl) ?_
    refine cx_astore_n (i := 3) hE d_CT_beginning_6 rfl (by decide) ?_
    refine cx_aload_n (i := 3) hE d_CT_beginning_7 rfl rfl ?_
    refine cx_ifnonnull (tgt := 21) (r := none) hE d_CT_beginning_8 (by decide) (fun a_8 c_8 => ?_) (fun c_8 => ?_)
    · cases c_8
      -- end
    · refine cx_newX (i := 9) hE hfl xa_CT_89 d_CT_beginning_11 d_CT_beginning_14 d_CT_beginning_15 d_CT_beginning_17 rfl rfl rfl (by omega) (Nat.le_of_ble_eq_true rfl) (by omega) (by omega) (fun a9 fs9 h9 hk9 => ?_)
      refine cx_athrow hE d_CT_beginning_20 (cx_T.out hE rfl ?_)
      exact ⟨a9, fs9, rfl, h9, rfl⟩
      -- end
  | some y =>
    rw [show ct_pb G us m q = cx_rd (some (.long (ct_nm us y).2.2.2.2.1)) G by unfold ct_pb; rw [hnp]] at hE
    obtain ⟨hy1, hy2, hy3⟩ := ct_np.ok hnp
    have hnm := hU.2.2.2.1 y.1 _ hy2 y.2 _ hy3
    unfold tx_nm at hnm
    generalize hr9 : ct_nm us y = r at hnm hy3 hE
    refine cx_aload_n (i := 0) hE d_CT_beginning_0 rfl rfl ?_
    refine cx_iload_n (i := 1) hE d_CT_beginning_1 rfl rfl ?_
    refine cx_iload_n (i := 2) hE d_CT_beginning_2 rfl rfl ?_
    have hna9 := c_CT_nameAt (l := l) (m := m) (q := q) hR
    rw [hnp] at hna9
    refine cx_invV1 hE d_CT_beginning_3 l_CT_120 hx hna9 rfl (by omega) (Nat.le_of_ble_eq_true rfl) n_CT_nameAt (by rfl) ?_
    refine cx_astore_n (i := 3) hE d_CT_beginning_6 rfl (by decide) ?_
    refine cx_aload_n (i := 3) hE d_CT_beginning_7 rfl rfl ?_
    refine cx_ifnonnull (tgt := 21) (r := some (A.na y.1 y.2)) hE d_CT_beginning_8 (by decide) (fun a_8 c_8 => ?_) (fun c_8 => ?_)
    · refine cx_aload_n (i := 3) hE d_CT_beginning_21 rfl rfl ?_
      refine cx_get hE d_CT_beginning_22 f_CT_144 (by assumption) (by rfl) ?_
      refine cx_lret hE d_CT_beginning_25 rfl ?_
      exact ⟨rfl, rfl⟩
    · cases c_8
      -- end
set_option maxRecDepth 100000 in
theorem c_CT_declared {k : cx_K} {l : Launch} {G : cx_G} {x ta b n cap : Nat} {f : Nat → Int32} {ft : Int32} {A : tx_A} {us : List tx_U} (hR : ct_R k G x ta b n cap f ft A us) {m q w : Int32} (hfl : l.flags = flags0) (r1 : G.2.1 + 1 ≤ 601024) (r2 : G.2.2 + 6 ≤ 7293034) : cx_Sp k l m_CT_declared 7 [.ref x, .int m, .int q, .int w] G (ct_pd G us m q w) := by
  intro E hE
  obtain ⟨hx, hT, hU⟩ := id hR
  cases hnp : ct_np us m q with
  | none =>
    rw [show ct_pd G us m q w = ct_th G 16 by unfold ct_pd; rw [hnp]] at hE
    refine cx_aload_n (i := 0) hE d_CT_declared_0 rfl rfl ?_
    refine cx_iload_n (i := 1) hE d_CT_declared_1 rfl rfl ?_
    refine cx_iload_n (i := 2) hE d_CT_declared_2 rfl rfl ?_
    have hna9 := c_CT_nameAt (l := l) (m := m) (q := q) hR
    rw [hnp] at hna9
    refine cx_invV1 hE d_CT_declared_3 l_CT_120 hx hna9 rfl (by omega) (Nat.le_of_ble_eq_true rfl) n_CT_nameAt (by rfl) ?_
    refine cx_astore hE d_CT_declared_6 (by decide) ?_
    refine cx_aload hE d_CT_declared_8 rfl ?_
    refine cx_ifnonnull (tgt := 23) (r := none) hE d_CT_declared_10 (by decide) (fun a_10 c_10 => ?_) (fun c_10 => ?_)
    · cases c_10
      -- end
    · refine cx_newX (i := 9) hE hfl xa_CT_89 d_CT_declared_13 d_CT_declared_16 d_CT_declared_17 d_CT_declared_19 rfl rfl rfl (by omega) (Nat.le_of_ble_eq_true rfl) (by omega) (by omega) (fun a9 fs9 h9 hk9 => ?_)
      refine cx_athrow hE d_CT_declared_22 (cx_T.out hE rfl ?_)
      exact ⟨a9, fs9, rfl, h9, rfl⟩
      -- end
  | some y =>
    have hpd9 : ct_pd G us m q w = (match ct_dc (ct_nm us y) w with | some v => cx_rd (some (.int v)) G | none => ct_th G 15) := by unfold ct_pd; rw [hnp]
    rw [hpd9] at hE
    clear hpd9
    obtain ⟨hy1, hy2, hy3⟩ := ct_np.ok hnp
    have hnm := hU.2.2.2.1 y.1 _ hy2 y.2 _ hy3
    unfold tx_nm at hnm
    generalize hr9 : ct_nm us y = r at hnm hy3 hE
    cases hof : r.2.2.2.2.2.2.2.1 with
    | none =>
      rw [hof] at hnm
      refine cx_aload_n (i := 0) hE d_CT_declared_0 rfl rfl ?_
      refine cx_iload_n (i := 1) hE d_CT_declared_1 rfl rfl ?_
      refine cx_iload_n (i := 2) hE d_CT_declared_2 rfl rfl ?_
      have hna9 := c_CT_nameAt (l := l) (m := m) (q := q) hR
      rw [hnp] at hna9
      refine cx_invV1 hE d_CT_declared_3 l_CT_120 hx hna9 rfl (by omega) (Nat.le_of_ble_eq_true rfl) n_CT_nameAt (by rfl) ?_
      refine cx_astore hE d_CT_declared_6 (by decide) ?_
      refine cx_aload hE d_CT_declared_8 rfl ?_
      refine cx_ifnonnull (tgt := 23) (r := some (A.na y.1 y.2)) hE d_CT_declared_10 (by decide) (fun a_10 c_10 => ?_) (fun c_10 => ?_)
      · refine cx_iload_n (i := 3) hE d_CT_declared_23 rfl rfl ?_
        by_cases e_24_0 : w = 0
        · refine cx_tableIn (off := 32) (tgt := 56) hE d_CT_declared_24 (by rw [e_24_0]; decide) (by rw [e_24_0]; decide) (by rw [e_24_0]; rfl) (by decide) ?_
          rw [e_24_0, show ct_dc r 0 = some r.2.1 from rfl] at hE
          refine cx_aload hE d_CT_declared_56 rfl ?_
          refine cx_get hE d_CT_declared_58 f_CT_126 (by assumption) (by rfl) ?_
          refine cx_iret hE d_CT_declared_61 rfl rfl ?_
          exact ⟨rfl, rfl⟩
        by_cases e_24_1 : w = 1
        · refine cx_tableIn (off := 38) (tgt := 62) hE d_CT_declared_24 (by rw [e_24_1]; decide) (by rw [e_24_1]; decide) (by rw [e_24_1]; rfl) (by decide) ?_
          rw [e_24_1, show ct_dc r 1 = some r.2.2.1 from rfl] at hE
          refine cx_aload hE d_CT_declared_62 rfl ?_
          refine cx_get hE d_CT_declared_64 f_CT_131 (by assumption) (by rfl) ?_
          refine cx_iret hE d_CT_declared_67 rfl rfl ?_
          exact ⟨rfl, rfl⟩
        by_cases e_24_2 : w = 2
        · refine cx_tableIn (off := 44) (tgt := 68) hE d_CT_declared_24 (by rw [e_24_2]; decide) (by rw [e_24_2]; decide) (by rw [e_24_2]; rfl) (by decide) ?_
          rw [e_24_2, show ct_dc r 2 = some (nI r.2.2.2.1) from rfl] at hE
          refine cx_aload hE d_CT_declared_68 rfl ?_
          refine cx_get hE d_CT_declared_70 f_CT_134 (by assumption) (by rfl) ?_
          refine cx_iret hE d_CT_declared_73 rfl rfl ?_
          exact ⟨rfl, rfl⟩
        by_cases e_24_3 : w = 3
        · refine cx_tableIn (off := 50) (tgt := 74) hE d_CT_declared_24 (by rw [e_24_3]; decide) (by rw [e_24_3]; decide) (by rw [e_24_3]; rfl) (by decide) ?_
          rw [e_24_3, show ct_dc r 3 = some (-1) by unfold ct_dc; rw [hof]; rfl] at hE
          refine cx_aload hE d_CT_declared_74 rfl ?_
          refine cx_get hE d_CT_declared_76 f_CT_135 (by assumption) (by rfl) ?_
          refine cx_ifnonnull (tgt := 86) (r := none) hE d_CT_declared_79 (by decide) (fun a_79 c_79 => ?_) (fun c_79 => ?_)
          · cases c_79
            -- end
          · refine cx_iconst (v := -1) hE d_CT_declared_82 (by decide) ?_
            refine cx_goto (tgt := 94) hE d_CT_declared_83 (by decide) ?_
            refine cx_iret hE d_CT_declared_94 rfl rfl ?_
            exact ⟨rfl, rfl⟩
        refine cx_tableOut (tgt := 95) hE d_CT_declared_24 (by have h_0 := tx_ti (n := 0) e_24_0; have h_1 := tx_ti (n := 1) e_24_1; have h_2 := tx_ti (n := 2) e_24_2; have h_3 := tx_ti (n := 3) e_24_3; simp only [Int32.reduceToInt] at *; omega) (by decide) ?_
        rw [ct_dc_n e_24_0 e_24_1 e_24_2 e_24_3] at hE
        refine cx_newX (i := 10) hE hfl xa_CT_42 d_CT_declared_95 d_CT_declared_98 d_CT_declared_99 d_CT_declared_101 rfl rfl rfl (by omega) (Nat.le_of_ble_eq_true rfl) (by omega) (by omega) (fun a9 fs9 h9 hk9 => ?_)
        refine cx_athrow hE d_CT_declared_104 (cx_T.out hE rfl ?_)
        exact ⟨a9, fs9, rfl, h9, rfl⟩
        -- end
      · cases c_10
        -- end
    | some j =>
      rw [hof] at hnm
      have hjl := ((hU.2.2.2.2.2.2 y.1 _ hy2).2 y.2 r hy3).1 j hof
      have hun := hU.2.1 j _ (ct_gd hjl)
      unfold tx_um at hun
      refine cx_aload_n (i := 0) hE d_CT_declared_0 rfl rfl ?_
      refine cx_iload_n (i := 1) hE d_CT_declared_1 rfl rfl ?_
      refine cx_iload_n (i := 2) hE d_CT_declared_2 rfl rfl ?_
      have hna9 := c_CT_nameAt (l := l) (m := m) (q := q) hR
      rw [hnp] at hna9
      refine cx_invV1 hE d_CT_declared_3 l_CT_120 hx hna9 rfl (by omega) (Nat.le_of_ble_eq_true rfl) n_CT_nameAt (by rfl) ?_
      refine cx_astore hE d_CT_declared_6 (by decide) ?_
      refine cx_aload hE d_CT_declared_8 rfl ?_
      refine cx_ifnonnull (tgt := 23) (r := some (A.na y.1 y.2)) hE d_CT_declared_10 (by decide) (fun a_10 c_10 => ?_) (fun c_10 => ?_)
      · refine cx_iload_n (i := 3) hE d_CT_declared_23 rfl rfl ?_
        by_cases e_24_0 : w = 0
        · refine cx_tableIn (off := 32) (tgt := 56) hE d_CT_declared_24 (by rw [e_24_0]; decide) (by rw [e_24_0]; decide) (by rw [e_24_0]; rfl) (by decide) ?_
          rw [e_24_0, show ct_dc r 0 = some r.2.1 from rfl] at hE
          refine cx_aload hE d_CT_declared_56 rfl ?_
          refine cx_get hE d_CT_declared_58 f_CT_126 (by assumption) (by rfl) ?_
          refine cx_iret hE d_CT_declared_61 rfl rfl ?_
          exact ⟨rfl, rfl⟩
        by_cases e_24_1 : w = 1
        · refine cx_tableIn (off := 38) (tgt := 62) hE d_CT_declared_24 (by rw [e_24_1]; decide) (by rw [e_24_1]; decide) (by rw [e_24_1]; rfl) (by decide) ?_
          rw [e_24_1, show ct_dc r 1 = some r.2.2.1 from rfl] at hE
          refine cx_aload hE d_CT_declared_62 rfl ?_
          refine cx_get hE d_CT_declared_64 f_CT_131 (by assumption) (by rfl) ?_
          refine cx_iret hE d_CT_declared_67 rfl rfl ?_
          exact ⟨rfl, rfl⟩
        by_cases e_24_2 : w = 2
        · refine cx_tableIn (off := 44) (tgt := 68) hE d_CT_declared_24 (by rw [e_24_2]; decide) (by rw [e_24_2]; decide) (by rw [e_24_2]; rfl) (by decide) ?_
          rw [e_24_2, show ct_dc r 2 = some (nI r.2.2.2.1) from rfl] at hE
          refine cx_aload hE d_CT_declared_68 rfl ?_
          refine cx_get hE d_CT_declared_70 f_CT_134 (by assumption) (by rfl) ?_
          refine cx_iret hE d_CT_declared_73 rfl rfl ?_
          exact ⟨rfl, rfl⟩
        by_cases e_24_3 : w = 3
        · refine cx_tableIn (off := 50) (tgt := 74) hE d_CT_declared_24 (by rw [e_24_3]; decide) (by rw [e_24_3]; decide) (by rw [e_24_3]; rfl) (by decide) ?_
          rw [e_24_3, show ct_dc r 3 = some (nI j) by unfold ct_dc; rw [hof]; rfl] at hE
          refine cx_aload hE d_CT_declared_74 rfl ?_
          refine cx_get hE d_CT_declared_76 f_CT_135 (by assumption) (by rfl) ?_
          refine cx_ifnonnull (tgt := 86) (r := some (A.ua j)) hE d_CT_declared_79 (by decide) (fun a_79 c_79 => ?_) (fun c_79 => ?_)
          · refine cx_aload hE d_CT_declared_86 rfl ?_
            refine cx_get hE d_CT_declared_88 f_CT_135 (by assumption) (by rfl) ?_
            refine cx_get hE d_CT_declared_91 f_CT_139 (by assumption) (by rfl) ?_
            refine cx_iret hE d_CT_declared_94 rfl rfl ?_
            exact ⟨rfl, rfl⟩
          · cases c_79
            -- end
        refine cx_tableOut (tgt := 95) hE d_CT_declared_24 (by have h_0 := tx_ti (n := 0) e_24_0; have h_1 := tx_ti (n := 1) e_24_1; have h_2 := tx_ti (n := 2) e_24_2; have h_3 := tx_ti (n := 3) e_24_3; simp only [Int32.reduceToInt] at *; omega) (by decide) ?_
        rw [ct_dc_n e_24_0 e_24_1 e_24_2 e_24_3] at hE
        refine cx_newX (i := 10) hE hfl xa_CT_42 d_CT_declared_95 d_CT_declared_98 d_CT_declared_99 d_CT_declared_101 rfl rfl rfl (by omega) (Nat.le_of_ble_eq_true rfl) (by omega) (by omega) (fun a9 fs9 h9 hk9 => ?_)
        refine cx_athrow hE d_CT_declared_104 (cx_T.out hE rfl ?_)
        exact ⟨a9, fs9, rfl, h9, rfl⟩
        -- end
      · cases c_10
        -- end
def ct_pe (k : cx_K) (G : cx_G) (x ta b n cap : Nat) (f : Nat → Int32) (ft : Int32) (A : tx_A) (us : List tx_U) (v : Int32) : cx_R → cx_G → Prop := fun r G' => (¬ v < 0 ∧ v ≤ nI n ∧ r = .inl none ∧ ct_R k G' x ta b v.toNatClampNeg cap f ft A us ∧ G'.2 = G.2 ∧ ∀ c e, c ≠ ta → G.1 c = some e → G'.1 c = some e) ∨ ((v < 0 ∨ ¬ v ≤ nI n) ∧ ct_th G 15 r G')
/-- the tape's cell was written -/
theorem ct_R.tp {k : cx_K} {G G' : cx_G} {x ta b n cap n' : Nat} {f : Nat → Int32} {ft : Int32} {A : tx_A} {us : List tx_U} (hR : ct_R k G x ta b n cap f ft A us) (hn : n' ≤ cap) (hG : cx_put G ta (.inr (6, [.ref b, .int (nI n')])) = G') : ct_R k G' x ta b n' cap f ft A us ∧ G'.2 = G.2 ∧ ∀ c e, c ≠ ta → G.1 c = some e → G'.1 c = some e := by
  obtain ⟨hx, ⟨t1, t2, t3, t4, t5, t6⟩, u1, u2, u3, u4, u5, u6⟩ := hR
  have hk : tx_kp (tx_is 6) G G' := by rw [← hG]; exact tx_kp.put t1
  refine ⟨⟨hk _ _ (tx_is_ne (by decide)) hx, ⟨cx_ps hG, hk _ _ tx_is_na t2, hn, t4, t5, t6⟩, u1.kp hk (fun _ => tx_is_ne (by decide)) (fun _ => tx_is_na), u2.kp hk (fun _ => tx_is_ne (by decide)), u3.kp hk (fun _ => tx_is_ne (by decide)) (fun _ => tx_is_na), u4.kp hk (fun _ => tx_is_ne (by decide)), fun T a ha => ?_, u6⟩, cx_pc hG, fun c e hc he => cx_pn hG he hc⟩
  obtain ⟨tb, x1, x2, x3, x4, g, z1, z2, z3⟩ := u5 T a ha
  exact ⟨tb, x1, x2, x3, x4, g, hk _ _ (tx_is_ne (by decide)) z1, hk _ _ tx_is_na z2, z3⟩
set_option maxRecDepth 100000 in
theorem c_CT_end {k : cx_K} {l : Launch} {G : cx_G} {x ta b n cap : Nat} {f : Nat → Int32} {ft : Int32} {A : tx_A} {us : List tx_U} (hR : ct_R k G x ta b n cap f ft A us) {v : Int32} (hfl : l.flags = flags0) (r1 : G.2.1 + 1 ≤ 601024) (r2 : G.2.2 + 6 ≤ 7293034) : cx_Sp k l m_CT_end 7 [.ref x, .int v] G (ct_pe k G x ta b n cap f ft A us v) := by
  intro E hE
  obtain ⟨hx, hT, hU⟩ := id hR
  obtain ⟨ht, hb9, hnc, hc5, hcm, hft0⟩ := id hT
  refine cx_iload_n (i := 1) hE d_CT_end_0 rfl rfl ?_
  refine cx_if_lt (tgt := 15)  hE d_CT_end_1 (by decide) (fun c_1 => ?_) (fun c_1 => ?_)
  · refine cx_newX (i := 6) hE hfl xa_CT_42 d_CT_end_15 d_CT_end_18 d_CT_end_19 d_CT_end_21 rfl rfl rfl (by omega) (Nat.le_of_ble_eq_true rfl) (by omega) (by omega) (fun a9 fs9 h9 hk9 => ?_)
    refine cx_athrow hE d_CT_end_24 (cx_T.out hE rfl ?_)
    exact Or.inr ⟨by first | exact Or.inl c_1 | exact Or.inr c_12, a9, fs9, rfl, h9, rfl⟩
    -- end
  · refine cx_iload_n (i := 1) hE d_CT_end_4 rfl rfl ?_
    refine cx_aload_n (i := 0) hE d_CT_end_5 rfl rfl ?_
    refine cx_get hE d_CT_end_6 f_CT_10 (by assumption) (by rfl) ?_
    refine cx_get hE d_CT_end_9 f_CT_27 (by assumption) (by rfl) ?_
    refine cx_icmp_le (tgt := 25)  hE d_CT_end_12 (by decide) (fun c_12 => ?_) (fun c_12 => ?_)
    · refine cx_aload_n (i := 0) hE d_CT_end_25 rfl rfl ?_
      refine cx_get hE d_CT_end_26 f_CT_10 (by assumption) (by rfl) ?_
      refine cx_iload_n (i := 1) hE d_CT_end_29 rfl rfl ?_
      refine cx_putg hE d_CT_end_30 f_CT_27 (by assumption) (Nat.le_of_ble_eq_true rfl) (by first | rfl | exact cx_nr _ _) (by first | rfl | exact cx_fr _ _) (fun G_30 g_30 h_30 => ?_)
      obtain ⟨jv, hjv, hv9⟩ := nI_of (x := v) (by first | exact c_1 | exact Int32.not_lt.mpr c_1)
      have hle9 : jv ≤ n := by rw [hv9] at c_12; exact (nI_leI hjv (by omega)).mp c_12
      rw [hv9] at g_30
      have hfin := hR.tp (n' := jv) (by omega) g_30
      refine cx_vret hE d_CT_end_33 rfl ?_
      refine Or.inl ⟨c_1, c_12, rfl, ?_⟩
      rw [hv9, nI_clamp hjv]
      exact hfin
    · refine cx_newX (i := 6) hE hfl xa_CT_42 d_CT_end_15 d_CT_end_18 d_CT_end_19 d_CT_end_21 rfl rfl rfl (by omega) (Nat.le_of_ble_eq_true rfl) (by omega) (by omega) (fun a9 fs9 h9 hk9 => ?_)
      refine cx_athrow hE d_CT_end_24 (cx_T.out hE rfl ?_)
      exact Or.inr ⟨by first | exact Or.inl c_1 | exact Or.inr c_12, a9, fs9, rfl, h9, rfl⟩
      -- end

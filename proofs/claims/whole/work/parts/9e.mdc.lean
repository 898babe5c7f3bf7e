/-! THE SECOND PASS: names of modules and instances, ranges, declarations, assignments, step by step. -/
set_option maxRecDepth 100000 in
theorem c_Mo_moduleNamed {k : cx_K} {l : Launch} {G : cx_G} {mo : Nat} {P : Nat → Nat} {M : rm_M} (hm : rm_R k G mo P M) {n : Nat} {T : List tx_Tk} (hT : rm_T n T M) {x hi : Nat} (hx : x < T.length) (kx : tx_ki T x = 19) (hhi : hi ≤ 3600) (hN : rm_nN T (M.2.1 13) 0 hi)  : cx_Sp k l m_Mo_moduleNamed 1 [.ref mo, .int (nI x), .int (nI hi)] G (cx_rd (some (.int (rm_on (rm_sN T (M.2.1 13) x 0 hi)))) G) := by
  intro E hE
  have hmo := hm.1
  have h13 := hm.i 13 rfl
  have hl := hT.len
  have hn := hT.2.1
  have hloop : ∀ (d q : Nat), hi - q = d → q ≤ hi → rm_sN T (M.2.1 13) x q (hi - q) = rm_sN T (M.2.1 13) x 0 hi → cx_V E 2 [(3, false, .int (nI q)), (0, false, .ref mo), (1, false, .int (nI x)), (2, false, .int (nI hi))] [] G := by
    intro d
    induction d using Nat.strongRecOn with
    | ind d ih =>
      intro q hd hq2 hr
      refine cx_iload_n (i := 3) hE d_Mo_moduleNamed_2 rfl rfl ?_
      refine cx_iload_n (i := 2) hE d_Mo_moduleNamed_3 rfl rfl ?_
      refine cx_icmp_ge (tgt := 29)  hE d_Mo_moduleNamed_4 (by decide) (fun c_4 => ?_) (fun c_4 => ?_)
      · have q_6 : q = hi := by have := nJ_le (by omega) c_4; omega
        subst q_6
        rw [Nat.sub_self] at hr
        refine cx_iconst (v := -1) hE d_Mo_moduleNamed_29 (by decide) ?_
        refine cx_iret hE d_Mo_moduleNamed_30 rfl rfl ?_
        rw [← hr]
        exact ⟨rfl, rfl⟩
      · have q_6 := nJ_lt (by omega) c_4
        have q_e : hi - q = (hi - (q + 1)) + 1 := by omega
        refine cx_aload_n (i := 0) hE d_Mo_moduleNamed_7 rfl rfl ?_
        refine cx_aload_n (i := 0) hE d_Mo_moduleNamed_8 rfl rfl ?_
        refine cx_get hE d_Mo_moduleNamed_9 f_Mo_25 (by assumption) (by rfl) ?_
        refine cx_iload_n (i := 3) hE d_Mo_moduleNamed_12 rfl rfl ?_
        refine cx_iald 1 hE d_Mo_moduleNamed_13 rfl (by assumption) (vp_in_nI (by show _ < 3600; omega) (by show 3600 < 2147483648; omega)) ?_
        rw [nI_clamp (by omega)]
        obtain ⟨y, hy1, hy2, hy3⟩ := hN q (by omega) q_6
        rw [hy1]
        refine cx_iload_n (i := 1) hE d_Mo_moduleNamed_14 rfl rfl ?_
        refine cx_invV1 hE d_Mo_moduleNamed_15 l_Mo_262 (by assumption) (c_Mo_sameToken (x := y) (y := x) hm hT hy2 hy3 hx kx) rfl (by omega) (Nat.le_of_ble_eq_true rfl) n_Mo_sameToken (by first | rfl | (simp only [List.map_cons, List.map_nil, cx_rfc]; rfl)) ?_
        refine cx_if_eq (tgt := 23)  hE d_Mo_moduleNamed_18 (by decide) (fun c_18 => ?_) (fun c_18 => ?_)
        · have q_21 := of_decide_eq_false (cx_b0.mp c_18)
          have q_n : rm_sN T (M.2.1 13) x (q + 1) (hi - (q + 1)) = rm_sN T (M.2.1 13) x 0 hi := by
            rw [← hr, q_e, rm_sN, if_neg (by rw [hy1, nI_clamp (by omega)]; exact q_21)]
          refine cx_iinc (v := nI (q + 1)) hE d_Mo_moduleNamed_23 rfl (nI_1 _) (by decide) ?_
          refine cx_goto (tgt := 2) hE d_Mo_moduleNamed_26 (by decide) ?_
          refine cx_sub [0, 1, 2, 3] rfl ?_
          exact ih (hi - (q + 1)) (by omega) (q + 1) rfl (by omega) q_n
        · have q_21 := of_decide_eq_true (cx_bn.mp c_18)
          have q_n : rm_sN T (M.2.1 13) x 0 hi = some q := by
            rw [← hr, q_e, rm_sN, if_pos (by rw [hy1, nI_clamp (by omega)]; exact q_21)]
          refine cx_iload_n (i := 3) hE d_Mo_moduleNamed_21 rfl rfl ?_
          refine cx_iret hE d_Mo_moduleNamed_22 rfl rfl ?_
          rw [q_n]
          exact ⟨rfl, rfl⟩
  refine cx_iconst (v := 0) hE d_Mo_moduleNamed_0 (by decide) ?_
  refine cx_istore_n (i := 3) hE d_Mo_moduleNamed_1 rfl (by decide) ?_
  refine cx_sub [0, 1, 2, 3] rfl ?_
  exact hloop _ 0 rfl (Nat.zero_le _) rfl
set_option maxRecDepth 100000 in
theorem c_Mo_isInstanceName {k : cx_K} {l : Launch} {G : cx_G} {mo : Nat} {P : Nat → Nat} {M : rm_M} (hm : rm_R k G mo P M) {n : Nat} {T : List tx_Tk} (hT : rm_T n T M) {x lo hi mc : Nat} (hx : x < T.length) (kx : tx_ki T x = 19) (hmc : M.1 12 = nI mc) (hmc2 : mc < 3600) (h15 : M.2.1 15 mc = nI lo) (h27 : M.1 27 = nI hi) (hlo : lo ≤ hi) (hhi : hi ≤ 11000) (hN : rm_nN T (M.2.1 29) lo hi)  : cx_Sp k l m_Mo_isInstanceName 1 [.ref mo, .int (nI x)] G (cx_rd (some (.int (cx_b (rm_sN T (M.2.1 29) x lo (hi - lo)).isSome))) G) := by
  intro E hE
  have hmo := hm.1
  have h15r := hm.i 15 rfl
  have h29 := hm.i 29 rfl
  have hl := hT.len
  have hn := hT.2.1
  have hloop : ∀ (d q : Nat) (z : Bool), hi - q = d → lo ≤ q → q ≤ hi → (z || (rm_sN T (M.2.1 29) x q (hi - q)).isSome) = (rm_sN T (M.2.1 29) x lo (hi - lo)).isSome → cx_V E 12 [(3, false, .int (nI q)), (2, false, .int (cx_b z)), (0, false, .ref mo), (1, false, .int (nI x))] [] G := by
    intro d
    induction d using Nat.strongRecOn with
    | ind d ih =>
      intro q z hd hq1 hq2 hr
      refine cx_iload_n (i := 3) hE d_Mo_isInstanceName_12 rfl rfl ?_
      refine cx_aload_n (i := 0) hE d_Mo_isInstanceName_13 rfl rfl ?_
      refine cx_get hE d_Mo_isInstanceName_14 f_Mo_276 (by assumption) (by rfl) ?_
      rw [h27]
      refine cx_icmp_ge (tgt := 50)  hE d_Mo_isInstanceName_17 (by decide) (fun c_17 => ?_) (fun c_17 => ?_)
      · have q_6 : q = hi := by have := nJ_le (by omega) c_17; omega
        subst q_6
        rw [Nat.sub_self] at hr
        refine cx_iload_n (i := 2) hE d_Mo_isInstanceName_50 rfl rfl ?_
        refine cx_iret hE d_Mo_isInstanceName_51 rfl (cx_bz _) ?_
        refine ⟨?_, rfl⟩
        rw [← hr]
        cases z <;> rfl
      · have q_6 := nJ_lt (by omega) c_17
        have q_e : hi - q = (hi - (q + 1)) + 1 := by omega
        refine cx_iload_n (i := 2) hE d_Mo_isInstanceName_20 rfl rfl ?_
        refine cx_if_ne (tgt := 38)  hE d_Mo_isInstanceName_21 (by decide) (fun c_21 => ?_) (fun c_21 => ?_)
        · refine cx_iconst (v := 1) hE d_Mo_isInstanceName_38 (by decide) ?_
          refine cx_goto (tgt := 43) hE d_Mo_isInstanceName_39 (by decide) ?_
          refine cx_istore_n (i := 2) hE d_Mo_isInstanceName_43 rfl (by decide) ?_
          refine cx_iinc (v := nI (q + 1)) hE d_Mo_isInstanceName_44 rfl (nI_1 _) (by decide) ?_
          refine cx_goto (tgt := 12) hE d_Mo_isInstanceName_47 (by decide) ?_
          refine cx_sub [0, 1, 2, 3] rfl ?_
          exact ih (hi - (q + 1)) (by omega) (q + 1) true rfl (by omega) (by omega) (by rw [← hr, cx_bn.mp c_21]; rfl)
        · refine cx_aload_n (i := 0) hE d_Mo_isInstanceName_24 rfl rfl ?_
          refine cx_aload_n (i := 0) hE d_Mo_isInstanceName_25 rfl rfl ?_
          refine cx_get hE d_Mo_isInstanceName_26 f_Mo_68 (by assumption) (by rfl) ?_
          refine cx_iload_n (i := 3) hE d_Mo_isInstanceName_29 rfl rfl ?_
          refine cx_iald 1 hE d_Mo_isInstanceName_30 rfl (by assumption) (vp_in_nI (by show _ < 11000; omega) (by show 11000 < 2147483648; omega)) ?_
          rw [nI_clamp (by omega)]
          obtain ⟨y, hy1, hy2, hy3⟩ := hN q (by omega) q_6
          rw [hy1]
          refine cx_iload_n (i := 1) hE d_Mo_isInstanceName_31 rfl rfl ?_
          refine cx_invV1 hE d_Mo_isInstanceName_32 l_Mo_262 (by assumption) (c_Mo_sameToken (x := y) (y := x) hm hT hy2 hy3 hx kx) rfl (by omega) (Nat.le_of_ble_eq_true rfl) n_Mo_sameToken (by first | rfl | (simp only [List.map_cons, List.map_nil, cx_rfc]; rfl)) ?_
          refine cx_if_eq (tgt := 42)  hE d_Mo_isInstanceName_35 (by decide) (fun c_35 => ?_) (fun c_35 => ?_)
          · have q_21 := of_decide_eq_false (cx_b0.mp c_35)
            have q_n : rm_sN T (M.2.1 29) x q (hi - q) = rm_sN T (M.2.1 29) x (q + 1) (hi - (q + 1)) := by
              rw [q_e, rm_sN, if_neg (by rw [hy1, nI_clamp (by omega)]; exact q_21)]
            refine cx_iconst (v := 0) hE d_Mo_isInstanceName_42 (by decide) ?_
            refine cx_istore_n (i := 2) hE d_Mo_isInstanceName_43 rfl (by decide) ?_
            refine cx_iinc (v := nI (q + 1)) hE d_Mo_isInstanceName_44 rfl (nI_1 _) (by decide) ?_
            refine cx_goto (tgt := 12) hE d_Mo_isInstanceName_47 (by decide) ?_
            refine cx_sub [0, 1, 2, 3] rfl ?_
            exact ih (hi - (q + 1)) (by omega) (q + 1) false rfl (by omega) (by omega) (by rw [← hr, cx_b0.mp c_21, q_n])
          · have q_21 := of_decide_eq_true (cx_bn.mp c_35)
            have q_n : rm_sN T (M.2.1 29) x q (hi - q) = some q := by
              rw [q_e, rm_sN, if_pos (by rw [hy1, nI_clamp (by omega)]; exact q_21)]
            refine cx_iconst (v := 1) hE d_Mo_isInstanceName_38 (by decide) ?_
            refine cx_goto (tgt := 43) hE d_Mo_isInstanceName_39 (by decide) ?_
            refine cx_istore_n (i := 2) hE d_Mo_isInstanceName_43 rfl (by decide) ?_
            refine cx_iinc (v := nI (q + 1)) hE d_Mo_isInstanceName_44 rfl (nI_1 _) (by decide) ?_
            refine cx_goto (tgt := 12) hE d_Mo_isInstanceName_47 (by decide) ?_
            refine cx_sub [0, 1, 2, 3] rfl ?_
            exact ih (hi - (q + 1)) (by omega) (q + 1) true rfl (by omega) (by omega) (by rw [← hr, cx_b0.mp c_21, q_n]; rfl)
  refine cx_iconst (v := 0) hE d_Mo_isInstanceName_0 (by decide) ?_
  refine cx_istore_n (i := 2) hE d_Mo_isInstanceName_1 rfl (by decide) ?_
  refine cx_aload_n (i := 0) hE d_Mo_isInstanceName_2 rfl rfl ?_
  refine cx_get hE d_Mo_isInstanceName_3 f_Mo_31 (by assumption) (by rfl) ?_
  refine cx_aload_n (i := 0) hE d_Mo_isInstanceName_6 rfl rfl ?_
  refine cx_get hE d_Mo_isInstanceName_7 f_Mo_266 (by assumption) (by rfl) ?_
  rw [hmc]
  refine cx_iald 1 hE d_Mo_isInstanceName_10 rfl (by assumption) (vp_in_nI (by show _ < 3601; omega) (by show 3601 < 2147483648; omega)) ?_
  rw [nI_clamp (by omega), h15]
  refine cx_istore_n (i := 3) hE d_Mo_isInstanceName_11 rfl (by decide) ?_
  refine cx_sub [0, 1, 2, 3] rfl ?_
  exact hloop _ lo false rfl (Nat.le_refl _) hlo rfl
set_option maxRecDepth 100000 in
theorem c_Mo_linkOf {k : cx_K} {l : Launch} {G : cx_G} {mo : Nat} {P : Nat → Nat} {M : rm_M} (hm : rm_R k G mo P M) {x : Int32} {lo hi it : Nat} (hit : it < 11000) (h30 : M.2.1 30 it = nI lo) (hlo : lo ≤ hi) (hhi : hi ≤ 11000)  : cx_Sp k l m_Mo_linkOf 0 [.ref mo, .int (nI it), .int (nI hi), .int x] G (cx_rd (some (.int (rm_on (rm_lk (M.2.1 32) x lo (hi - lo))))) G) := by
  intro E hE
  have hmo := hm.1
  have h30r := hm.i 30 rfl
  have h32 := hm.i 32 rfl
  have hloop : ∀ (d q : Nat), hi - q = d → lo ≤ q → q ≤ hi → rm_lk (M.2.1 32) x q (hi - q) = rm_lk (M.2.1 32) x lo (hi - lo) → cx_V E 8 [(4, false, .int (nI q)), (0, false, .ref mo), (1, false, .int (nI it)), (2, false, .int (nI hi)), (3, false, .int x)] [] G := by
    intro d
    induction d using Nat.strongRecOn with
    | ind d ih =>
      intro q hd hq1 hq2 hr
      refine cx_iload hE d_Mo_linkOf_8 rfl ?_
      refine cx_iload_n (i := 2) hE d_Mo_linkOf_10 rfl rfl ?_
      refine cx_icmp_ge (tgt := 34)  hE d_Mo_linkOf_11 (by decide) (fun c_11 => ?_) (fun c_11 => ?_)
      · have q_6 : q = hi := by have := nJ_le (by omega) c_11; omega
        subst q_6
        rw [Nat.sub_self] at hr
        refine cx_iconst (v := -1) hE d_Mo_linkOf_34 (by decide) ?_
        refine cx_iret hE d_Mo_linkOf_35 rfl rfl ?_
        rw [← hr]
        exact ⟨rfl, rfl⟩
      · have q_6 := nJ_lt (by omega) c_11
        have q_e : hi - q = (hi - (q + 1)) + 1 := by omega
        refine cx_aload_n (i := 0) hE d_Mo_linkOf_14 rfl rfl ?_
        refine cx_get hE d_Mo_linkOf_15 f_Mo_74 (by assumption) (by rfl) ?_
        refine cx_iload hE d_Mo_linkOf_18 rfl ?_
        refine cx_iald 1 hE d_Mo_linkOf_20 rfl (by assumption) (vp_in_nI (by show _ < 11000; omega) (by show 11000 < 2147483648; omega)) ?_
        rw [nI_clamp (by omega)]
        refine cx_iload_n (i := 3) hE d_Mo_linkOf_21 rfl rfl ?_
        refine cx_icmp_ne (tgt := 28)  hE d_Mo_linkOf_22 (by decide) (fun c_22 => ?_) (fun c_22 => ?_)
        · have q_n : rm_lk (M.2.1 32) x (q + 1) (hi - (q + 1)) = rm_lk (M.2.1 32) x lo (hi - lo) := by
            rw [← hr, q_e, rm_lk, if_neg c_22]
          refine cx_iinc (v := nI (q + 1)) hE d_Mo_linkOf_28 rfl (nI_1 _) (by decide) ?_
          refine cx_goto (tgt := 8) hE d_Mo_linkOf_31 (by decide) ?_
          refine cx_sub [0, 1, 2, 3, 4] rfl ?_
          exact ih (hi - (q + 1)) (by omega) (q + 1) rfl (by omega) (by omega) q_n
        · have q_n : rm_lk (M.2.1 32) x lo (hi - lo) = some q := by
            rw [← hr, q_e, rm_lk, if_pos c_22]
          refine cx_iload hE d_Mo_linkOf_25 rfl ?_
          refine cx_iret hE d_Mo_linkOf_27 rfl rfl ?_
          rw [q_n]
          exact ⟨rfl, rfl⟩
  refine cx_aload_n (i := 0) hE d_Mo_linkOf_0 rfl rfl ?_
  refine cx_get hE d_Mo_linkOf_1 f_Mo_71 (by assumption) (by rfl) ?_
  refine cx_iload_n (i := 1) hE d_Mo_linkOf_4 rfl rfl ?_
  refine cx_iald 1 hE d_Mo_linkOf_5 rfl (by assumption) (vp_in_nI (by show _ < 11001; omega) (by show 11001 < 2147483648; omega)) ?_
  rw [nI_clamp (by omega), h30]
  refine cx_istore hE d_Mo_linkOf_6 (by decide) ?_
  refine cx_sub [0, 1, 2, 3, 4] rfl ?_
  exact hloop _ lo rfl (Nat.le_refl _) hlo rfl
section RPF
variable {k : cx_K} {l : Launch} {G : cx_G} {P : Nat → Nat} {mo : Nat} {b : Nat × Nat} {M : rm_M}
theorem s_mno {x : Int32} {K : Int32 → Prop} (hR : rm_R k G mo P M) (h : rp_mno x M K) : cx_Sp k l m_Mo_moduleNamed 1 [.ref mo, .int x, .int (M.1 12)] G (rp_R G K) := by
  obtain ⟨n, T, i, mc, h1, rfl, h2, h3, h4, h5, h6, h7⟩ := h
  rw [h4]
  exact (c_Mo_moduleNamed hR h1 h2 h3 h5 h6).weaken (fun r G' q => ⟨_, q.1, q.2, h7⟩)
theorem s_inm {x : Int32} {K : Bool → Prop} (hR : rm_R k G mo P M) (h : rp_inm x M K) : cx_Sp k l m_Mo_isInstanceName 1 [.ref mo, .int x] G (rp_R G (fun v => ∃ b, v = cx_b b ∧ K b)) := by
  obtain ⟨n, T, i, mc, lo, hi, h1, rfl, h2, h3, h4, h5, h6, h7, h8, h9, h10, h11⟩ := h
  exact (c_Mo_isInstanceName hR h1 h2 h3 h4 h5 h6 h7 h8 h9 h10).weaken (fun r G' q => ⟨_, q.1, q.2, _, rfl, h11⟩)
theorem s_numP {x : Int32} {K : Int64 → rm_M → Prop} (hR : rm_R k G mo P M) (hQ : rm_Q b G M) (h : rp_num x M K) : cx_Sp k l m_Mo_numberOf 3 [.ref mo, .int x] G (fun r G' => ∃ v M', r = .inl (some (.long v)) ∧ rm_W k mo b G P G' P M' ∧ K v M') := by
  obtain ⟨n, T, i, h1, rfl, h2, h3, h4⟩ := h
  have hl := h1.len
  have hn := h1.2.1
  have ht := h1.tok h2
  have hrow := h1.2.2.2.1 i h2
  have hk : (tx_tok n (tx_at n (M.2.1 53)) (tx_ta T i).2.1).1 = 20 ∨ (tx_tok n (tx_at n (M.2.1 53)) (tx_ta T i).2.1).1 = 21 := by rw [← ht.2]; exact h3
  have he : (tx_tok n (tx_at n (M.2.1 53)) (tx_ta T i).2.1).2.2.1 = (tx_ta T i).2.2.1 := by rw [← ht.2]
  have hv : (tx_tok n (tx_at n (M.2.1 53)) (tx_ta T i).2.1).2.2.2.2.2 = (tx_ta T i).2.2.2.2.2 := by rw [← ht.2]
  have hc := c_Mo_numberOf (l := l) hR h1.1 (by omega) hrow.2.1 (hrow.2.2 (by rcases h3 with z | z; exact Or.inr (Or.inl z); exact Or.inr (Or.inr z))) (by omega) hk he
  rw [hv] at hc
  exact hc.weaken (fun r G' q => by obtain ⟨M', q1, q2, q3⟩ := q; exact ⟨_, M', q1, (rm_W.rf hR hQ).q q3.1 q3.2.1 q3.2.2 (by rw [q2.1]), h4 M' q2⟩)
theorem s_lof {x : Int32} {K : Int32 → Prop} (hR : rm_R k G mo P M) (h : rp_lof x M K) : cx_Sp k l m_Mo_linkOf 0 [.ref mo, .int (M.1 27), .int (M.1 31), .int x] G (rp_R G K) := by
  obtain ⟨it, lo, hi, h1, h2, h3, h4, h5, h6, h7⟩ := h
  rw [h1, h4]
  exact (c_Mo_linkOf hR h2 h3 h5 h6).weaken (fun r G' q => ⟨_, q.1, q.2, h7⟩)
end RPF
theorem rq_gt {x y : Int64} : 0 < lg_cmp x y ↔ y < x := by
  have h := rq_cmpL (x := x) (y := y)
  constructor
  · intro z
    exact Decidable.not_not.mp (fun q => absurd (h.mpr q) (Int32.not_le.mpr z))
  · intro z
    exact Int32.not_le.mp (fun q => h.mp q z)
set_option maxRecDepth 100000 in
theorem c_Mo_range {k : cx_K} {l : Launch} {G : cx_G} {mo : Nat} {P : Nat → Nat} {M : rm_M} {b : Nat × Nat} (hm : rm_R k G mo P M) (hQ : rm_Q b G M) {K : Int32 → rm_M → Prop} (hK : rp_rng K M)  : cx_Sp k l m_Mo_range 4 [.ref mo] G (rp_P k mo b G P K) := by
  intro E hE
  have W0 := rm_W.rf hm hQ
  have m0 := hm.1
  refine cx_aload_n (i := 0) hE d_Mo_range_0 rfl rfl ?_
  refine cx_bipush (v := 91) hE d_Mo_range_1 (by decide) ?_
  refine cx_wR hE d_Mo_range_3 l_Mo_203 W0 (s_is W0.1 hK) rfl (by omega) (Nat.le_of_ble_eq_true rfl) n_Mo_is (by first | rfl | (simp only [List.map_cons, List.map_nil, cx_rfc]; rfl)) (fun v_3 K_3 => ?_)
  obtain ⟨b_3, rfl, K_3⟩ := K_3
  refine cx_if_ne (tgt := 11)  hE d_Mo_range_6 (by decide) (fun c_6 => ?_) (fun c_6 => ?_)
  · have K_6 := rp_ifp K_3 (cx_bn.mp c_6)
    refine cx_aload_n (i := 0) hE d_Mo_range_11 rfl rfl ?_
    refine cx_aload_n (i := 0) hE d_Mo_range_12 rfl rfl ?_
    refine cx_get hE d_Mo_range_13 f_Mo_193 (by assumption) (by rfl) ?_
    refine cx_iconst (v := 1) hE d_Mo_range_16 (by decide) ?_
    refine cx_iadd hE d_Mo_range_17 ?_
    refine cx_wL hE d_Mo_range_18 l_Mo_316 W0 (s_num W0.1 W0.2.2 K_6) rfl (by omega) (Nat.le_of_ble_eq_true rfl) n_Mo_numberOf (by first | rfl | (simp only [List.map_cons, List.map_nil, cx_rfc]; rfl)) (fun v_18 G_18 P_18 M_18 W_18 K_18 => ?_)
    have m_18 := W_18.1.1
    refine cx_lstore_n (i := 1) hE d_Mo_range_21 rfl (by decide) ?_
    refine cx_aload_n (i := 0) hE d_Mo_range_22 rfl rfl ?_
    refine cx_aload_n (i := 0) hE d_Mo_range_23 rfl rfl ?_
    refine cx_get hE d_Mo_range_24 f_Mo_193 (by assumption) (by rfl) ?_
    refine cx_iconst (v := 3) hE d_Mo_range_27 (by decide) ?_
    refine cx_iadd hE d_Mo_range_28 ?_
    refine cx_wL hE d_Mo_range_29 l_Mo_316 W_18 (s_num W_18.1 W_18.2.2 K_18) rfl (by omega) (Nat.le_of_ble_eq_true rfl) n_Mo_numberOf (by first | rfl | (simp only [List.map_cons, List.map_nil, cx_rfc]; rfl)) (fun v_29 G_29 P_29 M_29 W_29 K_29 => ?_)
    have m_29 := W_29.1.1
    obtain ⟨i_29, e_29, l_29, K_29b⟩ := K_29
    refine cx_lstore_n (i := 3) hE d_Mo_range_32 rfl (by decide) ?_
    have h62 : ∀ (G1 : cx_G) (P1 : Nat → Nat), rm_W k mo b G P G1 P1 (if 63 < v_18 ∨ ¬ v_29 = 0 then rm_fail 30 (M_29.2.1 5 i_29) M_29 else M_29) → cx_V E 62 [(3, true, .long v_29), (1, true, .long v_18), (0, false, .ref mo)] [] G1 := by
      intro G1 P1 W1
      have m1 := W1.1.1
      refine cx_aload_n (i := 0) hE d_Mo_range_62 rfl rfl ?_
      refine cx_aload_n (i := 0) hE d_Mo_range_63 rfl rfl ?_
      refine cx_get hE d_Mo_range_64 f_Mo_193 (by assumption) (by rfl) ?_
      refine cx_iconst (v := 5) hE d_Mo_range_67 (by decide) ?_
      refine cx_iadd hE d_Mo_range_68 ?_
      refine cx_putg hE d_Mo_range_69 f_Mo_193 (by assumption) (Nat.le_of_ble_eq_true rfl) (by first | rfl | exact cx_nr _ _) (by first | rfl | exact cx_fr _ _) (fun G_69 g_69 h_69 => ?_)
      rw [rm_s8] at g_69
      clear h_69
      have W_69 : rm_W k mo b G P G_69 P1 (rp_i (if 63 < v_18 ∨ ¬ v_29 = 0 then rm_fail 30 (M_29.2.1 5 i_29) M_29 else M_29) 5) := W1.pi g_69
      have m_69 := W_69.1.1
      refine cx_lload_n (i := 1) hE d_Mo_range_72 rfl rfl ?_
      refine cx_l2i hE d_Mo_range_73 ?_
      refine cx_iconst (v := 1) hE d_Mo_range_74 (by decide) ?_
      refine cx_iadd hE d_Mo_range_75 ?_
      refine cx_iret hE d_Mo_range_76 rfl rfl ?_
      exact ⟨_, _, _, rfl, W_69, K_29b⟩
    refine cx_lload_n (i := 1) hE d_Mo_range_33 rfl rfl ?_
    refine cx_ldc2 (v := 63) hE d_Mo_range_34 (in_7 (List.mem_of_getElem? (i := 208) rfl)) ?_
    refine cx_lcmp hE d_Mo_range_37 ?_
    refine cx_if_gt (tgt := 47)  hE d_Mo_range_38 (by decide) (fun c_38 => ?_) (fun c_38 => ?_)
    · refine cx_aload_n (i := 0) hE d_Mo_range_47 rfl rfl ?_
      refine cx_bipush (v := 30) hE d_Mo_range_48 (by decide) ?_
      refine cx_aload_n (i := 0) hE d_Mo_range_50 rfl rfl ?_
      refine cx_get hE d_Mo_range_51 f_Mo_19 (by assumption) (by rfl) ?_
      refine cx_aload_n (i := 0) hE d_Mo_range_54 rfl rfl ?_
      refine cx_get hE d_Mo_range_55 f_Mo_193 (by assumption) (by rfl) ?_
      rw [e_29]
      refine cx_iald 1 hE d_Mo_range_58 rfl (W_29.1.i 5 rfl) (vp_in_nI (by show _ < 65540; omega) (by show 65540 < 2147483648; omega)) ?_
      rw [nI_clamp (by omega)]
      refine cx_w0 hE d_Mo_range_59 l_Mo_196 W_29 (s_fail (K := fun Mq9 => Mq9 = rm_fail _ _ M_29) W_29.1 W_29.2.2 rfl) rfl (by omega) (Nat.le_of_ble_eq_true rfl) n_Mo_fail (by first | rfl | (simp only [List.map_cons, List.map_nil, cx_rfc]; rfl)) (fun G_59 P_59 M_59 W_59 K_59 => ?_)
      have m_59 := W_59.1.1
      refine cx_sub [0, 1, 2] rfl ?_
      exact h62 _ _ (by rw [if_pos (Or.inl (rq_gt.mp c_38))]; subst K_59; exact W_59)
    · refine cx_lload_n (i := 3) hE d_Mo_range_41 rfl rfl ?_
      refine cx_lconst (v := 0) hE d_Mo_range_42 (by decide) ?_
      refine cx_lcmp hE d_Mo_range_43 ?_
      refine cx_if_eq (tgt := 62)  hE d_Mo_range_44 (by decide) (fun c_44 => ?_) (fun c_44 => ?_)
      · refine cx_sub [0, 1, 2] rfl ?_
        exact h62 _ _ (by rw [if_neg (fun z => z.elim (fun y => c_38 (rq_gt.mpr y)) (fun y => y (rq_cmp0.mp c_44)))]; exact W_29)
      · refine cx_aload_n (i := 0) hE d_Mo_range_47 rfl rfl ?_
        refine cx_bipush (v := 30) hE d_Mo_range_48 (by decide) ?_
        refine cx_aload_n (i := 0) hE d_Mo_range_50 rfl rfl ?_
        refine cx_get hE d_Mo_range_51 f_Mo_19 (by assumption) (by rfl) ?_
        refine cx_aload_n (i := 0) hE d_Mo_range_54 rfl rfl ?_
        refine cx_get hE d_Mo_range_55 f_Mo_193 (by assumption) (by rfl) ?_
        rw [e_29]
        refine cx_iald 1 hE d_Mo_range_58 rfl (W_29.1.i 5 rfl) (vp_in_nI (by show _ < 65540; omega) (by show 65540 < 2147483648; omega)) ?_
        rw [nI_clamp (by omega)]
        refine cx_w0 hE d_Mo_range_59 l_Mo_196 W_29 (s_fail (K := fun Mq9 => Mq9 = rm_fail _ _ M_29) W_29.1 W_29.2.2 rfl) rfl (by omega) (Nat.le_of_ble_eq_true rfl) n_Mo_fail (by first | rfl | (simp only [List.map_cons, List.map_nil, cx_rfc]; rfl)) (fun G_59 P_59 M_59 W_59 K_59 => ?_)
        have m_59 := W_59.1.1
        refine cx_sub [0, 1, 2] rfl ?_
        exact h62 _ _ (by rw [if_pos (Or.inr (fun y => c_44 (rq_cmp0.mpr y)))]; subst K_59; exact W_59)
  · have K_6 := rp_ifn K_3 (by rw [cx_b0.mp c_6]; decide)
    refine cx_iconst (v := 1) hE d_Mo_range_9 (by decide) ?_
    refine cx_iret hE d_Mo_range_10 rfl rfl ?_
    exact ⟨_, _, _, rfl, W0, K_6⟩
set_option maxRecDepth 100000 in
theorem c_Mo_declare {k : cx_K} {l : Launch} {G : cx_G} {mo : Nat} {P : Nat → Nat} {M : rm_M} {b : Nat × Nat} (hm : rm_R k G mo P M) (hQ : rm_Q b G M) {kd w : Int32} {K : rm_M → Prop} (hK : rp_dcl kd w K M)  : cx_Sp k l m_Mo_declare 4 [.ref mo, .int kd, .int w] G (rp_P0 k mo b G P K) := by
  intro E hE
  have W0 := rm_W.rf hm hQ
  have m0 := hm.1
  have h44 : ∀ (G1 : cx_G) (P1 : Nat → Nat) (M1 : rm_M), rm_W k mo b G P G1 P1 M1 → rp_dl2 kd w K M1 → cx_V E 44 [(0, false, .ref mo), (1, false, .int kd), (2, false, .int w)] [] G1 := by
    intro G1 P1 M1 W1 hK
    have m1 := W1.1.1
    obtain ⟨kk, e18, l18, hK⟩ := hK
    refine cx_aload_n (i := 0) hE d_Mo_declare_44 rfl rfl ?_
    refine cx_get hE d_Mo_declare_45 f_Mo_40 (by assumption) (by rfl) ?_
    refine cx_aload_n (i := 0) hE d_Mo_declare_48 rfl rfl ?_
    refine cx_get hE d_Mo_declare_49 f_Mo_269 (by assumption) (by rfl) ?_
    rw [e18]
    refine cx_aload_n (i := 0) hE d_Mo_declare_52 rfl rfl ?_
    refine cx_get hE d_Mo_declare_53 f_Mo_193 (by assumption) (by rfl) ?_
    refine cx_iast 1 hE d_Mo_declare_56 rfl (W1.1.i 19 rfl) (vp_in_nI (by show _ < 11000; omega) (by show 11000 < 2147483648; omega)) ?_
    rw [nI_clamp (by omega)]
    refine cx_gen (fun G_56 g_56 => ?_)
    have W_56 : rm_W k mo b G P G_56 P1 (rp_set M1 19 kk (M1.1 8)) := W1.si 19 rfl g_56
    have m_56 := W_56.1.1
    refine cx_aload_n (i := 0) hE d_Mo_declare_57 rfl rfl ?_
    refine cx_get hE d_Mo_declare_58 f_Mo_43 (by assumption) (by rfl) ?_
    refine cx_aload_n (i := 0) hE d_Mo_declare_61 rfl rfl ?_
    refine cx_get hE d_Mo_declare_62 f_Mo_269 (by assumption) (by rfl) ?_
    rw [show (rp_set M1 19 kk (M1.1 8)).1 18 = nI kk from e18]
    refine cx_iload_n (i := 2) hE d_Mo_declare_65 rfl rfl ?_
    refine cx_iast 1 hE d_Mo_declare_66 rfl (W_56.1.i 20 rfl) (vp_in_nI (by show _ < 11000; omega) (by show 11000 < 2147483648; omega)) ?_
    rw [nI_clamp (by omega)]
    refine cx_gen (fun G_66 g_66 => ?_)
    have W_66 : rm_W k mo b G P G_66 P1 (rp_set (rp_set M1 19 kk (M1.1 8)) 20 kk w) := W_56.si 20 rfl g_66
    have m_66 := W_66.1.1
    refine cx_aload_n (i := 0) hE d_Mo_declare_67 rfl rfl ?_
    refine cx_get hE d_Mo_declare_68 f_Mo_46 (by assumption) (by rfl) ?_
    refine cx_aload_n (i := 0) hE d_Mo_declare_71 rfl rfl ?_
    refine cx_get hE d_Mo_declare_72 f_Mo_269 (by assumption) (by rfl) ?_
    rw [show (rp_set (rp_set M1 19 kk (M1.1 8)) 20 kk w).1 18 = nI kk from e18]
    refine cx_iload_n (i := 1) hE d_Mo_declare_75 rfl rfl ?_
    refine cx_iast 1 hE d_Mo_declare_76 rfl (W_66.1.i 21 rfl) (vp_in_nI (by show _ < 11000; omega) (by show 11000 < 2147483648; omega)) ?_
    rw [nI_clamp (by omega)]
    refine cx_gen (fun G_76 g_76 => ?_)
    have W_76 : rm_W k mo b G P G_76 P1 (rp_set (rp_set (rp_set M1 19 kk (M1.1 8)) 20 kk w) 21 kk kd) := W_66.si 21 rfl g_76
    have m_76 := W_76.1.1
    refine cx_aload_n (i := 0) hE d_Mo_declare_77 rfl rfl ?_
    refine cx_get hE d_Mo_declare_78 f_Mo_49 (by assumption) (by rfl) ?_
    refine cx_aload_n (i := 0) hE d_Mo_declare_81 rfl rfl ?_
    refine cx_get hE d_Mo_declare_82 f_Mo_269 (by assumption) (by rfl) ?_
    rw [show (rp_set (rp_set (rp_set M1 19 kk (M1.1 8)) 20 kk w) 21 kk kd).1 18 = nI kk from e18]
    refine cx_lconst (v := 0) hE d_Mo_declare_85 (by decide) ?_
    refine cx_last 2 hE d_Mo_declare_86 rfl (W_76.1.l 22 rfl) (vp_in_nI (by show _ < 11000; omega) (by show 11000 < 2147483648; omega)) ?_
    rw [nI_clamp (by omega)]
    refine cx_gen (fun G_86 g_86 => ?_)
    have W_86 : rm_W k mo b G P G_86 P1 (rp_lset (rp_set (rp_set (rp_set M1 19 kk (M1.1 8)) 20 kk w) 21 kk kd) 22 kk 0) := W_76.sl 22 rfl g_86
    have m_86 := W_86.1.1
    refine cx_aload_n (i := 0) hE d_Mo_declare_87 rfl rfl ?_
    refine cx_get hE d_Mo_declare_88 f_Mo_53 (by assumption) (by rfl) ?_
    refine cx_aload_n (i := 0) hE d_Mo_declare_91 rfl rfl ?_
    refine cx_get hE d_Mo_declare_92 f_Mo_269 (by assumption) (by rfl) ?_
    rw [show (rp_lset (rp_set (rp_set (rp_set M1 19 kk (M1.1 8)) 20 kk w) 21 kk kd) 22 kk 0).1 18 = nI kk from e18]
    refine cx_iconst (v := 0) hE d_Mo_declare_95 (by decide) ?_
    refine cx_iast 1 hE d_Mo_declare_96 rfl (W_86.1.i 23 rfl) (vp_in_nI (by show _ < 11000; omega) (by show 11000 < 2147483648; omega)) ?_
    rw [nI_clamp (by omega)]
    refine cx_gen (fun G_96 g_96 => ?_)
    have W_96 : rm_W k mo b G P G_96 P1 (rp_set (rp_lset (rp_set (rp_set (rp_set M1 19 kk (M1.1 8)) 20 kk w) 21 kk kd) 22 kk 0) 23 kk 0) := W_86.si 23 rfl g_96
    have m_96 := W_96.1.1
    refine cx_aload_n (i := 0) hE d_Mo_declare_97 rfl rfl ?_
    refine cx_get hE d_Mo_declare_98 f_Mo_62 (by assumption) (by rfl) ?_
    refine cx_aload_n (i := 0) hE d_Mo_declare_101 rfl rfl ?_
    refine cx_get hE d_Mo_declare_102 f_Mo_269 (by assumption) (by rfl) ?_
    rw [show (rp_set (rp_lset (rp_set (rp_set (rp_set M1 19 kk (M1.1 8)) 20 kk w) 21 kk kd) 22 kk 0) 23 kk 0).1 18 = nI kk from e18]
    refine cx_iconst (v := 0) hE d_Mo_declare_105 (by decide) ?_
    refine cx_iast 1 hE d_Mo_declare_106 rfl (W_96.1.i 26 rfl) (vp_in_nI (by show _ < 11000; omega) (by show 11000 < 2147483648; omega)) ?_
    rw [nI_clamp (by omega)]
    refine cx_gen (fun G_106 g_106 => ?_)
    have W_106 : rm_W k mo b G P G_106 P1 (rp_set (rp_set (rp_lset (rp_set (rp_set (rp_set M1 19 kk (M1.1 8)) 20 kk w) 21 kk kd) 22 kk 0) 23 kk 0) 26 kk 0) := W_96.si 26 rfl g_106
    have m_106 := W_106.1.1
    refine cx_aload_n (i := 0) hE d_Mo_declare_107 rfl rfl ?_
    refine cx_dup hE d_Mo_declare_108 ?_
    refine cx_get hE d_Mo_declare_109 f_Mo_269 (by assumption) (by rfl) ?_
    rw [show (rp_set (rp_set (rp_lset (rp_set (rp_set (rp_set M1 19 kk (M1.1 8)) 20 kk w) 21 kk kd) 22 kk 0) 23 kk 0) 26 kk 0).1 18 = nI kk from e18]
    refine cx_iconst (v := 1) hE d_Mo_declare_112 (by decide) ?_
    refine cx_iadd hE d_Mo_declare_113 ?_
    rw [nI_1]
    refine cx_putg hE d_Mo_declare_114 f_Mo_269 (by assumption) (Nat.le_of_ble_eq_true rfl) (by first | rfl | exact cx_nr _ _) (by first | rfl | exact cx_fr _ _) (fun G_114 g_114 h_114 => ?_)
    rw [rm_s18] at g_114
    clear h_114
    have W_114 : rm_W k mo b G P G_114 P1 (rp_int (rp_set (rp_set (rp_lset (rp_set (rp_set (rp_set M1 19 kk (M1.1 8)) 20 kk w) 21 kk kd) 22 kk 0) 23 kk 0) 26 kk 0) 18 (nI (kk + 1))) := W_106.pi g_114
    have m_114 := W_114.1.1
    refine cx_aload_n (i := 0) hE d_Mo_declare_117 rfl rfl ?_
    refine cx_dup hE d_Mo_declare_118 ?_
    refine cx_get hE d_Mo_declare_119 f_Mo_193 (by assumption) (by rfl) ?_
    refine cx_iconst (v := 1) hE d_Mo_declare_122 (by decide) ?_
    refine cx_iadd hE d_Mo_declare_123 ?_
    refine cx_putg hE d_Mo_declare_124 f_Mo_193 (by assumption) (Nat.le_of_ble_eq_true rfl) (by first | rfl | exact cx_nr _ _) (by first | rfl | exact cx_fr _ _) (fun G_124 g_124 h_124 => ?_)
    rw [rm_s8] at g_124
    clear h_124
    have W_124 : rm_W k mo b G P G_124 P1 (rp_dc M1 kk kd w) := W_114.pi g_124
    have m_124 := W_124.1.1
    refine cx_aload_n (i := 0) hE d_Mo_declare_127 rfl rfl ?_
    refine cx_bipush (v := 61) hE d_Mo_declare_128 (by decide) ?_
    refine cx_wR hE d_Mo_declare_130 l_Mo_203 W_124 (s_is W_124.1 hK) rfl (by omega) (Nat.le_of_ble_eq_true rfl) n_Mo_is (by first | rfl | (simp only [List.map_cons, List.map_nil, cx_rfc]; rfl)) (fun v_130 K_130 => ?_)
    obtain ⟨b_130, rfl, K_130⟩ := K_130
    refine cx_if_eq (tgt := 202)  hE d_Mo_declare_133 (by decide) (fun c_133 => ?_) (fun c_133 => ?_)
    · have K_133 := rp_ifn K_130 (by rw [cx_b0.mp c_133]; decide)
      refine cx_vret hE d_Mo_declare_202 rfl ?_
      exact ⟨_, _, rfl, W_124, K_133⟩
    · have K_133 := rp_ifp K_130 (cx_bn.mp c_133)
      refine cx_aload_n (i := 0) hE d_Mo_declare_136 rfl rfl ?_
      refine cx_dup hE d_Mo_declare_137 ?_
      refine cx_get hE d_Mo_declare_138 f_Mo_193 (by assumption) (by rfl) ?_
      refine cx_iconst (v := 1) hE d_Mo_declare_141 (by decide) ?_
      refine cx_iadd hE d_Mo_declare_142 ?_
      refine cx_putg hE d_Mo_declare_143 f_Mo_193 (by assumption) (Nat.le_of_ble_eq_true rfl) (by first | rfl | exact cx_nr _ _) (by first | rfl | exact cx_fr _ _) (fun G_143 g_143 h_143 => ?_)
      rw [rm_s8] at g_143
      clear h_143
      have W_143 : rm_W k mo b G P G_143 P1 (rp_i (rp_dc M1 kk kd w) 1) := W_124.pi g_143
      have m_143 := W_143.1.1
      refine cx_aload_n (i := 0) hE d_Mo_declare_146 rfl rfl ?_
      refine cx_aload_n (i := 0) hE d_Mo_declare_147 rfl rfl ?_
      refine cx_get hE d_Mo_declare_148 f_Mo_193 (by assumption) (by rfl) ?_
      refine cx_wR hE d_Mo_declare_151 l_Mo_324 W_143 (s_wid W_143.1 K_133) rfl (by omega) (Nat.le_of_ble_eq_true rfl) n_Mo_widthOfNumber (by first | rfl | (simp only [List.map_cons, List.map_nil, cx_rfc]; rfl)) (fun v_151 K_151 => ?_)
      obtain ⟨i_151, e_151, l_151, K_151b⟩ := K_151
      have q18 : (if v_151 = w then (rp_i (rp_dc M1 kk kd w) 1) else rm_fail 30 ((rp_i (rp_dc M1 kk kd w) 1).2.1 5 i_151) (rp_i (rp_dc M1 kk kd w) 1)).1 18 = nI (kk + 1) := by
        split
        · rfl
        · exact (rx_o.fail _ _ _).1 18 (by decide) (by decide) (by decide) (by decide)
      have q8 : (if v_151 = w then (rp_i (rp_dc M1 kk kd w) 1) else rm_fail 30 ((rp_i (rp_dc M1 kk kd w) 1).2.1 5 i_151) (rp_i (rp_dc M1 kk kd w) 1)).1 8 = (rp_i (rp_dc M1 kk kd w) 1).1 8 := by
        split
        · rfl
        · unfold rm_fail
          split <;> rfl
      have h173 : ∀ (G2 : cx_G) (P2 : Nat → Nat), rm_W k mo b G P G2 P2 (if v_151 = w then (rp_i (rp_dc M1 kk kd w) 1) else rm_fail 30 ((rp_i (rp_dc M1 kk kd w) 1).2.1 5 i_151) (rp_i (rp_dc M1 kk kd w) 1)) → cx_V E 173 [(0, false, .ref mo), (1, false, .int kd), (2, false, .int w)] [] G2 := by
        intro G2 P2 W2
        have m2 := W2.1.1
        refine cx_aload_n (i := 0) hE d_Mo_declare_173 rfl rfl ?_
        refine cx_get hE d_Mo_declare_174 f_Mo_49 (by assumption) (by rfl) ?_
        refine cx_aload_n (i := 0) hE d_Mo_declare_177 rfl rfl ?_
        refine cx_get hE d_Mo_declare_178 f_Mo_269 (by assumption) (by rfl) ?_
        rw [q18]
        refine cx_iconst (v := 1) hE d_Mo_declare_181 (by decide) ?_
        refine cx_isub hE d_Mo_declare_182 ?_
        rw [nI_pred]
        refine cx_aload_n (i := 0) hE d_Mo_declare_183 rfl rfl ?_
        refine cx_aload_n (i := 0) hE d_Mo_declare_184 rfl rfl ?_
        refine cx_get hE d_Mo_declare_185 f_Mo_193 (by assumption) (by rfl) ?_
        rw [q8]
        refine cx_invV hE d_Mo_declare_188 l_Mo_316 W2.1.1 (s_numP W2.1 W2.2.2 K_151b) rfl (by omega) (Nat.le_of_ble_eq_true rfl) n_Mo_numberOf (by first | rfl | (simp only [List.map_cons, List.map_nil, cx_rfc]; rfl)) (fun v_ G_188 q_188 => ?_) (fun a G' q => by obtain ⟨v, M', q1, _⟩ := q; cases q1)
        obtain ⟨v_188, M_188, q1_188, W_188, K_188⟩ := q_188
        cases q1_188
        have W_188 := W2.tr W_188
        have m_188 := W_188.1.1
        refine cx_last 2 hE d_Mo_declare_191 rfl (W_188.1.l 22 rfl) (vp_in_nI (by show _ < 11000; omega) (by show 11000 < 2147483648; omega)) ?_
        rw [nI_clamp (by omega)]
        refine cx_gen (fun G_191 g_191 => ?_)
        have W_191 : rm_W k mo b G P G_191 P2 (rp_lset M_188 22 kk v_188) := W_188.sl 22 rfl g_191
        have m_191 := W_191.1.1
        refine cx_aload_n (i := 0) hE d_Mo_declare_192 rfl rfl ?_
        refine cx_dup hE d_Mo_declare_193 ?_
        refine cx_get hE d_Mo_declare_194 f_Mo_193 (by assumption) (by rfl) ?_
        refine cx_iconst (v := 1) hE d_Mo_declare_197 (by decide) ?_
        refine cx_iadd hE d_Mo_declare_198 ?_
        refine cx_putg hE d_Mo_declare_199 f_Mo_193 (by assumption) (Nat.le_of_ble_eq_true rfl) (by first | rfl | exact cx_nr _ _) (by first | rfl | exact cx_fr _ _) (fun G_199 g_199 h_199 => ?_)
        rw [rm_s8] at g_199
        clear h_199
        have W_199 : rm_W k mo b G P G_199 P2 (rp_i (rp_lset M_188 22 kk v_188) 1) := W_191.pi g_199
        have m_199 := W_199.1.1
        refine cx_vret hE d_Mo_declare_202 rfl ?_
        exact ⟨_, _, rfl, W_199, K_188⟩
      refine cx_iload_n (i := 2) hE d_Mo_declare_154 rfl rfl ?_
      refine cx_icmp_eq (tgt := 173)  hE d_Mo_declare_155 (by decide) (fun c_155 => ?_) (fun c_155 => ?_)
      · refine cx_sub [0, 1, 2] rfl ?_
        exact h173 _ _ (by rw [if_pos c_155]; exact W_143)
      · refine cx_aload_n (i := 0) hE d_Mo_declare_158 rfl rfl ?_
        refine cx_bipush (v := 30) hE d_Mo_declare_159 (by decide) ?_
        refine cx_aload_n (i := 0) hE d_Mo_declare_161 rfl rfl ?_
        refine cx_get hE d_Mo_declare_162 f_Mo_19 (by assumption) (by rfl) ?_
        refine cx_aload_n (i := 0) hE d_Mo_declare_165 rfl rfl ?_
        refine cx_get hE d_Mo_declare_166 f_Mo_193 (by assumption) (by rfl) ?_
        rw [e_151]
        refine cx_iald 1 hE d_Mo_declare_169 rfl (W_143.1.i 5 rfl) (vp_in_nI (by show _ < 65540; omega) (by show 65540 < 2147483648; omega)) ?_
        rw [nI_clamp (by omega)]
        refine cx_w0 hE d_Mo_declare_170 l_Mo_196 W_143 (s_fail (K := fun Mq9 => Mq9 = rm_fail _ _ (rp_i (rp_dc M1 kk kd w) 1)) W_143.1 W_143.2.2 rfl) rfl (by omega) (Nat.le_of_ble_eq_true rfl) n_Mo_fail (by first | rfl | (simp only [List.map_cons, List.map_nil, cx_rfc]; rfl)) (fun G_170 P_170 M_170 W_170 K_170 => ?_)
        have m_170 := W_170.1.1
        refine cx_sub [0, 1, 2] rfl ?_
        exact h173 _ _ (by rw [if_neg c_155]; subst K_170; exact W_170)
  refine cx_aload_n (i := 0) hE d_Mo_declare_0 rfl rfl ?_
  refine cx_get hE d_Mo_declare_1 f_Mo_187 (by assumption) (by rfl) ?_
  refine cx_if_ne (tgt := 44)  hE d_Mo_declare_4 (by decide) (fun c_4 => ?_) (fun c_4 => ?_)
  · refine cx_sub [0, 1, 2] rfl ?_
    exact h44 _ _ _ W0 (rp_ifn hK c_4)
  · have K_4 := rp_ifp hK c_4
    refine cx_aload_n (i := 0) hE d_Mo_declare_7 rfl rfl ?_
    refine cx_aload_n (i := 0) hE d_Mo_declare_8 rfl rfl ?_
    refine cx_get hE d_Mo_declare_9 f_Mo_193 (by assumption) (by rfl) ?_
    refine cx_wR hE d_Mo_declare_12 l_Mo_330 W0 (s_here W0.1 K_4) rfl (by omega) (Nat.le_of_ble_eq_true rfl) n_Mo_here (by first | rfl | (simp only [List.map_cons, List.map_nil, cx_rfc]; rfl)) (fun v_12 K_12 => ?_)
    refine cx_if_ge (tgt := 29)  hE d_Mo_declare_15 (by decide) (fun c_15 => ?_) (fun c_15 => ?_)
    · have K_15 := rp_ifp K_12 c_15
      obtain ⟨i_bg, e_bg, l_bg, K_bg⟩ := K_15
      rw [if_pos rfl] at K_bg
      refine cx_aload_n (i := 0) hE d_Mo_declare_29 rfl rfl ?_
      refine cx_bipush (v := 21) hE d_Mo_declare_30 (by decide) ?_
      refine cx_aload_n (i := 0) hE d_Mo_declare_32 rfl rfl ?_
      refine cx_get hE d_Mo_declare_33 f_Mo_19 (by assumption) (by rfl) ?_
      refine cx_aload_n (i := 0) hE d_Mo_declare_36 rfl rfl ?_
      refine cx_get hE d_Mo_declare_37 f_Mo_193 (by assumption) (by rfl) ?_
      rw [e_bg]
      refine cx_iald 1 hE d_Mo_declare_40 rfl (W0.1.i 5 rfl) (vp_in_nI (by show _ < 65540; omega) (by show 65540 < 2147483648; omega)) ?_
      rw [nI_clamp (by omega)]
      refine cx_w0 hE d_Mo_declare_41 l_Mo_196 W0 (s_fail W0.1 W0.2.2 K_bg) rfl (by omega) (Nat.le_of_ble_eq_true rfl) n_Mo_fail (by first | rfl | (simp only [List.map_cons, List.map_nil, cx_rfc]; rfl)) (fun G_41 P_41 M_41 W_41 K_41 => ?_)
      have m_41 := W_41.1.1
      refine cx_sub [0, 1, 2] rfl ?_
      exact h44 _ _ _ W_41 K_41
    · have K_15 := rp_ifn K_12 c_15
      refine cx_aload_n (i := 0) hE d_Mo_declare_18 rfl rfl ?_
      refine cx_aload_n (i := 0) hE d_Mo_declare_19 rfl rfl ?_
      refine cx_get hE d_Mo_declare_20 f_Mo_193 (by assumption) (by rfl) ?_
      refine cx_wR hE d_Mo_declare_23 l_Mo_338 W0 (s_inm W0.1 K_15) rfl (by omega) (Nat.le_of_ble_eq_true rfl) n_Mo_isInstanceName (by first | rfl | (simp only [List.map_cons, List.map_nil, cx_rfc]; rfl)) (fun v_23 K_23 => ?_)
      obtain ⟨b_23, rfl, K_23⟩ := K_23
      refine cx_if_eq (tgt := 44)  hE d_Mo_declare_26 (by decide) (fun c_26 => ?_) (fun c_26 => ?_)
      · refine cx_sub [0, 1, 2] rfl ?_
        obtain ⟨i_bg, e_bg, l_bg, K_bg⟩ := K_23
        rw [cx_b0.mp c_26, if_neg (by decide)] at K_bg
        exact h44 _ _ _ W0 K_bg
      · obtain ⟨i_bg, e_bg, l_bg, K_bg⟩ := K_23
        rw [cx_bn.mp c_26, if_pos rfl] at K_bg
        refine cx_aload_n (i := 0) hE d_Mo_declare_29 rfl rfl ?_
        refine cx_bipush (v := 21) hE d_Mo_declare_30 (by decide) ?_
        refine cx_aload_n (i := 0) hE d_Mo_declare_32 rfl rfl ?_
        refine cx_get hE d_Mo_declare_33 f_Mo_19 (by assumption) (by rfl) ?_
        refine cx_aload_n (i := 0) hE d_Mo_declare_36 rfl rfl ?_
        refine cx_get hE d_Mo_declare_37 f_Mo_193 (by assumption) (by rfl) ?_
        rw [e_bg]
        refine cx_iald 1 hE d_Mo_declare_40 rfl (W0.1.i 5 rfl) (vp_in_nI (by show _ < 65540; omega) (by show 65540 < 2147483648; omega)) ?_
        rw [nI_clamp (by omega)]
        refine cx_w0 hE d_Mo_declare_41 l_Mo_196 W0 (s_fail W0.1 W0.2.2 K_bg) rfl (by omega) (Nat.le_of_ble_eq_true rfl) n_Mo_fail (by first | rfl | (simp only [List.map_cons, List.map_nil, cx_rfc]; rfl)) (fun G_41 P_41 M_41 W_41 K_41 => ?_)
        have m_41 := W_41.1.1
        refine cx_sub [0, 1, 2] rfl ?_
        exact h44 _ _ _ W_41 K_41

/-! THE REFERENCE: a number's value and width; all tokens. -/
section RMV
variable {n p : Nat} {f : Nat → Int32}
/-- a token that is a number: what its digits say -/
theorem rm_num (hk : (tx_tok n (tx_at n f) p).1 = 20 ∨ (tx_tok n (tx_at n f) p).1 = 21) : p < n ∧ tx_dig (tx_at n f p) = true ∧ ∃ m, rm_de n (tx_at n f) p = p + m ∧ p + m ≤ n ∧
    ((tx_tok n (tx_at n f) p).1 = 20 → (tx_tok n (tx_at n f) p).2.2.1 = p + m ∧ tx_szW (tx_at n f) p m < 65536 ∧ (tx_tok n (tx_at n f) p).2.2.2.2.2 = lN (tx_szW (tx_at n f) p m)) ∧
    ((tx_tok n (tx_at n f) p).1 = 21 → tx_at n f (p + m) = 39 ∧ (tx_tok n (tx_at n f) p).2.2.1 = rm_ne n (tx_at n f) p ∧ tx_sz (tx_at n f) p m (rm_ne n (tx_at n f) p) ∧ rm_ne n (tx_at n f) p ≤ n ∧ (tx_tok n (tx_at n f) p).2.2.2.2.1 = nI (tx_szW (tx_at n f) p m) ∧ (tx_tok n (tx_at n f) p).2.2.2.2.2 = lN (tx_szV (tx_at n f) (p + m) (rm_ne n (tx_at n f) p))) := by
  have hp : p < n := by
    rcases Nat.lt_or_ge p n with z | z
    · exact z
    · rw [tx_tok22 z] at hk
      rcases hk with z | z <;> exact absurd z (by decide)
  have hd : tx_dig (tx_at n f p) = true := by
    cases z : tx_dig (tx_at n f p) with
    | true => rfl
    | false =>
      exfalso
      have e : ∀ x : tx_Tk, tx_tok n (tx_at n f) p = x → x.1 = 20 ∨ x.1 = 21 := fun x hx => by rw [← hx]; exact hk
      unfold tx_tok at hk
      rw [if_neg (rm_c1 hp), if_neg (by rw [z]; decide)] at hk
      by_cases y : tx_let (tx_at n f p) = true ∨ tx_at n f p = 95
      · rw [if_pos y] at hk
        have h1 := tx_kwi_le (tx_tx (tx_at n f) p (tx_q n (tx_at n f) p))
        have h2 : nI (tx_kwi (tx_tx (tx_at n f) p (tx_q n (tx_at n f) p)) + 1) = nI 20 ∨ nI (tx_kwi (tx_tx (tx_at n f) p (tx_q n (tx_at n f) p)) + 1) = nI 21 := hk
        rw [nI_eq (by omega) (by omega), nI_eq (by omega) (by omega)] at h2
        omega
      · rw [if_neg y] at hk
        have h3 : tx_sgk (tx_at n f p) (tx_at n f (p + 1)) = 20 ∨ tx_sgk (tx_at n f p) (tx_at n f (p + 1)) = 21 := hk
        unfold tx_sgk at h3
        by_cases w : tx_pf (tx_at n f p) (tx_at n f (p + 1)) 8 0 = true
        · rw [if_pos w] at h3
          have h4 := ((rm_pf _ _).1 w).2
          have h5 : ∀ q ∈ rm_kl, (q.1 = 20 ∨ q.1 = 21) → q.2 = 401 ∨ q.2 = 402 := by decide
          have h6 : rm_pair (tx_at n f p) (tx_at n f (p + 1)) = 401 ∨ rm_pair (tx_at n f p) (tx_at n f (p + 1)) = 402 := h5 _ h4 h3
          unfold rm_pair at h6
          revert h6
          repeat' split
          all_goals decide
        · rw [if_neg w] at h3
          by_cases v : 0 ≤ (cx_ix 3 (tx_at n f p)).toInt
          · rw [if_pos v] at h3
            obtain ⟨ch, hch, hc⟩ := tx_ch f hp
            rw [hc] at v h3
            have h5 := rm_sgK ch hch (decide_eq_true v)
            have h6 : ∀ q ∈ rm_kl, (q.1 = 20 ∨ q.1 = 21) → ¬ q.1 = q.2 := by decide
            exact h6 _ h5 h3 rfl
          · rw [if_neg v] at h3
            rcases h3 with z | z <;> exact absurd z (by decide)
  refine ⟨hp, hd, rm_de n (tx_at n f) p - p, ?_⟩
  have hx := (tx_e_le (P := rm_dP n (tx_at n f)) (n := n) rm_dP_n p)
  have h : rm_de n (tx_at n f) p = p + (rm_de n (tx_at n f) p - p) := by unfold rm_de; omega
  generalize rm_de n (tx_at n f) p - p = m at h
  refine ⟨h, (rm_de_all h).2.2.2 (by omega), fun k20 => ?_, fun k21 => ?_⟩
  · by_cases hc : tx_at n f (p + m) = 39
    · have q := rm_tokS hp hd h hc
      by_cases z : tx_sz (tx_at n f) p m (rm_ne n (tx_at n f) p)
      · rw [q.1 z] at k20; exact absurd (show (21 : Int32) = 20 from k20) (by decide)
      · rw [q.2 z] at k20; exact absurd (show (23 : Int32) = 20 from k20) (by decide)
    · by_cases he : rm_ne n (tx_at n f) p = p + m
      · have q := rm_tokP hp hd h hc he
        have hv := rm_decv h
        by_cases z : tx_szW (tx_at n f) p m < 65536
        · rw [q]
          refine ⟨rfl, z, ?_⟩
          show (tx_dec (tx_at n f) p m 65535).toInt64 = _
          rw [(hv.1 z).1, nI_l (by omega)]
        · rw [q, if_pos (hv.2 z)] at k20; exact absurd (show (23 : Int32) = 20 from k20) (by decide)
      · rw [rm_tokB hp hd h hc he] at k20; exact absurd k20 (by decide)
  · by_cases hc : tx_at n f (p + m) = 39
    · have q := rm_tokS hp hd h hc
      by_cases z : tx_sz (tx_at n f) p m (rm_ne n (tx_at n f) p)
      · rw [q.1 z]
        exact ⟨hc, rfl, z, (rm_nkA h hc).2.2.2 (by omega), rfl, rfl⟩
      · rw [q.2 z] at k21; exact absurd (show (23 : Int32) = 21 from k21) (by decide)
    · by_cases he : rm_ne n (tx_at n f) p = p + m
      · have q := rm_tokP hp hd h hc he
        rw [q] at k21
        have k21' : (if tx_dec (tx_at n f) p m 65535 = -1 then (23 : Int32) else 20) = 21 := k21
        split at k21' <;> exact absurd k21' (by decide)
      · rw [rm_tokB hp hd h hc he] at k21; exact absurd k21 (by decide)
end RMV
set_option maxRecDepth 100000 in
theorem c_Mo_widthOfNumber {k : cx_K} {l : Launch} {G : cx_G} {mo : Nat} {P : Nat → Nat} {M : rm_M} (hm : rm_R k G mo P M) {n : Nat} (hn : M.1 2 = nI n) (hn6 : n ≤ 65536) {p i : Nat} (hb : M.2.1 5 i = nI p) (hi : i < 65540) (hk : (tx_tok n (tx_at n (M.2.1 53)) p).1 = 21)  : cx_Sp k l m_Mo_widthOfNumber 1 [.ref mo, .int (nI i)] G (cx_rd (some (.int (tx_tok n (tx_at n (M.2.1 53)) p).2.2.2.2.1)) G) := by
  intro E hE
  have hmo := hm.1
  have h5 := hm.i 5 rfl
  have h6 := hm.i 6 rfl
  obtain ⟨hp, hd, m, hm9, hmn, -, h21⟩ := rm_num (Or.inr hk)
  obtain ⟨hc, -, hsz, -, hw, -⟩ := h21 hk
  have hall := rm_de_all hm9
  have hloop : ∀ (d t : Nat), m - t = d → t ≤ m → cx_V E 9 [(3, false, .int (nI (tx_val (fun i => tx_dg ((tx_at n (M.2.1 53)) i)) 10 p t))), (2, false, .int (nI (p + t))), (0, false, .ref mo), (1, false, .int (nI i))] [] G := by
    intro d
    induction d using Nat.strongRecOn with
    | ind d ih =>
      intro t hd1 ht
      refine cx_aload_n (i := 0) hE d_Mo_widthOfNumber_9 rfl rfl ?_
      refine cx_iload_n (i := 2) hE d_Mo_widthOfNumber_10 rfl rfl ?_
      refine cx_invV1 hE d_Mo_widthOfNumber_11 l_Mo_136 (by assumption) (c_Mo_at (p := p + t) hm hn hn6 (by omega)) rfl (by omega) (Nat.le_of_ble_eq_true rfl) n_Mo_at (by first | rfl | (simp only [List.map_cons, List.map_nil, cx_rfc]; rfl)) ?_
      refine cx_invS1 hE d_Mo_widthOfNumber_14 l_Mo_133 (c_Mo_isDigit ((tx_at n (M.2.1 53)) (p + t))) rfl (by omega) (Nat.le_of_ble_eq_true rfl) n_Mo_isDigit (by first | rfl | (simp only [List.map_cons, List.map_nil, cx_rfc]; rfl)) ?_
      refine cx_if_eq (tgt := 40)  hE d_Mo_widthOfNumber_17 (by decide) (fun c_17 => ?_) (fun c_17 => ?_)
      · have q_17 := cx_b0.mp c_17
        have q_t : t = m := by
          rcases Nat.lt_or_ge t m with z | z
          · have := hall.2.2.1 (p + t) (by omega) (by omega)
            rw [q_17] at this
            cases this
          · omega
        refine cx_iload_n (i := 3) hE d_Mo_widthOfNumber_40 rfl rfl ?_
        refine cx_iret hE d_Mo_widthOfNumber_41 rfl rfl ?_
        refine ⟨?_, rfl⟩
        rw [hw, q_t]
        rfl
      · have q_17 := cx_bn.mp c_17
        have q_t : t < m := by
          rcases Nat.lt_or_ge t m with z | z
          · exact z
          · have e : t = m := by omega
            rw [e, hall.2.1] at q_17
            cases q_17
        refine cx_iload_n (i := 3) hE d_Mo_widthOfNumber_20 rfl rfl ?_
        refine cx_bipush (v := 10) hE d_Mo_widthOfNumber_21 (by decide) ?_
        refine cx_imul hE d_Mo_widthOfNumber_23 ?_
        refine cx_aload_n (i := 0) hE d_Mo_widthOfNumber_24 rfl rfl ?_
        refine cx_iload_n (i := 2) hE d_Mo_widthOfNumber_25 rfl rfl ?_
        refine cx_invV1 hE d_Mo_widthOfNumber_26 l_Mo_136 (by assumption) (c_Mo_at (p := p + t) hm hn hn6 (by omega)) rfl (by omega) (Nat.le_of_ble_eq_true rfl) n_Mo_at (by first | rfl | (simp only [List.map_cons, List.map_nil, cx_rfc]; rfl)) ?_
        refine cx_iadd hE d_Mo_widthOfNumber_29 ?_
        refine cx_bipush (v := 48) hE d_Mo_widthOfNumber_30 (by decide) ?_
        refine cx_isub hE d_Mo_widthOfNumber_32 ?_
        have q_d := tx_dg_nI q_17
        have q_s : nI (tx_val (fun i => tx_dg ((tx_at n (M.2.1 53)) i)) 10 p t) * 10 + (tx_at n (M.2.1 53)) (p + t) - 48 = nI (tx_val (fun i => tx_dg ((tx_at n (M.2.1 53)) i)) 10 p (t + 1)) := by
          rw [q_d.1]
          show nI (tx_val (fun i => tx_dg ((tx_at n (M.2.1 53)) i)) 10 p t) * nI 10 + nI _ - nI 48 = _
          rw [pk_mul, nI_add, pk_sub (by omega)]
          show _ = nI (tx_val (fun i => tx_dg ((tx_at n (M.2.1 53)) i)) 10 p t * 10 + tx_dg ((tx_at n (M.2.1 53)) (p + t)))
          congr 1
        rw [q_s]
        refine cx_istore_n (i := 3) hE d_Mo_widthOfNumber_33 rfl (by decide) ?_
        refine cx_iinc (v := nI (p + (t + 1))) hE d_Mo_widthOfNumber_34 rfl (nI_1 _) (by decide) ?_
        refine cx_goto (tgt := 9) hE d_Mo_widthOfNumber_37 (by decide) ?_
        refine cx_sub [1, 0, 2, 3] rfl ?_
        exact ih (m - (t + 1)) (by omega) (t + 1) rfl (by omega)
  refine cx_aload_n (i := 0) hE d_Mo_widthOfNumber_0 rfl rfl ?_
  refine cx_get hE d_Mo_widthOfNumber_1 f_Mo_19 (by assumption) (by rfl) ?_
  refine cx_iload_n (i := 1) hE d_Mo_widthOfNumber_4 rfl rfl ?_
  refine cx_iald 1 hE d_Mo_widthOfNumber_5 rfl (by assumption) (vp_in_nI (by show _ < 65540; omega) (by show 65540 < 2147483648; omega)) ?_
  rw [nI_clamp (by omega), hb]
  refine cx_istore_n (i := 2) hE d_Mo_widthOfNumber_6 rfl (by decide) ?_
  refine cx_iconst (v := 0) hE d_Mo_widthOfNumber_7 (by decide) ?_
  refine cx_istore_n (i := 3) hE d_Mo_widthOfNumber_8 rfl (by decide) ?_
  refine cx_sub [0, 1, 2, 3] rfl ?_
  exact hloop m 0 rfl (by omega)
set_option maxRecDepth 100000 in
theorem c_Mo_numberOf {k : cx_K} {l : Launch} {G : cx_G} {mo : Nat} {P : Nat → Nat} {M : rm_M} (hm : rm_R k G mo P M) {n : Nat} (hn : M.1 2 = nI n) (hn6 : n ≤ 65536) {p e i : Nat} (hb : M.2.1 5 i = nI p) (he : M.2.1 6 i = nI e) (hi : i < 65540) (hk : (tx_tok n (tx_at n (M.2.1 53)) p).1 = 20 ∨ (tx_tok n (tx_at n (M.2.1 53)) p).1 = 21) (hee : (tx_tok n (tx_at n (M.2.1 53)) p).2.2.1 = e)  : cx_Sp k l m_Mo_numberOf 3 [.ref mo, .int (nI i)] G (rm_q5 k G mo P (.long (tx_tok n (tx_at n (M.2.1 53)) p).2.2.2.2.2) M) := by
  intro E hE
  have hmo := hm.1
  have h5 := hm.i 5 rfl
  have h6 := hm.i 6 rfl
  obtain ⟨hp, hd, m, hm9, hmn, h20, h21⟩ := rm_num hk
  have hall := rm_de_all hm9
  have h24 : cx_V E 24 [(2, false, .int (nI (p + m))), (0, false, .ref mo), (1, false, .int (nI i))] [] G := by
    refine cx_iload_n (i := 2) hE d_Mo_numberOf_24 rfl rfl ?_
    refine cx_aload_n (i := 0) hE d_Mo_numberOf_25 rfl rfl ?_
    refine cx_get hE d_Mo_numberOf_26 f_Mo_22 (by assumption) (by rfl) ?_
    refine cx_iload_n (i := 1) hE d_Mo_numberOf_29 rfl rfl ?_
    refine cx_iald 1 hE d_Mo_numberOf_30 rfl (by assumption) (vp_in_nI (by show _ < 65540; omega) (by show 65540 < 2147483648; omega)) ?_
    rw [nI_clamp (by omega), he]
    refine cx_icmp_ne (tgt := 50)  hE d_Mo_numberOf_31 (by decide) (fun c_31 => ?_) (fun c_31 => ?_)
    · have q_31 : (tx_tok n (tx_at n (M.2.1 53)) p).1 = 21 := hk.elim (fun z => absurd (by rw [(h20 z).1] at hee; rw [← hee]) c_31) id
      have h21 := h21 q_31
      subst hee
      refine cx_aload_n (i := 0) hE d_Mo_numberOf_50 rfl rfl ?_
      refine cx_iload_n (i := 2) hE d_Mo_numberOf_51 rfl rfl ?_
      refine cx_iconst (v := 1) hE d_Mo_numberOf_52 (by decide) ?_
      refine cx_iadd hE d_Mo_numberOf_53 ?_
      show cx_V E _ _ (.int (nI (p + m) + 1) :: _) G
      rw [nI_1]
      refine cx_invV1 hE d_Mo_numberOf_54 l_Mo_136 (by assumption) (c_Mo_at (p := p + m + 1) hm hn hn6 (by omega)) rfl (by omega) (Nat.le_of_ble_eq_true rfl) n_Mo_at (by first | rfl | (simp only [List.map_cons, List.map_nil, cx_rfc]; rfl)) ?_
      refine cx_istore_n (i := 3) hE d_Mo_numberOf_57 rfl (by decide) ?_
      refine cx_aload_n (i := 0) hE d_Mo_numberOf_58 rfl rfl ?_
      refine cx_iload_n (i := 2) hE d_Mo_numberOf_59 rfl rfl ?_
      refine cx_iconst (v := 2) hE d_Mo_numberOf_60 (by decide) ?_
      refine cx_iadd hE d_Mo_numberOf_61 ?_
      show cx_V E _ _ (.int (nI (p + m) + nI 2) :: _) G
      rw [nI_add (p + m) 2]
      refine cx_aload_n (i := 0) hE d_Mo_numberOf_62 rfl rfl ?_
      refine cx_get hE d_Mo_numberOf_63 f_Mo_22 (by assumption) (by rfl) ?_
      refine cx_iload_n (i := 1) hE d_Mo_numberOf_66 rfl rfl ?_
      refine cx_iald 1 hE d_Mo_numberOf_67 rfl (by assumption) (vp_in_nI (by show _ < 65540; omega) (by show 65540 < 2147483648; omega)) ?_
      rw [nI_clamp (by omega), he]
      refine cx_iload_n (i := 3) hE d_Mo_numberOf_68 rfl rfl ?_
      refine cx_bipush (v := 98) hE d_Mo_numberOf_69 (by decide) ?_
      refine cx_icmp_ne (tgt := 78)  hE d_Mo_numberOf_71 (by decide) (fun c_71 => ?_) (fun c_71 => ?_)
      · refine cx_iload_n (i := 3) hE d_Mo_numberOf_78 rfl rfl ?_
        refine cx_bipush (v := 111) hE d_Mo_numberOf_79 (by decide) ?_
        refine cx_icmp_ne (tgt := 89)  hE d_Mo_numberOf_81 (by decide) (fun c_81 => ?_) (fun c_81 => ?_)
        · refine cx_iload_n (i := 3) hE d_Mo_numberOf_89 rfl rfl ?_
          refine cx_bipush (v := 100) hE d_Mo_numberOf_90 (by decide) ?_
          refine cx_icmp_ne (tgt := 100)  hE d_Mo_numberOf_92 (by decide) (fun c_92 => ?_) (fun c_92 => ?_)
          · have q_bs : (tx_bs ((tx_at n (M.2.1 53)) (p + m + 1))) = 16 := by
              have q := h21.2.2.1.2.2.2.1
              unfold tx_bs at q ⊢
              rw [if_neg c_71, if_neg c_81, if_neg c_92] at q ⊢
              split at q
              · rename_i z; rw [if_pos z]
              · exact absurd rfl q
            refine cx_bipush (v := 16) hE d_Mo_numberOf_100 (by decide) ?_
            refine cx_bipush (v := 64) hE d_Mo_numberOf_102 (by decide) ?_
            rw [h21.2.1] at *
            have q_bb := tx_bs_le ((tx_at n (M.2.1 53)) (p + m + 1))
            have q_sz := h21.2.2.1
            rw [show nI (rm_ne n (tx_at n (M.2.1 53)) p) = nI (p + m + 2 + ((rm_ne n (tx_at n (M.2.1 53)) p) - (p + m + 2))) from by congr 1; have := q_sz.2.2.2.2.1; omega]
            have q_n := h21.2.2.2.1
            have q_l := q_sz.2.2.2.2.1
            have q_go : cx_V E 104 [(3, false, .int ((tx_at n (M.2.1 53)) (p + m + 1))), (2, false, .int (nI (p + m))), (0, false, .ref mo), (1, false, .int (nI i))] [.int (nI 64), .int (nI (tx_bs ((tx_at n (M.2.1 53)) (p + m + 1)))), .int (nI (p + m + 2 + ((rm_ne n (tx_at n (M.2.1 53)) p) - (p + m + 2)))), .int (nI (p + m + 2)), .ref mo] G := by
              refine cx_invV hE d_Mo_numberOf_104 l_Mo_152 hm.1 (c_Mo_read2 (a := p + m + 2) (m := ((rm_ne n (tx_at n (M.2.1 53)) p) - (p + m + 2))) (b := (tx_bs ((tx_at n (M.2.1 53)) (p + m + 1)))) (w := 64) (dd := fun i => tx_hd ((tx_at n (M.2.1 53)) i)) hm hn hn6 (by omega) (by have := q_sz.2.2.2.1; omega) (by have := q_sz.2.2.2.1; omega) (by decide) (fun i a b => (rm_dgh q_bb.1).2 (by
                have := (tx_all_iff _).mp q_sz.2.2.2.2.2.1 (i - (p + m + 2)) (by omega)
                rwa [show p + m + 2 + (i - (p + m + 2)) = i by omega] at this))) rfl (by omega) (Nat.le_of_ble_eq_true rfl) n_Mo_read2 (by rfl) (fun v G1 q => ?_) (fun a G1 q => by cases q.1)
              obtain ⟨q0, m1, s1, c1⟩ := q
              cases q0
              show cx_V E _ _ [.long _] G1
              refine cx_lret hE d_Mo_numberOf_107 rfl ?_
              rw [h21.2.2.2.2.2]
              exact ⟨_, rfl, rm_57.up _ _, m1, s1, c1⟩
            rw [q_bs] at q_go
            exact q_go
            -- end
          · have q_bs : (tx_bs ((tx_at n (M.2.1 53)) (p + m + 1))) = 10 := by unfold tx_bs; rw [if_neg c_71, if_neg c_81, if_pos c_92]
            refine cx_bipush (v := 10) hE d_Mo_numberOf_95 (by decide) ?_
            refine cx_goto (tgt := 102) hE d_Mo_numberOf_97 (by decide) ?_
            refine cx_bipush (v := 64) hE d_Mo_numberOf_102 (by decide) ?_
            rw [h21.2.1] at *
            have q_bb := tx_bs_le ((tx_at n (M.2.1 53)) (p + m + 1))
            have q_sz := h21.2.2.1
            rw [show nI (rm_ne n (tx_at n (M.2.1 53)) p) = nI (p + m + 2 + ((rm_ne n (tx_at n (M.2.1 53)) p) - (p + m + 2))) from by congr 1; have := q_sz.2.2.2.2.1; omega]
            have q_n := h21.2.2.2.1
            have q_l := q_sz.2.2.2.2.1
            have q_go : cx_V E 104 [(3, false, .int ((tx_at n (M.2.1 53)) (p + m + 1))), (2, false, .int (nI (p + m))), (0, false, .ref mo), (1, false, .int (nI i))] [.int (nI 64), .int (nI (tx_bs ((tx_at n (M.2.1 53)) (p + m + 1)))), .int (nI (p + m + 2 + ((rm_ne n (tx_at n (M.2.1 53)) p) - (p + m + 2)))), .int (nI (p + m + 2)), .ref mo] G := by
              refine cx_invV hE d_Mo_numberOf_104 l_Mo_152 hm.1 (c_Mo_read2 (a := p + m + 2) (m := ((rm_ne n (tx_at n (M.2.1 53)) p) - (p + m + 2))) (b := (tx_bs ((tx_at n (M.2.1 53)) (p + m + 1)))) (w := 64) (dd := fun i => tx_hd ((tx_at n (M.2.1 53)) i)) hm hn hn6 (by omega) (by have := q_sz.2.2.2.1; omega) (by have := q_sz.2.2.2.1; omega) (by decide) (fun i a b => (rm_dgh q_bb.1).2 (by
                have := (tx_all_iff _).mp q_sz.2.2.2.2.2.1 (i - (p + m + 2)) (by omega)
                rwa [show p + m + 2 + (i - (p + m + 2)) = i by omega] at this))) rfl (by omega) (Nat.le_of_ble_eq_true rfl) n_Mo_read2 (by rfl) (fun v G1 q => ?_) (fun a G1 q => by cases q.1)
              obtain ⟨q0, m1, s1, c1⟩ := q
              cases q0
              show cx_V E _ _ [.long _] G1
              refine cx_lret hE d_Mo_numberOf_107 rfl ?_
              rw [h21.2.2.2.2.2]
              exact ⟨_, rfl, rm_57.up _ _, m1, s1, c1⟩
            rw [q_bs] at q_go
            exact q_go
            -- end
        · have q_bs : (tx_bs ((tx_at n (M.2.1 53)) (p + m + 1))) = 8 := by unfold tx_bs; rw [if_neg c_71, if_pos c_81]
          refine cx_bipush (v := 8) hE d_Mo_numberOf_84 (by decide) ?_
          refine cx_goto (tgt := 102) hE d_Mo_numberOf_86 (by decide) ?_
          refine cx_bipush (v := 64) hE d_Mo_numberOf_102 (by decide) ?_
          rw [h21.2.1] at *
          have q_bb := tx_bs_le ((tx_at n (M.2.1 53)) (p + m + 1))
          have q_sz := h21.2.2.1
          rw [show nI (rm_ne n (tx_at n (M.2.1 53)) p) = nI (p + m + 2 + ((rm_ne n (tx_at n (M.2.1 53)) p) - (p + m + 2))) from by congr 1; have := q_sz.2.2.2.2.1; omega]
          have q_n := h21.2.2.2.1
          have q_l := q_sz.2.2.2.2.1
          have q_go : cx_V E 104 [(3, false, .int ((tx_at n (M.2.1 53)) (p + m + 1))), (2, false, .int (nI (p + m))), (0, false, .ref mo), (1, false, .int (nI i))] [.int (nI 64), .int (nI (tx_bs ((tx_at n (M.2.1 53)) (p + m + 1)))), .int (nI (p + m + 2 + ((rm_ne n (tx_at n (M.2.1 53)) p) - (p + m + 2)))), .int (nI (p + m + 2)), .ref mo] G := by
            refine cx_invV hE d_Mo_numberOf_104 l_Mo_152 hm.1 (c_Mo_read2 (a := p + m + 2) (m := ((rm_ne n (tx_at n (M.2.1 53)) p) - (p + m + 2))) (b := (tx_bs ((tx_at n (M.2.1 53)) (p + m + 1)))) (w := 64) (dd := fun i => tx_hd ((tx_at n (M.2.1 53)) i)) hm hn hn6 (by omega) (by have := q_sz.2.2.2.1; omega) (by have := q_sz.2.2.2.1; omega) (by decide) (fun i a b => (rm_dgh q_bb.1).2 (by
              have := (tx_all_iff _).mp q_sz.2.2.2.2.2.1 (i - (p + m + 2)) (by omega)
              rwa [show p + m + 2 + (i - (p + m + 2)) = i by omega] at this))) rfl (by omega) (Nat.le_of_ble_eq_true rfl) n_Mo_read2 (by rfl) (fun v G1 q => ?_) (fun a G1 q => by cases q.1)
            obtain ⟨q0, m1, s1, c1⟩ := q
            cases q0
            show cx_V E _ _ [.long _] G1
            refine cx_lret hE d_Mo_numberOf_107 rfl ?_
            rw [h21.2.2.2.2.2]
            exact ⟨_, rfl, rm_57.up _ _, m1, s1, c1⟩
          rw [q_bs] at q_go
          exact q_go
          -- end
      · have q_bs : (tx_bs ((tx_at n (M.2.1 53)) (p + m + 1))) = 2 := by unfold tx_bs; rw [if_pos c_71]
        refine cx_iconst (v := 2) hE d_Mo_numberOf_74 (by decide) ?_
        refine cx_goto (tgt := 102) hE d_Mo_numberOf_75 (by decide) ?_
        refine cx_bipush (v := 64) hE d_Mo_numberOf_102 (by decide) ?_
        rw [h21.2.1] at *
        have q_bb := tx_bs_le ((tx_at n (M.2.1 53)) (p + m + 1))
        have q_sz := h21.2.2.1
        rw [show nI (rm_ne n (tx_at n (M.2.1 53)) p) = nI (p + m + 2 + ((rm_ne n (tx_at n (M.2.1 53)) p) - (p + m + 2))) from by congr 1; have := q_sz.2.2.2.2.1; omega]
        have q_n := h21.2.2.2.1
        have q_l := q_sz.2.2.2.2.1
        have q_go : cx_V E 104 [(3, false, .int ((tx_at n (M.2.1 53)) (p + m + 1))), (2, false, .int (nI (p + m))), (0, false, .ref mo), (1, false, .int (nI i))] [.int (nI 64), .int (nI (tx_bs ((tx_at n (M.2.1 53)) (p + m + 1)))), .int (nI (p + m + 2 + ((rm_ne n (tx_at n (M.2.1 53)) p) - (p + m + 2)))), .int (nI (p + m + 2)), .ref mo] G := by
          refine cx_invV hE d_Mo_numberOf_104 l_Mo_152 hm.1 (c_Mo_read2 (a := p + m + 2) (m := ((rm_ne n (tx_at n (M.2.1 53)) p) - (p + m + 2))) (b := (tx_bs ((tx_at n (M.2.1 53)) (p + m + 1)))) (w := 64) (dd := fun i => tx_hd ((tx_at n (M.2.1 53)) i)) hm hn hn6 (by omega) (by have := q_sz.2.2.2.1; omega) (by have := q_sz.2.2.2.1; omega) (by decide) (fun i a b => (rm_dgh q_bb.1).2 (by
            have := (tx_all_iff _).mp q_sz.2.2.2.2.2.1 (i - (p + m + 2)) (by omega)
            rwa [show p + m + 2 + (i - (p + m + 2)) = i by omega] at this))) rfl (by omega) (Nat.le_of_ble_eq_true rfl) n_Mo_read2 (by rfl) (fun v G1 q => ?_) (fun a G1 q => by cases q.1)
          obtain ⟨q0, m1, s1, c1⟩ := q
          cases q0
          show cx_V E _ _ [.long _] G1
          refine cx_lret hE d_Mo_numberOf_107 rfl ?_
          rw [h21.2.2.2.2.2]
          exact ⟨_, rfl, rm_57.up _ _, m1, s1, c1⟩
        rw [q_bs] at q_go
        exact q_go
        -- end
    · have q_31 : (tx_tok n (tx_at n (M.2.1 53)) p).1 = 20 := hk.elim id (fun z => by
        have z1 := h21 z
        have z2 := (rm_nkA hm9 z1.1).2.2.1
        rw [z1.2.1] at hee
        rw [← hee] at c_31
        have z3 := (nI_eq (by omega) (by omega)).mp c_31
        omega)
      have h20 := h20 q_31
      refine cx_aload_n (i := 0) hE d_Mo_numberOf_34 rfl rfl ?_
      refine cx_aload_n (i := 0) hE d_Mo_numberOf_35 rfl rfl ?_
      refine cx_get hE d_Mo_numberOf_36 f_Mo_19 (by assumption) (by rfl) ?_
      refine cx_iload_n (i := 1) hE d_Mo_numberOf_39 rfl rfl ?_
      refine cx_iald 1 hE d_Mo_numberOf_40 rfl (by assumption) (vp_in_nI (by show _ < 65540; omega) (by show 65540 < 2147483648; omega)) ?_
      rw [nI_clamp (by omega), hb]
      refine cx_iload_n (i := 2) hE d_Mo_numberOf_41 rfl rfl ?_
      refine cx_bipush (v := 10) hE d_Mo_numberOf_42 (by decide) ?_
      refine cx_bipush (v := 16) hE d_Mo_numberOf_44 (by decide) ?_
      refine cx_invV hE d_Mo_numberOf_46 l_Mo_152 hm.1 (c_Mo_read2 (a := p) (m := m) (b := 10) (w := 16) (dd := fun i => tx_dg ((tx_at n (M.2.1 53)) i)) hm hn hn6 (by omega) (by decide) (by decide) (by decide) (fun i a b => rm_dgd (hall.2.2.1 i a b))) rfl (by omega) (Nat.le_of_ble_eq_true rfl) n_Mo_read2 (by rfl) (fun v G1 q => ?_) (fun a G1 q => by cases q.1)
      obtain ⟨q0, m1, s1, c1⟩ := q
      cases q0
      show cx_V E _ _ [.long _] G1
      refine cx_lret hE d_Mo_numberOf_49 rfl ?_
      rw [h20.2.2]
      exact ⟨_, rfl, rm_57.up _ _, m1, s1, c1⟩
  have hloop : ∀ (d t : Nat), p + m - t = d → t ≤ p + m → p ≤ t → cx_V E 7 [(2, false, .int (nI t)), (0, false, .ref mo), (1, false, .int (nI i))] [] G := by
    intro d
    induction d using Nat.strongRecOn with
    | ind d ih =>
      intro t hd1 ht hpt
      refine cx_aload_n (i := 0) hE d_Mo_numberOf_7 rfl rfl ?_
      refine cx_iload_n (i := 2) hE d_Mo_numberOf_8 rfl rfl ?_
      refine cx_invV1 hE d_Mo_numberOf_9 l_Mo_136 (by assumption) (c_Mo_at (p := t) hm hn hn6 (by omega)) rfl (by omega) (Nat.le_of_ble_eq_true rfl) n_Mo_at (by first | rfl | (simp only [List.map_cons, List.map_nil, cx_rfc]; rfl)) ?_
      refine cx_invS1 hE d_Mo_numberOf_12 l_Mo_133 (c_Mo_isDigit ((tx_at n (M.2.1 53)) t)) rfl (by omega) (Nat.le_of_ble_eq_true rfl) n_Mo_isDigit (by first | rfl | (simp only [List.map_cons, List.map_nil, cx_rfc]; rfl)) ?_
      refine cx_if_eq (tgt := 24)  hE d_Mo_numberOf_15 (by decide) (fun c_15 => ?_) (fun c_15 => ?_)
      · have q_17 := cx_b0.mp c_15
        have q_4 : t = p + m := by
          rcases Nat.lt_or_ge t (p + m) with z | z
          · have := hall.2.2.1 t hpt z
            rw [q_17] at this
            cases this
          · omega
        refine cx_sub [0, 1, 2] rfl ?_
        subst q_4
        exact h24
      · have q_17 := cx_bn.mp c_15
        have q_t : t < p + m := by
          rcases Nat.lt_or_ge t (p + m) with z | z
          · exact z
          · have e : t = p + m := by omega
            rw [e, hall.2.1] at q_17
            cases q_17
        refine cx_iinc (v := nI (t + 1)) hE d_Mo_numberOf_18 rfl (nI_1 _) (by decide) ?_
        refine cx_goto (tgt := 7) hE d_Mo_numberOf_21 (by decide) ?_
        refine cx_sub [0, 1, 2] rfl ?_
        exact ih (p + m - (t + 1)) (by omega) (t + 1) rfl (by omega) (by omega)
  refine cx_aload_n (i := 0) hE d_Mo_numberOf_0 rfl rfl ?_
  refine cx_get hE d_Mo_numberOf_1 f_Mo_19 (by assumption) (by rfl) ?_
  refine cx_iload_n (i := 1) hE d_Mo_numberOf_4 rfl rfl ?_
  refine cx_iald 1 hE d_Mo_numberOf_5 rfl (by assumption) (vp_in_nI (by show _ < 65540; omega) (by show 65540 < 2147483648; omega)) ?_
  rw [nI_clamp (by omega), hb]
  refine cx_istore_n (i := 2) hE d_Mo_numberOf_6 rfl (by decide) ?_
  refine cx_sub [0, 1, 2] rfl ?_
  exact hloop _ p rfl (by omega) (by omega)

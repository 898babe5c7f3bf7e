/-! NUMBERS. -/
theorem nI_ne1 {a : Nat} (h : a < 2 ^ 31) : ¬ nI a = -1 := fun z => by
  have := congrArg Int32.toInt z
  rw [nI_toInt h] at this
  have e : (-1 : Int32).toInt = -1 := rfl
  omega
theorem tx_nP_n {n : Nat} {c : Nat → Int32} : ∀ i, tx_nP n c i → i < n := fun _ h => h.1
def tx_np (G : cx_G) (n : Nat) (c : Nat → Int32) (p : Nat) : cx_R → cx_G → Prop := fun r G' =>
  (c (tx_q n c p) = 39 → tx_szp G c p (tx_q n c p - p) (tx_ne n c p) r G') ∧ (¬ c (tx_q n c p) = 39 → tx_new G (if tx_dec c p (tx_q n c p - p) 65535 = -1 then 23 else 20) (nI p) (nI (tx_q n c p)) none 0 (tx_dec c p (tx_q n c p - p) 65535).toInt64 r G')
set_option maxRecDepth 100000 in
theorem c_Lx_number {k : cx_K} {l : Launch} {G : cx_G} {lx ta ws n p : Nat} {f : Nat → Int32} (hL : tx_L k G lx ta ws n f) (hpn : p < n) (r1 : G.2.1 + 2 ≤ 601024) (r2 : G.2.2 + 14 ≤ 7293034) : cx_Sp k l m_Lx_number 3 [.ref lx, .int (nI p)] G (tx_np G n (tx_at n f) p) := by
  intro E hE
  have hT : tx_T k G ta n f := id hL.2
  obtain ⟨hl, b, cap, h1, h2, h3, h4, hf⟩ := id hL
  have hq0 : p ≤ tx_q n (tx_at n f) p ∧ (p ≤ n → tx_q n (tx_at n f) p ≤ n) := tx_e_le (P := tx_nP n (tx_at n f)) tx_nP_n p
  have hqn := hq0.2 (by omega)
  have hQ : tx_end (tx_nP n (tx_at n f)) p (tx_q n (tx_at n f) p) := tx_ex tx_nP_n p
  have hend1 : ¬ tx_at n f (tx_q n (tx_at n f) p) = 39 → cx_V E 59 [(3, false, .int (nI (tx_q n (tx_at n f) p))), (2, false, .int (-1)), (0, false, .ref lx), (1, false, .int (nI p))] [] G := by
    intro hne
    have q_e : p + (tx_q n (tx_at n f) p - p) = tx_q n (tx_at n f) p := by omega
    refine cx_iload_n (i := 2) hE d_Lx_number_59 rfl rfl ?_
    refine cx_iconst (v := -1) hE d_Lx_number_60 (by decide) ?_
    refine cx_icmp_ne (tgt := 73) hE d_Lx_number_61 (by decide) (fun c_61 => ?_) (fun c_61 => ?_)
    · exact absurd rfl c_61
      -- end
    · refine cx_aload_n (i := 0) hE d_Lx_number_64 rfl rfl ?_
      refine cx_iload_n (i := 1) hE d_Lx_number_65 rfl rfl ?_
      refine cx_iload_n (i := 3) hE d_Lx_number_66 rfl rfl ?_
      refine cx_invV hE d_Lx_number_67 l_Lx_113 (by assumption) (c_Lx_plainNumber (a := p) (m := (tx_q n (tx_at n f) p) - p) hL (by omega) r1 r2) (by rw [q_e]; rfl) (by omega) (Nat.le_of_ble_eq_true rfl) n_Lx_plainNumber (by rfl) (fun v G1 q => ?_) (fun a G1 q => by obtain ⟨_, q, _⟩ := q; cases q)
      obtain ⟨x, q0, q⟩ := q
      cases q0
      show cx_V E _ _ [.ref x] G1
      refine cx_goto (tgt := 80) hE d_Lx_number_70 (by decide) ?_
      refine cx_aret (r := some x) hE d_Lx_number_80 rfl (by first | exact Or.inl ⟨_, rfl⟩ | exact Or.inr ⟨_, rfl⟩) ?_
      refine ⟨fun z => absurd z hne, fun _ => ?_⟩
      rw [q_e] at q
      exact ⟨x, rfl, q⟩
  have hend2 : tx_at n f (tx_q n (tx_at n f) p) = 39 → tx_q n (tx_at n f) p < tx_ne n (tx_at n f) p → tx_ne n (tx_at n f) p ≤ n → cx_V E 59 [(3, false, .int (nI (tx_ne n (tx_at n f) p))), (2, false, .int (nI (tx_q n (tx_at n f) p))), (0, false, .ref lx), (1, false, .int (nI p))] [] G := by
    intro heq hlt hen
    have q_e : p + (tx_q n (tx_at n f) p - p) = tx_q n (tx_at n f) p := by omega
    refine cx_iload_n (i := 2) hE d_Lx_number_59 rfl rfl ?_
    refine cx_iconst (v := -1) hE d_Lx_number_60 (by decide) ?_
    refine cx_icmp_ne (tgt := 73) hE d_Lx_number_61 (by decide) (fun c_61 => ?_) (fun c_61 => ?_)
    · refine cx_aload_n (i := 0) hE d_Lx_number_73 rfl rfl ?_
      refine cx_iload_n (i := 1) hE d_Lx_number_74 rfl rfl ?_
      refine cx_iload_n (i := 2) hE d_Lx_number_75 rfl rfl ?_
      refine cx_iload_n (i := 3) hE d_Lx_number_76 rfl rfl ?_
      refine cx_invV hE d_Lx_number_77 l_Lx_117 (by assumption) (c_Lx_sizedNumber (a := p) (m := (tx_q n (tx_at n f) p) - p) (e := (tx_ne n (tx_at n f) p)) hL (by omega) (by omega) r1 r2) (by rw [q_e]; rfl) (by omega) (Nat.le_of_ble_eq_true rfl) n_Lx_sizedNumber (by rfl) (fun v G1 q => ?_) (fun a G1 q => by
        by_cases hz : tx_sz (tx_at n f) p ((tx_q n (tx_at n f) p) - p) ((tx_ne n (tx_at n f) p))
        · obtain ⟨_, q, _⟩ := q.1 hz; cases q
        · obtain ⟨_, q, _⟩ := q.2 hz; cases q)
      obtain ⟨x, rfl⟩ : ∃ x, v = some (.ref x) := by
        by_cases hz : tx_sz (tx_at n f) p ((tx_q n (tx_at n f) p) - p) ((tx_ne n (tx_at n f) p))
        · obtain ⟨x, q, _⟩ := q.1 hz; exact ⟨x, Sum.inl.inj q⟩
        · obtain ⟨x, q, _⟩ := q.2 hz; exact ⟨x, Sum.inl.inj q⟩
      show cx_V E _ _ [.ref x] G1
      refine cx_aret (r := some x) hE d_Lx_number_80 rfl (by first | exact Or.inl ⟨_, rfl⟩ | exact Or.inr ⟨_, rfl⟩) ?_
      exact ⟨fun _ => q, fun z => absurd heq z⟩
    · exact absurd c_61 (nI_ne1 (by omega))
      -- end
  have hloop2 : ∀ (d i : Nat), n - i = d → i ≤ n → tx_q n (tx_at n f) p < i → tx_e (tx_nP n (tx_at n f)) i = tx_ne n (tx_at n f) p → tx_at n f (tx_q n (tx_at n f) p) = 39 → cx_V E 4 [(3, false, .int (nI i)), (2, false, .int (nI (tx_q n (tx_at n f) p))), (0, false, .ref lx), (1, false, .int (nI p))] [] G := by
    intro d
    induction d using Nat.strongRecOn with
    | ind d ih =>
      intro i hd hi hqi hr heq
      have hstop : ¬ tx_nP n (tx_at n f) i → cx_V E 59 [(3, false, .int (nI i)), (2, false, .int (nI (tx_q n (tx_at n f) p))), (0, false, .ref lx), (1, false, .int (nI p))] [] G := fun hz => by
        have e9 := tx_e_stop hz
        rw [hr] at e9
        rw [← e9]
        exact hend2 heq (by omega) (by omega)
      refine cx_iload_n (i := 3) hE d_Lx_number_4 rfl rfl ?_
      refine cx_aload_n (i := 0) hE d_Lx_number_5 rfl rfl ?_
      refine cx_get hE d_Lx_number_6 f_Lx_18 (by assumption) (by rfl) ?_
      refine cx_get hE d_Lx_number_9 f_Lx_58 (by assumption) (by rfl) ?_
      refine cx_icmp_ge (tgt := 59) hE d_Lx_number_12 (by decide) (fun c_12 => ?_) (fun c_12 => ?_)
      · have q_12 := nJ_le (by omega) c_12
        refine cx_sub [0, 1, 2, 3] rfl ?_
        exact hstop (fun z => by first | exact absurd z.1 (by omega) | exact absurd (z.2.symm.trans q_47) (by decide))
      · have q_12 := nJ_lt (by omega) c_12
        refine cx_aload_n (i := 0) hE d_Lx_number_15 rfl rfl ?_
        refine cx_get hE d_Lx_number_16 f_Lx_18 (by assumption) (by rfl) ?_
        refine cx_iload_n (i := 3) hE d_Lx_number_19 rfl rfl ?_
        refine cx_invV1 hE d_Lx_number_20 l_Lx_47 (by assumption) (c_Ta_byteAt (p := i) hT (by omega)) rfl (by omega) (Nat.le_of_ble_eq_true rfl) n_Ta_byteAt (by first | rfl | (simp only [List.map_cons, List.map_nil, cx_rfc]; rfl)) ?_
        refine cx_istore hE d_Lx_number_23 (by decide) ?_
        refine cx_iload hE d_Lx_number_25 rfl ?_
        refine cx_bipush (v := 39) hE d_Lx_number_27 (by decide) ?_
        refine cx_icmp_ne (tgt := 42) hE d_Lx_number_29 (by decide) (fun c_29 => ?_) (fun c_29 => ?_)
        · refine cx_iload hE d_Lx_number_42 rfl ?_
          refine cx_invS1 hE d_Lx_number_44 l_Lx_80 (c_Lx_goesOn _) rfl (by omega) (Nat.le_of_ble_eq_true rfl) n_Lx_goesOn (by first | rfl | (simp only [List.map_cons, List.map_nil, cx_rfc]; rfl)) ?_
          refine cx_if_ne (tgt := 53) hE d_Lx_number_47 (by decide) (fun c_47 => ?_) (fun c_47 => ?_)
          · have q_47 := cx_bn.mp c_47
            refine cx_iinc (v := nI (i + 1)) hE d_Lx_number_53 rfl (nI_1 _) (by decide) ?_
            refine cx_goto (tgt := 4) hE d_Lx_number_56 (by decide) ?_
            refine cx_sub [0, 2, 3, 4] rfl ?_
            exact ih (n - (i + 1)) (by omega) (i + 1) rfl (by omega) (by omega) (by rw [← hr]; exact (tx_e_step tx_nP_n ⟨q_12, q_47⟩).symm) heq
          · have q_47 := cx_b0.mp (by simpa using c_47)
            refine cx_goto (tgt := 59) hE d_Lx_number_50 (by decide) ?_
            refine cx_sub [1, 2, 3, 4] rfl ?_
            exact hstop (fun z => by first | exact absurd z.1 (by omega) | exact absurd (z.2.symm.trans q_47) (by decide))
        · refine cx_iload_n (i := 2) hE d_Lx_number_32 rfl rfl ?_
          refine cx_iconst (v := -1) hE d_Lx_number_33 (by decide) ?_
          refine cx_icmp_ne (tgt := 42) hE d_Lx_number_34 (by decide) (fun c_34 => ?_) (fun c_34 => ?_)
          · refine cx_iload hE d_Lx_number_42 rfl ?_
            refine cx_invS1 hE d_Lx_number_44 l_Lx_80 (c_Lx_goesOn _) rfl (by omega) (Nat.le_of_ble_eq_true rfl) n_Lx_goesOn (by first | rfl | (simp only [List.map_cons, List.map_nil, cx_rfc]; rfl)) ?_
            refine cx_if_ne (tgt := 53) hE d_Lx_number_47 (by decide) (fun c_47 => ?_) (fun c_47 => ?_)
            · have q_47 := cx_bn.mp c_47
              refine cx_iinc (v := nI (i + 1)) hE d_Lx_number_53 rfl (nI_1 _) (by decide) ?_
              refine cx_goto (tgt := 4) hE d_Lx_number_56 (by decide) ?_
              refine cx_sub [0, 2, 3, 4] rfl ?_
              exact ih (n - (i + 1)) (by omega) (i + 1) rfl (by omega) (by omega) (by rw [← hr]; exact (tx_e_step tx_nP_n ⟨q_12, q_47⟩).symm) heq
            · have q_47 := cx_b0.mp (by simpa using c_47)
              refine cx_goto (tgt := 59) hE d_Lx_number_50 (by decide) ?_
              refine cx_sub [1, 2, 3, 4] rfl ?_
              exact hstop (fun z => by first | exact absurd z.1 (by omega) | exact absurd (z.2.symm.trans q_47) (by decide))
          · exact absurd c_34 (nI_ne1 (by omega))
            -- end
  have hloop1 : ∀ (d i : Nat), n - i = d → i ≤ n → p ≤ i → tx_e (tx_nP n (tx_at n f)) i = tx_q n (tx_at n f) p → cx_V E 4 [(3, false, .int (nI i)), (2, false, .int (-1)), (0, false, .ref lx), (1, false, .int (nI p))] [] G := by
    intro d
    induction d using Nat.strongRecOn with
    | ind d ih =>
      intro i hd hi hpi hr
      have hstop : ¬ tx_nP n (tx_at n f) i → ¬ tx_at n f i = 39 → cx_V E 59 [(3, false, .int (nI i)), (2, false, .int (-1)), (0, false, .ref lx), (1, false, .int (nI p))] [] G := fun hz h9 => by
        have e9 := tx_e_stop hz
        rw [hr] at e9
        rw [← e9] at h9 ⊢
        exact hend1 h9
      refine cx_iload_n (i := 3) hE d_Lx_number_4 rfl rfl ?_
      refine cx_aload_n (i := 0) hE d_Lx_number_5 rfl rfl ?_
      refine cx_get hE d_Lx_number_6 f_Lx_18 (by assumption) (by rfl) ?_
      refine cx_get hE d_Lx_number_9 f_Lx_58 (by assumption) (by rfl) ?_
      refine cx_icmp_ge (tgt := 59) hE d_Lx_number_12 (by decide) (fun c_12 => ?_) (fun c_12 => ?_)
      · have q_12 := nJ_le (by omega) c_12
        have q_29 : ¬ tx_at n f i = 39 := fun z => by have := tx_neg z (by decide); omega
        refine cx_sub [0, 1, 2, 3] rfl ?_
        exact hstop (fun z => by first | exact absurd z.1 (by omega) | exact absurd (z.2.symm.trans q_47) (by decide)) q_29
      · have q_12 := nJ_lt (by omega) c_12
        refine cx_aload_n (i := 0) hE d_Lx_number_15 rfl rfl ?_
        refine cx_get hE d_Lx_number_16 f_Lx_18 (by assumption) (by rfl) ?_
        refine cx_iload_n (i := 3) hE d_Lx_number_19 rfl rfl ?_
        refine cx_invV1 hE d_Lx_number_20 l_Lx_47 (by assumption) (c_Ta_byteAt (p := i) hT (by omega)) rfl (by omega) (Nat.le_of_ble_eq_true rfl) n_Ta_byteAt (by first | rfl | (simp only [List.map_cons, List.map_nil, cx_rfc]; rfl)) ?_
        refine cx_istore hE d_Lx_number_23 (by decide) ?_
        refine cx_iload hE d_Lx_number_25 rfl ?_
        refine cx_bipush (v := 39) hE d_Lx_number_27 (by decide) ?_
        refine cx_icmp_ne (tgt := 42) hE d_Lx_number_29 (by decide) (fun c_29 => ?_) (fun c_29 => ?_)
        · have q_29 := c_29
          refine cx_iload hE d_Lx_number_42 rfl ?_
          refine cx_invS1 hE d_Lx_number_44 l_Lx_80 (c_Lx_goesOn _) rfl (by omega) (Nat.le_of_ble_eq_true rfl) n_Lx_goesOn (by first | rfl | (simp only [List.map_cons, List.map_nil, cx_rfc]; rfl)) ?_
          refine cx_if_ne (tgt := 53) hE d_Lx_number_47 (by decide) (fun c_47 => ?_) (fun c_47 => ?_)
          · have q_47 := cx_bn.mp c_47
            refine cx_iinc (v := nI (i + 1)) hE d_Lx_number_53 rfl (nI_1 _) (by decide) ?_
            refine cx_goto (tgt := 4) hE d_Lx_number_56 (by decide) ?_
            refine cx_sub [0, 2, 3, 4] rfl ?_
            exact ih (n - (i + 1)) (by omega) (i + 1) rfl (by omega) (by omega) (by rw [← hr]; exact (tx_e_step tx_nP_n ⟨q_12, q_47⟩).symm)
          · have q_47 := cx_b0.mp (by simpa using c_47)
            refine cx_goto (tgt := 59) hE d_Lx_number_50 (by decide) ?_
            refine cx_sub [1, 2, 3, 4] rfl ?_
            exact hstop (fun z => by first | exact absurd z.1 (by omega) | exact absurd (z.2.symm.trans q_47) (by decide)) q_29
        · refine cx_iload_n (i := 2) hE d_Lx_number_32 rfl rfl ?_
          refine cx_iconst (v := -1) hE d_Lx_number_33 (by decide) ?_
          refine cx_icmp_ne (tgt := 42) hE d_Lx_number_34 (by decide) (fun c_34 => ?_) (fun c_34 => ?_)
          · exact absurd rfl c_34
            -- end
          · have q_z : ¬ tx_nP n (tx_at n f) i := fun z => by
              have := z.2
              rw [c_29] at this
              exact absurd this (by decide)
            have e9 := tx_e_stop q_z
            rw [hr] at e9
            have q_heq : tx_at n f (tx_q n (tx_at n f) p) = 39 := by rw [e9]; exact c_29
            have q_ne : tx_ne n (tx_at n f) p = tx_e (tx_nP n (tx_at n f)) (tx_q n (tx_at n f) p + 1) := by unfold tx_ne; rw [if_pos q_heq]
            refine cx_iload_n (i := 3) hE d_Lx_number_37 rfl rfl ?_
            refine cx_istore_n (i := 2) hE d_Lx_number_38 rfl (by decide) ?_
            refine cx_goto (tgt := 53) hE d_Lx_number_39 (by decide) ?_
            refine cx_iinc (v := nI (i + 1)) hE d_Lx_number_53 rfl (nI_1 _) (by decide) ?_
            refine cx_goto (tgt := 4) hE d_Lx_number_56 (by decide) ?_
            refine cx_sub [0, 1, 3, 4] rfl ?_
            have h9 := hloop2 (n - (i + 1)) (i + 1) rfl (by omega) (by omega) (by rw [q_ne, e9]) q_heq
            rw [e9] at h9
            exact h9
  refine cx_iconst (v := -1) hE d_Lx_number_0 (by decide) ?_
  refine cx_istore_n (i := 2) hE d_Lx_number_1 rfl (by decide) ?_
  refine cx_iload_n (i := 1) hE d_Lx_number_2 rfl rfl ?_
  refine cx_istore_n (i := 3) hE d_Lx_number_3 rfl (by decide) ?_
  refine cx_sub [0, 1, 2, 3] rfl ?_
  exact hloop1 (n - p) p rfl (by omega) (Nat.le_refl _) rfl

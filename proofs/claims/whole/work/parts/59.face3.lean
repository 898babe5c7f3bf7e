/-! THE FACE: feed, find, a new object. -/
/-- the tape spells T -/
def ct_sp (n : Nat) (f : Nat → Int32) (T : List Int32) : Prop := T.length = n ∧ ∀ i, i < T.length → T.getD i 0 &&& 255 = tx_at n f i
set_option maxRecDepth 100000 in
theorem c_Ta_spells {k : cx_K} {l : Launch} {G : cx_G} {ta b n cap t : Nat} {f g : Nat → Int32} {T : List Int32} (hT : ct_T k G ta b n cap f) (htt : G.1 t = some (.inl (k.2.1 0, T.length, .inl g))) (hg : ∀ j, j < T.length → g j = T.getD j 0) (hTl : T.length ≤ 1000000) : cx_Sp k l m_Ta_spells 1 [.ref ta, .ref t] G (fun r G' => ∃ v : Bool, r = .inl (some (.int (cx_b v))) ∧ G' = G ∧ (v = true ↔ ct_sp n f T)) := by
  intro E hE
  obtain ⟨ht, hb9, hnc, hc5, hcm, hft0⟩ := id hT
  have hgood : ct_sp n f T → (fun (r : cx_R) (G' : cx_G) => ∃ v : Bool, r = .inl (some (.int (cx_b v))) ∧ G' = G ∧ (v = true ↔ ct_sp n f T)) (.inl (some (.int 1))) G := fun z => ⟨true, rfl, rfl, ⟨fun _ => z, fun _ => rfl⟩⟩
  have hbad : ¬ ct_sp n f T → (fun (r : cx_R) (G' : cx_G) => ∃ v : Bool, r = .inl (some (.int (cx_b v))) ∧ G' = G ∧ (v = true ↔ ct_sp n f T)) (.inl (some (.int 0))) G := fun z => ⟨false, rfl, rfl, ⟨fun y => (by cases y), fun y => absurd y z⟩⟩
  have hno : ∀ i, i ≤ 2000000 → ¬ ct_sp n f T → cx_V E 17 [(3, false, .int (nI i)), (2, false, .int 0), (0, false, .ref ta), (1, false, .ref t)] [] G := by
    intro i hi hne
    refine cx_iload_n (i := 3) hE d_Ta_spells_17 rfl rfl ?_
    refine cx_aload_n (i := 1) hE d_Ta_spells_18 rfl rfl ?_
    refine cx_alen 0 hE d_Ta_spells_19 rfl (by assumption) rfl ?_
    refine cx_icmp_ge (tgt := 54)  hE d_Ta_spells_20 (by decide) (fun c_20 => ?_) (fun c_20 => ?_)
    · refine cx_iload_n (i := 2) hE d_Ta_spells_54 rfl rfl ?_
      refine cx_iret hE d_Ta_spells_55 rfl rfl ?_
      exact hbad hne
    · refine cx_iload_n (i := 2) hE d_Ta_spells_23 rfl rfl ?_
      refine cx_if_eq (tgt := 54)  hE d_Ta_spells_24 (by decide) (fun c_24 => ?_) (fun c_24 => ?_)
      · refine cx_iload_n (i := 2) hE d_Ta_spells_54 rfl rfl ?_
        refine cx_iret hE d_Ta_spells_55 rfl rfl ?_
        exact hbad hne
      · exact absurd rfl c_24
        -- end
  have hloop : ∀ (d i : Nat), T.length - i = d → i ≤ T.length → T.length = n → (∀ j, j < i → T.getD j 0 &&& 255 = tx_at n f j) → cx_V E 17 [(3, false, .int (nI i)), (2, false, .int 1), (0, false, .ref ta), (1, false, .ref t)] [] G := by
    intro d
    induction d using Nat.strongRecOn with
    | ind d ih =>
      intro i hd hi hl hall
      refine cx_iload_n (i := 3) hE d_Ta_spells_17 rfl rfl ?_
      refine cx_aload_n (i := 1) hE d_Ta_spells_18 rfl rfl ?_
      refine cx_alen 0 hE d_Ta_spells_19 rfl (by assumption) rfl ?_
      refine cx_icmp_ge (tgt := 54)  hE d_Ta_spells_20 (by decide) (fun c_20 => ?_) (fun c_20 => ?_)
      · have q_20 : i = T.length := by have := nJ_le (by omega) c_20; omega
        refine cx_iload_n (i := 2) hE d_Ta_spells_54 rfl rfl ?_
        refine cx_iret hE d_Ta_spells_55 rfl rfl ?_
        exact hgood ⟨hl, fun j hj => hall j (by omega)⟩
      · have q_20 := nJ_lt (by omega) c_20
        refine cx_iload_n (i := 2) hE d_Ta_spells_23 rfl rfl ?_
        refine cx_if_eq (tgt := 54)  hE d_Ta_spells_24 (by decide) (fun c_24 => ?_) (fun c_24 => ?_)
        · exact absurd c_24 (by decide)
          -- end
        · refine cx_aload_n (i := 1) hE d_Ta_spells_27 rfl rfl ?_
          refine cx_iload_n (i := 3) hE d_Ta_spells_28 rfl rfl ?_
          refine cx_bald 0 hE d_Ta_spells_29 rfl (by assumption) (vp_in_nI (by omega) (by omega)) ?_
          refine cx_sipush (v := 255) hE d_Ta_spells_30 (by decide) ?_
          refine cx_iand hE d_Ta_spells_33 ?_
          refine cx_aload_n (i := 0) hE d_Ta_spells_34 rfl rfl ?_
          refine cx_iload_n (i := 3) hE d_Ta_spells_35 rfl rfl ?_
          refine cx_invV1 hE d_Ta_spells_36 l_Ta_29 ht (c_Ta_byteAt (p := i) hT.T (by omega)) rfl (by omega) (Nat.le_of_ble_eq_true rfl) n_Ta_byteAt (by rfl) ?_
          refine cx_icmp_ne (tgt := 46)  hE d_Ta_spells_39 (by decide) (fun c_39 => ?_) (fun c_39 => ?_)
          · rw [nI_clamp (by omega), hg i q_20] at c_39
            refine cx_iconst (v := 0) hE d_Ta_spells_46 (by decide) ?_
            refine cx_istore_n (i := 2) hE d_Ta_spells_47 rfl (by decide) ?_
            refine cx_iinc (v := nI (i + 1)) hE d_Ta_spells_48 rfl (nI_1 _) (by decide) ?_
            refine cx_goto (tgt := 17) hE d_Ta_spells_51 (by decide) ?_
            refine cx_sub [0, 1, 2, 3] rfl ?_
            first
              | exact ih (T.length - (i + 1)) (by omega) (i + 1) rfl (by omega) hl (fun j hj => (Nat.lt_or_ge j i).elim (hall j) (fun z => by rw [show j = i by omega]; exact c_39))
              | exact hno (i + 1) (by omega) (fun z => c_39 (z.2 i q_20))
          · rw [nI_clamp (by omega), hg i q_20] at c_39
            refine cx_iconst (v := 1) hE d_Ta_spells_42 (by decide) ?_
            refine cx_goto (tgt := 47) hE d_Ta_spells_43 (by decide) ?_
            refine cx_istore_n (i := 2) hE d_Ta_spells_47 rfl (by decide) ?_
            refine cx_iinc (v := nI (i + 1)) hE d_Ta_spells_48 rfl (nI_1 _) (by decide) ?_
            refine cx_goto (tgt := 17) hE d_Ta_spells_51 (by decide) ?_
            refine cx_sub [0, 1, 2, 3] rfl ?_
            first
              | exact ih (T.length - (i + 1)) (by omega) (i + 1) rfl (by omega) hl (fun j hj => (Nat.lt_or_ge j i).elim (hall j) (fun z => by rw [show j = i by omega]; exact c_39))
              | exact hno (i + 1) (by omega) (fun z => c_39 (z.2 i q_20))
  refine cx_aload_n (i := 1) hE d_Ta_spells_0 rfl rfl ?_
  refine cx_alen 0 hE d_Ta_spells_1 rfl (by assumption) rfl ?_
  refine cx_aload_n (i := 0) hE d_Ta_spells_2 rfl rfl ?_
  refine cx_get hE d_Ta_spells_3 f_Ta_15 (by assumption) (by rfl) ?_
  refine cx_icmp_ne (tgt := 13)  hE d_Ta_spells_6 (by decide) (fun c_6 => ?_) (fun c_6 => ?_)
  · have q_6 : ¬ ct_sp n f T := fun z => c_6 (by rw [show (T.length : Nat) = n from z.1]; rfl)
    refine cx_iconst (v := 0) hE d_Ta_spells_13 (by decide) ?_
    refine cx_istore_n (i := 2) hE d_Ta_spells_14 rfl (by decide) ?_
    refine cx_iconst (v := 0) hE d_Ta_spells_15 (by decide) ?_
    refine cx_istore_n (i := 3) hE d_Ta_spells_16 rfl (by decide) ?_
    refine cx_sub [0, 1, 2, 3] rfl ?_
    first
      | exact hloop T.length 0 rfl (Nat.zero_le _) q_6 (fun j hj => absurd hj (Nat.not_lt_zero _))
      | exact hno 0 (by omega) q_6
  · have q_6 : T.length = n := (nI_eq (by omega) (by omega)).mp c_6
    refine cx_iconst (v := 1) hE d_Ta_spells_9 (by decide) ?_
    refine cx_goto (tgt := 14) hE d_Ta_spells_10 (by decide) ?_
    refine cx_istore_n (i := 2) hE d_Ta_spells_14 rfl (by decide) ?_
    refine cx_iconst (v := 0) hE d_Ta_spells_15 (by decide) ?_
    refine cx_istore_n (i := 3) hE d_Ta_spells_16 rfl (by decide) ?_
    refine cx_sub [0, 1, 2, 3] rfl ?_
    first
      | exact hloop T.length 0 rfl (Nat.zero_le _) q_6 (fun j hj => absurd hj (Nat.not_lt_zero _))
      | exact hno 0 (by omega) q_6
/-- the first name of u from q on that the tape spells -/
def ct_fs (n : Nat) (f : Nat → Int32) (u : tx_U) (q : Nat) : Prop := ∃ T, (u.2.2.1.getD q tx_n0).1 = some T ∧ ct_sp n f T
/-- v tells the first of the names that the tape spells, or -1 -/
def ct_fw (n : Nat) (f : Nat → Int32) (u : tx_U) (v : Int32) : Prop := (v = -1 ∧ ∀ q, q < u.2.2.1.length → ¬ ct_fs n f u q) ∨ ∃ q, q < u.2.2.1.length ∧ v = nI q ∧ ct_fs n f u q ∧ ∀ p, p < q → ¬ ct_fs n f u p
def ct_pq (k : cx_K) (G : cx_G) (x ta b n cap : Nat) (f : Nat → Int32) (ft : Int32) (A : tx_A) (us : List tx_U) (m : Int32) : cx_R → cx_G → Prop := match ct_ix m us.length with
  | none => ct_th G 16
  | some j => fun r G' => ∃ v, r = .inl (some (.int v)) ∧ ct_fw n f (us.getD j tx_u0) v ∧ ct_R k G' x ta b 0 cap f ft A us ∧ G'.2 = G.2 ∧ ∀ c e, c ≠ ta → G.1 c = some e → G'.1 c = some e
set_option maxRecDepth 100000 in
theorem c_CT_find {k : cx_K} {l : Launch} {G : cx_G} {x ta b n cap : Nat} {f : Nat → Int32} {ft : Int32} {A : tx_A} {us : List tx_U} (hR : ct_R k G x ta b n cap f ft A us) {m : Int32} (hfl : l.flags = flags0) (r1 : G.2.1 + 1 ≤ 601024) (r2 : G.2.2 + 6 ≤ 7293034) (hTl : ∀ T a, A.wf T = some a → T.length ≤ 1000000) : cx_Sp k l m_CT_find 7 [.ref x, .int m] G (ct_pq k G x ta b n cap f ft A us m) := by
  intro E hE
  obtain ⟨hx, hT, hU⟩ := id hR
  have hta := hT.1
  cases hjm : ct_ix m us.length with
  | none =>
    rw [show ct_pq k G x ta b n cap f ft A us m = ct_th G 16 by unfold ct_pq; rw [hjm]] at hE
    refine cx_aload_n (i := 0) hE d_CT_find_0 rfl rfl ?_
    refine cx_iload_n (i := 1) hE d_CT_find_1 rfl rfl ?_
    have hua := c_CT_unitAt (l := l) (m := m) hR
    rw [hjm] at hua
    refine cx_invV1 hE d_CT_find_2 l_CT_85 hx hua rfl (by omega) (Nat.le_of_ble_eq_true rfl) n_CT_unitAt (by rfl) ?_
    refine cx_astore_n (i := 2) hE d_CT_find_5 rfl (by decide) ?_
    refine cx_aload_n (i := 2) hE d_CT_find_6 rfl rfl ?_
    refine cx_ifnonnull (tgt := 20) (r := none) hE d_CT_find_7 (by decide) (fun a_7 c_7 => ?_) (fun c_7 => ?_)
    · cases c_7
      -- end
    · refine cx_newX (i := 7) hE hfl xa_CT_89 d_CT_find_10 d_CT_find_13 d_CT_find_14 d_CT_find_16 rfl rfl rfl (by omega) (Nat.le_of_ble_eq_true rfl) (by omega) (by omega) (fun a9 fs9 h9 hk9 => ?_)
      refine cx_athrow hE d_CT_find_19 (cx_T.out hE rfl ?_)
      exact ⟨a9, fs9, rfl, h9, rfl⟩
      -- end
  | some j =>
    have hjl : j < us.length := ct_ix.lt hjm
    have hgj := ct_gd hjl
    have hpm : ct_pq k G x ta b n cap f ft A us m = (fun r G' => ∃ v, r = .inl (some (.int v)) ∧ ct_fw n f (us.getD j tx_u0) v ∧ ct_R k G' x ta b 0 cap f ft A us ∧ G'.2 = G.2 ∧ ∀ c e, c ≠ ta → G.1 c = some e → G'.1 c = some e) := by unfold ct_pq; rw [hjm]
    rw [hpm] at hE
    clear hpm
    generalize hu9 : us.getD j tx_u0 = u at hgj hE
    have hun := hU.2.1 j _ hgj
    unfold tx_um at hun
    have hna := hU.2.2.1 j _ hgj
    obtain ⟨⟨mcn, hnl⟩, -⟩ := id hna
    have hnn := (hU.2.2.2.2.2.2 j _ hgj).1
    have hcn := hna.le
    rw [List.length_map, List.length_range] at hcn
    have hend : ∀ v, ct_fw n f u v → cx_V E 88 [(3, false, .int v), (2, false, .ref (A.ua j)), (0, false, .ref x)] [] G := by
      intro v hv
      refine cx_aload_n (i := 0) hE d_CT_find_88 rfl rfl ?_
      refine cx_get hE d_CT_find_89 f_CT_10 (by assumption) (by rfl) ?_
      refine cx_iconst (v := 0) hE d_CT_find_92 (by decide) ?_
      refine cx_putg hE d_CT_find_93 f_CT_27 (by assumption) (Nat.le_of_ble_eq_true rfl) (by first | rfl | exact cx_nr _ _) (by first | rfl | exact cx_fr _ _) (fun G_93 g_93 h_93 => ?_)
      have hfin := hR.tp (n' := 0) (Nat.zero_le _) g_93
      refine cx_iload_n (i := 3) hE d_CT_find_96 rfl rfl ?_
      refine cx_iret hE d_CT_find_97 rfl rfl ?_
      exact ⟨_, rfl, hv, hfin.1, hfin.2.1, hfin.2.2⟩
    have hfnd : ∀ q, q < u.2.2.1.length → ct_fs n f u q → (∀ p, p < q → ¬ ct_fs n f u p) → ∀ q', q' ≤ u.2.2.1.length → cx_V E 25 [(4, false, .int (nI q')), (3, false, .int (nI q)), (2, false, .ref (A.ua j)), (0, false, .ref x)] [] G := by
      intro q hq1 hq2 hq3 q' hq'
      refine cx_iload hE d_CT_find_25 rfl ?_
      refine cx_aload_n (i := 2) hE d_CT_find_27 rfl rfl ?_
      refine cx_get hE d_CT_find_28 f_CT_99 (by assumption) (by rfl) ?_
      refine cx_invV1 hE d_CT_find_31 l_CT_81 hnl (c_AL_size hna) rfl (by omega) (Nat.le_of_ble_eq_true rfl) n_AL_size (by rfl) ?_
      rw [List.length_map, List.length_range]
      refine cx_icmp_ge (tgt := 88)  hE d_CT_find_34 (by decide) (fun c_34 => ?_) (fun c_34 => ?_)
      · refine cx_sub [1, 2, 3] rfl ?_
        exact hend _ (Or.inr ⟨q, hq1, rfl, hq2, hq3⟩)
      · refine cx_iload_n (i := 3) hE d_CT_find_37 rfl rfl ?_
        refine cx_iconst (v := -1) hE d_CT_find_38 (by decide) ?_
        refine cx_icmp_ne (tgt := 88)  hE d_CT_find_39 (by decide) (fun c_39 => ?_) (fun c_39 => ?_)
        · refine cx_sub [1, 2, 3] rfl ?_
          exact hend _ (Or.inr ⟨q, hq1, rfl, hq2, hq3⟩)
        · exact absurd c_39 (nI_ne1 (by omega))
          -- end
    have hloop : ∀ (d q : Nat), u.2.2.1.length - q = d → q ≤ u.2.2.1.length → (∀ p, p < q → ¬ ct_fs n f u p) → cx_V E 25 [(4, false, .int (nI q)), (3, false, .int (-1)), (2, false, .ref (A.ua j)), (0, false, .ref x)] [] G := by
      intro d
      induction d with
      | zero =>
        intro q hd hq hall
        refine cx_iload hE d_CT_find_25 rfl ?_
        refine cx_aload_n (i := 2) hE d_CT_find_27 rfl rfl ?_
        refine cx_get hE d_CT_find_28 f_CT_99 (by assumption) (by rfl) ?_
        refine cx_invV1 hE d_CT_find_31 l_CT_81 hnl (c_AL_size hna) rfl (by omega) (Nat.le_of_ble_eq_true rfl) n_AL_size (by rfl) ?_
        rw [List.length_map, List.length_range]
        refine cx_icmp_ge (tgt := 88)  hE d_CT_find_34 (by decide) (fun c_34 => ?_) (fun c_34 => ?_)
        · refine cx_sub [1, 2, 3] rfl ?_
          exact hend _ (Or.inl ⟨rfl, fun p hp => hall p (by omega)⟩)
        · exact absurd (nJ_lt (by omega) c_34) (by omega)
          -- end
      | succ d ih =>
        intro q hd hq hall
        have hql : q < u.2.2.1.length := by omega
        have hgq : u.2.2.1[q]? = some (u.2.2.1.getD q tx_n0) := by rw [List.getD_eq_getElem?_getD, List.getElem?_eq_getElem hql]; rfl
        generalize hrg : u.2.2.1.getD q tx_n0 = r at hgq
        have hnm := hU.2.2.2.1 j u hgj q r hgq
        unfold tx_nm at hnm
        have hww := ((hU.2.2.2.2.2.2 j u hgj).2 q r hgq).2
        cases hw : A.w r.1 with
        | none =>
          rw [hw] at hnm
          have hno : ¬ ct_fs n f u q := fun ⟨T9, z1, z2⟩ => by
            rw [hrg] at z1
            obtain ⟨w9, hw9⟩ := hww T9 z1
            rw [z1] at hw
            exact absurd (hw9.symm.trans hw) (fun q => by cases q)
          refine cx_iload hE d_CT_find_25 rfl ?_
          refine cx_aload_n (i := 2) hE d_CT_find_27 rfl rfl ?_
          refine cx_get hE d_CT_find_28 f_CT_99 (by assumption) (by rfl) ?_
          refine cx_invV1 hE d_CT_find_31 l_CT_81 hnl (c_AL_size hna) rfl (by omega) (Nat.le_of_ble_eq_true rfl) n_AL_size (by rfl) ?_
          rw [List.length_map, List.length_range]
          refine cx_icmp_ge (tgt := 88)  hE d_CT_find_34 (by decide) (fun c_34 => ?_) (fun c_34 => ?_)
          · exact absurd c_34 (nI_ge (a := q) (b := u.2.2.1.length) hql (by omega))
            -- end
          · refine cx_iload_n (i := 3) hE d_CT_find_37 rfl rfl ?_
            refine cx_iconst (v := -1) hE d_CT_find_38 (by decide) ?_
            refine cx_icmp_ne (tgt := 88)  hE d_CT_find_39 (by decide) (fun c_39 => ?_) (fun c_39 => ?_)
            · exact absurd rfl c_39
              -- end
            · refine cx_aload_n (i := 2) hE d_CT_find_42 rfl rfl ?_
              refine cx_get hE d_CT_find_43 f_CT_99 (by assumption) (by rfl) ?_
              refine cx_iload hE d_CT_find_46 rfl ?_
              refine cx_invV1 hE d_CT_find_48 l_CT_148 hnl (c_AL_get (i := q) hna (by rw [List.length_map, List.length_range]; omega) (by omega)) rfl (by omega) (Nat.le_of_ble_eq_true rfl) n_AL_get (by rfl) ?_
              rw [show ((List.range u.2.2.1.length).map (A.na j)).getD q 0 = A.na j q by rw [List.getD_eq_getElem?_getD, List.getElem?_map, List.getElem?_range hql]; rfl]
              refine cx_cast hE d_CT_find_51 hnm rfl (in_6 (List.mem_of_getElem? (i := 65) rfl)) ?_
              refine cx_get hE d_CT_find_54 f_CT_152 (by assumption) (by rfl) ?_
              refine cx_astore hE d_CT_find_57 (by decide) ?_
              refine cx_aload hE d_CT_find_59 rfl ?_
              refine cx_ifnull (tgt := 82) (r := none) hE d_CT_find_61 (by decide) (fun c_61 => ?_) (fun a_61 c_61 => ?_)
              · refine cx_iinc (v := nI (q + 1)) hE d_CT_find_82 rfl (nI_1 _) (by decide) ?_
                refine cx_goto (tgt := 25) hE d_CT_find_85 (by decide) ?_
                refine cx_sub [0, 2, 3, 4] rfl ?_
                exact ih (q + 1) (by omega) (by omega) (fun p hp => (Nat.lt_or_ge p q).elim (hall p) (fun z => by rw [show p = q by omega]; exact hno))
              · cases c_61
                -- end
        | some a =>
          rw [hw] at hnm
          obtain ⟨T, hT9, hTa⟩ : ∃ T, r.1 = some T ∧ A.wf T = some a := by
            cases hx9 : r.1 with
            | none => rw [hx9] at hw; cases hw
            | some T => rw [hx9] at hw; exact ⟨T, rfl, hw⟩
          obtain ⟨tb, x1, x2, x3, x4, g9, w1, w2, w3, w4⟩ := hU.2.2.2.2.1 T a hTa
          have htl9 := hTl T a hTa
          refine cx_iload hE d_CT_find_25 rfl ?_
          refine cx_aload_n (i := 2) hE d_CT_find_27 rfl rfl ?_
          refine cx_get hE d_CT_find_28 f_CT_99 (by assumption) (by rfl) ?_
          refine cx_invV1 hE d_CT_find_31 l_CT_81 hnl (c_AL_size hna) rfl (by omega) (Nat.le_of_ble_eq_true rfl) n_AL_size (by rfl) ?_
          rw [List.length_map, List.length_range]
          refine cx_icmp_ge (tgt := 88)  hE d_CT_find_34 (by decide) (fun c_34 => ?_) (fun c_34 => ?_)
          · exact absurd c_34 (nI_ge (a := q) (b := u.2.2.1.length) hql (by omega))
            -- end
          · refine cx_iload_n (i := 3) hE d_CT_find_37 rfl rfl ?_
            refine cx_iconst (v := -1) hE d_CT_find_38 (by decide) ?_
            refine cx_icmp_ne (tgt := 88)  hE d_CT_find_39 (by decide) (fun c_39 => ?_) (fun c_39 => ?_)
            · exact absurd rfl c_39
              -- end
            · refine cx_aload_n (i := 2) hE d_CT_find_42 rfl rfl ?_
              refine cx_get hE d_CT_find_43 f_CT_99 (by assumption) (by rfl) ?_
              refine cx_iload hE d_CT_find_46 rfl ?_
              refine cx_invV1 hE d_CT_find_48 l_CT_148 hnl (c_AL_get (i := q) hna (by rw [List.length_map, List.length_range]; omega) (by omega)) rfl (by omega) (Nat.le_of_ble_eq_true rfl) n_AL_get (by rfl) ?_
              rw [show ((List.range u.2.2.1.length).map (A.na j)).getD q 0 = A.na j q by rw [List.getD_eq_getElem?_getD, List.getElem?_map, List.getElem?_range hql]; rfl]
              refine cx_cast hE d_CT_find_51 hnm rfl (in_6 (List.mem_of_getElem? (i := 65) rfl)) ?_
              refine cx_get hE d_CT_find_54 f_CT_152 (by assumption) (by rfl) ?_
              refine cx_astore hE d_CT_find_57 (by decide) ?_
              refine cx_aload hE d_CT_find_59 rfl ?_
              refine cx_ifnull (tgt := 82) (r := some a) hE d_CT_find_61 (by decide) (fun c_61 => ?_) (fun a_61 c_61 => ?_)
              · cases c_61
                -- end
              · refine cx_aload_n (i := 0) hE d_CT_find_64 rfl rfl ?_
                refine cx_get hE d_CT_find_65 f_CT_10 (by assumption) (by rfl) ?_
                refine cx_aload hE d_CT_find_68 rfl ?_
                refine cx_get hE d_CT_find_70 f_CT_156 (by assumption) (by rfl) ?_
                refine cx_invV hE d_CT_find_73 l_CT_162 hta (c_Ta_spells hT w2 w3 htl9) rfl (by omega) (Nat.le_of_ble_eq_true rfl) n_Ta_spells (by rfl) (fun v9 G9 q9 => ?_) (fun a G9 q9 => by obtain ⟨_, q9, _⟩ := q9; cases q9)
                obtain ⟨v8, y0, y1, y2⟩ := q9
                cases y0
                show cx_V E _ _ [.int (cx_b v8)] G9
                rw [y1]
                refine cx_if_eq (tgt := 82)  hE d_CT_find_76 (by decide) (fun c_76 => ?_) (fun c_76 => ?_)
                · have hno : ¬ ct_fs n f u q := fun ⟨T9, z1, z2⟩ => by rw [hrg, hT9] at z1; cases z1; exact absurd (y2.mpr z2) (by rw [cx_b0.mp c_76]; decide)
                  refine cx_iinc (v := nI (q + 1)) hE d_CT_find_82 rfl (nI_1 _) (by decide) ?_
                  refine cx_goto (tgt := 25) hE d_CT_find_85 (by decide) ?_
                  refine cx_sub [0, 2, 3, 4] rfl ?_
                  first
                    | exact ih (q + 1) (by omega) (by omega) (fun p hp => (Nat.lt_or_ge p q).elim (hall p) (fun z => by rw [show p = q by omega]; exact hno))
                    | exact hfnd q hql hye hall (q + 1) (by omega)
                · have hye : ct_fs n f u q := ⟨T, by rw [hrg]; exact hT9, y2.mp (cx_bn.mp c_76)⟩
                  refine cx_iload hE d_CT_find_79 rfl ?_
                  refine cx_istore_n (i := 3) hE d_CT_find_81 rfl (by decide) ?_
                  refine cx_iinc (v := nI (q + 1)) hE d_CT_find_82 rfl (nI_1 _) (by decide) ?_
                  refine cx_goto (tgt := 25) hE d_CT_find_85 (by decide) ?_
                  refine cx_sub [0, 1, 3, 4] rfl ?_
                  first
                    | exact ih (q + 1) (by omega) (by omega) (fun p hp => (Nat.lt_or_ge p q).elim (hall p) (fun z => by rw [show p = q by omega]; exact hno))
                    | exact hfnd q hql hye hall (q + 1) (by omega)
    refine cx_aload_n (i := 0) hE d_CT_find_0 rfl rfl ?_
    refine cx_iload_n (i := 1) hE d_CT_find_1 rfl rfl ?_
    have hua := c_CT_unitAt (l := l) (m := m) hR
    rw [hjm] at hua
    refine cx_invV1 hE d_CT_find_2 l_CT_85 hx hua rfl (by omega) (Nat.le_of_ble_eq_true rfl) n_CT_unitAt (by rfl) ?_
    refine cx_astore_n (i := 2) hE d_CT_find_5 rfl (by decide) ?_
    refine cx_aload_n (i := 2) hE d_CT_find_6 rfl rfl ?_
    refine cx_ifnonnull (tgt := 20) (r := some (A.ua j)) hE d_CT_find_7 (by decide) (fun a_7 c_7 => ?_) (fun c_7 => ?_)
    · refine cx_iconst (v := -1) hE d_CT_find_20 (by decide) ?_
      refine cx_istore_n (i := 3) hE d_CT_find_21 rfl (by decide) ?_
      refine cx_iconst (v := 0) hE d_CT_find_22 (by decide) ?_
      refine cx_istore hE d_CT_find_23 (by decide) ?_
      refine cx_sub [0, 1, 2, 3] rfl ?_
      exact hloop u.2.2.1.length 0 rfl (Nat.zero_le _) (fun p hp => absurd hp (Nat.not_lt_zero _))
    · cases c_7
      -- end

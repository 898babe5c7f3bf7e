/-! THE REFERENCE: first pass, an exp. -/
theorem tx_tk_ok {T : List tx_Tk} {a : Int32} {i : Nat} {s : tx_S} (h : tx_ki T i = a) : tx_tk T a i s = .inr (tx_ta T i, i + 1, s) := if_pos h
def tx_pg (T : List tx_Tk) (i : Nat) (s : tx_S) : tx_R (Int32 × Int32) := (tx_tk T 20 i s).and fun h i s => if tx_ki T i = 58 then (tx_tk T 58 i s).and fun _ i s => (tx_tk T 20 i s).and fun l i s => .inr ((tx_pl h, tx_pl l), i, s) else .inr ((tx_pl h, tx_pl h), i, s)
theorem tx_prt_pg (T : List tx_Tk) (br : tx_Tk) (w : Int32) (i : Nat) (s : tx_S) : tx_prt T br w i s = (tx_pg T i s).and fun q i s => (tx_tk T 93 i s).and fun _ i s => .inr ((tx_prg br w q.1 q.2 s).1, i, (tx_prg br w q.1 q.2 s).2) := by
  unfold tx_prt tx_pg
  rw [tx_R.and_as]
  congr 1
  funext h i s
  split
  · rw [tx_R.and_as]
    congr 1
    funext _ i s
    rw [tx_R.and_as]
    rfl
  · rfl
theorem tx_up.pg {T : List tx_Tk} {n i : Nat} {s : tx_S} (h : n ≤ i + 1) : (tx_pg T i s).up n := by
  unfold tx_pg
  exact (tx_up.tk h).and fun _ j _ hj => tx_up.i (fun _ => (tx_up.tk (by omega)).and fun _ j _ hj => (tx_up.tk (by omega)).and fun _ j _ hj => tx_up.r hj) (fun _ => tx_up.r hj)
set_option maxRecDepth 100000 in
theorem c_Mo_partGrammar_d {k : cx_K} {l : Launch} {G : cx_G} {mo : Nat} {P : Nat → Nat} {M1 : rm_M} {T : List tx_Tk} {e : Int32 × Int32} (hT : rm_tk M1 T) (hm : rm_R k G mo P M1) (hdd : rm_dd T M1 M1 e) : cx_Sp k l m_Mo_partGrammar 4 [.ref mo] G (rm_x k G mo P T M1 e) := by
  intro E hE
  have hh : rm_h k G mo P G M1 := ⟨hm, rm_st.rf _ _ _, rfl⟩
  have hmo := hh.1.1
  refine cx_aload_n (i := 0) hE d_Mo_partGrammar_0 rfl rfl ?_
  refine cx_sipush (v := 401) hE d_Mo_partGrammar_1 (by decide) ?_
  refine cx_mtkd hE d_Mo_partGrammar_4 rfl hT hh hdd (by omega) (Nat.le_of_ble_eq_true rfl) (fun G1 M1 hh hdd => ?_)
  have hmo := hh.1.1
  refine cx_aload_n (i := 0) hE d_Mo_partGrammar_7 rfl rfl ?_
  refine cx_bipush (v := 58) hE d_Mo_partGrammar_8 (by decide) ?_
  refine cx_misd hE d_Mo_partGrammar_10 rfl hT hh hdd (by omega) (Nat.le_of_ble_eq_true rfl) ?_
  refine cx_if_eq (tgt := 33)  hE d_Mo_partGrammar_13 (by decide) (fun c_13 => ?_) (fun c_13 => ?_)
  · refine cx_vret hE d_Mo_partGrammar_33 rfl ?_
    exact ⟨_, rfl, hh, hdd⟩
  · exact absurd rfl c_13
    -- end
set_option maxRecDepth 100000 in
theorem c_Mo_partGrammar {k : cx_K} {l : Launch} {G : cx_G} {mo : Nat} {P : Nat → Nat} {M : rm_M} {T : List tx_Tk} {i f : Nat} {s : tx_S} (hT : rm_tk M T) (hm : rm_R k G mo P M) (hl : rm_lv T M M i f) {R0 : tx_R (Int32 × Int32)} (hR : R0 = tx_pg T i s) : cx_Sp k l m_Mo_partGrammar 5 [.ref mo] G (rm_o k G mo P T M f R0) := by
  intro E hE
  have hh : rm_h k G mo P G M := ⟨hm, rm_st.rf _ _ _, rfl⟩
  have hmo := hh.1.1
  have hle := hl.2.2.2.2.2
  have hTl := hT.1
  unfold tx_pg at hR
  have hd_33 : ∀ (G1 : cx_G) (M1 : rm_M) (e : Int32 × Int32), rm_h k G mo P G1 M1 → rm_dd T M M1 e → R0 = .inl e → cx_V E 33 [(0, false, .ref mo)] [] G1 := by
    intro G1 M1 e hh hdd hR
    have hmo := hh.1.1
    refine cx_vret hE d_Mo_partGrammar_33 rfl ?_
    exact ⟨_, rfl, hh, Or.inr ⟨_, hR, hdd⟩⟩
  have hd_7 : ∀ (G1 : cx_G) (M1 : rm_M) (e : Int32 × Int32), rm_h k G mo P G1 M1 → rm_dd T M M1 e → R0 = .inl e → cx_V E 7 [(0, false, .ref mo)] [] G1 := by
    intro G1 M1 e hh hdd hR
    have hmo := hh.1.1
    refine cx_aload_n (i := 0) hE d_Mo_partGrammar_7 rfl rfl ?_
    refine cx_bipush (v := 58) hE d_Mo_partGrammar_8 (by decide) ?_
    refine cx_misd hE d_Mo_partGrammar_10 rfl hT hh hdd (by omega) (Nat.le_of_ble_eq_true rfl) ?_
    refine cx_if_eq (tgt := 33)  hE d_Mo_partGrammar_13 (by decide) (fun c_13 => ?_) (fun c_13 => ?_)
    · refine cx_sub [0] rfl ?_
      exact hd_33 _ _ _ hh hdd hR
    · exact absurd rfl c_13
      -- end
  refine cx_aload_n (i := 0) hE d_Mo_partGrammar_0 rfl rfl ?_
  refine cx_sipush (v := 401) hE d_Mo_partGrammar_1 (by decide) ?_
  refine cx_mtk (a := 20) hE d_Mo_partGrammar_4 rfl hT hh hl (by decide) (by decide) hR (by omega) (Nat.le_of_ble_eq_true rfl) (fun G1 M1 hh hl hk4 hR => ?_) (fun G1 M1 e hh hdd hR => hd_7 _ _ _ hh hdd hR)
  have hmo := hh.1.1
  refine cx_aload_n (i := 0) hE d_Mo_partGrammar_7 rfl rfl ?_
  refine cx_bipush (v := 58) hE d_Mo_partGrammar_8 (by decide) ?_
  refine cx_mis (a := 58) hE d_Mo_partGrammar_10 rfl hT hh hl (by decide) (by omega) (Nat.le_of_ble_eq_true rfl) ?_
  refine cx_if_eq (tgt := 33)  hE d_Mo_partGrammar_13 (by decide) (fun c_13 => ?_) (fun c_13 => ?_)
  · have q_13 := of_decide_eq_false (cx_b0.mp c_13)
    rw [if_neg q_13] at hR
    try simp only [tx_R.and_as, tx_op_and, tx_R.and_r] at hR
    refine cx_vret hE d_Mo_partGrammar_33 rfl ?_
    first
      | exact ⟨_, rfl, hh, Or.inl ⟨_, _, _, hR, hl⟩⟩
      | exact ⟨_, rfl, hh, Or.inr ⟨_, hR, hdd⟩⟩
  · have q_13 := of_decide_eq_true (cx_bn.mp c_13)
    rw [if_pos q_13] at hR
    try simp only [tx_R.and_as, tx_op_and, tx_R.and_r] at hR
    have hkk := q_13
    rw [tx_tk_ok q_13, tx_R.and_r] at hR
    refine cx_aload_n (i := 0) hE d_Mo_partGrammar_16 rfl rfl ?_
    refine cx_dup hE d_Mo_partGrammar_17 ?_
    refine cx_get hE d_Mo_partGrammar_18 f_Mo_193 (by assumption) (by rfl) ?_
    rw [hl.2.1]
    refine cx_iconst (v := 1) hE d_Mo_partGrammar_21 (by decide) ?_
    refine cx_iadd hE d_Mo_partGrammar_22 ?_
    show cx_V E _ _ [.int (nI (i + 1) + 1), .ref mo] _
    rw [nI_1]
    refine cx_putg hE d_Mo_partGrammar_23 f_Mo_193 (by assumption) (Nat.le_of_ble_eq_true rfl) (by first | rfl | exact cx_nr _ _) (by first | rfl | exact cx_fr _ _) (fun G_23 g_23 h_23 => ?_)
    rw [rm_s8] at g_23 h_23
    have hp_23 := hh.1.pi g_23
    have hh := hh.tr ⟨hp_23.1, hp_23.2, cx_pc g_23⟩
    have hl := hl.t1 hT (by rw [hkk]; decide) (by rw [hkk]; decide)
    have hmo := hh.1.1
    refine cx_aload_n (i := 0) hE d_Mo_partGrammar_26 rfl rfl ?_
    refine cx_sipush (v := 401) hE d_Mo_partGrammar_27 (by decide) ?_
    refine cx_mtk (a := 20) hE d_Mo_partGrammar_30 rfl hT hh hl (by decide) (by decide) hR (by omega) (Nat.le_of_ble_eq_true rfl) (fun G1 M1 hh hl hk30 hR => ?_) (fun G1 M1 e hh hdd hR => hd_33 _ _ _ hh hdd hR)
    have hmo := hh.1.1
    refine cx_vret hE d_Mo_partGrammar_33 rfl ?_
    first
      | exact ⟨_, rfl, hh, Or.inl ⟨_, _, _, hR, hl⟩⟩
      | exact ⟨_, rfl, hh, Or.inr ⟨_, hR, hdd⟩⟩
/-- an exp in the first pass, where f brackets may yet be begun and f is below m -/
def rm_PE (k : cx_K) (l : Launch) (T : List tx_Tk) (m : Nat) : Prop := ∀ (f : Nat) (G : cx_G) (mo : Nat) (P : Nat → Nat) (M : rm_M) (i : Nat) (s : tx_S), f < m → rm_tk M T → rm_R k G mo P M → rm_lv T M M i f → cx_Sp k l m_Mo_expGrammar (4 * m + 10) [.ref mo] G (rm_o k G mo P T M f (tx_exf T m f i s))
theorem rm_r0 : ∀ p ∈ rm_kl, tx_rank p.1 ≤ 0 ↔ tx_rank p.1 = 0 := by decide
theorem tx_R.and_l {α β : Type} (e : Int32 × Int32) (g : α → Nat → tx_S → tx_R β) : tx_R.and (.inl e) g = .inl e := rfl
set_option maxRecDepth 100000 in
theorem c_Mo_operandGrammar_d {k : cx_K} {l : Launch} {G : cx_G} {mo : Nat} {P : Nat → Nat} {M1 : rm_M} {T : List tx_Tk} {e : Int32 × Int32} (hT : rm_tk M1 T) (hm : rm_R k G mo P M1) (hdd : rm_dd T M1 M1 e) : cx_Sp k l m_Mo_operandGrammar 4 [.ref mo] G (rm_x k G mo P T M1 e) := by
  intro E hE
  have hh : rm_h k G mo P G M1 := ⟨hm, rm_st.rf _ _ _, rfl⟩
  have hmo := hh.1.1
  refine cx_aload_n (i := 0) hE d_Mo_operandGrammar_0 rfl rfl ?_
  refine cx_get hE d_Mo_operandGrammar_1 f_Mo_187 (by assumption) (by rfl) ?_
  refine cx_if_ne (tgt := 30)  hE d_Mo_operandGrammar_4 (by decide) (fun c_4 => ?_) (fun c_4 => ?_)
  · refine cx_aload_n (i := 0) hE d_Mo_operandGrammar_30 rfl rfl ?_
    refine cx_sipush (v := 402) hE d_Mo_operandGrammar_31 (by decide) ?_
    refine cx_misd hE d_Mo_operandGrammar_34 rfl hT hh hdd (by omega) (Nat.le_of_ble_eq_true rfl) ?_
    refine cx_if_eq (tgt := 53)  hE d_Mo_operandGrammar_37 (by decide) (fun c_37 => ?_) (fun c_37 => ?_)
    · refine cx_aload_n (i := 0) hE d_Mo_operandGrammar_53 rfl rfl ?_
      refine cx_sipush (v := 400) hE d_Mo_operandGrammar_54 (by decide) ?_
      refine cx_misd hE d_Mo_operandGrammar_57 rfl hT hh hdd (by omega) (Nat.le_of_ble_eq_true rfl) ?_
      refine cx_if_eq (tgt := 118)  hE d_Mo_operandGrammar_60 (by decide) (fun c_60 => ?_) (fun c_60 => ?_)
      · refine cx_aload_n (i := 0) hE d_Mo_operandGrammar_118 rfl rfl ?_
        refine cx_bipush (v := 40) hE d_Mo_operandGrammar_119 (by decide) ?_
        refine cx_misd hE d_Mo_operandGrammar_121 rfl hT hh hdd (by omega) (Nat.le_of_ble_eq_true rfl) ?_
        refine cx_if_eq (tgt := 146)  hE d_Mo_operandGrammar_124 (by decide) (fun c_124 => ?_) (fun c_124 => ?_)
        · refine cx_aload_n (i := 0) hE d_Mo_operandGrammar_146 rfl rfl ?_
          refine cx_bipush (v := 123) hE d_Mo_operandGrammar_147 (by decide) ?_
          refine cx_misd hE d_Mo_operandGrammar_149 rfl hT hh hdd (by omega) (Nat.le_of_ble_eq_true rfl) ?_
          refine cx_if_eq (tgt := 162)  hE d_Mo_operandGrammar_152 (by decide) (fun c_152 => ?_) (fun c_152 => ?_)
          · refine cx_aload_n (i := 0) hE d_Mo_operandGrammar_162 rfl rfl ?_
            refine cx_mnod hE d_Mo_operandGrammar_163 rfl hT hh hdd (by omega) (Nat.le_of_ble_eq_true rfl) (fun G1 M1 hh hdd => ?_)
            have hmo := hh.1.1
            refine cx_vret hE d_Mo_operandGrammar_166 rfl ?_
            exact ⟨_, rfl, hh, hdd⟩
          · exact absurd rfl c_152
            -- end
        · exact absurd rfl c_124
          -- end
      · exact absurd rfl c_60
        -- end
    · exact absurd rfl c_37
      -- end
  · exact absurd (hdd.2.2.1.symm.trans (by simpa using c_4)) hdd.2.2.2.2
    -- end
set_option maxRecDepth 100000 in
theorem c_Mo_expGrammar_d {k : cx_K} {l : Launch} {G : cx_G} {mo : Nat} {P : Nat → Nat} {M1 : rm_M} {T : List tx_Tk} {e : Int32 × Int32} (hT : rm_tk M1 T) (hm : rm_R k G mo P M1) (hdd : rm_dd T M1 M1 e) : cx_Sp k l m_Mo_expGrammar 6 [.ref mo] G (rm_x k G mo P T M1 e) := by
  intro E hE
  have hh : rm_h k G mo P G M1 := ⟨hm, rm_st.rf _ _ _, rfl⟩
  have hmo := hh.1.1
  refine cx_aload_n (i := 0) hE d_Mo_expGrammar_0 rfl rfl ?_
  refine cx_msd hE d_Mo_expGrammar_1 rfl l_Mo_213 hh hdd (c_Mo_operandGrammar_d (hT.sm hdd.1) hh.1 ⟨rm_sm.rf _, hdd.2⟩) (by omega) (Nat.le_of_ble_eq_true rfl) n_Mo_operandGrammar (by rfl) (fun G1 M1 hh hdd => ?_)
  have hmo := hh.1.1
  refine cx_aload_n (i := 0) hE d_Mo_expGrammar_4 rfl rfl ?_
  refine cx_get hE d_Mo_expGrammar_5 f_Mo_187 (by assumption) (by rfl) ?_
  refine cx_if_ne (tgt := 38)  hE d_Mo_expGrammar_8 (by decide) (fun c_8 => ?_) (fun c_8 => ?_)
  · refine cx_aload_n (i := 0) hE d_Mo_expGrammar_38 rfl rfl ?_
    refine cx_bipush (v := 63) hE d_Mo_expGrammar_39 (by decide) ?_
    refine cx_misd hE d_Mo_expGrammar_41 rfl hT hh hdd (by omega) (Nat.le_of_ble_eq_true rfl) ?_
    refine cx_if_eq (tgt := 77)  hE d_Mo_expGrammar_44 (by decide) (fun c_44 => ?_) (fun c_44 => ?_)
    · refine cx_vret hE d_Mo_expGrammar_77 rfl ?_
      exact ⟨_, rfl, hh, hdd⟩
    · exact absurd rfl c_44
      -- end
  · exact absurd (hdd.2.2.1.symm.trans (by simpa using c_8)) hdd.2.2.2.2
    -- end
set_option maxRecDepth 100000 in
theorem c_Mo_bracesGrammar_d {k : cx_K} {l : Launch} {G : cx_G} {mo : Nat} {P : Nat → Nat} {M1 : rm_M} {T : List tx_Tk} {e : Int32 × Int32} (hT : rm_tk M1 T) (hm : rm_R k G mo P M1) (hdd : rm_dd T M1 M1 e) : cx_Sp k l m_Mo_bracesGrammar 8 [.ref mo] G (rm_x k G mo P T M1 e) := by
  intro E hE
  have hh : rm_h k G mo P G M1 := ⟨hm, rm_st.rf _ _ _, rfl⟩
  have hmo := hh.1.1
  refine cx_aload_n (i := 0) hE d_Mo_bracesGrammar_0 rfl rfl ?_
  refine cx_bipush (v := 123) hE d_Mo_bracesGrammar_1 (by decide) ?_
  refine cx_mopd hE d_Mo_bracesGrammar_3 rfl hT hh hdd (by omega) (Nat.le_of_ble_eq_true rfl) (fun G1 M1 hh hdd => ?_)
  have hmo := hh.1.1
  refine cx_aload_n (i := 0) hE d_Mo_bracesGrammar_6 rfl rfl ?_
  refine cx_sipush (v := 401) hE d_Mo_bracesGrammar_7 (by decide) ?_
  refine cx_misd hE d_Mo_bracesGrammar_10 rfl hT hh hdd (by omega) (Nat.le_of_ble_eq_true rfl) ?_
  refine cx_if_eq (tgt := 45)  hE d_Mo_bracesGrammar_13 (by decide) (fun c_13 => ?_) (fun c_13 => ?_)
  · refine cx_aload_n (i := 0) hE d_Mo_bracesGrammar_45 rfl rfl ?_
    refine cx_msd hE d_Mo_bracesGrammar_46 rfl l_Mo_226 hh hdd (c_Mo_expGrammar_d (hT.sm hdd.1) hh.1 ⟨rm_sm.rf _, hdd.2⟩) (by omega) (Nat.le_of_ble_eq_true rfl) n_Mo_expGrammar (by rfl) (fun G1 M1 hh hdd => ?_)
    have hmo := hh.1.1
    refine cx_aload_n (i := 0) hE d_Mo_bracesGrammar_49 rfl rfl ?_
    refine cx_bipush (v := 44) hE d_Mo_bracesGrammar_50 (by decide) ?_
    refine cx_misd hE d_Mo_bracesGrammar_52 rfl hT hh hdd (by omega) (Nat.le_of_ble_eq_true rfl) ?_
    refine cx_if_eq (tgt := 75)  hE d_Mo_bracesGrammar_55 (by decide) (fun c_55 => ?_) (fun c_55 => ?_)
    · refine cx_aload_n (i := 0) hE d_Mo_bracesGrammar_75 rfl rfl ?_
      refine cx_bipush (v := 125) hE d_Mo_bracesGrammar_76 (by decide) ?_
      refine cx_mshd hE d_Mo_bracesGrammar_78 rfl hT hh hdd (by omega) (Nat.le_of_ble_eq_true rfl) (fun G1 M1 hh hdd => ?_)
      have hmo := hh.1.1
      refine cx_vret hE d_Mo_bracesGrammar_81 rfl ?_
      exact ⟨_, rfl, hh, hdd⟩
    · exact absurd rfl c_55
      -- end
  · exact absurd rfl c_13
    -- end
set_option maxRecDepth 100000 in
theorem c_Mo_bracesGrammar {k : cx_K} {l : Launch} {G : cx_G} {mo : Nat} {P : Nat → Nat} {M : rm_M} {T : List tx_Tk} {i0 f : Nat} {s : tx_S} (hT : rm_tk M T) (hm : rm_R k G mo P M) (hl : rm_lv T M M i0 f) {m : Nat} (hx : rm_PE k l T m) (hfm : f ≤ m) {R0 : tx_R Int32} (hR : R0 = tx_brc T (tx_exf T m) f i0 s) : cx_Sp k l m_Mo_bracesGrammar (4 * m + 11) [.ref mo] G (rm_o k G mo P T M f R0) := by
  intro E hE
  have hh : rm_h k G mo P G M := ⟨hm, rm_st.rf _ _ _, rfl⟩
  have hmo := hh.1.1
  have hle := hl.2.2.2.2.2
  have hTl := hT.1
  unfold tx_brc tx_brw at hR
  have hd_81 : ∀ (G1 : cx_G) (M1 : rm_M) (e : Int32 × Int32), rm_h k G mo P G1 M1 → rm_dd T M M1 e → R0 = .inl e → cx_V E 81 [(0, false, .ref mo)] [] G1 := by
    intro G1 M1 e hh hdd hR
    have hmo := hh.1.1
    refine cx_vret hE d_Mo_bracesGrammar_81 rfl ?_
    exact ⟨_, rfl, hh, Or.inr ⟨_, hR, hdd⟩⟩
  have hd_72 : ∀ (G1 : cx_G) (M1 : rm_M) (e : Int32 × Int32), rm_h k G mo P G1 M1 → rm_dd T M M1 e → R0 = .inl e → cx_V E 72 [(0, false, .ref mo)] [] G1 := by
    intro G1 M1 e hh hdd hR
    have hmo := hh.1.1
    refine cx_goto (tgt := 49) hE d_Mo_bracesGrammar_72 (by decide) ?_
    refine cx_aload_n (i := 0) hE d_Mo_bracesGrammar_49 rfl rfl ?_
    refine cx_bipush (v := 44) hE d_Mo_bracesGrammar_50 (by decide) ?_
    refine cx_misd hE d_Mo_bracesGrammar_52 rfl hT hh hdd (by omega) (Nat.le_of_ble_eq_true rfl) ?_
    refine cx_if_eq (tgt := 75)  hE d_Mo_bracesGrammar_55 (by decide) (fun c_55 => ?_) (fun c_55 => ?_)
    · refine cx_aload_n (i := 0) hE d_Mo_bracesGrammar_75 rfl rfl ?_
      refine cx_bipush (v := 125) hE d_Mo_bracesGrammar_76 (by decide) ?_
      refine cx_mshd hE d_Mo_bracesGrammar_78 rfl hT hh hdd (by omega) (Nat.le_of_ble_eq_true rfl) (fun G1 M1 hh hdd => ?_)
      have hmo := hh.1.1
      refine cx_sub [0] rfl ?_
      exact hd_81 _ _ _ hh hdd hR
    · exact absurd rfl c_55
      -- end
  have hd_49 : ∀ (G1 : cx_G) (M1 : rm_M) (e : Int32 × Int32), rm_h k G mo P G1 M1 → rm_dd T M M1 e → R0 = .inl e → cx_V E 49 [(0, false, .ref mo)] [] G1 := by
    intro G1 M1 e hh hdd hR
    have hmo := hh.1.1
    refine cx_aload_n (i := 0) hE d_Mo_bracesGrammar_49 rfl rfl ?_
    refine cx_bipush (v := 44) hE d_Mo_bracesGrammar_50 (by decide) ?_
    refine cx_misd hE d_Mo_bracesGrammar_52 rfl hT hh hdd (by omega) (Nat.le_of_ble_eq_true rfl) ?_
    refine cx_if_eq (tgt := 75)  hE d_Mo_bracesGrammar_55 (by decide) (fun c_55 => ?_) (fun c_55 => ?_)
    · refine cx_aload_n (i := 0) hE d_Mo_bracesGrammar_75 rfl rfl ?_
      refine cx_bipush (v := 125) hE d_Mo_bracesGrammar_76 (by decide) ?_
      refine cx_mshd hE d_Mo_bracesGrammar_78 rfl hT hh hdd (by omega) (Nat.le_of_ble_eq_true rfl) (fun G1 M1 hh hdd => ?_)
      have hmo := hh.1.1
      refine cx_sub [0] rfl ?_
      exact hd_81 _ _ _ hh hdd hR
    · exact absurd rfl c_55
      -- end
  have hd_42 : ∀ (G1 : cx_G) (M1 : rm_M) (e : Int32 × Int32), rm_h k G mo P G1 M1 → rm_dd T M M1 e → R0 = .inl e → cx_V E 42 [(0, false, .ref mo)] [] G1 := by
    intro G1 M1 e hh hdd hR
    have hmo := hh.1.1
    refine cx_goto (tgt := 75) hE d_Mo_bracesGrammar_42 (by decide) ?_
    refine cx_aload_n (i := 0) hE d_Mo_bracesGrammar_75 rfl rfl ?_
    refine cx_bipush (v := 125) hE d_Mo_bracesGrammar_76 (by decide) ?_
    refine cx_mshd hE d_Mo_bracesGrammar_78 rfl hT hh hdd (by omega) (Nat.le_of_ble_eq_true rfl) (fun G1 M1 hh hdd => ?_)
    have hmo := hh.1.1
    refine cx_sub [0] rfl ?_
    exact hd_81 _ _ _ hh hdd hR
  have hd_36 : ∀ (G1 : cx_G) (M1 : rm_M) (e : Int32 × Int32), rm_h k G mo P G1 M1 → rm_dd T M M1 e → R0 = .inl e → cx_V E 36 [(0, false, .ref mo)] [] G1 := by
    intro G1 M1 e hh hdd hR
    have hmo := hh.1.1
    refine cx_aload_n (i := 0) hE d_Mo_bracesGrammar_36 rfl rfl ?_
    refine cx_bipush (v := 125) hE d_Mo_bracesGrammar_37 (by decide) ?_
    refine cx_mshd hE d_Mo_bracesGrammar_39 rfl hT hh hdd (by omega) (Nat.le_of_ble_eq_true rfl) (fun G1 M1 hh hdd => ?_)
    have hmo := hh.1.1
    refine cx_sub [0] rfl ?_
    exact hd_42 _ _ _ hh hdd hR
  have hd_32 : ∀ (G1 : cx_G) (M1 : rm_M) (e : Int32 × Int32), rm_h k G mo P G1 M1 → rm_dd T M M1 e → R0 = .inl e → cx_V E 32 [(0, false, .ref mo)] [] G1 := by
    intro G1 M1 e hh hdd hR
    have hmo := hh.1.1
    refine cx_aload_n (i := 0) hE d_Mo_bracesGrammar_32 rfl rfl ?_
    refine cx_msd hE d_Mo_bracesGrammar_33 rfl l_Mo_226 hh hdd (c_Mo_expGrammar_d (hT.sm hdd.1) hh.1 ⟨rm_sm.rf _, hdd.2⟩) (by omega) (Nat.le_of_ble_eq_true rfl) n_Mo_expGrammar (by rfl) (fun G1 M1 hh hdd => ?_)
    have hmo := hh.1.1
    refine cx_sub [0] rfl ?_
    exact hd_36 _ _ _ hh hdd hR
  have hd_6 : ∀ (G1 : cx_G) (M1 : rm_M) (e : Int32 × Int32), rm_h k G mo P G1 M1 → rm_dd T M M1 e → R0 = .inl e → cx_V E 6 [(0, false, .ref mo)] [] G1 := by
    intro G1 M1 e hh hdd hR
    have hmo := hh.1.1
    refine cx_aload_n (i := 0) hE d_Mo_bracesGrammar_6 rfl rfl ?_
    refine cx_sipush (v := 401) hE d_Mo_bracesGrammar_7 (by decide) ?_
    refine cx_misd hE d_Mo_bracesGrammar_10 rfl hT hh hdd (by omega) (Nat.le_of_ble_eq_true rfl) ?_
    refine cx_if_eq (tgt := 45)  hE d_Mo_bracesGrammar_13 (by decide) (fun c_13 => ?_) (fun c_13 => ?_)
    · refine cx_aload_n (i := 0) hE d_Mo_bracesGrammar_45 rfl rfl ?_
      refine cx_msd hE d_Mo_bracesGrammar_46 rfl l_Mo_226 hh hdd (c_Mo_expGrammar_d (hT.sm hdd.1) hh.1 ⟨rm_sm.rf _, hdd.2⟩) (by omega) (Nat.le_of_ble_eq_true rfl) n_Mo_expGrammar (by rfl) (fun G1 M1 hh hdd => ?_)
      have hmo := hh.1.1
      refine cx_sub [0] rfl ?_
      exact hd_49 _ _ _ hh hdd hR
    · exact absurd rfl c_13
      -- end
  refine cx_aload_n (i := 0) hE d_Mo_bracesGrammar_0 rfl rfl ?_
  refine cx_bipush (v := 123) hE d_Mo_bracesGrammar_1 (by decide) ?_
  refine cx_mop (a := 123) hE d_Mo_bracesGrammar_3 rfl hT hh hl (by decide) (by decide) hR (by omega) (Nat.le_of_ble_eq_true rfl) (fun f_3 G1 M1 hf3 => ?_) (fun G1 M1 e hh hdd hR => hd_6 _ _ _ hh hdd hR)
  subst hf3
  intro hh hl hk3 hR
  have hmo := hh.1.1
  have hloop : ∀ (n : Nat) (w : Int32) (i' : Nat) (s' : tx_S) (G1 : cx_G) (M1 : rm_M), T.length ≤ i' + n → rm_h k G mo P G1 M1 → rm_lv T M M1 i' f_3 → R0 = (tx_cms T (tx_exf T m) f_3 n w i' s').and (fun w i s => (tx_tk T 125 i s).and fun _ i s => .inr (if tx_bw w = true then w else 1, i, tx_ck (tx_bw w) 30 (nI (tx_ta T i0).2.1) s)) → cx_V E 49 [(0, false, .ref mo)] [] G1 := by
    intro n
    induction n with
    | zero =>
      intro w i' s' G1 M1 h1 hh hl hR
      exact absurd hl.2.2.1 (by omega)
    | succ n ih =>
      intro w i' s' G1 M1 h1 hh hl hR
      unfold tx_cms at hR
      have hmo := hh.1.1
      refine cx_aload_n (i := 0) hE d_Mo_bracesGrammar_49 rfl rfl ?_
      refine cx_bipush (v := 44) hE d_Mo_bracesGrammar_50 (by decide) ?_
      refine cx_mis (a := 44) hE d_Mo_bracesGrammar_52 rfl hT hh hl (by decide) (by omega) (Nat.le_of_ble_eq_true rfl) ?_
      refine cx_if_eq (tgt := 75)  hE d_Mo_bracesGrammar_55 (by decide) (fun c_55 => ?_) (fun c_55 => ?_)
      · have q_55 := of_decide_eq_false (cx_b0.mp c_55)
        rw [if_neg q_55] at hR
        try simp only [tx_R.and_as, tx_op_and, tx_R.and_r] at hR
        refine cx_aload_n (i := 0) hE d_Mo_bracesGrammar_75 rfl rfl ?_
        refine cx_bipush (v := 125) hE d_Mo_bracesGrammar_76 (by decide) ?_
        refine cx_msh (a := 125) hE d_Mo_bracesGrammar_78 rfl hT hh hl (by decide) (by decide) (by omega) hR (by omega) (Nat.le_of_ble_eq_true rfl) (fun G1 M1 hh hl hk78 hR => ?_) (fun G1 M1 e hh hdd hR => hd_81 _ _ _ hh hdd hR)
        have hmo := hh.1.1
        refine cx_vret hE d_Mo_bracesGrammar_81 rfl ?_
        exact ⟨_, rfl, hh, Or.inl ⟨_, _, _, hR, hl⟩⟩
      · have q_55 := of_decide_eq_true (cx_bn.mp c_55)
        rw [if_pos q_55] at hR
        try simp only [tx_R.and_as, tx_op_and, tx_R.and_r] at hR
        have hkk := q_55
        rw [tx_tk_ok q_55, tx_R.and_r] at hR
        refine cx_aload_n (i := 0) hE d_Mo_bracesGrammar_58 rfl rfl ?_
        refine cx_dup hE d_Mo_bracesGrammar_59 ?_
        refine cx_get hE d_Mo_bracesGrammar_60 f_Mo_193 (by assumption) (by rfl) ?_
        rw [hl.2.1]
        refine cx_iconst (v := 1) hE d_Mo_bracesGrammar_63 (by decide) ?_
        refine cx_iadd hE d_Mo_bracesGrammar_64 ?_
        show cx_V E _ _ [.int (nI (i') + 1), .ref mo] _
        rw [nI_1]
        refine cx_putg hE d_Mo_bracesGrammar_65 f_Mo_193 (by assumption) (Nat.le_of_ble_eq_true rfl) (by first | rfl | exact cx_nr _ _) (by first | rfl | exact cx_fr _ _) (fun G_65 g_65 h_65 => ?_)
        rw [rm_s8] at g_65 h_65
        have hp_65 := hh.1.pi g_65
        have hh := hh.tr ⟨hp_65.1, hp_65.2, cx_pc g_65⟩
        have hl := hl.t1 hT (by rw [hkk]; decide) (by rw [hkk]; decide)
        have hmo := hh.1.1
        refine cx_aload_n (i := 0) hE d_Mo_bracesGrammar_68 rfl rfl ?_
        refine cx_msb hE d_Mo_bracesGrammar_69 rfl l_Mo_226 hh hl hR (hx _ _ _ _ _ _ _ (by omega) (hT.sm hl.1) hh.1 ⟨rm_sm.rf _, hl.2⟩) (by omega) (Nat.le_of_ble_eq_true rfl) n_Mo_expGrammar (by rfl) (fun w_69 i_69 s_69 G1 M1 hr_69 hh hl hR => ?_) (fun G1 M1 e hh hdd hR => hd_72 _ _ _ hh hdd hR)
        have hmo := hh.1.1
        have hup_69 := tx_up.exf _ _ _ _ _ _ _ hr_69
        refine cx_goto (tgt := 49) hE d_Mo_bracesGrammar_72 (by decide) ?_
        refine cx_sub [0] rfl ?_
        exact ih _ _ _ _ _ (by omega) hh hl hR
  refine cx_aload_n (i := 0) hE d_Mo_bracesGrammar_6 rfl rfl ?_
  refine cx_sipush (v := 401) hE d_Mo_bracesGrammar_7 (by decide) ?_
  refine cx_mis (a := 20) hE d_Mo_bracesGrammar_10 rfl hT hh hl (by decide) (by omega) (Nat.le_of_ble_eq_true rfl) ?_
  refine cx_if_eq (tgt := 45)  hE d_Mo_bracesGrammar_13 (by decide) (fun c_13 => ?_) (fun c_13 => ?_)
  · have q_13 := of_decide_eq_false (cx_b0.mp c_13)
    rw [if_neg q_13] at hR
    try simp only [tx_R.and_as, tx_op_and, tx_R.and_r] at hR
    refine cx_aload_n (i := 0) hE d_Mo_bracesGrammar_45 rfl rfl ?_
    refine cx_msb hE d_Mo_bracesGrammar_46 rfl l_Mo_226 hh hl hR (hx _ _ _ _ _ _ _ (by omega) (hT.sm hl.1) hh.1 ⟨rm_sm.rf _, hl.2⟩) (by omega) (Nat.le_of_ble_eq_true rfl) n_Mo_expGrammar (by rfl) (fun w_46 i_46 s_46 G1 M1 hr_46 hh hl hR => ?_) (fun G1 M1 e hh hdd hR => hd_49 _ _ _ hh hdd hR)
    have hmo := hh.1.1
    have hup_46 := tx_up.exf _ _ _ _ _ _ _ hr_46
    refine cx_sub [0] rfl ?_
    exact hloop T.length _ _ _ _ _ (by omega) hh hl hR
  · have q_13 := of_decide_eq_true (cx_bn.mp c_13)
    rw [if_pos q_13] at hR
    try simp only [tx_R.and_as, tx_op_and, tx_R.and_r] at hR
    have hkk := q_13
    rw [tx_tk_ok q_13, tx_R.and_r] at hR
    refine cx_aload_n (i := 0) hE d_Mo_bracesGrammar_16 rfl rfl ?_
    refine cx_dup hE d_Mo_bracesGrammar_17 ?_
    refine cx_get hE d_Mo_bracesGrammar_18 f_Mo_193 (by assumption) (by rfl) ?_
    rw [hl.2.1]
    refine cx_iconst (v := 1) hE d_Mo_bracesGrammar_21 (by decide) ?_
    refine cx_iadd hE d_Mo_bracesGrammar_22 ?_
    show cx_V E _ _ [.int (nI (i0 + 1) + 1), .ref mo] _
    rw [nI_1]
    refine cx_putg hE d_Mo_bracesGrammar_23 f_Mo_193 (by assumption) (Nat.le_of_ble_eq_true rfl) (by first | rfl | exact cx_nr _ _) (by first | rfl | exact cx_fr _ _) (fun G_23 g_23 h_23 => ?_)
    rw [rm_s8] at g_23 h_23
    have hp_23 := hh.1.pi g_23
    have hh := hh.tr ⟨hp_23.1, hp_23.2, cx_pc g_23⟩
    have hl := hl.t1 hT (by rw [hkk]; decide) (by rw [hkk]; decide)
    have hmo := hh.1.1
    refine cx_aload_n (i := 0) hE d_Mo_bracesGrammar_26 rfl rfl ?_
    refine cx_bipush (v := 123) hE d_Mo_bracesGrammar_27 (by decide) ?_
    refine cx_mop (a := 123) hE d_Mo_bracesGrammar_29 rfl hT hh hl (by decide) (by decide) hR (by omega) (Nat.le_of_ble_eq_true rfl) (fun f_29 G1 M1 hf29 => ?_) (fun G1 M1 e hh hdd hR => hd_32 _ _ _ hh hdd hR)
    subst hf29
    intro hh hl hk29 hR
    have hmo := hh.1.1
    refine cx_aload_n (i := 0) hE d_Mo_bracesGrammar_32 rfl rfl ?_
    refine cx_msb hE d_Mo_bracesGrammar_33 rfl l_Mo_226 hh hl hR (hx _ _ _ _ _ _ _ (by omega) (hT.sm hl.1) hh.1 ⟨rm_sm.rf _, hl.2⟩) (by omega) (Nat.le_of_ble_eq_true rfl) n_Mo_expGrammar (by rfl) (fun w_33 i_33 s_33 G1 M1 hr_33 hh hl hR => ?_) (fun G1 M1 e hh hdd hR => hd_36 _ _ _ hh hdd hR)
    have hmo := hh.1.1
    have hup_33 := tx_up.exf _ _ _ _ _ _ _ hr_33
    refine cx_aload_n (i := 0) hE d_Mo_bracesGrammar_36 rfl rfl ?_
    refine cx_bipush (v := 125) hE d_Mo_bracesGrammar_37 (by decide) ?_
    refine cx_msh (a := 125) hE d_Mo_bracesGrammar_39 rfl hT hh hl (by decide) (by decide) (by omega) hR (by omega) (Nat.le_of_ble_eq_true rfl) (fun G1 M1 hh hl hk39 hR => ?_) (fun G1 M1 e hh hdd hR => hd_42 _ _ _ hh hdd hR)
    have hmo := hh.1.1
    refine cx_goto (tgt := 75) hE d_Mo_bracesGrammar_42 (by decide) ?_
    refine cx_aload_n (i := 0) hE d_Mo_bracesGrammar_75 rfl rfl ?_
    refine cx_bipush (v := 125) hE d_Mo_bracesGrammar_76 (by decide) ?_
    refine cx_msh (a := 125) hE d_Mo_bracesGrammar_78 rfl hT hh hl (by decide) (by decide) (by omega) hR (by omega) (Nat.le_of_ble_eq_true rfl) (fun G1 M1 hh hl hk78 hR => ?_) (fun G1 M1 e hh hdd hR => hd_81 _ _ _ hh hdd hR)
    have hmo := hh.1.1
    refine cx_vret hE d_Mo_bracesGrammar_81 rfl ?_
    exact ⟨_, rfl, hh, Or.inl ⟨_, _, _, hR, hl⟩⟩
set_option maxRecDepth 100000 in
theorem c_Mo_operandGrammar {k : cx_K} {l : Launch} {G : cx_G} {mo : Nat} {P : Nat → Nat} {M : rm_M} {T : List tx_Tk} {i f : Nat} {s : tx_S} (hT : rm_tk M T) (hm : rm_R k G mo P M) (hl : rm_lv T M M i f) {m : Nat} (hx : rm_PE k l T m) (hfm : f ≤ m) {R0 : tx_R Int32} (hR : R0 = tx_opr T (tx_exf T m) f i s) : cx_Sp k l m_Mo_operandGrammar (4 * m + 12) [.ref mo] G (rm_o k G mo P T M f R0) := by
  intro E hE
  have hh : rm_h k G mo P G M := ⟨hm, rm_st.rf _ _ _, rfl⟩
  have hmo := hh.1.1
  have hle := hl.2.2.2.2.2
  have hTl := hT.1
  have hd_166 : ∀ (G1 : cx_G) (M1 : rm_M) (e : Int32 × Int32), rm_h k G mo P G1 M1 → rm_dd T M M1 e → R0 = .inl e → cx_V E 166 [(0, false, .ref mo)] [] G1 := by
    intro G1 M1 e hh hdd hR
    have hmo := hh.1.1
    refine cx_vret hE d_Mo_operandGrammar_166 rfl ?_
    exact ⟨_, rfl, hh, Or.inr ⟨_, hR, hdd⟩⟩
  have hd_159 : ∀ (G1 : cx_G) (M1 : rm_M) (e : Int32 × Int32), rm_h k G mo P G1 M1 → rm_dd T M M1 e → R0 = .inl e → cx_V E 159 [(0, false, .ref mo)] [] G1 := by
    intro G1 M1 e hh hdd hR
    have hmo := hh.1.1
    refine cx_goto (tgt := 166) hE d_Mo_operandGrammar_159 (by decide) ?_
    refine cx_sub [0] rfl ?_
    exact hd_166 _ _ _ hh hdd hR
  have hd_143 : ∀ (G1 : cx_G) (M1 : rm_M) (e : Int32 × Int32), rm_h k G mo P G1 M1 → rm_dd T M M1 e → R0 = .inl e → cx_V E 143 [(0, false, .ref mo)] [] G1 := by
    intro G1 M1 e hh hdd hR
    have hmo := hh.1.1
    refine cx_goto (tgt := 166) hE d_Mo_operandGrammar_143 (by decide) ?_
    refine cx_sub [0] rfl ?_
    exact hd_166 _ _ _ hh hdd hR
  have hd_137 : ∀ (G1 : cx_G) (M1 : rm_M) (e : Int32 × Int32), rm_h k G mo P G1 M1 → rm_dd T M M1 e → R0 = .inl e → cx_V E 137 [(0, false, .ref mo)] [] G1 := by
    intro G1 M1 e hh hdd hR
    have hmo := hh.1.1
    refine cx_aload_n (i := 0) hE d_Mo_operandGrammar_137 rfl rfl ?_
    refine cx_bipush (v := 41) hE d_Mo_operandGrammar_138 (by decide) ?_
    refine cx_mshd hE d_Mo_operandGrammar_140 rfl hT hh hdd (by omega) (Nat.le_of_ble_eq_true rfl) (fun G1 M1 hh hdd => ?_)
    have hmo := hh.1.1
    refine cx_sub [0] rfl ?_
    exact hd_143 _ _ _ hh hdd hR
  have hd_133 : ∀ (G1 : cx_G) (M1 : rm_M) (e : Int32 × Int32), rm_h k G mo P G1 M1 → rm_dd T M M1 e → R0 = .inl e → cx_V E 133 [(0, false, .ref mo)] [] G1 := by
    intro G1 M1 e hh hdd hR
    have hmo := hh.1.1
    refine cx_aload_n (i := 0) hE d_Mo_operandGrammar_133 rfl rfl ?_
    refine cx_msd hE d_Mo_operandGrammar_134 rfl l_Mo_226 hh hdd (c_Mo_expGrammar_d (hT.sm hdd.1) hh.1 ⟨rm_sm.rf _, hdd.2⟩) (by omega) (Nat.le_of_ble_eq_true rfl) n_Mo_expGrammar (by rfl) (fun G1 M1 hh hdd => ?_)
    have hmo := hh.1.1
    refine cx_sub [0] rfl ?_
    exact hd_137 _ _ _ hh hdd hR
  have hd_115 : ∀ (G1 : cx_G) (M1 : rm_M) (e : Int32 × Int32), rm_h k G mo P G1 M1 → rm_dd T M M1 e → R0 = .inl e → cx_V E 115 [(0, false, .ref mo)] [] G1 := by
    intro G1 M1 e hh hdd hR
    have hmo := hh.1.1
    refine cx_goto (tgt := 166) hE d_Mo_operandGrammar_115 (by decide) ?_
    refine cx_sub [0] rfl ?_
    exact hd_166 _ _ _ hh hdd hR
  have hd_109 : ∀ (G1 : cx_G) (M1 : rm_M) (e : Int32 × Int32), rm_h k G mo P G1 M1 → rm_dd T M M1 e → R0 = .inl e → cx_V E 109 [(0, false, .ref mo)] [] G1 := by
    intro G1 M1 e hh hdd hR
    have hmo := hh.1.1
    refine cx_aload_n (i := 0) hE d_Mo_operandGrammar_109 rfl rfl ?_
    refine cx_bipush (v := 93) hE d_Mo_operandGrammar_110 (by decide) ?_
    refine cx_mshd hE d_Mo_operandGrammar_112 rfl hT hh hdd (by omega) (Nat.le_of_ble_eq_true rfl) (fun G1 M1 hh hdd => ?_)
    have hmo := hh.1.1
    refine cx_sub [0] rfl ?_
    exact hd_115 _ _ _ hh hdd hR
  have hd_102 : ∀ (G1 : cx_G) (M1 : rm_M) (e : Int32 × Int32), rm_h k G mo P G1 M1 → rm_dd T M M1 e → R0 = .inl e → cx_V E 102 [(0, false, .ref mo)] [] G1 := by
    intro G1 M1 e hh hdd hR
    have hmo := hh.1.1
    refine cx_goto (tgt := 109) hE d_Mo_operandGrammar_102 (by decide) ?_
    refine cx_sub [0] rfl ?_
    exact hd_109 _ _ _ hh hdd hR
  have hd_88 : ∀ (G1 : cx_G) (M1 : rm_M) (e : Int32 × Int32), rm_h k G mo P G1 M1 → rm_dd T M M1 e → R0 = .inl e → cx_V E 88 [(0, false, .ref mo)] [] G1 := by
    intro G1 M1 e hh hdd hR
    have hmo := hh.1.1
    refine cx_aload_n (i := 0) hE d_Mo_operandGrammar_88 rfl rfl ?_
    refine cx_sipush (v := 401) hE d_Mo_operandGrammar_89 (by decide) ?_
    refine cx_misd hE d_Mo_operandGrammar_92 rfl hT hh hdd (by omega) (Nat.le_of_ble_eq_true rfl) ?_
    refine cx_if_eq (tgt := 105)  hE d_Mo_operandGrammar_95 (by decide) (fun c_95 => ?_) (fun c_95 => ?_)
    · refine cx_aload_n (i := 0) hE d_Mo_operandGrammar_105 rfl rfl ?_
      refine cx_msd hE d_Mo_operandGrammar_106 rfl l_Mo_226 hh hdd (c_Mo_expGrammar_d (hT.sm hdd.1) hh.1 ⟨rm_sm.rf _, hdd.2⟩) (by omega) (Nat.le_of_ble_eq_true rfl) n_Mo_expGrammar (by rfl) (fun G1 M1 hh hdd => ?_)
      have hmo := hh.1.1
      refine cx_sub [0] rfl ?_
      exact hd_109 _ _ _ hh hdd hR
    · exact absurd rfl c_95
      -- end
  have htail : ∀ (i' : Nat) (b c : Int32) (r : Bool) (G1 : cx_G) (M1 : rm_M), i ≤ i' → rm_h k G mo P G1 M1 → rm_lv T M M1 i' f → tx_una T T.length i 0 0 false = (i', b, c, r) → cx_V E 30 [(0, false, .ref mo)] [] G1 := by
    intro i' b c r G1 M1 hii hh hl hu9
    unfold tx_opr at hR
    rw [hu9] at hR
    simp only [] at hR
    have hmo := hh.1.1
    refine cx_aload_n (i := 0) hE d_Mo_operandGrammar_30 rfl rfl ?_
    refine cx_sipush (v := 402) hE d_Mo_operandGrammar_31 (by decide) ?_
    refine cx_mis (a := 21) hE d_Mo_operandGrammar_34 rfl hT hh hl (by decide) (by omega) (Nat.le_of_ble_eq_true rfl) ?_
    refine cx_if_eq (tgt := 53)  hE d_Mo_operandGrammar_37 (by decide) (fun c_37 => ?_) (fun c_37 => ?_)
    · have q_37 := of_decide_eq_false (cx_b0.mp c_37)
      refine cx_aload_n (i := 0) hE d_Mo_operandGrammar_53 rfl rfl ?_
      refine cx_sipush (v := 400) hE d_Mo_operandGrammar_54 (by decide) ?_
      refine cx_mis (a := 19) hE d_Mo_operandGrammar_57 rfl hT hh hl (by decide) (by omega) (Nat.le_of_ble_eq_true rfl) ?_
      refine cx_if_eq (tgt := 118)  hE d_Mo_operandGrammar_60 (by decide) (fun c_60 => ?_) (fun c_60 => ?_)
      · have q_60 := of_decide_eq_false (cx_b0.mp c_60)
        refine cx_aload_n (i := 0) hE d_Mo_operandGrammar_118 rfl rfl ?_
        refine cx_bipush (v := 40) hE d_Mo_operandGrammar_119 (by decide) ?_
        refine cx_mis (a := 40) hE d_Mo_operandGrammar_121 rfl hT hh hl (by decide) (by omega) (Nat.le_of_ble_eq_true rfl) ?_
        refine cx_if_eq (tgt := 146)  hE d_Mo_operandGrammar_124 (by decide) (fun c_124 => ?_) (fun c_124 => ?_)
        · have q_124 := of_decide_eq_false (cx_b0.mp c_124)
          refine cx_aload_n (i := 0) hE d_Mo_operandGrammar_146 rfl rfl ?_
          refine cx_bipush (v := 123) hE d_Mo_operandGrammar_147 (by decide) ?_
          refine cx_mis (a := 123) hE d_Mo_operandGrammar_149 rfl hT hh hl (by decide) (by omega) (Nat.le_of_ble_eq_true rfl) ?_
          refine cx_if_eq (tgt := 162)  hE d_Mo_operandGrammar_152 (by decide) (fun c_152 => ?_) (fun c_152 => ?_)
          · have q_152 := of_decide_eq_false (cx_b0.mp c_152)
            unfold tx_prm at hR
            rw [if_neg q_37, if_neg q_124, if_neg q_152] at hR
            unfold tx_nmd at hR
            rw [show tx_tk T 19 i' s = .inl (tx_no (tx_ta T i')) from if_neg q_60] at hR
            simp only [tx_R.and_l] at hR
            refine cx_aload_n (i := 0) hE d_Mo_operandGrammar_162 rfl rfl ?_
            refine cx_mno hE d_Mo_operandGrammar_163 rfl hT hh hl (by omega) (Nat.le_of_ble_eq_true rfl) (fun G1 M1 hh hdd => ?_)
            refine cx_vret hE d_Mo_operandGrammar_166 rfl ?_
            first
              | exact ⟨_, rfl, hh, Or.inl ⟨_, _, _, hR, hl⟩⟩
              | exact ⟨_, rfl, hh, Or.inr ⟨_, hR, hdd⟩⟩
          · have q_152 := of_decide_eq_true (cx_bn.mp c_152)
            unfold tx_prm at hR
            rw [if_neg q_37, if_neg q_124, if_pos q_152] at hR
            try simp only [tx_R.and_as, tx_op_and, tx_R.and_r] at hR
            refine cx_aload_n (i := 0) hE d_Mo_operandGrammar_155 rfl rfl ?_
            refine cx_msb hE d_Mo_operandGrammar_156 rfl l_Mo_238 hh hl hR (c_Mo_bracesGrammar (hT.sm hl.1) hh.1 ⟨rm_sm.rf _, hl.2⟩ hx (by omega) rfl) (by omega) (Nat.le_of_ble_eq_true rfl) n_Mo_bracesGrammar (by rfl) (fun w_156 i_156 s_156 G1 M1 hr_156 hh hl hR => ?_) (fun G1 M1 e hh hdd hR => hd_159 _ _ _ hh hdd hR)
            have hmo := hh.1.1
            refine cx_goto (tgt := 166) hE d_Mo_operandGrammar_159 (by decide) ?_
            refine cx_vret hE d_Mo_operandGrammar_166 rfl ?_
            first
              | exact ⟨_, rfl, hh, Or.inl ⟨_, _, _, hR, hl⟩⟩
              | exact ⟨_, rfl, hh, Or.inr ⟨_, hR, hdd⟩⟩
        · have q_124 := of_decide_eq_true (cx_bn.mp c_124)
          unfold tx_prm at hR
          rw [if_neg q_37, if_pos q_124] at hR
          try simp only [tx_R.and_as, tx_op_and, tx_R.and_r] at hR
          refine cx_aload_n (i := 0) hE d_Mo_operandGrammar_127 rfl rfl ?_
          refine cx_bipush (v := 40) hE d_Mo_operandGrammar_128 (by decide) ?_
          refine cx_mop (a := 40) hE d_Mo_operandGrammar_130 rfl hT hh hl (by decide) (by decide) hR (by omega) (Nat.le_of_ble_eq_true rfl) (fun f_130 G1 M1 hf130 => ?_) (fun G1 M1 e hh hdd hR => hd_133 _ _ _ hh hdd hR)
          subst hf130
          intro hh hl hk130 hR
          have hmo := hh.1.1
          refine cx_aload_n (i := 0) hE d_Mo_operandGrammar_133 rfl rfl ?_
          refine cx_msb hE d_Mo_operandGrammar_134 rfl l_Mo_226 hh hl hR (hx _ _ _ _ _ _ _ (by omega) (hT.sm hl.1) hh.1 ⟨rm_sm.rf _, hl.2⟩) (by omega) (Nat.le_of_ble_eq_true rfl) n_Mo_expGrammar (by rfl) (fun w_134 i_134 s_134 G1 M1 hr_134 hh hl hR => ?_) (fun G1 M1 e hh hdd hR => hd_137 _ _ _ hh hdd hR)
          have hmo := hh.1.1
          have hup_134 := tx_up.exf _ _ _ _ _ _ _ hr_134
          refine cx_aload_n (i := 0) hE d_Mo_operandGrammar_137 rfl rfl ?_
          refine cx_bipush (v := 41) hE d_Mo_operandGrammar_138 (by decide) ?_
          refine cx_msh (a := 41) hE d_Mo_operandGrammar_140 rfl hT hh hl (by decide) (by decide) (by omega) hR (by omega) (Nat.le_of_ble_eq_true rfl) (fun G1 M1 hh hl hk140 hR => ?_) (fun G1 M1 e hh hdd hR => hd_143 _ _ _ hh hdd hR)
          have hmo := hh.1.1
          refine cx_goto (tgt := 166) hE d_Mo_operandGrammar_143 (by decide) ?_
          refine cx_vret hE d_Mo_operandGrammar_166 rfl ?_
          first
            | exact ⟨_, rfl, hh, Or.inl ⟨_, _, _, hR, hl⟩⟩
            | exact ⟨_, rfl, hh, Or.inr ⟨_, hR, hdd⟩⟩
      · have q_60 := of_decide_eq_true (cx_bn.mp c_60)
        unfold tx_prm at hR
        rw [if_neg q_37, if_neg (by rw [q_60]; decide), if_neg (by rw [q_60]; decide)] at hR
        unfold tx_nmd at hR
        try simp only [tx_R.and_as, tx_op_and, tx_R.and_r] at hR
        have hkk := q_60
        rw [tx_tk_ok q_60, tx_R.and_r] at hR
        refine cx_aload_n (i := 0) hE d_Mo_operandGrammar_63 rfl rfl ?_
        refine cx_dup hE d_Mo_operandGrammar_64 ?_
        refine cx_get hE d_Mo_operandGrammar_65 f_Mo_193 (by assumption) (by rfl) ?_
        rw [hl.2.1]
        refine cx_iconst (v := 1) hE d_Mo_operandGrammar_68 (by decide) ?_
        refine cx_iadd hE d_Mo_operandGrammar_69 ?_
        show cx_V E _ _ [.int (nI (i') + 1), .ref mo] _
        rw [nI_1]
        refine cx_putg hE d_Mo_operandGrammar_70 f_Mo_193 (by assumption) (Nat.le_of_ble_eq_true rfl) (by first | rfl | exact cx_nr _ _) (by first | rfl | exact cx_fr _ _) (fun G_70 g_70 h_70 => ?_)
        rw [rm_s8] at g_70 h_70
        have hp_70 := hh.1.pi g_70
        have hh := hh.tr ⟨hp_70.1, hp_70.2, cx_pc g_70⟩
        have hl := hl.t1 hT (by rw [hkk]; decide) (by rw [hkk]; decide)
        have hmo := hh.1.1
        refine cx_aload_n (i := 0) hE d_Mo_operandGrammar_73 rfl rfl ?_
        refine cx_bipush (v := 91) hE d_Mo_operandGrammar_74 (by decide) ?_
        refine cx_mis (a := 91) hE d_Mo_operandGrammar_76 rfl hT hh hl (by decide) (by omega) (Nat.le_of_ble_eq_true rfl) ?_
        refine cx_if_eq (tgt := 166)  hE d_Mo_operandGrammar_79 (by decide) (fun c_79 => ?_) (fun c_79 => ?_)
        · have q_79 := of_decide_eq_false (cx_b0.mp c_79)
          rw [if_neg q_79] at hR
          try simp only [tx_R.and_as, tx_op_and, tx_R.and_r] at hR
          refine cx_vret hE d_Mo_operandGrammar_166 rfl ?_
          first
            | exact ⟨_, rfl, hh, Or.inl ⟨_, _, _, hR, hl⟩⟩
            | exact ⟨_, rfl, hh, Or.inr ⟨_, hR, hdd⟩⟩
        · have q_79 := of_decide_eq_true (cx_bn.mp c_79)
          rw [if_pos q_79] at hR
          try simp only [tx_R.and_as, tx_op_and, tx_R.and_r] at hR
          refine cx_aload_n (i := 0) hE d_Mo_operandGrammar_82 rfl rfl ?_
          refine cx_bipush (v := 91) hE d_Mo_operandGrammar_83 (by decide) ?_
          refine cx_mop (a := 91) hE d_Mo_operandGrammar_85 rfl hT hh hl (by decide) (by decide) hR (by omega) (Nat.le_of_ble_eq_true rfl) (fun f_85 G1 M1 hf85 => ?_) (fun G1 M1 e hh hdd hR => hd_88 _ _ _ hh hdd hR)
          subst hf85
          intro hh hl hk85 hR
          have hmo := hh.1.1
          refine cx_aload_n (i := 0) hE d_Mo_operandGrammar_88 rfl rfl ?_
          refine cx_sipush (v := 401) hE d_Mo_operandGrammar_89 (by decide) ?_
          refine cx_mis (a := 20) hE d_Mo_operandGrammar_92 rfl hT hh hl (by decide) (by omega) (Nat.le_of_ble_eq_true rfl) ?_
          refine cx_if_eq (tgt := 105)  hE d_Mo_operandGrammar_95 (by decide) (fun c_95 => ?_) (fun c_95 => ?_)
          · have q_95 := of_decide_eq_false (cx_b0.mp c_95)
            rw [if_neg q_95] at hR
            try simp only [tx_R.and_as, tx_op_and, tx_R.and_r] at hR
            refine cx_aload_n (i := 0) hE d_Mo_operandGrammar_105 rfl rfl ?_
            refine cx_msb hE d_Mo_operandGrammar_106 rfl l_Mo_226 hh hl hR (hx _ _ _ _ _ _ _ (by omega) (hT.sm hl.1) hh.1 ⟨rm_sm.rf _, hl.2⟩) (by omega) (Nat.le_of_ble_eq_true rfl) n_Mo_expGrammar (by rfl) (fun w_106 i_106 s_106 G1 M1 hr_106 hh hl hR => ?_) (fun G1 M1 e hh hdd hR => hd_109 _ _ _ hh hdd hR)
            have hmo := hh.1.1
            have hup_106 := tx_up.exf _ _ _ _ _ _ _ hr_106
            refine cx_aload_n (i := 0) hE d_Mo_operandGrammar_109 rfl rfl ?_
            refine cx_bipush (v := 93) hE d_Mo_operandGrammar_110 (by decide) ?_
            refine cx_msh (a := 93) hE d_Mo_operandGrammar_112 rfl hT hh hl (by decide) (by decide) (by omega) hR (by omega) (Nat.le_of_ble_eq_true rfl) (fun G1 M1 hh hl hk112 hR => ?_) (fun G1 M1 e hh hdd hR => hd_115 _ _ _ hh hdd hR)
            have hmo := hh.1.1
            refine cx_goto (tgt := 166) hE d_Mo_operandGrammar_115 (by decide) ?_
            refine cx_vret hE d_Mo_operandGrammar_166 rfl ?_
            first
              | exact ⟨_, rfl, hh, Or.inl ⟨_, _, _, hR, hl⟩⟩
              | exact ⟨_, rfl, hh, Or.inr ⟨_, hR, hdd⟩⟩
          · have q_95 := of_decide_eq_true (cx_bn.mp c_95)
            rw [if_pos q_95, tx_prt_pg] at hR
            try simp only [tx_R.and_as, tx_op_and, tx_R.and_r] at hR
            refine cx_aload_n (i := 0) hE d_Mo_operandGrammar_98 rfl rfl ?_
            refine cx_msb hE d_Mo_operandGrammar_99 rfl l_Mo_232 hh hl hR (c_Mo_partGrammar (hT.sm hl.1) hh.1 ⟨rm_sm.rf _, hl.2⟩ rfl) (by omega) (Nat.le_of_ble_eq_true rfl) n_Mo_partGrammar (by rfl) (fun w_99 i_99 s_99 G1 M1 hr_99 hh hl hR => ?_) (fun G1 M1 e hh hdd hR => hd_102 _ _ _ hh hdd hR)
            have hmo := hh.1.1
            have hup_99 := tx_up.pg (Nat.le_refl _) _ _ _ hr_99
            refine cx_goto (tgt := 109) hE d_Mo_operandGrammar_102 (by decide) ?_
            refine cx_aload_n (i := 0) hE d_Mo_operandGrammar_109 rfl rfl ?_
            refine cx_bipush (v := 93) hE d_Mo_operandGrammar_110 (by decide) ?_
            refine cx_msh (a := 93) hE d_Mo_operandGrammar_112 rfl hT hh hl (by decide) (by decide) (by omega) hR (by omega) (Nat.le_of_ble_eq_true rfl) (fun G1 M1 hh hl hk112 hR => ?_) (fun G1 M1 e hh hdd hR => hd_115 _ _ _ hh hdd hR)
            have hmo := hh.1.1
            refine cx_goto (tgt := 166) hE d_Mo_operandGrammar_115 (by decide) ?_
            refine cx_vret hE d_Mo_operandGrammar_166 rfl ?_
            first
              | exact ⟨_, rfl, hh, Or.inl ⟨_, _, _, hR, hl⟩⟩
              | exact ⟨_, rfl, hh, Or.inr ⟨_, hR, hdd⟩⟩
    · have q_37 := of_decide_eq_true (cx_bn.mp c_37)
      unfold tx_prm at hR
      rw [if_pos q_37] at hR
      try simp only [tx_R.and_as, tx_op_and, tx_R.and_r] at hR
      have hkk := q_37
      rw [tx_tk_ok q_37, tx_R.and_r] at hR
      refine cx_aload_n (i := 0) hE d_Mo_operandGrammar_40 rfl rfl ?_
      refine cx_dup hE d_Mo_operandGrammar_41 ?_
      refine cx_get hE d_Mo_operandGrammar_42 f_Mo_193 (by assumption) (by rfl) ?_
      rw [hl.2.1]
      refine cx_iconst (v := 1) hE d_Mo_operandGrammar_45 (by decide) ?_
      refine cx_iadd hE d_Mo_operandGrammar_46 ?_
      show cx_V E _ _ [.int (nI (i') + 1), .ref mo] _
      rw [nI_1]
      refine cx_putg hE d_Mo_operandGrammar_47 f_Mo_193 (by assumption) (Nat.le_of_ble_eq_true rfl) (by first | rfl | exact cx_nr _ _) (by first | rfl | exact cx_fr _ _) (fun G_47 g_47 h_47 => ?_)
      rw [rm_s8] at g_47 h_47
      have hp_47 := hh.1.pi g_47
      have hh := hh.tr ⟨hp_47.1, hp_47.2, cx_pc g_47⟩
      have hl := hl.t1 hT (by rw [hkk]; decide) (by rw [hkk]; decide)
      have hmo := hh.1.1
      refine cx_goto (tgt := 166) hE d_Mo_operandGrammar_50 (by decide) ?_
      refine cx_vret hE d_Mo_operandGrammar_166 rfl ?_
      first
        | exact ⟨_, rfl, hh, Or.inl ⟨_, _, _, hR, hl⟩⟩
        | exact ⟨_, rfl, hh, Or.inr ⟨_, hR, hdd⟩⟩
  have hloop : ∀ (n i' : Nat) (b c : Int32) (r : Bool) (G1 : cx_G) (M1 : rm_M), T.length ≤ i' + n → i ≤ i' → rm_h k G mo P G1 M1 → rm_lv T M M1 i' f → tx_una T T.length i 0 0 false = tx_una T n i' b c r → cx_V E 0 [(0, false, .ref mo)] [] G1 := by
    intro n
    induction n with
    | zero =>
      intro i' b c r G1 M1 h1 h2 hh hl hu9
      exact absurd hl.2.2.1 (by omega)
    | succ n ih =>
      intro i' b c r G1 M1 h1 h2 hh hl hu9
      have hmo := hh.1.1
      refine cx_aload_n (i := 0) hE d_Mo_operandGrammar_0 rfl rfl ?_
      refine cx_get hE d_Mo_operandGrammar_1 f_Mo_187 (by assumption) (by rfl) ?_
      refine cx_if_ne (tgt := 30)  hE d_Mo_operandGrammar_4 (by decide) (fun c_4 => ?_) (fun c_4 => ?_)
      · exact absurd hl.2.2.2.1 c_4
        -- end
      · refine cx_aload_n (i := 0) hE d_Mo_operandGrammar_7 rfl rfl ?_
        refine cx_mki hE d_Mo_operandGrammar_8 rfl hT hh hl (by omega) (Nat.le_of_ble_eq_true rfl) (fun y_8 hy_8 => ?_)
        refine cx_invS1 hE d_Mo_operandGrammar_11 l_Mo_229 (c_Mo_isUnary y_8) rfl (by omega) (Nat.le_of_ble_eq_true rfl) n_Mo_isUnary (by first | rfl | (simp only [List.map_cons, List.map_nil, cx_rfc]; rfl)) ?_
        refine cx_if_eq (tgt := 30)  hE d_Mo_operandGrammar_14 (by decide) (fun c_14 => ?_) (fun c_14 => ?_)
        · have q_14 := cx_b0.mp c_14
          rw [rm_un _ hy_8] at q_14
          refine cx_sub [0] rfl ?_
          exact htail i' b c r _ _ (by omega) hh hl (by rw [hu9]; exact tx_una_e q_14)
        · have q_14 := cx_bn.mp c_14
          rw [rm_un _ hy_8] at q_14
          refine cx_aload_n (i := 0) hE d_Mo_operandGrammar_17 rfl rfl ?_
          refine cx_dup hE d_Mo_operandGrammar_18 ?_
          refine cx_get hE d_Mo_operandGrammar_19 f_Mo_193 (by assumption) (by rfl) ?_
          rw [hl.2.1]
          refine cx_iconst (v := 1) hE d_Mo_operandGrammar_22 (by decide) ?_
          refine cx_iadd hE d_Mo_operandGrammar_23 ?_
          show cx_V E _ _ [.int (nI (i') + 1), .ref mo] _
          rw [nI_1]
          refine cx_putg hE d_Mo_operandGrammar_24 f_Mo_193 (by assumption) (Nat.le_of_ble_eq_true rfl) (by first | rfl | exact cx_nr _ _) (by first | rfl | exact cx_fr _ _) (fun G_24 g_24 h_24 => ?_)
          rw [rm_s8] at g_24 h_24
          have hp_24 := hh.1.pi g_24
          have hh := hh.tr ⟨hp_24.1, hp_24.2, cx_pc g_24⟩
          have hl := hl.t1 hT (tx_pk.of (tx_isU_pk q_14)).1 (tx_pk.of (tx_isU_pk q_14)).2.1
          have hmo := hh.1.1
          refine cx_goto (tgt := 0) hE d_Mo_operandGrammar_27 (by decide) ?_
          refine cx_sub [0] rfl ?_
          cases hr9 : tx_isR (tx_ki T i') with
          | true => exact ih (i' + 1) _ _ _ _ _ (by omega) (by omega) hh hl (by rw [hu9]; exact tx_una_r q_14 hr9)
          | false => exact ih (i' + 1) _ _ _ _ _ (by omega) (by omega) hh hl (by rw [hu9]; exact tx_una_u q_14 hr9)
  exact hloop T.length i 0 0 false G M (by omega) (Nat.le_refl _) hh hl rfl
set_option maxRecDepth 100000 in
theorem c_Mo_expGrammar {k : cx_K} {l : Launch} {G : cx_G} {mo : Nat} {P : Nat → Nat} {M : rm_M} {T : List tx_Tk} {i f : Nat} {s : tx_S} (hT : rm_tk M T) (hm : rm_R k G mo P M) (hl : rm_lv T M M i f) {m : Nat} (hx : rm_PE k l T m) (hfm : f ≤ m) {R0 : tx_R Int32} (hR : R0 = tx_ex1 T (tx_exf T m) f i s) : cx_Sp k l m_Mo_expGrammar (4 * m + 14) [.ref mo] G (rm_o k G mo P T M f R0) := by
  intro E hE
  have hh : rm_h k G mo P G M := ⟨hm, rm_st.rf _ _ _, rfl⟩
  have hmo := hh.1.1
  have hle := hl.2.2.2.2.2
  have hTl := hT.1
  unfold tx_ex1 at hR
  have hd_67 : ∀ (G1 : cx_G) (M1 : rm_M) (e : Int32 × Int32), rm_h k G mo P G1 M1 → rm_dd T M M1 e → R0 = .inl e → cx_V E 67 [(0, false, .ref mo)] [] G1 := by
    intro G1 M1 e hh hdd hR
    have hmo := hh.1.1
    refine cx_aload_n (i := 0) hE d_Mo_expGrammar_67 rfl rfl ?_
    refine cx_dup hE d_Mo_expGrammar_68 ?_
    refine cx_get hE d_Mo_expGrammar_69 f_Mo_206 (by assumption) (by rfl) ?_
    refine cx_iconst (v := 1) hE d_Mo_expGrammar_72 (by decide) ?_
    refine cx_isub hE d_Mo_expGrammar_73 ?_
    refine cx_putg hE d_Mo_expGrammar_74 f_Mo_206 (by assumption) (Nat.le_of_ble_eq_true rfl) (by first | rfl | exact cx_nr _ _) (by first | rfl | exact cx_fr _ _) (fun G_74 g_74 h_74 => ?_)
    rw [rm_s11] at g_74 h_74
    have hp_74 := hh.1.pi g_74
    have hh := hh.tr ⟨hp_74.1, hp_74.2, cx_pc g_74⟩
    have hdd := hdd.dp ((M1.1 11) - 1)
    refine cx_vret hE d_Mo_expGrammar_77 rfl ?_
    exact ⟨_, rfl, hh, Or.inr ⟨_, hR, hdd⟩⟩
  have hd_63 : ∀ (G1 : cx_G) (M1 : rm_M) (e : Int32 × Int32), rm_h k G mo P G1 M1 → rm_dd T M M1 e → R0 = .inl e → cx_V E 63 [(0, false, .ref mo)] [] G1 := by
    intro G1 M1 e hh hdd hR
    have hmo := hh.1.1
    refine cx_aload_n (i := 0) hE d_Mo_expGrammar_63 rfl rfl ?_
    refine cx_msd hE d_Mo_expGrammar_64 rfl l_Mo_226 hh hdd (c_Mo_expGrammar_d (hT.sm hdd.1) hh.1 ⟨rm_sm.rf _, hdd.2⟩) (by omega) (Nat.le_of_ble_eq_true rfl) n_Mo_expGrammar (by rfl) (fun G1 M1 hh hdd => ?_)
    have hmo := hh.1.1
    refine cx_sub [0] rfl ?_
    exact hd_67 _ _ _ hh hdd hR
  have hd_57 : ∀ (G1 : cx_G) (M1 : rm_M) (e : Int32 × Int32), rm_h k G mo P G1 M1 → rm_dd T M M1 e → R0 = .inl e → cx_V E 57 [(0, false, .ref mo)] [] G1 := by
    intro G1 M1 e hh hdd hR
    have hmo := hh.1.1
    refine cx_aload_n (i := 0) hE d_Mo_expGrammar_57 rfl rfl ?_
    refine cx_bipush (v := 58) hE d_Mo_expGrammar_58 (by decide) ?_
    refine cx_mtkd hE d_Mo_expGrammar_60 rfl hT hh hdd (by omega) (Nat.le_of_ble_eq_true rfl) (fun G1 M1 hh hdd => ?_)
    have hmo := hh.1.1
    refine cx_sub [0] rfl ?_
    exact hd_63 _ _ _ hh hdd hR
  have hd_53 : ∀ (G1 : cx_G) (M1 : rm_M) (e : Int32 × Int32), rm_h k G mo P G1 M1 → rm_dd T M M1 e → R0 = .inl e → cx_V E 53 [(0, false, .ref mo)] [] G1 := by
    intro G1 M1 e hh hdd hR
    have hmo := hh.1.1
    refine cx_aload_n (i := 0) hE d_Mo_expGrammar_53 rfl rfl ?_
    refine cx_msd hE d_Mo_expGrammar_54 rfl l_Mo_226 hh hdd (c_Mo_expGrammar_d (hT.sm hdd.1) hh.1 ⟨rm_sm.rf _, hdd.2⟩) (by omega) (Nat.le_of_ble_eq_true rfl) n_Mo_expGrammar (by rfl) (fun G1 M1 hh hdd => ?_)
    have hmo := hh.1.1
    refine cx_sub [0] rfl ?_
    exact hd_57 _ _ _ hh hdd hR
  have hd_35 : ∀ (G1 : cx_G) (M1 : rm_M) (e : Int32 × Int32), rm_h k G mo P G1 M1 → rm_dd T M M1 e → R0 = .inl e → cx_V E 35 [(0, false, .ref mo)] [] G1 := by
    intro G1 M1 e hh hdd hR
    have hmo := hh.1.1
    refine cx_goto (tgt := 4) hE d_Mo_expGrammar_35 (by decide) ?_
    refine cx_aload_n (i := 0) hE d_Mo_expGrammar_4 rfl rfl ?_
    refine cx_get hE d_Mo_expGrammar_5 f_Mo_187 (by assumption) (by rfl) ?_
    refine cx_if_ne (tgt := 38)  hE d_Mo_expGrammar_8 (by decide) (fun c_8 => ?_) (fun c_8 => ?_)
    · refine cx_aload_n (i := 0) hE d_Mo_expGrammar_38 rfl rfl ?_
      refine cx_bipush (v := 63) hE d_Mo_expGrammar_39 (by decide) ?_
      refine cx_misd hE d_Mo_expGrammar_41 rfl hT hh hdd (by omega) (Nat.le_of_ble_eq_true rfl) ?_
      refine cx_if_eq (tgt := 77)  hE d_Mo_expGrammar_44 (by decide) (fun c_44 => ?_) (fun c_44 => ?_)
      · refine cx_vret hE d_Mo_expGrammar_77 rfl ?_
        exact ⟨_, rfl, hh, Or.inr ⟨_, hR, hdd⟩⟩
      · exact absurd rfl c_44
        -- end
    · exact absurd (hdd.2.2.1.symm.trans (by simpa using c_8)) hdd.2.2.2.2
      -- end
  have hd_4 : ∀ (G1 : cx_G) (M1 : rm_M) (e : Int32 × Int32), rm_h k G mo P G1 M1 → rm_dd T M M1 e → R0 = .inl e → cx_V E 4 [(0, false, .ref mo)] [] G1 := by
    intro G1 M1 e hh hdd hR
    have hmo := hh.1.1
    refine cx_aload_n (i := 0) hE d_Mo_expGrammar_4 rfl rfl ?_
    refine cx_get hE d_Mo_expGrammar_5 f_Mo_187 (by assumption) (by rfl) ?_
    refine cx_if_ne (tgt := 38)  hE d_Mo_expGrammar_8 (by decide) (fun c_8 => ?_) (fun c_8 => ?_)
    · refine cx_aload_n (i := 0) hE d_Mo_expGrammar_38 rfl rfl ?_
      refine cx_bipush (v := 63) hE d_Mo_expGrammar_39 (by decide) ?_
      refine cx_misd hE d_Mo_expGrammar_41 rfl hT hh hdd (by omega) (Nat.le_of_ble_eq_true rfl) ?_
      refine cx_if_eq (tgt := 77)  hE d_Mo_expGrammar_44 (by decide) (fun c_44 => ?_) (fun c_44 => ?_)
      · refine cx_vret hE d_Mo_expGrammar_77 rfl ?_
        exact ⟨_, rfl, hh, Or.inr ⟨_, hR, hdd⟩⟩
      · exact absurd rfl c_44
        -- end
    · exact absurd (hdd.2.2.1.symm.trans (by simpa using c_8)) hdd.2.2.2.2
      -- end
  have hend : ∀ (w : Int32) (i' : Nat) (s' : tx_S) (G1 : cx_G) (M1 : rm_M), rm_h k G mo P G1 M1 → rm_lv T M M1 i' f → R0 = (if tx_ki T i' = 63 then tx_cnd T (tx_exf T m) f w i' s' else .inr (w, i', s')) → cx_V E 38 [(0, false, .ref mo)] [] G1 := by
    intro w i' s' G1 M1 hh hl hR
    have hmo := hh.1.1
    refine cx_aload_n (i := 0) hE d_Mo_expGrammar_38 rfl rfl ?_
    refine cx_bipush (v := 63) hE d_Mo_expGrammar_39 (by decide) ?_
    refine cx_mis (a := 63) hE d_Mo_expGrammar_41 rfl hT hh hl (by decide) (by omega) (Nat.le_of_ble_eq_true rfl) ?_
    refine cx_if_eq (tgt := 77)  hE d_Mo_expGrammar_44 (by decide) (fun c_44 => ?_) (fun c_44 => ?_)
    · have q_44 := of_decide_eq_false (cx_b0.mp c_44)
      rw [if_neg q_44] at hR
      try simp only [tx_R.and_as, tx_op_and, tx_R.and_r] at hR
      refine cx_vret hE d_Mo_expGrammar_77 rfl ?_
      exact ⟨_, rfl, hh, Or.inl ⟨_, _, _, hR, hl⟩⟩
    · have q_44 := of_decide_eq_true (cx_bn.mp c_44)
      rw [if_pos q_44] at hR
      try simp only [tx_R.and_as, tx_op_and, tx_R.and_r] at hR
      unfold tx_cnd at hR
      refine cx_aload_n (i := 0) hE d_Mo_expGrammar_47 rfl rfl ?_
      refine cx_bipush (v := 63) hE d_Mo_expGrammar_48 (by decide) ?_
      refine cx_mop (a := 63) hE d_Mo_expGrammar_50 rfl hT hh hl (by decide) (by decide) hR (by omega) (Nat.le_of_ble_eq_true rfl) (fun f_50 G1 M1 hf50 => ?_) (fun G1 M1 e hh hdd hR => hd_53 _ _ _ hh hdd hR)
      subst hf50
      intro hh hl hk50 hR
      have hmo := hh.1.1
      refine cx_aload_n (i := 0) hE d_Mo_expGrammar_53 rfl rfl ?_
      refine cx_msb hE d_Mo_expGrammar_54 rfl l_Mo_226 hh hl hR (hx _ _ _ _ _ _ _ (by omega) (hT.sm hl.1) hh.1 ⟨rm_sm.rf _, hl.2⟩) (by omega) (Nat.le_of_ble_eq_true rfl) n_Mo_expGrammar (by rfl) (fun w_54 i_54 s_54 G1 M1 hr_54 hh hl hR => ?_) (fun G1 M1 e hh hdd hR => hd_57 _ _ _ hh hdd hR)
      have hmo := hh.1.1
      have hup_54 := tx_up.exf _ _ _ _ _ _ _ hr_54
      refine cx_aload_n (i := 0) hE d_Mo_expGrammar_57 rfl rfl ?_
      refine cx_bipush (v := 58) hE d_Mo_expGrammar_58 (by decide) ?_
      refine cx_mtk (a := 58) hE d_Mo_expGrammar_60 rfl hT hh hl (by decide) (by decide) hR (by omega) (Nat.le_of_ble_eq_true rfl) (fun G1 M1 hh hl hk60 hR => ?_) (fun G1 M1 e hh hdd hR => hd_63 _ _ _ hh hdd hR)
      have hmo := hh.1.1
      refine cx_aload_n (i := 0) hE d_Mo_expGrammar_63 rfl rfl ?_
      refine cx_msb hE d_Mo_expGrammar_64 rfl l_Mo_226 hh hl hR (hx _ _ _ _ _ _ _ (by omega) (hT.sm hl.1) hh.1 ⟨rm_sm.rf _, hl.2⟩) (by omega) (Nat.le_of_ble_eq_true rfl) n_Mo_expGrammar (by rfl) (fun w_64 i_64 s_64 G1 M1 hr_64 hh hl hR => ?_) (fun G1 M1 e hh hdd hR => hd_67 _ _ _ hh hdd hR)
      have hmo := hh.1.1
      have hup_64 := tx_up.exf _ _ _ _ _ _ _ hr_64
      refine cx_aload_n (i := 0) hE d_Mo_expGrammar_67 rfl rfl ?_
      refine cx_dup hE d_Mo_expGrammar_68 ?_
      refine cx_get hE d_Mo_expGrammar_69 f_Mo_206 (by assumption) (by rfl) ?_
      refine cx_iconst (v := 1) hE d_Mo_expGrammar_72 (by decide) ?_
      refine cx_isub hE d_Mo_expGrammar_73 ?_
      refine cx_putg hE d_Mo_expGrammar_74 f_Mo_206 (by assumption) (Nat.le_of_ble_eq_true rfl) (by first | rfl | exact cx_nr _ _) (by first | rfl | exact cx_fr _ _) (fun G_74 g_74 h_74 => ?_)
      rw [rm_s11] at g_74 h_74
      have hp_74 := hh.1.pi g_74
      have hh := hh.tr ⟨hp_74.1, hp_74.2, cx_pc g_74⟩
      have hl := hl.dp (v := M1.1 11 - 1) (f' := f_50 + 1) (by rw [hl.2.2.2.2.1]; exact tx_o62 f_50 (by omega)) (by omega)
      refine cx_vret hE d_Mo_expGrammar_77 rfl ?_
      exact ⟨_, rfl, hh, Or.inl ⟨_, _, _, hR, hl⟩⟩
  have hloop : ∀ (n : Nat) (W : tx_Wt) (w : Int32) (i' : Nat) (s' : tx_S) (G1 : cx_G) (M1 : rm_M), T.length ≤ i' + n → rm_h k G mo P G1 M1 → rm_lv T M M1 i' f → R0 = (tx_lop T (tx_exf T m) f n W w i' s').and (fun w i s => if tx_ki T i = 63 then tx_cnd T (tx_exf T m) f w i s else .inr (w, i, s)) → cx_V E 4 [(0, false, .ref mo)] [] G1 := by
    intro n
    induction n with
    | zero =>
      intro W w i' s' G1 M1 h1 hh hl hR
      exact absurd hl.2.2.1 (by omega)
    | succ n ih =>
      intro W w i' s' G1 M1 h1 hh hl hR
      unfold tx_lop at hR
      have hmo := hh.1.1
      refine cx_aload_n (i := 0) hE d_Mo_expGrammar_4 rfl rfl ?_
      refine cx_get hE d_Mo_expGrammar_5 f_Mo_187 (by assumption) (by rfl) ?_
      refine cx_if_ne (tgt := 38)  hE d_Mo_expGrammar_8 (by decide) (fun c_8 => ?_) (fun c_8 => ?_)
      · exact absurd hl.2.2.2.1 c_8
        -- end
      · refine cx_aload_n (i := 0) hE d_Mo_expGrammar_11 rfl rfl ?_
        refine cx_mki hE d_Mo_expGrammar_12 rfl hT hh hl (by omega) (Nat.le_of_ble_eq_true rfl) (fun y_12 hy_12 => ?_)
        refine cx_invS1 hE d_Mo_expGrammar_15 l_Mo_220 (c_Mo_rank y_12) rfl (by omega) (Nat.le_of_ble_eq_true rfl) n_Mo_rank (by first | rfl | (simp only [List.map_cons, List.map_nil, cx_rfc]; rfl)) ?_
        refine cx_if_le (tgt := 38)  hE d_Mo_expGrammar_18 (by decide) (fun c_18 => ?_) (fun c_18 => ?_)
        · rw [rm_rk _ hy_12] at c_18
          have q_18 := (rm_r0 _ hy_12).mp c_18
          rw [if_pos q_18] at hR
          try simp only [tx_R.and_as, tx_op_and, tx_R.and_r] at hR
          refine cx_sub [0] rfl ?_
          exact hend _ _ _ _ _ hh hl hR
        · rw [rm_rk _ hy_12] at c_18
          have q_18 : tx_rank (tx_ki T i') ≠ 0 := fun z => c_18 ((rm_r0 _ hy_12).mpr z)
          rw [if_neg q_18, tx_tk_ok rfl] at hR
          try simp only [tx_R.and_as, tx_op_and, tx_R.and_r] at hR
          refine cx_aload_n (i := 0) hE d_Mo_expGrammar_21 rfl rfl ?_
          refine cx_dup hE d_Mo_expGrammar_22 ?_
          refine cx_get hE d_Mo_expGrammar_23 f_Mo_193 (by assumption) (by rfl) ?_
          rw [hl.2.1]
          refine cx_iconst (v := 1) hE d_Mo_expGrammar_26 (by decide) ?_
          refine cx_iadd hE d_Mo_expGrammar_27 ?_
          show cx_V E _ _ [.int (nI (i') + 1), .ref mo] _
          rw [nI_1]
          refine cx_putg hE d_Mo_expGrammar_28 f_Mo_193 (by assumption) (Nat.le_of_ble_eq_true rfl) (by first | rfl | exact cx_nr _ _) (by first | rfl | exact cx_fr _ _) (fun G_28 g_28 h_28 => ?_)
          rw [rm_s8] at g_28 h_28
          have hp_28 := hh.1.pi g_28
          have hh := hh.tr ⟨hp_28.1, hp_28.2, cx_pc g_28⟩
          have hl := hl.t1 hT (tx_pk.of (tx_rank_pk q_18)).1 (tx_pk.of (tx_rank_pk q_18)).2.1
          have hmo := hh.1.1
          refine cx_aload_n (i := 0) hE d_Mo_expGrammar_31 rfl rfl ?_
          refine cx_msb hE d_Mo_expGrammar_32 rfl l_Mo_213 hh hl hR (c_Mo_operandGrammar (hT.sm hl.1) hh.1 ⟨rm_sm.rf _, hl.2⟩ hx (by omega) rfl) (by omega) (Nat.le_of_ble_eq_true rfl) n_Mo_operandGrammar (by rfl) (fun w_32 i_32 s_32 G1 M1 hr_32 hh hl hR => ?_) (fun G1 M1 e hh hdd hR => hd_35 _ _ _ hh hdd hR)
          have hmo := hh.1.1
          have hup_32 := tx_up.opr (tx_up.exf m) _ _ _ hr_32
          refine cx_goto (tgt := 4) hE d_Mo_expGrammar_35 (by decide) ?_
          refine cx_sub [0] rfl ?_
          exact ih _ _ _ _ _ _ (by omega) hh hl hR
  refine cx_aload_n (i := 0) hE d_Mo_expGrammar_0 rfl rfl ?_
  refine cx_msb hE d_Mo_expGrammar_1 rfl l_Mo_213 hh hl hR (c_Mo_operandGrammar (hT.sm hl.1) hh.1 ⟨rm_sm.rf _, hl.2⟩ hx (by omega) rfl) (by omega) (Nat.le_of_ble_eq_true rfl) n_Mo_operandGrammar (by rfl) (fun w_1 i_1 s_1 G1 M1 hr_1 hh hl hR => ?_) (fun G1 M1 e hh hdd hR => hd_4 _ _ _ hh hdd hR)
  have hmo := hh.1.1
  have hup_1 := tx_up.opr (tx_up.exf m) _ _ _ hr_1
  refine cx_sub [0] rfl ?_
  exact hloop T.length [] _ _ _ _ _ (by omega) hh hl hR
theorem rm_PE.all {k : cx_K} {l : Launch} {T : List tx_Tk} : ∀ m, rm_PE k l T m := by
  intro m
  induction m with
  | zero => exact fun f G mo P M i s hf => absurd hf (Nat.not_lt_zero _)
  | succ m ih => exact fun f G mo P M i s hf hT hm hl => c_Mo_expGrammar hT hm hl ih (by omega) rfl
theorem c_Mo_ex {k : cx_K} {l : Launch} {G : cx_G} {mo : Nat} {P : Nat → Nat} {M : rm_M} {T : List tx_Tk} {i f : Nat} {s : tx_S} (hT : rm_tk M T) (hm : rm_R k G mo P M) (hl : rm_lv T M M i f) : cx_Sp k l m_Mo_expGrammar 254 [.ref mo] G (rm_o k G mo P T M f (tx_exp T f i s)) := rm_PE.all 61 f G mo P M i s (by have := hl.2.2.2.2.2; omega) hT hm hl

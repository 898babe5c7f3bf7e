/-! THE REFERENCE: first pass, statements. -/
set_option maxRecDepth 100000 in
theorem c_Mo_caseGrammar_d {k : cx_K} {l : Launch} {G : cx_G} {mo : Nat} {P : Nat → Nat} {M1 : rm_M} {T : List tx_Tk} {e : Int32 × Int32} (hT : rm_tk M1 T) (hm : rm_R k G mo P M1) (hdd : rm_dd T M1 M1 e) : cx_Sp k l m_Mo_caseGrammar 9 [.ref mo] G (rm_x k G mo P T M1 e) := by
  intro E hE
  have hh : rm_h k G mo P G M1 := ⟨hm, rm_st.rf _ _ _, rfl⟩
  have hmo := hh.1.1
  refine cx_aload_n (i := 0) hE d_Mo_caseGrammar_0 rfl rfl ?_
  refine cx_sipush (v := 314) hE d_Mo_caseGrammar_1 (by decide) ?_
  refine cx_mopd hE d_Mo_caseGrammar_4 rfl hT hh hdd (by omega) (Nat.le_of_ble_eq_true rfl) (fun G1 M1 hh hdd => ?_)
  have hmo := hh.1.1
  refine cx_aload_n (i := 0) hE d_Mo_caseGrammar_7 rfl rfl ?_
  refine cx_bipush (v := 40) hE d_Mo_caseGrammar_8 (by decide) ?_
  refine cx_mopd hE d_Mo_caseGrammar_10 rfl hT hh hdd (by omega) (Nat.le_of_ble_eq_true rfl) (fun G1 M1 hh hdd => ?_)
  have hmo := hh.1.1
  refine cx_aload_n (i := 0) hE d_Mo_caseGrammar_13 rfl rfl ?_
  refine cx_msd hE d_Mo_caseGrammar_14 rfl l_Mo_226 hh hdd (c_Mo_expGrammar_d (hT.sm hdd.1) hh.1 ⟨rm_sm.rf _, hdd.2⟩) (by omega) (Nat.le_of_ble_eq_true rfl) n_Mo_expGrammar (by rfl) (fun G1 M1 hh hdd => ?_)
  have hmo := hh.1.1
  refine cx_aload_n (i := 0) hE d_Mo_caseGrammar_17 rfl rfl ?_
  refine cx_bipush (v := 41) hE d_Mo_caseGrammar_18 (by decide) ?_
  refine cx_mshd hE d_Mo_caseGrammar_20 rfl hT hh hdd (by omega) (Nat.le_of_ble_eq_true rfl) (fun G1 M1 hh hdd => ?_)
  have hmo := hh.1.1
  refine cx_aload_n (i := 0) hE d_Mo_caseGrammar_23 rfl rfl ?_
  refine cx_sipush (v := 402) hE d_Mo_caseGrammar_24 (by decide) ?_
  refine cx_misd hE d_Mo_caseGrammar_27 rfl hT hh hdd (by omega) (Nat.le_of_ble_eq_true rfl) ?_
  refine cx_if_eq (tgt := 85)  hE d_Mo_caseGrammar_30 (by decide) (fun c_30 => ?_) (fun c_30 => ?_)
  · refine cx_aload_n (i := 0) hE d_Mo_caseGrammar_85 rfl rfl ?_
    refine cx_sipush (v := 316) hE d_Mo_caseGrammar_86 (by decide) ?_
    refine cx_misd hE d_Mo_caseGrammar_89 rfl hT hh hdd (by omega) (Nat.le_of_ble_eq_true rfl) ?_
    refine cx_if_eq (tgt := 115)  hE d_Mo_caseGrammar_92 (by decide) (fun c_92 => ?_) (fun c_92 => ?_)
    · refine cx_aload_n (i := 0) hE d_Mo_caseGrammar_115 rfl rfl ?_
      refine cx_sipush (v := 315) hE d_Mo_caseGrammar_116 (by decide) ?_
      refine cx_mshd hE d_Mo_caseGrammar_119 rfl hT hh hdd (by omega) (Nat.le_of_ble_eq_true rfl) (fun G1 M1 hh hdd => ?_)
      have hmo := hh.1.1
      refine cx_vret hE d_Mo_caseGrammar_122 rfl ?_
      exact ⟨_, rfl, hh, hdd⟩
    · exact absurd rfl c_92
      -- end
  · exact absurd rfl c_30
    -- end
set_option maxRecDepth 100000 in
theorem c_Mo_statementGrammar_d {k : cx_K} {l : Launch} {G : cx_G} {mo : Nat} {P : Nat → Nat} {M1 : rm_M} {T : List tx_Tk} {e : Int32 × Int32} (hT : rm_tk M1 T) (hm : rm_R k G mo P M1) (hdd : rm_dd T M1 M1 e) : cx_Sp k l m_Mo_statementGrammar 9 [.ref mo] G (rm_x k G mo P T M1 e) := by
  intro E hE
  have hh : rm_h k G mo P G M1 := ⟨hm, rm_st.rf _ _ _, rfl⟩
  have hmo := hh.1.1
  refine cx_aload_n (i := 0) hE d_Mo_statementGrammar_0 rfl rfl ?_
  refine cx_sipush (v := 310) hE d_Mo_statementGrammar_1 (by decide) ?_
  refine cx_misd hE d_Mo_statementGrammar_4 rfl hT hh hdd (by omega) (Nat.le_of_ble_eq_true rfl) ?_
  refine cx_if_eq (tgt := 51)  hE d_Mo_statementGrammar_7 (by decide) (fun c_7 => ?_) (fun c_7 => ?_)
  · refine cx_aload_n (i := 0) hE d_Mo_statementGrammar_51 rfl rfl ?_
    refine cx_sipush (v := 312) hE d_Mo_statementGrammar_52 (by decide) ?_
    refine cx_misd hE d_Mo_statementGrammar_55 rfl hT hh hdd (by omega) (Nat.le_of_ble_eq_true rfl) ?_
    refine cx_if_eq (tgt := 125)  hE d_Mo_statementGrammar_58 (by decide) (fun c_58 => ?_) (fun c_58 => ?_)
    · refine cx_aload_n (i := 0) hE d_Mo_statementGrammar_125 rfl rfl ?_
      refine cx_sipush (v := 314) hE d_Mo_statementGrammar_126 (by decide) ?_
      refine cx_misd hE d_Mo_statementGrammar_129 rfl hT hh hdd (by omega) (Nat.le_of_ble_eq_true rfl) ?_
      refine cx_if_eq (tgt := 142)  hE d_Mo_statementGrammar_132 (by decide) (fun c_132 => ?_) (fun c_132 => ?_)
      · refine cx_aload_n (i := 0) hE d_Mo_statementGrammar_142 rfl rfl ?_
        refine cx_sipush (v := 400) hE d_Mo_statementGrammar_143 (by decide) ?_
        refine cx_mtkd hE d_Mo_statementGrammar_146 rfl hT hh hdd (by omega) (Nat.le_of_ble_eq_true rfl) (fun G1 M1 hh hdd => ?_)
        have hmo := hh.1.1
        refine cx_aload_n (i := 0) hE d_Mo_statementGrammar_149 rfl rfl ?_
        refine cx_bipush (v := 91) hE d_Mo_statementGrammar_150 (by decide) ?_
        refine cx_misd hE d_Mo_statementGrammar_152 rfl hT hh hdd (by omega) (Nat.le_of_ble_eq_true rfl) ?_
        refine cx_if_eq (tgt := 174)  hE d_Mo_statementGrammar_155 (by decide) (fun c_155 => ?_) (fun c_155 => ?_)
        · refine cx_aload_n (i := 0) hE d_Mo_statementGrammar_174 rfl rfl ?_
          refine cx_sipush (v := 260) hE d_Mo_statementGrammar_175 (by decide) ?_
          refine cx_mtkd hE d_Mo_statementGrammar_178 rfl hT hh hdd (by omega) (Nat.le_of_ble_eq_true rfl) (fun G1 M1 hh hdd => ?_)
          have hmo := hh.1.1
          refine cx_aload_n (i := 0) hE d_Mo_statementGrammar_181 rfl rfl ?_
          refine cx_msd hE d_Mo_statementGrammar_182 rfl l_Mo_226 hh hdd (c_Mo_expGrammar_d (hT.sm hdd.1) hh.1 ⟨rm_sm.rf _, hdd.2⟩) (by omega) (Nat.le_of_ble_eq_true rfl) n_Mo_expGrammar (by rfl) (fun G1 M1 hh hdd => ?_)
          have hmo := hh.1.1
          refine cx_aload_n (i := 0) hE d_Mo_statementGrammar_185 rfl rfl ?_
          refine cx_bipush (v := 59) hE d_Mo_statementGrammar_186 (by decide) ?_
          refine cx_mtkd hE d_Mo_statementGrammar_188 rfl hT hh hdd (by omega) (Nat.le_of_ble_eq_true rfl) (fun G1 M1 hh hdd => ?_)
          have hmo := hh.1.1
          refine cx_vret hE d_Mo_statementGrammar_191 rfl ?_
          exact ⟨_, rfl, hh, hdd⟩
        · exact absurd rfl c_155
          -- end
      · exact absurd rfl c_132
        -- end
    · exact absurd rfl c_58
      -- end
  · exact absurd rfl c_7
    -- end
def rm_PS (k : cx_K) (l : Launch) (T : List tx_Tk) (m : Nat) : Prop := ∀ (f : Nat) (G : cx_G) (mo : Nat) (P : Nat → Nat) (M : rm_M) (i : Nat) (s : tx_S), f < m → rm_tk M T → rm_R k G mo P M → rm_lv T M M i f → cx_Sp k l m_Mo_statementGrammar (4 * m + 300) [.ref mo] G (rm_o k G mo P T M f (tx_stf T m f i s))
set_option maxRecDepth 100000 in
theorem c_Mo_caseGrammar {k : cx_K} {l : Launch} {G : cx_G} {mo : Nat} {P : Nat → Nat} {M : rm_M} {T : List tx_Tk} {i f : Nat} {s : tx_S} (hT : rm_tk M T) (hm : rm_R k G mo P M) (hl : rm_lv T M M i f) {m : Nat} (hx : rm_PS k l T m) (hfm : f ≤ m) {R0 : tx_R Unit} (hR : R0 = tx_css T (tx_stf T m) f i s) : cx_Sp k l m_Mo_caseGrammar (4 * m + 301) [.ref mo] G (rm_o k G mo P T M f R0) := by
  intro E hE
  have hh : rm_h k G mo P G M := ⟨hm, rm_st.rf _ _ _, rfl⟩
  have hmo := hh.1.1
  have hle := hl.2.2.2.2.2
  have hTl := hT.1
  unfold tx_css at hR
  have hd_122 : ∀ (G1 : cx_G) (M1 : rm_M) (e : Int32 × Int32), rm_h k G mo P G1 M1 → rm_dd T M M1 e → R0 = .inl e → cx_V E 122 [(0, false, .ref mo)] [] G1 := by
    intro G1 M1 e hh hdd hR
    have hmo := hh.1.1
    refine cx_vret hE d_Mo_caseGrammar_122 rfl ?_
    exact ⟨_, rfl, hh, Or.inr ⟨_, hR, hdd⟩⟩
  have hd_115 : ∀ (G1 : cx_G) (M1 : rm_M) (e : Int32 × Int32), rm_h k G mo P G1 M1 → rm_dd T M M1 e → R0 = .inl e → cx_V E 115 [(0, false, .ref mo)] [] G1 := by
    intro G1 M1 e hh hdd hR
    have hmo := hh.1.1
    refine cx_aload_n (i := 0) hE d_Mo_caseGrammar_115 rfl rfl ?_
    refine cx_sipush (v := 315) hE d_Mo_caseGrammar_116 (by decide) ?_
    refine cx_mshd hE d_Mo_caseGrammar_119 rfl hT hh hdd (by omega) (Nat.le_of_ble_eq_true rfl) (fun G1 M1 hh hdd => ?_)
    have hmo := hh.1.1
    refine cx_sub [0] rfl ?_
    exact hd_122 _ _ _ hh hdd hR
  have hd_111 : ∀ (G1 : cx_G) (M1 : rm_M) (e : Int32 × Int32), rm_h k G mo P G1 M1 → rm_dd T M M1 e → R0 = .inl e → cx_V E 111 [(0, false, .ref mo)] [] G1 := by
    intro G1 M1 e hh hdd hR
    have hmo := hh.1.1
    refine cx_aload_n (i := 0) hE d_Mo_caseGrammar_111 rfl rfl ?_
    refine cx_msd hE d_Mo_caseGrammar_112 rfl l_Mo_247 hh hdd (c_Mo_statementGrammar_d (hT.sm hdd.1) hh.1 ⟨rm_sm.rf _, hdd.2⟩) (by omega) (Nat.le_of_ble_eq_true rfl) n_Mo_statementGrammar (by rfl) (fun G1 M1 hh hdd => ?_)
    have hmo := hh.1.1
    refine cx_sub [0] rfl ?_
    exact hd_115 _ _ _ hh hdd hR
  have hd_82 : ∀ (G1 : cx_G) (M1 : rm_M) (e : Int32 × Int32), rm_h k G mo P G1 M1 → rm_dd T M M1 e → R0 = .inl e → cx_V E 82 [(0, false, .ref mo)] [] G1 := by
    intro G1 M1 e hh hdd hR
    have hmo := hh.1.1
    refine cx_goto (tgt := 23) hE d_Mo_caseGrammar_82 (by decide) ?_
    refine cx_aload_n (i := 0) hE d_Mo_caseGrammar_23 rfl rfl ?_
    refine cx_sipush (v := 402) hE d_Mo_caseGrammar_24 (by decide) ?_
    refine cx_misd hE d_Mo_caseGrammar_27 rfl hT hh hdd (by omega) (Nat.le_of_ble_eq_true rfl) ?_
    refine cx_if_eq (tgt := 85)  hE d_Mo_caseGrammar_30 (by decide) (fun c_30 => ?_) (fun c_30 => ?_)
    · refine cx_aload_n (i := 0) hE d_Mo_caseGrammar_85 rfl rfl ?_
      refine cx_sipush (v := 316) hE d_Mo_caseGrammar_86 (by decide) ?_
      refine cx_misd hE d_Mo_caseGrammar_89 rfl hT hh hdd (by omega) (Nat.le_of_ble_eq_true rfl) ?_
      refine cx_if_eq (tgt := 115)  hE d_Mo_caseGrammar_92 (by decide) (fun c_92 => ?_) (fun c_92 => ?_)
      · refine cx_sub [0] rfl ?_
        exact hd_115 _ _ _ hh hdd hR
      · exact absurd rfl c_92
        -- end
    · exact absurd rfl c_30
      -- end
  have hd_78 : ∀ (G1 : cx_G) (M1 : rm_M) (e : Int32 × Int32), rm_h k G mo P G1 M1 → rm_dd T M M1 e → R0 = .inl e → cx_V E 78 [(0, false, .ref mo)] [] G1 := by
    intro G1 M1 e hh hdd hR
    have hmo := hh.1.1
    refine cx_aload_n (i := 0) hE d_Mo_caseGrammar_78 rfl rfl ?_
    refine cx_msd hE d_Mo_caseGrammar_79 rfl l_Mo_247 hh hdd (c_Mo_statementGrammar_d (hT.sm hdd.1) hh.1 ⟨rm_sm.rf _, hdd.2⟩) (by omega) (Nat.le_of_ble_eq_true rfl) n_Mo_statementGrammar (by rfl) (fun G1 M1 hh hdd => ?_)
    have hmo := hh.1.1
    refine cx_sub [0] rfl ?_
    exact hd_82 _ _ _ hh hdd hR
  have hd_69 : ∀ (G1 : cx_G) (M1 : rm_M) (e : Int32 × Int32), rm_h k G mo P G1 M1 → rm_dd T M M1 e → R0 = .inl e → cx_V E 69 [(0, false, .ref mo)] [] G1 := by
    intro G1 M1 e hh hdd hR
    have hmo := hh.1.1
    refine cx_goto (tgt := 43) hE d_Mo_caseGrammar_69 (by decide) ?_
    refine cx_aload_n (i := 0) hE d_Mo_caseGrammar_43 rfl rfl ?_
    refine cx_bipush (v := 44) hE d_Mo_caseGrammar_44 (by decide) ?_
    refine cx_misd hE d_Mo_caseGrammar_46 rfl hT hh hdd (by omega) (Nat.le_of_ble_eq_true rfl) ?_
    refine cx_if_eq (tgt := 72)  hE d_Mo_caseGrammar_49 (by decide) (fun c_49 => ?_) (fun c_49 => ?_)
    · refine cx_aload_n (i := 0) hE d_Mo_caseGrammar_72 rfl rfl ?_
      refine cx_bipush (v := 58) hE d_Mo_caseGrammar_73 (by decide) ?_
      refine cx_mtkd hE d_Mo_caseGrammar_75 rfl hT hh hdd (by omega) (Nat.le_of_ble_eq_true rfl) (fun G1 M1 hh hdd => ?_)
      have hmo := hh.1.1
      refine cx_sub [0] rfl ?_
      exact hd_78 _ _ _ hh hdd hR
    · exact absurd rfl c_49
      -- end
  have hd_23 : ∀ (G1 : cx_G) (M1 : rm_M) (e : Int32 × Int32), rm_h k G mo P G1 M1 → rm_dd T M M1 e → R0 = .inl e → cx_V E 23 [(0, false, .ref mo)] [] G1 := by
    intro G1 M1 e hh hdd hR
    have hmo := hh.1.1
    refine cx_aload_n (i := 0) hE d_Mo_caseGrammar_23 rfl rfl ?_
    refine cx_sipush (v := 402) hE d_Mo_caseGrammar_24 (by decide) ?_
    refine cx_misd hE d_Mo_caseGrammar_27 rfl hT hh hdd (by omega) (Nat.le_of_ble_eq_true rfl) ?_
    refine cx_if_eq (tgt := 85)  hE d_Mo_caseGrammar_30 (by decide) (fun c_30 => ?_) (fun c_30 => ?_)
    · refine cx_aload_n (i := 0) hE d_Mo_caseGrammar_85 rfl rfl ?_
      refine cx_sipush (v := 316) hE d_Mo_caseGrammar_86 (by decide) ?_
      refine cx_misd hE d_Mo_caseGrammar_89 rfl hT hh hdd (by omega) (Nat.le_of_ble_eq_true rfl) ?_
      refine cx_if_eq (tgt := 115)  hE d_Mo_caseGrammar_92 (by decide) (fun c_92 => ?_) (fun c_92 => ?_)
      · refine cx_sub [0] rfl ?_
        exact hd_115 _ _ _ hh hdd hR
      · exact absurd rfl c_92
        -- end
    · exact absurd rfl c_30
      -- end
  have hd_17 : ∀ (G1 : cx_G) (M1 : rm_M) (e : Int32 × Int32), rm_h k G mo P G1 M1 → rm_dd T M M1 e → R0 = .inl e → cx_V E 17 [(0, false, .ref mo)] [] G1 := by
    intro G1 M1 e hh hdd hR
    have hmo := hh.1.1
    refine cx_aload_n (i := 0) hE d_Mo_caseGrammar_17 rfl rfl ?_
    refine cx_bipush (v := 41) hE d_Mo_caseGrammar_18 (by decide) ?_
    refine cx_mshd hE d_Mo_caseGrammar_20 rfl hT hh hdd (by omega) (Nat.le_of_ble_eq_true rfl) (fun G1 M1 hh hdd => ?_)
    have hmo := hh.1.1
    refine cx_sub [0] rfl ?_
    exact hd_23 _ _ _ hh hdd hR
  have hd_13 : ∀ (G1 : cx_G) (M1 : rm_M) (e : Int32 × Int32), rm_h k G mo P G1 M1 → rm_dd T M M1 e → R0 = .inl e → cx_V E 13 [(0, false, .ref mo)] [] G1 := by
    intro G1 M1 e hh hdd hR
    have hmo := hh.1.1
    refine cx_aload_n (i := 0) hE d_Mo_caseGrammar_13 rfl rfl ?_
    refine cx_msd hE d_Mo_caseGrammar_14 rfl l_Mo_226 hh hdd (c_Mo_expGrammar_d (hT.sm hdd.1) hh.1 ⟨rm_sm.rf _, hdd.2⟩) (by omega) (Nat.le_of_ble_eq_true rfl) n_Mo_expGrammar (by rfl) (fun G1 M1 hh hdd => ?_)
    have hmo := hh.1.1
    refine cx_sub [0] rfl ?_
    exact hd_17 _ _ _ hh hdd hR
  have hd_7 : ∀ (G1 : cx_G) (M1 : rm_M) (e : Int32 × Int32), rm_h k G mo P G1 M1 → rm_dd T M M1 e → R0 = .inl e → cx_V E 7 [(0, false, .ref mo)] [] G1 := by
    intro G1 M1 e hh hdd hR
    have hmo := hh.1.1
    refine cx_aload_n (i := 0) hE d_Mo_caseGrammar_7 rfl rfl ?_
    refine cx_bipush (v := 40) hE d_Mo_caseGrammar_8 (by decide) ?_
    refine cx_mopd hE d_Mo_caseGrammar_10 rfl hT hh hdd (by omega) (Nat.le_of_ble_eq_true rfl) (fun G1 M1 hh hdd => ?_)
    have hmo := hh.1.1
    refine cx_sub [0] rfl ?_
    exact hd_13 _ _ _ hh hdd hR
  refine cx_aload_n (i := 0) hE d_Mo_caseGrammar_0 rfl rfl ?_
  refine cx_sipush (v := 314) hE d_Mo_caseGrammar_1 (by decide) ?_
  refine cx_mop (a := 15) hE d_Mo_caseGrammar_4 rfl hT hh hl (by decide) (by decide) hR (by omega) (Nat.le_of_ble_eq_true rfl) (fun f_4 G1 M1 hf4 => ?_) (fun G1 M1 e hh hdd hR => hd_7 _ _ _ hh hdd hR)
  subst hf4
  intro hh hl hk4 hR
  have hmo := hh.1.1
  refine cx_aload_n (i := 0) hE d_Mo_caseGrammar_7 rfl rfl ?_
  refine cx_bipush (v := 40) hE d_Mo_caseGrammar_8 (by decide) ?_
  refine cx_mop (a := 40) hE d_Mo_caseGrammar_10 rfl hT hh hl (by decide) (by decide) hR (by omega) (Nat.le_of_ble_eq_true rfl) (fun f_10 G1 M1 hf10 => ?_) (fun G1 M1 e hh hdd hR => hd_13 _ _ _ hh hdd hR)
  subst hf10
  intro hh hl hk10 hR
  have hmo := hh.1.1
  obtain ⟨m, rfl⟩ : ∃ m9, m = m9 + 1 := ⟨m - 1, by omega⟩
  refine cx_aload_n (i := 0) hE d_Mo_caseGrammar_13 rfl rfl ?_
  refine cx_msb hE d_Mo_caseGrammar_14 rfl l_Mo_226 hh hl hR (c_Mo_ex (hT.sm hl.1) hh.1 ⟨rm_sm.rf _, hl.2⟩) (by omega) (Nat.le_of_ble_eq_true rfl) n_Mo_expGrammar (by rfl) (fun w_14 i_14 s_14 G1 M1 hr_14 hh hl hR => ?_) (fun G1 M1 e hh hdd hR => hd_17 _ _ _ hh hdd hR)
  have hmo := hh.1.1
  have hup_14 := tx_up.exp _ _ _ _ _ _ hr_14
  generalize w_14 = w at *
  have hend : ∀ (i' : Nat) (s' : tx_S) (G1 : cx_G) (M1 : rm_M), rm_h k G mo P G1 M1 → rm_lv T M M1 i' (f_10 + 1) → R0 = (fun _ i s => (if tx_ki T i = 17 then (tx_tk T 17 i s).and fun _ i s => (tx_tk T 58 i s).and fun _ i s => (tx_stf T (m + 1)) (f_10 + 1) i s else .inr ((), i, s)).and (fun _ i s => (tx_tk T 16 i s).and fun _ i s => .inr ((), i, s))) () i' s' → cx_V E 85 [(0, false, .ref mo)] [] G1 := by
    intro i' s' G1 M1 hh hl hR
    simp only [] at hR
    have hmo := hh.1.1
    refine cx_aload_n (i := 0) hE d_Mo_caseGrammar_85 rfl rfl ?_
    refine cx_sipush (v := 316) hE d_Mo_caseGrammar_86 (by decide) ?_
    refine cx_mis (a := 17) hE d_Mo_caseGrammar_89 rfl hT hh hl (by decide) (by omega) (Nat.le_of_ble_eq_true rfl) ?_
    refine cx_if_eq (tgt := 115)  hE d_Mo_caseGrammar_92 (by decide) (fun c_92 => ?_) (fun c_92 => ?_)
    · have q_92 := of_decide_eq_false (cx_b0.mp c_92)
      rw [if_neg q_92] at hR
      try simp only [tx_R.and_as, tx_op_and, tx_R.and_r] at hR
      refine cx_aload_n (i := 0) hE d_Mo_caseGrammar_115 rfl rfl ?_
      refine cx_sipush (v := 315) hE d_Mo_caseGrammar_116 (by decide) ?_
      refine cx_msh (a := 16) hE d_Mo_caseGrammar_119 rfl hT hh hl (by decide) (by decide) (by omega) hR (by omega) (Nat.le_of_ble_eq_true rfl) (fun G1 M1 hh hl hk119 hR => ?_) (fun G1 M1 e hh hdd hR => hd_122 _ _ _ hh hdd hR)
      have hmo := hh.1.1
      refine cx_vret hE d_Mo_caseGrammar_122 rfl ?_
      exact ⟨_, rfl, hh, Or.inl ⟨_, _, _, hR, hl⟩⟩
    · have q_92 := of_decide_eq_true (cx_bn.mp c_92)
      rw [if_pos q_92] at hR
      try simp only [tx_R.and_as, tx_op_and, tx_R.and_r] at hR
      have hkk := q_92
      rw [tx_tk_ok q_92, tx_R.and_r] at hR
      refine cx_aload_n (i := 0) hE d_Mo_caseGrammar_95 rfl rfl ?_
      refine cx_dup hE d_Mo_caseGrammar_96 ?_
      refine cx_get hE d_Mo_caseGrammar_97 f_Mo_193 (by assumption) (by rfl) ?_
      rw [hl.2.1]
      refine cx_iconst (v := 1) hE d_Mo_caseGrammar_100 (by decide) ?_
      refine cx_iadd hE d_Mo_caseGrammar_101 ?_
      show cx_V E _ _ [.int (nI (i') + 1), .ref mo] _
      rw [nI_1]
      refine cx_putg hE d_Mo_caseGrammar_102 f_Mo_193 (by assumption) (Nat.le_of_ble_eq_true rfl) (by first | rfl | exact cx_nr _ _) (by first | rfl | exact cx_fr _ _) (fun G_102 g_102 h_102 => ?_)
      rw [rm_s8] at g_102 h_102
      have hp_102 := hh.1.pi g_102
      have hh := hh.tr ⟨hp_102.1, hp_102.2, cx_pc g_102⟩
      have hl := hl.t1 hT (by rw [hkk]; decide) (by rw [hkk]; decide)
      have hmo := hh.1.1
      refine cx_aload_n (i := 0) hE d_Mo_caseGrammar_105 rfl rfl ?_
      refine cx_bipush (v := 58) hE d_Mo_caseGrammar_106 (by decide) ?_
      refine cx_mtk (a := 58) hE d_Mo_caseGrammar_108 rfl hT hh hl (by decide) (by decide) hR (by omega) (Nat.le_of_ble_eq_true rfl) (fun G1 M1 hh hl hk108 hR => ?_) (fun G1 M1 e hh hdd hR => hd_111 _ _ _ hh hdd hR)
      have hmo := hh.1.1
      refine cx_aload_n (i := 0) hE d_Mo_caseGrammar_111 rfl rfl ?_
      refine cx_msb hE d_Mo_caseGrammar_112 rfl l_Mo_247 hh hl hR (hx _ _ _ _ _ _ _ (by omega) (hT.sm hl.1) hh.1 ⟨rm_sm.rf _, hl.2⟩) (by omega) (Nat.le_of_ble_eq_true rfl) n_Mo_statementGrammar (by rfl) (fun w_112 i_112 s_112 G1 M1 hr_112 hh hl hR => ?_) (fun G1 M1 e hh hdd hR => hd_115 _ _ _ hh hdd hR)
      have hmo := hh.1.1
      have hup_112 := tx_up.stf1 _ _ _ _ _ _ _ hr_112
      refine cx_aload_n (i := 0) hE d_Mo_caseGrammar_115 rfl rfl ?_
      refine cx_sipush (v := 315) hE d_Mo_caseGrammar_116 (by decide) ?_
      refine cx_msh (a := 16) hE d_Mo_caseGrammar_119 rfl hT hh hl (by decide) (by decide) (by omega) hR (by omega) (Nat.le_of_ble_eq_true rfl) (fun G1 M1 hh hl hk119 hR => ?_) (fun G1 M1 e hh hdd hR => hd_122 _ _ _ hh hdd hR)
      have hmo := hh.1.1
      refine cx_vret hE d_Mo_caseGrammar_122 rfl ?_
      exact ⟨_, rfl, hh, Or.inl ⟨_, _, _, hR, hl⟩⟩
  have hloop : ∀ (n i' : Nat) (s' : tx_S) (G1 : cx_G) (M1 : rm_M), T.length ≤ i' + n → rm_h k G mo P G1 M1 → rm_lv T M M1 i' (f_10 + 1) → R0 = (tx_cas T (tx_stf T (m + 1)) (f_10 + 1) w n i' s').and (fun _ i s => (if tx_ki T i = 17 then (tx_tk T 17 i s).and fun _ i s => (tx_tk T 58 i s).and fun _ i s => (tx_stf T (m + 1)) (f_10 + 1) i s else .inr ((), i, s)).and (fun _ i s => (tx_tk T 16 i s).and fun _ i s => .inr ((), i, s))) → cx_V E 23 [(0, false, .ref mo)] [] G1 := by
    intro n
    induction n with
    | zero =>
      intro i' s' G1 M1 h1 hh hl hR
      exact absurd hl.2.2.1 (by omega)
    | succ n ih =>
      intro i' s' G1 M1 h1 hh hl hR
      unfold tx_cas at hR
      have hmo := hh.1.1
      refine cx_aload_n (i := 0) hE d_Mo_caseGrammar_23 rfl rfl ?_
      refine cx_sipush (v := 402) hE d_Mo_caseGrammar_24 (by decide) ?_
      refine cx_mis (a := 21) hE d_Mo_caseGrammar_27 rfl hT hh hl (by decide) (by omega) (Nat.le_of_ble_eq_true rfl) ?_
      refine cx_if_eq (tgt := 85)  hE d_Mo_caseGrammar_30 (by decide) (fun c_30 => ?_) (fun c_30 => ?_)
      · have q_30 := of_decide_eq_false (cx_b0.mp c_30)
        rw [if_neg q_30] at hR
        try simp only [tx_R.and_as, tx_op_and, tx_R.and_r] at hR
        refine cx_sub [0] rfl ?_
        exact hend _ _ _ _ hh hl hR
      · have q_30 := of_decide_eq_true (cx_bn.mp c_30)
        rw [if_pos q_30] at hR
        try simp only [tx_R.and_as, tx_op_and, tx_R.and_r] at hR
        have hkk := q_30
        rw [tx_tk_ok q_30, tx_R.and_r] at hR
        refine cx_aload_n (i := 0) hE d_Mo_caseGrammar_33 rfl rfl ?_
        refine cx_dup hE d_Mo_caseGrammar_34 ?_
        refine cx_get hE d_Mo_caseGrammar_35 f_Mo_193 (by assumption) (by rfl) ?_
        rw [hl.2.1]
        refine cx_iconst (v := 1) hE d_Mo_caseGrammar_38 (by decide) ?_
        refine cx_iadd hE d_Mo_caseGrammar_39 ?_
        show cx_V E _ _ [.int (nI (i') + 1), .ref mo] _
        rw [nI_1]
        refine cx_putg hE d_Mo_caseGrammar_40 f_Mo_193 (by assumption) (Nat.le_of_ble_eq_true rfl) (by first | rfl | exact cx_nr _ _) (by first | rfl | exact cx_fr _ _) (fun G_40 g_40 h_40 => ?_)
        rw [rm_s8] at g_40 h_40
        have hp_40 := hh.1.pi g_40
        have hh := hh.tr ⟨hp_40.1, hp_40.2, cx_pc g_40⟩
        have hl := hl.t1 hT (by rw [hkk]; decide) (by rw [hkk]; decide)
        have hmo := hh.1.1
        have hin : ∀ (n2 i2 : Nat) (s2 : tx_S) (G2 : cx_G) (M2 : rm_M), T.length ≤ i2 + n2 → i' < i2 → rm_h k G mo P G2 M2 → rm_lv T M M2 i2 (f_10 + 1) → R0 = (tx_cvs T w n2 i2 s2).and (fun _ i s => (tx_tk T 58 i s).and fun _ i s => ((tx_stf T (m + 1)) (f_10 + 1) i s).and fun _ i s => (tx_cas T (tx_stf T (m + 1)) (f_10 + 1) w n i s).and (fun _ i s => (if tx_ki T i = 17 then (tx_tk T 17 i s).and fun _ i s => (tx_tk T 58 i s).and fun _ i s => (tx_stf T (m + 1)) (f_10 + 1) i s else .inr ((), i, s)).and (fun _ i s => (tx_tk T 16 i s).and fun _ i s => .inr ((), i, s)))) → cx_V E 43 [(0, false, .ref mo)] [] G2 := by
          intro n2
          induction n2 with
          | zero =>
            intro i2 s2 G2 M2 h4 h5 hh hl hR
            exact absurd hl.2.2.1 (by omega)
          | succ n2 ih2 =>
            intro i2 s2 G2 M2 h4 h5 hh hl hR
            unfold tx_cvs at hR
            have hmo := hh.1.1
            refine cx_aload_n (i := 0) hE d_Mo_caseGrammar_43 rfl rfl ?_
            refine cx_bipush (v := 44) hE d_Mo_caseGrammar_44 (by decide) ?_
            refine cx_mis (a := 44) hE d_Mo_caseGrammar_46 rfl hT hh hl (by decide) (by omega) (Nat.le_of_ble_eq_true rfl) ?_
            refine cx_if_eq (tgt := 72)  hE d_Mo_caseGrammar_49 (by decide) (fun c_49 => ?_) (fun c_49 => ?_)
            · have q_49 := of_decide_eq_false (cx_b0.mp c_49)
              rw [if_neg q_49] at hR
              try simp only [tx_R.and_as, tx_op_and, tx_R.and_r] at hR
              refine cx_aload_n (i := 0) hE d_Mo_caseGrammar_72 rfl rfl ?_
              refine cx_bipush (v := 58) hE d_Mo_caseGrammar_73 (by decide) ?_
              refine cx_mtk (a := 58) hE d_Mo_caseGrammar_75 rfl hT hh hl (by decide) (by decide) hR (by omega) (Nat.le_of_ble_eq_true rfl) (fun G1 M1 hh hl hk75 hR => ?_) (fun G1 M1 e hh hdd hR => hd_78 _ _ _ hh hdd hR)
              have hmo := hh.1.1
              refine cx_aload_n (i := 0) hE d_Mo_caseGrammar_78 rfl rfl ?_
              refine cx_msb hE d_Mo_caseGrammar_79 rfl l_Mo_247 hh hl hR (hx _ _ _ _ _ _ _ (by omega) (hT.sm hl.1) hh.1 ⟨rm_sm.rf _, hl.2⟩) (by omega) (Nat.le_of_ble_eq_true rfl) n_Mo_statementGrammar (by rfl) (fun w_79 i_79 s_79 G1 M1 hr_79 hh hl hR => ?_) (fun G1 M1 e hh hdd hR => hd_82 _ _ _ hh hdd hR)
              have hmo := hh.1.1
              have hup_79 := tx_up.stf1 _ _ _ _ _ _ _ hr_79
              refine cx_goto (tgt := 23) hE d_Mo_caseGrammar_82 (by decide) ?_
              refine cx_sub [0] rfl ?_
              exact ih _ _ _ _ (by omega) hh hl hR
            · have q_49 := of_decide_eq_true (cx_bn.mp c_49)
              rw [if_pos q_49] at hR
              try simp only [tx_R.and_as, tx_op_and, tx_R.and_r] at hR
              have hkk := q_49
              rw [tx_tk_ok q_49, tx_R.and_r] at hR
              refine cx_aload_n (i := 0) hE d_Mo_caseGrammar_52 rfl rfl ?_
              refine cx_dup hE d_Mo_caseGrammar_53 ?_
              refine cx_get hE d_Mo_caseGrammar_54 f_Mo_193 (by assumption) (by rfl) ?_
              rw [hl.2.1]
              refine cx_iconst (v := 1) hE d_Mo_caseGrammar_57 (by decide) ?_
              refine cx_iadd hE d_Mo_caseGrammar_58 ?_
              show cx_V E _ _ [.int (nI (i2) + 1), .ref mo] _
              rw [nI_1]
              refine cx_putg hE d_Mo_caseGrammar_59 f_Mo_193 (by assumption) (Nat.le_of_ble_eq_true rfl) (by first | rfl | exact cx_nr _ _) (by first | rfl | exact cx_fr _ _) (fun G_59 g_59 h_59 => ?_)
              rw [rm_s8] at g_59 h_59
              have hp_59 := hh.1.pi g_59
              have hh := hh.tr ⟨hp_59.1, hp_59.2, cx_pc g_59⟩
              have hl := hl.t1 hT (by rw [hkk]; decide) (by rw [hkk]; decide)
              have hmo := hh.1.1
              refine cx_aload_n (i := 0) hE d_Mo_caseGrammar_62 rfl rfl ?_
              refine cx_sipush (v := 402) hE d_Mo_caseGrammar_63 (by decide) ?_
              refine cx_mtk (a := 21) hE d_Mo_caseGrammar_66 rfl hT hh hl (by decide) (by decide) hR (by omega) (Nat.le_of_ble_eq_true rfl) (fun G1 M1 hh hl hk66 hR => ?_) (fun G1 M1 e hh hdd hR => hd_69 _ _ _ hh hdd hR)
              have hmo := hh.1.1
              refine cx_goto (tgt := 43) hE d_Mo_caseGrammar_69 (by decide) ?_
              refine cx_sub [0] rfl ?_
              exact ih2 _ _ _ _ (by omega) (by omega) hh hl hR
        refine cx_sub [0] rfl ?_
        exact hin T.length _ _ _ _ (by omega) (by omega) hh hl hR
  refine cx_aload_n (i := 0) hE d_Mo_caseGrammar_17 rfl rfl ?_
  refine cx_bipush (v := 41) hE d_Mo_caseGrammar_18 (by decide) ?_
  refine cx_msh (a := 41) hE d_Mo_caseGrammar_20 rfl hT hh hl (by decide) (by decide) (by omega) hR (by omega) (Nat.le_of_ble_eq_true rfl) (fun G1 M1 hh hl hk20 hR => ?_) (fun G1 M1 e hh hdd hR => hd_23 _ _ _ hh hdd hR)
  have hmo := hh.1.1
  refine cx_sub [0] rfl ?_
  exact hloop T.length _ _ _ _ (by omega) hh hl hR
set_option maxRecDepth 100000 in
theorem c_Mo_statementGrammar {k : cx_K} {l : Launch} {G : cx_G} {mo : Nat} {P : Nat → Nat} {M : rm_M} {T : List tx_Tk} {i f : Nat} {s : tx_S} (hT : rm_tk M T) (hm : rm_R k G mo P M) (hl : rm_lv T M M i f) {m : Nat} (hx : rm_PS k l T m) (hfm : f ≤ m) {R0 : tx_R Unit} (hR : R0 = tx_st1 T (tx_stf T m) f i s) : cx_Sp k l m_Mo_statementGrammar (4 * m + 302) [.ref mo] G (rm_o k G mo P T M f R0) := by
  intro E hE
  have hh : rm_h k G mo P G M := ⟨hm, rm_st.rf _ _ _, rfl⟩
  have hmo := hh.1.1
  have hle := hl.2.2.2.2.2
  have hTl := hT.1
  have hd_191 : ∀ (G1 : cx_G) (M1 : rm_M) (e : Int32 × Int32), rm_h k G mo P G1 M1 → rm_dd T M M1 e → R0 = .inl e → cx_V E 191 [(0, false, .ref mo)] [] G1 := by
    intro G1 M1 e hh hdd hR
    have hmo := hh.1.1
    refine cx_vret hE d_Mo_statementGrammar_191 rfl ?_
    exact ⟨_, rfl, hh, Or.inr ⟨_, hR, hdd⟩⟩
  have hd_185 : ∀ (G1 : cx_G) (M1 : rm_M) (e : Int32 × Int32), rm_h k G mo P G1 M1 → rm_dd T M M1 e → R0 = .inl e → cx_V E 185 [(0, false, .ref mo)] [] G1 := by
    intro G1 M1 e hh hdd hR
    have hmo := hh.1.1
    refine cx_aload_n (i := 0) hE d_Mo_statementGrammar_185 rfl rfl ?_
    refine cx_bipush (v := 59) hE d_Mo_statementGrammar_186 (by decide) ?_
    refine cx_mtkd hE d_Mo_statementGrammar_188 rfl hT hh hdd (by omega) (Nat.le_of_ble_eq_true rfl) (fun G1 M1 hh hdd => ?_)
    have hmo := hh.1.1
    refine cx_sub [0] rfl ?_
    exact hd_191 _ _ _ hh hdd hR
  have hd_181 : ∀ (G1 : cx_G) (M1 : rm_M) (e : Int32 × Int32), rm_h k G mo P G1 M1 → rm_dd T M M1 e → R0 = .inl e → cx_V E 181 [(0, false, .ref mo)] [] G1 := by
    intro G1 M1 e hh hdd hR
    have hmo := hh.1.1
    refine cx_aload_n (i := 0) hE d_Mo_statementGrammar_181 rfl rfl ?_
    refine cx_msd hE d_Mo_statementGrammar_182 rfl l_Mo_226 hh hdd (c_Mo_expGrammar_d (hT.sm hdd.1) hh.1 ⟨rm_sm.rf _, hdd.2⟩) (by omega) (Nat.le_of_ble_eq_true rfl) n_Mo_expGrammar (by rfl) (fun G1 M1 hh hdd => ?_)
    have hmo := hh.1.1
    refine cx_sub [0] rfl ?_
    exact hd_185 _ _ _ hh hdd hR
  have hd_174 : ∀ (G1 : cx_G) (M1 : rm_M) (e : Int32 × Int32), rm_h k G mo P G1 M1 → rm_dd T M M1 e → R0 = .inl e → cx_V E 174 [(0, false, .ref mo)] [] G1 := by
    intro G1 M1 e hh hdd hR
    have hmo := hh.1.1
    refine cx_aload_n (i := 0) hE d_Mo_statementGrammar_174 rfl rfl ?_
    refine cx_sipush (v := 260) hE d_Mo_statementGrammar_175 (by decide) ?_
    refine cx_mtkd hE d_Mo_statementGrammar_178 rfl hT hh hdd (by omega) (Nat.le_of_ble_eq_true rfl) (fun G1 M1 hh hdd => ?_)
    have hmo := hh.1.1
    refine cx_sub [0] rfl ?_
    exact hd_181 _ _ _ hh hdd hR
  have hd_168 : ∀ (G1 : cx_G) (M1 : rm_M) (e : Int32 × Int32), rm_h k G mo P G1 M1 → rm_dd T M M1 e → R0 = .inl e → cx_V E 168 [(0, false, .ref mo)] [] G1 := by
    intro G1 M1 e hh hdd hR
    have hmo := hh.1.1
    refine cx_aload_n (i := 0) hE d_Mo_statementGrammar_168 rfl rfl ?_
    refine cx_bipush (v := 93) hE d_Mo_statementGrammar_169 (by decide) ?_
    refine cx_mshd hE d_Mo_statementGrammar_171 rfl hT hh hdd (by omega) (Nat.le_of_ble_eq_true rfl) (fun G1 M1 hh hdd => ?_)
    have hmo := hh.1.1
    refine cx_sub [0] rfl ?_
    exact hd_174 _ _ _ hh hdd hR
  have hd_164 : ∀ (G1 : cx_G) (M1 : rm_M) (e : Int32 × Int32), rm_h k G mo P G1 M1 → rm_dd T M M1 e → R0 = .inl e → cx_V E 164 [(0, false, .ref mo)] [] G1 := by
    intro G1 M1 e hh hdd hR
    have hmo := hh.1.1
    refine cx_aload_n (i := 0) hE d_Mo_statementGrammar_164 rfl rfl ?_
    refine cx_msd hE d_Mo_statementGrammar_165 rfl l_Mo_232 hh hdd (c_Mo_partGrammar_d (hT.sm hdd.1) hh.1 ⟨rm_sm.rf _, hdd.2⟩) (by omega) (Nat.le_of_ble_eq_true rfl) n_Mo_partGrammar (by rfl) (fun G1 M1 hh hdd => ?_)
    have hmo := hh.1.1
    refine cx_sub [0] rfl ?_
    exact hd_168 _ _ _ hh hdd hR
  have hd_149 : ∀ (G1 : cx_G) (M1 : rm_M) (e : Int32 × Int32), rm_h k G mo P G1 M1 → rm_dd T M M1 e → R0 = .inl e → cx_V E 149 [(0, false, .ref mo)] [] G1 := by
    intro G1 M1 e hh hdd hR
    have hmo := hh.1.1
    refine cx_aload_n (i := 0) hE d_Mo_statementGrammar_149 rfl rfl ?_
    refine cx_bipush (v := 91) hE d_Mo_statementGrammar_150 (by decide) ?_
    refine cx_misd hE d_Mo_statementGrammar_152 rfl hT hh hdd (by omega) (Nat.le_of_ble_eq_true rfl) ?_
    refine cx_if_eq (tgt := 174)  hE d_Mo_statementGrammar_155 (by decide) (fun c_155 => ?_) (fun c_155 => ?_)
    · refine cx_sub [0] rfl ?_
      exact hd_174 _ _ _ hh hdd hR
    · exact absurd rfl c_155
      -- end
  have hd_139 : ∀ (G1 : cx_G) (M1 : rm_M) (e : Int32 × Int32), rm_h k G mo P G1 M1 → rm_dd T M M1 e → R0 = .inl e → cx_V E 139 [(0, false, .ref mo)] [] G1 := by
    intro G1 M1 e hh hdd hR
    have hmo := hh.1.1
    refine cx_goto (tgt := 191) hE d_Mo_statementGrammar_139 (by decide) ?_
    refine cx_sub [0] rfl ?_
    exact hd_191 _ _ _ hh hdd hR
  have hd_112 : ∀ (G1 : cx_G) (M1 : rm_M) (e : Int32 × Int32), rm_h k G mo P G1 M1 → rm_dd T M M1 e → R0 = .inl e → cx_V E 112 [(0, false, .ref mo)] [] G1 := by
    intro G1 M1 e hh hdd hR
    have hmo := hh.1.1
    refine cx_aload_n (i := 0) hE d_Mo_statementGrammar_112 rfl rfl ?_
    refine cx_dup hE d_Mo_statementGrammar_113 ?_
    refine cx_get hE d_Mo_statementGrammar_114 f_Mo_206 (by assumption) (by rfl) ?_
    refine cx_iconst (v := 1) hE d_Mo_statementGrammar_117 (by decide) ?_
    refine cx_isub hE d_Mo_statementGrammar_118 ?_
    refine cx_putg hE d_Mo_statementGrammar_119 f_Mo_206 (by assumption) (Nat.le_of_ble_eq_true rfl) (by first | rfl | exact cx_nr _ _) (by first | rfl | exact cx_fr _ _) (fun G_119 g_119 h_119 => ?_)
    rw [rm_s11] at g_119 h_119
    have hp_119 := hh.1.pi g_119
    have hh := hh.tr ⟨hp_119.1, hp_119.2, cx_pc g_119⟩
    have hdd := hdd.dp ((M1.1 11) - 1)
    refine cx_goto (tgt := 191) hE d_Mo_statementGrammar_122 (by decide) ?_
    refine cx_sub [0] rfl ?_
    exact hd_191 _ _ _ hh hdd hR
  have hd_88 : ∀ (G1 : cx_G) (M1 : rm_M) (e : Int32 × Int32), rm_h k G mo P G1 M1 → rm_dd T M M1 e → R0 = .inl e → cx_V E 88 [(0, false, .ref mo)] [] G1 := by
    intro G1 M1 e hh hdd hR
    have hmo := hh.1.1
    refine cx_aload_n (i := 0) hE d_Mo_statementGrammar_88 rfl rfl ?_
    refine cx_sipush (v := 313) hE d_Mo_statementGrammar_89 (by decide) ?_
    refine cx_misd hE d_Mo_statementGrammar_92 rfl hT hh hdd (by omega) (Nat.le_of_ble_eq_true rfl) ?_
    refine cx_if_eq (tgt := 112)  hE d_Mo_statementGrammar_95 (by decide) (fun c_95 => ?_) (fun c_95 => ?_)
    · refine cx_sub [0] rfl ?_
      exact hd_112 _ _ _ hh hdd hR
    · exact absurd rfl c_95
      -- end
  have hd_84 : ∀ (G1 : cx_G) (M1 : rm_M) (e : Int32 × Int32), rm_h k G mo P G1 M1 → rm_dd T M M1 e → R0 = .inl e → cx_V E 84 [(0, false, .ref mo)] [] G1 := by
    intro G1 M1 e hh hdd hR
    have hmo := hh.1.1
    refine cx_aload_n (i := 0) hE d_Mo_statementGrammar_84 rfl rfl ?_
    refine cx_msd hE d_Mo_statementGrammar_85 rfl l_Mo_247 hh hdd (c_Mo_statementGrammar_d (hT.sm hdd.1) hh.1 ⟨rm_sm.rf _, hdd.2⟩) (by omega) (Nat.le_of_ble_eq_true rfl) n_Mo_statementGrammar (by rfl) (fun G1 M1 hh hdd => ?_)
    have hmo := hh.1.1
    refine cx_sub [0] rfl ?_
    exact hd_88 _ _ _ hh hdd hR
  have hd_78 : ∀ (G1 : cx_G) (M1 : rm_M) (e : Int32 × Int32), rm_h k G mo P G1 M1 → rm_dd T M M1 e → R0 = .inl e → cx_V E 78 [(0, false, .ref mo)] [] G1 := by
    intro G1 M1 e hh hdd hR
    have hmo := hh.1.1
    refine cx_aload_n (i := 0) hE d_Mo_statementGrammar_78 rfl rfl ?_
    refine cx_bipush (v := 41) hE d_Mo_statementGrammar_79 (by decide) ?_
    refine cx_mshd hE d_Mo_statementGrammar_81 rfl hT hh hdd (by omega) (Nat.le_of_ble_eq_true rfl) (fun G1 M1 hh hdd => ?_)
    have hmo := hh.1.1
    refine cx_sub [0] rfl ?_
    exact hd_84 _ _ _ hh hdd hR
  have hd_74 : ∀ (G1 : cx_G) (M1 : rm_M) (e : Int32 × Int32), rm_h k G mo P G1 M1 → rm_dd T M M1 e → R0 = .inl e → cx_V E 74 [(0, false, .ref mo)] [] G1 := by
    intro G1 M1 e hh hdd hR
    have hmo := hh.1.1
    refine cx_aload_n (i := 0) hE d_Mo_statementGrammar_74 rfl rfl ?_
    refine cx_msd hE d_Mo_statementGrammar_75 rfl l_Mo_226 hh hdd (c_Mo_expGrammar_d (hT.sm hdd.1) hh.1 ⟨rm_sm.rf _, hdd.2⟩) (by omega) (Nat.le_of_ble_eq_true rfl) n_Mo_expGrammar (by rfl) (fun G1 M1 hh hdd => ?_)
    have hmo := hh.1.1
    refine cx_sub [0] rfl ?_
    exact hd_78 _ _ _ hh hdd hR
  have hd_68 : ∀ (G1 : cx_G) (M1 : rm_M) (e : Int32 × Int32), rm_h k G mo P G1 M1 → rm_dd T M M1 e → R0 = .inl e → cx_V E 68 [(0, false, .ref mo)] [] G1 := by
    intro G1 M1 e hh hdd hR
    have hmo := hh.1.1
    refine cx_aload_n (i := 0) hE d_Mo_statementGrammar_68 rfl rfl ?_
    refine cx_bipush (v := 40) hE d_Mo_statementGrammar_69 (by decide) ?_
    refine cx_mopd hE d_Mo_statementGrammar_71 rfl hT hh hdd (by omega) (Nat.le_of_ble_eq_true rfl) (fun G1 M1 hh hdd => ?_)
    have hmo := hh.1.1
    refine cx_sub [0] rfl ?_
    exact hd_74 _ _ _ hh hdd hR
  have hd_48 : ∀ (G1 : cx_G) (M1 : rm_M) (e : Int32 × Int32), rm_h k G mo P G1 M1 → rm_dd T M M1 e → R0 = .inl e → cx_V E 48 [(0, false, .ref mo)] [] G1 := by
    intro G1 M1 e hh hdd hR
    have hmo := hh.1.1
    refine cx_goto (tgt := 191) hE d_Mo_statementGrammar_48 (by decide) ?_
    refine cx_sub [0] rfl ?_
    exact hd_191 _ _ _ hh hdd hR
  have hd_38 : ∀ (G1 : cx_G) (M1 : rm_M) (e : Int32 × Int32), rm_h k G mo P G1 M1 → rm_dd T M M1 e → R0 = .inl e → cx_V E 38 [(0, false, .ref mo)] [] G1 := by
    intro G1 M1 e hh hdd hR
    have hmo := hh.1.1
    refine cx_goto (tgt := 17) hE d_Mo_statementGrammar_38 (by decide) ?_
    refine cx_aload_n (i := 0) hE d_Mo_statementGrammar_17 rfl rfl ?_
    refine cx_get hE d_Mo_statementGrammar_18 f_Mo_187 (by assumption) (by rfl) ?_
    refine cx_if_ne (tgt := 41)  hE d_Mo_statementGrammar_21 (by decide) (fun c_21 => ?_) (fun c_21 => ?_)
    · refine cx_aload_n (i := 0) hE d_Mo_statementGrammar_41 rfl rfl ?_
      refine cx_sipush (v := 311) hE d_Mo_statementGrammar_42 (by decide) ?_
      refine cx_mshd hE d_Mo_statementGrammar_45 rfl hT hh hdd (by omega) (Nat.le_of_ble_eq_true rfl) (fun G1 M1 hh hdd => ?_)
      have hmo := hh.1.1
      refine cx_sub [0] rfl ?_
      exact hd_48 _ _ _ hh hdd hR
    · exact absurd (hdd.2.2.1.symm.trans (by simpa using c_21)) hdd.2.2.2.2
      -- end
  have hd_17 : ∀ (G1 : cx_G) (M1 : rm_M) (e : Int32 × Int32), rm_h k G mo P G1 M1 → rm_dd T M M1 e → R0 = .inl e → cx_V E 17 [(0, false, .ref mo)] [] G1 := by
    intro G1 M1 e hh hdd hR
    have hmo := hh.1.1
    refine cx_aload_n (i := 0) hE d_Mo_statementGrammar_17 rfl rfl ?_
    refine cx_get hE d_Mo_statementGrammar_18 f_Mo_187 (by assumption) (by rfl) ?_
    refine cx_if_ne (tgt := 41)  hE d_Mo_statementGrammar_21 (by decide) (fun c_21 => ?_) (fun c_21 => ?_)
    · refine cx_aload_n (i := 0) hE d_Mo_statementGrammar_41 rfl rfl ?_
      refine cx_sipush (v := 311) hE d_Mo_statementGrammar_42 (by decide) ?_
      refine cx_mshd hE d_Mo_statementGrammar_45 rfl hT hh hdd (by omega) (Nat.le_of_ble_eq_true rfl) (fun G1 M1 hh hdd => ?_)
      have hmo := hh.1.1
      refine cx_sub [0] rfl ?_
      exact hd_48 _ _ _ hh hdd hR
    · exact absurd (hdd.2.2.1.symm.trans (by simpa using c_21)) hdd.2.2.2.2
      -- end
  refine cx_aload_n (i := 0) hE d_Mo_statementGrammar_0 rfl rfl ?_
  refine cx_sipush (v := 310) hE d_Mo_statementGrammar_1 (by decide) ?_
  refine cx_mis (a := 11) hE d_Mo_statementGrammar_4 rfl hT hh hl (by decide) (by omega) (Nat.le_of_ble_eq_true rfl) ?_
  refine cx_if_eq (tgt := 51)  hE d_Mo_statementGrammar_7 (by decide) (fun c_7 => ?_) (fun c_7 => ?_)
  · have q_7 := of_decide_eq_false (cx_b0.mp c_7)
    refine cx_aload_n (i := 0) hE d_Mo_statementGrammar_51 rfl rfl ?_
    refine cx_sipush (v := 312) hE d_Mo_statementGrammar_52 (by decide) ?_
    refine cx_mis (a := 13) hE d_Mo_statementGrammar_55 rfl hT hh hl (by decide) (by omega) (Nat.le_of_ble_eq_true rfl) ?_
    refine cx_if_eq (tgt := 125)  hE d_Mo_statementGrammar_58 (by decide) (fun c_58 => ?_) (fun c_58 => ?_)
    · have q_58 := of_decide_eq_false (cx_b0.mp c_58)
      refine cx_aload_n (i := 0) hE d_Mo_statementGrammar_125 rfl rfl ?_
      refine cx_sipush (v := 314) hE d_Mo_statementGrammar_126 (by decide) ?_
      refine cx_mis (a := 15) hE d_Mo_statementGrammar_129 rfl hT hh hl (by decide) (by omega) (Nat.le_of_ble_eq_true rfl) ?_
      refine cx_if_eq (tgt := 142)  hE d_Mo_statementGrammar_132 (by decide) (fun c_132 => ?_) (fun c_132 => ?_)
      · have q_132 := of_decide_eq_false (cx_b0.mp c_132)
        unfold tx_st1 tx_stg at hR
        rw [if_neg q_7, if_neg q_58, if_neg q_132] at hR
        try simp only [tx_R.and_as, tx_op_and, tx_R.and_r] at hR
        refine cx_aload_n (i := 0) hE d_Mo_statementGrammar_142 rfl rfl ?_
        refine cx_sipush (v := 400) hE d_Mo_statementGrammar_143 (by decide) ?_
        refine cx_mtk (a := 19) hE d_Mo_statementGrammar_146 rfl hT hh hl (by decide) (by decide) hR (by omega) (Nat.le_of_ble_eq_true rfl) (fun G1 M1 hh hl hk146 hR => ?_) (fun G1 M1 e hh hdd hR => hd_149 _ _ _ hh hdd hR)
        have hmo := hh.1.1
        refine cx_aload_n (i := 0) hE d_Mo_statementGrammar_149 rfl rfl ?_
        refine cx_bipush (v := 91) hE d_Mo_statementGrammar_150 (by decide) ?_
        refine cx_mis (a := 91) hE d_Mo_statementGrammar_152 rfl hT hh hl (by decide) (by omega) (Nat.le_of_ble_eq_true rfl) ?_
        refine cx_if_eq (tgt := 174)  hE d_Mo_statementGrammar_155 (by decide) (fun c_155 => ?_) (fun c_155 => ?_)
        · have q_155 := of_decide_eq_false (cx_b0.mp c_155)
          rw [if_neg q_155] at hR
          try simp only [tx_R.and_as, tx_op_and, tx_R.and_r] at hR
          refine cx_aload_n (i := 0) hE d_Mo_statementGrammar_174 rfl rfl ?_
          refine cx_sipush (v := 260) hE d_Mo_statementGrammar_175 (by decide) ?_
          unfold tx_str at hR
          try simp only [tx_R.and_as, tx_op_and, tx_R.and_r] at hR
          refine cx_mtk (a := 15421) hE d_Mo_statementGrammar_178 rfl hT hh hl (by decide) (by decide) hR (by omega) (Nat.le_of_ble_eq_true rfl) (fun G1 M1 hh hl hk178 hR => ?_) (fun G1 M1 e hh hdd hR => hd_181 _ _ _ hh hdd hR)
          have hmo := hh.1.1
          refine cx_aload_n (i := 0) hE d_Mo_statementGrammar_181 rfl rfl ?_
          refine cx_msb hE d_Mo_statementGrammar_182 rfl l_Mo_226 hh hl hR (c_Mo_ex (hT.sm hl.1) hh.1 ⟨rm_sm.rf _, hl.2⟩) (by omega) (Nat.le_of_ble_eq_true rfl) n_Mo_expGrammar (by rfl) (fun w_182 i_182 s_182 G1 M1 hr_182 hh hl hR => ?_) (fun G1 M1 e hh hdd hR => hd_185 _ _ _ hh hdd hR)
          have hmo := hh.1.1
          have hup_182 := tx_up.exp _ _ _ _ _ _ hr_182
          refine cx_aload_n (i := 0) hE d_Mo_statementGrammar_185 rfl rfl ?_
          refine cx_bipush (v := 59) hE d_Mo_statementGrammar_186 (by decide) ?_
          refine cx_mtk (a := 59) hE d_Mo_statementGrammar_188 rfl hT hh hl (by decide) (by decide) hR (by omega) (Nat.le_of_ble_eq_true rfl) (fun G1 M1 hh hl hk188 hR => ?_) (fun G1 M1 e hh hdd hR => hd_191 _ _ _ hh hdd hR)
          have hmo := hh.1.1
          refine cx_vret hE d_Mo_statementGrammar_191 rfl ?_
          exact ⟨_, rfl, hh, Or.inl ⟨_, _, _, hR, hl⟩⟩
        · have q_155 := of_decide_eq_true (cx_bn.mp c_155)
          rw [if_pos q_155] at hR
          try simp only [tx_R.and_as, tx_op_and, tx_R.and_r] at hR
          refine cx_aload_n (i := 0) hE d_Mo_statementGrammar_158 rfl rfl ?_
          refine cx_bipush (v := 91) hE d_Mo_statementGrammar_159 (by decide) ?_
          refine cx_mop (a := 91) hE d_Mo_statementGrammar_161 rfl hT hh hl (by decide) (by decide) hR (by omega) (Nat.le_of_ble_eq_true rfl) (fun f_161 G1 M1 hf161 => ?_) (fun G1 M1 e hh hdd hR => hd_164 _ _ _ hh hdd hR)
          subst hf161
          intro hh hl hk161 hR
          have hmo := hh.1.1
          refine cx_aload_n (i := 0) hE d_Mo_statementGrammar_164 rfl rfl ?_
          rw [tx_prt_pg] at hR
          try simp only [tx_R.and_as, tx_op_and, tx_R.and_r] at hR
          refine cx_msb hE d_Mo_statementGrammar_165 rfl l_Mo_232 hh hl hR (c_Mo_partGrammar (hT.sm hl.1) hh.1 ⟨rm_sm.rf _, hl.2⟩ rfl) (by omega) (Nat.le_of_ble_eq_true rfl) n_Mo_partGrammar (by rfl) (fun w_165 i_165 s_165 G1 M1 hr_165 hh hl hR => ?_) (fun G1 M1 e hh hdd hR => hd_168 _ _ _ hh hdd hR)
          have hmo := hh.1.1
          have hup_165 := tx_up.pg (Nat.le_refl _) _ _ _ hr_165
          refine cx_aload_n (i := 0) hE d_Mo_statementGrammar_168 rfl rfl ?_
          refine cx_bipush (v := 93) hE d_Mo_statementGrammar_169 (by decide) ?_
          refine cx_msh (a := 93) hE d_Mo_statementGrammar_171 rfl hT hh hl (by decide) (by decide) (by omega) hR (by omega) (Nat.le_of_ble_eq_true rfl) (fun G1 M1 hh hl hk171 hR => ?_) (fun G1 M1 e hh hdd hR => hd_174 _ _ _ hh hdd hR)
          have hmo := hh.1.1
          refine cx_aload_n (i := 0) hE d_Mo_statementGrammar_174 rfl rfl ?_
          refine cx_sipush (v := 260) hE d_Mo_statementGrammar_175 (by decide) ?_
          unfold tx_str at hR
          try simp only [tx_R.and_as, tx_op_and, tx_R.and_r] at hR
          refine cx_mtk (a := 15421) hE d_Mo_statementGrammar_178 rfl hT hh hl (by decide) (by decide) hR (by omega) (Nat.le_of_ble_eq_true rfl) (fun G1 M1 hh hl hk178 hR => ?_) (fun G1 M1 e hh hdd hR => hd_181 _ _ _ hh hdd hR)
          have hmo := hh.1.1
          refine cx_aload_n (i := 0) hE d_Mo_statementGrammar_181 rfl rfl ?_
          refine cx_msb hE d_Mo_statementGrammar_182 rfl l_Mo_226 hh hl hR (c_Mo_ex (hT.sm hl.1) hh.1 ⟨rm_sm.rf _, hl.2⟩) (by omega) (Nat.le_of_ble_eq_true rfl) n_Mo_expGrammar (by rfl) (fun w_182 i_182 s_182 G1 M1 hr_182 hh hl hR => ?_) (fun G1 M1 e hh hdd hR => hd_185 _ _ _ hh hdd hR)
          have hmo := hh.1.1
          have hup_182 := tx_up.exp _ _ _ _ _ _ hr_182
          refine cx_aload_n (i := 0) hE d_Mo_statementGrammar_185 rfl rfl ?_
          refine cx_bipush (v := 59) hE d_Mo_statementGrammar_186 (by decide) ?_
          refine cx_mtk (a := 59) hE d_Mo_statementGrammar_188 rfl hT hh hl (by decide) (by decide) hR (by omega) (Nat.le_of_ble_eq_true rfl) (fun G1 M1 hh hl hk188 hR => ?_) (fun G1 M1 e hh hdd hR => hd_191 _ _ _ hh hdd hR)
          have hmo := hh.1.1
          refine cx_vret hE d_Mo_statementGrammar_191 rfl ?_
          exact ⟨_, rfl, hh, Or.inl ⟨_, _, _, hR, hl⟩⟩
      · have q_132 := of_decide_eq_true (cx_bn.mp c_132)
        unfold tx_st1 at hR
        rw [if_neg q_7, if_neg q_58, if_pos q_132] at hR
        refine cx_aload_n (i := 0) hE d_Mo_statementGrammar_135 rfl rfl ?_
        refine cx_msb hE d_Mo_statementGrammar_136 rfl l_Mo_250 hh hl (hR.trans (tx_R.and_id _)) (c_Mo_caseGrammar (hT.sm hl.1) hh.1 ⟨rm_sm.rf _, hl.2⟩ hx (by omega) rfl) (by omega) (Nat.le_of_ble_eq_true rfl) n_Mo_caseGrammar (by rfl) (fun w_136 i_136 s_136 G1 M1 hr_136 hh hl hR => ?_) (fun G1 M1 e hh hdd hR => hd_139 _ _ _ hh hdd hR)
        have hmo := hh.1.1
        refine cx_goto (tgt := 191) hE d_Mo_statementGrammar_139 (by decide) ?_
        refine cx_vret hE d_Mo_statementGrammar_191 rfl ?_
        exact ⟨_, rfl, hh, Or.inl ⟨_, _, _, hR, hl⟩⟩
    · have q_58 := of_decide_eq_true (cx_bn.mp c_58)
      unfold tx_st1 tx_chc at hR
      rw [if_neg q_7, if_pos q_58] at hR
      try simp only [tx_R.and_as, tx_op_and, tx_R.and_r] at hR
      refine cx_aload_n (i := 0) hE d_Mo_statementGrammar_61 rfl rfl ?_
      refine cx_sipush (v := 312) hE d_Mo_statementGrammar_62 (by decide) ?_
      refine cx_mop (a := 13) hE d_Mo_statementGrammar_65 rfl hT hh hl (by decide) (by decide) hR (by omega) (Nat.le_of_ble_eq_true rfl) (fun f_65 G1 M1 hf65 => ?_) (fun G1 M1 e hh hdd hR => hd_68 _ _ _ hh hdd hR)
      subst hf65
      intro hh hl hk65 hR
      have hmo := hh.1.1
      refine cx_aload_n (i := 0) hE d_Mo_statementGrammar_68 rfl rfl ?_
      refine cx_bipush (v := 40) hE d_Mo_statementGrammar_69 (by decide) ?_
      refine cx_mop (a := 40) hE d_Mo_statementGrammar_71 rfl hT hh hl (by decide) (by decide) hR (by omega) (Nat.le_of_ble_eq_true rfl) (fun f_71 G1 M1 hf71 => ?_) (fun G1 M1 e hh hdd hR => hd_74 _ _ _ hh hdd hR)
      subst hf71
      intro hh hl hk71 hR
      have hmo := hh.1.1
      obtain ⟨m, rfl⟩ : ∃ m9, m = m9 + 1 := ⟨m - 1, by omega⟩
      refine cx_aload_n (i := 0) hE d_Mo_statementGrammar_74 rfl rfl ?_
      refine cx_msb hE d_Mo_statementGrammar_75 rfl l_Mo_226 hh hl hR (c_Mo_ex (hT.sm hl.1) hh.1 ⟨rm_sm.rf _, hl.2⟩) (by omega) (Nat.le_of_ble_eq_true rfl) n_Mo_expGrammar (by rfl) (fun w_75 i_75 s_75 G1 M1 hr_75 hh hl hR => ?_) (fun G1 M1 e hh hdd hR => hd_78 _ _ _ hh hdd hR)
      have hmo := hh.1.1
      have hup_75 := tx_up.exp _ _ _ _ _ _ hr_75
      refine cx_aload_n (i := 0) hE d_Mo_statementGrammar_78 rfl rfl ?_
      refine cx_bipush (v := 41) hE d_Mo_statementGrammar_79 (by decide) ?_
      refine cx_msh (a := 41) hE d_Mo_statementGrammar_81 rfl hT hh hl (by decide) (by decide) (by omega) hR (by omega) (Nat.le_of_ble_eq_true rfl) (fun G1 M1 hh hl hk81 hR => ?_) (fun G1 M1 e hh hdd hR => hd_84 _ _ _ hh hdd hR)
      have hmo := hh.1.1
      refine cx_aload_n (i := 0) hE d_Mo_statementGrammar_84 rfl rfl ?_
      refine cx_msb hE d_Mo_statementGrammar_85 rfl l_Mo_247 hh hl hR (hx _ _ _ _ _ _ _ (by omega) (hT.sm hl.1) hh.1 ⟨rm_sm.rf _, hl.2⟩) (by omega) (Nat.le_of_ble_eq_true rfl) n_Mo_statementGrammar (by rfl) (fun w_85 i_85 s_85 G1 M1 hr_85 hh hl hR => ?_) (fun G1 M1 e hh hdd hR => hd_88 _ _ _ hh hdd hR)
      have hmo := hh.1.1
      have hup_85 := tx_up.stf1 _ _ _ _ _ _ _ hr_85
      refine cx_aload_n (i := 0) hE d_Mo_statementGrammar_88 rfl rfl ?_
      refine cx_sipush (v := 313) hE d_Mo_statementGrammar_89 (by decide) ?_
      refine cx_mis (a := 14) hE d_Mo_statementGrammar_92 rfl hT hh hl (by decide) (by omega) (Nat.le_of_ble_eq_true rfl) ?_
      refine cx_if_eq (tgt := 112)  hE d_Mo_statementGrammar_95 (by decide) (fun c_95 => ?_) (fun c_95 => ?_)
      · have q_95 := of_decide_eq_false (cx_b0.mp c_95)
        rw [if_neg q_95] at hR
        try simp only [tx_R.and_as, tx_op_and, tx_R.and_r] at hR
        refine cx_aload_n (i := 0) hE d_Mo_statementGrammar_112 rfl rfl ?_
        refine cx_dup hE d_Mo_statementGrammar_113 ?_
        refine cx_get hE d_Mo_statementGrammar_114 f_Mo_206 (by assumption) (by rfl) ?_
        refine cx_iconst (v := 1) hE d_Mo_statementGrammar_117 (by decide) ?_
        refine cx_isub hE d_Mo_statementGrammar_118 ?_
        refine cx_putg hE d_Mo_statementGrammar_119 f_Mo_206 (by assumption) (Nat.le_of_ble_eq_true rfl) (by first | rfl | exact cx_nr _ _) (by first | rfl | exact cx_fr _ _) (fun G_119 g_119 h_119 => ?_)
        rw [rm_s11] at g_119 h_119
        have hp_119 := hh.1.pi g_119
        have hh := hh.tr ⟨hp_119.1, hp_119.2, cx_pc g_119⟩
        have hl := hl.dp (v := M1.1 11 - 1) (f' := f_71 + 1 + 1) (by rw [hl.2.2.2.2.1]; exact tx_o62 (f_71 + 1) (by omega)) (by omega)
        refine cx_goto (tgt := 191) hE d_Mo_statementGrammar_122 (by decide) ?_
        refine cx_vret hE d_Mo_statementGrammar_191 rfl ?_
        exact ⟨_, rfl, hh, Or.inl ⟨_, _, _, hR, hl⟩⟩
      · have q_95 := of_decide_eq_true (cx_bn.mp c_95)
        rw [if_pos q_95] at hR
        try simp only [tx_R.and_as, tx_op_and, tx_R.and_r] at hR
        have hkk := q_95
        rw [tx_tk_ok q_95, tx_R.and_r] at hR
        refine cx_aload_n (i := 0) hE d_Mo_statementGrammar_98 rfl rfl ?_
        refine cx_dup hE d_Mo_statementGrammar_99 ?_
        refine cx_get hE d_Mo_statementGrammar_100 f_Mo_193 (by assumption) (by rfl) ?_
        rw [hl.2.1]
        refine cx_iconst (v := 1) hE d_Mo_statementGrammar_103 (by decide) ?_
        refine cx_iadd hE d_Mo_statementGrammar_104 ?_
        show cx_V E _ _ [.int (nI (i_85) + 1), .ref mo] _
        rw [nI_1]
        refine cx_putg hE d_Mo_statementGrammar_105 f_Mo_193 (by assumption) (Nat.le_of_ble_eq_true rfl) (by first | rfl | exact cx_nr _ _) (by first | rfl | exact cx_fr _ _) (fun G_105 g_105 h_105 => ?_)
        rw [rm_s8] at g_105 h_105
        have hp_105 := hh.1.pi g_105
        have hh := hh.tr ⟨hp_105.1, hp_105.2, cx_pc g_105⟩
        have hl := hl.t1 hT (by rw [hkk]; decide) (by rw [hkk]; decide)
        have hmo := hh.1.1
        refine cx_aload_n (i := 0) hE d_Mo_statementGrammar_108 rfl rfl ?_
        refine cx_msb hE d_Mo_statementGrammar_109 rfl l_Mo_247 hh hl (hR.trans (tx_R.and_id _)) (hx _ _ _ _ _ _ _ (by omega) (hT.sm hl.1) hh.1 ⟨rm_sm.rf _, hl.2⟩) (by omega) (Nat.le_of_ble_eq_true rfl) n_Mo_statementGrammar (by rfl) (fun w_109 i_109 s_109 G1 M1 hr_109 hh hl hR => ?_) (fun G1 M1 e hh hdd hR => hd_112 _ _ _ hh hdd hR)
        have hmo := hh.1.1
        have hup_109 := tx_up.stf1 _ _ _ _ _ _ _ hr_109
        refine cx_aload_n (i := 0) hE d_Mo_statementGrammar_112 rfl rfl ?_
        refine cx_dup hE d_Mo_statementGrammar_113 ?_
        refine cx_get hE d_Mo_statementGrammar_114 f_Mo_206 (by assumption) (by rfl) ?_
        refine cx_iconst (v := 1) hE d_Mo_statementGrammar_117 (by decide) ?_
        refine cx_isub hE d_Mo_statementGrammar_118 ?_
        refine cx_putg hE d_Mo_statementGrammar_119 f_Mo_206 (by assumption) (Nat.le_of_ble_eq_true rfl) (by first | rfl | exact cx_nr _ _) (by first | rfl | exact cx_fr _ _) (fun G_119 g_119 h_119 => ?_)
        rw [rm_s11] at g_119 h_119
        have hp_119 := hh.1.pi g_119
        have hh := hh.tr ⟨hp_119.1, hp_119.2, cx_pc g_119⟩
        have hl := hl.dp (v := M1.1 11 - 1) (f' := f_71 + 1 + 1) (by rw [hl.2.2.2.2.1]; exact tx_o62 (f_71 + 1) (by omega)) (by omega)
        refine cx_goto (tgt := 191) hE d_Mo_statementGrammar_122 (by decide) ?_
        refine cx_vret hE d_Mo_statementGrammar_191 rfl ?_
        exact ⟨_, rfl, hh, Or.inl ⟨_, _, _, hR, hl⟩⟩
  · have q_7 := of_decide_eq_true (cx_bn.mp c_7)
    unfold tx_st1 at hR
    rw [if_pos q_7] at hR
    try simp only [tx_R.and_as, tx_op_and, tx_R.and_r] at hR
    refine cx_aload_n (i := 0) hE d_Mo_statementGrammar_10 rfl rfl ?_
    refine cx_sipush (v := 310) hE d_Mo_statementGrammar_11 (by decide) ?_
    refine cx_mop (a := 11) hE d_Mo_statementGrammar_14 rfl hT hh hl (by decide) (by decide) hR (by omega) (Nat.le_of_ble_eq_true rfl) (fun f_14 G1 M1 hf14 => ?_) (fun G1 M1 e hh hdd hR => hd_17 _ _ _ hh hdd hR)
    subst hf14
    intro hh hl hk14 hR
    have hmo := hh.1.1
    obtain ⟨m, rfl⟩ : ∃ m9, m = m9 + 1 := ⟨m - 1, by omega⟩
    have hloop : ∀ (n i' : Nat) (s' : tx_S) (G1 : cx_G) (M1 : rm_M), T.length ≤ i' + n → rm_h k G mo P G1 M1 → rm_lv T M M1 i' f_14 → R0 = (tx_blk T (tx_stf T (m + 1)) f_14 n i' s').and (fun _ i s => (tx_tk T 12 i s).and fun _ i s => .inr ((), i, s)) → cx_V E 17 [(0, false, .ref mo)] [] G1 := by
      intro n
      induction n with
      | zero =>
        intro i' s' G1 M1 h1 hh hl hR
        exact absurd hl.2.2.1 (by omega)
      | succ n ih =>
        intro i' s' G1 M1 h1 hh hl hR
        unfold tx_blk at hR
        have hmo := hh.1.1
        refine cx_aload_n (i := 0) hE d_Mo_statementGrammar_17 rfl rfl ?_
        refine cx_get hE d_Mo_statementGrammar_18 f_Mo_187 (by assumption) (by rfl) ?_
        refine cx_if_ne (tgt := 41)  hE d_Mo_statementGrammar_21 (by decide) (fun c_21 => ?_) (fun c_21 => ?_)
        · exact absurd hl.2.2.2.1 c_21
          -- end
        · refine cx_aload_n (i := 0) hE d_Mo_statementGrammar_24 rfl rfl ?_
          refine cx_mki hE d_Mo_statementGrammar_25 rfl hT hh hl (by omega) (Nat.le_of_ble_eq_true rfl) (fun y_25 hy_25 => ?_)
          refine cx_sipush (v := 311) hE d_Mo_statementGrammar_28 (by decide) ?_
          refine cx_icmp_eq (tgt := 41)  hE d_Mo_statementGrammar_31 (by decide) (fun c_31 => ?_) (fun c_31 => ?_)
          · have q_31 : tx_ki T i' = 12 := (rm_kq hy_25 (by decide)).mp c_31
            rw [if_pos q_31] at hR
            try simp only [tx_R.and_as, tx_op_and, tx_R.and_r] at hR
            refine cx_aload_n (i := 0) hE d_Mo_statementGrammar_41 rfl rfl ?_
            refine cx_sipush (v := 311) hE d_Mo_statementGrammar_42 (by decide) ?_
            refine cx_msh (a := 12) hE d_Mo_statementGrammar_45 rfl hT hh hl (by decide) (by decide) (by omega) hR (by omega) (Nat.le_of_ble_eq_true rfl) (fun G1 M1 hh hl hk45 hR => ?_) (fun G1 M1 e hh hdd hR => hd_48 _ _ _ hh hdd hR)
            have hmo := hh.1.1
            refine cx_goto (tgt := 191) hE d_Mo_statementGrammar_48 (by decide) ?_
            refine cx_vret hE d_Mo_statementGrammar_191 rfl ?_
            exact ⟨_, rfl, hh, Or.inl ⟨_, _, _, hR, hl⟩⟩
          · have q_31 : ¬ tx_ki T i' = 12 := fun z => c_31 ((rm_kq hy_25 (by decide)).mpr z)
            rw [if_neg q_31] at hR
            try simp only [tx_R.and_as, tx_op_and, tx_R.and_r] at hR
            refine cx_aload_n (i := 0) hE d_Mo_statementGrammar_34 rfl rfl ?_
            refine cx_msb hE d_Mo_statementGrammar_35 rfl l_Mo_247 hh hl hR (hx _ _ _ _ _ _ _ (by omega) (hT.sm hl.1) hh.1 ⟨rm_sm.rf _, hl.2⟩) (by omega) (Nat.le_of_ble_eq_true rfl) n_Mo_statementGrammar (by rfl) (fun w_35 i_35 s_35 G1 M1 hr_35 hh hl hR => ?_) (fun G1 M1 e hh hdd hR => hd_38 _ _ _ hh hdd hR)
            have hmo := hh.1.1
            have hup_35 := tx_up.stf1 _ _ _ _ _ _ _ hr_35
            refine cx_goto (tgt := 17) hE d_Mo_statementGrammar_38 (by decide) ?_
            refine cx_sub [0] rfl ?_
            exact ih _ _ _ _ (by omega) hh hl hR
    refine cx_sub [0] rfl ?_
    exact hloop T.length _ _ _ _ (by omega) hh hl hR
theorem rm_PS.all {k : cx_K} {l : Launch} {T : List tx_Tk} : ∀ m, rm_PS k l T m := by
  intro m
  induction m with
  | zero => exact fun f G mo P M i s hf => absurd hf (Nat.not_lt_zero _)
  | succ m ih => exact fun f G mo P M i s hf hT hm hl => (c_Mo_statementGrammar hT hm hl ih (by omega) rfl).more (by omega)
theorem c_Mo_stm {k : cx_K} {l : Launch} {G : cx_G} {mo : Nat} {P : Nat → Nat} {M : rm_M} {T : List tx_Tk} {i f : Nat} {s : tx_S} (hT : rm_tk M T) (hm : rm_R k G mo P M) (hl : rm_lv T M M i f) : cx_Sp k l m_Mo_statementGrammar 544 [.ref mo] G (rm_o k G mo P T M f (tx_stm T f i s)) := rm_PS.all 61 f G mo P M i s (by have := hl.2.2.2.2.2; omega) hT hm hl

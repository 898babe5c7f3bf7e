/-! THE REFERENCE: first pass, the whole text. -/
set_option maxRecDepth 100000 in
theorem c_Mo_designGrammar {k : cx_K} {l : Launch} {G : cx_G} {mo : Nat} {P : Nat → Nat} {M : rm_M} {T : List tx_Tk} {s : tx_S} (hT : rm_tk M T) (hm : rm_R k G mo P M) (h0 : 0 < T.length) (h9 : M.1 9 = 0) {R0 : tx_R Unit} (hR : R0 = tx_dsg T 0 s) : cx_Sp k l m_Mo_designGrammar 548 [.ref mo] G (rm_o k G mo P T M 60 R0) := by
  intro E hE
  have hmo := hm.1
  unfold tx_dsg at hR
  have hd_136 : ∀ (G1 : cx_G) (M1 : rm_M) (e : Int32 × Int32), rm_h k G mo P G1 M1 → rm_dd T M M1 e → R0 = .inl e → cx_V E 136 [(1, false, .int 1), (0, false, .ref mo)] [] G1 := by
    intro G1 M1 e hh hdd hR
    have hmo := hh.1.1
    refine cx_aload_n (i := 0) hE d_Mo_designGrammar_136 rfl rfl ?_
    refine cx_get hE d_Mo_designGrammar_137 f_Mo_187 (by assumption) (by rfl) ?_
    refine cx_if_ne (tgt := 157)  hE d_Mo_designGrammar_140 (by decide) (fun c_140 => ?_) (fun c_140 => ?_)
    · refine cx_iconst (v := 0) hE d_Mo_designGrammar_157 (by decide) ?_
      refine cx_istore_n (i := 1) hE d_Mo_designGrammar_158 rfl (by decide) ?_
      refine cx_goto (tgt := 12) hE d_Mo_designGrammar_159 (by decide) ?_
      refine cx_iload_n (i := 1) hE d_Mo_designGrammar_12 rfl rfl ?_
      refine cx_if_eq (tgt := 162)  hE d_Mo_designGrammar_13 (by decide) (fun c_13 => ?_) (fun c_13 => ?_)
      · refine cx_vret hE d_Mo_designGrammar_162 rfl ?_
        exact ⟨_, rfl, hh, Or.inr ⟨_, hR, hdd⟩⟩
      · exact absurd rfl c_13
        -- end
    · exact absurd (hdd.2.2.1.symm.trans (by simpa using c_140)) hdd.2.2.2.2
      -- end
  have hd_126 : ∀ (G1 : cx_G) (M1 : rm_M) (e : Int32 × Int32), rm_h k G mo P G1 M1 → rm_dd T M M1 e → R0 = .inl e → cx_V E 126 [(1, false, .int 1), (0, false, .ref mo)] [] G1 := by
    intro G1 M1 e hh hdd hR
    have hmo := hh.1.1
    refine cx_goto (tgt := 105) hE d_Mo_designGrammar_126 (by decide) ?_
    refine cx_aload_n (i := 0) hE d_Mo_designGrammar_105 rfl rfl ?_
    refine cx_get hE d_Mo_designGrammar_106 f_Mo_187 (by assumption) (by rfl) ?_
    refine cx_if_ne (tgt := 129)  hE d_Mo_designGrammar_109 (by decide) (fun c_109 => ?_) (fun c_109 => ?_)
    · refine cx_aload_n (i := 0) hE d_Mo_designGrammar_129 rfl rfl ?_
      refine cx_sipush (v := 301) hE d_Mo_designGrammar_130 (by decide) ?_
      refine cx_mtkd hE d_Mo_designGrammar_133 rfl hT hh hdd (by omega) (Nat.le_of_ble_eq_true rfl) (fun G1 M1 hh hdd => ?_)
      have hmo := hh.1.1
      refine cx_sub [0, 1] rfl ?_
      exact hd_136 _ _ _ hh hdd hR
    · exact absurd (hdd.2.2.1.symm.trans (by simpa using c_109)) hdd.2.2.2.2
      -- end
  have hd_105 : ∀ (G1 : cx_G) (M1 : rm_M) (e : Int32 × Int32), rm_h k G mo P G1 M1 → rm_dd T M M1 e → R0 = .inl e → cx_V E 105 [(1, false, .int 1), (0, false, .ref mo)] [] G1 := by
    intro G1 M1 e hh hdd hR
    have hmo := hh.1.1
    refine cx_aload_n (i := 0) hE d_Mo_designGrammar_105 rfl rfl ?_
    refine cx_get hE d_Mo_designGrammar_106 f_Mo_187 (by assumption) (by rfl) ?_
    refine cx_if_ne (tgt := 129)  hE d_Mo_designGrammar_109 (by decide) (fun c_109 => ?_) (fun c_109 => ?_)
    · refine cx_aload_n (i := 0) hE d_Mo_designGrammar_129 rfl rfl ?_
      refine cx_sipush (v := 301) hE d_Mo_designGrammar_130 (by decide) ?_
      refine cx_mtkd hE d_Mo_designGrammar_133 rfl hT hh hdd (by omega) (Nat.le_of_ble_eq_true rfl) (fun G1 M1 hh hdd => ?_)
      have hmo := hh.1.1
      refine cx_sub [0, 1] rfl ?_
      exact hd_136 _ _ _ hh hdd hR
    · exact absurd (hdd.2.2.1.symm.trans (by simpa using c_109)) hdd.2.2.2.2
      -- end
  have hd_99 : ∀ (G1 : cx_G) (M1 : rm_M) (e : Int32 × Int32), rm_h k G mo P G1 M1 → rm_dd T M M1 e → R0 = .inl e → cx_V E 99 [(1, false, .int 1), (0, false, .ref mo)] [] G1 := by
    intro G1 M1 e hh hdd hR
    have hmo := hh.1.1
    refine cx_aload_n (i := 0) hE d_Mo_designGrammar_99 rfl rfl ?_
    refine cx_bipush (v := 59) hE d_Mo_designGrammar_100 (by decide) ?_
    refine cx_mtkd hE d_Mo_designGrammar_102 rfl hT hh hdd (by omega) (Nat.le_of_ble_eq_true rfl) (fun G1 M1 hh hdd => ?_)
    have hmo := hh.1.1
    refine cx_sub [0, 1] rfl ?_
    exact hd_105 _ _ _ hh hdd hR
  have hd_90 : ∀ (G1 : cx_G) (M1 : rm_M) (e : Int32 × Int32), rm_h k G mo P G1 M1 → rm_dd T M M1 e → R0 = .inl e → cx_V E 90 [(1, false, .int 1), (0, false, .ref mo)] [] G1 := by
    intro G1 M1 e hh hdd hR
    have hmo := hh.1.1
    refine cx_goto (tgt := 67) hE d_Mo_designGrammar_90 (by decide) ?_
    refine cx_aload_n (i := 0) hE d_Mo_designGrammar_67 rfl rfl ?_
    refine cx_bipush (v := 44) hE d_Mo_designGrammar_68 (by decide) ?_
    refine cx_misd hE d_Mo_designGrammar_70 rfl hT hh hdd (by omega) (Nat.le_of_ble_eq_true rfl) ?_
    refine cx_if_eq (tgt := 93)  hE d_Mo_designGrammar_73 (by decide) (fun c_73 => ?_) (fun c_73 => ?_)
    · refine cx_aload_n (i := 0) hE d_Mo_designGrammar_93 rfl rfl ?_
      refine cx_bipush (v := 41) hE d_Mo_designGrammar_94 (by decide) ?_
      refine cx_mshd hE d_Mo_designGrammar_96 rfl hT hh hdd (by omega) (Nat.le_of_ble_eq_true rfl) (fun G1 M1 hh hdd => ?_)
      have hmo := hh.1.1
      refine cx_sub [0, 1] rfl ?_
      exact hd_99 _ _ _ hh hdd hR
    · exact absurd rfl c_73
      -- end
  have hd_67 : ∀ (G1 : cx_G) (M1 : rm_M) (e : Int32 × Int32), rm_h k G mo P G1 M1 → rm_dd T M M1 e → R0 = .inl e → cx_V E 67 [(1, false, .int 1), (0, false, .ref mo)] [] G1 := by
    intro G1 M1 e hh hdd hR
    have hmo := hh.1.1
    refine cx_aload_n (i := 0) hE d_Mo_designGrammar_67 rfl rfl ?_
    refine cx_bipush (v := 44) hE d_Mo_designGrammar_68 (by decide) ?_
    refine cx_misd hE d_Mo_designGrammar_70 rfl hT hh hdd (by omega) (Nat.le_of_ble_eq_true rfl) ?_
    refine cx_if_eq (tgt := 93)  hE d_Mo_designGrammar_73 (by decide) (fun c_73 => ?_) (fun c_73 => ?_)
    · refine cx_aload_n (i := 0) hE d_Mo_designGrammar_93 rfl rfl ?_
      refine cx_bipush (v := 41) hE d_Mo_designGrammar_94 (by decide) ?_
      refine cx_mshd hE d_Mo_designGrammar_96 rfl hT hh hdd (by omega) (Nat.le_of_ble_eq_true rfl) (fun G1 M1 hh hdd => ?_)
      have hmo := hh.1.1
      refine cx_sub [0, 1] rfl ?_
      exact hd_99 _ _ _ hh hdd hR
    · exact absurd rfl c_73
      -- end
  have hd_43 : ∀ (G1 : cx_G) (M1 : rm_M) (e : Int32 × Int32), rm_h k G mo P G1 M1 → rm_dd T M M1 e → R0 = .inl e → cx_V E 43 [(1, false, .int 1), (0, false, .ref mo)] [] G1 := by
    intro G1 M1 e hh hdd hR
    have hmo := hh.1.1
    refine cx_aload_n (i := 0) hE d_Mo_designGrammar_43 rfl rfl ?_
    refine cx_sipush (v := 302) hE d_Mo_designGrammar_44 (by decide) ?_
    refine cx_misd hE d_Mo_designGrammar_47 rfl hT hh hdd (by omega) (Nat.le_of_ble_eq_true rfl) ?_
    refine cx_if_ne (tgt := 63)  hE d_Mo_designGrammar_50 (by decide) (fun c_50 => ?_) (fun c_50 => ?_)
    · exact absurd rfl c_50
      -- end
    · refine cx_aload_n (i := 0) hE d_Mo_designGrammar_53 rfl rfl ?_
      refine cx_sipush (v := 303) hE d_Mo_designGrammar_54 (by decide) ?_
      refine cx_misd hE d_Mo_designGrammar_57 rfl hT hh hdd (by omega) (Nat.le_of_ble_eq_true rfl) ?_
      refine cx_if_eq (tgt := 93)  hE d_Mo_designGrammar_60 (by decide) (fun c_60 => ?_) (fun c_60 => ?_)
      · refine cx_aload_n (i := 0) hE d_Mo_designGrammar_93 rfl rfl ?_
        refine cx_bipush (v := 41) hE d_Mo_designGrammar_94 (by decide) ?_
        refine cx_mshd hE d_Mo_designGrammar_96 rfl hT hh hdd (by omega) (Nat.le_of_ble_eq_true rfl) (fun G1 M1 hh hdd => ?_)
        have hmo := hh.1.1
        refine cx_sub [0, 1] rfl ?_
        exact hd_99 _ _ _ hh hdd hR
      · exact absurd rfl c_60
        -- end
  have hd_37 : ∀ (G1 : cx_G) (M1 : rm_M) (e : Int32 × Int32), rm_h k G mo P G1 M1 → rm_dd T M M1 e → R0 = .inl e → cx_V E 37 [(1, false, .int 1), (0, false, .ref mo)] [] G1 := by
    intro G1 M1 e hh hdd hR
    have hmo := hh.1.1
    refine cx_aload_n (i := 0) hE d_Mo_designGrammar_37 rfl rfl ?_
    refine cx_bipush (v := 40) hE d_Mo_designGrammar_38 (by decide) ?_
    refine cx_mopd hE d_Mo_designGrammar_40 rfl hT hh hdd (by omega) (Nat.le_of_ble_eq_true rfl) (fun G1 M1 hh hdd => ?_)
    have hmo := hh.1.1
    refine cx_sub [0, 1] rfl ?_
    exact hd_43 _ _ _ hh hdd hR
  have hd_30 : ∀ (G1 : cx_G) (M1 : rm_M) (e : Int32 × Int32), rm_h k G mo P G1 M1 → rm_dd T M M1 e → R0 = .inl e → cx_V E 30 [(1, false, .int 1), (0, false, .ref mo)] [] G1 := by
    intro G1 M1 e hh hdd hR
    have hmo := hh.1.1
    refine cx_aload_n (i := 0) hE d_Mo_designGrammar_30 rfl rfl ?_
    refine cx_sipush (v := 400) hE d_Mo_designGrammar_31 (by decide) ?_
    refine cx_mtkd hE d_Mo_designGrammar_34 rfl hT hh hdd (by omega) (Nat.le_of_ble_eq_true rfl) (fun G1 M1 hh hdd => ?_)
    have hmo := hh.1.1
    refine cx_sub [0, 1] rfl ?_
    exact hd_37 _ _ _ hh hdd hR
  have hmain : ∀ (n i' : Nat) (s' : tx_S) (G1 : cx_G) (M1 : rm_M), T.length ≤ i' + n → rm_h k G mo P G1 M1 → rm_lv T M M1 i' 60 → R0 = (tx_unt T 60 i' s').and (fun _ i s => tx_dss T n i s) → cx_V E 12 [(1, false, .int 1), (0, false, .ref mo)] [] G1 := by
    intro n
    induction n with
    | zero =>
      intro i' s' G1 M1 h1 hh hl hR
      exact absurd hl.2.2.1 (by omega)
    | succ n ih =>
      intro i' s' G1 M1 h1 hh hl hR
      have hmo := hh.1.1
      refine cx_iload_n (i := 1) hE d_Mo_designGrammar_12 rfl rfl ?_
      refine cx_if_eq (tgt := 162)  hE d_Mo_designGrammar_13 (by decide) (fun c_13 => ?_) (fun c_13 => ?_)
      · exact absurd c_13 (by decide)
        -- end
      · refine cx_aload_n (i := 0) hE d_Mo_designGrammar_16 rfl rfl ?_
        refine cx_get hE d_Mo_designGrammar_17 f_Mo_187 (by assumption) (by rfl) ?_
        refine cx_if_ne (tgt := 162)  hE d_Mo_designGrammar_20 (by decide) (fun c_20 => ?_) (fun c_20 => ?_)
        · exact absurd hl.2.2.2.1 c_20
          -- end
        · refine cx_aload_n (i := 0) hE d_Mo_designGrammar_23 rfl rfl ?_
          refine cx_sipush (v := 300) hE d_Mo_designGrammar_24 (by decide) ?_
          unfold tx_unt at hR
          try simp only [tx_R.and_as, tx_op_and, tx_R.and_r] at hR
          refine cx_mtk (a := 1) hE d_Mo_designGrammar_27 rfl hT hh hl (by decide) (by decide) hR (by omega) (Nat.le_of_ble_eq_true rfl) (fun G1 M1 hh hl hk27 hR => ?_) (fun G1 M1 e hh hdd hR => hd_30 _ _ _ hh hdd hR)
          have hmo := hh.1.1
          refine cx_aload_n (i := 0) hE d_Mo_designGrammar_30 rfl rfl ?_
          refine cx_sipush (v := 400) hE d_Mo_designGrammar_31 (by decide) ?_
          refine cx_mtk (a := 19) hE d_Mo_designGrammar_34 rfl hT hh hl (by decide) (by decide) hR (by omega) (Nat.le_of_ble_eq_true rfl) (fun G1 M1 hh hl hk34 hR => ?_) (fun G1 M1 e hh hdd hR => hd_37 _ _ _ hh hdd hR)
          have hmo := hh.1.1
          refine cx_aload_n (i := 0) hE d_Mo_designGrammar_37 rfl rfl ?_
          refine cx_bipush (v := 40) hE d_Mo_designGrammar_38 (by decide) ?_
          refine cx_mop (f := 60) (a := 40) hE d_Mo_designGrammar_40 rfl hT hh hl (by decide) (by decide) hR (by omega) (Nat.le_of_ble_eq_true rfl) (fun f_40 G1 M1 hf40 => ?_) (fun G1 M1 e hh hdd hR => hd_43 _ _ _ hh hdd hR)
          obtain rfl : f_40 = 59 := by omega
          intro hh hl hk40 hR
          have hmo := hh.1.1
          have hit : ∀ (n2 i2 : Nat) (s2 : tx_S) (G2 : cx_G) (M2 : rm_M), T.length ≤ i2 + n2 → i' < i2 → rm_h k G mo P G2 M2 → rm_lv T M M2 i2 60 → R0 = (tx_its T (60) n2 i2 s2).and (fun _ i s => (tx_tk T 2 i s).and fun _ i s => tx_dss T (n + 1) i (tx_fun s)) → cx_V E 105 [(1, false, .int 1), (0, false, .ref mo)] [] G2 := by
            intro n2
            induction n2 with
            | zero =>
              intro i2 s2 G2 M2 h4 h5 hh hl hR
              exact absurd hl.2.2.1 (by omega)
            | succ n2 ih2 =>
              intro i2 s2 G2 M2 h4 h5 hh hl hR
              unfold tx_its at hR
              have hmo := hh.1.1
              refine cx_aload_n (i := 0) hE d_Mo_designGrammar_105 rfl rfl ?_
              refine cx_get hE d_Mo_designGrammar_106 f_Mo_187 (by assumption) (by rfl) ?_
              refine cx_if_ne (tgt := 129)  hE d_Mo_designGrammar_109 (by decide) (fun c_109 => ?_) (fun c_109 => ?_)
              · exact absurd hl.2.2.2.1 c_109
                -- end
              · refine cx_aload_n (i := 0) hE d_Mo_designGrammar_112 rfl rfl ?_
                refine cx_mki hE d_Mo_designGrammar_113 rfl hT hh hl (by omega) (Nat.le_of_ble_eq_true rfl) (fun y_113 hy_113 => ?_)
                refine cx_sipush (v := 301) hE d_Mo_designGrammar_116 (by decide) ?_
                refine cx_icmp_eq (tgt := 129)  hE d_Mo_designGrammar_119 (by decide) (fun c_119 => ?_) (fun c_119 => ?_)
                · have q_119 : tx_ki T i2 = 2 := (rm_kq hy_113 (by decide)).mp c_119
                  rw [if_pos q_119] at hR
                  try simp only [tx_R.and_as, tx_op_and, tx_R.and_r] at hR
                  refine cx_aload_n (i := 0) hE d_Mo_designGrammar_129 rfl rfl ?_
                  refine cx_sipush (v := 301) hE d_Mo_designGrammar_130 (by decide) ?_
                  refine cx_mtk (a := 2) hE d_Mo_designGrammar_133 rfl hT hh hl (by decide) (by decide) hR (by omega) (Nat.le_of_ble_eq_true rfl) (fun G1 M1 hh hl hk133 hR => ?_) (fun G1 M1 e hh hdd hR => hd_136 _ _ _ hh hdd hR)
                  have hmo := hh.1.1
                  refine cx_aload_n (i := 0) hE d_Mo_designGrammar_136 rfl rfl ?_
                  refine cx_get hE d_Mo_designGrammar_137 f_Mo_187 (by assumption) (by rfl) ?_
                  refine cx_if_ne (tgt := 157)  hE d_Mo_designGrammar_140 (by decide) (fun c_140 => ?_) (fun c_140 => ?_)
                  · exact absurd hl.2.2.2.1 c_140
                    -- end
                  · refine cx_aload_n (i := 0) hE d_Mo_designGrammar_143 rfl rfl ?_
                    refine cx_mki hE d_Mo_designGrammar_144 rfl hT hh hl (by omega) (Nat.le_of_ble_eq_true rfl) (fun y_144 hy_144 => ?_)
                    refine cx_sipush (v := 403) hE d_Mo_designGrammar_147 (by decide) ?_
                    refine cx_icmp_eq (tgt := 157)  hE d_Mo_designGrammar_150 (by decide) (fun c_150 => ?_) (fun c_150 => ?_)
                    · have q_150 : tx_ki T (i2 + 1) = 22 := (rm_kq hy_144 (by decide)).mp c_150
                      unfold tx_dss at hR
                      rw [if_pos q_150] at hR
                      refine cx_iconst (v := 0) hE d_Mo_designGrammar_157 (by decide) ?_
                      refine cx_istore_n (i := 1) hE d_Mo_designGrammar_158 rfl (by decide) ?_
                      refine cx_goto (tgt := 12) hE d_Mo_designGrammar_159 (by decide) ?_
                      refine cx_iload_n (i := 1) hE d_Mo_designGrammar_12 rfl rfl ?_
                      refine cx_if_eq (tgt := 162)  hE d_Mo_designGrammar_13 (by decide) (fun c_13 => ?_) (fun c_13 => ?_)
                      · refine cx_vret hE d_Mo_designGrammar_162 rfl ?_
                        exact ⟨_, rfl, hh, Or.inl ⟨_, _, _, hR, hl⟩⟩
                      · exact absurd rfl c_13
                        -- end
                      -- end
                    · have q_150 : ¬ tx_ki T (i2 + 1) = 22 := fun z => c_150 ((rm_kq hy_144 (by decide)).mpr z)
                      unfold tx_dss at hR
                      rw [if_neg q_150] at hR
                      refine cx_iconst (v := 1) hE d_Mo_designGrammar_153 (by decide) ?_
                      refine cx_goto (tgt := 158) hE d_Mo_designGrammar_154 (by decide) ?_
                      refine cx_istore_n (i := 1) hE d_Mo_designGrammar_158 rfl (by decide) ?_
                      refine cx_goto (tgt := 12) hE d_Mo_designGrammar_159 (by decide) ?_
                      refine cx_sub [0, 1] rfl ?_
                      exact ih _ _ _ _ (by omega) hh hl hR
                · have q_119 : ¬ tx_ki T i2 = 2 := fun z => c_119 ((rm_kq hy_113 (by decide)).mpr z)
                  rw [if_neg q_119] at hR
                  try simp only [tx_R.and_as, tx_op_and, tx_R.and_r] at hR
                  refine cx_aload_n (i := 0) hE d_Mo_designGrammar_122 rfl rfl ?_
                  refine cx_msb hE d_Mo_designGrammar_123 rfl l_Mo_259 hh hl hR (c_Mo_itemGrammar (hT.sm hl.1) hh.1 ⟨rm_sm.rf _, hl.2⟩ rfl) (by omega) (Nat.le_of_ble_eq_true rfl) n_Mo_itemGrammar (by rfl) (fun w_123 i_123 s_123 G1 M1 hr_123 hh hl hR => ?_) (fun G1 M1 e hh hdd hR => hd_126 _ _ _ hh hdd hR)
                  have hmo := hh.1.1
                  have hup_123 := tx_up.itm _ _ _ hr_123
                  refine cx_goto (tgt := 105) hE d_Mo_designGrammar_126 (by decide) ?_
                  refine cx_sub [0, 1] rfl ?_
                  exact ih2 _ _ _ _ (by omega) (by omega) hh hl hR
          have hpl : ∀ (n2 i2 : Nat) (s2 : tx_S) (G2 : cx_G) (M2 : rm_M), T.length ≤ i2 + n2 → i' < i2 → rm_h k G mo P G2 M2 → rm_lv T M M2 i2 59 → R0 = (tx_pos T 59 n2 i2 s2).and (fun _ i s => (tx_tk T 41 i s).and fun _ i s => (tx_tk T 59 i s).and fun _ i s => (tx_its T (60) T.length i s).and (fun _ i s => (tx_tk T 2 i s).and fun _ i s => tx_dss T (n + 1) i (tx_fun s))) → cx_V E 67 [(1, false, .int 1), (0, false, .ref mo)] [] G2 := by
            intro n2
            induction n2 with
            | zero =>
              intro i2 s2 G2 M2 h4 h5 hh hl hR
              exact absurd hl.2.2.1 (by omega)
            | succ n2 ih2 =>
              intro i2 s2 G2 M2 h4 h5 hh hl hR
              unfold tx_pos at hR
              have hmo := hh.1.1
              refine cx_aload_n (i := 0) hE d_Mo_designGrammar_67 rfl rfl ?_
              refine cx_bipush (v := 44) hE d_Mo_designGrammar_68 (by decide) ?_
              refine cx_mis (a := 44) hE d_Mo_designGrammar_70 rfl hT hh hl (by decide) (by omega) (Nat.le_of_ble_eq_true rfl) ?_
              refine cx_if_eq (tgt := 93)  hE d_Mo_designGrammar_73 (by decide) (fun c_73 => ?_) (fun c_73 => ?_)
              · have q_73 := of_decide_eq_false (cx_b0.mp c_73)
                refine cx_aload_n (i := 0) hE d_Mo_designGrammar_93 rfl rfl ?_
                refine cx_bipush (v := 41) hE d_Mo_designGrammar_94 (by decide) ?_
                by_cases q41 : tx_ki T i2 = 41
                · rw [if_pos q41] at hR
                  try simp only [tx_R.and_as, tx_op_and, tx_R.and_r] at hR
                  refine cx_msh (a := 41) hE d_Mo_designGrammar_96 rfl hT hh hl (by decide) (by decide) (by omega) hR (by omega) (Nat.le_of_ble_eq_true rfl) (fun G1 M1 hh hl hk96 hR => ?_) (fun G1 M1 e hh hdd hR => hd_99 _ _ _ hh hdd hR)
                  have hmo := hh.1.1
                  refine cx_aload_n (i := 0) hE d_Mo_designGrammar_99 rfl rfl ?_
                  refine cx_bipush (v := 59) hE d_Mo_designGrammar_100 (by decide) ?_
                  refine cx_mtk (a := 59) hE d_Mo_designGrammar_102 rfl hT hh hl (by decide) (by decide) hR (by omega) (Nat.le_of_ble_eq_true rfl) (fun G1 M1 hh hl hk102 hR => ?_) (fun G1 M1 e hh hdd hR => hd_105 _ _ _ hh hdd hR)
                  have hmo := hh.1.1
                  refine cx_sub [0, 1] rfl ?_
                  exact hit T.length _ _ _ _ (by omega) (by omega) hh hl hR
                · rw [if_neg q41, show tx_tk T 44 i2 s2 = .inl (tx_no (tx_ta T i2)) from if_neg q_73] at hR
                  simp only [tx_R.and_l] at hR
                  refine cx_msh (a := 41) (s := s2) (g := fun _ _ _ => R0) hE d_Mo_designGrammar_96 rfl hT hh hl (by decide) (by decide) (by omega) (by rw [show tx_tk T 41 i2 s2 = .inl (tx_no (tx_ta T i2)) from if_neg q41]; exact hR) (by omega) (Nat.le_of_ble_eq_true rfl) (fun G1 M1 hh hl hk96 _ => absurd hk96 q41) (fun G1 M1 e hh hdd hR => hd_99 _ _ _ hh hdd hR)
                -- end
              · have q_73 := of_decide_eq_true (cx_bn.mp c_73)
                have q9_73 : ¬ tx_ki T i2 = 41 := by rw [q_73]; decide
                rw [if_neg q9_73] at hR
                try simp only [tx_R.and_as, tx_op_and, tx_R.and_r] at hR
                have hkk := q_73
                rw [tx_tk_ok q_73, tx_R.and_r] at hR
                refine cx_aload_n (i := 0) hE d_Mo_designGrammar_76 rfl rfl ?_
                refine cx_dup hE d_Mo_designGrammar_77 ?_
                refine cx_get hE d_Mo_designGrammar_78 f_Mo_193 (by assumption) (by rfl) ?_
                rw [hl.2.1]
                refine cx_iconst (v := 1) hE d_Mo_designGrammar_81 (by decide) ?_
                refine cx_iadd hE d_Mo_designGrammar_82 ?_
                show cx_V E _ _ [.int (nI (i2) + 1), .ref mo] _
                rw [nI_1]
                refine cx_putg hE d_Mo_designGrammar_83 f_Mo_193 (by assumption) (Nat.le_of_ble_eq_true rfl) (by first | rfl | exact cx_nr _ _) (by first | rfl | exact cx_fr _ _) (fun G_83 g_83 h_83 => ?_)
                rw [rm_s8] at g_83 h_83
                have hp_83 := hh.1.pi g_83
                have hh := hh.tr ⟨hp_83.1, hp_83.2, cx_pc g_83⟩
                have hl := hl.t1 hT (by rw [hkk]; decide) (by rw [hkk]; decide)
                have hmo := hh.1.1
                refine cx_aload_n (i := 0) hE d_Mo_designGrammar_86 rfl rfl ?_
                refine cx_msb hE d_Mo_designGrammar_87 rfl l_Mo_256 hh hl hR (c_Mo_portGrammar (hT.sm hl.1) hh.1 ⟨rm_sm.rf _, hl.2⟩ rfl) (by omega) (Nat.le_of_ble_eq_true rfl) n_Mo_portGrammar (by rfl) (fun w_87 i_87 s_87 G1 M1 hr_87 hh hl hR => ?_) (fun G1 M1 e hh hdd hR => hd_90 _ _ _ hh hdd hR)
                have hmo := hh.1.1
                have hup_87 := tx_up.por _ _ _ hr_87
                refine cx_goto (tgt := 67) hE d_Mo_designGrammar_90 (by decide) ?_
                refine cx_sub [0, 1] rfl ?_
                exact ih2 _ _ _ _ (by omega) (by omega) hh hl hR
          refine cx_aload_n (i := 0) hE d_Mo_designGrammar_43 rfl rfl ?_
          refine cx_sipush (v := 302) hE d_Mo_designGrammar_44 (by decide) ?_
          refine cx_mis (a := 3) hE d_Mo_designGrammar_47 rfl hT hh hl (by decide) (by omega) (Nat.le_of_ble_eq_true rfl) ?_
          refine cx_if_ne (tgt := 63)  hE d_Mo_designGrammar_50 (by decide) (fun c_50 => ?_) (fun c_50 => ?_)
          · have q_50 := of_decide_eq_true (cx_bn.mp c_50)
            rw [if_neg (by rw [q_50]; decide)] at hR
            try simp only [tx_R.and_as, tx_op_and, tx_R.and_r] at hR
            refine cx_aload_n (i := 0) hE d_Mo_designGrammar_63 rfl rfl ?_
            refine cx_msb hE d_Mo_designGrammar_64 rfl l_Mo_256 hh hl hR (c_Mo_portGrammar (hT.sm hl.1) hh.1 ⟨rm_sm.rf _, hl.2⟩ rfl) (by omega) (Nat.le_of_ble_eq_true rfl) n_Mo_portGrammar (by rfl) (fun w_64 i_64 s_64 G1 M1 hr_64 hh hl hR => ?_) (fun G1 M1 e hh hdd hR => hd_67 _ _ _ hh hdd hR)
            have hmo := hh.1.1
            have hup_64 := tx_up.por _ _ _ hr_64
            refine cx_sub [0, 1] rfl ?_
            exact hpl T.length _ _ _ _ (by omega) (by omega) hh hl hR
          · have q_50 := of_decide_eq_false (cx_b0.mp (by simpa using c_50))
            refine cx_aload_n (i := 0) hE d_Mo_designGrammar_53 rfl rfl ?_
            refine cx_sipush (v := 303) hE d_Mo_designGrammar_54 (by decide) ?_
            refine cx_mis (a := 4) hE d_Mo_designGrammar_57 rfl hT hh hl (by decide) (by omega) (Nat.le_of_ble_eq_true rfl) ?_
            refine cx_if_eq (tgt := 93)  hE d_Mo_designGrammar_60 (by decide) (fun c_60 => ?_) (fun c_60 => ?_)
            · have q_60 := of_decide_eq_false (cx_b0.mp c_60)
              refine cx_aload_n (i := 0) hE d_Mo_designGrammar_93 rfl rfl ?_
              refine cx_bipush (v := 41) hE d_Mo_designGrammar_94 (by decide) ?_
              by_cases q41 : tx_ki T (i' + 1 + 1 + 1) = 41
              · rw [if_pos q41] at hR
                try simp only [tx_R.and_as, tx_op_and, tx_R.and_r] at hR
                rw [tx_pos_41 q41, tx_R.and_r] at hR
                refine cx_msh (a := 41) hE d_Mo_designGrammar_96 rfl hT hh hl (by decide) (by decide) (by omega) hR (by omega) (Nat.le_of_ble_eq_true rfl) (fun G1 M1 hh hl hk96 hR => ?_) (fun G1 M1 e hh hdd hR => hd_99 _ _ _ hh hdd hR)
                have hmo := hh.1.1
                refine cx_aload_n (i := 0) hE d_Mo_designGrammar_99 rfl rfl ?_
                refine cx_bipush (v := 59) hE d_Mo_designGrammar_100 (by decide) ?_
                refine cx_mtk (a := 59) hE d_Mo_designGrammar_102 rfl hT hh hl (by decide) (by decide) hR (by omega) (Nat.le_of_ble_eq_true rfl) (fun G1 M1 hh hl hk102 hR => ?_) (fun G1 M1 e hh hdd hR => hd_105 _ _ _ hh hdd hR)
                have hmo := hh.1.1
                refine cx_sub [0, 1] rfl ?_
                exact hit T.length _ _ _ _ (by omega) (by omega) hh hl hR
              · rw [if_neg q41] at hR
                unfold tx_por at hR
                rw [if_neg q_50, show tx_tk T 4 (i' + 1 + 1 + 1) (tx_bun (tx_ta T (i' + 1)) s') = .inl (tx_no (tx_ta T (i' + 1 + 1 + 1))) from if_neg q_60] at hR
                try simp only [tx_R.and_as, tx_op_and, tx_R.and_r] at hR
                simp only [tx_R.and_l] at hR
                refine cx_msh (a := 41) (s := (tx_bun (tx_ta T (i' + 1)) s')) (g := fun _ _ _ => R0) hE d_Mo_designGrammar_96 rfl hT hh hl (by decide) (by decide) (by omega) (by rw [show tx_tk T 41 (i' + 1 + 1 + 1) (tx_bun (tx_ta T (i' + 1)) s') = .inl (tx_no (tx_ta T (i' + 1 + 1 + 1))) from if_neg q41]; exact hR) (by omega) (Nat.le_of_ble_eq_true rfl) (fun G1 M1 hh hl hk96 _ => absurd hk96 q41) (fun G1 M1 e hh hdd hR => hd_99 _ _ _ hh hdd hR)
              -- end
            · have q_60 := of_decide_eq_true (cx_bn.mp c_60)
              rw [if_neg (by rw [q_60]; decide)] at hR
              try simp only [tx_R.and_as, tx_op_and, tx_R.and_r] at hR
              refine cx_aload_n (i := 0) hE d_Mo_designGrammar_63 rfl rfl ?_
              refine cx_msb hE d_Mo_designGrammar_64 rfl l_Mo_256 hh hl hR (c_Mo_portGrammar (hT.sm hl.1) hh.1 ⟨rm_sm.rf _, hl.2⟩ rfl) (by omega) (Nat.le_of_ble_eq_true rfl) n_Mo_portGrammar (by rfl) (fun w_64 i_64 s_64 G1 M1 hr_64 hh hl hR => ?_) (fun G1 M1 e hh hdd hR => hd_67 _ _ _ hh hdd hR)
              have hmo := hh.1.1
              have hup_64 := tx_up.por _ _ _ hr_64
              refine cx_sub [0, 1] rfl ?_
              exact hpl T.length _ _ _ _ (by omega) (by omega) hh hl hR
  refine cx_aload_n (i := 0) hE d_Mo_designGrammar_0 rfl rfl ?_
  refine cx_iconst (v := 0) hE d_Mo_designGrammar_1 (by decide) ?_
  refine cx_putg hE d_Mo_designGrammar_2 f_Mo_193 (by assumption) (Nat.le_of_ble_eq_true rfl) (by first | rfl | exact cx_nr _ _) (by first | rfl | exact cx_fr _ _) (fun G_2 g_2 h_2 => ?_)
  rw [rm_s8] at g_2 h_2
  have m2 := hm.pi g_2
  refine cx_aload_n (i := 0) hE d_Mo_designGrammar_5 rfl rfl ?_
  refine cx_iconst (v := 0) hE d_Mo_designGrammar_6 (by decide) ?_
  refine cx_putg hE d_Mo_designGrammar_7 f_Mo_206 (by assumption) (Nat.le_of_ble_eq_true rfl) (by first | rfl | exact cx_nr _ _) (by first | rfl | exact cx_fr _ _) (fun G_7 g_7 h_7 => ?_)
  rw [rm_s11] at g_7 h_7
  have m7 := m2.1.pi g_7
  have hh : rm_h k G mo P G_7 (va_up (va_up M.1 8 0) 11 0, M.2) := ⟨m7.1, m2.2.tr m7.2, (cx_pc g_7).trans (cx_pc g_2)⟩
  have hl : rm_lv T M (va_up (va_up M.1 8 0) 11 0, M.2) 0 60 := ⟨⟨rfl, fun j a b c d => by show (if j = 11 then _ else if j = 8 then _ else M.1 j) = _; rw [if_neg d, if_neg a]⟩, rfl, h0, h9, rfl, Nat.le_refl _⟩
  refine cx_iconst (v := 1) hE d_Mo_designGrammar_10 (by decide) ?_
  refine cx_istore_n (i := 1) hE d_Mo_designGrammar_11 rfl (by decide) ?_
  refine cx_sub [0, 1] rfl ?_
  exact hmain T.length 0 s _ (va_up (va_up M.1 8 0) 11 0, M.2) (by omega) hh hl hR

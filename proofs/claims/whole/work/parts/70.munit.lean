/-! THE REFERENCE: first pass, modules. -/
def tx_bg (T : List tx_Tk) (i : Nat) (s : tx_S) : tx_R (Option tx_Tk) := if tx_ki T i = 61 then (tx_tk T 61 i s).and fun _ i s => (tx_tk T 21 i s).and fun v i s => .inr (some v, i, s) else .inr (none, i, s)
theorem tx_rgs_bg (T : List tx_Tk) (q i : Nat) (s : tx_S) : (if tx_ki T i = 61 then (tx_tk T 61 i s).and fun _ i s' => (tx_tk T 21 i s').and fun v i s' => (.inr ((), i, tx_beg q v s') : tx_R Unit) else .inr ((), i, s)) = (tx_bg T i s).and fun o i s' => .inr ((), i, match o with | some v => tx_beg q v s' | none => s') := by
  unfold tx_bg
  split
  · rw [tx_R.and_as]
    congr 1
    funext _ i s
    rw [tx_R.and_as]
    rfl
  · rfl
theorem tx_lks_41 {T : List tx_Tk} {q f i : Nat} {s : tx_S} (h : tx_ki T i = 41) : ∀ {n : Nat}, tx_lks' T q f n i s = .inr ((), i, s)
  | 0 => rfl
  | n + 1 => if_pos h
theorem tx_pos_41 {T : List tx_Tk} {f i : Nat} {s : tx_S} (h : tx_ki T i = 41) : ∀ {n : Nat}, tx_pos T f n i s = .inr ((), i, s)
  | 0 => rfl
  | n + 1 => if_pos h
set_option maxRecDepth 100000 in
theorem c_Mo_rangeGrammar_d {k : cx_K} {l : Launch} {G : cx_G} {mo : Nat} {P : Nat → Nat} {M1 : rm_M} {T : List tx_Tk} {e : Int32 × Int32} (hT : rm_tk M1 T) (hm : rm_R k G mo P M1) (hdd : rm_dd T M1 M1 e) : cx_Sp k l m_Mo_rangeGrammar 6 [.ref mo] G (rm_x k G mo P T M1 e) := by
  intro E hE
  have hh : rm_h k G mo P G M1 := ⟨hm, rm_st.rf _ _ _, rfl⟩
  have hmo := hh.1.1
  refine cx_aload_n (i := 0) hE d_Mo_rangeGrammar_0 rfl rfl ?_
  refine cx_bipush (v := 91) hE d_Mo_rangeGrammar_1 (by decide) ?_
  refine cx_misd hE d_Mo_rangeGrammar_3 rfl hT hh hdd (by omega) (Nat.le_of_ble_eq_true rfl) ?_
  refine cx_if_eq (tgt := 41)  hE d_Mo_rangeGrammar_6 (by decide) (fun c_6 => ?_) (fun c_6 => ?_)
  · refine cx_vret hE d_Mo_rangeGrammar_41 rfl ?_
    exact ⟨_, rfl, hh, hdd⟩
  · exact absurd rfl c_6
    -- end
set_option maxRecDepth 100000 in
theorem c_Mo_beginGrammar_d {k : cx_K} {l : Launch} {G : cx_G} {mo : Nat} {P : Nat → Nat} {M1 : rm_M} {T : List tx_Tk} {e : Int32 × Int32} (hT : rm_tk M1 T) (hm : rm_R k G mo P M1) (hdd : rm_dd T M1 M1 e) : cx_Sp k l m_Mo_beginGrammar 6 [.ref mo] G (rm_x k G mo P T M1 e) := by
  intro E hE
  have hh : rm_h k G mo P G M1 := ⟨hm, rm_st.rf _ _ _, rfl⟩
  have hmo := hh.1.1
  refine cx_aload_n (i := 0) hE d_Mo_beginGrammar_0 rfl rfl ?_
  refine cx_bipush (v := 61) hE d_Mo_beginGrammar_1 (by decide) ?_
  refine cx_misd hE d_Mo_beginGrammar_3 rfl hT hh hdd (by omega) (Nat.le_of_ble_eq_true rfl) ?_
  refine cx_if_eq (tgt := 26)  hE d_Mo_beginGrammar_6 (by decide) (fun c_6 => ?_) (fun c_6 => ?_)
  · refine cx_vret hE d_Mo_beginGrammar_26 rfl ?_
    exact ⟨_, rfl, hh, hdd⟩
  · exact absurd rfl c_6
    -- end
set_option maxRecDepth 100000 in
theorem c_Mo_linkGrammar_d {k : cx_K} {l : Launch} {G : cx_G} {mo : Nat} {P : Nat → Nat} {M1 : rm_M} {T : List tx_Tk} {e : Int32 × Int32} (hT : rm_tk M1 T) (hm : rm_R k G mo P M1) (hdd : rm_dd T M1 M1 e) : cx_Sp k l m_Mo_linkGrammar 9 [.ref mo] G (rm_x k G mo P T M1 e) := by
  intro E hE
  have hh : rm_h k G mo P G M1 := ⟨hm, rm_st.rf _ _ _, rfl⟩
  have hmo := hh.1.1
  refine cx_aload_n (i := 0) hE d_Mo_linkGrammar_0 rfl rfl ?_
  refine cx_bipush (v := 46) hE d_Mo_linkGrammar_1 (by decide) ?_
  refine cx_mtkd hE d_Mo_linkGrammar_3 rfl hT hh hdd (by omega) (Nat.le_of_ble_eq_true rfl) (fun G1 M1 hh hdd => ?_)
  have hmo := hh.1.1
  refine cx_aload_n (i := 0) hE d_Mo_linkGrammar_6 rfl rfl ?_
  refine cx_sipush (v := 400) hE d_Mo_linkGrammar_7 (by decide) ?_
  refine cx_mtkd hE d_Mo_linkGrammar_10 rfl hT hh hdd (by omega) (Nat.le_of_ble_eq_true rfl) (fun G1 M1 hh hdd => ?_)
  have hmo := hh.1.1
  refine cx_aload_n (i := 0) hE d_Mo_linkGrammar_13 rfl rfl ?_
  refine cx_bipush (v := 40) hE d_Mo_linkGrammar_14 (by decide) ?_
  refine cx_mopd hE d_Mo_linkGrammar_16 rfl hT hh hdd (by omega) (Nat.le_of_ble_eq_true rfl) (fun G1 M1 hh hdd => ?_)
  have hmo := hh.1.1
  refine cx_aload_n (i := 0) hE d_Mo_linkGrammar_19 rfl rfl ?_
  refine cx_msd hE d_Mo_linkGrammar_20 rfl l_Mo_226 hh hdd (c_Mo_expGrammar_d (hT.sm hdd.1) hh.1 ⟨rm_sm.rf _, hdd.2⟩) (by omega) (Nat.le_of_ble_eq_true rfl) n_Mo_expGrammar (by rfl) (fun G1 M1 hh hdd => ?_)
  have hmo := hh.1.1
  refine cx_aload_n (i := 0) hE d_Mo_linkGrammar_23 rfl rfl ?_
  refine cx_bipush (v := 41) hE d_Mo_linkGrammar_24 (by decide) ?_
  refine cx_mshd hE d_Mo_linkGrammar_26 rfl hT hh hdd (by omega) (Nat.le_of_ble_eq_true rfl) (fun G1 M1 hh hdd => ?_)
  have hmo := hh.1.1
  refine cx_vret hE d_Mo_linkGrammar_29 rfl ?_
  exact ⟨_, rfl, hh, hdd⟩
set_option maxRecDepth 100000 in
theorem c_Mo_portGrammar_d {k : cx_K} {l : Launch} {G : cx_G} {mo : Nat} {P : Nat → Nat} {M1 : rm_M} {T : List tx_Tk} {e : Int32 × Int32} (hT : rm_tk M1 T) (hm : rm_R k G mo P M1) (hdd : rm_dd T M1 M1 e) : cx_Sp k l m_Mo_portGrammar 9 [.ref mo] G (rm_x k G mo P T M1 e) := by
  intro E hE
  have hh : rm_h k G mo P G M1 := ⟨hm, rm_st.rf _ _ _, rfl⟩
  have hmo := hh.1.1
  refine cx_aload_n (i := 0) hE d_Mo_portGrammar_0 rfl rfl ?_
  refine cx_sipush (v := 302) hE d_Mo_portGrammar_1 (by decide) ?_
  refine cx_misd hE d_Mo_portGrammar_4 rfl hT hh hdd (by omega) (Nat.le_of_ble_eq_true rfl) ?_
  refine cx_if_eq (tgt := 34)  hE d_Mo_portGrammar_7 (by decide) (fun c_7 => ?_) (fun c_7 => ?_)
  · refine cx_aload_n (i := 0) hE d_Mo_portGrammar_34 rfl rfl ?_
    refine cx_sipush (v := 303) hE d_Mo_portGrammar_35 (by decide) ?_
    refine cx_mtkd hE d_Mo_portGrammar_38 rfl hT hh hdd (by omega) (Nat.le_of_ble_eq_true rfl) (fun G1 M1 hh hdd => ?_)
    have hmo := hh.1.1
    refine cx_aload_n (i := 0) hE d_Mo_portGrammar_41 rfl rfl ?_
    refine cx_sipush (v := 305) hE d_Mo_portGrammar_42 (by decide) ?_
    refine cx_misd hE d_Mo_portGrammar_45 rfl hT hh hdd (by omega) (Nat.le_of_ble_eq_true rfl) ?_
    refine cx_if_eq (tgt := 79)  hE d_Mo_portGrammar_48 (by decide) (fun c_48 => ?_) (fun c_48 => ?_)
    · refine cx_aload_n (i := 0) hE d_Mo_portGrammar_79 rfl rfl ?_
      refine cx_msd hE d_Mo_portGrammar_80 rfl l_Mo_241 hh hdd (c_Mo_rangeGrammar_d (hT.sm hdd.1) hh.1 ⟨rm_sm.rf _, hdd.2⟩) (by omega) (Nat.le_of_ble_eq_true rfl) n_Mo_rangeGrammar (by rfl) (fun G1 M1 hh hdd => ?_)
      have hmo := hh.1.1
      refine cx_aload_n (i := 0) hE d_Mo_portGrammar_83 rfl rfl ?_
      refine cx_sipush (v := 400) hE d_Mo_portGrammar_84 (by decide) ?_
      refine cx_mtkd hE d_Mo_portGrammar_87 rfl hT hh hdd (by omega) (Nat.le_of_ble_eq_true rfl) (fun G1 M1 hh hdd => ?_)
      have hmo := hh.1.1
      refine cx_vret hE d_Mo_portGrammar_90 rfl ?_
      exact ⟨_, rfl, hh, hdd⟩
    · exact absurd rfl c_48
      -- end
  · exact absurd rfl c_7
    -- end
set_option maxRecDepth 100000 in
theorem c_Mo_itemGrammar_d {k : cx_K} {l : Launch} {G : cx_G} {mo : Nat} {P : Nat → Nat} {M1 : rm_M} {T : List tx_Tk} {e : Int32 × Int32} (hT : rm_tk M1 T) (hm : rm_R k G mo P M1) (hdd : rm_dd T M1 M1 e) : cx_Sp k l m_Mo_itemGrammar 11 [.ref mo] G (rm_x k G mo P T M1 e) := by
  intro E hE
  have hh : rm_h k G mo P G M1 := ⟨hm, rm_st.rf _ _ _, rfl⟩
  have hmo := hh.1.1
  refine cx_aload_n (i := 0) hE d_Mo_itemGrammar_0 rfl rfl ?_
  refine cx_sipush (v := 304) hE d_Mo_itemGrammar_1 (by decide) ?_
  refine cx_misd hE d_Mo_itemGrammar_4 rfl hT hh hdd (by omega) (Nat.le_of_ble_eq_true rfl) ?_
  refine cx_if_ne (tgt := 20)  hE d_Mo_itemGrammar_7 (by decide) (fun c_7 => ?_) (fun c_7 => ?_)
  · exact absurd rfl c_7
    -- end
  · refine cx_aload_n (i := 0) hE d_Mo_itemGrammar_10 rfl rfl ?_
    refine cx_sipush (v := 305) hE d_Mo_itemGrammar_11 (by decide) ?_
    refine cx_misd hE d_Mo_itemGrammar_14 rfl hT hh hdd (by omega) (Nat.le_of_ble_eq_true rfl) ?_
    refine cx_if_eq (tgt := 66)  hE d_Mo_itemGrammar_17 (by decide) (fun c_17 => ?_) (fun c_17 => ?_)
    · refine cx_aload_n (i := 0) hE d_Mo_itemGrammar_66 rfl rfl ?_
      refine cx_sipush (v := 306) hE d_Mo_itemGrammar_67 (by decide) ?_
      refine cx_misd hE d_Mo_itemGrammar_70 rfl hT hh hdd (by omega) (Nat.le_of_ble_eq_true rfl) ?_
      refine cx_if_eq (tgt := 112)  hE d_Mo_itemGrammar_73 (by decide) (fun c_73 => ?_) (fun c_73 => ?_)
      · refine cx_aload_n (i := 0) hE d_Mo_itemGrammar_112 rfl rfl ?_
        refine cx_sipush (v := 307) hE d_Mo_itemGrammar_113 (by decide) ?_
        refine cx_misd hE d_Mo_itemGrammar_116 rfl hT hh hdd (by omega) (Nat.le_of_ble_eq_true rfl) ?_
        refine cx_if_eq (tgt := 171)  hE d_Mo_itemGrammar_119 (by decide) (fun c_119 => ?_) (fun c_119 => ?_)
        · refine cx_aload_n (i := 0) hE d_Mo_itemGrammar_171 rfl rfl ?_
          refine cx_sipush (v := 317) hE d_Mo_itemGrammar_172 (by decide) ?_
          refine cx_misd hE d_Mo_itemGrammar_175 rfl hT hh hdd (by omega) (Nat.le_of_ble_eq_true rfl) ?_
          refine cx_if_eq (tgt := 216)  hE d_Mo_itemGrammar_178 (by decide) (fun c_178 => ?_) (fun c_178 => ?_)
          · refine cx_aload_n (i := 0) hE d_Mo_itemGrammar_216 rfl rfl ?_
            refine cx_sipush (v := 400) hE d_Mo_itemGrammar_217 (by decide) ?_
            refine cx_mtkd hE d_Mo_itemGrammar_220 rfl hT hh hdd (by omega) (Nat.le_of_ble_eq_true rfl) (fun G1 M1 hh hdd => ?_)
            have hmo := hh.1.1
            refine cx_aload_n (i := 0) hE d_Mo_itemGrammar_223 rfl rfl ?_
            refine cx_sipush (v := 400) hE d_Mo_itemGrammar_224 (by decide) ?_
            refine cx_mtkd hE d_Mo_itemGrammar_227 rfl hT hh hdd (by omega) (Nat.le_of_ble_eq_true rfl) (fun G1 M1 hh hdd => ?_)
            have hmo := hh.1.1
            refine cx_aload_n (i := 0) hE d_Mo_itemGrammar_230 rfl rfl ?_
            refine cx_bipush (v := 40) hE d_Mo_itemGrammar_231 (by decide) ?_
            refine cx_mopd hE d_Mo_itemGrammar_233 rfl hT hh hdd (by omega) (Nat.le_of_ble_eq_true rfl) (fun G1 M1 hh hdd => ?_)
            have hmo := hh.1.1
            refine cx_aload_n (i := 0) hE d_Mo_itemGrammar_236 rfl rfl ?_
            refine cx_bipush (v := 46) hE d_Mo_itemGrammar_237 (by decide) ?_
            refine cx_misd hE d_Mo_itemGrammar_239 rfl hT hh hdd (by omega) (Nat.le_of_ble_eq_true rfl) ?_
            refine cx_if_eq (tgt := 275)  hE d_Mo_itemGrammar_242 (by decide) (fun c_242 => ?_) (fun c_242 => ?_)
            · refine cx_aload_n (i := 0) hE d_Mo_itemGrammar_275 rfl rfl ?_
              refine cx_bipush (v := 41) hE d_Mo_itemGrammar_276 (by decide) ?_
              refine cx_mshd hE d_Mo_itemGrammar_278 rfl hT hh hdd (by omega) (Nat.le_of_ble_eq_true rfl) (fun G1 M1 hh hdd => ?_)
              have hmo := hh.1.1
              refine cx_aload_n (i := 0) hE d_Mo_itemGrammar_281 rfl rfl ?_
              refine cx_bipush (v := 59) hE d_Mo_itemGrammar_282 (by decide) ?_
              refine cx_mtkd hE d_Mo_itemGrammar_284 rfl hT hh hdd (by omega) (Nat.le_of_ble_eq_true rfl) (fun G1 M1 hh hdd => ?_)
              have hmo := hh.1.1
              refine cx_vret hE d_Mo_itemGrammar_287 rfl ?_
              exact ⟨_, rfl, hh, hdd⟩
            · exact absurd rfl c_242
              -- end
          · exact absurd rfl c_178
            -- end
        · exact absurd rfl c_119
          -- end
      · exact absurd rfl c_73
        -- end
    · exact absurd rfl c_17
      -- end
set_option maxRecDepth 100000 in
theorem c_Mo_rangeGrammar {k : cx_K} {l : Launch} {G : cx_G} {mo : Nat} {P : Nat → Nat} {M : rm_M} {T : List tx_Tk} {i f : Nat} {s : tx_S} (hT : rm_tk M T) (hm : rm_R k G mo P M) (hl : rm_lv T M M i f) {R0 : tx_R Int32} (hR : R0 = tx_rng T f i s) : cx_Sp k l m_Mo_rangeGrammar 6 [.ref mo] G (rm_o k G mo P T M f R0) := by
  intro E hE
  have hh : rm_h k G mo P G M := ⟨hm, rm_st.rf _ _ _, rfl⟩
  have hmo := hh.1.1
  have hle := hl.2.2.2.2.2
  have hTl := hT.1
  unfold tx_rng at hR
  have hd_41 : ∀ (G1 : cx_G) (M1 : rm_M) (e : Int32 × Int32), rm_h k G mo P G1 M1 → rm_dd T M M1 e → R0 = .inl e → cx_V E 41 [(0, false, .ref mo)] [] G1 := by
    intro G1 M1 e hh hdd hR
    have hmo := hh.1.1
    refine cx_vret hE d_Mo_rangeGrammar_41 rfl ?_
    exact ⟨_, rfl, hh, Or.inr ⟨_, hR, hdd⟩⟩
  have hd_35 : ∀ (G1 : cx_G) (M1 : rm_M) (e : Int32 × Int32), rm_h k G mo P G1 M1 → rm_dd T M M1 e → R0 = .inl e → cx_V E 35 [(0, false, .ref mo)] [] G1 := by
    intro G1 M1 e hh hdd hR
    have hmo := hh.1.1
    refine cx_aload_n (i := 0) hE d_Mo_rangeGrammar_35 rfl rfl ?_
    refine cx_bipush (v := 93) hE d_Mo_rangeGrammar_36 (by decide) ?_
    refine cx_mshd hE d_Mo_rangeGrammar_38 rfl hT hh hdd (by omega) (Nat.le_of_ble_eq_true rfl) (fun G1 M1 hh hdd => ?_)
    have hmo := hh.1.1
    refine cx_sub [0] rfl ?_
    exact hd_41 _ _ _ hh hdd hR
  have hd_28 : ∀ (G1 : cx_G) (M1 : rm_M) (e : Int32 × Int32), rm_h k G mo P G1 M1 → rm_dd T M M1 e → R0 = .inl e → cx_V E 28 [(0, false, .ref mo)] [] G1 := by
    intro G1 M1 e hh hdd hR
    have hmo := hh.1.1
    refine cx_aload_n (i := 0) hE d_Mo_rangeGrammar_28 rfl rfl ?_
    refine cx_sipush (v := 401) hE d_Mo_rangeGrammar_29 (by decide) ?_
    refine cx_mtkd hE d_Mo_rangeGrammar_32 rfl hT hh hdd (by omega) (Nat.le_of_ble_eq_true rfl) (fun G1 M1 hh hdd => ?_)
    have hmo := hh.1.1
    refine cx_sub [0] rfl ?_
    exact hd_35 _ _ _ hh hdd hR
  have hd_22 : ∀ (G1 : cx_G) (M1 : rm_M) (e : Int32 × Int32), rm_h k G mo P G1 M1 → rm_dd T M M1 e → R0 = .inl e → cx_V E 22 [(0, false, .ref mo)] [] G1 := by
    intro G1 M1 e hh hdd hR
    have hmo := hh.1.1
    refine cx_aload_n (i := 0) hE d_Mo_rangeGrammar_22 rfl rfl ?_
    refine cx_bipush (v := 58) hE d_Mo_rangeGrammar_23 (by decide) ?_
    refine cx_mtkd hE d_Mo_rangeGrammar_25 rfl hT hh hdd (by omega) (Nat.le_of_ble_eq_true rfl) (fun G1 M1 hh hdd => ?_)
    have hmo := hh.1.1
    refine cx_sub [0] rfl ?_
    exact hd_28 _ _ _ hh hdd hR
  have hd_15 : ∀ (G1 : cx_G) (M1 : rm_M) (e : Int32 × Int32), rm_h k G mo P G1 M1 → rm_dd T M M1 e → R0 = .inl e → cx_V E 15 [(0, false, .ref mo)] [] G1 := by
    intro G1 M1 e hh hdd hR
    have hmo := hh.1.1
    refine cx_aload_n (i := 0) hE d_Mo_rangeGrammar_15 rfl rfl ?_
    refine cx_sipush (v := 401) hE d_Mo_rangeGrammar_16 (by decide) ?_
    refine cx_mtkd hE d_Mo_rangeGrammar_19 rfl hT hh hdd (by omega) (Nat.le_of_ble_eq_true rfl) (fun G1 M1 hh hdd => ?_)
    have hmo := hh.1.1
    refine cx_sub [0] rfl ?_
    exact hd_22 _ _ _ hh hdd hR
  refine cx_aload_n (i := 0) hE d_Mo_rangeGrammar_0 rfl rfl ?_
  refine cx_bipush (v := 91) hE d_Mo_rangeGrammar_1 (by decide) ?_
  refine cx_mis (a := 91) hE d_Mo_rangeGrammar_3 rfl hT hh hl (by decide) (by omega) (Nat.le_of_ble_eq_true rfl) ?_
  refine cx_if_eq (tgt := 41)  hE d_Mo_rangeGrammar_6 (by decide) (fun c_6 => ?_) (fun c_6 => ?_)
  · have q_6 := of_decide_eq_false (cx_b0.mp c_6)
    rw [if_neg q_6] at hR
    try simp only [tx_R.and_as, tx_op_and, tx_R.and_r] at hR
    refine cx_vret hE d_Mo_rangeGrammar_41 rfl ?_
    exact ⟨_, rfl, hh, Or.inl ⟨_, _, _, hR, hl⟩⟩
  · have q_6 := of_decide_eq_true (cx_bn.mp c_6)
    rw [if_pos q_6] at hR
    try simp only [tx_R.and_as, tx_op_and, tx_R.and_r] at hR
    refine cx_aload_n (i := 0) hE d_Mo_rangeGrammar_9 rfl rfl ?_
    refine cx_bipush (v := 91) hE d_Mo_rangeGrammar_10 (by decide) ?_
    refine cx_mop (a := 91) hE d_Mo_rangeGrammar_12 rfl hT hh hl (by decide) (by decide) hR (by omega) (Nat.le_of_ble_eq_true rfl) (fun f_12 G1 M1 hf12 => ?_) (fun G1 M1 e hh hdd hR => hd_15 _ _ _ hh hdd hR)
    subst hf12
    intro hh hl hk12 hR
    have hmo := hh.1.1
    refine cx_aload_n (i := 0) hE d_Mo_rangeGrammar_15 rfl rfl ?_
    refine cx_sipush (v := 401) hE d_Mo_rangeGrammar_16 (by decide) ?_
    refine cx_mtk (a := 20) hE d_Mo_rangeGrammar_19 rfl hT hh hl (by decide) (by decide) hR (by omega) (Nat.le_of_ble_eq_true rfl) (fun G1 M1 hh hl hk19 hR => ?_) (fun G1 M1 e hh hdd hR => hd_22 _ _ _ hh hdd hR)
    have hmo := hh.1.1
    refine cx_aload_n (i := 0) hE d_Mo_rangeGrammar_22 rfl rfl ?_
    refine cx_bipush (v := 58) hE d_Mo_rangeGrammar_23 (by decide) ?_
    refine cx_mtk (a := 58) hE d_Mo_rangeGrammar_25 rfl hT hh hl (by decide) (by decide) hR (by omega) (Nat.le_of_ble_eq_true rfl) (fun G1 M1 hh hl hk25 hR => ?_) (fun G1 M1 e hh hdd hR => hd_28 _ _ _ hh hdd hR)
    have hmo := hh.1.1
    refine cx_aload_n (i := 0) hE d_Mo_rangeGrammar_28 rfl rfl ?_
    refine cx_sipush (v := 401) hE d_Mo_rangeGrammar_29 (by decide) ?_
    refine cx_mtk (a := 20) hE d_Mo_rangeGrammar_32 rfl hT hh hl (by decide) (by decide) hR (by omega) (Nat.le_of_ble_eq_true rfl) (fun G1 M1 hh hl hk32 hR => ?_) (fun G1 M1 e hh hdd hR => hd_35 _ _ _ hh hdd hR)
    have hmo := hh.1.1
    refine cx_aload_n (i := 0) hE d_Mo_rangeGrammar_35 rfl rfl ?_
    refine cx_bipush (v := 93) hE d_Mo_rangeGrammar_36 (by decide) ?_
    refine cx_msh (a := 93) hE d_Mo_rangeGrammar_38 rfl hT hh hl (by decide) (by decide) (by omega) hR (by omega) (Nat.le_of_ble_eq_true rfl) (fun G1 M1 hh hl hk38 hR => ?_) (fun G1 M1 e hh hdd hR => hd_41 _ _ _ hh hdd hR)
    have hmo := hh.1.1
    refine cx_vret hE d_Mo_rangeGrammar_41 rfl ?_
    exact ⟨_, rfl, hh, Or.inl ⟨_, _, _, hR, hl⟩⟩
set_option maxRecDepth 100000 in
theorem c_Mo_beginGrammar {k : cx_K} {l : Launch} {G : cx_G} {mo : Nat} {P : Nat → Nat} {M : rm_M} {T : List tx_Tk} {i f : Nat} {s : tx_S} (hT : rm_tk M T) (hm : rm_R k G mo P M) (hl : rm_lv T M M i f) {R0 : tx_R (Option tx_Tk)} (hR : R0 = tx_bg T i s) : cx_Sp k l m_Mo_beginGrammar 6 [.ref mo] G (rm_o k G mo P T M f R0) := by
  intro E hE
  have hh : rm_h k G mo P G M := ⟨hm, rm_st.rf _ _ _, rfl⟩
  have hmo := hh.1.1
  have hle := hl.2.2.2.2.2
  have hTl := hT.1
  unfold tx_bg at hR
  have hd_26 : ∀ (G1 : cx_G) (M1 : rm_M) (e : Int32 × Int32), rm_h k G mo P G1 M1 → rm_dd T M M1 e → R0 = .inl e → cx_V E 26 [(0, false, .ref mo)] [] G1 := by
    intro G1 M1 e hh hdd hR
    have hmo := hh.1.1
    refine cx_vret hE d_Mo_beginGrammar_26 rfl ?_
    exact ⟨_, rfl, hh, Or.inr ⟨_, hR, hdd⟩⟩
  refine cx_aload_n (i := 0) hE d_Mo_beginGrammar_0 rfl rfl ?_
  refine cx_bipush (v := 61) hE d_Mo_beginGrammar_1 (by decide) ?_
  refine cx_mis (a := 61) hE d_Mo_beginGrammar_3 rfl hT hh hl (by decide) (by omega) (Nat.le_of_ble_eq_true rfl) ?_
  refine cx_if_eq (tgt := 26)  hE d_Mo_beginGrammar_6 (by decide) (fun c_6 => ?_) (fun c_6 => ?_)
  · have q_6 := of_decide_eq_false (cx_b0.mp c_6)
    rw [if_neg q_6] at hR
    try simp only [tx_R.and_as, tx_op_and, tx_R.and_r] at hR
    refine cx_vret hE d_Mo_beginGrammar_26 rfl ?_
    exact ⟨_, rfl, hh, Or.inl ⟨_, _, _, hR, hl⟩⟩
  · have q_6 := of_decide_eq_true (cx_bn.mp c_6)
    rw [if_pos q_6] at hR
    try simp only [tx_R.and_as, tx_op_and, tx_R.and_r] at hR
    have hkk := q_6
    rw [tx_tk_ok q_6, tx_R.and_r] at hR
    refine cx_aload_n (i := 0) hE d_Mo_beginGrammar_9 rfl rfl ?_
    refine cx_dup hE d_Mo_beginGrammar_10 ?_
    refine cx_get hE d_Mo_beginGrammar_11 f_Mo_193 (by assumption) (by rfl) ?_
    rw [hl.2.1]
    refine cx_iconst (v := 1) hE d_Mo_beginGrammar_14 (by decide) ?_
    refine cx_iadd hE d_Mo_beginGrammar_15 ?_
    show cx_V E _ _ [.int (nI (i) + 1), .ref mo] _
    rw [nI_1]
    refine cx_putg hE d_Mo_beginGrammar_16 f_Mo_193 (by assumption) (Nat.le_of_ble_eq_true rfl) (by first | rfl | exact cx_nr _ _) (by first | rfl | exact cx_fr _ _) (fun G_16 g_16 h_16 => ?_)
    rw [rm_s8] at g_16 h_16
    have hp_16 := hh.1.pi g_16
    have hh := hh.tr ⟨hp_16.1, hp_16.2, cx_pc g_16⟩
    have hl := hl.t1 hT (by rw [hkk]; decide) (by rw [hkk]; decide)
    have hmo := hh.1.1
    refine cx_aload_n (i := 0) hE d_Mo_beginGrammar_19 rfl rfl ?_
    refine cx_sipush (v := 402) hE d_Mo_beginGrammar_20 (by decide) ?_
    refine cx_mtk (a := 21) hE d_Mo_beginGrammar_23 rfl hT hh hl (by decide) (by decide) hR (by omega) (Nat.le_of_ble_eq_true rfl) (fun G1 M1 hh hl hk23 hR => ?_) (fun G1 M1 e hh hdd hR => hd_26 _ _ _ hh hdd hR)
    have hmo := hh.1.1
    refine cx_vret hE d_Mo_beginGrammar_26 rfl ?_
    exact ⟨_, rfl, hh, Or.inl ⟨_, _, _, hR, hl⟩⟩
set_option maxRecDepth 100000 in
theorem c_Mo_linkGrammar {k : cx_K} {l : Launch} {G : cx_G} {mo : Nat} {P : Nat → Nat} {M : rm_M} {T : List tx_Tk} {i f : Nat} {s : tx_S} (hT : rm_tk M T) (hm : rm_R k G mo P M) (hl : rm_lv T M M i f) {q : Nat} {R0 : tx_R Unit} (hR : R0 = tx_lnk T q f i s) : cx_Sp k l m_Mo_linkGrammar 300 [.ref mo] G (rm_o k G mo P T M f R0) := by
  intro E hE
  have hh : rm_h k G mo P G M := ⟨hm, rm_st.rf _ _ _, rfl⟩
  have hmo := hh.1.1
  have hle := hl.2.2.2.2.2
  have hTl := hT.1
  unfold tx_lnk at hR
  have hd_29 : ∀ (G1 : cx_G) (M1 : rm_M) (e : Int32 × Int32), rm_h k G mo P G1 M1 → rm_dd T M M1 e → R0 = .inl e → cx_V E 29 [(0, false, .ref mo)] [] G1 := by
    intro G1 M1 e hh hdd hR
    have hmo := hh.1.1
    refine cx_vret hE d_Mo_linkGrammar_29 rfl ?_
    exact ⟨_, rfl, hh, Or.inr ⟨_, hR, hdd⟩⟩
  have hd_23 : ∀ (G1 : cx_G) (M1 : rm_M) (e : Int32 × Int32), rm_h k G mo P G1 M1 → rm_dd T M M1 e → R0 = .inl e → cx_V E 23 [(0, false, .ref mo)] [] G1 := by
    intro G1 M1 e hh hdd hR
    have hmo := hh.1.1
    refine cx_aload_n (i := 0) hE d_Mo_linkGrammar_23 rfl rfl ?_
    refine cx_bipush (v := 41) hE d_Mo_linkGrammar_24 (by decide) ?_
    refine cx_mshd hE d_Mo_linkGrammar_26 rfl hT hh hdd (by omega) (Nat.le_of_ble_eq_true rfl) (fun G1 M1 hh hdd => ?_)
    have hmo := hh.1.1
    refine cx_sub [0] rfl ?_
    exact hd_29 _ _ _ hh hdd hR
  have hd_19 : ∀ (G1 : cx_G) (M1 : rm_M) (e : Int32 × Int32), rm_h k G mo P G1 M1 → rm_dd T M M1 e → R0 = .inl e → cx_V E 19 [(0, false, .ref mo)] [] G1 := by
    intro G1 M1 e hh hdd hR
    have hmo := hh.1.1
    refine cx_aload_n (i := 0) hE d_Mo_linkGrammar_19 rfl rfl ?_
    refine cx_msd hE d_Mo_linkGrammar_20 rfl l_Mo_226 hh hdd (c_Mo_expGrammar_d (hT.sm hdd.1) hh.1 ⟨rm_sm.rf _, hdd.2⟩) (by omega) (Nat.le_of_ble_eq_true rfl) n_Mo_expGrammar (by rfl) (fun G1 M1 hh hdd => ?_)
    have hmo := hh.1.1
    refine cx_sub [0] rfl ?_
    exact hd_23 _ _ _ hh hdd hR
  have hd_13 : ∀ (G1 : cx_G) (M1 : rm_M) (e : Int32 × Int32), rm_h k G mo P G1 M1 → rm_dd T M M1 e → R0 = .inl e → cx_V E 13 [(0, false, .ref mo)] [] G1 := by
    intro G1 M1 e hh hdd hR
    have hmo := hh.1.1
    refine cx_aload_n (i := 0) hE d_Mo_linkGrammar_13 rfl rfl ?_
    refine cx_bipush (v := 40) hE d_Mo_linkGrammar_14 (by decide) ?_
    refine cx_mopd hE d_Mo_linkGrammar_16 rfl hT hh hdd (by omega) (Nat.le_of_ble_eq_true rfl) (fun G1 M1 hh hdd => ?_)
    have hmo := hh.1.1
    refine cx_sub [0] rfl ?_
    exact hd_19 _ _ _ hh hdd hR
  have hd_6 : ∀ (G1 : cx_G) (M1 : rm_M) (e : Int32 × Int32), rm_h k G mo P G1 M1 → rm_dd T M M1 e → R0 = .inl e → cx_V E 6 [(0, false, .ref mo)] [] G1 := by
    intro G1 M1 e hh hdd hR
    have hmo := hh.1.1
    refine cx_aload_n (i := 0) hE d_Mo_linkGrammar_6 rfl rfl ?_
    refine cx_sipush (v := 400) hE d_Mo_linkGrammar_7 (by decide) ?_
    refine cx_mtkd hE d_Mo_linkGrammar_10 rfl hT hh hdd (by omega) (Nat.le_of_ble_eq_true rfl) (fun G1 M1 hh hdd => ?_)
    have hmo := hh.1.1
    refine cx_sub [0] rfl ?_
    exact hd_13 _ _ _ hh hdd hR
  refine cx_aload_n (i := 0) hE d_Mo_linkGrammar_0 rfl rfl ?_
  refine cx_bipush (v := 46) hE d_Mo_linkGrammar_1 (by decide) ?_
  refine cx_mtk (a := 46) hE d_Mo_linkGrammar_3 rfl hT hh hl (by decide) (by decide) hR (by omega) (Nat.le_of_ble_eq_true rfl) (fun G1 M1 hh hl hk3 hR => ?_) (fun G1 M1 e hh hdd hR => hd_6 _ _ _ hh hdd hR)
  have hmo := hh.1.1
  refine cx_aload_n (i := 0) hE d_Mo_linkGrammar_6 rfl rfl ?_
  refine cx_sipush (v := 400) hE d_Mo_linkGrammar_7 (by decide) ?_
  refine cx_mtk (a := 19) hE d_Mo_linkGrammar_10 rfl hT hh hl (by decide) (by decide) hR (by omega) (Nat.le_of_ble_eq_true rfl) (fun G1 M1 hh hl hk10 hR => ?_) (fun G1 M1 e hh hdd hR => hd_13 _ _ _ hh hdd hR)
  have hmo := hh.1.1
  refine cx_aload_n (i := 0) hE d_Mo_linkGrammar_13 rfl rfl ?_
  refine cx_bipush (v := 40) hE d_Mo_linkGrammar_14 (by decide) ?_
  refine cx_mop (a := 40) hE d_Mo_linkGrammar_16 rfl hT hh hl (by decide) (by decide) hR (by omega) (Nat.le_of_ble_eq_true rfl) (fun f_16 G1 M1 hf16 => ?_) (fun G1 M1 e hh hdd hR => hd_19 _ _ _ hh hdd hR)
  subst hf16
  intro hh hl hk16 hR
  have hmo := hh.1.1
  refine cx_aload_n (i := 0) hE d_Mo_linkGrammar_19 rfl rfl ?_
  refine cx_msb hE d_Mo_linkGrammar_20 rfl l_Mo_226 hh hl hR (c_Mo_ex (hT.sm hl.1) hh.1 ⟨rm_sm.rf _, hl.2⟩) (by omega) (Nat.le_of_ble_eq_true rfl) n_Mo_expGrammar (by rfl) (fun w_20 i_20 s_20 G1 M1 hr_20 hh hl hR => ?_) (fun G1 M1 e hh hdd hR => hd_23 _ _ _ hh hdd hR)
  have hmo := hh.1.1
  have hup_20 := tx_up.exp _ _ _ _ _ _ hr_20
  refine cx_aload_n (i := 0) hE d_Mo_linkGrammar_23 rfl rfl ?_
  refine cx_bipush (v := 41) hE d_Mo_linkGrammar_24 (by decide) ?_
  refine cx_msh (a := 41) hE d_Mo_linkGrammar_26 rfl hT hh hl (by decide) (by decide) (by omega) hR (by omega) (Nat.le_of_ble_eq_true rfl) (fun G1 M1 hh hl hk26 hR => ?_) (fun G1 M1 e hh hdd hR => hd_29 _ _ _ hh hdd hR)
  have hmo := hh.1.1
  refine cx_vret hE d_Mo_linkGrammar_29 rfl ?_
  exact ⟨_, rfl, hh, Or.inl ⟨_, _, _, hR, hl⟩⟩
set_option maxRecDepth 100000 in
theorem c_Mo_portGrammar {k : cx_K} {l : Launch} {G : cx_G} {mo : Nat} {P : Nat → Nat} {M : rm_M} {T : List tx_Tk} {i f : Nat} {s : tx_S} (hT : rm_tk M T) (hm : rm_R k G mo P M) (hl : rm_lv T M M i f) {R0 : tx_R Unit} (hR : R0 = tx_por T f i s) : cx_Sp k l m_Mo_portGrammar 12 [.ref mo] G (rm_o k G mo P T M f R0) := by
  intro E hE
  have hh : rm_h k G mo P G M := ⟨hm, rm_st.rf _ _ _, rfl⟩
  have hmo := hh.1.1
  have hle := hl.2.2.2.2.2
  have hTl := hT.1
  unfold tx_por at hR
  have hd_90 : ∀ (G1 : cx_G) (M1 : rm_M) (e : Int32 × Int32), rm_h k G mo P G1 M1 → rm_dd T M M1 e → R0 = .inl e → cx_V E 90 [(0, false, .ref mo)] [] G1 := by
    intro G1 M1 e hh hdd hR
    have hmo := hh.1.1
    refine cx_vret hE d_Mo_portGrammar_90 rfl ?_
    exact ⟨_, rfl, hh, Or.inr ⟨_, hR, hdd⟩⟩
  have hd_83 : ∀ (G1 : cx_G) (M1 : rm_M) (e : Int32 × Int32), rm_h k G mo P G1 M1 → rm_dd T M M1 e → R0 = .inl e → cx_V E 83 [(0, false, .ref mo)] [] G1 := by
    intro G1 M1 e hh hdd hR
    have hmo := hh.1.1
    refine cx_aload_n (i := 0) hE d_Mo_portGrammar_83 rfl rfl ?_
    refine cx_sipush (v := 400) hE d_Mo_portGrammar_84 (by decide) ?_
    refine cx_mtkd hE d_Mo_portGrammar_87 rfl hT hh hdd (by omega) (Nat.le_of_ble_eq_true rfl) (fun G1 M1 hh hdd => ?_)
    have hmo := hh.1.1
    refine cx_sub [0] rfl ?_
    exact hd_90 _ _ _ hh hdd hR
  have hd_76 : ∀ (G1 : cx_G) (M1 : rm_M) (e : Int32 × Int32), rm_h k G mo P G1 M1 → rm_dd T M M1 e → R0 = .inl e → cx_V E 76 [(0, false, .ref mo)] [] G1 := by
    intro G1 M1 e hh hdd hR
    have hmo := hh.1.1
    refine cx_goto (tgt := 90) hE d_Mo_portGrammar_76 (by decide) ?_
    refine cx_sub [0] rfl ?_
    exact hd_90 _ _ _ hh hdd hR
  have hd_72 : ∀ (G1 : cx_G) (M1 : rm_M) (e : Int32 × Int32), rm_h k G mo P G1 M1 → rm_dd T M M1 e → R0 = .inl e → cx_V E 72 [(0, false, .ref mo)] [] G1 := by
    intro G1 M1 e hh hdd hR
    have hmo := hh.1.1
    refine cx_aload_n (i := 0) hE d_Mo_portGrammar_72 rfl rfl ?_
    refine cx_msd hE d_Mo_portGrammar_73 rfl l_Mo_244 hh hdd (c_Mo_beginGrammar_d (hT.sm hdd.1) hh.1 ⟨rm_sm.rf _, hdd.2⟩) (by omega) (Nat.le_of_ble_eq_true rfl) n_Mo_beginGrammar (by rfl) (fun G1 M1 hh hdd => ?_)
    have hmo := hh.1.1
    refine cx_sub [0] rfl ?_
    exact hd_76 _ _ _ hh hdd hR
  have hd_65 : ∀ (G1 : cx_G) (M1 : rm_M) (e : Int32 × Int32), rm_h k G mo P G1 M1 → rm_dd T M M1 e → R0 = .inl e → cx_V E 65 [(0, false, .ref mo)] [] G1 := by
    intro G1 M1 e hh hdd hR
    have hmo := hh.1.1
    refine cx_aload_n (i := 0) hE d_Mo_portGrammar_65 rfl rfl ?_
    refine cx_sipush (v := 400) hE d_Mo_portGrammar_66 (by decide) ?_
    refine cx_mtkd hE d_Mo_portGrammar_69 rfl hT hh hdd (by omega) (Nat.le_of_ble_eq_true rfl) (fun G1 M1 hh hdd => ?_)
    have hmo := hh.1.1
    refine cx_sub [0] rfl ?_
    exact hd_72 _ _ _ hh hdd hR
  have hd_41 : ∀ (G1 : cx_G) (M1 : rm_M) (e : Int32 × Int32), rm_h k G mo P G1 M1 → rm_dd T M M1 e → R0 = .inl e → cx_V E 41 [(0, false, .ref mo)] [] G1 := by
    intro G1 M1 e hh hdd hR
    have hmo := hh.1.1
    refine cx_aload_n (i := 0) hE d_Mo_portGrammar_41 rfl rfl ?_
    refine cx_sipush (v := 305) hE d_Mo_portGrammar_42 (by decide) ?_
    refine cx_misd hE d_Mo_portGrammar_45 rfl hT hh hdd (by omega) (Nat.le_of_ble_eq_true rfl) ?_
    refine cx_if_eq (tgt := 79)  hE d_Mo_portGrammar_48 (by decide) (fun c_48 => ?_) (fun c_48 => ?_)
    · refine cx_aload_n (i := 0) hE d_Mo_portGrammar_79 rfl rfl ?_
      refine cx_msd hE d_Mo_portGrammar_80 rfl l_Mo_241 hh hdd (c_Mo_rangeGrammar_d (hT.sm hdd.1) hh.1 ⟨rm_sm.rf _, hdd.2⟩) (by omega) (Nat.le_of_ble_eq_true rfl) n_Mo_rangeGrammar (by rfl) (fun G1 M1 hh hdd => ?_)
      have hmo := hh.1.1
      refine cx_sub [0] rfl ?_
      exact hd_83 _ _ _ hh hdd hR
    · exact absurd rfl c_48
      -- end
  have hd_31 : ∀ (G1 : cx_G) (M1 : rm_M) (e : Int32 × Int32), rm_h k G mo P G1 M1 → rm_dd T M M1 e → R0 = .inl e → cx_V E 31 [(0, false, .ref mo)] [] G1 := by
    intro G1 M1 e hh hdd hR
    have hmo := hh.1.1
    refine cx_goto (tgt := 90) hE d_Mo_portGrammar_31 (by decide) ?_
    refine cx_sub [0] rfl ?_
    exact hd_90 _ _ _ hh hdd hR
  have hd_24 : ∀ (G1 : cx_G) (M1 : rm_M) (e : Int32 × Int32), rm_h k G mo P G1 M1 → rm_dd T M M1 e → R0 = .inl e → cx_V E 24 [(0, false, .ref mo)] [] G1 := by
    intro G1 M1 e hh hdd hR
    have hmo := hh.1.1
    refine cx_aload_n (i := 0) hE d_Mo_portGrammar_24 rfl rfl ?_
    refine cx_sipush (v := 400) hE d_Mo_portGrammar_25 (by decide) ?_
    refine cx_mtkd hE d_Mo_portGrammar_28 rfl hT hh hdd (by omega) (Nat.le_of_ble_eq_true rfl) (fun G1 M1 hh hdd => ?_)
    have hmo := hh.1.1
    refine cx_sub [0] rfl ?_
    exact hd_31 _ _ _ hh hdd hR
  refine cx_aload_n (i := 0) hE d_Mo_portGrammar_0 rfl rfl ?_
  refine cx_sipush (v := 302) hE d_Mo_portGrammar_1 (by decide) ?_
  refine cx_mis (a := 3) hE d_Mo_portGrammar_4 rfl hT hh hl (by decide) (by omega) (Nat.le_of_ble_eq_true rfl) ?_
  refine cx_if_eq (tgt := 34)  hE d_Mo_portGrammar_7 (by decide) (fun c_7 => ?_) (fun c_7 => ?_)
  · have q_7 := of_decide_eq_false (cx_b0.mp c_7)
    rw [if_neg q_7] at hR
    try simp only [tx_R.and_as, tx_op_and, tx_R.and_r] at hR
    refine cx_aload_n (i := 0) hE d_Mo_portGrammar_34 rfl rfl ?_
    refine cx_sipush (v := 303) hE d_Mo_portGrammar_35 (by decide) ?_
    refine cx_mtk (a := 4) hE d_Mo_portGrammar_38 rfl hT hh hl (by decide) (by decide) hR (by omega) (Nat.le_of_ble_eq_true rfl) (fun G1 M1 hh hl hk38 hR => ?_) (fun G1 M1 e hh hdd hR => hd_41 _ _ _ hh hdd hR)
    have hmo := hh.1.1
    refine cx_aload_n (i := 0) hE d_Mo_portGrammar_41 rfl rfl ?_
    refine cx_sipush (v := 305) hE d_Mo_portGrammar_42 (by decide) ?_
    refine cx_mis (a := 6) hE d_Mo_portGrammar_45 rfl hT hh hl (by decide) (by omega) (Nat.le_of_ble_eq_true rfl) ?_
    refine cx_if_eq (tgt := 79)  hE d_Mo_portGrammar_48 (by decide) (fun c_48 => ?_) (fun c_48 => ?_)
    · have q_48 := of_decide_eq_false (cx_b0.mp c_48)
      rw [if_neg q_48] at hR
      unfold tx_pnm at hR
      try simp only [tx_R.and_as, tx_op_and, tx_R.and_r] at hR
      refine cx_aload_n (i := 0) hE d_Mo_portGrammar_79 rfl rfl ?_
      refine cx_msb hE d_Mo_portGrammar_80 rfl l_Mo_241 hh hl hR (c_Mo_rangeGrammar (hT.sm hl.1) hh.1 ⟨rm_sm.rf _, hl.2⟩ rfl) (by omega) (Nat.le_of_ble_eq_true rfl) n_Mo_rangeGrammar (by rfl) (fun w_80 i_80 s_80 G1 M1 hr_80 hh hl hR => ?_) (fun G1 M1 e hh hdd hR => hd_83 _ _ _ hh hdd hR)
      have hmo := hh.1.1
      have hup_80 := tx_up.rng _ _ _ hr_80
      refine cx_aload_n (i := 0) hE d_Mo_portGrammar_83 rfl rfl ?_
      refine cx_sipush (v := 400) hE d_Mo_portGrammar_84 (by decide) ?_
      refine cx_mtk (a := 19) hE d_Mo_portGrammar_87 rfl hT hh hl (by decide) (by decide) hR (by omega) (Nat.le_of_ble_eq_true rfl) (fun G1 M1 hh hl hk87 hR => ?_) (fun G1 M1 e hh hdd hR => hd_90 _ _ _ hh hdd hR)
      have hmo := hh.1.1
      refine cx_vret hE d_Mo_portGrammar_90 rfl ?_
      exact ⟨_, rfl, hh, Or.inl ⟨_, _, _, hR, hl⟩⟩
    · have q_48 := of_decide_eq_true (cx_bn.mp c_48)
      rw [if_pos q_48] at hR
      unfold tx_rgs at hR
      try simp only [tx_R.and_as, tx_op_and, tx_R.and_r] at hR
      have hkk := q_48
      rw [tx_tk_ok q_48, tx_R.and_r] at hR
      refine cx_aload_n (i := 0) hE d_Mo_portGrammar_51 rfl rfl ?_
      refine cx_dup hE d_Mo_portGrammar_52 ?_
      refine cx_get hE d_Mo_portGrammar_53 f_Mo_193 (by assumption) (by rfl) ?_
      rw [hl.2.1]
      refine cx_iconst (v := 1) hE d_Mo_portGrammar_56 (by decide) ?_
      refine cx_iadd hE d_Mo_portGrammar_57 ?_
      show cx_V E _ _ [.int (nI (i + 1) + 1), .ref mo] _
      rw [nI_1]
      refine cx_putg hE d_Mo_portGrammar_58 f_Mo_193 (by assumption) (Nat.le_of_ble_eq_true rfl) (by first | rfl | exact cx_nr _ _) (by first | rfl | exact cx_fr _ _) (fun G_58 g_58 h_58 => ?_)
      rw [rm_s8] at g_58 h_58
      have hp_58 := hh.1.pi g_58
      have hh := hh.tr ⟨hp_58.1, hp_58.2, cx_pc g_58⟩
      have hl := hl.t1 hT (by rw [hkk]; decide) (by rw [hkk]; decide)
      have hmo := hh.1.1
      refine cx_aload_n (i := 0) hE d_Mo_portGrammar_61 rfl rfl ?_
      refine cx_msb hE d_Mo_portGrammar_62 rfl l_Mo_241 hh hl hR (c_Mo_rangeGrammar (hT.sm hl.1) hh.1 ⟨rm_sm.rf _, hl.2⟩ rfl) (by omega) (Nat.le_of_ble_eq_true rfl) n_Mo_rangeGrammar (by rfl) (fun w_62 i_62 s_62 G1 M1 hr_62 hh hl hR => ?_) (fun G1 M1 e hh hdd hR => hd_65 _ _ _ hh hdd hR)
      have hmo := hh.1.1
      have hup_62 := tx_up.rng _ _ _ hr_62
      refine cx_aload_n (i := 0) hE d_Mo_portGrammar_65 rfl rfl ?_
      refine cx_sipush (v := 400) hE d_Mo_portGrammar_66 (by decide) ?_
      refine cx_mtk (a := 19) hE d_Mo_portGrammar_69 rfl hT hh hl (by decide) (by decide) hR (by omega) (Nat.le_of_ble_eq_true rfl) (fun G1 M1 hh hl hk69 hR => ?_) (fun G1 M1 e hh hdd hR => hd_72 _ _ _ hh hdd hR)
      have hmo := hh.1.1
      refine cx_aload_n (i := 0) hE d_Mo_portGrammar_72 rfl rfl ?_
      rw [tx_rgs_bg] at hR
      try simp only [tx_R.and_as, tx_op_and, tx_R.and_r] at hR
      refine cx_msb hE d_Mo_portGrammar_73 rfl l_Mo_244 hh hl hR (c_Mo_beginGrammar (hT.sm hl.1) hh.1 ⟨rm_sm.rf _, hl.2⟩ rfl) (by omega) (Nat.le_of_ble_eq_true rfl) n_Mo_beginGrammar (by rfl) (fun w_73 i_73 s_73 G1 M1 hr_73 hh hl hR => ?_) (fun G1 M1 e hh hdd hR => hd_76 _ _ _ hh hdd hR)
      have hmo := hh.1.1
      refine cx_goto (tgt := 90) hE d_Mo_portGrammar_76 (by decide) ?_
      refine cx_vret hE d_Mo_portGrammar_90 rfl ?_
      exact ⟨_, rfl, hh, Or.inl ⟨_, _, _, hR, hl⟩⟩
  · have q_7 := of_decide_eq_true (cx_bn.mp c_7)
    rw [if_pos q_7] at hR
    unfold tx_pnm at hR
    try simp only [tx_R.and_as, tx_op_and, tx_R.and_r] at hR
    have hkk := q_7
    rw [tx_tk_ok q_7, tx_R.and_r] at hR
    refine cx_aload_n (i := 0) hE d_Mo_portGrammar_10 rfl rfl ?_
    refine cx_dup hE d_Mo_portGrammar_11 ?_
    refine cx_get hE d_Mo_portGrammar_12 f_Mo_193 (by assumption) (by rfl) ?_
    rw [hl.2.1]
    refine cx_iconst (v := 1) hE d_Mo_portGrammar_15 (by decide) ?_
    refine cx_iadd hE d_Mo_portGrammar_16 ?_
    show cx_V E _ _ [.int (nI (i) + 1), .ref mo] _
    rw [nI_1]
    refine cx_putg hE d_Mo_portGrammar_17 f_Mo_193 (by assumption) (Nat.le_of_ble_eq_true rfl) (by first | rfl | exact cx_nr _ _) (by first | rfl | exact cx_fr _ _) (fun G_17 g_17 h_17 => ?_)
    rw [rm_s8] at g_17 h_17
    have hp_17 := hh.1.pi g_17
    have hh := hh.tr ⟨hp_17.1, hp_17.2, cx_pc g_17⟩
    have hl := hl.t1 hT (by rw [hkk]; decide) (by rw [hkk]; decide)
    have hmo := hh.1.1
    refine cx_aload_n (i := 0) hE d_Mo_portGrammar_20 rfl rfl ?_
    refine cx_msb hE d_Mo_portGrammar_21 rfl l_Mo_241 hh hl hR (c_Mo_rangeGrammar (hT.sm hl.1) hh.1 ⟨rm_sm.rf _, hl.2⟩ rfl) (by omega) (Nat.le_of_ble_eq_true rfl) n_Mo_rangeGrammar (by rfl) (fun w_21 i_21 s_21 G1 M1 hr_21 hh hl hR => ?_) (fun G1 M1 e hh hdd hR => hd_24 _ _ _ hh hdd hR)
    have hmo := hh.1.1
    have hup_21 := tx_up.rng _ _ _ hr_21
    refine cx_aload_n (i := 0) hE d_Mo_portGrammar_24 rfl rfl ?_
    refine cx_sipush (v := 400) hE d_Mo_portGrammar_25 (by decide) ?_
    refine cx_mtk (a := 19) hE d_Mo_portGrammar_28 rfl hT hh hl (by decide) (by decide) hR (by omega) (Nat.le_of_ble_eq_true rfl) (fun G1 M1 hh hl hk28 hR => ?_) (fun G1 M1 e hh hdd hR => hd_31 _ _ _ hh hdd hR)
    have hmo := hh.1.1
    refine cx_goto (tgt := 90) hE d_Mo_portGrammar_31 (by decide) ?_
    refine cx_vret hE d_Mo_portGrammar_90 rfl ?_
    exact ⟨_, rfl, hh, Or.inl ⟨_, _, _, hR, hl⟩⟩
set_option maxRecDepth 100000 in
theorem c_Mo_itemGrammar {k : cx_K} {l : Launch} {G : cx_G} {mo : Nat} {P : Nat → Nat} {M : rm_M} {T : List tx_Tk} {i f : Nat} {s : tx_S} (hT : rm_tk M T) (hm : rm_R k G mo P M) (hl : rm_lv T M M i f) {R0 : tx_R Unit} (hR : R0 = tx_itm T f i s) : cx_Sp k l m_Mo_itemGrammar 546 [.ref mo] G (rm_o k G mo P T M f R0) := by
  intro E hE
  have hh : rm_h k G mo P G M := ⟨hm, rm_st.rf _ _ _, rfl⟩
  have hmo := hh.1.1
  have hle := hl.2.2.2.2.2
  have hTl := hT.1
  have hd_287 : ∀ (G1 : cx_G) (M1 : rm_M) (e : Int32 × Int32), rm_h k G mo P G1 M1 → rm_dd T M M1 e → R0 = .inl e → cx_V E 287 [(0, false, .ref mo)] [] G1 := by
    intro G1 M1 e hh hdd hR
    have hmo := hh.1.1
    refine cx_vret hE d_Mo_itemGrammar_287 rfl ?_
    exact ⟨_, rfl, hh, Or.inr ⟨_, hR, hdd⟩⟩
  have hd_281 : ∀ (G1 : cx_G) (M1 : rm_M) (e : Int32 × Int32), rm_h k G mo P G1 M1 → rm_dd T M M1 e → R0 = .inl e → cx_V E 281 [(0, false, .ref mo)] [] G1 := by
    intro G1 M1 e hh hdd hR
    have hmo := hh.1.1
    refine cx_aload_n (i := 0) hE d_Mo_itemGrammar_281 rfl rfl ?_
    refine cx_bipush (v := 59) hE d_Mo_itemGrammar_282 (by decide) ?_
    refine cx_mtkd hE d_Mo_itemGrammar_284 rfl hT hh hdd (by omega) (Nat.le_of_ble_eq_true rfl) (fun G1 M1 hh hdd => ?_)
    have hmo := hh.1.1
    refine cx_sub [0] rfl ?_
    exact hd_287 _ _ _ hh hdd hR
  have hd_272 : ∀ (G1 : cx_G) (M1 : rm_M) (e : Int32 × Int32), rm_h k G mo P G1 M1 → rm_dd T M M1 e → R0 = .inl e → cx_V E 272 [(0, false, .ref mo)] [] G1 := by
    intro G1 M1 e hh hdd hR
    have hmo := hh.1.1
    refine cx_goto (tgt := 249) hE d_Mo_itemGrammar_272 (by decide) ?_
    refine cx_aload_n (i := 0) hE d_Mo_itemGrammar_249 rfl rfl ?_
    refine cx_bipush (v := 44) hE d_Mo_itemGrammar_250 (by decide) ?_
    refine cx_misd hE d_Mo_itemGrammar_252 rfl hT hh hdd (by omega) (Nat.le_of_ble_eq_true rfl) ?_
    refine cx_if_eq (tgt := 275)  hE d_Mo_itemGrammar_255 (by decide) (fun c_255 => ?_) (fun c_255 => ?_)
    · refine cx_aload_n (i := 0) hE d_Mo_itemGrammar_275 rfl rfl ?_
      refine cx_bipush (v := 41) hE d_Mo_itemGrammar_276 (by decide) ?_
      refine cx_mshd hE d_Mo_itemGrammar_278 rfl hT hh hdd (by omega) (Nat.le_of_ble_eq_true rfl) (fun G1 M1 hh hdd => ?_)
      have hmo := hh.1.1
      refine cx_sub [0] rfl ?_
      exact hd_281 _ _ _ hh hdd hR
    · exact absurd rfl c_255
      -- end
  have hd_249 : ∀ (G1 : cx_G) (M1 : rm_M) (e : Int32 × Int32), rm_h k G mo P G1 M1 → rm_dd T M M1 e → R0 = .inl e → cx_V E 249 [(0, false, .ref mo)] [] G1 := by
    intro G1 M1 e hh hdd hR
    have hmo := hh.1.1
    refine cx_aload_n (i := 0) hE d_Mo_itemGrammar_249 rfl rfl ?_
    refine cx_bipush (v := 44) hE d_Mo_itemGrammar_250 (by decide) ?_
    refine cx_misd hE d_Mo_itemGrammar_252 rfl hT hh hdd (by omega) (Nat.le_of_ble_eq_true rfl) ?_
    refine cx_if_eq (tgt := 275)  hE d_Mo_itemGrammar_255 (by decide) (fun c_255 => ?_) (fun c_255 => ?_)
    · refine cx_aload_n (i := 0) hE d_Mo_itemGrammar_275 rfl rfl ?_
      refine cx_bipush (v := 41) hE d_Mo_itemGrammar_276 (by decide) ?_
      refine cx_mshd hE d_Mo_itemGrammar_278 rfl hT hh hdd (by omega) (Nat.le_of_ble_eq_true rfl) (fun G1 M1 hh hdd => ?_)
      have hmo := hh.1.1
      refine cx_sub [0] rfl ?_
      exact hd_281 _ _ _ hh hdd hR
    · exact absurd rfl c_255
      -- end
  have hd_236 : ∀ (G1 : cx_G) (M1 : rm_M) (e : Int32 × Int32), rm_h k G mo P G1 M1 → rm_dd T M M1 e → R0 = .inl e → cx_V E 236 [(0, false, .ref mo)] [] G1 := by
    intro G1 M1 e hh hdd hR
    have hmo := hh.1.1
    refine cx_aload_n (i := 0) hE d_Mo_itemGrammar_236 rfl rfl ?_
    refine cx_bipush (v := 46) hE d_Mo_itemGrammar_237 (by decide) ?_
    refine cx_misd hE d_Mo_itemGrammar_239 rfl hT hh hdd (by omega) (Nat.le_of_ble_eq_true rfl) ?_
    refine cx_if_eq (tgt := 275)  hE d_Mo_itemGrammar_242 (by decide) (fun c_242 => ?_) (fun c_242 => ?_)
    · refine cx_aload_n (i := 0) hE d_Mo_itemGrammar_275 rfl rfl ?_
      refine cx_bipush (v := 41) hE d_Mo_itemGrammar_276 (by decide) ?_
      refine cx_mshd hE d_Mo_itemGrammar_278 rfl hT hh hdd (by omega) (Nat.le_of_ble_eq_true rfl) (fun G1 M1 hh hdd => ?_)
      have hmo := hh.1.1
      refine cx_sub [0] rfl ?_
      exact hd_281 _ _ _ hh hdd hR
    · exact absurd rfl c_242
      -- end
  have hd_230 : ∀ (G1 : cx_G) (M1 : rm_M) (e : Int32 × Int32), rm_h k G mo P G1 M1 → rm_dd T M M1 e → R0 = .inl e → cx_V E 230 [(0, false, .ref mo)] [] G1 := by
    intro G1 M1 e hh hdd hR
    have hmo := hh.1.1
    refine cx_aload_n (i := 0) hE d_Mo_itemGrammar_230 rfl rfl ?_
    refine cx_bipush (v := 40) hE d_Mo_itemGrammar_231 (by decide) ?_
    refine cx_mopd hE d_Mo_itemGrammar_233 rfl hT hh hdd (by omega) (Nat.le_of_ble_eq_true rfl) (fun G1 M1 hh hdd => ?_)
    have hmo := hh.1.1
    refine cx_sub [0] rfl ?_
    exact hd_236 _ _ _ hh hdd hR
  have hd_223 : ∀ (G1 : cx_G) (M1 : rm_M) (e : Int32 × Int32), rm_h k G mo P G1 M1 → rm_dd T M M1 e → R0 = .inl e → cx_V E 223 [(0, false, .ref mo)] [] G1 := by
    intro G1 M1 e hh hdd hR
    have hmo := hh.1.1
    refine cx_aload_n (i := 0) hE d_Mo_itemGrammar_223 rfl rfl ?_
    refine cx_sipush (v := 400) hE d_Mo_itemGrammar_224 (by decide) ?_
    refine cx_mtkd hE d_Mo_itemGrammar_227 rfl hT hh hdd (by omega) (Nat.le_of_ble_eq_true rfl) (fun G1 M1 hh hdd => ?_)
    have hmo := hh.1.1
    refine cx_sub [0] rfl ?_
    exact hd_230 _ _ _ hh hdd hR
  have hd_213 : ∀ (G1 : cx_G) (M1 : rm_M) (e : Int32 × Int32), rm_h k G mo P G1 M1 → rm_dd T M M1 e → R0 = .inl e → cx_V E 213 [(0, false, .ref mo)] [] G1 := by
    intro G1 M1 e hh hdd hR
    have hmo := hh.1.1
    refine cx_goto (tgt := 287) hE d_Mo_itemGrammar_213 (by decide) ?_
    refine cx_sub [0] rfl ?_
    exact hd_287 _ _ _ hh hdd hR
  have hd_207 : ∀ (G1 : cx_G) (M1 : rm_M) (e : Int32 × Int32), rm_h k G mo P G1 M1 → rm_dd T M M1 e → R0 = .inl e → cx_V E 207 [(0, false, .ref mo)] [] G1 := by
    intro G1 M1 e hh hdd hR
    have hmo := hh.1.1
    refine cx_aload_n (i := 0) hE d_Mo_itemGrammar_207 rfl rfl ?_
    refine cx_bipush (v := 59) hE d_Mo_itemGrammar_208 (by decide) ?_
    refine cx_mtkd hE d_Mo_itemGrammar_210 rfl hT hh hdd (by omega) (Nat.le_of_ble_eq_true rfl) (fun G1 M1 hh hdd => ?_)
    have hmo := hh.1.1
    refine cx_sub [0] rfl ?_
    exact hd_213 _ _ _ hh hdd hR
  have hd_201 : ∀ (G1 : cx_G) (M1 : rm_M) (e : Int32 × Int32), rm_h k G mo P G1 M1 → rm_dd T M M1 e → R0 = .inl e → cx_V E 201 [(0, false, .ref mo)] [] G1 := by
    intro G1 M1 e hh hdd hR
    have hmo := hh.1.1
    refine cx_aload_n (i := 0) hE d_Mo_itemGrammar_201 rfl rfl ?_
    refine cx_bipush (v := 41) hE d_Mo_itemGrammar_202 (by decide) ?_
    refine cx_mshd hE d_Mo_itemGrammar_204 rfl hT hh hdd (by omega) (Nat.le_of_ble_eq_true rfl) (fun G1 M1 hh hdd => ?_)
    have hmo := hh.1.1
    refine cx_sub [0] rfl ?_
    exact hd_207 _ _ _ hh hdd hR
  have hd_197 : ∀ (G1 : cx_G) (M1 : rm_M) (e : Int32 × Int32), rm_h k G mo P G1 M1 → rm_dd T M M1 e → R0 = .inl e → cx_V E 197 [(0, false, .ref mo)] [] G1 := by
    intro G1 M1 e hh hdd hR
    have hmo := hh.1.1
    refine cx_aload_n (i := 0) hE d_Mo_itemGrammar_197 rfl rfl ?_
    refine cx_msd hE d_Mo_itemGrammar_198 rfl l_Mo_226 hh hdd (c_Mo_expGrammar_d (hT.sm hdd.1) hh.1 ⟨rm_sm.rf _, hdd.2⟩) (by omega) (Nat.le_of_ble_eq_true rfl) n_Mo_expGrammar (by rfl) (fun G1 M1 hh hdd => ?_)
    have hmo := hh.1.1
    refine cx_sub [0] rfl ?_
    exact hd_201 _ _ _ hh hdd hR
  have hd_168 : ∀ (G1 : cx_G) (M1 : rm_M) (e : Int32 × Int32), rm_h k G mo P G1 M1 → rm_dd T M M1 e → R0 = .inl e → cx_V E 168 [(0, false, .ref mo)] [] G1 := by
    intro G1 M1 e hh hdd hR
    have hmo := hh.1.1
    refine cx_goto (tgt := 287) hE d_Mo_itemGrammar_168 (by decide) ?_
    refine cx_sub [0] rfl ?_
    exact hd_287 _ _ _ hh hdd hR
  have hd_164 : ∀ (G1 : cx_G) (M1 : rm_M) (e : Int32 × Int32), rm_h k G mo P G1 M1 → rm_dd T M M1 e → R0 = .inl e → cx_V E 164 [(0, false, .ref mo)] [] G1 := by
    intro G1 M1 e hh hdd hR
    have hmo := hh.1.1
    refine cx_aload_n (i := 0) hE d_Mo_itemGrammar_164 rfl rfl ?_
    refine cx_msd hE d_Mo_itemGrammar_165 rfl l_Mo_247 hh hdd (c_Mo_statementGrammar_d (hT.sm hdd.1) hh.1 ⟨rm_sm.rf _, hdd.2⟩) (by omega) (Nat.le_of_ble_eq_true rfl) n_Mo_statementGrammar (by rfl) (fun G1 M1 hh hdd => ?_)
    have hmo := hh.1.1
    refine cx_sub [0] rfl ?_
    exact hd_168 _ _ _ hh hdd hR
  have hd_158 : ∀ (G1 : cx_G) (M1 : rm_M) (e : Int32 × Int32), rm_h k G mo P G1 M1 → rm_dd T M M1 e → R0 = .inl e → cx_V E 158 [(0, false, .ref mo)] [] G1 := by
    intro G1 M1 e hh hdd hR
    have hmo := hh.1.1
    refine cx_aload_n (i := 0) hE d_Mo_itemGrammar_158 rfl rfl ?_
    refine cx_bipush (v := 41) hE d_Mo_itemGrammar_159 (by decide) ?_
    refine cx_mshd hE d_Mo_itemGrammar_161 rfl hT hh hdd (by omega) (Nat.le_of_ble_eq_true rfl) (fun G1 M1 hh hdd => ?_)
    have hmo := hh.1.1
    refine cx_sub [0] rfl ?_
    exact hd_164 _ _ _ hh hdd hR
  have hd_151 : ∀ (G1 : cx_G) (M1 : rm_M) (e : Int32 × Int32), rm_h k G mo P G1 M1 → rm_dd T M M1 e → R0 = .inl e → cx_V E 151 [(0, false, .ref mo)] [] G1 := by
    intro G1 M1 e hh hdd hR
    have hmo := hh.1.1
    refine cx_aload_n (i := 0) hE d_Mo_itemGrammar_151 rfl rfl ?_
    refine cx_sipush (v := 309) hE d_Mo_itemGrammar_152 (by decide) ?_
    refine cx_mtkd hE d_Mo_itemGrammar_155 rfl hT hh hdd (by omega) (Nat.le_of_ble_eq_true rfl) (fun G1 M1 hh hdd => ?_)
    have hmo := hh.1.1
    refine cx_sub [0] rfl ?_
    exact hd_158 _ _ _ hh hdd hR
  have hd_144 : ∀ (G1 : cx_G) (M1 : rm_M) (e : Int32 × Int32), rm_h k G mo P G1 M1 → rm_dd T M M1 e → R0 = .inl e → cx_V E 144 [(0, false, .ref mo)] [] G1 := by
    intro G1 M1 e hh hdd hR
    have hmo := hh.1.1
    refine cx_aload_n (i := 0) hE d_Mo_itemGrammar_144 rfl rfl ?_
    refine cx_sipush (v := 308) hE d_Mo_itemGrammar_145 (by decide) ?_
    refine cx_mtkd hE d_Mo_itemGrammar_148 rfl hT hh hdd (by omega) (Nat.le_of_ble_eq_true rfl) (fun G1 M1 hh hdd => ?_)
    have hmo := hh.1.1
    refine cx_sub [0] rfl ?_
    exact hd_151 _ _ _ hh hdd hR
  have hd_138 : ∀ (G1 : cx_G) (M1 : rm_M) (e : Int32 × Int32), rm_h k G mo P G1 M1 → rm_dd T M M1 e → R0 = .inl e → cx_V E 138 [(0, false, .ref mo)] [] G1 := by
    intro G1 M1 e hh hdd hR
    have hmo := hh.1.1
    refine cx_aload_n (i := 0) hE d_Mo_itemGrammar_138 rfl rfl ?_
    refine cx_bipush (v := 40) hE d_Mo_itemGrammar_139 (by decide) ?_
    refine cx_mopd hE d_Mo_itemGrammar_141 rfl hT hh hdd (by omega) (Nat.le_of_ble_eq_true rfl) (fun G1 M1 hh hdd => ?_)
    have hmo := hh.1.1
    refine cx_sub [0] rfl ?_
    exact hd_144 _ _ _ hh hdd hR
  have hd_109 : ∀ (G1 : cx_G) (M1 : rm_M) (e : Int32 × Int32), rm_h k G mo P G1 M1 → rm_dd T M M1 e → R0 = .inl e → cx_V E 109 [(0, false, .ref mo)] [] G1 := by
    intro G1 M1 e hh hdd hR
    have hmo := hh.1.1
    refine cx_goto (tgt := 287) hE d_Mo_itemGrammar_109 (by decide) ?_
    refine cx_sub [0] rfl ?_
    exact hd_287 _ _ _ hh hdd hR
  have hd_103 : ∀ (G1 : cx_G) (M1 : rm_M) (e : Int32 × Int32), rm_h k G mo P G1 M1 → rm_dd T M M1 e → R0 = .inl e → cx_V E 103 [(0, false, .ref mo)] [] G1 := by
    intro G1 M1 e hh hdd hR
    have hmo := hh.1.1
    refine cx_aload_n (i := 0) hE d_Mo_itemGrammar_103 rfl rfl ?_
    refine cx_bipush (v := 59) hE d_Mo_itemGrammar_104 (by decide) ?_
    refine cx_mtkd hE d_Mo_itemGrammar_106 rfl hT hh hdd (by omega) (Nat.le_of_ble_eq_true rfl) (fun G1 M1 hh hdd => ?_)
    have hmo := hh.1.1
    refine cx_sub [0] rfl ?_
    exact hd_109 _ _ _ hh hdd hR
  have hd_99 : ∀ (G1 : cx_G) (M1 : rm_M) (e : Int32 × Int32), rm_h k G mo P G1 M1 → rm_dd T M M1 e → R0 = .inl e → cx_V E 99 [(0, false, .ref mo)] [] G1 := by
    intro G1 M1 e hh hdd hR
    have hmo := hh.1.1
    refine cx_aload_n (i := 0) hE d_Mo_itemGrammar_99 rfl rfl ?_
    refine cx_msd hE d_Mo_itemGrammar_100 rfl l_Mo_226 hh hdd (c_Mo_expGrammar_d (hT.sm hdd.1) hh.1 ⟨rm_sm.rf _, hdd.2⟩) (by omega) (Nat.le_of_ble_eq_true rfl) n_Mo_expGrammar (by rfl) (fun G1 M1 hh hdd => ?_)
    have hmo := hh.1.1
    refine cx_sub [0] rfl ?_
    exact hd_103 _ _ _ hh hdd hR
  have hd_93 : ∀ (G1 : cx_G) (M1 : rm_M) (e : Int32 × Int32), rm_h k G mo P G1 M1 → rm_dd T M M1 e → R0 = .inl e → cx_V E 93 [(0, false, .ref mo)] [] G1 := by
    intro G1 M1 e hh hdd hR
    have hmo := hh.1.1
    refine cx_aload_n (i := 0) hE d_Mo_itemGrammar_93 rfl rfl ?_
    refine cx_bipush (v := 61) hE d_Mo_itemGrammar_94 (by decide) ?_
    refine cx_mtkd hE d_Mo_itemGrammar_96 rfl hT hh hdd (by omega) (Nat.le_of_ble_eq_true rfl) (fun G1 M1 hh hdd => ?_)
    have hmo := hh.1.1
    refine cx_sub [0] rfl ?_
    exact hd_99 _ _ _ hh hdd hR
  have hd_63 : ∀ (G1 : cx_G) (M1 : rm_M) (e : Int32 × Int32), rm_h k G mo P G1 M1 → rm_dd T M M1 e → R0 = .inl e → ∀ v9 : Int32, cx_V E 63 [(1, false, .int v9), (0, false, .ref mo)] [] G1 := by
    intro G1 M1 e hh hdd hR v9
    have hmo := hh.1.1
    refine cx_goto (tgt := 287) hE d_Mo_itemGrammar_63 (by decide) ?_
    refine cx_sub [1] rfl ?_
    exact hd_287 _ _ _ hh hdd hR
  have hd_57 : ∀ (G1 : cx_G) (M1 : rm_M) (e : Int32 × Int32), rm_h k G mo P G1 M1 → rm_dd T M M1 e → R0 = .inl e → ∀ v9 : Int32, cx_V E 57 [(1, false, .int v9), (0, false, .ref mo)] [] G1 := by
    intro G1 M1 e hh hdd hR v9
    have hmo := hh.1.1
    refine cx_aload_n (i := 0) hE d_Mo_itemGrammar_57 rfl rfl ?_
    refine cx_bipush (v := 59) hE d_Mo_itemGrammar_58 (by decide) ?_
    refine cx_mtkd hE d_Mo_itemGrammar_60 rfl hT hh hdd (by omega) (Nat.le_of_ble_eq_true rfl) (fun G1 M1 hh hdd => ?_)
    have hmo := hh.1.1
    refine cx_sub [0, 1] rfl ?_
    exact hd_63 _ _ _ hh hdd hR _
  have hd_49 : ∀ (G1 : cx_G) (M1 : rm_M) (e : Int32 × Int32), rm_h k G mo P G1 M1 → rm_dd T M M1 e → R0 = .inl e → ∀ v9 : Int32, cx_V E 49 [(1, false, .int v9), (0, false, .ref mo)] [] G1 := by
    intro G1 M1 e hh hdd hR v9
    have hmo := hh.1.1
    refine cx_iload_n (i := 1) hE d_Mo_itemGrammar_49 rfl rfl ?_
    refine cx_if_eq (tgt := 57)  hE d_Mo_itemGrammar_50 (by decide) (fun c_50 => ?_) (fun c_50 => ?_)
    · refine cx_sub [0, 1] rfl ?_
      exact hd_57 _ _ _ hh hdd hR _
    · refine cx_aload_n (i := 0) hE d_Mo_itemGrammar_53 rfl rfl ?_
      refine cx_msd hE d_Mo_itemGrammar_54 rfl l_Mo_244 hh hdd (c_Mo_beginGrammar_d (hT.sm hdd.1) hh.1 ⟨rm_sm.rf _, hdd.2⟩) (by omega) (Nat.le_of_ble_eq_true rfl) n_Mo_beginGrammar (by rfl) (fun G1 M1 hh hdd => ?_)
      have hmo := hh.1.1
      refine cx_sub [0, 1] rfl ?_
      exact hd_57 _ _ _ hh hdd hR _
  have hd_42 : ∀ (G1 : cx_G) (M1 : rm_M) (e : Int32 × Int32), rm_h k G mo P G1 M1 → rm_dd T M M1 e → R0 = .inl e → ∀ v9 : Int32, cx_V E 42 [(1, false, .int v9), (0, false, .ref mo)] [] G1 := by
    intro G1 M1 e hh hdd hR v9
    have hmo := hh.1.1
    refine cx_aload_n (i := 0) hE d_Mo_itemGrammar_42 rfl rfl ?_
    refine cx_sipush (v := 400) hE d_Mo_itemGrammar_43 (by decide) ?_
    refine cx_mtkd hE d_Mo_itemGrammar_46 rfl hT hh hdd (by omega) (Nat.le_of_ble_eq_true rfl) (fun G1 M1 hh hdd => ?_)
    have hmo := hh.1.1
    refine cx_sub [0, 1] rfl ?_
    exact hd_49 _ _ _ hh hdd hR _
  refine cx_aload_n (i := 0) hE d_Mo_itemGrammar_0 rfl rfl ?_
  refine cx_sipush (v := 304) hE d_Mo_itemGrammar_1 (by decide) ?_
  refine cx_mis (a := 5) hE d_Mo_itemGrammar_4 rfl hT hh hl (by decide) (by omega) (Nat.le_of_ble_eq_true rfl) ?_
  refine cx_if_ne (tgt := 20)  hE d_Mo_itemGrammar_7 (by decide) (fun c_7 => ?_) (fun c_7 => ?_)
  · have q_7 := of_decide_eq_true (cx_bn.mp c_7)
    unfold tx_itm at hR
    rw [if_pos q_7] at hR
    unfold tx_wir tx_pnm at hR
    try simp only [tx_R.and_as, tx_op_and, tx_R.and_r] at hR
    have hkk := q_7
    rw [tx_tk_ok q_7, tx_R.and_r] at hR
    have q24 : decide (tx_ki T i = 6) = false := decide_eq_false (by rw [q_7]; decide)
    refine cx_aload_n (i := 0) hE d_Mo_itemGrammar_20 rfl rfl ?_
    refine cx_sipush (v := 305) hE d_Mo_itemGrammar_21 (by decide) ?_
    refine cx_mis (a := 6) hE d_Mo_itemGrammar_24 rfl hT hh hl (by decide) (by omega) (Nat.le_of_ble_eq_true rfl) ?_
    rw [q24]
    refine cx_istore_n (i := 1) hE d_Mo_itemGrammar_27 rfl (by decide) ?_
    refine cx_aload_n (i := 0) hE d_Mo_itemGrammar_28 rfl rfl ?_
    refine cx_dup hE d_Mo_itemGrammar_29 ?_
    refine cx_get hE d_Mo_itemGrammar_30 f_Mo_193 (by assumption) (by rfl) ?_
    rw [hl.2.1]
    refine cx_iconst (v := 1) hE d_Mo_itemGrammar_33 (by decide) ?_
    refine cx_iadd hE d_Mo_itemGrammar_34 ?_
    show cx_V E _ _ [.int (nI (i) + 1), .ref mo] _
    rw [nI_1]
    refine cx_putg hE d_Mo_itemGrammar_35 f_Mo_193 (by assumption) (Nat.le_of_ble_eq_true rfl) (by first | rfl | exact cx_nr _ _) (by first | rfl | exact cx_fr _ _) (fun G_35 g_35 h_35 => ?_)
    rw [rm_s8] at g_35 h_35
    have hp_35 := hh.1.pi g_35
    have hh := hh.tr ⟨hp_35.1, hp_35.2, cx_pc g_35⟩
    have hl := hl.t1 hT (by rw [hkk]; decide) (by rw [hkk]; decide)
    have hmo := hh.1.1
    refine cx_aload_n (i := 0) hE d_Mo_itemGrammar_38 rfl rfl ?_
    refine cx_msb hE d_Mo_itemGrammar_39 rfl l_Mo_241 hh hl hR (c_Mo_rangeGrammar (hT.sm hl.1) hh.1 ⟨rm_sm.rf _, hl.2⟩ rfl) (by omega) (Nat.le_of_ble_eq_true rfl) n_Mo_rangeGrammar (by rfl) (fun w_39 i_39 s_39 G1 M1 hr_39 hh hl hR => ?_) (fun G1 M1 e hh hdd hR => hd_42 _ _ _ hh hdd hR _)
    have hmo := hh.1.1
    have hup_39 := tx_up.rng _ _ _ hr_39
    refine cx_aload_n (i := 0) hE d_Mo_itemGrammar_42 rfl rfl ?_
    refine cx_sipush (v := 400) hE d_Mo_itemGrammar_43 (by decide) ?_
    refine cx_mtk (a := 19) hE d_Mo_itemGrammar_46 rfl hT hh hl (by decide) (by decide) hR (by omega) (Nat.le_of_ble_eq_true rfl) (fun G1 M1 hh hl hk46 hR => ?_) (fun G1 M1 e hh hdd hR => hd_49 _ _ _ hh hdd hR _)
    have hmo := hh.1.1
    refine cx_iload_n (i := 1) hE d_Mo_itemGrammar_49 rfl rfl ?_
    refine cx_if_eq (tgt := 57)  hE d_Mo_itemGrammar_50 (by decide) (fun c_50 => ?_) (fun c_50 => ?_)
    · refine cx_aload_n (i := 0) hE d_Mo_itemGrammar_57 rfl rfl ?_
      refine cx_bipush (v := 59) hE d_Mo_itemGrammar_58 (by decide) ?_
      refine cx_mtk (a := 59) hE d_Mo_itemGrammar_60 rfl hT hh hl (by decide) (by decide) hR (by omega) (Nat.le_of_ble_eq_true rfl) (fun G1 M1 hh hl hk60 hR => ?_) (fun G1 M1 e hh hdd hR => hd_63 _ _ _ hh hdd hR _)
      have hmo := hh.1.1
      refine cx_goto (tgt := 287) hE d_Mo_itemGrammar_63 (by decide) ?_
      refine cx_vret hE d_Mo_itemGrammar_287 rfl ?_
      exact ⟨_, rfl, hh, Or.inl ⟨_, _, _, hR, hl⟩⟩
    · exact absurd rfl c_50
      -- end
  · have q_7 := of_decide_eq_false (cx_b0.mp (by simpa using c_7))
    refine cx_aload_n (i := 0) hE d_Mo_itemGrammar_10 rfl rfl ?_
    refine cx_sipush (v := 305) hE d_Mo_itemGrammar_11 (by decide) ?_
    refine cx_mis (a := 6) hE d_Mo_itemGrammar_14 rfl hT hh hl (by decide) (by omega) (Nat.le_of_ble_eq_true rfl) ?_
    refine cx_if_eq (tgt := 66)  hE d_Mo_itemGrammar_17 (by decide) (fun c_17 => ?_) (fun c_17 => ?_)
    · have q_17 := of_decide_eq_false (cx_b0.mp c_17)
      refine cx_aload_n (i := 0) hE d_Mo_itemGrammar_66 rfl rfl ?_
      refine cx_sipush (v := 306) hE d_Mo_itemGrammar_67 (by decide) ?_
      refine cx_mis (a := 7) hE d_Mo_itemGrammar_70 rfl hT hh hl (by decide) (by omega) (Nat.le_of_ble_eq_true rfl) ?_
      refine cx_if_eq (tgt := 112)  hE d_Mo_itemGrammar_73 (by decide) (fun c_73 => ?_) (fun c_73 => ?_)
      · have q_73 := of_decide_eq_false (cx_b0.mp c_73)
        refine cx_aload_n (i := 0) hE d_Mo_itemGrammar_112 rfl rfl ?_
        refine cx_sipush (v := 307) hE d_Mo_itemGrammar_113 (by decide) ?_
        refine cx_mis (a := 8) hE d_Mo_itemGrammar_116 rfl hT hh hl (by decide) (by omega) (Nat.le_of_ble_eq_true rfl) ?_
        refine cx_if_eq (tgt := 171)  hE d_Mo_itemGrammar_119 (by decide) (fun c_119 => ?_) (fun c_119 => ?_)
        · have q_119 := of_decide_eq_false (cx_b0.mp c_119)
          refine cx_aload_n (i := 0) hE d_Mo_itemGrammar_171 rfl rfl ?_
          refine cx_sipush (v := 317) hE d_Mo_itemGrammar_172 (by decide) ?_
          refine cx_mis (a := 18) hE d_Mo_itemGrammar_175 rfl hT hh hl (by decide) (by omega) (Nat.le_of_ble_eq_true rfl) ?_
          refine cx_if_eq (tgt := 216)  hE d_Mo_itemGrammar_178 (by decide) (fun c_178 => ?_) (fun c_178 => ?_)
          · have q_178 := of_decide_eq_false (cx_b0.mp c_178)
            unfold tx_itm at hR
            rw [if_neg q_7, if_neg q_17, if_neg q_73, if_neg q_119, if_neg q_178] at hR
            unfold tx_ins at hR
            try simp only [tx_R.and_as, tx_op_and, tx_R.and_r] at hR
            refine cx_aload_n (i := 0) hE d_Mo_itemGrammar_216 rfl rfl ?_
            refine cx_sipush (v := 400) hE d_Mo_itemGrammar_217 (by decide) ?_
            refine cx_mtk (a := 19) hE d_Mo_itemGrammar_220 rfl hT hh hl (by decide) (by decide) hR (by omega) (Nat.le_of_ble_eq_true rfl) (fun G1 M1 hh hl hk220 hR => ?_) (fun G1 M1 e hh hdd hR => hd_223 _ _ _ hh hdd hR)
            have hmo := hh.1.1
            refine cx_aload_n (i := 0) hE d_Mo_itemGrammar_223 rfl rfl ?_
            refine cx_sipush (v := 400) hE d_Mo_itemGrammar_224 (by decide) ?_
            refine cx_mtk (a := 19) hE d_Mo_itemGrammar_227 rfl hT hh hl (by decide) (by decide) hR (by omega) (Nat.le_of_ble_eq_true rfl) (fun G1 M1 hh hl hk227 hR => ?_) (fun G1 M1 e hh hdd hR => hd_230 _ _ _ hh hdd hR)
            have hmo := hh.1.1
            refine cx_aload_n (i := 0) hE d_Mo_itemGrammar_230 rfl rfl ?_
            refine cx_bipush (v := 40) hE d_Mo_itemGrammar_231 (by decide) ?_
            refine cx_mop (a := 40) hE d_Mo_itemGrammar_233 rfl hT hh hl (by decide) (by decide) hR (by omega) (Nat.le_of_ble_eq_true rfl) (fun f_233 G1 M1 hf233 => ?_) (fun G1 M1 e hh hdd hR => hd_236 _ _ _ hh hdd hR)
            subst hf233
            intro hh hl hk233 hR
            have hmo := hh.1.1
            generalize (tx_ck (s.mo (tx_ta T i).2.2.2.1).isSome 22 (nI (tx_ta T i).2.1) s).uu.2.2.1.length = q9 at hR
            have hloop : ∀ (n i' : Nat) (s' : tx_S) (G1 : cx_G) (M1 : rm_M), T.length ≤ i' + n → rm_h k G mo P G1 M1 → rm_lv T M M1 i' f_233 → R0 = (tx_lks' T q9 f_233 n i' s').and (fun _ i s => (tx_tk T 41 i s).and fun _ i s => (tx_tk T 59 i s).and fun _ i s => .inr ((), i, tx_fini q9 s)) → cx_V E 249 [(0, false, .ref mo)] [] G1 := by
              intro n
              induction n with
              | zero =>
                intro i' s' G1 M1 h1 hh hl hR
                exact absurd hl.2.2.1 (by omega)
              | succ n ih =>
                intro i' s' G1 M1 h1 hh hl hR
                unfold tx_lks' at hR
                have hmo := hh.1.1
                refine cx_aload_n (i := 0) hE d_Mo_itemGrammar_249 rfl rfl ?_
                refine cx_bipush (v := 44) hE d_Mo_itemGrammar_250 (by decide) ?_
                refine cx_mis (a := 44) hE d_Mo_itemGrammar_252 rfl hT hh hl (by decide) (by omega) (Nat.le_of_ble_eq_true rfl) ?_
                refine cx_if_eq (tgt := 275)  hE d_Mo_itemGrammar_255 (by decide) (fun c_255 => ?_) (fun c_255 => ?_)
                · have q_255 := of_decide_eq_false (cx_b0.mp c_255)
                  refine cx_aload_n (i := 0) hE d_Mo_itemGrammar_275 rfl rfl ?_
                  refine cx_bipush (v := 41) hE d_Mo_itemGrammar_276 (by decide) ?_
                  by_cases q41 : tx_ki T i' = 41
                  · rw [if_pos q41] at hR
                    try simp only [tx_R.and_as, tx_op_and, tx_R.and_r] at hR
                    refine cx_msh (a := 41) hE d_Mo_itemGrammar_278 rfl hT hh hl (by decide) (by decide) (by omega) hR (by omega) (Nat.le_of_ble_eq_true rfl) (fun G1 M1 hh hl hk278 hR => ?_) (fun G1 M1 e hh hdd hR => hd_281 _ _ _ hh hdd hR)
                    have hmo := hh.1.1
                    refine cx_aload_n (i := 0) hE d_Mo_itemGrammar_281 rfl rfl ?_
                    refine cx_bipush (v := 59) hE d_Mo_itemGrammar_282 (by decide) ?_
                    refine cx_mtk (a := 59) hE d_Mo_itemGrammar_284 rfl hT hh hl (by decide) (by decide) hR (by omega) (Nat.le_of_ble_eq_true rfl) (fun G1 M1 hh hl hk284 hR => ?_) (fun G1 M1 e hh hdd hR => hd_287 _ _ _ hh hdd hR)
                    have hmo := hh.1.1
                    refine cx_vret hE d_Mo_itemGrammar_287 rfl ?_
                    exact ⟨_, rfl, hh, Or.inl ⟨_, _, _, hR, hl⟩⟩
                  · rw [if_neg q41, show tx_tk T 44 i' s' = .inl (tx_no (tx_ta T i')) from if_neg q_255] at hR
                    simp only [tx_R.and_l] at hR
                    refine cx_msh (a := 41) (s := s') (g := fun _ _ _ => R0) hE d_Mo_itemGrammar_278 rfl hT hh hl (by decide) (by decide) (by omega) (by rw [show tx_tk T 41 i' s' = .inl (tx_no (tx_ta T i')) from if_neg q41]; exact hR) (by omega) (Nat.le_of_ble_eq_true rfl) (fun G1 M1 hh hl hk278 _ => absurd hk278 q41) (fun G1 M1 e hh hdd hR => hd_281 _ _ _ hh hdd hR)
                  -- end
                · have q_255 := of_decide_eq_true (cx_bn.mp c_255)
                  have q9_255 : ¬ tx_ki T i' = 41 := by rw [q_255]; decide
                  rw [if_neg q9_255] at hR
                  try simp only [tx_R.and_as, tx_op_and, tx_R.and_r] at hR
                  have hkk := q_255
                  rw [tx_tk_ok q_255, tx_R.and_r] at hR
                  refine cx_aload_n (i := 0) hE d_Mo_itemGrammar_258 rfl rfl ?_
                  refine cx_dup hE d_Mo_itemGrammar_259 ?_
                  refine cx_get hE d_Mo_itemGrammar_260 f_Mo_193 (by assumption) (by rfl) ?_
                  rw [hl.2.1]
                  refine cx_iconst (v := 1) hE d_Mo_itemGrammar_263 (by decide) ?_
                  refine cx_iadd hE d_Mo_itemGrammar_264 ?_
                  show cx_V E _ _ [.int (nI (i') + 1), .ref mo] _
                  rw [nI_1]
                  refine cx_putg hE d_Mo_itemGrammar_265 f_Mo_193 (by assumption) (Nat.le_of_ble_eq_true rfl) (by first | rfl | exact cx_nr _ _) (by first | rfl | exact cx_fr _ _) (fun G_265 g_265 h_265 => ?_)
                  rw [rm_s8] at g_265 h_265
                  have hp_265 := hh.1.pi g_265
                  have hh := hh.tr ⟨hp_265.1, hp_265.2, cx_pc g_265⟩
                  have hl := hl.t1 hT (by rw [hkk]; decide) (by rw [hkk]; decide)
                  have hmo := hh.1.1
                  refine cx_aload_n (i := 0) hE d_Mo_itemGrammar_268 rfl rfl ?_
                  refine cx_msb hE d_Mo_itemGrammar_269 rfl l_Mo_253 hh hl hR (c_Mo_linkGrammar (hT.sm hl.1) hh.1 ⟨rm_sm.rf _, hl.2⟩ rfl) (by omega) (Nat.le_of_ble_eq_true rfl) n_Mo_linkGrammar (by rfl) (fun w_269 i_269 s_269 G1 M1 hr_269 hh hl hR => ?_) (fun G1 M1 e hh hdd hR => hd_272 _ _ _ hh hdd hR)
                  have hmo := hh.1.1
                  have hup_269 := tx_up.lnk _ _ _ hr_269
                  refine cx_goto (tgt := 249) hE d_Mo_itemGrammar_272 (by decide) ?_
                  refine cx_sub [0] rfl ?_
                  exact ih _ _ _ _ (by omega) hh hl hR
            refine cx_aload_n (i := 0) hE d_Mo_itemGrammar_236 rfl rfl ?_
            refine cx_bipush (v := 46) hE d_Mo_itemGrammar_237 (by decide) ?_
            refine cx_mis (a := 46) hE d_Mo_itemGrammar_239 rfl hT hh hl (by decide) (by omega) (Nat.le_of_ble_eq_true rfl) ?_
            refine cx_if_eq (tgt := 275)  hE d_Mo_itemGrammar_242 (by decide) (fun c_242 => ?_) (fun c_242 => ?_)
            · have q_242 := of_decide_eq_false (cx_b0.mp c_242)
              refine cx_aload_n (i := 0) hE d_Mo_itemGrammar_275 rfl rfl ?_
              refine cx_bipush (v := 41) hE d_Mo_itemGrammar_276 (by decide) ?_
              by_cases q41 : tx_ki T (i + 1 + 1 + 1) = 41
              · rw [if_pos q41] at hR
                try simp only [tx_R.and_as, tx_op_and, tx_R.and_r] at hR
                rw [tx_lks_41 q41, tx_R.and_r] at hR
                refine cx_msh (a := 41) hE d_Mo_itemGrammar_278 rfl hT hh hl (by decide) (by decide) (by omega) hR (by omega) (Nat.le_of_ble_eq_true rfl) (fun G1 M1 hh hl hk278 hR => ?_) (fun G1 M1 e hh hdd hR => hd_281 _ _ _ hh hdd hR)
                have hmo := hh.1.1
                refine cx_aload_n (i := 0) hE d_Mo_itemGrammar_281 rfl rfl ?_
                refine cx_bipush (v := 59) hE d_Mo_itemGrammar_282 (by decide) ?_
                refine cx_mtk (a := 59) hE d_Mo_itemGrammar_284 rfl hT hh hl (by decide) (by decide) hR (by omega) (Nat.le_of_ble_eq_true rfl) (fun G1 M1 hh hl hk284 hR => ?_) (fun G1 M1 e hh hdd hR => hd_287 _ _ _ hh hdd hR)
                have hmo := hh.1.1
                refine cx_vret hE d_Mo_itemGrammar_287 rfl ?_
                exact ⟨_, rfl, hh, Or.inl ⟨_, _, _, hR, hl⟩⟩
              · rw [if_neg q41] at hR
                unfold tx_lnk at hR
                try simp only [tx_R.and_as, tx_op_and, tx_R.and_r] at hR
                rw [show tx_tk T 46 (i + 1 + 1 + 1) _ = .inl (tx_no (tx_ta T (i + 1 + 1 + 1))) from if_neg q_242] at hR
                simp only [tx_R.and_l] at hR
                refine cx_msh (a := 41) (s := s) (g := fun _ _ _ => R0) hE d_Mo_itemGrammar_278 rfl hT hh hl (by decide) (by decide) (by omega) (by rw [show tx_tk T 41 (i + 1 + 1 + 1) s = .inl (tx_no (tx_ta T (i + 1 + 1 + 1))) from if_neg q41]; exact hR) (by omega) (Nat.le_of_ble_eq_true rfl) (fun G1 M1 hh hl hk278 _ => absurd hk278 q41) (fun G1 M1 e hh hdd hR => hd_281 _ _ _ hh hdd hR)
              -- end
            · have q_242 := of_decide_eq_true (cx_bn.mp c_242)
              rw [if_neg (by rw [q_242]; decide)] at hR
              try simp only [tx_R.and_as, tx_op_and, tx_R.and_r] at hR
              refine cx_aload_n (i := 0) hE d_Mo_itemGrammar_245 rfl rfl ?_
              refine cx_msb hE d_Mo_itemGrammar_246 rfl l_Mo_253 hh hl hR (c_Mo_linkGrammar (hT.sm hl.1) hh.1 ⟨rm_sm.rf _, hl.2⟩ rfl) (by omega) (Nat.le_of_ble_eq_true rfl) n_Mo_linkGrammar (by rfl) (fun w_246 i_246 s_246 G1 M1 hr_246 hh hl hR => ?_) (fun G1 M1 e hh hdd hR => hd_249 _ _ _ hh hdd hR)
              have hmo := hh.1.1
              have hup_246 := tx_up.lnk _ _ _ hr_246
              refine cx_sub [0] rfl ?_
              exact hloop T.length _ _ _ _ (by omega) hh hl hR
          · have q_178 := of_decide_eq_true (cx_bn.mp c_178)
            unfold tx_itm at hR
            rw [if_neg q_7, if_neg q_17, if_neg q_73, if_neg q_119, if_pos q_178] at hR
            unfold tx_ast at hR
            try simp only [tx_R.and_as, tx_op_and, tx_R.and_r] at hR
            have hkk := q_178
            rw [tx_tk_ok q_178, tx_R.and_r] at hR
            refine cx_aload_n (i := 0) hE d_Mo_itemGrammar_181 rfl rfl ?_
            refine cx_dup hE d_Mo_itemGrammar_182 ?_
            refine cx_get hE d_Mo_itemGrammar_183 f_Mo_193 (by assumption) (by rfl) ?_
            rw [hl.2.1]
            refine cx_iconst (v := 1) hE d_Mo_itemGrammar_186 (by decide) ?_
            refine cx_iadd hE d_Mo_itemGrammar_187 ?_
            show cx_V E _ _ [.int (nI (i) + 1), .ref mo] _
            rw [nI_1]
            refine cx_putg hE d_Mo_itemGrammar_188 f_Mo_193 (by assumption) (Nat.le_of_ble_eq_true rfl) (by first | rfl | exact cx_nr _ _) (by first | rfl | exact cx_fr _ _) (fun G_188 g_188 h_188 => ?_)
            rw [rm_s8] at g_188 h_188
            have hp_188 := hh.1.pi g_188
            have hh := hh.tr ⟨hp_188.1, hp_188.2, cx_pc g_188⟩
            have hl := hl.t1 hT (by rw [hkk]; decide) (by rw [hkk]; decide)
            have hmo := hh.1.1
            refine cx_aload_n (i := 0) hE d_Mo_itemGrammar_191 rfl rfl ?_
            refine cx_bipush (v := 40) hE d_Mo_itemGrammar_192 (by decide) ?_
            refine cx_mop (a := 40) hE d_Mo_itemGrammar_194 rfl hT hh hl (by decide) (by decide) hR (by omega) (Nat.le_of_ble_eq_true rfl) (fun f_194 G1 M1 hf194 => ?_) (fun G1 M1 e hh hdd hR => hd_197 _ _ _ hh hdd hR)
            subst hf194
            intro hh hl hk194 hR
            have hmo := hh.1.1
            refine cx_aload_n (i := 0) hE d_Mo_itemGrammar_197 rfl rfl ?_
            refine cx_msb hE d_Mo_itemGrammar_198 rfl l_Mo_226 hh hl hR (c_Mo_ex (hT.sm hl.1) hh.1 ⟨rm_sm.rf _, hl.2⟩) (by omega) (Nat.le_of_ble_eq_true rfl) n_Mo_expGrammar (by rfl) (fun w_198 i_198 s_198 G1 M1 hr_198 hh hl hR => ?_) (fun G1 M1 e hh hdd hR => hd_201 _ _ _ hh hdd hR)
            have hmo := hh.1.1
            have hup_198 := tx_up.exp _ _ _ _ _ _ hr_198
            refine cx_aload_n (i := 0) hE d_Mo_itemGrammar_201 rfl rfl ?_
            refine cx_bipush (v := 41) hE d_Mo_itemGrammar_202 (by decide) ?_
            refine cx_msh (a := 41) hE d_Mo_itemGrammar_204 rfl hT hh hl (by decide) (by decide) (by omega) hR (by omega) (Nat.le_of_ble_eq_true rfl) (fun G1 M1 hh hl hk204 hR => ?_) (fun G1 M1 e hh hdd hR => hd_207 _ _ _ hh hdd hR)
            have hmo := hh.1.1
            refine cx_aload_n (i := 0) hE d_Mo_itemGrammar_207 rfl rfl ?_
            refine cx_bipush (v := 59) hE d_Mo_itemGrammar_208 (by decide) ?_
            refine cx_mtk (a := 59) hE d_Mo_itemGrammar_210 rfl hT hh hl (by decide) (by decide) hR (by omega) (Nat.le_of_ble_eq_true rfl) (fun G1 M1 hh hl hk210 hR => ?_) (fun G1 M1 e hh hdd hR => hd_213 _ _ _ hh hdd hR)
            have hmo := hh.1.1
            refine cx_goto (tgt := 287) hE d_Mo_itemGrammar_213 (by decide) ?_
            refine cx_vret hE d_Mo_itemGrammar_287 rfl ?_
            exact ⟨_, rfl, hh, Or.inl ⟨_, _, _, hR, hl⟩⟩
        · have q_119 := of_decide_eq_true (cx_bn.mp c_119)
          unfold tx_itm at hR
          rw [if_neg q_7, if_neg q_17, if_neg q_73, if_pos q_119] at hR
          unfold tx_alh at hR
          try simp only [tx_R.and_as, tx_op_and, tx_R.and_r] at hR
          have hkk := q_119
          rw [tx_tk_ok q_119, tx_R.and_r] at hR
          refine cx_aload_n (i := 0) hE d_Mo_itemGrammar_122 rfl rfl ?_
          refine cx_dup hE d_Mo_itemGrammar_123 ?_
          refine cx_get hE d_Mo_itemGrammar_124 f_Mo_193 (by assumption) (by rfl) ?_
          rw [hl.2.1]
          refine cx_iconst (v := 1) hE d_Mo_itemGrammar_127 (by decide) ?_
          refine cx_iadd hE d_Mo_itemGrammar_128 ?_
          show cx_V E _ _ [.int (nI (i) + 1), .ref mo] _
          rw [nI_1]
          refine cx_putg hE d_Mo_itemGrammar_129 f_Mo_193 (by assumption) (Nat.le_of_ble_eq_true rfl) (by first | rfl | exact cx_nr _ _) (by first | rfl | exact cx_fr _ _) (fun G_129 g_129 h_129 => ?_)
          rw [rm_s8] at g_129 h_129
          have hp_129 := hh.1.pi g_129
          have hh := hh.tr ⟨hp_129.1, hp_129.2, cx_pc g_129⟩
          have hl := hl.t1 hT (by rw [hkk]; decide) (by rw [hkk]; decide)
          have hmo := hh.1.1
          refine cx_aload_n (i := 0) hE d_Mo_itemGrammar_132 rfl rfl ?_
          refine cx_bipush (v := 64) hE d_Mo_itemGrammar_133 (by decide) ?_
          refine cx_mtk (a := 64) hE d_Mo_itemGrammar_135 rfl hT hh hl (by decide) (by decide) hR (by omega) (Nat.le_of_ble_eq_true rfl) (fun G1 M1 hh hl hk135 hR => ?_) (fun G1 M1 e hh hdd hR => hd_138 _ _ _ hh hdd hR)
          have hmo := hh.1.1
          refine cx_aload_n (i := 0) hE d_Mo_itemGrammar_138 rfl rfl ?_
          refine cx_bipush (v := 40) hE d_Mo_itemGrammar_139 (by decide) ?_
          refine cx_mop (a := 40) hE d_Mo_itemGrammar_141 rfl hT hh hl (by decide) (by decide) hR (by omega) (Nat.le_of_ble_eq_true rfl) (fun f_141 G1 M1 hf141 => ?_) (fun G1 M1 e hh hdd hR => hd_144 _ _ _ hh hdd hR)
          subst hf141
          intro hh hl hk141 hR
          have hmo := hh.1.1
          refine cx_aload_n (i := 0) hE d_Mo_itemGrammar_144 rfl rfl ?_
          refine cx_sipush (v := 308) hE d_Mo_itemGrammar_145 (by decide) ?_
          refine cx_mtk (a := 9) hE d_Mo_itemGrammar_148 rfl hT hh hl (by decide) (by decide) hR (by omega) (Nat.le_of_ble_eq_true rfl) (fun G1 M1 hh hl hk148 hR => ?_) (fun G1 M1 e hh hdd hR => hd_151 _ _ _ hh hdd hR)
          have hmo := hh.1.1
          refine cx_aload_n (i := 0) hE d_Mo_itemGrammar_151 rfl rfl ?_
          refine cx_sipush (v := 309) hE d_Mo_itemGrammar_152 (by decide) ?_
          refine cx_mtk (a := 10) hE d_Mo_itemGrammar_155 rfl hT hh hl (by decide) (by decide) hR (by omega) (Nat.le_of_ble_eq_true rfl) (fun G1 M1 hh hl hk155 hR => ?_) (fun G1 M1 e hh hdd hR => hd_158 _ _ _ hh hdd hR)
          have hmo := hh.1.1
          refine cx_aload_n (i := 0) hE d_Mo_itemGrammar_158 rfl rfl ?_
          refine cx_bipush (v := 41) hE d_Mo_itemGrammar_159 (by decide) ?_
          refine cx_msh (a := 41) hE d_Mo_itemGrammar_161 rfl hT hh hl (by decide) (by decide) (by omega) hR (by omega) (Nat.le_of_ble_eq_true rfl) (fun G1 M1 hh hl hk161 hR => ?_) (fun G1 M1 e hh hdd hR => hd_164 _ _ _ hh hdd hR)
          have hmo := hh.1.1
          refine cx_aload_n (i := 0) hE d_Mo_itemGrammar_164 rfl rfl ?_
          refine cx_msb hE d_Mo_itemGrammar_165 rfl l_Mo_247 hh hl (hR.trans (tx_R.and_id _)) (c_Mo_stm (hT.sm hl.1) hh.1 ⟨rm_sm.rf _, hl.2⟩) (by omega) (Nat.le_of_ble_eq_true rfl) n_Mo_statementGrammar (by rfl) (fun w_165 i_165 s_165 G1 M1 hr_165 hh hl hR => ?_) (fun G1 M1 e hh hdd hR => hd_168 _ _ _ hh hdd hR)
          have hmo := hh.1.1
          refine cx_goto (tgt := 287) hE d_Mo_itemGrammar_168 (by decide) ?_
          refine cx_vret hE d_Mo_itemGrammar_287 rfl ?_
          exact ⟨_, rfl, hh, Or.inl ⟨_, _, _, hR, hl⟩⟩
      · have q_73 := of_decide_eq_true (cx_bn.mp c_73)
        unfold tx_itm at hR
        rw [if_neg q_7, if_neg q_17, if_pos q_73] at hR
        unfold tx_asn at hR
        try simp only [tx_R.and_as, tx_op_and, tx_R.and_r] at hR
        have hkk := q_73
        rw [tx_tk_ok q_73, tx_R.and_r] at hR
        refine cx_aload_n (i := 0) hE d_Mo_itemGrammar_76 rfl rfl ?_
        refine cx_dup hE d_Mo_itemGrammar_77 ?_
        refine cx_get hE d_Mo_itemGrammar_78 f_Mo_193 (by assumption) (by rfl) ?_
        rw [hl.2.1]
        refine cx_iconst (v := 1) hE d_Mo_itemGrammar_81 (by decide) ?_
        refine cx_iadd hE d_Mo_itemGrammar_82 ?_
        show cx_V E _ _ [.int (nI (i) + 1), .ref mo] _
        rw [nI_1]
        refine cx_putg hE d_Mo_itemGrammar_83 f_Mo_193 (by assumption) (Nat.le_of_ble_eq_true rfl) (by first | rfl | exact cx_nr _ _) (by first | rfl | exact cx_fr _ _) (fun G_83 g_83 h_83 => ?_)
        rw [rm_s8] at g_83 h_83
        have hp_83 := hh.1.pi g_83
        have hh := hh.tr ⟨hp_83.1, hp_83.2, cx_pc g_83⟩
        have hl := hl.t1 hT (by rw [hkk]; decide) (by rw [hkk]; decide)
        have hmo := hh.1.1
        refine cx_aload_n (i := 0) hE d_Mo_itemGrammar_86 rfl rfl ?_
        refine cx_sipush (v := 400) hE d_Mo_itemGrammar_87 (by decide) ?_
        refine cx_mtk (a := 19) hE d_Mo_itemGrammar_90 rfl hT hh hl (by decide) (by decide) hR (by omega) (Nat.le_of_ble_eq_true rfl) (fun G1 M1 hh hl hk90 hR => ?_) (fun G1 M1 e hh hdd hR => hd_93 _ _ _ hh hdd hR)
        have hmo := hh.1.1
        refine cx_aload_n (i := 0) hE d_Mo_itemGrammar_93 rfl rfl ?_
        refine cx_bipush (v := 61) hE d_Mo_itemGrammar_94 (by decide) ?_
        refine cx_mtk (a := 61) hE d_Mo_itemGrammar_96 rfl hT hh hl (by decide) (by decide) hR (by omega) (Nat.le_of_ble_eq_true rfl) (fun G1 M1 hh hl hk96 hR => ?_) (fun G1 M1 e hh hdd hR => hd_99 _ _ _ hh hdd hR)
        have hmo := hh.1.1
        refine cx_aload_n (i := 0) hE d_Mo_itemGrammar_99 rfl rfl ?_
        refine cx_msb hE d_Mo_itemGrammar_100 rfl l_Mo_226 hh hl hR (c_Mo_ex (hT.sm hl.1) hh.1 ⟨rm_sm.rf _, hl.2⟩) (by omega) (Nat.le_of_ble_eq_true rfl) n_Mo_expGrammar (by rfl) (fun w_100 i_100 s_100 G1 M1 hr_100 hh hl hR => ?_) (fun G1 M1 e hh hdd hR => hd_103 _ _ _ hh hdd hR)
        have hmo := hh.1.1
        have hup_100 := tx_up.exp _ _ _ _ _ _ hr_100
        refine cx_aload_n (i := 0) hE d_Mo_itemGrammar_103 rfl rfl ?_
        refine cx_bipush (v := 59) hE d_Mo_itemGrammar_104 (by decide) ?_
        refine cx_mtk (a := 59) hE d_Mo_itemGrammar_106 rfl hT hh hl (by decide) (by decide) hR (by omega) (Nat.le_of_ble_eq_true rfl) (fun G1 M1 hh hl hk106 hR => ?_) (fun G1 M1 e hh hdd hR => hd_109 _ _ _ hh hdd hR)
        have hmo := hh.1.1
        refine cx_goto (tgt := 287) hE d_Mo_itemGrammar_109 (by decide) ?_
        refine cx_vret hE d_Mo_itemGrammar_287 rfl ?_
        exact ⟨_, rfl, hh, Or.inl ⟨_, _, _, hR, hl⟩⟩
    · have q_17 := of_decide_eq_true (cx_bn.mp c_17)
      unfold tx_itm at hR
      rw [if_neg q_7, if_pos q_17] at hR
      unfold tx_rgs at hR
      try simp only [tx_R.and_as, tx_op_and, tx_R.and_r] at hR
      have hkk := q_17
      rw [tx_tk_ok q_17, tx_R.and_r] at hR
      have q24 : decide (tx_ki T i = 6) = true := decide_eq_true q_17
      refine cx_aload_n (i := 0) hE d_Mo_itemGrammar_20 rfl rfl ?_
      refine cx_sipush (v := 305) hE d_Mo_itemGrammar_21 (by decide) ?_
      refine cx_mis (a := 6) hE d_Mo_itemGrammar_24 rfl hT hh hl (by decide) (by omega) (Nat.le_of_ble_eq_true rfl) ?_
      rw [q24]
      refine cx_istore_n (i := 1) hE d_Mo_itemGrammar_27 rfl (by decide) ?_
      refine cx_aload_n (i := 0) hE d_Mo_itemGrammar_28 rfl rfl ?_
      refine cx_dup hE d_Mo_itemGrammar_29 ?_
      refine cx_get hE d_Mo_itemGrammar_30 f_Mo_193 (by assumption) (by rfl) ?_
      rw [hl.2.1]
      refine cx_iconst (v := 1) hE d_Mo_itemGrammar_33 (by decide) ?_
      refine cx_iadd hE d_Mo_itemGrammar_34 ?_
      show cx_V E _ _ [.int (nI (i) + 1), .ref mo] _
      rw [nI_1]
      refine cx_putg hE d_Mo_itemGrammar_35 f_Mo_193 (by assumption) (Nat.le_of_ble_eq_true rfl) (by first | rfl | exact cx_nr _ _) (by first | rfl | exact cx_fr _ _) (fun G_35 g_35 h_35 => ?_)
      rw [rm_s8] at g_35 h_35
      have hp_35 := hh.1.pi g_35
      have hh := hh.tr ⟨hp_35.1, hp_35.2, cx_pc g_35⟩
      have hl := hl.t1 hT (by rw [hkk]; decide) (by rw [hkk]; decide)
      have hmo := hh.1.1
      refine cx_aload_n (i := 0) hE d_Mo_itemGrammar_38 rfl rfl ?_
      refine cx_msb hE d_Mo_itemGrammar_39 rfl l_Mo_241 hh hl hR (c_Mo_rangeGrammar (hT.sm hl.1) hh.1 ⟨rm_sm.rf _, hl.2⟩ rfl) (by omega) (Nat.le_of_ble_eq_true rfl) n_Mo_rangeGrammar (by rfl) (fun w_39 i_39 s_39 G1 M1 hr_39 hh hl hR => ?_) (fun G1 M1 e hh hdd hR => hd_42 _ _ _ hh hdd hR _)
      have hmo := hh.1.1
      have hup_39 := tx_up.rng _ _ _ hr_39
      refine cx_aload_n (i := 0) hE d_Mo_itemGrammar_42 rfl rfl ?_
      refine cx_sipush (v := 400) hE d_Mo_itemGrammar_43 (by decide) ?_
      refine cx_mtk (a := 19) hE d_Mo_itemGrammar_46 rfl hT hh hl (by decide) (by decide) hR (by omega) (Nat.le_of_ble_eq_true rfl) (fun G1 M1 hh hl hk46 hR => ?_) (fun G1 M1 e hh hdd hR => hd_49 _ _ _ hh hdd hR _)
      have hmo := hh.1.1
      refine cx_iload_n (i := 1) hE d_Mo_itemGrammar_49 rfl rfl ?_
      refine cx_if_eq (tgt := 57)  hE d_Mo_itemGrammar_50 (by decide) (fun c_50 => ?_) (fun c_50 => ?_)
      · exact absurd c_50 (by decide)
        -- end
      · refine cx_aload_n (i := 0) hE d_Mo_itemGrammar_53 rfl rfl ?_
        rw [tx_rgs_bg] at hR
        try simp only [tx_R.and_as, tx_op_and, tx_R.and_r] at hR
        refine cx_msb hE d_Mo_itemGrammar_54 rfl l_Mo_244 hh hl hR (c_Mo_beginGrammar (hT.sm hl.1) hh.1 ⟨rm_sm.rf _, hl.2⟩ rfl) (by omega) (Nat.le_of_ble_eq_true rfl) n_Mo_beginGrammar (by rfl) (fun w_54 i_54 s_54 G1 M1 hr_54 hh hl hR => ?_) (fun G1 M1 e hh hdd hR => hd_57 _ _ _ hh hdd hR _)
        have hmo := hh.1.1
        refine cx_aload_n (i := 0) hE d_Mo_itemGrammar_57 rfl rfl ?_
        refine cx_bipush (v := 59) hE d_Mo_itemGrammar_58 (by decide) ?_
        refine cx_mtk (a := 59) hE d_Mo_itemGrammar_60 rfl hT hh hl (by decide) (by decide) hR (by omega) (Nat.le_of_ble_eq_true rfl) (fun G1 M1 hh hl hk60 hR => ?_) (fun G1 M1 e hh hdd hR => hd_63 _ _ _ hh hdd hR _)
        have hmo := hh.1.1
        refine cx_goto (tgt := 287) hE d_Mo_itemGrammar_63 (by decide) ?_
        refine cx_vret hE d_Mo_itemGrammar_287 rfl ?_
        exact ⟨_, rfl, hh, Or.inl ⟨_, _, _, hR, hl⟩⟩

/-! GRAMMAR: a token is taken. -/
theorem xa_Gr_45 : cx_XA "CircuitText$Grammar" 45 49 14 "java/lang/IllegalStateException" := ⟨⟨_, rfl, z_Gr_45⟩, ⟨_, rfl⟩, by decide, (in_4 (List.mem_of_getElem? (i := 86) rfl)), xw_cISE, xw_xISE⟩
/-- a fault of writing was thrown -/
def tx_gt (F : Nat → Prop) (L : tx_Ls) (gr : Nat) (b : Nat × Nat) (G0 : cx_G) (ve : Nat) (e : Int32 × Int32) (x : Nat) (G' : cx_G) : Prop := (∃ fs, G'.1 x = some (.inr (14, fs))) ∧ G'.1 ve = some (.inr (9, [.int e.1, .int e.2])) ∧ tx_gs F gr G0 G' ∧ G'.2.1 ≤ b.1 + 5 * L.length + 10 ∧ G'.2.2 ≤ b.2 + 80 * L.length + 200
def tx_gu (F : Nat → Prop) (gr : Nat) (G : cx_G) (ve : Nat) (e : Int32 × Int32) (x : Nat) (G' : cx_G) : Prop := (∃ fs, G'.1 x = some (.inr (14, fs))) ∧ G'.1 ve = some (.inr (9, [.int e.1, .int e.2])) ∧ tx_gs F gr G G' ∧ G'.2.1 ≤ G.2.1 + 1 ∧ G'.2.2 ≤ G.2.2 + 6
def tx_kop (kd : Int32) : Bool := decide (kd = 40 ∨ kd = 91 ∨ kd = 123 ∨ kd = 63 ∨ kd = 11 ∨ kd = 13 ∨ kd = 15)
def tx_kcl (kd : Int32) : Bool := decide (kd = 41 ∨ kd = 93 ∨ kd = 125 ∨ kd = 12 ∨ kd = 16)
def tx_ov (kd v : Int32) : Int32 := if tx_kop kd = true then v + 1 else if tx_kcl kd = true then v - 1 else v
/-- a token of kind kd was taken, or not -/
def tx_tkp (F : Nat → Prop) (L : tx_Ls) (gr : Nat) (G : cx_G) (A : tx_A) (i f : Nat) (kd : Int32) : cx_R → cx_G → Prop := fun r G' => (tx_ki (tx_tks L) i = kd ∧ tx_ov kd (nI (60 - f)) ≤ 60 ∧ i + 1 < L.length ∧ r = .inl (some (.ref (tx_ad L i))) ∧ cx_put G gr (.inr (1, [.ref A.me, .ref A.ve, .ref (tx_ad L (i + 1)), .int (tx_ov kd (nI (60 - f)))])) = G') ∨
  (¬ (tx_ki (tx_tks L) i = kd ∧ tx_ov kd (nI (60 - f)) ≤ 60) ∧ ∃ x, r = .inr x ∧ tx_gu F gr G A.ve (if tx_ki (tx_tks L) i = kd then (3, nI (tx_ta (tx_tks L) i).2.1) else tx_no (tx_ta (tx_tks L) i)) x G')
set_option maxRecDepth 100000 in
theorem c_Gr_take {k : cx_K} {l : Launch} {G : cx_G} {F : Nat → Prop} {L : tx_Ls} {gr : Nat} {b : Nat × Nat} {A : tx_A} {i f : Nat} {s : tx_S} {kd : Int32} (hfl : l.flags = flags0) (hnx : tx_ki (tx_tks L) i ≠ 22 → tx_ki (tx_tks L) i ≠ 23 → i + 1 < L.length) (r1 : G.2.1 + 1 ≤ 601024) (r2 : G.2.2 + 6 ≤ 7293034) (hk22 : kd ≠ 22) (hk23 : kd ≠ 23) (hg : tx_g k F L gr b G A i f s) : cx_Sp k l m_Gr_take 6 [.ref gr, .int kd] G (tx_tkp F L gr G A i f kd) := by
  intro E hE
  have hi := hg.lt
  have ht := hg.tok hi
  have hgr := hg.cel
  have htail : ∀ (G1 : cx_G) (ov : Int32), ov = tx_ov kd (nI (60 - f)) → G1.1 gr = some (.inr (1, [.ref A.me, .ref A.ve, .ref (tx_ad L i), .int ov])) → (∀ c e, c ≠ gr → G.1 c = some e → G1.1 c = some e) → (∀ e, cx_put G1 gr e = cx_put G gr e) → G1.2 = G.2 → cx_V E 138 [(2, false, .ref (tx_ad L i)), (0, false, .ref gr), (1, false, .int kd)] [] G1 := by
    intro G1 ov hov h1 hG1 hpp hc1
    have ht1 := hG1 _ _ (cx_neO hgr ht (by decide)) ht
    have hv1 := hG1 _ _ (cx_neO hgr hg.1.1 (by decide)) hg.1.1
    refine cx_aload_n (i := 2) hE d_Gr_take_138 rfl rfl ?_
    refine cx_get hE d_Gr_take_139 f_Gr_31 (by assumption) (by rfl) ?_
    refine cx_iload_n (i := 1) hE d_Gr_take_142 rfl rfl ?_
    refine cx_icmp_ne (tgt := 155)  hE d_Gr_take_143 (by decide) (fun c_143 => ?_) (fun c_143 => ?_)
    · refine cx_aload_n (i := 0) hE d_Gr_take_155 rfl rfl ?_
      refine cx_get hE d_Gr_take_156 f_Gr_23 (by assumption) (by rfl) ?_
      refine cx_aload_n (i := 2) hE d_Gr_take_159 rfl rfl ?_
      refine cx_get hE d_Gr_take_160 f_Gr_31 (by assumption) (by rfl) ?_
      refine cx_bipush (v := 23) hE d_Gr_take_163 (by decide) ?_
      refine cx_icmp_ne (tgt := 172)  hE d_Gr_take_165 (by decide) (fun c_165 => ?_) (fun c_165 => ?_)
      · refine cx_aload_n (i := 2) hE d_Gr_take_172 rfl rfl ?_
        refine cx_get hE d_Gr_take_173 f_Gr_31 (by assumption) (by rfl) ?_
        refine cx_iload_n (i := 1) hE d_Gr_take_176 rfl rfl ?_
        refine cx_icmp_eq (tgt := 184)  hE d_Gr_take_177 (by decide) (fun c_177 => ?_) (fun c_177 => ?_)
        · exact absurd c_177 c_143
          -- end
        · refine cx_iconst (v := 2) hE d_Gr_take_180 (by decide) ?_
          refine cx_goto (tgt := 185) hE d_Gr_take_181 (by decide) ?_
          refine cx_putg hE d_Gr_take_185 f_Gr_36 (by assumption) (Nat.le_of_ble_eq_true rfl) (by first | rfl | exact cx_nr _ _) (by first | rfl | exact cx_fr _ _) (fun G_185 g_185 h_185 => ?_)
          have ht185 := cx_pn g_185 ht1 (cx_neO hv1 ht1 (by decide))
          have hgr185 := cx_pn g_185 h1 (cx_neO hv1 h1 (by decide))
          refine cx_aload_n (i := 0) hE d_Gr_take_188 rfl rfl ?_
          refine cx_get hE d_Gr_take_189 f_Gr_23 (by assumption) (by rfl) ?_
          refine cx_aload_n (i := 2) hE d_Gr_take_192 rfl rfl ?_
          refine cx_get hE d_Gr_take_193 f_Gr_41 (by assumption) (by rfl) ?_
          refine cx_putg hE d_Gr_take_196 f_Gr_44 (by assumption) (Nat.le_of_ble_eq_true rfl) (by first | rfl | exact cx_nr _ _) (by first | rfl | exact cx_fr _ _) (fun G_196 g_196 h_196 => ?_)
          have hc3 : G_196.2 = G.2 := (cx_pc g_196).trans ((cx_pc g_185).trans hc1)
          refine cx_newX (i := 4) hE hfl xa_Gr_45 d_Gr_take_199 d_Gr_take_202 d_Gr_take_203 d_Gr_take_205 rfl rfl rfl (by omega) (Nat.le_of_ble_eq_true rfl) (by rw [hc3]; omega) (by rw [hc3]; omega) (fun x fs hx hkx => ?_)
          refine cx_athrow hE d_Gr_take_208 (cx_T.out hE rfl ?_)
          refine Or.inr ⟨fun z => c_143 z.1, x, rfl, ⟨fs, cx_ms rfl⟩, ?_, fun c e hX hn he => ?_, ?_, ?_⟩
          · refine (cx_mn rfl hx h_196).trans ?_
            rw [if_neg c_143]
            unfold tx_no
            rw [if_neg (show ¬ (tx_ta (tx_tks L) i).1 = 23 from c_165)]
            rfl
          · have hne : c ≠ A.ve := fun z => by
              rcases hX with hX | hX
              · exact hg.1.2.2.2.2.2.2.2.2.2.2.1 (z ▸ hX)
              · rw [z, hg.1.1] at he
                cases he
                exact hX (by show 9 = 3 ∨ _; decide)
            exact cx_mn rfl hx (cx_pn g_196 (cx_pn g_185 (hG1 c e hn he) hne) hne)
          · show G_196.2.1 + 1 ≤ _
            rw [hc3]
            omega
          · show G_196.2.2 + 6 ≤ _
            rw [hc3]
            omega
          -- end
      · refine cx_iconst (v := 1) hE d_Gr_take_168 (by decide) ?_
        refine cx_goto (tgt := 185) hE d_Gr_take_169 (by decide) ?_
        refine cx_putg hE d_Gr_take_185 f_Gr_36 (by assumption) (Nat.le_of_ble_eq_true rfl) (by first | rfl | exact cx_nr _ _) (by first | rfl | exact cx_fr _ _) (fun G_185 g_185 h_185 => ?_)
        have ht185 := cx_pn g_185 ht1 (cx_neO hv1 ht1 (by decide))
        have hgr185 := cx_pn g_185 h1 (cx_neO hv1 h1 (by decide))
        refine cx_aload_n (i := 0) hE d_Gr_take_188 rfl rfl ?_
        refine cx_get hE d_Gr_take_189 f_Gr_23 (by assumption) (by rfl) ?_
        refine cx_aload_n (i := 2) hE d_Gr_take_192 rfl rfl ?_
        refine cx_get hE d_Gr_take_193 f_Gr_41 (by assumption) (by rfl) ?_
        refine cx_putg hE d_Gr_take_196 f_Gr_44 (by assumption) (Nat.le_of_ble_eq_true rfl) (by first | rfl | exact cx_nr _ _) (by first | rfl | exact cx_fr _ _) (fun G_196 g_196 h_196 => ?_)
        have hc3 : G_196.2 = G.2 := (cx_pc g_196).trans ((cx_pc g_185).trans hc1)
        refine cx_newX (i := 4) hE hfl xa_Gr_45 d_Gr_take_199 d_Gr_take_202 d_Gr_take_203 d_Gr_take_205 rfl rfl rfl (by omega) (Nat.le_of_ble_eq_true rfl) (by rw [hc3]; omega) (by rw [hc3]; omega) (fun x fs hx hkx => ?_)
        refine cx_athrow hE d_Gr_take_208 (cx_T.out hE rfl ?_)
        refine Or.inr ⟨fun z => c_143 z.1, x, rfl, ⟨fs, cx_ms rfl⟩, ?_, fun c e hX hn he => ?_, ?_, ?_⟩
        · refine (cx_mn rfl hx h_196).trans ?_
          rw [if_neg c_143]
          unfold tx_no
          rw [if_pos (show (tx_ta (tx_tks L) i).1 = 23 from c_165)]
          rfl
        · have hne : c ≠ A.ve := fun z => by
            rcases hX with hX | hX
            · exact hg.1.2.2.2.2.2.2.2.2.2.2.1 (z ▸ hX)
            · rw [z, hg.1.1] at he
              cases he
              exact hX (by show 9 = 3 ∨ _; decide)
          exact cx_mn rfl hx (cx_pn g_196 (cx_pn g_185 (hG1 c e hn he) hne) hne)
        · show G_196.2.1 + 1 ≤ _
          rw [hc3]
          omega
        · show G_196.2.2 + 6 ≤ _
          rw [hc3]
          omega
        -- end
    · refine cx_aload_n (i := 0) hE d_Gr_take_146 rfl rfl ?_
      refine cx_get hE d_Gr_take_147 f_Gr_9 (by assumption) (by rfl) ?_
      refine cx_bipush (v := 60) hE d_Gr_take_150 (by decide) ?_
      refine cx_icmp_le (tgt := 209)  hE d_Gr_take_152 (by decide) (fun c_152 => ?_) (fun c_152 => ?_)
      · have hil1 := hnx (fun z => hk22 (c_143.symm.trans z)) (fun z => hk23 (c_143.symm.trans z))
        obtain ⟨y, hy⟩ : ∃ y, L[i + 1]? = some y := ⟨_, List.getElem?_eq_getElem hil1⟩
        have hyy : (L[i + 1]?).map (fun y => y.1) = some (tx_ad L (i + 1)) := by rw [hy, tx_ad_of hy]; rfl
        rw [hyy] at ht1
        refine cx_aload_n (i := 2) hE d_Gr_take_209 rfl rfl ?_
        refine cx_get hE d_Gr_take_210 f_Gr_52 (by assumption) (by rfl) ?_
        refine cx_ifnull (tgt := 224) (r := some (tx_ad L (i + 1))) hE d_Gr_take_213 (by decide) (fun c_213 => ?_) (fun a_213 c_213 => ?_)
        · cases c_213
          -- end
        · cases c_213
          refine cx_aload_n (i := 0) hE d_Gr_take_216 rfl rfl ?_
          refine cx_aload_n (i := 2) hE d_Gr_take_217 rfl rfl ?_
          refine cx_get hE d_Gr_take_218 f_Gr_52 (by assumption) (by rfl) ?_
          refine cx_putg hE d_Gr_take_221 f_Gr_15 (by assumption) (Nat.le_of_ble_eq_true rfl) (by first | rfl | exact cx_nr _ _) (by first | rfl | exact cx_fr _ _) (fun G_221 g_221 h_221 => ?_)
          refine cx_aload_n (i := 2) hE d_Gr_take_224 rfl rfl ?_
          refine cx_aret (r := some (tx_ad L i)) hE d_Gr_take_225 rfl (by first | exact Or.inl ⟨_, rfl⟩ | exact Or.inr ⟨_, rfl⟩) ?_
          refine Or.inl ⟨c_143, hov ▸ c_152, hil1, rfl, ?_⟩
          rw [← hov, ← hpp]
          exact g_221
      · refine cx_aload_n (i := 0) hE d_Gr_take_155 rfl rfl ?_
        refine cx_get hE d_Gr_take_156 f_Gr_23 (by assumption) (by rfl) ?_
        refine cx_aload_n (i := 2) hE d_Gr_take_159 rfl rfl ?_
        refine cx_get hE d_Gr_take_160 f_Gr_31 (by assumption) (by rfl) ?_
        refine cx_bipush (v := 23) hE d_Gr_take_163 (by decide) ?_
        refine cx_icmp_ne (tgt := 172)  hE d_Gr_take_165 (by decide) (fun c_165 => ?_) (fun c_165 => ?_)
        · refine cx_aload_n (i := 2) hE d_Gr_take_172 rfl rfl ?_
          refine cx_get hE d_Gr_take_173 f_Gr_31 (by assumption) (by rfl) ?_
          refine cx_iload_n (i := 1) hE d_Gr_take_176 rfl rfl ?_
          refine cx_icmp_eq (tgt := 184)  hE d_Gr_take_177 (by decide) (fun c_177 => ?_) (fun c_177 => ?_)
          · refine cx_iconst (v := 3) hE d_Gr_take_184 (by decide) ?_
            refine cx_putg hE d_Gr_take_185 f_Gr_36 (by assumption) (Nat.le_of_ble_eq_true rfl) (by first | rfl | exact cx_nr _ _) (by first | rfl | exact cx_fr _ _) (fun G_185 g_185 h_185 => ?_)
            have ht185 := cx_pn g_185 ht1 (cx_neO hv1 ht1 (by decide))
            have hgr185 := cx_pn g_185 h1 (cx_neO hv1 h1 (by decide))
            refine cx_aload_n (i := 0) hE d_Gr_take_188 rfl rfl ?_
            refine cx_get hE d_Gr_take_189 f_Gr_23 (by assumption) (by rfl) ?_
            refine cx_aload_n (i := 2) hE d_Gr_take_192 rfl rfl ?_
            refine cx_get hE d_Gr_take_193 f_Gr_41 (by assumption) (by rfl) ?_
            refine cx_putg hE d_Gr_take_196 f_Gr_44 (by assumption) (Nat.le_of_ble_eq_true rfl) (by first | rfl | exact cx_nr _ _) (by first | rfl | exact cx_fr _ _) (fun G_196 g_196 h_196 => ?_)
            have hc3 : G_196.2 = G.2 := (cx_pc g_196).trans ((cx_pc g_185).trans hc1)
            refine cx_newX (i := 4) hE hfl xa_Gr_45 d_Gr_take_199 d_Gr_take_202 d_Gr_take_203 d_Gr_take_205 rfl rfl rfl (by omega) (Nat.le_of_ble_eq_true rfl) (by rw [hc3]; omega) (by rw [hc3]; omega) (fun x fs hx hkx => ?_)
            refine cx_athrow hE d_Gr_take_208 (cx_T.out hE rfl ?_)
            refine Or.inr ⟨fun z => c_152 (by rw [hov]; exact z.2), x, rfl, ⟨fs, cx_ms rfl⟩, ?_, fun c e hX hn he => ?_, ?_, ?_⟩
            · refine (cx_mn rfl hx h_196).trans ?_
              rw [if_pos c_143]
              rfl
            · have hne : c ≠ A.ve := fun z => by
                rcases hX with hX | hX
                · exact hg.1.2.2.2.2.2.2.2.2.2.2.1 (z ▸ hX)
                · rw [z, hg.1.1] at he
                  cases he
                  exact hX (by show 9 = 3 ∨ _; decide)
              exact cx_mn rfl hx (cx_pn g_196 (cx_pn g_185 (hG1 c e hn he) hne) hne)
            · show G_196.2.1 + 1 ≤ _
              rw [hc3]
              omega
            · show G_196.2.2 + 6 ≤ _
              rw [hc3]
              omega
            -- end
          · exact absurd c_143 c_177
            -- end
        · exact absurd (c_143.symm.trans c_165) hk23
          -- end
  refine cx_aload_n (i := 0) hE d_Gr_take_0 rfl rfl ?_
  refine cx_get hE d_Gr_take_1 f_Gr_15 (by assumption) (by rfl) ?_
  refine cx_astore_n (i := 2) hE d_Gr_take_4 rfl (by decide) ?_
  refine cx_iload_n (i := 1) hE d_Gr_take_5 rfl rfl ?_
  by_cases e_6_11 : kd = 11
  · refine cx_lookup (tgt := 112) hE d_Gr_take_6 (by decide) (by first | (rw [e_6_11]; done) | (rw [e_6_11]; rfl)) (by decide) ?_
    refine cx_aload_n (i := 0) hE d_Gr_take_112 rfl rfl ?_
    refine cx_dup hE d_Gr_take_113 ?_
    refine cx_get hE d_Gr_take_114 f_Gr_9 (by assumption) (by rfl) ?_
    refine cx_iconst (v := 1) hE d_Gr_take_117 (by decide) ?_
    refine cx_iadd hE d_Gr_take_118 ?_
    refine cx_putg hE d_Gr_take_119 f_Gr_9 (by assumption) (Nat.le_of_ble_eq_true rfl) (by first | rfl | exact cx_nr _ _) (by first | rfl | exact cx_fr _ _) (fun G_119 g_119 h_119 => ?_)
    refine cx_goto (tgt := 138) hE d_Gr_take_122 (by decide) ?_
    refine cx_sub [0, 1, 2] rfl ?_
    first
      | exact htail G_119 _ (by subst_vars; simp [tx_ov, tx_kop, tx_kcl]) h_119 (fun c e hn he => cx_pn g_119 he hn) (fun e => by rw [← g_119]; exact cx_pp ..) (cx_pc g_119)
      | exact htail G_132 _ (by subst_vars; simp [tx_ov, tx_kop, tx_kcl]) h_132 (fun c e hn he => cx_pn g_132 he hn) (fun e => by rw [← g_132]; exact cx_pp ..) (cx_pc g_132)
      | exact htail G _ (by simp [tx_ov, tx_kop, tx_kcl, *]) hgr (fun c e _ he => he) (fun e => rfl) rfl
  by_cases e_6_12 : kd = 12
  · refine cx_lookup (tgt := 125) hE d_Gr_take_6 (by decide) (by first | (rw [e_6_12]; done) | (rw [e_6_12]; rfl)) (by decide) ?_
    refine cx_aload_n (i := 0) hE d_Gr_take_125 rfl rfl ?_
    refine cx_dup hE d_Gr_take_126 ?_
    refine cx_get hE d_Gr_take_127 f_Gr_9 (by assumption) (by rfl) ?_
    refine cx_iconst (v := 1) hE d_Gr_take_130 (by decide) ?_
    refine cx_isub hE d_Gr_take_131 ?_
    refine cx_putg hE d_Gr_take_132 f_Gr_9 (by assumption) (Nat.le_of_ble_eq_true rfl) (by first | rfl | exact cx_nr _ _) (by first | rfl | exact cx_fr _ _) (fun G_132 g_132 h_132 => ?_)
    refine cx_goto (tgt := 138) hE d_Gr_take_135 (by decide) ?_
    refine cx_sub [0, 1, 2] rfl ?_
    first
      | exact htail G_119 _ (by subst_vars; simp [tx_ov, tx_kop, tx_kcl]) h_119 (fun c e hn he => cx_pn g_119 he hn) (fun e => by rw [← g_119]; exact cx_pp ..) (cx_pc g_119)
      | exact htail G_132 _ (by subst_vars; simp [tx_ov, tx_kop, tx_kcl]) h_132 (fun c e hn he => cx_pn g_132 he hn) (fun e => by rw [← g_132]; exact cx_pp ..) (cx_pc g_132)
      | exact htail G _ (by simp [tx_ov, tx_kop, tx_kcl, *]) hgr (fun c e _ he => he) (fun e => rfl) rfl
  by_cases e_6_13 : kd = 13
  · refine cx_lookup (tgt := 112) hE d_Gr_take_6 (by decide) (by first | (rw [e_6_13]; done) | (rw [e_6_13]; rfl)) (by decide) ?_
    refine cx_aload_n (i := 0) hE d_Gr_take_112 rfl rfl ?_
    refine cx_dup hE d_Gr_take_113 ?_
    refine cx_get hE d_Gr_take_114 f_Gr_9 (by assumption) (by rfl) ?_
    refine cx_iconst (v := 1) hE d_Gr_take_117 (by decide) ?_
    refine cx_iadd hE d_Gr_take_118 ?_
    refine cx_putg hE d_Gr_take_119 f_Gr_9 (by assumption) (Nat.le_of_ble_eq_true rfl) (by first | rfl | exact cx_nr _ _) (by first | rfl | exact cx_fr _ _) (fun G_119 g_119 h_119 => ?_)
    refine cx_goto (tgt := 138) hE d_Gr_take_122 (by decide) ?_
    refine cx_sub [0, 1, 2] rfl ?_
    first
      | exact htail G_119 _ (by subst_vars; simp [tx_ov, tx_kop, tx_kcl]) h_119 (fun c e hn he => cx_pn g_119 he hn) (fun e => by rw [← g_119]; exact cx_pp ..) (cx_pc g_119)
      | exact htail G_132 _ (by subst_vars; simp [tx_ov, tx_kop, tx_kcl]) h_132 (fun c e hn he => cx_pn g_132 he hn) (fun e => by rw [← g_132]; exact cx_pp ..) (cx_pc g_132)
      | exact htail G _ (by simp [tx_ov, tx_kop, tx_kcl, *]) hgr (fun c e _ he => he) (fun e => rfl) rfl
  by_cases e_6_15 : kd = 15
  · refine cx_lookup (tgt := 112) hE d_Gr_take_6 (by decide) (by first | (rw [e_6_15]; done) | (rw [e_6_15]; rfl)) (by decide) ?_
    refine cx_aload_n (i := 0) hE d_Gr_take_112 rfl rfl ?_
    refine cx_dup hE d_Gr_take_113 ?_
    refine cx_get hE d_Gr_take_114 f_Gr_9 (by assumption) (by rfl) ?_
    refine cx_iconst (v := 1) hE d_Gr_take_117 (by decide) ?_
    refine cx_iadd hE d_Gr_take_118 ?_
    refine cx_putg hE d_Gr_take_119 f_Gr_9 (by assumption) (Nat.le_of_ble_eq_true rfl) (by first | rfl | exact cx_nr _ _) (by first | rfl | exact cx_fr _ _) (fun G_119 g_119 h_119 => ?_)
    refine cx_goto (tgt := 138) hE d_Gr_take_122 (by decide) ?_
    refine cx_sub [0, 1, 2] rfl ?_
    first
      | exact htail G_119 _ (by subst_vars; simp [tx_ov, tx_kop, tx_kcl]) h_119 (fun c e hn he => cx_pn g_119 he hn) (fun e => by rw [← g_119]; exact cx_pp ..) (cx_pc g_119)
      | exact htail G_132 _ (by subst_vars; simp [tx_ov, tx_kop, tx_kcl]) h_132 (fun c e hn he => cx_pn g_132 he hn) (fun e => by rw [← g_132]; exact cx_pp ..) (cx_pc g_132)
      | exact htail G _ (by simp [tx_ov, tx_kop, tx_kcl, *]) hgr (fun c e _ he => he) (fun e => rfl) rfl
  by_cases e_6_16 : kd = 16
  · refine cx_lookup (tgt := 125) hE d_Gr_take_6 (by decide) (by first | (rw [e_6_16]; done) | (rw [e_6_16]; rfl)) (by decide) ?_
    refine cx_aload_n (i := 0) hE d_Gr_take_125 rfl rfl ?_
    refine cx_dup hE d_Gr_take_126 ?_
    refine cx_get hE d_Gr_take_127 f_Gr_9 (by assumption) (by rfl) ?_
    refine cx_iconst (v := 1) hE d_Gr_take_130 (by decide) ?_
    refine cx_isub hE d_Gr_take_131 ?_
    refine cx_putg hE d_Gr_take_132 f_Gr_9 (by assumption) (Nat.le_of_ble_eq_true rfl) (by first | rfl | exact cx_nr _ _) (by first | rfl | exact cx_fr _ _) (fun G_132 g_132 h_132 => ?_)
    refine cx_goto (tgt := 138) hE d_Gr_take_135 (by decide) ?_
    refine cx_sub [0, 1, 2] rfl ?_
    first
      | exact htail G_119 _ (by subst_vars; simp [tx_ov, tx_kop, tx_kcl]) h_119 (fun c e hn he => cx_pn g_119 he hn) (fun e => by rw [← g_119]; exact cx_pp ..) (cx_pc g_119)
      | exact htail G_132 _ (by subst_vars; simp [tx_ov, tx_kop, tx_kcl]) h_132 (fun c e hn he => cx_pn g_132 he hn) (fun e => by rw [← g_132]; exact cx_pp ..) (cx_pc g_132)
      | exact htail G _ (by simp [tx_ov, tx_kop, tx_kcl, *]) hgr (fun c e _ he => he) (fun e => rfl) rfl
  by_cases e_6_40 : kd = 40
  · refine cx_lookup (tgt := 112) hE d_Gr_take_6 (by decide) (by first | (rw [e_6_40]; done) | (rw [e_6_40]; rfl)) (by decide) ?_
    refine cx_aload_n (i := 0) hE d_Gr_take_112 rfl rfl ?_
    refine cx_dup hE d_Gr_take_113 ?_
    refine cx_get hE d_Gr_take_114 f_Gr_9 (by assumption) (by rfl) ?_
    refine cx_iconst (v := 1) hE d_Gr_take_117 (by decide) ?_
    refine cx_iadd hE d_Gr_take_118 ?_
    refine cx_putg hE d_Gr_take_119 f_Gr_9 (by assumption) (Nat.le_of_ble_eq_true rfl) (by first | rfl | exact cx_nr _ _) (by first | rfl | exact cx_fr _ _) (fun G_119 g_119 h_119 => ?_)
    refine cx_goto (tgt := 138) hE d_Gr_take_122 (by decide) ?_
    refine cx_sub [0, 1, 2] rfl ?_
    first
      | exact htail G_119 _ (by subst_vars; simp [tx_ov, tx_kop, tx_kcl]) h_119 (fun c e hn he => cx_pn g_119 he hn) (fun e => by rw [← g_119]; exact cx_pp ..) (cx_pc g_119)
      | exact htail G_132 _ (by subst_vars; simp [tx_ov, tx_kop, tx_kcl]) h_132 (fun c e hn he => cx_pn g_132 he hn) (fun e => by rw [← g_132]; exact cx_pp ..) (cx_pc g_132)
      | exact htail G _ (by simp [tx_ov, tx_kop, tx_kcl, *]) hgr (fun c e _ he => he) (fun e => rfl) rfl
  by_cases e_6_41 : kd = 41
  · refine cx_lookup (tgt := 125) hE d_Gr_take_6 (by decide) (by first | (rw [e_6_41]; done) | (rw [e_6_41]; rfl)) (by decide) ?_
    refine cx_aload_n (i := 0) hE d_Gr_take_125 rfl rfl ?_
    refine cx_dup hE d_Gr_take_126 ?_
    refine cx_get hE d_Gr_take_127 f_Gr_9 (by assumption) (by rfl) ?_
    refine cx_iconst (v := 1) hE d_Gr_take_130 (by decide) ?_
    refine cx_isub hE d_Gr_take_131 ?_
    refine cx_putg hE d_Gr_take_132 f_Gr_9 (by assumption) (Nat.le_of_ble_eq_true rfl) (by first | rfl | exact cx_nr _ _) (by first | rfl | exact cx_fr _ _) (fun G_132 g_132 h_132 => ?_)
    refine cx_goto (tgt := 138) hE d_Gr_take_135 (by decide) ?_
    refine cx_sub [0, 1, 2] rfl ?_
    first
      | exact htail G_119 _ (by subst_vars; simp [tx_ov, tx_kop, tx_kcl]) h_119 (fun c e hn he => cx_pn g_119 he hn) (fun e => by rw [← g_119]; exact cx_pp ..) (cx_pc g_119)
      | exact htail G_132 _ (by subst_vars; simp [tx_ov, tx_kop, tx_kcl]) h_132 (fun c e hn he => cx_pn g_132 he hn) (fun e => by rw [← g_132]; exact cx_pp ..) (cx_pc g_132)
      | exact htail G _ (by simp [tx_ov, tx_kop, tx_kcl, *]) hgr (fun c e _ he => he) (fun e => rfl) rfl
  by_cases e_6_63 : kd = 63
  · refine cx_lookup (tgt := 112) hE d_Gr_take_6 (by decide) (by first | (rw [e_6_63]; done) | (rw [e_6_63]; rfl)) (by decide) ?_
    refine cx_aload_n (i := 0) hE d_Gr_take_112 rfl rfl ?_
    refine cx_dup hE d_Gr_take_113 ?_
    refine cx_get hE d_Gr_take_114 f_Gr_9 (by assumption) (by rfl) ?_
    refine cx_iconst (v := 1) hE d_Gr_take_117 (by decide) ?_
    refine cx_iadd hE d_Gr_take_118 ?_
    refine cx_putg hE d_Gr_take_119 f_Gr_9 (by assumption) (Nat.le_of_ble_eq_true rfl) (by first | rfl | exact cx_nr _ _) (by first | rfl | exact cx_fr _ _) (fun G_119 g_119 h_119 => ?_)
    refine cx_goto (tgt := 138) hE d_Gr_take_122 (by decide) ?_
    refine cx_sub [0, 1, 2] rfl ?_
    first
      | exact htail G_119 _ (by subst_vars; simp [tx_ov, tx_kop, tx_kcl]) h_119 (fun c e hn he => cx_pn g_119 he hn) (fun e => by rw [← g_119]; exact cx_pp ..) (cx_pc g_119)
      | exact htail G_132 _ (by subst_vars; simp [tx_ov, tx_kop, tx_kcl]) h_132 (fun c e hn he => cx_pn g_132 he hn) (fun e => by rw [← g_132]; exact cx_pp ..) (cx_pc g_132)
      | exact htail G _ (by simp [tx_ov, tx_kop, tx_kcl, *]) hgr (fun c e _ he => he) (fun e => rfl) rfl
  by_cases e_6_91 : kd = 91
  · refine cx_lookup (tgt := 112) hE d_Gr_take_6 (by decide) (by first | (rw [e_6_91]; done) | (rw [e_6_91]; rfl)) (by decide) ?_
    refine cx_aload_n (i := 0) hE d_Gr_take_112 rfl rfl ?_
    refine cx_dup hE d_Gr_take_113 ?_
    refine cx_get hE d_Gr_take_114 f_Gr_9 (by assumption) (by rfl) ?_
    refine cx_iconst (v := 1) hE d_Gr_take_117 (by decide) ?_
    refine cx_iadd hE d_Gr_take_118 ?_
    refine cx_putg hE d_Gr_take_119 f_Gr_9 (by assumption) (Nat.le_of_ble_eq_true rfl) (by first | rfl | exact cx_nr _ _) (by first | rfl | exact cx_fr _ _) (fun G_119 g_119 h_119 => ?_)
    refine cx_goto (tgt := 138) hE d_Gr_take_122 (by decide) ?_
    refine cx_sub [0, 1, 2] rfl ?_
    first
      | exact htail G_119 _ (by subst_vars; simp [tx_ov, tx_kop, tx_kcl]) h_119 (fun c e hn he => cx_pn g_119 he hn) (fun e => by rw [← g_119]; exact cx_pp ..) (cx_pc g_119)
      | exact htail G_132 _ (by subst_vars; simp [tx_ov, tx_kop, tx_kcl]) h_132 (fun c e hn he => cx_pn g_132 he hn) (fun e => by rw [← g_132]; exact cx_pp ..) (cx_pc g_132)
      | exact htail G _ (by simp [tx_ov, tx_kop, tx_kcl, *]) hgr (fun c e _ he => he) (fun e => rfl) rfl
  by_cases e_6_93 : kd = 93
  · refine cx_lookup (tgt := 125) hE d_Gr_take_6 (by decide) (by first | (rw [e_6_93]; done) | (rw [e_6_93]; rfl)) (by decide) ?_
    refine cx_aload_n (i := 0) hE d_Gr_take_125 rfl rfl ?_
    refine cx_dup hE d_Gr_take_126 ?_
    refine cx_get hE d_Gr_take_127 f_Gr_9 (by assumption) (by rfl) ?_
    refine cx_iconst (v := 1) hE d_Gr_take_130 (by decide) ?_
    refine cx_isub hE d_Gr_take_131 ?_
    refine cx_putg hE d_Gr_take_132 f_Gr_9 (by assumption) (Nat.le_of_ble_eq_true rfl) (by first | rfl | exact cx_nr _ _) (by first | rfl | exact cx_fr _ _) (fun G_132 g_132 h_132 => ?_)
    refine cx_goto (tgt := 138) hE d_Gr_take_135 (by decide) ?_
    refine cx_sub [0, 1, 2] rfl ?_
    first
      | exact htail G_119 _ (by subst_vars; simp [tx_ov, tx_kop, tx_kcl]) h_119 (fun c e hn he => cx_pn g_119 he hn) (fun e => by rw [← g_119]; exact cx_pp ..) (cx_pc g_119)
      | exact htail G_132 _ (by subst_vars; simp [tx_ov, tx_kop, tx_kcl]) h_132 (fun c e hn he => cx_pn g_132 he hn) (fun e => by rw [← g_132]; exact cx_pp ..) (cx_pc g_132)
      | exact htail G _ (by simp [tx_ov, tx_kop, tx_kcl, *]) hgr (fun c e _ he => he) (fun e => rfl) rfl
  by_cases e_6_123 : kd = 123
  · refine cx_lookup (tgt := 112) hE d_Gr_take_6 (by decide) (by first | (rw [e_6_123]; done) | (rw [e_6_123]; rfl)) (by decide) ?_
    refine cx_aload_n (i := 0) hE d_Gr_take_112 rfl rfl ?_
    refine cx_dup hE d_Gr_take_113 ?_
    refine cx_get hE d_Gr_take_114 f_Gr_9 (by assumption) (by rfl) ?_
    refine cx_iconst (v := 1) hE d_Gr_take_117 (by decide) ?_
    refine cx_iadd hE d_Gr_take_118 ?_
    refine cx_putg hE d_Gr_take_119 f_Gr_9 (by assumption) (Nat.le_of_ble_eq_true rfl) (by first | rfl | exact cx_nr _ _) (by first | rfl | exact cx_fr _ _) (fun G_119 g_119 h_119 => ?_)
    refine cx_goto (tgt := 138) hE d_Gr_take_122 (by decide) ?_
    refine cx_sub [0, 1, 2] rfl ?_
    first
      | exact htail G_119 _ (by subst_vars; simp [tx_ov, tx_kop, tx_kcl]) h_119 (fun c e hn he => cx_pn g_119 he hn) (fun e => by rw [← g_119]; exact cx_pp ..) (cx_pc g_119)
      | exact htail G_132 _ (by subst_vars; simp [tx_ov, tx_kop, tx_kcl]) h_132 (fun c e hn he => cx_pn g_132 he hn) (fun e => by rw [← g_132]; exact cx_pp ..) (cx_pc g_132)
      | exact htail G _ (by simp [tx_ov, tx_kop, tx_kcl, *]) hgr (fun c e _ he => he) (fun e => rfl) rfl
  by_cases e_6_125 : kd = 125
  · refine cx_lookup (tgt := 125) hE d_Gr_take_6 (by decide) (by first | (rw [e_6_125]; done) | (rw [e_6_125]; rfl)) (by decide) ?_
    refine cx_aload_n (i := 0) hE d_Gr_take_125 rfl rfl ?_
    refine cx_dup hE d_Gr_take_126 ?_
    refine cx_get hE d_Gr_take_127 f_Gr_9 (by assumption) (by rfl) ?_
    refine cx_iconst (v := 1) hE d_Gr_take_130 (by decide) ?_
    refine cx_isub hE d_Gr_take_131 ?_
    refine cx_putg hE d_Gr_take_132 f_Gr_9 (by assumption) (Nat.le_of_ble_eq_true rfl) (by first | rfl | exact cx_nr _ _) (by first | rfl | exact cx_fr _ _) (fun G_132 g_132 h_132 => ?_)
    refine cx_goto (tgt := 138) hE d_Gr_take_135 (by decide) ?_
    refine cx_sub [0, 1, 2] rfl ?_
    first
      | exact htail G_119 _ (by subst_vars; simp [tx_ov, tx_kop, tx_kcl]) h_119 (fun c e hn he => cx_pn g_119 he hn) (fun e => by rw [← g_119]; exact cx_pp ..) (cx_pc g_119)
      | exact htail G_132 _ (by subst_vars; simp [tx_ov, tx_kop, tx_kcl]) h_132 (fun c e hn he => cx_pn g_132 he hn) (fun e => by rw [← g_132]; exact cx_pp ..) (cx_pc g_132)
      | exact htail G _ (by simp [tx_ov, tx_kop, tx_kcl, *]) hgr (fun c e _ he => he) (fun e => rfl) rfl
  refine cx_lookup (tgt := 138) hE d_Gr_take_6 (by decide) (off := 132) (by show Op.lookupswitch.offset [(11, 106), (12, 119), (13, 106), (15, 106), (16, 119), (40, 106), (41, 119), (63, 106), (91, 106), (93, 119), (123, 106), (125, 119)] 132 _ = _; rw [lv_osw (k := 11) e_6_11 (by decide), lv_osw (k := 12) e_6_12 (by decide), lv_osw (k := 13) e_6_13 (by decide), lv_osw (k := 15) e_6_15 (by decide), lv_osw (k := 16) e_6_16 (by decide), lv_osw (k := 40) e_6_40 (by decide), lv_osw (k := 41) e_6_41 (by decide), lv_osw (k := 63) e_6_63 (by decide), lv_osw (k := 91) e_6_91 (by decide), lv_osw (k := 93) e_6_93 (by decide), lv_osw (k := 123) e_6_123 (by decide), lv_osw (k := 125) e_6_125 (by decide)]; rfl) (by decide) ?_
  refine cx_sub [0, 1, 2] rfl ?_
  first
    | exact htail G_119 _ (by subst_vars; simp [tx_ov, tx_kop, tx_kcl]) h_119 (fun c e hn he => cx_pn g_119 he hn) (fun e => by rw [← g_119]; exact cx_pp ..) (cx_pc g_119)
    | exact htail G_132 _ (by subst_vars; simp [tx_ov, tx_kop, tx_kcl]) h_132 (fun c e hn he => cx_pn g_132 he hn) (fun e => by rw [← g_132]; exact cx_pp ..) (cx_pc g_132)
    | exact htail G _ (by simp [tx_ov, tx_kop, tx_kcl, *]) hgr (fun c e _ he => he) (fun e => rfl) rfl

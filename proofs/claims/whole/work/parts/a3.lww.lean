/-! THE LAW: its walk. -/
theorem lw_init {k : cx_K} {G2 G3 G4 G5 : cx_G} {x mo ou ta b ul e0 : Nat} {P : Nat → Nat} {e : va_E} (hR : ct_R k G2 x ta b 0 512 (fun _ => 0) 0 (ct_A0 ul e0) []) (h3 : G2.1 mo = none) (g3 : cx_mk G2 mo e 58 = G3) (hm : rm_R k G4 mo P rm_M0) (hfr : ∀ q e, q ≠ mo → G3.1 q = some e → G4.1 q = some e) (hfs : ∀ i, rm_ty i ≠ 3 → G3.1 (P i) = none) (hc1 : G4.2.1 = G3.2.1 + 36) (hc2 : G4.2.2 = G3.2.2 + 615473) (h5 : G4.1 ou = none) (g5 : cx_mk G4 ou (.inl (k.2.1 2, 1, .inr (.inl (fun _ => 0)))) 1 = G5) (hs1 : G2.2.1 ≤ 100) (hs2 : G2.2.2 ≤ 1000) : lw_J k G5 x mo ou 0 := by
  have old : ∀ c e', G2.1 c = some e' → c ≠ mo ∧ G3.1 c = some e' ∧ G4.1 c = some e' ∧ G5.1 c = some e' ∧ ¬ lw_S mo P ou c := by
    intro c e' hc
    have hcm : c ≠ mo := fun z => by rw [z, h3] at hc; cases hc
    have c3 := cx_mn g3 h3 hc
    have c4 := hfr c e' hcm c3
    have c5 := cx_mn g5 h5 c4
    refine ⟨hcm, c3, c4, c5, ?_⟩
    rintro ((z | ⟨i, hi, z⟩) | z)
    · exact hcm z
    · rw [z, hfs i hi] at c3
      cases c3
    · rw [z, h5] at c4
      cases c4
  have hou : ¬ rm_S mo P ou := fun z => by
    obtain ⟨e', he⟩ := hm.has z
    rw [h5] at he
    cases he
  obtain ⟨r1, ⟨t1, t2, t3, t4⟩, hU⟩ := hR
  have hF : ct_F (lw_S mo P ou) G2 (ct_A0 ul e0) [] := by
    obtain ⟨⟨⟨mc, u1⟩, -⟩, -⟩ := hU
    refine ⟨(old _ _ u1).2.2.2.2, fun z => absurd rfl z, fun j u hu => ?_, fun T a ha => ?_⟩
    · simp at hu
    · cases ha
  obtain ⟨g1, g2⟩ := ct_R.fr (S := lw_S mo P ou) (G' := G5) ⟨r1, ⟨t1, t2, t3, t4⟩, hU⟩ hF (old _ _ r1).2.2.2.2 (old _ _ t1).2.2.2.2 (old _ _ t2).2.2.2.2 (fun c e' _ hc => (old c e' hc).2.2.2.1)
  have c3 := cx_mc g3
  have c5 := cx_mc g5
  refine ⟨ta, b, 0, 512, fun _ => 0, 0, ct_A0 ul e0, [], P, rm_M0, fun _ => 0, ⟨g1, hm.fr (fun c e' _ hc => cx_mn g5 h5 hc), cx_ms g5, ⟨(old _ _ r1).2.2.2.2, (old _ _ t1).2.2.2.2, (old _ _ t2).2.2.2.2, hou⟩, g2, ?_, ?_, ⟨by decide, by decide, by decide, by decide⟩, by decide, by omega, by omega⟩, rr_I0 _, by omega⟩
  · show 256 * G5.2.1 + (262144 - 4096) + (32768 - 256) + 2048 * 0 ≤ 1000000 + 60000 * 0
    omega
  · show G5.2.2 + 2 * (262144 - 4096) + 2 * (32768 - 256) + 120 * 0 ≤ 2000000 + 5000 * 0 + 2 * 512
    omega
theorem lw_6 {L t : Nat} (hL : L < 2 ^ 30) (ht : t < 2 ^ 20) (h : ¬ nI L - 6 < nI (6 * t)) : 6 * t + 6 ≤ L := by
  rw [Int32.lt_iff_toInt_lt, show (6 : Int32) = nI 6 from rfl, pk_sub_toInt (by omega) (by omega), nI_toInt (by omega)] at h
  omega
set_option maxRecDepth 100000 in
set_option maxHeartbeats 4000000 in
theorem law_loop {E : cx_E} {k : cx_K} {l : Launch} {G0 : cx_G} {sc L x mo ou : Nat} {xs : Nat → Int32} (hE : cx_C E k l 570 m_Lw_law G0 (fun r _ => r = .inl (some (.int 1)))) (hX : lw_X E sc L xs) (hL : L ≤ 3072) (hfl : l.flags = flags0) : ∀ (G1 : cx_G), lw_J k G1 x mo ou 0 → cx_V E 23 [(4, false, .int (nI (6 * 0))), (3, false, .ref ou), (2, false, .ref mo), (1, false, .ref x), (0, false, .ref sc)] [] G1 := by
  have hloop : ∀ (d t : Nat) (G1 : cx_G), t + d = 1000 → lw_J k G1 x mo ou t → cx_V E 23 [(4, false, .int (nI (6 * t))), (3, false, .ref ou), (2, false, .ref mo), (1, false, .ref x), (0, false, .ref sc)] [] G1 := by
    intro d
    induction d using Nat.strongRecOn with
    | ind d ih =>
      intro t G1 htd hJ
      have h542 : ∀ G2, lw_J k G2 x mo ou (t + 1) → 0 < d → cx_V E 542 [(4, false, .int (nI (6 * t))), (3, false, .ref ou), (2, false, .ref mo), (1, false, .ref x), (0, false, .ref sc)] [] G2 := by
        intro G2 hJ2 hd
        refine cx_iinc (v := nI (6 * (t + 1))) hE d_Lw_law_542 rfl (by rw [show 6 * (t + 1) = 6 * t + 6 by omega]; exact nI_add (6 * t) 6) (by decide) ?_
        refine cx_goto (tgt := 23) hE d_Lw_law_545 (by decide) ?_
        refine cx_sub [0, 1, 2, 3, 4] rfl ?_
        exact ih (d - 1) (by omega) (t + 1) G2 (by omega) hJ2
      refine cx_iload hE d_Lw_law_23 rfl ?_
      refine cx_aload_n (i := 0) hE d_Lw_law_25 rfl rfl ?_
      refine cx_slen hE hX d_Lw_law_26 ?_
      refine cx_bipush (v := 6) hE d_Lw_law_27 (by decide) ?_
      refine cx_isub hE d_Lw_law_29 ?_
      refine cx_icmp_gt (tgt := 548)  hE d_Lw_law_30 (by decide) (fun c_30 => ?_) (fun c_30 => ?_)
      · refine cx_iconst (v := 1) hE d_Lw_law_548 (by decide) ?_
        refine cx_iret hE d_Lw_law_549 rfl rfl ?_
        rfl
      · have h6 := lw_6 (by omega) (by omega) c_30
        obtain ⟨ta, b, n, cap, f, ft, A, us, P, M, g, hB, hI, hn⟩ := hJ
        have hne := hB.ne
        have hb1 := hB.2.2.2.2.2.1
        have hb2 := hB.2.2.2.2.2.2.1
        have hb3 := hB.2.2.2.2.2.2.2.2.1
        have h542 := fun G2 hJ2 => h542 G2 hJ2 (by omega)
        refine cx_aload_n (i := 0) hE d_Lw_law_33 rfl rfl ?_
        refine cx_iload hE d_Lw_law_34 rfl ?_
        refine cx_sld hE hX d_Lw_law_36 (vp_in_nI (by omega) (by omega)) ?_
        rw [nI_clamp (by omega)]
        refine cx_bipush (v := 15) hE d_Lw_law_37 (by decide) ?_
        refine cx_iand hE d_Lw_law_39 ?_
        generalize xs (6 * t) &&& 15 = sw
        by_cases e_40_0 : sw = 0
        · refine cx_tableIn (off := 52) (tgt := 92) hE d_Lw_law_40 (by rw [e_40_0]; decide) (by rw [e_40_0]; decide) (by rw [e_40_0]; rfl) (by decide) ?_
          refine cx_aload_n (i := 1) hE d_Lw_law_92 rfl rfl ?_
          refine cx_aload_n (i := 0) hE d_Lw_law_93 rfl rfl ?_
          refine cx_iload hE d_Lw_law_94 rfl ?_
          refine cx_iconst (v := 1) hE d_Lw_law_96 (by decide) ?_
          refine cx_iadd hE d_Lw_law_97 ?_
          rw [show nI (6 * t) + 1 = nI (6 * t + 1) from nI_add (6 * t) 1]
          refine cx_sld hE hX d_Lw_law_98 (vp_in_nI (by omega) (by omega)) ?_
          rw [nI_clamp (by omega)]
          refine cx_aload_n (i := 0) hE d_Lw_law_99 rfl rfl ?_
          refine cx_iload hE d_Lw_law_100 rfl ?_
          refine cx_iconst (v := 2) hE d_Lw_law_102 (by decide) ?_
          refine cx_iadd hE d_Lw_law_103 ?_
          rw [show nI (6 * t) + 2 = nI (6 * t + 2) from nI_add (6 * t) 2]
          refine cx_sld hE hX d_Lw_law_104 (vp_in_nI (by omega) (by omega)) ?_
          rw [nI_clamp (by omega)]
          refine cx_aload_n (i := 0) hE d_Lw_law_105 rfl rfl ?_
          refine cx_iload hE d_Lw_law_106 rfl ?_
          refine cx_iconst (v := 3) hE d_Lw_law_108 (by decide) ?_
          refine cx_iadd hE d_Lw_law_109 ?_
          rw [show nI (6 * t) + 3 = nI (6 * t + 3) from nI_add (6 * t) 3]
          refine cx_sld hE hX d_Lw_law_110 (vp_in_nI (by omega) (by omega)) ?_
          rw [nI_clamp (by omega)]
          refine cx_aload_n (i := 0) hE d_Lw_law_111 rfl rfl ?_
          refine cx_iload hE d_Lw_law_112 rfl ?_
          refine cx_iconst (v := 4) hE d_Lw_law_114 (by decide) ?_
          refine cx_iadd hE d_Lw_law_115 ?_
          rw [show nI (6 * t) + 4 = nI (6 * t + 4) from nI_add (6 * t) 4]
          refine cx_sld hE hX d_Lw_law_116 (vp_in_nI (by omega) (by omega)) ?_
          rw [nI_clamp (by omega)]
          refine cx_aload_n (i := 0) hE d_Lw_law_117 rfl rfl ?_
          refine cx_iload hE d_Lw_law_118 rfl ?_
          refine cx_iconst (v := 5) hE d_Lw_law_120 (by decide) ?_
          refine cx_iadd hE d_Lw_law_121 ?_
          rw [show nI (6 * t) + 5 = nI (6 * t + 5) from nI_add (6 * t) 5]
          refine cx_sld hE hX d_Lw_law_122 (vp_in_nI (by omega) (by omega)) ?_
          rw [nI_clamp (by omega)]
          refine cx_aload_n (i := 3) hE d_Lw_law_123 rfl rfl ?_
          refine cx_invS hE d_Lw_law_124 l_Lw_43 (c_Lw_feed hB.1 hB.2.2.1 hne.1.1 hne.1.2.1 (av := fun i => xs (6 * t + (1 + i))) (by omega) (by omega) (by omega) (by omega)) rfl (by omega) (Nat.le_of_ble_eq_true rfl) n_Lw_feed (by rfl) (fun v9 G9 q9 => ?_) (fun a9 G9 q9 => ?_)
          · obtain ⟨b', cap', f', hr, hB1, hf1, hf2⟩ := lw_o0 hB (by omega) (by omega) (by omega) q9
            cases hr
            show cx_V E 127 _ [.int 0] _
            refine cx_istore hE d_Lw_law_127 (by decide) ?_
            refine cx_aload_n (i := 2) hE d_Lw_law_129 rfl rfl ?_
            refine cx_aload_n (i := 0) hE d_Lw_law_130 rfl rfl ?_
            refine cx_iload hE d_Lw_law_131 rfl ?_
            refine cx_iconst (v := 1) hE d_Lw_law_133 (by decide) ?_
            refine cx_iadd hE d_Lw_law_134 ?_
            rw [show nI (6 * t) + 1 = nI (6 * t + 1) from nI_add (6 * t) 1]
            refine cx_sld hE hX d_Lw_law_135 (vp_in_nI (by omega) (by omega)) ?_
            rw [nI_clamp (by omega)]
            refine cx_aload_n (i := 0) hE d_Lw_law_136 rfl rfl ?_
            refine cx_iload hE d_Lw_law_137 rfl ?_
            refine cx_iconst (v := 2) hE d_Lw_law_139 (by decide) ?_
            refine cx_iadd hE d_Lw_law_140 ?_
            rw [show nI (6 * t) + 2 = nI (6 * t + 2) from nI_add (6 * t) 2]
            refine cx_sld hE hX d_Lw_law_141 (vp_in_nI (by omega) (by omega)) ?_
            rw [nI_clamp (by omega)]
            refine cx_aload_n (i := 0) hE d_Lw_law_142 rfl rfl ?_
            refine cx_iload hE d_Lw_law_143 rfl ?_
            refine cx_iconst (v := 3) hE d_Lw_law_145 (by decide) ?_
            refine cx_iadd hE d_Lw_law_146 ?_
            rw [show nI (6 * t) + 3 = nI (6 * t + 3) from nI_add (6 * t) 3]
            refine cx_sld hE hX d_Lw_law_147 (vp_in_nI (by omega) (by omega)) ?_
            rw [nI_clamp (by omega)]
            refine cx_aload_n (i := 0) hE d_Lw_law_148 rfl rfl ?_
            refine cx_iload hE d_Lw_law_149 rfl ?_
            refine cx_iconst (v := 4) hE d_Lw_law_151 (by decide) ?_
            refine cx_iadd hE d_Lw_law_152 ?_
            rw [show nI (6 * t) + 4 = nI (6 * t + 4) from nI_add (6 * t) 4]
            refine cx_sld hE hX d_Lw_law_153 (vp_in_nI (by omega) (by omega)) ?_
            rw [nI_clamp (by omega)]
            refine cx_aload_n (i := 0) hE d_Lw_law_154 rfl rfl ?_
            refine cx_iload hE d_Lw_law_155 rfl ?_
            refine cx_iconst (v := 5) hE d_Lw_law_157 (by decide) ?_
            refine cx_iadd hE d_Lw_law_158 ?_
            rw [show nI (6 * t) + 5 = nI (6 * t + 5) from nI_add (6 * t) 5]
            refine cx_sld hE hX d_Lw_law_159 (vp_in_nI (by omega) (by omega)) ?_
            rw [nI_clamp (by omega)]
            refine cx_invV hE d_Lw_law_160 l_Lw_48 hB1.2.1.1 (c_Mo_feed hB1.2.1 hB1.Q hI (av := fun i => xs (6 * t + (1 + i))) (f' := f') (by omega) hf1 hf2) rfl (by omega) (Nat.le_of_ble_eq_true rfl) n_Mo_feed (by rfl) (fun v8 G8 q8 => ?_) (fun a8 G8 q8 => ?_)
            · obtain ⟨vv, P', M', h0, hW, h1, h2, h3⟩ := q8
              cases h0
              have hB2 := hB1.rf hW
              have hval : (0 : Int32) = 0 → vp_updL g 0 (nI (n + 20)).toInt64 0 = vv.toInt64 := fun _ => by rw [h1]; exact pk_uLs
              show cx_V E 163 _ [.int vv] _
              refine cx_istore hE d_Lw_law_163 (by decide) ?_
              refine cx_aload_n (i := 2) hE d_Lw_law_165 rfl rfl ?_
              refine cx_invV hE d_Lw_law_166 l_Lw_49 hB2.2.1.1 (c_Mo_thrown hB2.2.1 hB2.Q) rfl (by omega) (Nat.le_of_ble_eq_true rfl) n_Mo_thrown (by rfl) (fun v7 G7 q7 => ?_) (fun a7 G7 q7 => ?_)
              · obtain ⟨tv, h0, rfl, h1⟩ := q7
                cases h0
                have htv := (h1.trans h2).symm
                subst htv
                refine cx_iload hE d_Lw_law_169 rfl ?_
                refine cx_icmp_eq (tgt := 176)  hE d_Lw_law_171 (by decide) (fun c_171 => ?_) (fun c_171 => ?_)
                · refine cx_iload hE d_Lw_law_176 rfl ?_
                  refine cx_if_ne (tgt := 193)  hE d_Lw_law_178 (by decide) (fun c_178 => ?_) (fun c_178 => ?_)
                  · refine cx_goto (tgt := 542) hE d_Lw_law_193 (by decide) ?_
                    refine cx_sub [2, 3, 4, 5, 6] rfl ?_
                    exact h542 _ (⟨ta, b', (n + 20), cap', f', ft, A, us, P', M', _, hB2.le (by omega) (by omega) (by omega) (by omega), h3, (by omega)⟩)
                  · refine cx_aload_n (i := 3) hE d_Lw_law_181 rfl rfl ?_
                    refine cx_iconst (v := 0) hE d_Lw_law_182 (by decide) ?_
                    refine cx_lald 2 hE d_Lw_law_183 rfl hB2.2.2.1 (vp_in_nI (n := 0) (N := 1) (by omega) (by omega)) ?_
                    rw [show (0 : Int32).toNatClampNeg = 0 from rfl]
                    refine cx_iload hE d_Lw_law_184 rfl ?_
                    refine cx_i2l hE d_Lw_law_186 ?_
                    refine cx_lcmp hE d_Lw_law_187 ?_
                    refine cx_if_eq (tgt := 193)  hE d_Lw_law_188 (by decide) (fun c_188 => ?_) (fun c_188 => ?_)
                    · refine cx_goto (tgt := 542) hE d_Lw_law_193 (by decide) ?_
                      refine cx_sub [2, 3, 4, 5, 6] rfl ?_
                      exact h542 _ (⟨ta, b', (n + 20), cap', f', ft, A, us, P', M', _, hB2.le (by omega) (by omega) (by omega) (by omega), h3, (by omega)⟩)
                    · exact absurd (rq_cmp0.mpr (hval c_178)) c_188
                      -- end
                · exact absurd rfl c_171
                  -- end
              · obtain ⟨tv, h0, -⟩ := q7
                cases h0
            · obtain ⟨vv, P', M', h0, -⟩ := q8
              cases h0
          · obtain ⟨Gc, -, h0, -⟩ := q9
            cases h0
        by_cases e_40_1 : sw = 1
        · refine cx_tableIn (off := 156) (tgt := 196) hE d_Lw_law_40 (by rw [e_40_1]; decide) (by rw [e_40_1]; decide) (by rw [e_40_1]; rfl) (by decide) ?_
          refine cx_aload_n (i := 1) hE d_Lw_law_196 rfl rfl ?_
          refine cx_aload_n (i := 0) hE d_Lw_law_197 rfl rfl ?_
          refine cx_iload hE d_Lw_law_198 rfl ?_
          refine cx_iconst (v := 1) hE d_Lw_law_200 (by decide) ?_
          refine cx_iadd hE d_Lw_law_201 ?_
          rw [show nI (6 * t) + 1 = nI (6 * t + 1) from nI_add (6 * t) 1]
          refine cx_sld hE hX d_Lw_law_202 (vp_in_nI (by omega) (by omega)) ?_
          rw [nI_clamp (by omega)]
          refine cx_invS hE d_Lw_law_203 l_Lw_53 (c_Lw_end hB.1 hfl (by omega) (by omega) (v := xs (6 * t + 1))) rfl (by omega) (Nat.le_of_ble_eq_true rfl) n_Lw_end (by rfl) (fun v9 G9 q9 => ?_) (fun a9 G9 q9 => ?_)
          · obtain ⟨kk, n', hr, hnn, hB1, hk⟩ := lw_o1 hB (by omega) (by omega) (by omega) q9
            cases hr
            show cx_V E 206 _ [.int kk] _
            refine cx_istore hE d_Lw_law_206 (by decide) ?_
            refine cx_aload_n (i := 2) hE d_Lw_law_208 rfl rfl ?_
            refine cx_aload_n (i := 0) hE d_Lw_law_209 rfl rfl ?_
            refine cx_iload hE d_Lw_law_210 rfl ?_
            refine cx_iconst (v := 1) hE d_Lw_law_212 (by decide) ?_
            refine cx_iadd hE d_Lw_law_213 ?_
            rw [show nI (6 * t) + 1 = nI (6 * t + 1) from nI_add (6 * t) 1]
            refine cx_sld hE hX d_Lw_law_214 (vp_in_nI (by omega) (by omega)) ?_
            rw [nI_clamp (by omega)]
            refine cx_invV hE d_Lw_law_215 l_Lw_56 hB1.2.1.1 (c_Mo_end hB1.2.1 hB1.Q hI (x := xs (6 * t + 1))) rfl (by omega) (Nat.le_of_ble_eq_true rfl) n_Mo_end (by rfl) (fun v8 G8 q8 => ?_) (fun a8 G8 q8 => ?_)
            · obtain ⟨P', M', h0, hW, h1⟩ := q8
              cases h0
              have hB2 := hB1.rf hW
              have hr1 := lw_sr1 hk h1
              show cx_V E 218 _ [] _
              refine cx_aload_n (i := 2) hE d_Lw_law_218 rfl rfl ?_
              refine cx_invV hE d_Lw_law_219 l_Lw_49 hB2.2.1.1 (c_Mo_thrown hB2.2.1 hB2.Q) rfl (by omega) (Nat.le_of_ble_eq_true rfl) n_Mo_thrown (by rfl) (fun v7 G7 q7 => ?_) (fun a7 G7 q7 => ?_)
              · obtain ⟨tv, h0, rfl, h1⟩ := q7
                cases h0
                have htv := (h1.trans hr1.1).symm
                subst htv
                refine cx_iload hE d_Lw_law_222 rfl ?_
                refine cx_icmp_eq (tgt := 229)  hE d_Lw_law_224 (by decide) (fun c_224 => ?_) (fun c_224 => ?_)
                · refine cx_goto (tgt := 542) hE d_Lw_law_229 (by decide) ?_
                  refine cx_sub [1, 2, 3, 4, 5] rfl ?_
                  exact h542 _ (⟨ta, b, n', cap, f, ft, A, us, P', M', _, hB2.le (by omega) (by omega) (by omega) (by omega), hr1.2, (by omega)⟩)
                · exact absurd rfl c_224
                  -- end
              · obtain ⟨tv, h0, -⟩ := q7
                cases h0
            · obtain ⟨P', M', h0, -⟩ := q8
              cases h0
          · rcases q9 with ⟨-, -, h0, -⟩ | ⟨-, h0, -⟩ <;> cases h0
        by_cases e_40_2 : sw = 2
        · refine cx_tableIn (off := 192) (tgt := 232) hE d_Lw_law_40 (by rw [e_40_2]; decide) (by rw [e_40_2]; decide) (by rw [e_40_2]; rfl) (by decide) ?_
          refine cx_aload_n (i := 1) hE d_Lw_law_232 rfl rfl ?_
          refine cx_invV hE d_Lw_law_233 l_Lw_57 hB.1.1 (c_CT_read hB.1 hfl (by omega) (by omega) (by omega)) rfl (by omega) (Nat.le_of_ble_eq_true rfl) n_CT_read (by rfl) (fun v9 G9 q9 => ?_) (fun a9 G9 q9 => ?_)
          · obtain ⟨A', hr, hB1⟩ := lw_o2 hB (by omega) (by omega) (by omega) q9
            cases hr
            show cx_V E 236 _ [.int (ct_rd n f us).1] _
            refine cx_aload_n (i := 2) hE d_Lw_law_236 rfl rfl ?_
            refine cx_invV hE d_Lw_law_237 l_Lw_60 hB1.2.1.1 (c_Mo_read1 hB1.2.1 hB1.Q hI) rfl (by omega) (Nat.le_of_ble_eq_true rfl) n_Mo_read1 (by rfl) (fun v8 G8 q8 => ?_) (fun a8 G8 q8 => ?_)
            · obtain ⟨vv, P', M', h0, hW, h1, h2, h3⟩ := q8
              cases h0
              have hB2 := hB1.rf hW
              have hval : (ct_rd n f us).1 = vv := h1.symm
              show cx_V E 240 _ [.int vv, .int (ct_rd n f us).1] _
              refine cx_icmp_eq (tgt := 542)  hE d_Lw_law_240 (by decide) (fun c_240 => ?_) (fun c_240 => ?_)
              · refine cx_sub [0, 1, 2, 3, 4] rfl ?_
                exact h542 _ (⟨ta, b, 0, cap, f, _, A', _, P', M', _, hB2.le (by omega) (by omega) (by omega) (by omega), h3, (by omega)⟩)
              · exact absurd hval c_240
                -- end
            · obtain ⟨vv, P', M', h0, -⟩ := q8
              cases h0
          · obtain ⟨A', h0, -⟩ := q9
            cases h0
        by_cases e_40_3 : sw = 3
        · refine cx_tableIn (off := 205) (tgt := 245) hE d_Lw_law_40 (by rw [e_40_3]; decide) (by rw [e_40_3]; decide) (by rw [e_40_3]; rfl) (by decide) ?_
          refine cx_aload_n (i := 1) hE d_Lw_law_245 rfl rfl ?_
          refine cx_invV1 hE d_Lw_law_246 l_Lw_61 hB.1.1 (c_CT_fault hB.1) rfl (by omega) (Nat.le_of_ble_eq_true rfl) n_CT_fault (by rfl) ?_
          refine cx_aload_n (i := 2) hE d_Lw_law_249 rfl rfl ?_
          refine cx_invV hE d_Lw_law_250 l_Lw_64 hB.2.1.1 (c_Mo_fault hB.2.1 hB.Q hI) rfl (by omega) (Nat.le_of_ble_eq_true rfl) n_Mo_fault (by rfl) (fun v8 G8 q8 => ?_) (fun a8 G8 q8 => ?_)
          · obtain ⟨vv, P', M', h0, hW, h1, h2⟩ := q8
            cases h0
            subst h2
            have hB2 := hB.rf hW
            have hval : ft = vv := h1.symm
            show cx_V E 253 _ [.int vv, .int ft] _
            refine cx_icmp_eq (tgt := 542)  hE d_Lw_law_253 (by decide) (fun c_253 => ?_) (fun c_253 => ?_)
            · refine cx_sub [0, 1, 2, 3, 4] rfl ?_
              exact h542 _ (⟨ta, b, n, cap, f, ft, A, us, P', (rp_int M 0 0), _, hB2.le (by omega) (by omega) (by omega) (by omega), (hI.z 0), (by omega)⟩)
            · exact absurd hval c_253
              -- end
          · obtain ⟨vv, P', M', h0, -⟩ := q8
            cases h0
        by_cases e_40_4 : sw = 4
        · refine cx_tableIn (off := 218) (tgt := 258) hE d_Lw_law_40 (by rw [e_40_4]; decide) (by rw [e_40_4]; decide) (by rw [e_40_4]; rfl) (by decide) ?_
          refine cx_aload_n (i := 1) hE d_Lw_law_258 rfl rfl ?_
          refine cx_invV1 hE d_Lw_law_259 l_Lw_65 hB.1.1 (c_CT_count hB.1) rfl (by omega) (Nat.le_of_ble_eq_true rfl) n_CT_count (by rfl) ?_
          refine cx_aload_n (i := 2) hE d_Lw_law_262 rfl rfl ?_
          refine cx_invV hE d_Lw_law_263 l_Lw_68 hB.2.1.1 (c_Mo_count hB.2.1 hB.Q hI) rfl (by omega) (Nat.le_of_ble_eq_true rfl) n_Mo_count (by rfl) (fun v8 G8 q8 => ?_) (fun a8 G8 q8 => ?_)
          · obtain ⟨vv, P', M', h0, hW, h1, h2⟩ := q8
            cases h0
            subst h2
            have hB2 := hB.rf hW
            have hval : nI us.length = vv := h1.symm
            show cx_V E 266 _ [.int vv, .int (nI us.length)] _
            refine cx_icmp_eq (tgt := 542)  hE d_Lw_law_266 (by decide) (fun c_266 => ?_) (fun c_266 => ?_)
            · refine cx_sub [0, 1, 2, 3, 4] rfl ?_
              exact h542 _ (⟨ta, b, n, cap, f, ft, A, us, P', (rp_int M 0 0), _, hB2.le (by omega) (by omega) (by omega) (by omega), (hI.z 0), (by omega)⟩)
            · exact absurd hval c_266
              -- end
          · obtain ⟨vv, P', M', h0, -⟩ := q8
            cases h0
        by_cases e_40_5 : sw = 5
        · refine cx_tableIn (off := 231) (tgt := 271) hE d_Lw_law_40 (by rw [e_40_5]; decide) (by rw [e_40_5]; decide) (by rw [e_40_5]; rfl) (by decide) ?_
          refine cx_aload_n (i := 1) hE d_Lw_law_271 rfl rfl ?_
          refine cx_aload_n (i := 0) hE d_Lw_law_272 rfl rfl ?_
          refine cx_iload hE d_Lw_law_273 rfl ?_
          refine cx_iconst (v := 1) hE d_Lw_law_275 (by decide) ?_
          refine cx_iadd hE d_Lw_law_276 ?_
          rw [show nI (6 * t) + 1 = nI (6 * t + 1) from nI_add (6 * t) 1]
          refine cx_sld hE hX d_Lw_law_277 (vp_in_nI (by omega) (by omega)) ?_
          rw [nI_clamp (by omega)]
          refine cx_aload_n (i := 0) hE d_Lw_law_278 rfl rfl ?_
          refine cx_iload hE d_Lw_law_279 rfl ?_
          refine cx_iconst (v := 2) hE d_Lw_law_281 (by decide) ?_
          refine cx_iadd hE d_Lw_law_282 ?_
          rw [show nI (6 * t) + 2 = nI (6 * t + 2) from nI_add (6 * t) 2]
          refine cx_sld hE hX d_Lw_law_283 (vp_in_nI (by omega) (by omega)) ?_
          rw [nI_clamp (by omega)]
          refine cx_aload_n (i := 3) hE d_Lw_law_284 rfl rfl ?_
          refine cx_invS hE d_Lw_law_285 l_Lw_69 (c_Lw_module hB.1 hB.2.2.1 hfl (by omega) (by omega) (m := xs (6 * t + 1)) (w := xs (6 * t + 2))) rfl (by omega) (Nat.le_of_ble_eq_true rfl) n_Lw_module (by rfl) (fun v9 G9 q9 => ?_) (fun a9 G9 q9 => ?_)
          · obtain ⟨kk, g', hr, hB1, hsp⟩ := lw_o5 hB (by omega) (by omega) q9
            cases hr
            show cx_V E 288 _ [.int kk] _
            refine cx_istore hE d_Lw_law_288 (by decide) ?_
            refine cx_aload_n (i := 2) hE d_Lw_law_290 rfl rfl ?_
            refine cx_aload_n (i := 0) hE d_Lw_law_291 rfl rfl ?_
            refine cx_iload hE d_Lw_law_292 rfl ?_
            refine cx_iconst (v := 1) hE d_Lw_law_294 (by decide) ?_
            refine cx_iadd hE d_Lw_law_295 ?_
            rw [show nI (6 * t) + 1 = nI (6 * t + 1) from nI_add (6 * t) 1]
            refine cx_sld hE hX d_Lw_law_296 (vp_in_nI (by omega) (by omega)) ?_
            rw [nI_clamp (by omega)]
            refine cx_aload_n (i := 0) hE d_Lw_law_297 rfl rfl ?_
            refine cx_iload hE d_Lw_law_298 rfl ?_
            refine cx_iconst (v := 2) hE d_Lw_law_300 (by decide) ?_
            refine cx_iadd hE d_Lw_law_301 ?_
            rw [show nI (6 * t) + 2 = nI (6 * t + 2) from nI_add (6 * t) 2]
            refine cx_sld hE hX d_Lw_law_302 (vp_in_nI (by omega) (by omega)) ?_
            rw [nI_clamp (by omega)]
            refine cx_invV hE d_Lw_law_303 l_Lw_72 hB1.2.1.1 (c_Mo_module2 hB1.2.1 hB1.Q hI (m := xs (6 * t + 1)) (w := xs (6 * t + 2))) rfl (by omega) (Nat.le_of_ble_eq_true rfl) n_Mo_module2 (by rfl) (fun v8 G8 q8 => ?_) (fun a8 G8 q8 => ?_)
            · obtain ⟨vv, P', M', h0, hW, h1⟩ := q8
              cases h0
              have hB2 := hB1.rf hW
              obtain ⟨hMk, hval⟩ := hsp vv M' h1
              subst hMk
              show cx_V E 306 _ [.int vv] _
              refine cx_istore hE d_Lw_law_306 (by decide) ?_
              refine cx_aload_n (i := 2) hE d_Lw_law_308 rfl rfl ?_
              refine cx_invV hE d_Lw_law_309 l_Lw_49 hB2.2.1.1 (c_Mo_thrown hB2.2.1 hB2.Q) rfl (by omega) (Nat.le_of_ble_eq_true rfl) n_Mo_thrown (by rfl) (fun v7 G7 q7 => ?_) (fun a7 G7 q7 => ?_)
              · obtain ⟨tv, h0, rfl, h1⟩ := q7
                cases h0
                have htv := (h1.trans (show (rp_int M 0 kk).1 0 = kk from rfl)).symm
                subst htv
                refine cx_iload hE d_Lw_law_312 rfl ?_
                refine cx_icmp_eq (tgt := 319)  hE d_Lw_law_314 (by decide) (fun c_314 => ?_) (fun c_314 => ?_)
                · refine cx_iload hE d_Lw_law_319 rfl ?_
                  refine cx_if_ne (tgt := 336)  hE d_Lw_law_321 (by decide) (fun c_321 => ?_) (fun c_321 => ?_)
                  · refine cx_goto (tgt := 542) hE d_Lw_law_336 (by decide) ?_
                    refine cx_sub [2, 3, 4, 5, 6] rfl ?_
                    exact h542 _ (⟨ta, b, n, cap, f, ft, A, us, P', (rp_int M 0 kk), _, hB2.le (by omega) (by omega) (by omega) (by omega), (hI.z kk), (by omega)⟩)
                  · refine cx_aload_n (i := 3) hE d_Lw_law_324 rfl rfl ?_
                    refine cx_iconst (v := 0) hE d_Lw_law_325 (by decide) ?_
                    refine cx_lald 2 hE d_Lw_law_326 rfl hB2.2.2.1 (vp_in_nI (n := 0) (N := 1) (by omega) (by omega)) ?_
                    rw [show (0 : Int32).toNatClampNeg = 0 from rfl]
                    refine cx_iload hE d_Lw_law_327 rfl ?_
                    refine cx_i2l hE d_Lw_law_329 ?_
                    refine cx_lcmp hE d_Lw_law_330 ?_
                    refine cx_if_eq (tgt := 336)  hE d_Lw_law_331 (by decide) (fun c_331 => ?_) (fun c_331 => ?_)
                    · refine cx_goto (tgt := 542) hE d_Lw_law_336 (by decide) ?_
                      refine cx_sub [2, 3, 4, 5, 6] rfl ?_
                      exact h542 _ (⟨ta, b, n, cap, f, ft, A, us, P', (rp_int M 0 kk), _, hB2.le (by omega) (by omega) (by omega) (by omega), (hI.z kk), (by omega)⟩)
                    · exact absurd (rq_cmp0.mpr (hval c_321)) c_331
                      -- end
                · exact absurd rfl c_314
                  -- end
              · obtain ⟨tv, h0, -⟩ := q7
                cases h0
            · obtain ⟨vv, P', M', h0, -⟩ := q8
              cases h0
          · rcases q9 with ⟨-, h0, -⟩ | ⟨j, -, -, h0, -⟩ | ⟨j, v, -, -, h0, -⟩ <;> cases h0
        by_cases e_40_6 : sw = 6
        · refine cx_tableIn (off := 299) (tgt := 339) hE d_Lw_law_40 (by rw [e_40_6]; decide) (by rw [e_40_6]; decide) (by rw [e_40_6]; rfl) (by decide) ?_
          refine cx_aload_n (i := 1) hE d_Lw_law_339 rfl rfl ?_
          refine cx_aload_n (i := 0) hE d_Lw_law_340 rfl rfl ?_
          refine cx_iload hE d_Lw_law_341 rfl ?_
          refine cx_iconst (v := 1) hE d_Lw_law_343 (by decide) ?_
          refine cx_iadd hE d_Lw_law_344 ?_
          rw [show nI (6 * t) + 1 = nI (6 * t + 1) from nI_add (6 * t) 1]
          refine cx_sld hE hX d_Lw_law_345 (vp_in_nI (by omega) (by omega)) ?_
          rw [nI_clamp (by omega)]
          refine cx_aload_n (i := 0) hE d_Lw_law_346 rfl rfl ?_
          refine cx_iload hE d_Lw_law_347 rfl ?_
          refine cx_iconst (v := 2) hE d_Lw_law_349 (by decide) ?_
          refine cx_iadd hE d_Lw_law_350 ?_
          rw [show nI (6 * t) + 2 = nI (6 * t + 2) from nI_add (6 * t) 2]
          refine cx_sld hE hX d_Lw_law_351 (vp_in_nI (by omega) (by omega)) ?_
          rw [nI_clamp (by omega)]
          refine cx_aload_n (i := 0) hE d_Lw_law_352 rfl rfl ?_
          refine cx_iload hE d_Lw_law_353 rfl ?_
          refine cx_iconst (v := 3) hE d_Lw_law_355 (by decide) ?_
          refine cx_iadd hE d_Lw_law_356 ?_
          rw [show nI (6 * t) + 3 = nI (6 * t + 3) from nI_add (6 * t) 3]
          refine cx_sld hE hX d_Lw_law_357 (vp_in_nI (by omega) (by omega)) ?_
          rw [nI_clamp (by omega)]
          refine cx_aload_n (i := 3) hE d_Lw_law_358 rfl rfl ?_
          refine cx_invS hE d_Lw_law_359 l_Lw_73 (c_Lw_declared hB.1 hB.2.2.1 hfl (by omega) (by omega) (m := xs (6 * t + 1)) (q := xs (6 * t + 2)) (w := xs (6 * t + 3))) rfl (by omega) (Nat.le_of_ble_eq_true rfl) n_Lw_declared (by rfl) (fun v9 G9 q9 => ?_) (fun a9 G9 q9 => ?_)
          · obtain ⟨kk, g', hr, hB1, hsp⟩ := lw_o6 hB (by omega) (by omega) q9
            cases hr
            show cx_V E 362 _ [.int kk] _
            refine cx_istore hE d_Lw_law_362 (by decide) ?_
            refine cx_aload_n (i := 2) hE d_Lw_law_364 rfl rfl ?_
            refine cx_aload_n (i := 0) hE d_Lw_law_365 rfl rfl ?_
            refine cx_iload hE d_Lw_law_366 rfl ?_
            refine cx_iconst (v := 1) hE d_Lw_law_368 (by decide) ?_
            refine cx_iadd hE d_Lw_law_369 ?_
            rw [show nI (6 * t) + 1 = nI (6 * t + 1) from nI_add (6 * t) 1]
            refine cx_sld hE hX d_Lw_law_370 (vp_in_nI (by omega) (by omega)) ?_
            rw [nI_clamp (by omega)]
            refine cx_aload_n (i := 0) hE d_Lw_law_371 rfl rfl ?_
            refine cx_iload hE d_Lw_law_372 rfl ?_
            refine cx_iconst (v := 2) hE d_Lw_law_374 (by decide) ?_
            refine cx_iadd hE d_Lw_law_375 ?_
            rw [show nI (6 * t) + 2 = nI (6 * t + 2) from nI_add (6 * t) 2]
            refine cx_sld hE hX d_Lw_law_376 (vp_in_nI (by omega) (by omega)) ?_
            rw [nI_clamp (by omega)]
            refine cx_aload_n (i := 0) hE d_Lw_law_377 rfl rfl ?_
            refine cx_iload hE d_Lw_law_378 rfl ?_
            refine cx_iconst (v := 3) hE d_Lw_law_380 (by decide) ?_
            refine cx_iadd hE d_Lw_law_381 ?_
            rw [show nI (6 * t) + 3 = nI (6 * t + 3) from nI_add (6 * t) 3]
            refine cx_sld hE hX d_Lw_law_382 (vp_in_nI (by omega) (by omega)) ?_
            rw [nI_clamp (by omega)]
            refine cx_invV hE d_Lw_law_383 l_Lw_76 hB1.2.1.1 (c_Mo_declared hB1.2.1 hB1.Q hI (m := xs (6 * t + 1)) (q := xs (6 * t + 2)) (w := xs (6 * t + 3))) rfl (by omega) (Nat.le_of_ble_eq_true rfl) n_Mo_declared (by rfl) (fun v8 G8 q8 => ?_) (fun a8 G8 q8 => ?_)
            · obtain ⟨vv, P', M', h0, hW, h1⟩ := q8
              cases h0
              have hB2 := hB1.rf hW
              obtain ⟨hMk, hval⟩ := hsp vv M' h1
              subst hMk
              show cx_V E 386 _ [.int vv] _
              refine cx_istore hE d_Lw_law_386 (by decide) ?_
              refine cx_aload_n (i := 2) hE d_Lw_law_388 rfl rfl ?_
              refine cx_invV hE d_Lw_law_389 l_Lw_49 hB2.2.1.1 (c_Mo_thrown hB2.2.1 hB2.Q) rfl (by omega) (Nat.le_of_ble_eq_true rfl) n_Mo_thrown (by rfl) (fun v7 G7 q7 => ?_) (fun a7 G7 q7 => ?_)
              · obtain ⟨tv, h0, rfl, h1⟩ := q7
                cases h0
                have htv := (h1.trans (show (rp_int M 0 kk).1 0 = kk from rfl)).symm
                subst htv
                refine cx_iload hE d_Lw_law_392 rfl ?_
                refine cx_icmp_eq (tgt := 399)  hE d_Lw_law_394 (by decide) (fun c_394 => ?_) (fun c_394 => ?_)
                · refine cx_iload hE d_Lw_law_399 rfl ?_
                  refine cx_if_ne (tgt := 416)  hE d_Lw_law_401 (by decide) (fun c_401 => ?_) (fun c_401 => ?_)
                  · refine cx_goto (tgt := 542) hE d_Lw_law_416 (by decide) ?_
                    refine cx_sub [2, 3, 4, 5, 6] rfl ?_
                    exact h542 _ (⟨ta, b, n, cap, f, ft, A, us, P', (rp_int M 0 kk), _, hB2.le (by omega) (by omega) (by omega) (by omega), (hI.z kk), (by omega)⟩)
                  · refine cx_aload_n (i := 3) hE d_Lw_law_404 rfl rfl ?_
                    refine cx_iconst (v := 0) hE d_Lw_law_405 (by decide) ?_
                    refine cx_lald 2 hE d_Lw_law_406 rfl hB2.2.2.1 (vp_in_nI (n := 0) (N := 1) (by omega) (by omega)) ?_
                    rw [show (0 : Int32).toNatClampNeg = 0 from rfl]
                    refine cx_iload hE d_Lw_law_407 rfl ?_
                    refine cx_i2l hE d_Lw_law_409 ?_
                    refine cx_lcmp hE d_Lw_law_410 ?_
                    refine cx_if_eq (tgt := 416)  hE d_Lw_law_411 (by decide) (fun c_411 => ?_) (fun c_411 => ?_)
                    · refine cx_goto (tgt := 542) hE d_Lw_law_416 (by decide) ?_
                      refine cx_sub [2, 3, 4, 5, 6] rfl ?_
                      exact h542 _ (⟨ta, b, n, cap, f, ft, A, us, P', (rp_int M 0 kk), _, hB2.le (by omega) (by omega) (by omega) (by omega), (hI.z kk), (by omega)⟩)
                    · exact absurd (rq_cmp0.mpr (hval c_401)) c_411
                      -- end
                · exact absurd rfl c_394
                  -- end
              · obtain ⟨tv, h0, -⟩ := q7
                cases h0
            · obtain ⟨vv, P', M', h0, -⟩ := q8
              cases h0
          · rcases q9 with ⟨-, h0, -⟩ | ⟨j, -, -, h0, -⟩ | ⟨j, v, -, -, h0, -⟩ <;> cases h0
        by_cases e_40_7 : sw = 7
        · refine cx_tableIn (off := 379) (tgt := 419) hE d_Lw_law_40 (by rw [e_40_7]; decide) (by rw [e_40_7]; decide) (by rw [e_40_7]; rfl) (by decide) ?_
          refine cx_aload_n (i := 1) hE d_Lw_law_419 rfl rfl ?_
          refine cx_aload_n (i := 0) hE d_Lw_law_420 rfl rfl ?_
          refine cx_iload hE d_Lw_law_421 rfl ?_
          refine cx_iconst (v := 1) hE d_Lw_law_423 (by decide) ?_
          refine cx_iadd hE d_Lw_law_424 ?_
          rw [show nI (6 * t) + 1 = nI (6 * t + 1) from nI_add (6 * t) 1]
          refine cx_sld hE hX d_Lw_law_425 (vp_in_nI (by omega) (by omega)) ?_
          rw [nI_clamp (by omega)]
          refine cx_aload_n (i := 0) hE d_Lw_law_426 rfl rfl ?_
          refine cx_iload hE d_Lw_law_427 rfl ?_
          refine cx_iconst (v := 2) hE d_Lw_law_429 (by decide) ?_
          refine cx_iadd hE d_Lw_law_430 ?_
          rw [show nI (6 * t) + 2 = nI (6 * t + 2) from nI_add (6 * t) 2]
          refine cx_sld hE hX d_Lw_law_431 (vp_in_nI (by omega) (by omega)) ?_
          rw [nI_clamp (by omega)]
          refine cx_aload_n (i := 3) hE d_Lw_law_432 rfl rfl ?_
          refine cx_invS hE d_Lw_law_433 l_Lw_77 (c_Lw_beginning hB.1 hB.2.2.1 hfl (by omega) (by omega) (m := xs (6 * t + 1)) (q := xs (6 * t + 2))) rfl (by omega) (Nat.le_of_ble_eq_true rfl) n_Lw_beginning (by rfl) (fun v9 G9 q9 => ?_) (fun a9 G9 q9 => ?_)
          · obtain ⟨kk, g', hr, hB1, hsp⟩ := lw_o7 hB (by omega) (by omega) q9
            cases hr
            show cx_V E 436 _ [.int kk] _
            refine cx_istore hE d_Lw_law_436 (by decide) ?_
            refine cx_aload_n (i := 2) hE d_Lw_law_438 rfl rfl ?_
            refine cx_aload_n (i := 0) hE d_Lw_law_439 rfl rfl ?_
            refine cx_iload hE d_Lw_law_440 rfl ?_
            refine cx_iconst (v := 1) hE d_Lw_law_442 (by decide) ?_
            refine cx_iadd hE d_Lw_law_443 ?_
            rw [show nI (6 * t) + 1 = nI (6 * t + 1) from nI_add (6 * t) 1]
            refine cx_sld hE hX d_Lw_law_444 (vp_in_nI (by omega) (by omega)) ?_
            rw [nI_clamp (by omega)]
            refine cx_aload_n (i := 0) hE d_Lw_law_445 rfl rfl ?_
            refine cx_iload hE d_Lw_law_446 rfl ?_
            refine cx_iconst (v := 2) hE d_Lw_law_448 (by decide) ?_
            refine cx_iadd hE d_Lw_law_449 ?_
            rw [show nI (6 * t) + 2 = nI (6 * t + 2) from nI_add (6 * t) 2]
            refine cx_sld hE hX d_Lw_law_450 (vp_in_nI (by omega) (by omega)) ?_
            rw [nI_clamp (by omega)]
            refine cx_invV hE d_Lw_law_451 l_Lw_79 hB1.2.1.1 (c_Mo_beginning hB1.2.1 hB1.Q hI (m := xs (6 * t + 1)) (q := xs (6 * t + 2))) rfl (by omega) (Nat.le_of_ble_eq_true rfl) n_Mo_beginning (by rfl) (fun v8 G8 q8 => ?_) (fun a8 G8 q8 => ?_)
            · obtain ⟨vv, P', M', h0, hW, h1⟩ := q8
              cases h0
              have hB2 := hB1.rf hW
              obtain ⟨hMk, hval⟩ := hsp vv M' h1
              subst hMk
              show cx_V E 454 _ [.long vv] _
              refine cx_lstore hE d_Lw_law_454 (by decide) ?_
              refine cx_aload_n (i := 2) hE d_Lw_law_456 rfl rfl ?_
              refine cx_invV hE d_Lw_law_457 l_Lw_49 hB2.2.1.1 (c_Mo_thrown hB2.2.1 hB2.Q) rfl (by omega) (Nat.le_of_ble_eq_true rfl) n_Mo_thrown (by rfl) (fun v7 G7 q7 => ?_) (fun a7 G7 q7 => ?_)
              · obtain ⟨tv, h0, rfl, h1⟩ := q7
                cases h0
                have htv := (h1.trans (show (rp_int M 0 kk).1 0 = kk from rfl)).symm
                subst htv
                refine cx_iload hE d_Lw_law_460 rfl ?_
                refine cx_icmp_eq (tgt := 467)  hE d_Lw_law_462 (by decide) (fun c_462 => ?_) (fun c_462 => ?_)
                · refine cx_iload hE d_Lw_law_467 rfl ?_
                  refine cx_if_ne (tgt := 483)  hE d_Lw_law_469 (by decide) (fun c_469 => ?_) (fun c_469 => ?_)
                  · refine cx_goto (tgt := 542) hE d_Lw_law_483 (by decide) ?_
                    refine cx_sub [2, 3, 4, 5, 6] rfl ?_
                    exact h542 _ (⟨ta, b, n, cap, f, ft, A, us, P', (rp_int M 0 kk), _, hB2.le (by omega) (by omega) (by omega) (by omega), (hI.z kk), (by omega)⟩)
                  · refine cx_aload_n (i := 3) hE d_Lw_law_472 rfl rfl ?_
                    refine cx_iconst (v := 0) hE d_Lw_law_473 (by decide) ?_
                    refine cx_lald 2 hE d_Lw_law_474 rfl hB2.2.2.1 (vp_in_nI (n := 0) (N := 1) (by omega) (by omega)) ?_
                    rw [show (0 : Int32).toNatClampNeg = 0 from rfl]
                    refine cx_lload hE d_Lw_law_475 rfl ?_
                    refine cx_lcmp hE d_Lw_law_477 ?_
                    refine cx_if_eq (tgt := 483)  hE d_Lw_law_478 (by decide) (fun c_478 => ?_) (fun c_478 => ?_)
                    · refine cx_goto (tgt := 542) hE d_Lw_law_483 (by decide) ?_
                      refine cx_sub [2, 3, 4, 5, 6] rfl ?_
                      exact h542 _ (⟨ta, b, n, cap, f, ft, A, us, P', (rp_int M 0 kk), _, hB2.le (by omega) (by omega) (by omega) (by omega), (hI.z kk), (by omega)⟩)
                    · exact absurd (rq_cmp0.mpr (hval c_469)) c_478
                      -- end
                · exact absurd rfl c_462
                  -- end
              · obtain ⟨tv, h0, -⟩ := q7
                cases h0
            · obtain ⟨vv, P', M', h0, -⟩ := q8
              cases h0
          · rcases q9 with ⟨-, h0, -⟩ | ⟨j, -, h0, -⟩ <;> cases h0
        by_cases e_40_8 : sw = 8
        · refine cx_tableIn (off := 446) (tgt := 486) hE d_Lw_law_40 (by rw [e_40_8]; decide) (by rw [e_40_8]; decide) (by rw [e_40_8]; rfl) (by decide) ?_
          refine cx_aload_n (i := 1) hE d_Lw_law_486 rfl rfl ?_
          refine cx_aload_n (i := 0) hE d_Lw_law_487 rfl rfl ?_
          refine cx_iload hE d_Lw_law_488 rfl ?_
          refine cx_iconst (v := 1) hE d_Lw_law_490 (by decide) ?_
          refine cx_iadd hE d_Lw_law_491 ?_
          rw [show nI (6 * t) + 1 = nI (6 * t + 1) from nI_add (6 * t) 1]
          refine cx_sld hE hX d_Lw_law_492 (vp_in_nI (by omega) (by omega)) ?_
          rw [nI_clamp (by omega)]
          refine cx_aload_n (i := 3) hE d_Lw_law_493 rfl rfl ?_
          refine cx_invS hE d_Lw_law_494 l_Lw_80 (c_Lw_find hB.1 hB.2.2.1 hfl (by omega) (by omega) hne.1.1 (fun T a ha => (hB.2.2.2.2.1.2.2.2 T a ha).1) (m := xs (6 * t + 1))) rfl (by omega) (Nat.le_of_ble_eq_true rfl) n_Lw_find (by rfl) (fun v9 G9 q9 => ?_) (fun a9 G9 q9 => ?_)
          · obtain ⟨kk, g', n', hnn, hr, hB1, hsp⟩ := lw_o8 hB (by omega) (by omega) q9
            cases hr
            show cx_V E 497 _ [.int kk] _
            refine cx_istore hE d_Lw_law_497 (by decide) ?_
            refine cx_aload_n (i := 2) hE d_Lw_law_499 rfl rfl ?_
            refine cx_aload_n (i := 0) hE d_Lw_law_500 rfl rfl ?_
            refine cx_iload hE d_Lw_law_501 rfl ?_
            refine cx_iconst (v := 1) hE d_Lw_law_503 (by decide) ?_
            refine cx_iadd hE d_Lw_law_504 ?_
            rw [show nI (6 * t) + 1 = nI (6 * t + 1) from nI_add (6 * t) 1]
            refine cx_sld hE hX d_Lw_law_505 (vp_in_nI (by omega) (by omega)) ?_
            rw [nI_clamp (by omega)]
            refine cx_invV hE d_Lw_law_506 l_Lw_83 hB1.2.1.1 (c_Mo_find hB1.2.1 hB1.Q hI (m := xs (6 * t + 1))) rfl (by omega) (Nat.le_of_ble_eq_true rfl) n_Mo_find (by rfl) (fun v8 G8 q8 => ?_) (fun a8 G8 q8 => ?_)
            · obtain ⟨vv, P', M', h0, hW, h1⟩ := q8
              cases h0
              have hB2 := hB1.rf hW
              obtain ⟨hMk, hr8⟩ := hsp vv M' hI h1
              show cx_V E 509 _ [.int vv] _
              refine cx_istore hE d_Lw_law_509 (by decide) ?_
              refine cx_aload_n (i := 2) hE d_Lw_law_511 rfl rfl ?_
              refine cx_invV hE d_Lw_law_512 l_Lw_49 hB2.2.1.1 (c_Mo_thrown hB2.2.1 hB2.Q) rfl (by omega) (Nat.le_of_ble_eq_true rfl) n_Mo_thrown (by rfl) (fun v7 G7 q7 => ?_) (fun a7 G7 q7 => ?_)
              · obtain ⟨tv, h0, rfl, h1⟩ := q7
                cases h0
                have htv := (h1.trans hMk).symm
                subst htv
                refine cx_iload hE d_Lw_law_515 rfl ?_
                refine cx_icmp_eq (tgt := 522)  hE d_Lw_law_517 (by decide) (fun c_517 => ?_) (fun c_517 => ?_)
                · refine cx_iload hE d_Lw_law_522 rfl ?_
                  refine cx_if_ne (tgt := 539)  hE d_Lw_law_524 (by decide) (fun c_524 => ?_) (fun c_524 => ?_)
                  · refine cx_goto (tgt := 542) hE d_Lw_law_539 (by decide) ?_
                    refine cx_sub [2, 3, 4, 5, 6] rfl ?_
                    exact h542 _ (⟨ta, b, n', cap, f, ft, A, us, P', M', _, hB2.le (by omega) (by omega) (by omega) (by omega), hr8.1, (by omega)⟩)
                  · refine cx_aload_n (i := 3) hE d_Lw_law_527 rfl rfl ?_
                    refine cx_iconst (v := 0) hE d_Lw_law_528 (by decide) ?_
                    refine cx_lald 2 hE d_Lw_law_529 rfl hB2.2.2.1 (vp_in_nI (n := 0) (N := 1) (by omega) (by omega)) ?_
                    rw [show (0 : Int32).toNatClampNeg = 0 from rfl]
                    refine cx_iload hE d_Lw_law_530 rfl ?_
                    refine cx_i2l hE d_Lw_law_532 ?_
                    refine cx_lcmp hE d_Lw_law_533 ?_
                    refine cx_if_eq (tgt := 539)  hE d_Lw_law_534 (by decide) (fun c_534 => ?_) (fun c_534 => ?_)
                    · refine cx_goto (tgt := 542) hE d_Lw_law_539 (by decide) ?_
                      refine cx_sub [2, 3, 4, 5, 6] rfl ?_
                      exact h542 _ (⟨ta, b, n', cap, f, ft, A, us, P', M', _, hB2.le (by omega) (by omega) (by omega) (by omega), hr8.1, (by omega)⟩)
                    · exact absurd (rq_cmp0.mpr (hr8.2 c_524)) c_534
                      -- end
                · exact absurd rfl c_517
                  -- end
              · obtain ⟨tv, h0, -⟩ := q7
                cases h0
            · obtain ⟨vv, P', M', h0, -⟩ := q8
              cases h0
          · rcases q9 with ⟨-, h0, -⟩ | ⟨j, v, Gc, -, -, -, -, -, h0, -⟩ <;> cases h0
        refine cx_tableOut (tgt := 542) hE d_Lw_law_40 (by have h_0 := tx_ti (n := 0) e_40_0; have h_1 := tx_ti (n := 1) e_40_1; have h_2 := tx_ti (n := 2) e_40_2; have h_3 := tx_ti (n := 3) e_40_3; have h_4 := tx_ti (n := 4) e_40_4; have h_5 := tx_ti (n := 5) e_40_5; have h_6 := tx_ti (n := 6) e_40_6; have h_7 := tx_ti (n := 7) e_40_7; have h_8 := tx_ti (n := 8) e_40_8; simp only [Int32.reduceToInt] at *; omega) (by decide) ?_
        refine cx_sub [0, 1, 2, 3, 4] rfl ?_
        exact h542 _ (⟨ta, b, n, cap, f, ft, A, us, P, M, g, hB.le (by omega) (by omega) (by omega) (by omega), hI, (by omega)⟩)
  exact fun G1 hJ => hloop 1000 0 G1 (by omega) hJ
set_option maxRecDepth 100000 in
set_option maxHeartbeats 4000000 in
theorem law_body {E : cx_E} {k : cx_K} {l : Launch} {G0 : cx_G} {sc L : Nat} {xs : Nat → Int32} (hE : cx_C E k l 570 m_Lw_law G0 (fun r _ => r = .inl (some (.int 1)))) (hX : lw_X E sc L xs) (hL : L ≤ 3072) (hfl : l.flags = flags0) (h01 : G0.2.1 = 0) (h02 : G0.2.2 = 0) : cx_V E 0 [(0, false, .ref sc)] [] G0 := by
  refine cx_newh 3 rfl hE d_Lw_law_0 z_Lw_8 (by omega) (by omega) (fun a_0 G_0 n_0 b_0 g_0 h_0 => ?_)
  refine cx_dup hE d_Lw_law_3 ?_
  refine cx_invI hE d_Lw_law_4 l_Lw_39 (c_CT_init h_0 (by rw [(cx_mc g_0).1]; omega) (by rw [(cx_mc g_0).2]; omega)) rfl (by omega) (Nat.le_of_ble_eq_true rfl) n_CT_init (by rfl) (fun v G2 q => ?_) (fun a G2 q => by cases q.1)
  obtain ⟨q0, ta, b, ul, -, hR, -, q1, q2⟩ := q
  cases q0
  have c_0 := cx_mc g_0
  show cx_V E 7 _ [.ref a_0] G2
  refine cx_astore_n (i := 1) hE d_Lw_law_7 rfl (by decide) ?_
  refine cx_newh 58 rfl hE d_Lw_law_8 z_Lw_40 (by omega) (by omega) (fun a_8 G_8 n_8 b_8 g_8 h_8 => ?_)
  refine cx_dup hE d_Lw_law_11 ?_
  refine cx_invI hE d_Lw_law_12 l_Lw_42 (c_Mo_init (P := fun _ => 0) h_8 (by rw [(cx_mc g_8).1]; omega) (by rw [(cx_mc g_8).2]; omega)) rfl (by omega) (Nat.le_of_ble_eq_true rfl) n_Mo_init (by rfl) (fun v G4 q => ?_) (fun a G4 q => by cases q.1)
  obtain ⟨q0, P, hm, hfr, hfs, q3, q4⟩ := q
  cases q0
  have c_8 := cx_mc g_8
  show cx_V E 15 _ [.ref a_8] G4
  refine cx_astore_n (i := 2) hE d_Lw_law_15 rfl (by decide) ?_
  refine cx_iconst (v := 1) hE d_Lw_law_16 (by decide) ?_
  refine cx_newa 2 (a0 := (1, .inr (.inl (fun _ => 0)))) (N' := 1) hE d_Lw_law_17 (in_7 (List.mem_of_getElem? (i := 31) rfl)) rfl rfl (fun _ => rfl) (by decide) (by decide) (by decide) (by show _ ≤ 601024; omega) (by show _ ≤ 7293034; omega) (fun a_17 n_17 b_17 => ?_)
  refine cx_gen (fun G_17 g_17 => ?_)
  refine cx_astore_n (i := 3) hE d_Lw_law_19 rfl (by decide) ?_
  refine cx_iconst (v := 0) hE d_Lw_law_20 (by decide) ?_
  refine cx_istore hE d_Lw_law_21 (by decide) ?_
  refine cx_sub [0, 1, 2, 3, 4] rfl ?_
  exact law_loop hE hX hL hfl _ (lw_init hR n_8 g_8 hm hfr hfs q3 q4 n_17 g_17 (by omega) (by omega))

/-! THE REFERENCE: feed, module. -/
theorem rr_sh : ∀ t, t < 4 → (24 : Int32) - 8 * nI t = ct_sh t := by decide
def rr_pm (us : List tx_U) (m w : Int32) (M : rm_M) (v : Int32) (M' : rm_M) : Prop := match ct_ix m us.length with
  | none => M' = rp_int M 0 1
  | some j => match ct_md (us.getD j tx_u0) w with
    | none => M' = rp_int M 0 2
    | some x => v = x ∧ M' = rp_int M 0 0
theorem rr_pm.a {us : List tx_U} {m w v : Int32} {M : rm_M} (h : ct_ix m us.length = none) : rr_pm us m w M v (rp_int M 0 1) := by
  unfold rr_pm
  rw [h]
theorem rr_pm.b {us : List tx_U} {m w v : Int32} {M : rm_M} {j : Nat} (h : ct_ix m us.length = some j) (h2 : ct_md (us.getD j tx_u0) w = none) : rr_pm us m w M v (rp_int M 0 2) := by
  simp only [rr_pm, h, h2]
theorem rr_pm.c {us : List tx_U} {m w v x : Int32} {M : rm_M} {j : Nat} (h : ct_ix m us.length = some j) (h2 : ct_md (us.getD j tx_u0) w = some x) (hv : v = x) : rr_pm us m w M v (rp_int M 0 0) := by
  simp only [rr_pm, h, h2]
  exact ⟨hv, trivial⟩
theorem rr_md2 {u : tx_U} {w : Int32} (h : w < 0 ∨ ¬ w ≤ 7) : ct_md u w = none := by
  refine ct_md_n ?_ ?_ ?_ ?_ ?_ ?_ ?_ ?_ <;> (intro e; rw [e] at h; revert h; decide)
theorem rr_w7 {w : Int32} (h : ¬ w < 0) (h7 : w ≤ 7) (h0 : ¬ w = 0) (h1 : ¬ w = 1) (h2 : ¬ w = 2) (h3 : ¬ w = 3) (h4 : ¬ w = 4) (h5 : ¬ w = 5) (h6 : ¬ w = 6) : w = 7 := by
  obtain ⟨j, hj, rfl⟩ := nI_of2 (M := 7) (n := 7) rfl h h7
  rcases (show j = 0 ∨ j = 1 ∨ j = 2 ∨ j = 3 ∨ j = 4 ∨ j = 5 ∨ j = 6 ∨ j = 7 by omega) with rfl | rfl | rfl | rfl | rfl | rfl | rfl | rfl
  · exact absurd rfl h0
  · exact absurd rfl h1
  · exact absurd rfl h2
  · exact absurd rfl h3
  · exact absurd rfl h4
  · exact absurd rfl h5
  · exact absurd rfl h6
  · rfl
theorem rr_cst {c : Nat} (hc : c < 1000000000) : (lg_cmp (lN c) 1500 ≤ 0 → nI (min c 1501) = (lN c).toInt32) ∧ (¬ lg_cmp (lN c) 1500 ≤ 0 → nI (min c 1501) = 1501) := by
  have e : lg_cmp (lN c) 1500 ≤ 0 ↔ c ≤ 1500 := by
    rw [rq_cmpL, show (1500 : Int64) = lN 1500 from rfl, lN_lt (by omega) (by omega)]
    omega
  refine ⟨fun h => ?_, fun h => ?_⟩
  · rw [lN_i, Nat.min_eq_left (by have := e.mp h; omega)]
  · rw [Nat.min_eq_right (by
      rcases Nat.lt_or_ge 1500 c with y | y
      · omega
      · exact absurd (e.mpr y) h)]
    rfl
set_option maxRecDepth 100000 in
theorem c_Mo_feed {k : cx_K} {l : Launch} {G : cx_G} {mo : Nat} {P : Nat → Nat} {M : rm_M} {b : Nat × Nat} (hm : rm_R k G mo P M) (hQ : rm_Q b G M) {n : Nat} {f : Nat → Int32} {ft : Int32} {us : List tx_U} (hI : rr_I M n f ft us) {av : Nat → Int32} {f' : Nat → Int32} (hn20 : n + 20 ≤ 10240) (hf1 : ∀ j, j < n → f' j = f j) (hf2 : ∀ i, i < 5 → ∀ j, j < 4 → f' (n + 4 * i + j) = ct_by (av i) (ct_sh j))  : cx_Sp k l m_Mo_feed 0 [.ref mo, .int (av 0), .int (av 1), .int (av 2), .int (av 3), .int (av 4)] G (rp_P k mo b G P (fun v M9 => v = nI (n + 20) ∧ M9.1 0 = 0 ∧ rr_I M9 (n + 20) f' ft us)) := by
  intro E hE
  have W0 := rm_W.rf hm hQ
  have m0 := hm.1
  have hI0 := hI
  obtain ⟨g54, gn, gf, g3, gb, gu, gT⟩ := hI
  have h123 : ∀ (xk : Int32) (G1 : cx_G) (P1 : Nat → Nat) (M1 : rm_M), rr_fd M M1 n 20 f' → rm_W k mo b G P G1 P1 M1 → cx_V E 123 [(6, false, .int xk), (0, false, .ref mo), (1, false, .int (av 0)), (2, false, .int (av 1)), (3, false, .int (av 2)), (4, false, .int (av 3)), (5, false, .int (av 4))] [] G1 := by
    intro xk G1 P1 M1 hfd W1
    have m1 := W1.1.1
    have el : M1.1 54 = nI n := by rw [hfd.1]; exact g54
    have hfin := hfd.I hI0 hn20 hf1
    refine cx_aload_n (i := 0) hE d_Mo_feed_123 rfl rfl ?_
    refine cx_aload_n (i := 0) hE d_Mo_feed_124 rfl rfl ?_
    refine cx_get hE d_Mo_feed_125 f_Mo_407 (by assumption) (by rfl) ?_
    rw [el]
    refine cx_bipush (v := 20) hE d_Mo_feed_128 (by decide) ?_
    refine cx_iadd hE d_Mo_feed_130 ?_
    rw [show nI n + 20 = nI (n + 20) from nI_add n 20]
    refine cx_putg hE d_Mo_feed_131 f_Mo_407 (by assumption) (Nat.le_of_ble_eq_true rfl) (by first | rfl | exact cx_nr _ _) (by first | rfl | exact cx_fr _ _) (fun G_131 g_131 h_131 => ?_)
    rw [rm_s54] at g_131
    clear h_131
    have W_131 : rm_W k mo b G P G_131 P1 (rp_int M1 54 (nI (n + 20))) := W1.pi g_131
    have m_131 := W_131.1.1
    refine cx_aload_n (i := 0) hE d_Mo_feed_134 rfl rfl ?_
    refine cx_get hE d_Mo_feed_135 f_Mo_407 (by assumption) (by rfl) ?_
    refine cx_iret hE d_Mo_feed_138 rfl rfl ?_
    exact ⟨_, _, _, rfl, W_131, rfl, hfin.2, hfin.1⟩
  have h36 : ∀ (d kk : Nat) (G1 : cx_G) (P1 : Nat → Nat) (M1 : rm_M), kk + d = 20 → rr_fd M M1 n kk f' → rm_W k mo b G P G1 P1 M1 → cx_V E 36 [(6, false, .int (nI kk)), (0, false, .ref mo), (1, false, .int (av 0)), (2, false, .int (av 1)), (3, false, .int (av 2)), (4, false, .int (av 3)), (5, false, .int (av 4))] [] G1 := by
    intro d
    induction d using Nat.strongRecOn with
    | ind d ih =>
      intro kk G1 P1 M1 hkd hfd W1
      have m1 := W1.1.1
      have el : M1.1 54 = nI n := by rw [hfd.1]; exact g54
      refine cx_iload hE d_Mo_feed_36 rfl ?_
      refine cx_bipush (v := 20) hE d_Mo_feed_38 (by decide) ?_
      refine cx_icmp_ge (tgt := 123)  hE d_Mo_feed_40 (by decide) (fun c_40 => ?_) (fun c_40 => ?_)
      · have ek : kk = 20 := by
          have := (nI_leI (a := 20) (b := kk) (by omega) (by omega)).mp c_40
          omega
        rw [ek] at hfd
        refine cx_sub [0, 1, 2, 3, 4, 5, 6] rfl ?_
        exact h123 _ _ _ _ hfd W1
      · have l_40 : kk < 20 := by
          rcases Nat.lt_or_ge kk 20 with y | y
          · exact y
          · exact absurd (nI_le (a := 20) (b := kk) y (by omega)) c_40
        refine cx_iload hE d_Mo_feed_43 rfl ?_
        refine cx_iconst (v := 4) hE d_Mo_feed_45 (by decide) ?_
        refine cx_icmp_ge (tgt := 53)  hE d_Mo_feed_46 (by decide) (fun c_46 => ?_) (fun c_46 => ?_)
        · have l_46 : 4 ≤ kk := (nI_leI (a := 4) (b := kk) (by omega) (by omega)).mp c_46
          refine cx_iload hE d_Mo_feed_53 rfl ?_
          refine cx_bipush (v := 8) hE d_Mo_feed_55 (by decide) ?_
          refine cx_icmp_ge (tgt := 64)  hE d_Mo_feed_57 (by decide) (fun c_57 => ?_) (fun c_57 => ?_)
          · have l_57 : 8 ≤ kk := (nI_leI (a := 8) (b := kk) (by omega) (by omega)).mp c_57
            refine cx_iload hE d_Mo_feed_64 rfl ?_
            refine cx_bipush (v := 12) hE d_Mo_feed_66 (by decide) ?_
            refine cx_icmp_ge (tgt := 75)  hE d_Mo_feed_68 (by decide) (fun c_68 => ?_) (fun c_68 => ?_)
            · have l_68 : 12 ≤ kk := (nI_leI (a := 12) (b := kk) (by omega) (by omega)).mp c_68
              refine cx_iload hE d_Mo_feed_75 rfl ?_
              refine cx_bipush (v := 16) hE d_Mo_feed_77 (by decide) ?_
              refine cx_icmp_ge (tgt := 87)  hE d_Mo_feed_79 (by decide) (fun c_79 => ?_) (fun c_79 => ?_)
              · have l_79 : 16 ≤ kk := (nI_leI (a := 16) (b := kk) (by omega) (by omega)).mp c_79
                refine cx_iload hE d_Mo_feed_87 rfl ?_
                refine cx_istore hE d_Mo_feed_89 (by decide) ?_
                refine cx_aload_n (i := 0) hE d_Mo_feed_91 rfl rfl ?_
                refine cx_get hE d_Mo_feed_92 f_Mo_8 (by assumption) (by rfl) ?_
                refine cx_aload_n (i := 0) hE d_Mo_feed_95 rfl rfl ?_
                refine cx_get hE d_Mo_feed_96 f_Mo_407 (by assumption) (by rfl) ?_
                rw [el]
                refine cx_iload hE d_Mo_feed_99 rfl ?_
                refine cx_iadd hE d_Mo_feed_101 ?_
                rw [nI_add]
                refine cx_iload hE d_Mo_feed_102 rfl ?_
                refine cx_bipush (v := 24) hE d_Mo_feed_104 (by decide) ?_
                refine cx_bipush (v := 8) hE d_Mo_feed_106 (by decide) ?_
                refine cx_iload hE d_Mo_feed_108 rfl ?_
                refine cx_iconst (v := 4) hE d_Mo_feed_110 (by decide) ?_
                refine cx_irem hE d_Mo_feed_111 (by decide) ?_
                rw [show nI kk - nI kk / 4 * 4 = nI (kk % 4) from pk_rem (d := 4) (by omega) (by omega) (by omega)]
                refine cx_imul hE d_Mo_feed_112 ?_
                refine cx_isub hE d_Mo_feed_113 ?_
                rw [rr_sh (kk % 4) (Nat.mod_lt _ (by omega))]
                refine cx_ishr hE d_Mo_feed_114 ?_
                refine cx_i2b hE d_Mo_feed_115 ?_
                have hib : 4 * 4 ≤ kk ∧ kk < 4 * 4 + 4 := by omega
                refine cx_bast 0 hE d_Mo_feed_116 rfl (W1.1.b 1 rfl) (vp_in_nI (by show n + kk < 65536; omega) (by show 65536 < 2147483648; omega)) ?_
                rw [nI_clamp (by omega)]
                refine cx_gen (fun G_116 g_116 => ?_)
                have W_116 := W1.sb 1 rfl g_116
                have m_116 := W_116.1.1
                have hby : ct_by (av 4) (ct_sh (kk % 4)) = f' (n + kk) := by
                  have := hf2 4 (by omega) (kk % 4) (by omega)
                  rw [show n + 4 * 4 + kk % 4 = n + kk by omega] at this
                  exact this.symm
                refine cx_iinc (v := nI (kk + 1)) hE d_Mo_feed_117 rfl (nI_1 _) (by decide) ?_
                refine cx_goto (tgt := 36) hE d_Mo_feed_120 (by decide) ?_
                refine cx_sub [0, 2, 3, 4, 5, 6, 7] rfl ?_
                exact ih (d - 1) (by omega) (kk + 1) _ _ _ (by omega) (hfd.st hby (ct_byf _ _)) W_116
              · have l_79 : kk < 16 := by
                  rcases Nat.lt_or_ge kk 16 with y | y
                  · exact y
                  · exact absurd (nI_le (a := 16) (b := kk) y (by omega)) c_79
                refine cx_iload hE d_Mo_feed_82 rfl ?_
                refine cx_goto (tgt := 89) hE d_Mo_feed_84 (by decide) ?_
                refine cx_istore hE d_Mo_feed_89 (by decide) ?_
                refine cx_aload_n (i := 0) hE d_Mo_feed_91 rfl rfl ?_
                refine cx_get hE d_Mo_feed_92 f_Mo_8 (by assumption) (by rfl) ?_
                refine cx_aload_n (i := 0) hE d_Mo_feed_95 rfl rfl ?_
                refine cx_get hE d_Mo_feed_96 f_Mo_407 (by assumption) (by rfl) ?_
                rw [el]
                refine cx_iload hE d_Mo_feed_99 rfl ?_
                refine cx_iadd hE d_Mo_feed_101 ?_
                rw [nI_add]
                refine cx_iload hE d_Mo_feed_102 rfl ?_
                refine cx_bipush (v := 24) hE d_Mo_feed_104 (by decide) ?_
                refine cx_bipush (v := 8) hE d_Mo_feed_106 (by decide) ?_
                refine cx_iload hE d_Mo_feed_108 rfl ?_
                refine cx_iconst (v := 4) hE d_Mo_feed_110 (by decide) ?_
                refine cx_irem hE d_Mo_feed_111 (by decide) ?_
                rw [show nI kk - nI kk / 4 * 4 = nI (kk % 4) from pk_rem (d := 4) (by omega) (by omega) (by omega)]
                refine cx_imul hE d_Mo_feed_112 ?_
                refine cx_isub hE d_Mo_feed_113 ?_
                rw [rr_sh (kk % 4) (Nat.mod_lt _ (by omega))]
                refine cx_ishr hE d_Mo_feed_114 ?_
                refine cx_i2b hE d_Mo_feed_115 ?_
                have hib : 4 * 3 ≤ kk ∧ kk < 4 * 3 + 4 := by omega
                refine cx_bast 0 hE d_Mo_feed_116 rfl (W1.1.b 1 rfl) (vp_in_nI (by show n + kk < 65536; omega) (by show 65536 < 2147483648; omega)) ?_
                rw [nI_clamp (by omega)]
                refine cx_gen (fun G_116 g_116 => ?_)
                have W_116 := W1.sb 1 rfl g_116
                have m_116 := W_116.1.1
                have hby : ct_by (av 3) (ct_sh (kk % 4)) = f' (n + kk) := by
                  have := hf2 3 (by omega) (kk % 4) (by omega)
                  rw [show n + 4 * 3 + kk % 4 = n + kk by omega] at this
                  exact this.symm
                refine cx_iinc (v := nI (kk + 1)) hE d_Mo_feed_117 rfl (nI_1 _) (by decide) ?_
                refine cx_goto (tgt := 36) hE d_Mo_feed_120 (by decide) ?_
                refine cx_sub [0, 2, 3, 4, 5, 6, 7] rfl ?_
                exact ih (d - 1) (by omega) (kk + 1) _ _ _ (by omega) (hfd.st hby (ct_byf _ _)) W_116
            · have l_68 : kk < 12 := by
                rcases Nat.lt_or_ge kk 12 with y | y
                · exact y
                · exact absurd (nI_le (a := 12) (b := kk) y (by omega)) c_68
              refine cx_iload_n (i := 3) hE d_Mo_feed_71 rfl rfl ?_
              refine cx_goto (tgt := 89) hE d_Mo_feed_72 (by decide) ?_
              refine cx_istore hE d_Mo_feed_89 (by decide) ?_
              refine cx_aload_n (i := 0) hE d_Mo_feed_91 rfl rfl ?_
              refine cx_get hE d_Mo_feed_92 f_Mo_8 (by assumption) (by rfl) ?_
              refine cx_aload_n (i := 0) hE d_Mo_feed_95 rfl rfl ?_
              refine cx_get hE d_Mo_feed_96 f_Mo_407 (by assumption) (by rfl) ?_
              rw [el]
              refine cx_iload hE d_Mo_feed_99 rfl ?_
              refine cx_iadd hE d_Mo_feed_101 ?_
              rw [nI_add]
              refine cx_iload hE d_Mo_feed_102 rfl ?_
              refine cx_bipush (v := 24) hE d_Mo_feed_104 (by decide) ?_
              refine cx_bipush (v := 8) hE d_Mo_feed_106 (by decide) ?_
              refine cx_iload hE d_Mo_feed_108 rfl ?_
              refine cx_iconst (v := 4) hE d_Mo_feed_110 (by decide) ?_
              refine cx_irem hE d_Mo_feed_111 (by decide) ?_
              rw [show nI kk - nI kk / 4 * 4 = nI (kk % 4) from pk_rem (d := 4) (by omega) (by omega) (by omega)]
              refine cx_imul hE d_Mo_feed_112 ?_
              refine cx_isub hE d_Mo_feed_113 ?_
              rw [rr_sh (kk % 4) (Nat.mod_lt _ (by omega))]
              refine cx_ishr hE d_Mo_feed_114 ?_
              refine cx_i2b hE d_Mo_feed_115 ?_
              have hib : 4 * 2 ≤ kk ∧ kk < 4 * 2 + 4 := by omega
              refine cx_bast 0 hE d_Mo_feed_116 rfl (W1.1.b 1 rfl) (vp_in_nI (by show n + kk < 65536; omega) (by show 65536 < 2147483648; omega)) ?_
              rw [nI_clamp (by omega)]
              refine cx_gen (fun G_116 g_116 => ?_)
              have W_116 := W1.sb 1 rfl g_116
              have m_116 := W_116.1.1
              have hby : ct_by (av 2) (ct_sh (kk % 4)) = f' (n + kk) := by
                have := hf2 2 (by omega) (kk % 4) (by omega)
                rw [show n + 4 * 2 + kk % 4 = n + kk by omega] at this
                exact this.symm
              refine cx_iinc (v := nI (kk + 1)) hE d_Mo_feed_117 rfl (nI_1 _) (by decide) ?_
              refine cx_goto (tgt := 36) hE d_Mo_feed_120 (by decide) ?_
              refine cx_sub [0, 2, 3, 4, 5, 6, 7] rfl ?_
              exact ih (d - 1) (by omega) (kk + 1) _ _ _ (by omega) (hfd.st hby (ct_byf _ _)) W_116
          · have l_57 : kk < 8 := by
              rcases Nat.lt_or_ge kk 8 with y | y
              · exact y
              · exact absurd (nI_le (a := 8) (b := kk) y (by omega)) c_57
            refine cx_iload_n (i := 2) hE d_Mo_feed_60 rfl rfl ?_
            refine cx_goto (tgt := 89) hE d_Mo_feed_61 (by decide) ?_
            refine cx_istore hE d_Mo_feed_89 (by decide) ?_
            refine cx_aload_n (i := 0) hE d_Mo_feed_91 rfl rfl ?_
            refine cx_get hE d_Mo_feed_92 f_Mo_8 (by assumption) (by rfl) ?_
            refine cx_aload_n (i := 0) hE d_Mo_feed_95 rfl rfl ?_
            refine cx_get hE d_Mo_feed_96 f_Mo_407 (by assumption) (by rfl) ?_
            rw [el]
            refine cx_iload hE d_Mo_feed_99 rfl ?_
            refine cx_iadd hE d_Mo_feed_101 ?_
            rw [nI_add]
            refine cx_iload hE d_Mo_feed_102 rfl ?_
            refine cx_bipush (v := 24) hE d_Mo_feed_104 (by decide) ?_
            refine cx_bipush (v := 8) hE d_Mo_feed_106 (by decide) ?_
            refine cx_iload hE d_Mo_feed_108 rfl ?_
            refine cx_iconst (v := 4) hE d_Mo_feed_110 (by decide) ?_
            refine cx_irem hE d_Mo_feed_111 (by decide) ?_
            rw [show nI kk - nI kk / 4 * 4 = nI (kk % 4) from pk_rem (d := 4) (by omega) (by omega) (by omega)]
            refine cx_imul hE d_Mo_feed_112 ?_
            refine cx_isub hE d_Mo_feed_113 ?_
            rw [rr_sh (kk % 4) (Nat.mod_lt _ (by omega))]
            refine cx_ishr hE d_Mo_feed_114 ?_
            refine cx_i2b hE d_Mo_feed_115 ?_
            have hib : 4 * 1 ≤ kk ∧ kk < 4 * 1 + 4 := by omega
            refine cx_bast 0 hE d_Mo_feed_116 rfl (W1.1.b 1 rfl) (vp_in_nI (by show n + kk < 65536; omega) (by show 65536 < 2147483648; omega)) ?_
            rw [nI_clamp (by omega)]
            refine cx_gen (fun G_116 g_116 => ?_)
            have W_116 := W1.sb 1 rfl g_116
            have m_116 := W_116.1.1
            have hby : ct_by (av 1) (ct_sh (kk % 4)) = f' (n + kk) := by
              have := hf2 1 (by omega) (kk % 4) (by omega)
              rw [show n + 4 * 1 + kk % 4 = n + kk by omega] at this
              exact this.symm
            refine cx_iinc (v := nI (kk + 1)) hE d_Mo_feed_117 rfl (nI_1 _) (by decide) ?_
            refine cx_goto (tgt := 36) hE d_Mo_feed_120 (by decide) ?_
            refine cx_sub [0, 2, 3, 4, 5, 6, 7] rfl ?_
            exact ih (d - 1) (by omega) (kk + 1) _ _ _ (by omega) (hfd.st hby (ct_byf _ _)) W_116
        · have l_46 : kk < 4 := by
            rcases Nat.lt_or_ge kk 4 with y | y
            · exact y
            · exact absurd (nI_le (a := 4) (b := kk) y (by omega)) c_46
          refine cx_iload_n (i := 1) hE d_Mo_feed_49 rfl rfl ?_
          refine cx_goto (tgt := 89) hE d_Mo_feed_50 (by decide) ?_
          refine cx_istore hE d_Mo_feed_89 (by decide) ?_
          refine cx_aload_n (i := 0) hE d_Mo_feed_91 rfl rfl ?_
          refine cx_get hE d_Mo_feed_92 f_Mo_8 (by assumption) (by rfl) ?_
          refine cx_aload_n (i := 0) hE d_Mo_feed_95 rfl rfl ?_
          refine cx_get hE d_Mo_feed_96 f_Mo_407 (by assumption) (by rfl) ?_
          rw [el]
          refine cx_iload hE d_Mo_feed_99 rfl ?_
          refine cx_iadd hE d_Mo_feed_101 ?_
          rw [nI_add]
          refine cx_iload hE d_Mo_feed_102 rfl ?_
          refine cx_bipush (v := 24) hE d_Mo_feed_104 (by decide) ?_
          refine cx_bipush (v := 8) hE d_Mo_feed_106 (by decide) ?_
          refine cx_iload hE d_Mo_feed_108 rfl ?_
          refine cx_iconst (v := 4) hE d_Mo_feed_110 (by decide) ?_
          refine cx_irem hE d_Mo_feed_111 (by decide) ?_
          rw [show nI kk - nI kk / 4 * 4 = nI (kk % 4) from pk_rem (d := 4) (by omega) (by omega) (by omega)]
          refine cx_imul hE d_Mo_feed_112 ?_
          refine cx_isub hE d_Mo_feed_113 ?_
          rw [rr_sh (kk % 4) (Nat.mod_lt _ (by omega))]
          refine cx_ishr hE d_Mo_feed_114 ?_
          refine cx_i2b hE d_Mo_feed_115 ?_
          have hib : 4 * 0 ≤ kk ∧ kk < 4 * 0 + 4 := by omega
          refine cx_bast 0 hE d_Mo_feed_116 rfl (W1.1.b 1 rfl) (vp_in_nI (by show n + kk < 65536; omega) (by show 65536 < 2147483648; omega)) ?_
          rw [nI_clamp (by omega)]
          refine cx_gen (fun G_116 g_116 => ?_)
          have W_116 := W1.sb 1 rfl g_116
          have m_116 := W_116.1.1
          have hby : ct_by (av 0) (ct_sh (kk % 4)) = f' (n + kk) := by
            have := hf2 0 (by omega) (kk % 4) (by omega)
            rw [show n + 4 * 0 + kk % 4 = n + kk by omega] at this
            exact this.symm
          refine cx_iinc (v := nI (kk + 1)) hE d_Mo_feed_117 rfl (nI_1 _) (by decide) ?_
          refine cx_goto (tgt := 36) hE d_Mo_feed_120 (by decide) ?_
          refine cx_sub [0, 2, 3, 4, 5, 6, 7] rfl ?_
          exact ih (d - 1) (by omega) (kk + 1) _ _ _ (by omega) (hfd.st hby (ct_byf _ _)) W_116
  refine cx_aload_n (i := 0) hE d_Mo_feed_0 rfl rfl ?_
  refine cx_aload_n (i := 0) hE d_Mo_feed_1 rfl rfl ?_
  refine cx_get hE d_Mo_feed_2 f_Mo_407 (by assumption) (by rfl) ?_
  rw [g54]
  refine cx_bipush (v := 20) hE d_Mo_feed_5 (by decide) ?_
  refine cx_iadd hE d_Mo_feed_7 ?_
  rw [show nI n + 20 = nI (n + 20) from nI_add n 20]
  refine cx_aload_n (i := 0) hE d_Mo_feed_8 rfl rfl ?_
  refine cx_get hE d_Mo_feed_9 f_Mo_8 (by assumption) (by rfl) ?_
  refine cx_alen 0 hE d_Mo_feed_12 rfl (W0.1.b 1 rfl) (v := nI 65536) rfl ?_
  refine cx_icmp_le (tgt := 20)  hE d_Mo_feed_13 (by decide) (fun c_13 => ?_) (fun c_13 => ?_)
  · refine cx_iconst (v := 0) hE d_Mo_feed_20 (by decide) ?_
    refine cx_putg hE d_Mo_feed_21 f_Mo_122 (by assumption) (Nat.le_of_ble_eq_true rfl) (by first | rfl | exact cx_nr _ _) (by first | rfl | exact cx_fr _ _) (fun G_21 g_21 h_21 => ?_)
    rw [rm_s0] at g_21
    clear h_21
    have W_21 : rm_W k mo b G P G_21 P (rp_int M 0 0) := W0.pi g_21
    have m_21 := W_21.1.1
    refine cx_aload_n (i := 0) hE d_Mo_feed_24 rfl rfl ?_
    refine cx_get hE d_Mo_feed_25 f_Mo_122 (by assumption) (by rfl) ?_
    refine cx_if_le (tgt := 33)  hE d_Mo_feed_28 (by decide) (fun c_28 => ?_) (fun c_28 => ?_)
    · refine cx_iconst (v := 0) hE d_Mo_feed_33 (by decide) ?_
      refine cx_istore hE d_Mo_feed_34 (by decide) ?_
      refine cx_sub [0, 1, 2, 3, 4, 5, 6] rfl ?_
      exact h36 20 0 _ _ _ (by omega) ⟨rfl, fun _ _ => rfl, rfl, fun _ _ => rfl, fun j hj => absurd hj (Nat.not_lt_zero _), fun j => gb 1 (by simp) j⟩ W_21
    · exact absurd (show (0 : Int32) ≤ 0 by decide) c_28
      -- end
  · exact absurd (nI_le (a := n + 20) (b := 65536) (by omega) (by omega)) c_13
    -- end
set_option maxRecDepth 100000 in
theorem c_Mo_module2 {k : cx_K} {l : Launch} {G : cx_G} {mo : Nat} {P : Nat → Nat} {M : rm_M} {b : Nat × Nat} (hm : rm_R k G mo P M) (hQ : rm_Q b G M) {n : Nat} {f : Nat → Int32} {ft : Int32} {us : List tx_U} (hI : rr_I M n f ft us) {m w : Int32}  : cx_Sp k l m_Mo_module2 1 [.ref mo, .int m, .int w] G (rp_P k mo b G P (rr_pm us m w M)) := by
  intro E hE
  have W0 := rm_W.rf hm hQ
  have m0 := hm.1
  refine cx_aload_n (i := 0) hE d_Mo_module2_0 rfl rfl ?_
  refine cx_aload_n (i := 0) hE d_Mo_module2_1 rfl rfl ?_
  refine cx_iload_n (i := 1) hE d_Mo_module2_2 rfl rfl ?_
  refine cx_wR hE d_Mo_module2_3 l_Mo_422 W0 (c_Mo_isModule W0.1 W0.2.2 hI) rfl (by omega) (Nat.le_of_ble_eq_true rfl) n_Mo_isModule (by first | rfl | (simp only [List.map_cons, List.map_nil, cx_rfc]; rfl)) (fun v_3 K_3 => ?_)
  subst K_3
  refine cx_if_ne (tgt := 13)  hE d_Mo_module2_6 (by decide) (fun c_6 => ?_) (fun c_6 => ?_)
  · obtain ⟨j, rfl, hj, hj31, hix⟩ := rr_ixs (cx_bn.mp c_6)
    have hv := ct_gd hj
    obtain ⟨nn, T, LO, LI, tT, hLO, hLI, hF, e12, l12, h51⟩ := hI.ex hv
    have hj36 : j < 3600 := by omega
    obtain ⟨lo, li, hG⟩ := hF.g hLO hLI
    refine cx_iload_n (i := 2) hE d_Mo_module2_13 rfl rfl ?_
    refine cx_if_lt (tgt := 23)  hE d_Mo_module2_14 (by decide) (fun c_14 => ?_) (fun c_14 => ?_)
    · refine cx_iconst (v := 2) hE d_Mo_module2_23 (by decide) ?_
      refine cx_goto (tgt := 28) hE d_Mo_module2_24 (by decide) ?_
      refine cx_putg hE d_Mo_module2_28 f_Mo_122 (by assumption) (Nat.le_of_ble_eq_true rfl) (by first | rfl | exact cx_nr _ _) (by first | rfl | exact cx_fr _ _) (fun G_28 g_28 h_28 => ?_)
      rw [rm_s0] at g_28
      clear h_28
      have W_28 : rm_W k mo b G P G_28 P (rp_int M 0 2) := W0.pi g_28
      have m_28 := W_28.1.1
      refine cx_aload_n (i := 0) hE d_Mo_module2_31 rfl rfl ?_
      refine cx_get hE d_Mo_module2_32 f_Mo_122 (by assumption) (by rfl) ?_
      refine cx_if_le (tgt := 40)  hE d_Mo_module2_35 (by decide) (fun c_35 => ?_) (fun c_35 => ?_)
      · exact absurd c_35 (show ¬ (2 : Int32) ≤ 0 by decide)
        -- end
      · refine cx_iconst (v := 0) hE d_Mo_module2_38 (by decide) ?_
        refine cx_iret hE d_Mo_module2_39 rfl rfl ?_
        exact ⟨_, _, _, rfl, W_28, rr_pm.b hix (rr_md2 (Or.inl c_14))⟩
    · refine cx_iload_n (i := 2) hE d_Mo_module2_17 rfl rfl ?_
      refine cx_bipush (v := 7) hE d_Mo_module2_18 (by decide) ?_
      refine cx_icmp_le (tgt := 27)  hE d_Mo_module2_20 (by decide) (fun c_20 => ?_) (fun c_20 => ?_)
      · refine cx_iconst (v := 0) hE d_Mo_module2_27 (by decide) ?_
        refine cx_putg hE d_Mo_module2_28 f_Mo_122 (by assumption) (Nat.le_of_ble_eq_true rfl) (by first | rfl | exact cx_nr _ _) (by first | rfl | exact cx_fr _ _) (fun G_28 g_28 h_28 => ?_)
        rw [rm_s0] at g_28
        clear h_28
        have W_28 : rm_W k mo b G P G_28 P (rp_int M 0 0) := W0.pi g_28
        have m_28 := W_28.1.1
        refine cx_aload_n (i := 0) hE d_Mo_module2_31 rfl rfl ?_
        refine cx_get hE d_Mo_module2_32 f_Mo_122 (by assumption) (by rfl) ?_
        refine cx_if_le (tgt := 40)  hE d_Mo_module2_35 (by decide) (fun c_35 => ?_) (fun c_35 => ?_)
        · refine cx_iconst (v := 0) hE d_Mo_module2_40 (by decide) ?_
          refine cx_istore_n (i := 3) hE d_Mo_module2_41 rfl (by decide) ?_
          refine cx_iconst (v := 0) hE d_Mo_module2_42 (by decide) ?_
          refine cx_istore hE d_Mo_module2_43 (by decide) ?_
          refine cx_aload_n (i := 0) hE d_Mo_module2_45 rfl rfl ?_
          refine cx_get hE d_Mo_module2_46 f_Mo_28 (by assumption) (by rfl) ?_
          refine cx_iload_n (i := 1) hE d_Mo_module2_49 rfl rfl ?_
          refine cx_iald 1 hE d_Mo_module2_50 rfl (W_28.1.i 14 rfl) (vp_in_nI (by show _ < 3601; omega) (by show 3601 < 2147483648; omega)) ?_
          rw [nI_clamp (by omega)]
          rw [show (rp_int M 0 0).2.1 14 j = _ from hG.1]
          refine cx_istore hE d_Mo_module2_51 (by decide) ?_
          refine cx_sub [0, 1, 2, 3, 4, 5] rfl ?_
          obtain ⟨⟨q_y, q_y1, q_y2⟩, lo', li', fs, fa, b5, a, c, I, q14, q15, q16, q17, q14n, q15n, q16n, q17n, q9, q10, q11, q12, q_as, q_al, q56, q_cl, q_c, -, -, ⟨⟨q_x, q_x1, q_x2⟩, q_a', q_in, -⟩, -⟩ := hF
          have elo : lo' = lo := (nI_eq (by omega) (by have := hG.2.2.2.2.1; omega)).mp (q14.symm.trans hG.1)
          subst elo
          have q_p : (us.getD j tx_u0).2.2.2.1 = nI (rt_cn (fun k => decide (M.2.1 21 k < 3)) lo' ((us.getD j tx_u0).2.2.1.countP rt_sg)) := by
            rw [q_x1]
            congr 1
          have q_a := q_a'
          have h53 : ∀ (d t : Nat), t + d = (us.getD j tx_u0).2.2.1.countP rt_sg → cx_V E 53 [(5, false, .int (nI (lo' + t))), (4, false, .int (nI (rt_cn (fun k => decide (M.2.1 23 k = 1)) lo' t))), (3, false, .int (nI (rt_cn (fun k => decide (M.2.1 21 k < 3)) lo' t))), (0, false, .ref mo), (1, false, .int (nI j)), (2, false, .int w)] [] G_28 := by
            intro d
            induction d using Nat.strongRecOn with
            | ind d ih =>
              intro t htd
              have hc11 := hG.2.2.2.2.1
              refine cx_iload hE d_Mo_module2_53 rfl ?_
              refine cx_aload_n (i := 0) hE d_Mo_module2_55 rfl rfl ?_
              refine cx_get hE d_Mo_module2_56 f_Mo_28 (by assumption) (by rfl) ?_
              refine cx_iload_n (i := 1) hE d_Mo_module2_59 rfl rfl ?_
              refine cx_iconst (v := 1) hE d_Mo_module2_60 (by decide) ?_
              refine cx_iadd hE d_Mo_module2_61 ?_
              rw [nI_1]
              refine cx_iald 1 hE d_Mo_module2_62 rfl (W_28.1.i 14 rfl) (vp_in_nI (by show _ < 3601; omega) (by show 3601 < 2147483648; omega)) ?_
              rw [nI_clamp (by omega)]
              rw [show (rp_int M 0 0).2.1 14 (j + 1) = _ from hG.2.1]
              refine cx_icmp_ge (tgt := 113)  hE d_Mo_module2_63 (by decide) (fun c_63 => ?_) (fun c_63 => ?_)
              · have et : t = (us.getD j tx_u0).2.2.1.countP rt_sg := by
                  have := (nI_leI (by omega) (by omega)).mp c_63
                  omega
                subst et
                refine cx_iload_n (i := 2) hE d_Mo_module2_113 rfl rfl ?_
                by_cases e_114_0 : w = 0
                · refine cx_tableIn (off := 42) (tgt := 156) hE d_Mo_module2_114 (by rw [e_114_0]; decide) (by rw [e_114_0]; decide) (by rw [e_114_0]; rfl) (by decide) ?_
                  refine cx_iload_n (i := 3) hE d_Mo_module2_156 rfl rfl ?_
                  refine cx_iret hE d_Mo_module2_157 rfl rfl ?_
                  refine ⟨_, _, _, rfl, W_28, rr_pm.c hix (by rw [e_114_0]; exact (ct_md_v _).1) ?_⟩
                  rw [q_p]
                by_cases e_114_1 : w = 1
                · refine cx_tableIn (off := 44) (tgt := 158) hE d_Mo_module2_114 (by rw [e_114_1]; decide) (by rw [e_114_1]; decide) (by rw [e_114_1]; rfl) (by decide) ?_
                  refine cx_aload_n (i := 0) hE d_Mo_module2_158 rfl rfl ?_
                  refine cx_iload_n (i := 1) hE d_Mo_module2_159 rfl rfl ?_
                  refine cx_wR hE d_Mo_module2_160 l_Mo_425 W_28 (c_Mo_names W_28.1 W_28.2.2 hj36 (show rr_F T (rp_int M 0 0) j (us.getD j tx_u0) lo' li from hG)) rfl (by omega) (Nat.le_of_ble_eq_true rfl) n_Mo_names (by first | rfl | (simp only [List.map_cons, List.map_nil, cx_rfc]; rfl)) (fun v_160 K_160 => ?_)
                  refine cx_iret hE d_Mo_module2_163 rfl rfl ?_
                  refine ⟨_, _, _, rfl, W_28, rr_pm.c hix (by rw [e_114_1]; exact (ct_md_v _).2.1) ?_⟩
                  rw [K_160]
                by_cases e_114_2 : w = 2
                · refine cx_tableIn (off := 50) (tgt := 164) hE d_Mo_module2_114 (by rw [e_114_2]; decide) (by rw [e_114_2]; decide) (by rw [e_114_2]; rfl) (by decide) ?_
                  refine cx_iload hE d_Mo_module2_164 rfl ?_
                  refine cx_iret hE d_Mo_module2_166 rfl rfl ?_
                  refine ⟨_, _, _, rfl, W_28, rr_pm.c hix (by rw [e_114_2]; exact (ct_md_v _).2.2.1) ?_⟩
                  rw [q_a]
                by_cases e_114_3 : w = 3
                · refine cx_tableIn (off := 53) (tgt := 167) hE d_Mo_module2_114 (by rw [e_114_3]; decide) (by rw [e_114_3]; decide) (by rw [e_114_3]; rfl) (by decide) ?_
                  refine cx_aload_n (i := 0) hE d_Mo_module2_167 rfl rfl ?_
                  refine cx_get hE d_Mo_module2_168 f_Mo_37 (by assumption) (by rfl) ?_
                  refine cx_iload_n (i := 1) hE d_Mo_module2_171 rfl rfl ?_
                  refine cx_iconst (v := 1) hE d_Mo_module2_172 (by decide) ?_
                  refine cx_iadd hE d_Mo_module2_173 ?_
                  rw [nI_1]
                  refine cx_iald 1 hE d_Mo_module2_174 rfl (W_28.1.i 17 rfl) (vp_in_nI (by show _ < 3601; omega) (by show 3601 < 2147483648; omega)) ?_
                  rw [nI_clamp (by omega)]
                  refine cx_aload_n (i := 0) hE d_Mo_module2_175 rfl rfl ?_
                  refine cx_get hE d_Mo_module2_176 f_Mo_37 (by assumption) (by rfl) ?_
                  refine cx_iload_n (i := 1) hE d_Mo_module2_179 rfl rfl ?_
                  refine cx_iald 1 hE d_Mo_module2_180 rfl (W_28.1.i 17 rfl) (vp_in_nI (by show _ < 3601; omega) (by show 3601 < 2147483648; omega)) ?_
                  rw [nI_clamp (by omega)]
                  refine cx_isub hE d_Mo_module2_181 ?_
                  refine cx_iret hE d_Mo_module2_182 rfl rfl ?_
                  refine ⟨_, _, _, rfl, W_28, rr_pm.c hix (by rw [e_114_3]; exact (ct_md_v _).2.2.2.1) ?_⟩
                  show M.2.1 17 (j + 1) - M.2.1 17 j = _
                  rw [q17, q17n, pk_sub (by omega), q_al]
                  congr 1
                  omega
                by_cases e_114_4 : w = 4
                · refine cx_tableIn (off := 69) (tgt := 183) hE d_Mo_module2_114 (by rw [e_114_4]; decide) (by rw [e_114_4]; decide) (by rw [e_114_4]; rfl) (by decide) ?_
                  refine cx_aload_n (i := 0) hE d_Mo_module2_183 rfl rfl ?_
                  refine cx_get hE d_Mo_module2_184 f_Mo_31 (by assumption) (by rfl) ?_
                  refine cx_iload_n (i := 1) hE d_Mo_module2_187 rfl rfl ?_
                  refine cx_iconst (v := 1) hE d_Mo_module2_188 (by decide) ?_
                  refine cx_iadd hE d_Mo_module2_189 ?_
                  rw [nI_1]
                  refine cx_iald 1 hE d_Mo_module2_190 rfl (W_28.1.i 15 rfl) (vp_in_nI (by show _ < 3601; omega) (by show 3601 < 2147483648; omega)) ?_
                  rw [nI_clamp (by omega)]
                  refine cx_aload_n (i := 0) hE d_Mo_module2_191 rfl rfl ?_
                  refine cx_get hE d_Mo_module2_192 f_Mo_31 (by assumption) (by rfl) ?_
                  refine cx_iload_n (i := 1) hE d_Mo_module2_195 rfl rfl ?_
                  refine cx_iald 1 hE d_Mo_module2_196 rfl (W_28.1.i 15 rfl) (vp_in_nI (by show _ < 3601; omega) (by show 3601 < 2147483648; omega)) ?_
                  rw [nI_clamp (by omega)]
                  refine cx_isub hE d_Mo_module2_197 ?_
                  refine cx_iret hE d_Mo_module2_198 rfl rfl ?_
                  refine ⟨_, _, _, rfl, W_28, rr_pm.c hix (by rw [e_114_4]; exact (ct_md_v _).2.2.2.2.1) ?_⟩
                  show M.2.1 15 (j + 1) - M.2.1 15 j = _
                  rw [hG.2.2.1, hG.2.2.2.1, pk_sub (by omega), q_in]
                  congr 1
                  omega
                by_cases e_114_5 : w = 5
                · refine cx_tableIn (off := 85) (tgt := 199) hE d_Mo_module2_114 (by rw [e_114_5]; decide) (by rw [e_114_5]; decide) (by rw [e_114_5]; rfl) (by decide) ?_
                  refine cx_aload_n (i := 0) hE d_Mo_module2_199 rfl rfl ?_
                  refine cx_get hE d_Mo_module2_200 f_Mo_34 (by assumption) (by rfl) ?_
                  refine cx_iload_n (i := 1) hE d_Mo_module2_203 rfl rfl ?_
                  refine cx_iconst (v := 1) hE d_Mo_module2_204 (by decide) ?_
                  refine cx_iadd hE d_Mo_module2_205 ?_
                  rw [nI_1]
                  refine cx_iald 1 hE d_Mo_module2_206 rfl (W_28.1.i 16 rfl) (vp_in_nI (by show _ < 3601; omega) (by show 3601 < 2147483648; omega)) ?_
                  rw [nI_clamp (by omega)]
                  refine cx_aload_n (i := 0) hE d_Mo_module2_207 rfl rfl ?_
                  refine cx_get hE d_Mo_module2_208 f_Mo_34 (by assumption) (by rfl) ?_
                  refine cx_iload_n (i := 1) hE d_Mo_module2_211 rfl rfl ?_
                  refine cx_iald 1 hE d_Mo_module2_212 rfl (W_28.1.i 16 rfl) (vp_in_nI (by show _ < 3601; omega) (by show 3601 < 2147483648; omega)) ?_
                  rw [nI_clamp (by omega)]
                  refine cx_isub hE d_Mo_module2_213 ?_
                  refine cx_iret hE d_Mo_module2_214 rfl rfl ?_
                  refine ⟨_, _, _, rfl, W_28, rr_pm.c hix (by rw [e_114_5]; exact (ct_md_v _).2.2.2.2.2.1) ?_⟩
                  show M.2.1 16 (j + 1) - M.2.1 16 j = _
                  rw [q16, q16n, pk_sub (by omega), q_as]
                  congr 1
                  omega
                by_cases e_114_6 : w = 6
                · refine cx_tableIn (off := 101) (tgt := 215) hE d_Mo_module2_114 (by rw [e_114_6]; decide) (by rw [e_114_6]; decide) (by rw [e_114_6]; rfl) (by decide) ?_
                  refine cx_aload_n (i := 0) hE d_Mo_module2_215 rfl rfl ?_
                  refine cx_get hE d_Mo_module2_216 f_Mo_119 (by assumption) (by rfl) ?_
                  refine cx_iload_n (i := 1) hE d_Mo_module2_219 rfl rfl ?_
                  refine cx_lald 2 hE d_Mo_module2_220 rfl (W_28.1.l 56 rfl) (vp_in_nI (by show _ < 3600; omega) (by show 3600 < 2147483648; omega)) ?_
                  rw [nI_clamp (by omega), show (rp_int M 0 0).2.2.1 56 j = lN c from q56]
                  refine cx_ldc2 (v := 1500) hE d_Mo_module2_221 (in_8 (List.mem_of_getElem? (i := 105) rfl)) ?_
                  refine cx_lcmp hE d_Mo_module2_224 ?_
                  refine cx_if_le (tgt := 234)  hE d_Mo_module2_225 (by decide) (fun c_225 => ?_) (fun c_225 => ?_)
                  · refine cx_aload_n (i := 0) hE d_Mo_module2_234 rfl rfl ?_
                    refine cx_get hE d_Mo_module2_235 f_Mo_119 (by assumption) (by rfl) ?_
                    refine cx_iload_n (i := 1) hE d_Mo_module2_238 rfl rfl ?_
                    refine cx_lald 2 hE d_Mo_module2_239 rfl (W_28.1.l 56 rfl) (vp_in_nI (by show _ < 3600; omega) (by show 3600 < 2147483648; omega)) ?_
                    rw [nI_clamp (by omega), show (rp_int M 0 0).2.2.1 56 j = lN c from q56]
                    refine cx_l2i hE d_Mo_module2_240 ?_
                    refine cx_iret hE d_Mo_module2_241 rfl rfl ?_
                    refine ⟨_, _, _, rfl, W_28, rr_pm.c hix (by rw [e_114_6]; exact (ct_md_v _).2.2.2.2.2.2.1) ?_⟩
                    rw [q_c]
                    exact ((rr_cst q_cl).1 c_225).symm
                  · refine cx_sipush (v := 1501) hE d_Mo_module2_228 (by decide) ?_
                    refine cx_goto (tgt := 241) hE d_Mo_module2_231 (by decide) ?_
                    refine cx_iret hE d_Mo_module2_241 rfl rfl ?_
                    refine ⟨_, _, _, rfl, W_28, rr_pm.c hix (by rw [e_114_6]; exact (ct_md_v _).2.2.2.2.2.2.1) ?_⟩
                    rw [q_c]
                    exact ((rr_cst q_cl).2 c_225).symm
                refine cx_tableOut (tgt := 242) hE d_Mo_module2_114 (by have h_0 := tx_ti (n := 0) e_114_0; have h_1 := tx_ti (n := 1) e_114_1; have h_2 := tx_ti (n := 2) e_114_2; have h_3 := tx_ti (n := 3) e_114_3; have h_4 := tx_ti (n := 4) e_114_4; have h_5 := tx_ti (n := 5) e_114_5; have h_6 := tx_ti (n := 6) e_114_6; simp only [Int32.reduceToInt] at *; omega) (by decide) ?_
                refine cx_aload_n (i := 0) hE d_Mo_module2_242 rfl rfl ?_
                refine cx_get hE d_Mo_module2_243 f_Mo_19 (by assumption) (by rfl) ?_
                refine cx_aload_n (i := 0) hE d_Mo_module2_246 rfl rfl ?_
                refine cx_get hE d_Mo_module2_247 f_Mo_25 (by assumption) (by rfl) ?_
                refine cx_iload_n (i := 1) hE d_Mo_module2_250 rfl rfl ?_
                refine cx_iald 1 hE d_Mo_module2_251 rfl (W_28.1.i 13 rfl) (vp_in_nI (by show _ < 3600; omega) (by show 3600 < 2147483648; omega)) ?_
                rw [nI_clamp (by omega)]
                rw [show (rp_int M 0 0).2.1 13 j = nI q_y from q_y1]
                have hqy := q_y2.1
                have hql := tT.len
                have hqn := tT.2.1
                refine cx_iald 1 hE d_Mo_module2_252 rfl (W_28.1.i 5 rfl) (vp_in_nI (by show _ < 65540; omega) (by show 65540 < 2147483648; omega)) ?_
                rw [nI_clamp (by omega)]
                refine cx_iret hE d_Mo_module2_253 rfl rfl ?_
                refine ⟨_, _, _, rfl, W_28, rr_pm.c hix (by rw [rr_w7 c_14 c_20 e_114_0 e_114_1 e_114_2 e_114_3 e_114_4 e_114_5 e_114_6]; exact (ct_md_v _).2.2.2.2.2.2.2) ?_⟩
                show M.2.1 5 q_y = _
                rw [(tT.tk.2.1 q_y q_y2.1).2, q_y2.2.2.2]
              · have hlt : t < (us.getD j tx_u0).2.2.1.countP rt_sg := by
                  rcases Nat.lt_or_ge t ((us.getD j tx_u0).2.2.1.countP rt_sg) with y | y
                  · exact y
                  · exact absurd (nI_le (Nat.add_le_add_left y _) (by omega)) c_63
                refine cx_aload_n (i := 0) hE d_Mo_module2_66 rfl rfl ?_
                refine cx_get hE d_Mo_module2_67 f_Mo_46 (by assumption) (by rfl) ?_
                refine cx_iload hE d_Mo_module2_70 rfl ?_
                refine cx_iald 1 hE d_Mo_module2_72 rfl (W_28.1.i 21 rfl) (vp_in_nI (by show _ < 11000; omega) (by show 11000 < 2147483648; omega)) ?_
                rw [nI_clamp (by omega)]
                refine cx_iconst (v := 3) hE d_Mo_module2_73 (by decide) ?_
                refine cx_icmp_ge (tgt := 83)  hE d_Mo_module2_74 (by decide) (fun c_74 => ?_) (fun c_74 => ?_)
                · refine cx_iload_n (i := 3) hE d_Mo_module2_83 rfl rfl ?_
                  refine cx_istore_n (i := 3) hE d_Mo_module2_84 rfl (by decide) ?_
                  refine cx_aload_n (i := 0) hE d_Mo_module2_85 rfl rfl ?_
                  refine cx_get hE d_Mo_module2_86 f_Mo_53 (by assumption) (by rfl) ?_
                  refine cx_iload hE d_Mo_module2_89 rfl ?_
                  refine cx_iald 1 hE d_Mo_module2_91 rfl (W_28.1.i 23 rfl) (vp_in_nI (by show _ < 11000; omega) (by show 11000 < 2147483648; omega)) ?_
                  rw [nI_clamp (by omega)]
                  refine cx_iconst (v := 1) hE d_Mo_module2_92 (by decide) ?_
                  refine cx_icmp_ne (tgt := 103)  hE d_Mo_module2_93 (by decide) (fun c_93 => ?_) (fun c_93 => ?_)
                  · refine cx_iload hE d_Mo_module2_103 rfl ?_
                    refine cx_istore hE d_Mo_module2_105 (by decide) ?_
                    refine cx_iinc (v := nI (lo' + t + 1)) hE d_Mo_module2_107 rfl (nI_1 _) (by decide) ?_
                    refine cx_goto (tgt := 53) hE d_Mo_module2_110 (by decide) ?_
                    refine cx_sub [0, 1, 2, 3, 4, 5] rfl ?_
                    have e21 : rt_cn (fun k => decide (M.2.1 21 k < 3)) lo' (t + 1) = rt_cn (fun k => decide (M.2.1 21 k < 3)) lo' t + 0 := by
                      show rt_cn (fun k => decide (M.2.1 21 k < 3)) lo' t + (if decide (M.2.1 21 (lo' + t) < 3) = true then 1 else 0) = _
                      rw [if_neg (show ¬ decide (M.2.1 21 (lo' + t) < 3) = true from fun y => absurd (of_decide_eq_true y) (Int32.not_lt.mpr c_74))]
                    have e23 : rt_cn (fun k => decide (M.2.1 23 k = 1)) lo' (t + 1) = rt_cn (fun k => decide (M.2.1 23 k = 1)) lo' t + 0 := by
                      show rt_cn (fun k => decide (M.2.1 23 k = 1)) lo' t + (if decide (M.2.1 23 (lo' + t) = 1) = true then 1 else 0) = _
                      rw [if_neg (show ¬ decide (M.2.1 23 (lo' + t) = 1) = true from fun y => c_93 (of_decide_eq_true y))]
                    have := ih (d - 1) (by omega) (t + 1) (by omega)
                    rw [e21, e23] at this
                    exact this
                  · refine cx_iload hE d_Mo_module2_96 rfl ?_
                    refine cx_iconst (v := 1) hE d_Mo_module2_98 (by decide) ?_
                    refine cx_iadd hE d_Mo_module2_99 ?_
                    rw [nI_1]
                    refine cx_goto (tgt := 105) hE d_Mo_module2_100 (by decide) ?_
                    refine cx_istore hE d_Mo_module2_105 (by decide) ?_
                    refine cx_iinc (v := nI (lo' + t + 1)) hE d_Mo_module2_107 rfl (nI_1 _) (by decide) ?_
                    refine cx_goto (tgt := 53) hE d_Mo_module2_110 (by decide) ?_
                    refine cx_sub [0, 1, 2, 3, 4, 5] rfl ?_
                    have e21 : rt_cn (fun k => decide (M.2.1 21 k < 3)) lo' (t + 1) = rt_cn (fun k => decide (M.2.1 21 k < 3)) lo' t + 0 := by
                      show rt_cn (fun k => decide (M.2.1 21 k < 3)) lo' t + (if decide (M.2.1 21 (lo' + t) < 3) = true then 1 else 0) = _
                      rw [if_neg (show ¬ decide (M.2.1 21 (lo' + t) < 3) = true from fun y => absurd (of_decide_eq_true y) (Int32.not_lt.mpr c_74))]
                    have e23 : rt_cn (fun k => decide (M.2.1 23 k = 1)) lo' (t + 1) = rt_cn (fun k => decide (M.2.1 23 k = 1)) lo' t + 1 := by
                      show rt_cn (fun k => decide (M.2.1 23 k = 1)) lo' t + (if decide (M.2.1 23 (lo' + t) = 1) = true then 1 else 0) = _
                      rw [if_pos (show decide (M.2.1 23 (lo' + t) = 1) = true from decide_eq_true c_93)]
                    have := ih (d - 1) (by omega) (t + 1) (by omega)
                    rw [e21, e23] at this
                    exact this
                · refine cx_iload_n (i := 3) hE d_Mo_module2_77 rfl rfl ?_
                  refine cx_iconst (v := 1) hE d_Mo_module2_78 (by decide) ?_
                  refine cx_iadd hE d_Mo_module2_79 ?_
                  rw [nI_1]
                  refine cx_goto (tgt := 84) hE d_Mo_module2_80 (by decide) ?_
                  refine cx_istore_n (i := 3) hE d_Mo_module2_84 rfl (by decide) ?_
                  refine cx_aload_n (i := 0) hE d_Mo_module2_85 rfl rfl ?_
                  refine cx_get hE d_Mo_module2_86 f_Mo_53 (by assumption) (by rfl) ?_
                  refine cx_iload hE d_Mo_module2_89 rfl ?_
                  refine cx_iald 1 hE d_Mo_module2_91 rfl (W_28.1.i 23 rfl) (vp_in_nI (by show _ < 11000; omega) (by show 11000 < 2147483648; omega)) ?_
                  rw [nI_clamp (by omega)]
                  refine cx_iconst (v := 1) hE d_Mo_module2_92 (by decide) ?_
                  refine cx_icmp_ne (tgt := 103)  hE d_Mo_module2_93 (by decide) (fun c_93 => ?_) (fun c_93 => ?_)
                  · refine cx_iload hE d_Mo_module2_103 rfl ?_
                    refine cx_istore hE d_Mo_module2_105 (by decide) ?_
                    refine cx_iinc (v := nI (lo' + t + 1)) hE d_Mo_module2_107 rfl (nI_1 _) (by decide) ?_
                    refine cx_goto (tgt := 53) hE d_Mo_module2_110 (by decide) ?_
                    refine cx_sub [0, 1, 2, 3, 4, 5] rfl ?_
                    have e21 : rt_cn (fun k => decide (M.2.1 21 k < 3)) lo' (t + 1) = rt_cn (fun k => decide (M.2.1 21 k < 3)) lo' t + 1 := by
                      show rt_cn (fun k => decide (M.2.1 21 k < 3)) lo' t + (if decide (M.2.1 21 (lo' + t) < 3) = true then 1 else 0) = _
                      rw [if_pos (show decide (M.2.1 21 (lo' + t) < 3) = true from decide_eq_true (Int32.not_le.mp c_74))]
                    have e23 : rt_cn (fun k => decide (M.2.1 23 k = 1)) lo' (t + 1) = rt_cn (fun k => decide (M.2.1 23 k = 1)) lo' t + 0 := by
                      show rt_cn (fun k => decide (M.2.1 23 k = 1)) lo' t + (if decide (M.2.1 23 (lo' + t) = 1) = true then 1 else 0) = _
                      rw [if_neg (show ¬ decide (M.2.1 23 (lo' + t) = 1) = true from fun y => c_93 (of_decide_eq_true y))]
                    have := ih (d - 1) (by omega) (t + 1) (by omega)
                    rw [e21, e23] at this
                    exact this
                  · refine cx_iload hE d_Mo_module2_96 rfl ?_
                    refine cx_iconst (v := 1) hE d_Mo_module2_98 (by decide) ?_
                    refine cx_iadd hE d_Mo_module2_99 ?_
                    rw [nI_1]
                    refine cx_goto (tgt := 105) hE d_Mo_module2_100 (by decide) ?_
                    refine cx_istore hE d_Mo_module2_105 (by decide) ?_
                    refine cx_iinc (v := nI (lo' + t + 1)) hE d_Mo_module2_107 rfl (nI_1 _) (by decide) ?_
                    refine cx_goto (tgt := 53) hE d_Mo_module2_110 (by decide) ?_
                    refine cx_sub [0, 1, 2, 3, 4, 5] rfl ?_
                    have e21 : rt_cn (fun k => decide (M.2.1 21 k < 3)) lo' (t + 1) = rt_cn (fun k => decide (M.2.1 21 k < 3)) lo' t + 1 := by
                      show rt_cn (fun k => decide (M.2.1 21 k < 3)) lo' t + (if decide (M.2.1 21 (lo' + t) < 3) = true then 1 else 0) = _
                      rw [if_pos (show decide (M.2.1 21 (lo' + t) < 3) = true from decide_eq_true (Int32.not_le.mp c_74))]
                    have e23 : rt_cn (fun k => decide (M.2.1 23 k = 1)) lo' (t + 1) = rt_cn (fun k => decide (M.2.1 23 k = 1)) lo' t + 1 := by
                      show rt_cn (fun k => decide (M.2.1 23 k = 1)) lo' t + (if decide (M.2.1 23 (lo' + t) = 1) = true then 1 else 0) = _
                      rw [if_pos (show decide (M.2.1 23 (lo' + t) = 1) = true from decide_eq_true c_93)]
                    have := ih (d - 1) (by omega) (t + 1) (by omega)
                    rw [e21, e23] at this
                    exact this
          exact h53 _ 0 (Nat.zero_add _)
        · exact absurd (show (0 : Int32) ≤ 0 by decide) c_35
          -- end
      · refine cx_iconst (v := 2) hE d_Mo_module2_23 (by decide) ?_
        refine cx_goto (tgt := 28) hE d_Mo_module2_24 (by decide) ?_
        refine cx_putg hE d_Mo_module2_28 f_Mo_122 (by assumption) (Nat.le_of_ble_eq_true rfl) (by first | rfl | exact cx_nr _ _) (by first | rfl | exact cx_fr _ _) (fun G_28 g_28 h_28 => ?_)
        rw [rm_s0] at g_28
        clear h_28
        have W_28 : rm_W k mo b G P G_28 P (rp_int M 0 2) := W0.pi g_28
        have m_28 := W_28.1.1
        refine cx_aload_n (i := 0) hE d_Mo_module2_31 rfl rfl ?_
        refine cx_get hE d_Mo_module2_32 f_Mo_122 (by assumption) (by rfl) ?_
        refine cx_if_le (tgt := 40)  hE d_Mo_module2_35 (by decide) (fun c_35 => ?_) (fun c_35 => ?_)
        · exact absurd c_35 (show ¬ (2 : Int32) ≤ 0 by decide)
          -- end
        · refine cx_iconst (v := 0) hE d_Mo_module2_38 (by decide) ?_
          refine cx_iret hE d_Mo_module2_39 rfl rfl ?_
          exact ⟨_, _, _, rfl, W_28, rr_pm.b hix (rr_md2 (Or.inr c_20))⟩
  · refine cx_iconst (v := 1) hE d_Mo_module2_9 (by decide) ?_
    refine cx_goto (tgt := 28) hE d_Mo_module2_10 (by decide) ?_
    refine cx_putg hE d_Mo_module2_28 f_Mo_122 (by assumption) (Nat.le_of_ble_eq_true rfl) (by first | rfl | exact cx_nr _ _) (by first | rfl | exact cx_fr _ _) (fun G_28 g_28 h_28 => ?_)
    rw [rm_s0] at g_28
    clear h_28
    have W_28 : rm_W k mo b G P G_28 P (rp_int M 0 1) := W0.pi g_28
    have m_28 := W_28.1.1
    refine cx_aload_n (i := 0) hE d_Mo_module2_31 rfl rfl ?_
    refine cx_get hE d_Mo_module2_32 f_Mo_122 (by assumption) (by rfl) ?_
    refine cx_if_le (tgt := 40)  hE d_Mo_module2_35 (by decide) (fun c_35 => ?_) (fun c_35 => ?_)
    · exact absurd c_35 (show ¬ (1 : Int32) ≤ 0 by decide)
      -- end
    · refine cx_iconst (v := 0) hE d_Mo_module2_38 (by decide) ?_
      refine cx_iret hE d_Mo_module2_39 rfl rfl ?_
      exact ⟨_, _, _, rfl, W_28, rr_pm.a (rr_ixn (cx_b0.mp c_6))⟩

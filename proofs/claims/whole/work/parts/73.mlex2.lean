/-! THE REFERENCE: numbers, blanks, words. -/
theorem pf_lI {a : Nat} (h : a < 2 ^ 63) : (lN a).toInt = (a : Int) := lg_ofNat_toInt h
theorem pf_shr {a d : Nat} {D : Int64} (hD : (D.toBitVec.smod 64).toNat = d) (h : a < 2 ^ 62) : lN a >>> D = lN (a / 2 ^ d) := by
  have hd : a / 2 ^ d ≤ a := Nat.div_le_self _ _
  apply Int64.toInt_inj.mp
  have e : (lN a >>> D).toInt = (lN a).toInt >>> d := by
    rw [← hD]
    exact BitVec.toInt_sshiftRight ..
  rw [e, Int.shiftRight_eq_div_pow, pf_lI (by omega), pf_lI (by omega)]
  rfl
theorem wb_sm2 : ∀ k, k < 64 → ((((nI k).toInt64 &&& 63).toBitVec).smod 64).toNat = k := by decide +kernel
theorem wb_sar {a k : Nat} (h : a < 2 ^ 62) (hk : k < 64) : lN a >>> ((nI k).toInt64 &&& 63) = lN (a / 2 ^ k) := pf_shr (wb_sm2 k hk) h
theorem rm_stp {v b dd : Nat} (hb : b ≤ 16) (hb1 : 1 ≤ b) (hd : dd < b) : v % 4294967296 * b + dd < 2 ^ 40 ∧ (v % 4294967296 * b + dd) % 4294967296 = (v * b + dd) % 4294967296 ∧ v / 4294967296 % 4294967296 * b + (v % 4294967296 * b + dd) / 4294967296 < 2 ^ 40 ∧ (v / 4294967296 % 4294967296 * b + (v % 4294967296 * b + dd) / 4294967296) % 4294967296 = (v * b + dd) / 4294967296 % 4294967296 ∧ (2 ^ 64 ≤ v → 2 ^ 64 ≤ v * b + dd) ∧ (¬ 2 ^ 64 ≤ v → (2 ^ 64 ≤ v * b + dd ↔ ¬ v / 4294967296 % 4294967296 * b + (v % 4294967296 * b + dd) / 4294967296 ≤ 4294967295)) := by
  have h1 : v = 4294967296 * (v / 4294967296) + v % 4294967296 := (Nat.div_add_mod v 4294967296).symm
  have hy : v % 4294967296 < 4294967296 := Nat.mod_lt _ (by decide)
  generalize v / 4294967296 = x at h1 ⊢
  generalize v % 4294967296 = y at h1 hy ⊢
  have h2 : x = 4294967296 * (x / 4294967296) + x % 4294967296 := (Nat.div_add_mod x 4294967296).symm
  have hz : x % 4294967296 < 4294967296 := Nat.mod_lt _ (by decide)
  generalize x / 4294967296 = w at h2 ⊢
  generalize x % 4294967296 = z at h2 hz ⊢
  have e1 : v * b + dd = 4294967296 * (4294967296 * (w * b)) + 4294967296 * (z * b) + (y * b + dd) := by
    rw [h1, h2]
    simp only [Nat.add_mul, Nat.mul_add, Nat.mul_assoc, Nat.add_assoc]
  have e2 : z * b ≤ z * 16 := Nat.mul_le_mul_left z hb
  have e3 : y * b ≤ y * 16 := Nat.mul_le_mul_left y hb
  have e4 : w * 1 ≤ w * b := Nat.mul_le_mul_left w hb1
  have e5 : w = 0 → w * b = 0 := fun q => by rw [q, Nat.zero_mul]
  rw [e1]
  generalize z * b = zb at *
  generalize y * b = yb at *
  generalize w * b = wb at *
  refine ⟨by omega, by omega, by omega, by omega, by omega, fun q => ?_⟩
  have := e5 (by omega)
  omega
theorem rm_c0 {z : Nat} (hz : z < 2 ^ 63) : lg_cmp (lN z) 0 = 0 ↔ z = 0 := by
  refine ⟨fun h => ?_, fun h => by rw [h]; rfl⟩
  have := tx_cmp0 (v := z) (w := 0) (by omega) (by rw [Nat.pow_zero, Nat.div_one]; exact h)
  omega
theorem rm_fit1 {V w : Nat} (hV : ¬ 2 ^ 64 ≤ V) (h1 : 32 ≤ w) (h2 : w < 64) : V / 4294967296 % 4294967296 / 2 ^ (w - 32) = 0 ↔ V < 2 ^ w := by
  have e : V / 4294967296 % 4294967296 = V / 4294967296 := Nat.mod_eq_of_lt (by omega)
  rw [e, show (4294967296 : Nat) = 2 ^ 32 from rfl, Nat.div_div_eq_div_mul, ← Nat.pow_add, show 32 + (w - 32) = w by omega]
  refine ⟨fun h => ?_, fun h => Nat.div_eq_of_lt h⟩
  rcases Nat.lt_or_ge V (2 ^ w) with q | q
  · exact q
  · have := (Nat.le_div_iff_mul_le (Nat.two_pow_pos w)).mpr (show 1 * 2 ^ w ≤ V by omega)
    omega
theorem rm_fit2 {V w : Nat} (hV : ¬ 2 ^ 64 ≤ V) (h2 : w < 32) : (V / 4294967296 % 4294967296 = 0 ∧ V % 4294967296 / 2 ^ w = 0) ↔ V < 2 ^ w := by
  have hp : 2 ^ w ≤ 2 ^ 32 := Nat.pow_le_pow_right (by decide) (by omega)
  refine ⟨fun ⟨h, h'⟩ => ?_, fun h => ?_⟩
  · have e : V % 4294967296 = V := by omega
    rw [e] at h'
    rcases Nat.lt_or_ge V (2 ^ w) with q | q
    · exact q
    · have := (Nat.le_div_iff_mul_le (Nat.two_pow_pos w)).mpr (show 1 * 2 ^ w ≤ V by omega)
      omega
  · have e : V % 4294967296 = V := Nat.mod_eq_of_lt (by omega)
    exact ⟨by omega, by rw [e]; exact Nat.div_eq_of_lt h⟩
theorem rm_lN2 (V : Nat) : lN (V / 4294967296 % 4294967296 * 4294967296 + V % 4294967296) = lN V := by
  rw [wb_mod V]
  congr 1
  omega
set_option maxRecDepth 100000 in
theorem c_Mo_read2 {k : cx_K} {l : Launch} {G : cx_G} {mo : Nat} {P : Nat → Nat} {M : rm_M} (hm : rm_R k G mo P M) {n : Nat} (hn : M.1 2 = nI n) (hn6 : n ≤ 65536) {a m b w : Nat} {dd : Nat → Nat} (ham : a + m ≤ n) (hb : b ≤ 16) (hb1 : 1 ≤ b) (hw : w ≤ 64) (hdd : ∀ i, a ≤ i → i < a + m → rm_dg (tx_at n (M.2.1 53) i) = nI (dd i) ∧ dd i < b)  : cx_Sp k l m_Mo_read2 2 [.ref mo, .int (nI a), .int (nI (a + m)), .int (nI b), .int (nI w)] G (rm_q k G mo P (some (.long (lN (tx_val dd b a m)))) (va_up M.1 57 (cx_b (decide (tx_val dd b a m < 2 ^ w))), M.2)) := by
  intro E hE
  have hmo := hm.1
  have hloop : ∀ (d t : Nat), m - t = d → t ≤ m → cx_V E 12 [(10, false, .int (nI (a + t))), (9, false, .int (cx_b (decide (2 ^ 64 ≤ (tx_val dd b a t))))), (7, true, .long (lN ((tx_val dd b a t) % 4294967296))), (5, true, .long (lN ((tx_val dd b a t) / 4294967296 % 4294967296))), (0, false, .ref mo), (1, false, .int (nI a)), (2, false, .int (nI (a + m))), (3, false, .int (nI b)), (4, false, .int (nI w))] [] G := by
    intro d
    induction d using Nat.strongRecOn with
    | ind d ih =>
      intro t hd ht
      have q_s : (tx_val dd b a (t + 1)) = (tx_val dd b a t) * b + dd (a + t) := rfl
      refine cx_iload hE d_Mo_read2_12 rfl ?_
      refine cx_iload_n (i := 2) hE d_Mo_read2_14 rfl rfl ?_
      refine cx_icmp_ge (tgt := 92)  hE d_Mo_read2_15 (by decide) (fun c_15 => ?_) (fun c_15 => ?_)
      · have q_15 : t = m := by have := nJ_le (by omega) c_15; omega
        subst q_15
        refine cx_iload hE d_Mo_read2_92 rfl ?_
        refine cx_if_ne (tgt := 148)  hE d_Mo_read2_94 (by decide) (fun c_94 => ?_) (fun c_94 => ?_)
        · have q_94 := of_decide_eq_true (cx_bn.mp c_94)
          have q_f : decide ((tx_val dd b a t) < 2 ^ w) = false := decide_eq_false (by have := tx_2p hw; omega)
          refine cx_iconst (v := 0) hE d_Mo_read2_148 (by decide) ?_
          refine cx_istore hE d_Mo_read2_149 (by decide) ?_
          refine cx_aload_n (i := 0) hE d_Mo_read2_151 rfl rfl ?_
          refine cx_iload hE d_Mo_read2_152 rfl ?_
          refine cx_putg hE d_Mo_read2_154 f_Mo_148 (by assumption) (Nat.le_of_ble_eq_true rfl) (by first | rfl | exact cx_nr _ _) (by first | rfl | exact cx_fr _ _) (fun G_154 g_154 h_154 => ?_)
          rw [rm_s57] at g_154 h_154
          have m1 := hm.pi g_154
          refine cx_lload hE d_Mo_read2_157 rfl ?_
          refine cx_bipush (v := 32) hE d_Mo_read2_159 (by decide) ?_
          refine cx_lshl hE d_Mo_read2_161 ?_
          rw [show (32 : Int32) = nI 32 from rfl, wb_shl _ (by decide), show (2 : Nat) ^ 32 = 4294967296 from rfl]
          refine cx_lload hE d_Mo_read2_162 rfl ?_
          refine cx_lor hE d_Mo_read2_164 ?_
          rw [g_or (k := 32) (p := 4294967296) rfl (Nat.mod_lt _ (by decide)) (by have := Nat.mod_lt ((tx_val dd b a t) / 4294967296) (show 0 < 4294967296 by decide); have := Nat.mod_lt (tx_val dd b a t) (show 0 < 4294967296 by decide); omega), rm_lN2]
          refine cx_lret hE d_Mo_read2_165 rfl ?_
          rw [q_f]
          exact ⟨rfl, m1.1, m1.2, cx_pc g_154⟩
        · have q_94 := of_decide_eq_false (cx_b0.mp c_94)
          refine cx_iload hE d_Mo_read2_97 rfl ?_
          refine cx_bipush (v := 64) hE d_Mo_read2_99 (by decide) ?_
          refine cx_icmp_ge (tgt := 144)  hE d_Mo_read2_101 (by decide) (fun c_101 => ?_) (fun c_101 => ?_)
          · have q_101 : w = 64 := by have := nJ_le (b := 64) (by decide) c_101; omega
            have q_f : decide ((tx_val dd b a t) < 2 ^ w) = true := decide_eq_true (by rw [q_101]; omega)
            refine cx_iconst (v := 1) hE d_Mo_read2_144 (by decide) ?_
            refine cx_goto (tgt := 149) hE d_Mo_read2_145 (by decide) ?_
            refine cx_istore hE d_Mo_read2_149 (by decide) ?_
            refine cx_aload_n (i := 0) hE d_Mo_read2_151 rfl rfl ?_
            refine cx_iload hE d_Mo_read2_152 rfl ?_
            refine cx_putg hE d_Mo_read2_154 f_Mo_148 (by assumption) (Nat.le_of_ble_eq_true rfl) (by first | rfl | exact cx_nr _ _) (by first | rfl | exact cx_fr _ _) (fun G_154 g_154 h_154 => ?_)
            rw [rm_s57] at g_154 h_154
            have m1 := hm.pi g_154
            refine cx_lload hE d_Mo_read2_157 rfl ?_
            refine cx_bipush (v := 32) hE d_Mo_read2_159 (by decide) ?_
            refine cx_lshl hE d_Mo_read2_161 ?_
            rw [show (32 : Int32) = nI 32 from rfl, wb_shl _ (by decide), show (2 : Nat) ^ 32 = 4294967296 from rfl]
            refine cx_lload hE d_Mo_read2_162 rfl ?_
            refine cx_lor hE d_Mo_read2_164 ?_
            rw [g_or (k := 32) (p := 4294967296) rfl (Nat.mod_lt _ (by decide)) (by have := Nat.mod_lt ((tx_val dd b a t) / 4294967296) (show 0 < 4294967296 by decide); have := Nat.mod_lt (tx_val dd b a t) (show 0 < 4294967296 by decide); omega), rm_lN2]
            refine cx_lret hE d_Mo_read2_165 rfl ?_
            rw [q_f]
            exact ⟨rfl, m1.1, m1.2, cx_pc g_154⟩
          · have q_101 : w < 64 := nJ_lt (b := 64) (by omega) c_101
            refine cx_iload hE d_Mo_read2_104 rfl ?_
            refine cx_bipush (v := 32) hE d_Mo_read2_106 (by decide) ?_
            refine cx_icmp_lt (tgt := 127)  hE d_Mo_read2_108 (by decide) (fun c_108 => ?_) (fun c_108 => ?_)
            · have q_108 : w < 32 := by
                rcases Nat.lt_or_ge w 32 with z | z
                · exact z
                · exact absurd c_108 (Int32.not_lt.mpr (nI_le (a := 32) z (by omega)))
              refine cx_lload hE d_Mo_read2_127 rfl ?_
              refine cx_lconst (v := 0) hE d_Mo_read2_129 (by decide) ?_
              refine cx_lcmp hE d_Mo_read2_130 ?_
              refine cx_if_ne (tgt := 148)  hE d_Mo_read2_131 (by decide) (fun c_131 => ?_) (fun c_131 => ?_)
              · have q_f : decide ((tx_val dd b a t) < 2 ^ w) = false := decide_eq_false (fun z => c_131 ((rm_c0 (by omega)).mpr ((rm_fit2 q_94 q_108).mpr z).1))
                refine cx_iconst (v := 0) hE d_Mo_read2_148 (by decide) ?_
                refine cx_istore hE d_Mo_read2_149 (by decide) ?_
                refine cx_aload_n (i := 0) hE d_Mo_read2_151 rfl rfl ?_
                refine cx_iload hE d_Mo_read2_152 rfl ?_
                refine cx_putg hE d_Mo_read2_154 f_Mo_148 (by assumption) (Nat.le_of_ble_eq_true rfl) (by first | rfl | exact cx_nr _ _) (by first | rfl | exact cx_fr _ _) (fun G_154 g_154 h_154 => ?_)
                rw [rm_s57] at g_154 h_154
                have m1 := hm.pi g_154
                refine cx_lload hE d_Mo_read2_157 rfl ?_
                refine cx_bipush (v := 32) hE d_Mo_read2_159 (by decide) ?_
                refine cx_lshl hE d_Mo_read2_161 ?_
                rw [show (32 : Int32) = nI 32 from rfl, wb_shl _ (by decide), show (2 : Nat) ^ 32 = 4294967296 from rfl]
                refine cx_lload hE d_Mo_read2_162 rfl ?_
                refine cx_lor hE d_Mo_read2_164 ?_
                rw [g_or (k := 32) (p := 4294967296) rfl (Nat.mod_lt _ (by decide)) (by have := Nat.mod_lt ((tx_val dd b a t) / 4294967296) (show 0 < 4294967296 by decide); have := Nat.mod_lt (tx_val dd b a t) (show 0 < 4294967296 by decide); omega), rm_lN2]
                refine cx_lret hE d_Mo_read2_165 rfl ?_
                rw [q_f]
                exact ⟨rfl, m1.1, m1.2, cx_pc g_154⟩
              · refine cx_lload hE d_Mo_read2_134 rfl ?_
                refine cx_iload hE d_Mo_read2_136 rfl ?_
                refine cx_lshr hE d_Mo_read2_138 ?_
                rw [wb_sar (by have := Nat.mod_lt (tx_val dd b a t) (show 0 < 4294967296 by decide); omega) (by omega)]
                refine cx_lconst (v := 0) hE d_Mo_read2_139 (by decide) ?_
                refine cx_lcmp hE d_Mo_read2_140 ?_
                refine cx_if_ne (tgt := 148)  hE d_Mo_read2_141 (by decide) (fun c_141 => ?_) (fun c_141 => ?_)
                · have q_f : decide ((tx_val dd b a t) < 2 ^ w) = false := decide_eq_false (fun z => c_141 ((rm_c0 (by have := Nat.div_le_self ((tx_val dd b a t) % 4294967296) (2 ^ w); omega)).mpr ((rm_fit2 q_94 q_108).mpr z).2))
                  refine cx_iconst (v := 0) hE d_Mo_read2_148 (by decide) ?_
                  refine cx_istore hE d_Mo_read2_149 (by decide) ?_
                  refine cx_aload_n (i := 0) hE d_Mo_read2_151 rfl rfl ?_
                  refine cx_iload hE d_Mo_read2_152 rfl ?_
                  refine cx_putg hE d_Mo_read2_154 f_Mo_148 (by assumption) (Nat.le_of_ble_eq_true rfl) (by first | rfl | exact cx_nr _ _) (by first | rfl | exact cx_fr _ _) (fun G_154 g_154 h_154 => ?_)
                  rw [rm_s57] at g_154 h_154
                  have m1 := hm.pi g_154
                  refine cx_lload hE d_Mo_read2_157 rfl ?_
                  refine cx_bipush (v := 32) hE d_Mo_read2_159 (by decide) ?_
                  refine cx_lshl hE d_Mo_read2_161 ?_
                  rw [show (32 : Int32) = nI 32 from rfl, wb_shl _ (by decide), show (2 : Nat) ^ 32 = 4294967296 from rfl]
                  refine cx_lload hE d_Mo_read2_162 rfl ?_
                  refine cx_lor hE d_Mo_read2_164 ?_
                  rw [g_or (k := 32) (p := 4294967296) rfl (Nat.mod_lt _ (by decide)) (by have := Nat.mod_lt ((tx_val dd b a t) / 4294967296) (show 0 < 4294967296 by decide); have := Nat.mod_lt (tx_val dd b a t) (show 0 < 4294967296 by decide); omega), rm_lN2]
                  refine cx_lret hE d_Mo_read2_165 rfl ?_
                  rw [q_f]
                  exact ⟨rfl, m1.1, m1.2, cx_pc g_154⟩
                · have q_f : decide ((tx_val dd b a t) < 2 ^ w) = true := decide_eq_true ((rm_fit2 q_94 q_108).mp ⟨(rm_c0 (by omega)).mp c_131, (rm_c0 (by have := Nat.div_le_self ((tx_val dd b a t) % 4294967296) (2 ^ w); omega)).mp c_141⟩)
                  refine cx_iconst (v := 1) hE d_Mo_read2_144 (by decide) ?_
                  refine cx_goto (tgt := 149) hE d_Mo_read2_145 (by decide) ?_
                  refine cx_istore hE d_Mo_read2_149 (by decide) ?_
                  refine cx_aload_n (i := 0) hE d_Mo_read2_151 rfl rfl ?_
                  refine cx_iload hE d_Mo_read2_152 rfl ?_
                  refine cx_putg hE d_Mo_read2_154 f_Mo_148 (by assumption) (Nat.le_of_ble_eq_true rfl) (by first | rfl | exact cx_nr _ _) (by first | rfl | exact cx_fr _ _) (fun G_154 g_154 h_154 => ?_)
                  rw [rm_s57] at g_154 h_154
                  have m1 := hm.pi g_154
                  refine cx_lload hE d_Mo_read2_157 rfl ?_
                  refine cx_bipush (v := 32) hE d_Mo_read2_159 (by decide) ?_
                  refine cx_lshl hE d_Mo_read2_161 ?_
                  rw [show (32 : Int32) = nI 32 from rfl, wb_shl _ (by decide), show (2 : Nat) ^ 32 = 4294967296 from rfl]
                  refine cx_lload hE d_Mo_read2_162 rfl ?_
                  refine cx_lor hE d_Mo_read2_164 ?_
                  rw [g_or (k := 32) (p := 4294967296) rfl (Nat.mod_lt _ (by decide)) (by have := Nat.mod_lt ((tx_val dd b a t) / 4294967296) (show 0 < 4294967296 by decide); have := Nat.mod_lt (tx_val dd b a t) (show 0 < 4294967296 by decide); omega), rm_lN2]
                  refine cx_lret hE d_Mo_read2_165 rfl ?_
                  rw [q_f]
                  exact ⟨rfl, m1.1, m1.2, cx_pc g_154⟩
            · have q_108 : 32 ≤ w := nJ_le (b := 32) (by decide) (Int32.not_lt.mp c_108)
              refine cx_lload hE d_Mo_read2_111 rfl ?_
              refine cx_iload hE d_Mo_read2_113 rfl ?_
              refine cx_bipush (v := 32) hE d_Mo_read2_115 (by decide) ?_
              refine cx_isub hE d_Mo_read2_117 ?_
              refine cx_lshr hE d_Mo_read2_118 ?_
              rw [show nI w - 32 = nI (w - 32) from pk_sub (b := 32) q_108, wb_sar (by have := Nat.mod_lt ((tx_val dd b a t) / 4294967296) (show 0 < 4294967296 by decide); omega) (by omega)]
              refine cx_lconst (v := 0) hE d_Mo_read2_119 (by decide) ?_
              refine cx_lcmp hE d_Mo_read2_120 ?_
              refine cx_if_ne (tgt := 148)  hE d_Mo_read2_121 (by decide) (fun c_121 => ?_) (fun c_121 => ?_)
              · have q_f : decide ((tx_val dd b a t) < 2 ^ w) = false := decide_eq_false (fun z => c_121 ((rm_c0 (by have := Nat.div_le_self ((tx_val dd b a t) / 4294967296 % 4294967296) (2 ^ (w - 32)); omega)).mpr ((rm_fit1 q_94 q_108 q_101).mpr z)))
                refine cx_iconst (v := 0) hE d_Mo_read2_148 (by decide) ?_
                refine cx_istore hE d_Mo_read2_149 (by decide) ?_
                refine cx_aload_n (i := 0) hE d_Mo_read2_151 rfl rfl ?_
                refine cx_iload hE d_Mo_read2_152 rfl ?_
                refine cx_putg hE d_Mo_read2_154 f_Mo_148 (by assumption) (Nat.le_of_ble_eq_true rfl) (by first | rfl | exact cx_nr _ _) (by first | rfl | exact cx_fr _ _) (fun G_154 g_154 h_154 => ?_)
                rw [rm_s57] at g_154 h_154
                have m1 := hm.pi g_154
                refine cx_lload hE d_Mo_read2_157 rfl ?_
                refine cx_bipush (v := 32) hE d_Mo_read2_159 (by decide) ?_
                refine cx_lshl hE d_Mo_read2_161 ?_
                rw [show (32 : Int32) = nI 32 from rfl, wb_shl _ (by decide), show (2 : Nat) ^ 32 = 4294967296 from rfl]
                refine cx_lload hE d_Mo_read2_162 rfl ?_
                refine cx_lor hE d_Mo_read2_164 ?_
                rw [g_or (k := 32) (p := 4294967296) rfl (Nat.mod_lt _ (by decide)) (by have := Nat.mod_lt ((tx_val dd b a t) / 4294967296) (show 0 < 4294967296 by decide); have := Nat.mod_lt (tx_val dd b a t) (show 0 < 4294967296 by decide); omega), rm_lN2]
                refine cx_lret hE d_Mo_read2_165 rfl ?_
                rw [q_f]
                exact ⟨rfl, m1.1, m1.2, cx_pc g_154⟩
              · have q_f : decide ((tx_val dd b a t) < 2 ^ w) = true := decide_eq_true ((rm_fit1 q_94 q_108 q_101).mp ((rm_c0 (by have := Nat.div_le_self ((tx_val dd b a t) / 4294967296 % 4294967296) (2 ^ (w - 32)); omega)).mp c_121))
                refine cx_goto (tgt := 144) hE d_Mo_read2_124 (by decide) ?_
                refine cx_iconst (v := 1) hE d_Mo_read2_144 (by decide) ?_
                refine cx_goto (tgt := 149) hE d_Mo_read2_145 (by decide) ?_
                refine cx_istore hE d_Mo_read2_149 (by decide) ?_
                refine cx_aload_n (i := 0) hE d_Mo_read2_151 rfl rfl ?_
                refine cx_iload hE d_Mo_read2_152 rfl ?_
                refine cx_putg hE d_Mo_read2_154 f_Mo_148 (by assumption) (Nat.le_of_ble_eq_true rfl) (by first | rfl | exact cx_nr _ _) (by first | rfl | exact cx_fr _ _) (fun G_154 g_154 h_154 => ?_)
                rw [rm_s57] at g_154 h_154
                have m1 := hm.pi g_154
                refine cx_lload hE d_Mo_read2_157 rfl ?_
                refine cx_bipush (v := 32) hE d_Mo_read2_159 (by decide) ?_
                refine cx_lshl hE d_Mo_read2_161 ?_
                rw [show (32 : Int32) = nI 32 from rfl, wb_shl _ (by decide), show (2 : Nat) ^ 32 = 4294967296 from rfl]
                refine cx_lload hE d_Mo_read2_162 rfl ?_
                refine cx_lor hE d_Mo_read2_164 ?_
                rw [g_or (k := 32) (p := 4294967296) rfl (Nat.mod_lt _ (by decide)) (by have := Nat.mod_lt ((tx_val dd b a t) / 4294967296) (show 0 < 4294967296 by decide); have := Nat.mod_lt (tx_val dd b a t) (show 0 < 4294967296 by decide); omega), rm_lN2]
                refine cx_lret hE d_Mo_read2_165 rfl ?_
                rw [q_f]
                exact ⟨rfl, m1.1, m1.2, cx_pc g_154⟩
      · have q_15 := nJ_lt (by omega) c_15
        have q_d := hdd (a + t) (by omega) (by omega)
        have q_r := rm_stp (v := (tx_val dd b a t)) (b := b) (dd := dd (a + t)) hb hb1 q_d.2
        have q_lo : lN ((tx_val dd b a t) % 4294967296) * (nI b).toInt64 + (rm_dg (tx_at n (M.2.1 53) (a + t))).toInt64 = lN ((tx_val dd b a t) % 4294967296 * b + dd (a + t)) := by
          rw [q_d.1, nI_l (by omega), nI_l (by omega), lN_mul, lN_add]
        have q_hi : lN ((tx_val dd b a t) / 4294967296 % 4294967296) * (nI b).toInt64 + (lN ((tx_val dd b a t) % 4294967296 * b + dd (a + t)) >>> ((32 : Int32).toInt64 &&& 63)) = lN ((tx_val dd b a t) / 4294967296 % 4294967296 * b + ((tx_val dd b a t) % 4294967296 * b + dd (a + t)) / 4294967296) := by
          rw [show (32 : Int32) = nI 32 from rfl, wb_sar (by omega) (by decide), nI_l (by omega), lN_mul, lN_add]
        have q_ml : lN ((tx_val dd b a t) % 4294967296 * b + dd (a + t)) &&& 4294967295 = lN ((tx_val dd b a (t + 1)) % 4294967296) := by
          rw [show (4294967295 : Int64) = lN (2 ^ 32 - 1) from rfl, wb_mask (by omega) (by decide), q_s]
          exact congrArg lN q_r.2.1
        have q_mh : lN ((tx_val dd b a t) / 4294967296 % 4294967296 * b + ((tx_val dd b a t) % 4294967296 * b + dd (a + t)) / 4294967296) &&& 4294967295 = lN ((tx_val dd b a (t + 1)) / 4294967296 % 4294967296) := by
          rw [show (4294967295 : Int64) = lN (2 ^ 32 - 1) from rfl, wb_mask (by omega) (by decide), q_s]
          exact congrArg lN q_r.2.2.2.1
        refine cx_lload hE d_Mo_read2_18 rfl ?_
        refine cx_iload_n (i := 3) hE d_Mo_read2_20 rfl rfl ?_
        refine cx_i2l hE d_Mo_read2_21 ?_
        refine cx_lmul hE d_Mo_read2_22 ?_
        refine cx_aload_n (i := 0) hE d_Mo_read2_23 rfl rfl ?_
        refine cx_iload hE d_Mo_read2_24 rfl ?_
        refine cx_invV1 hE d_Mo_read2_26 l_Mo_136 (by assumption) (c_Mo_at (p := a + t) hm hn hn6 (by omega)) rfl (by omega) (Nat.le_of_ble_eq_true rfl) n_Mo_at (by first | rfl | (simp only [List.map_cons, List.map_nil, cx_rfc]; rfl)) ?_
        refine cx_invS1 hE d_Mo_read2_29 l_Mo_143 (c_Mo_digit _) rfl (by omega) (Nat.le_of_ble_eq_true rfl) n_Mo_digit (by first | rfl | (simp only [List.map_cons, List.map_nil, cx_rfc]; rfl)) ?_
        refine cx_i2l hE d_Mo_read2_32 ?_
        refine cx_ladd hE d_Mo_read2_33 ?_
        rw [q_lo]
        refine cx_lstore hE d_Mo_read2_34 (by decide) ?_
        refine cx_lload hE d_Mo_read2_36 rfl ?_
        refine cx_iload_n (i := 3) hE d_Mo_read2_38 rfl rfl ?_
        refine cx_i2l hE d_Mo_read2_39 ?_
        refine cx_lmul hE d_Mo_read2_40 ?_
        refine cx_lload hE d_Mo_read2_41 rfl ?_
        refine cx_bipush (v := 32) hE d_Mo_read2_43 (by decide) ?_
        refine cx_lshr hE d_Mo_read2_45 ?_
        refine cx_ladd hE d_Mo_read2_46 ?_
        rw [q_hi]
        refine cx_lstore hE d_Mo_read2_47 (by decide) ?_
        refine cx_lload hE d_Mo_read2_49 rfl ?_
        refine cx_ldc2 (v := 4294967295) hE d_Mo_read2_51 (in_7 (List.mem_of_getElem? (i := 90) rfl)) ?_
        refine cx_land hE d_Mo_read2_54 ?_
        rw [q_ml]
        refine cx_lstore hE d_Mo_read2_55 (by decide) ?_
        refine cx_iload hE d_Mo_read2_57 rfl ?_
        refine cx_if_ne (tgt := 71)  hE d_Mo_read2_59 (by decide) (fun c_59 => ?_) (fun c_59 => ?_)
        · have q_59 := of_decide_eq_true (cx_bn.mp c_59)
          have q_o : decide (2 ^ 64 ≤ (tx_val dd b a (t + 1))) = true := decide_eq_true (by rw [q_s]; exact q_r.2.2.2.2.1 q_59)
          refine cx_iconst (v := 1) hE d_Mo_read2_71 (by decide) ?_
          refine cx_goto (tgt := 76) hE d_Mo_read2_72 (by decide) ?_
          refine cx_istore hE d_Mo_read2_76 (by decide) ?_
          refine cx_lload hE d_Mo_read2_78 rfl ?_
          refine cx_ldc2 (v := 4294967295) hE d_Mo_read2_80 (in_7 (List.mem_of_getElem? (i := 90) rfl)) ?_
          refine cx_land hE d_Mo_read2_83 ?_
          rw [q_mh]
          refine cx_lstore hE d_Mo_read2_84 (by decide) ?_
          refine cx_iinc (v := nI (a + (t + 1))) hE d_Mo_read2_86 rfl (nI_1 _) (by decide) ?_
          refine cx_goto (tgt := 12) hE d_Mo_read2_89 (by decide) ?_
          refine cx_sub [0, 2, 3, 1, 4, 5, 6, 7, 8] rfl ?_
          have z := ih (m - (t + 1)) (by omega) (t + 1) rfl (by omega)
          rw [q_o] at z
          exact z
        · have q_59 := of_decide_eq_false (cx_b0.mp c_59)
          refine cx_lload hE d_Mo_read2_62 rfl ?_
          refine cx_ldc2 (v := 4294967295) hE d_Mo_read2_64 (in_7 (List.mem_of_getElem? (i := 90) rfl)) ?_
          refine cx_lcmp hE d_Mo_read2_67 ?_
          refine cx_if_le (tgt := 75)  hE d_Mo_read2_68 (by decide) (fun c_68 => ?_) (fun c_68 => ?_)
          · have q_o : decide (2 ^ 64 ≤ (tx_val dd b a (t + 1))) = false := decide_eq_false (fun z => by rw [q_s] at z; exact (q_r.2.2.2.2.2 q_59).mp z (tx_cmp (by omega) c_68))
            refine cx_iconst (v := 0) hE d_Mo_read2_75 (by decide) ?_
            refine cx_istore hE d_Mo_read2_76 (by decide) ?_
            refine cx_lload hE d_Mo_read2_78 rfl ?_
            refine cx_ldc2 (v := 4294967295) hE d_Mo_read2_80 (in_7 (List.mem_of_getElem? (i := 90) rfl)) ?_
            refine cx_land hE d_Mo_read2_83 ?_
            rw [q_mh]
            refine cx_lstore hE d_Mo_read2_84 (by decide) ?_
            refine cx_iinc (v := nI (a + (t + 1))) hE d_Mo_read2_86 rfl (nI_1 _) (by decide) ?_
            refine cx_goto (tgt := 12) hE d_Mo_read2_89 (by decide) ?_
            refine cx_sub [0, 2, 3, 1, 4, 5, 6, 7, 8] rfl ?_
            have z := ih (m - (t + 1)) (by omega) (t + 1) rfl (by omega)
            rw [q_o] at z
            exact z
          · have q_o : decide (2 ^ 64 ≤ (tx_val dd b a (t + 1))) = true := decide_eq_true (by rw [q_s]; exact (q_r.2.2.2.2.2 q_59).mpr (tx_ncmp (by omega) c_68))
            refine cx_iconst (v := 1) hE d_Mo_read2_71 (by decide) ?_
            refine cx_goto (tgt := 76) hE d_Mo_read2_72 (by decide) ?_
            refine cx_istore hE d_Mo_read2_76 (by decide) ?_
            refine cx_lload hE d_Mo_read2_78 rfl ?_
            refine cx_ldc2 (v := 4294967295) hE d_Mo_read2_80 (in_7 (List.mem_of_getElem? (i := 90) rfl)) ?_
            refine cx_land hE d_Mo_read2_83 ?_
            rw [q_mh]
            refine cx_lstore hE d_Mo_read2_84 (by decide) ?_
            refine cx_iinc (v := nI (a + (t + 1))) hE d_Mo_read2_86 rfl (nI_1 _) (by decide) ?_
            refine cx_goto (tgt := 12) hE d_Mo_read2_89 (by decide) ?_
            refine cx_sub [0, 2, 3, 1, 4, 5, 6, 7, 8] rfl ?_
            have z := ih (m - (t + 1)) (by omega) (t + 1) rfl (by omega)
            rw [q_o] at z
            exact z
  refine cx_lconst (v := 0) hE d_Mo_read2_0 (by decide) ?_
  refine cx_lstore hE d_Mo_read2_1 (by decide) ?_
  refine cx_lconst (v := 0) hE d_Mo_read2_3 (by decide) ?_
  refine cx_lstore hE d_Mo_read2_4 (by decide) ?_
  refine cx_iconst (v := 0) hE d_Mo_read2_6 (by decide) ?_
  refine cx_istore hE d_Mo_read2_7 (by decide) ?_
  refine cx_iload_n (i := 1) hE d_Mo_read2_9 rfl rfl ?_
  refine cx_istore hE d_Mo_read2_10 (by decide) ?_
  refine cx_sub [0, 1, 2, 3, 4, 5, 6, 7, 8] rfl ?_
  have z := hloop m 0 rfl (by omega)
  rw [show decide (2 ^ 64 ≤ tx_val dd b a 0) = false from decide_eq_false (by show ¬ 2 ^ 64 ≤ 0; omega), show tx_val dd b a 0 = 0 from rfl, show lN (0 % 4294967296) = 0 from rfl] at z
  exact z
theorem rm_bl1 {n q q' : Nat} {f : Nat → Int32} (hq : q ≤ n) (h : tx_b1 n (tx_at n f) q = q') (hl : q < q') : tx_bl n (tx_at n f) q = tx_bl n (tx_at n f) q' := by
  have := tx_bl_step (f := f) hq (by omega)
  rw [h] at this
  exact this
theorem rm_com_y {n q e : Nat} {c : Nat → Int32} (h1 : q + 2 ≤ e) (h2 : ∀ i, q + 2 ≤ i → i < e → ¬ (c i = 42 ∧ c (i + 1) = 47)) (h3 : c e = 42 ∧ c (e + 1) = 47) (h4 : e + 1 < n) : tx_com n c q = e + 2 := by
  have : tx_e (tx_cP n c) (q + 2) = e := tx_e_of ⟨h1, fun i a b => ⟨by omega, h2 i a b⟩, fun z => z.2 h3⟩
  unfold tx_com
  rw [this, if_pos h4]
theorem rm_com_n {n q : Nat} {c : Nat → Int32} (h2 : ∀ i, q + 2 ≤ i → i < n → ¬ (c i = 42 ∧ c (i + 1) = 47)) : tx_com n c q = q := by
  have hx := tx_ex (P := tx_cP n c) (n := n) (fun i h => by have := h.1; omega) (q + 2)
  unfold tx_com
  rw [if_neg (fun z => hx.2.2 ⟨z, h2 _ hx.1 (by omega)⟩)]
theorem rm_b1l {n q : Nat} {c : Nat → Int32} (h : c q = 47) : (c (q + 1) = 47 → tx_b1 n c q = tx_line n c q) ∧ (c (q + 1) = 42 → tx_b1 n c q = tx_com n c q) ∧ (¬ c (q + 1) = 47 → ¬ c (q + 1) = 42 → tx_b1 n c q = q) := by
  unfold tx_b1
  rw [h, if_neg (by decide), if_neg (fun z => z rfl)]
  refine ⟨fun z => if_pos z, fun z => ?_, fun z z' => ?_⟩
  · rw [if_neg (by rw [z]; decide), if_pos z]
  · rw [if_neg z, if_neg z']
theorem rm_b1n {n q : Nat} {c : Nat → Int32} (h1 : ¬ c q = 9) (h2 : ¬ c q = 10) (h3 : ¬ c q = 13) (h4 : ¬ c q = 32) (h : ¬ c q = 47) : tx_b1 n c q = q := by
  unfold tx_b1
  rw [if_neg (fun z => z.elim h1 (fun z => z.elim h2 (fun z => z.elim h3 h4))), if_pos h]
set_option maxRecDepth 100000 in
theorem c_Mo_skip {k : cx_K} {l : Launch} {G : cx_G} {mo : Nat} {P : Nat → Nat} {M : rm_M} (hm : rm_R k G mo P M) {n : Nat} (hn : M.1 2 = nI n) (hn6 : n ≤ 65536) {p : Nat} (hp : p ≤ n)  : cx_Sp k l m_Mo_skip 1 [.ref mo, .int (nI p)] G (cx_rd (some (.int (rm_sk n (tx_at n (M.2.1 53)) p))) G) := by
  intro E hE
  have hmo := hm.1
  have hloop : ∀ (d q : Nat), n - q = d → q ≤ n → tx_bl n (tx_at n (M.2.1 53)) q = tx_bl n (tx_at n (M.2.1 53)) p → cx_V E 2 [(2, false, .int (nI q)), (0, false, .ref mo), (1, false, .int (nI p))] [] G := by
    intro d
    induction d using Nat.strongRecOn with
    | ind d ih =>
      intro q hd hq hr
      refine cx_aload_n (i := 0) hE d_Mo_skip_2 rfl rfl ?_
      refine cx_iload_n (i := 2) hE d_Mo_skip_3 rfl rfl ?_
      refine cx_invV1 hE d_Mo_skip_4 l_Mo_136 (by assumption) (c_Mo_at (p := q) hm hn hn6 (by omega)) rfl (by omega) (Nat.le_of_ble_eq_true rfl) n_Mo_at (by first | rfl | (simp only [List.map_cons, List.map_nil, cx_rfc]; rfl)) ?_
      refine cx_istore_n (i := 3) hE d_Mo_skip_7 rfl (by decide) ?_
      refine cx_iload_n (i := 3) hE d_Mo_skip_8 rfl rfl ?_
      refine cx_bipush (v := 9) hE d_Mo_skip_9 (by decide) ?_
      refine cx_icmp_eq (tgt := 32)  hE d_Mo_skip_11 (by decide) (fun c_11 => ?_) (fun c_11 => ?_)
      · have q_b : (tx_at n (M.2.1 53)) q = 9 ∨ (tx_at n (M.2.1 53)) q = 10 ∨ (tx_at n (M.2.1 53)) q = 13 ∨ (tx_at n (M.2.1 53)) q = 32 := Or.inl c_11
        have q_n : q < n := by
          rcases q_b with z | z | z | z <;> exact tx_neg z (by decide)
        refine cx_iinc (v := nI (q + 1)) hE d_Mo_skip_32 rfl (nI_1 _) (by decide) ?_
        refine cx_goto (tgt := 165) hE d_Mo_skip_35 (by decide) ?_
        refine cx_goto (tgt := 2) hE d_Mo_skip_165 (by decide) ?_
        refine cx_sub [0, 2, 3] rfl ?_
        exact ih (n - (q + 1)) (by omega) (q + 1) rfl (by omega) ((rm_bl1 hq (if_pos q_b) (by omega)).symm.trans hr)
      · refine cx_iload_n (i := 3) hE d_Mo_skip_14 rfl rfl ?_
        refine cx_bipush (v := 10) hE d_Mo_skip_15 (by decide) ?_
        refine cx_icmp_eq (tgt := 32)  hE d_Mo_skip_17 (by decide) (fun c_17 => ?_) (fun c_17 => ?_)
        · have q_b : (tx_at n (M.2.1 53)) q = 9 ∨ (tx_at n (M.2.1 53)) q = 10 ∨ (tx_at n (M.2.1 53)) q = 13 ∨ (tx_at n (M.2.1 53)) q = 32 := Or.inr (Or.inl c_17)
          have q_n : q < n := by
            rcases q_b with z | z | z | z <;> exact tx_neg z (by decide)
          refine cx_iinc (v := nI (q + 1)) hE d_Mo_skip_32 rfl (nI_1 _) (by decide) ?_
          refine cx_goto (tgt := 165) hE d_Mo_skip_35 (by decide) ?_
          refine cx_goto (tgt := 2) hE d_Mo_skip_165 (by decide) ?_
          refine cx_sub [0, 2, 3] rfl ?_
          exact ih (n - (q + 1)) (by omega) (q + 1) rfl (by omega) ((rm_bl1 hq (if_pos q_b) (by omega)).symm.trans hr)
        · refine cx_iload_n (i := 3) hE d_Mo_skip_20 rfl rfl ?_
          refine cx_bipush (v := 13) hE d_Mo_skip_21 (by decide) ?_
          refine cx_icmp_eq (tgt := 32)  hE d_Mo_skip_23 (by decide) (fun c_23 => ?_) (fun c_23 => ?_)
          · have q_b : (tx_at n (M.2.1 53)) q = 9 ∨ (tx_at n (M.2.1 53)) q = 10 ∨ (tx_at n (M.2.1 53)) q = 13 ∨ (tx_at n (M.2.1 53)) q = 32 := Or.inr (Or.inr (Or.inl c_23))
            have q_n : q < n := by
              rcases q_b with z | z | z | z <;> exact tx_neg z (by decide)
            refine cx_iinc (v := nI (q + 1)) hE d_Mo_skip_32 rfl (nI_1 _) (by decide) ?_
            refine cx_goto (tgt := 165) hE d_Mo_skip_35 (by decide) ?_
            refine cx_goto (tgt := 2) hE d_Mo_skip_165 (by decide) ?_
            refine cx_sub [0, 2, 3] rfl ?_
            exact ih (n - (q + 1)) (by omega) (q + 1) rfl (by omega) ((rm_bl1 hq (if_pos q_b) (by omega)).symm.trans hr)
          · refine cx_iload_n (i := 3) hE d_Mo_skip_26 rfl rfl ?_
            refine cx_bipush (v := 32) hE d_Mo_skip_27 (by decide) ?_
            refine cx_icmp_ne (tgt := 38)  hE d_Mo_skip_29 (by decide) (fun c_29 => ?_) (fun c_29 => ?_)
            · refine cx_iload_n (i := 3) hE d_Mo_skip_38 rfl rfl ?_
              refine cx_bipush (v := 47) hE d_Mo_skip_39 (by decide) ?_
              refine cx_icmp_ne (tgt := 80)  hE d_Mo_skip_41 (by decide) (fun c_41 => ?_) (fun c_41 => ?_)
              · refine cx_iload_n (i := 3) hE d_Mo_skip_80 rfl rfl ?_
                refine cx_bipush (v := 47) hE d_Mo_skip_81 (by decide) ?_
                refine cx_icmp_ne (tgt := 163)  hE d_Mo_skip_83 (by decide) (fun c_83 => ?_) (fun c_83 => ?_)
                · have q_1 := rm_b1n (n := n) c_11 c_17 c_23 c_29 c_83
                  have q_z : ¬ ((tx_at n (M.2.1 53)) q = 47 ∧ (tx_at n (M.2.1 53)) (q + 1) = 42) := fun z => c_83 z.1
                  refine cx_iload_n (i := 2) hE d_Mo_skip_163 rfl rfl ?_
                  refine cx_iret hE d_Mo_skip_164 rfl rfl ?_
                  have q_k : tx_bl n (tx_at n (M.2.1 53)) p = q := hr.symm.trans (tx_bl_stop q_1)
                  refine ⟨?_, rfl⟩
                  unfold rm_sk
                  rw [q_k, if_neg q_z]
                · exact absurd c_83 c_41
                  -- end
              · refine cx_aload_n (i := 0) hE d_Mo_skip_44 rfl rfl ?_
                refine cx_iload_n (i := 2) hE d_Mo_skip_45 rfl rfl ?_
                refine cx_iconst (v := 1) hE d_Mo_skip_46 (by decide) ?_
                refine cx_iadd hE d_Mo_skip_47 ?_
                show cx_V E _ _ (.int (nI q + 1) :: _) G
                rw [nI_1 q]
                refine cx_invV1 hE d_Mo_skip_48 l_Mo_136 (by assumption) (c_Mo_at (p := q + 1) hm hn hn6 (by omega)) rfl (by omega) (Nat.le_of_ble_eq_true rfl) n_Mo_at (by first | rfl | (simp only [List.map_cons, List.map_nil, cx_rfc]; rfl)) ?_
                refine cx_bipush (v := 47) hE d_Mo_skip_51 (by decide) ?_
                refine cx_icmp_ne (tgt := 80)  hE d_Mo_skip_53 (by decide) (fun c_53 => ?_) (fun c_53 => ?_)
                · refine cx_iload_n (i := 3) hE d_Mo_skip_80 rfl rfl ?_
                  refine cx_bipush (v := 47) hE d_Mo_skip_81 (by decide) ?_
                  refine cx_icmp_ne (tgt := 163)  hE d_Mo_skip_83 (by decide) (fun c_83 => ?_) (fun c_83 => ?_)
                  · exact absurd c_41 c_83
                    -- end
                  · refine cx_aload_n (i := 0) hE d_Mo_skip_86 rfl rfl ?_
                    refine cx_iload_n (i := 2) hE d_Mo_skip_87 rfl rfl ?_
                    refine cx_iconst (v := 1) hE d_Mo_skip_88 (by decide) ?_
                    refine cx_iadd hE d_Mo_skip_89 ?_
                    show cx_V E _ _ (.int (nI q + 1) :: _) G
                    rw [nI_1 q]
                    refine cx_invV1 hE d_Mo_skip_90 l_Mo_136 (by assumption) (c_Mo_at (p := q + 1) hm hn hn6 (by omega)) rfl (by omega) (Nat.le_of_ble_eq_true rfl) n_Mo_at (by first | rfl | (simp only [List.map_cons, List.map_nil, cx_rfc]; rfl)) ?_
                    refine cx_bipush (v := 42) hE d_Mo_skip_93 (by decide) ?_
                    refine cx_icmp_ne (tgt := 163)  hE d_Mo_skip_95 (by decide) (fun c_95 => ?_) (fun c_95 => ?_)
                    · have q_1 := (rm_b1l (n := n) c_83).2.2 c_53 c_95
                      have q_z : ¬ ((tx_at n (M.2.1 53)) q = 47 ∧ (tx_at n (M.2.1 53)) (q + 1) = 42) := fun z => c_95 z.2
                      refine cx_iload_n (i := 2) hE d_Mo_skip_163 rfl rfl ?_
                      refine cx_iret hE d_Mo_skip_164 rfl rfl ?_
                      have q_k : tx_bl n (tx_at n (M.2.1 53)) p = q := hr.symm.trans (tx_bl_stop q_1)
                      refine ⟨?_, rfl⟩
                      unfold rm_sk
                      rw [q_k, if_neg q_z]
                    · refine cx_iload_n (i := 2) hE d_Mo_skip_98 rfl rfl ?_
                      refine cx_iconst (v := 2) hE d_Mo_skip_99 (by decide) ?_
                      refine cx_iadd hE d_Mo_skip_100 ?_
                      show cx_V E _ _ (.int (nI q + nI 2) :: _) G
                      rw [nI_add q 2]
                      refine cx_istore hE d_Mo_skip_101 (by decide) ?_
                      have q_n := tx_neg c_95 (by decide)
                      have q_1 := (rm_b1l (n := n) c_83).2.1 c_95
                      have hcom : ∀ (d2 e : Nat), n - e = d2 → e ≤ n → q + 2 ≤ e → (∀ i, q + 2 ≤ i → i < e → ¬ ((tx_at n (M.2.1 53)) i = 42 ∧ (tx_at n (M.2.1 53)) (i + 1) = 47)) → cx_V E 103 [(4, false, .int (nI e)), (2, false, .int (nI q)), (0, false, .ref mo), (1, false, .int (nI p))] [] G := by
                        intro d2
                        induction d2 using Nat.strongRecOn with
                        | ind d2 ih2 =>
                          intro e hd2 he2 he hx
                          refine cx_iload hE d_Mo_skip_103 rfl ?_
                          refine cx_aload_n (i := 0) hE d_Mo_skip_105 rfl rfl ?_
                          refine cx_get hE d_Mo_skip_106 f_Mo_126 (by assumption) (by rfl) ?_
                          rw [hn]
                          refine cx_icmp_ge (tgt := 142)  hE d_Mo_skip_109 (by decide) (fun c_109 => ?_) (fun c_109 => ?_)
                          · have q_109 := nJ_le (by omega) c_109
                            refine cx_iload hE d_Mo_skip_142 rfl ?_
                            refine cx_aload_n (i := 0) hE d_Mo_skip_144 rfl rfl ?_
                            refine cx_get hE d_Mo_skip_145 f_Mo_126 (by assumption) (by rfl) ?_
                            rw [hn]
                            refine cx_icmp_lt (tgt := 155)  hE d_Mo_skip_148 (by decide) (fun c_148 => ?_) (fun c_148 => ?_)
                            · exact absurd c_148 (Int32.not_lt.mpr (nI_le q_109 (by omega)))
                              -- end
                            · refine cx_iconst (v := -1) hE d_Mo_skip_151 (by decide) ?_
                              refine cx_iload_n (i := 2) hE d_Mo_skip_152 rfl rfl ?_
                              refine cx_isub hE d_Mo_skip_153 ?_
                              show cx_V E _ _ (.int (-1 - nI q) :: _) G
                              refine cx_iret hE d_Mo_skip_154 rfl rfl ?_
                              have q_k : tx_bl n (tx_at n (M.2.1 53)) p = q := hr.symm.trans (tx_bl_stop (q_1.trans (rm_com_n (fun i a b => hx i a (by omega)))))
                              refine ⟨?_, rfl⟩
                              unfold rm_sk
                              rw [q_k, if_pos ⟨c_83, c_95⟩]
                          · have q_109 := nJ_lt (by omega) c_109
                            refine cx_aload_n (i := 0) hE d_Mo_skip_112 rfl rfl ?_
                            refine cx_iload hE d_Mo_skip_113 rfl ?_
                            refine cx_invV1 hE d_Mo_skip_115 l_Mo_136 (by assumption) (c_Mo_at (p := e) hm hn hn6 (by omega)) rfl (by omega) (Nat.le_of_ble_eq_true rfl) n_Mo_at (by first | rfl | (simp only [List.map_cons, List.map_nil, cx_rfc]; rfl)) ?_
                            refine cx_bipush (v := 42) hE d_Mo_skip_118 (by decide) ?_
                            refine cx_icmp_ne (tgt := 136)  hE d_Mo_skip_120 (by decide) (fun c_120 => ?_) (fun c_120 => ?_)
                            · have q_x : ¬ ((tx_at n (M.2.1 53)) e = 42 ∧ (tx_at n (M.2.1 53)) (e + 1) = 47) := fun z => c_120 z.1
                              refine cx_iinc (v := nI (e + 1)) hE d_Mo_skip_136 rfl (nI_1 _) (by decide) ?_
                              refine cx_goto (tgt := 103) hE d_Mo_skip_139 (by decide) ?_
                              refine cx_sub [0, 1, 2, 3] rfl ?_
                              exact ih2 (n - (e + 1)) (by omega) (e + 1) rfl (by omega) (by omega) (fun i a b => by
                                rcases Nat.lt_or_ge i e with z | z
                                · exact hx i a z
                                · have : i = e := by omega
                                  rw [this]; exact q_x)
                            · refine cx_aload_n (i := 0) hE d_Mo_skip_123 rfl rfl ?_
                              refine cx_iload hE d_Mo_skip_124 rfl ?_
                              refine cx_iconst (v := 1) hE d_Mo_skip_126 (by decide) ?_
                              refine cx_iadd hE d_Mo_skip_127 ?_
                              show cx_V E _ _ (.int (nI e + 1) :: _) G
                              rw [nI_1 e]
                              refine cx_invV1 hE d_Mo_skip_128 l_Mo_136 (by assumption) (c_Mo_at (p := e + 1) hm hn hn6 (by omega)) rfl (by omega) (Nat.le_of_ble_eq_true rfl) n_Mo_at (by first | rfl | (simp only [List.map_cons, List.map_nil, cx_rfc]; rfl)) ?_
                              refine cx_bipush (v := 47) hE d_Mo_skip_131 (by decide) ?_
                              refine cx_icmp_eq (tgt := 142)  hE d_Mo_skip_133 (by decide) (fun c_133 => ?_) (fun c_133 => ?_)
                              · have q_m : (tx_at n (M.2.1 53)) e = 42 ∧ (tx_at n (M.2.1 53)) (e + 1) = 47 := ⟨c_120, c_133⟩
                                have q_e1 := tx_neg c_133 (by decide)
                                refine cx_iload hE d_Mo_skip_142 rfl ?_
                                refine cx_aload_n (i := 0) hE d_Mo_skip_144 rfl rfl ?_
                                refine cx_get hE d_Mo_skip_145 f_Mo_126 (by assumption) (by rfl) ?_
                                rw [hn]
                                refine cx_icmp_lt (tgt := 155)  hE d_Mo_skip_148 (by decide) (fun c_148 => ?_) (fun c_148 => ?_)
                                · refine cx_iload hE d_Mo_skip_155 rfl ?_
                                  refine cx_iconst (v := 2) hE d_Mo_skip_157 (by decide) ?_
                                  refine cx_iadd hE d_Mo_skip_158 ?_
                                  show cx_V E _ _ (.int (nI e + nI 2) :: _) G
                                  rw [nI_add e 2]
                                  refine cx_istore_n (i := 2) hE d_Mo_skip_159 rfl (by decide) ?_
                                  refine cx_goto (tgt := 165) hE d_Mo_skip_160 (by decide) ?_
                                  refine cx_goto (tgt := 2) hE d_Mo_skip_165 (by decide) ?_
                                  refine cx_sub [0, 2, 3] rfl ?_
                                  exact ih (n - (e + 2)) (by omega) (e + 2) rfl (by omega) ((rm_bl1 hq (q_1.trans (rm_com_y he hx q_m q_e1)) (by omega)).symm.trans hr)
                                · exact absurd (nJ_le (by omega) (Int32.not_lt.mp c_148)) (by omega)
                                  -- end
                              · have q_x : ¬ ((tx_at n (M.2.1 53)) e = 42 ∧ (tx_at n (M.2.1 53)) (e + 1) = 47) := fun z => c_133 z.2
                                refine cx_iinc (v := nI (e + 1)) hE d_Mo_skip_136 rfl (nI_1 _) (by decide) ?_
                                refine cx_goto (tgt := 103) hE d_Mo_skip_139 (by decide) ?_
                                refine cx_sub [0, 1, 2, 3] rfl ?_
                                exact ih2 (n - (e + 1)) (by omega) (e + 1) rfl (by omega) (by omega) (fun i a b => by
                                  rcases Nat.lt_or_ge i e with z | z
                                  · exact hx i a z
                                  · have : i = e := by omega
                                    rw [this]; exact q_x)
                      refine cx_sub [0, 2, 3, 4] rfl ?_
                      exact hcom (n - (q + 2)) (q + 2) rfl (by omega) (Nat.le_refl _) (fun i a b => by omega)
                · have q_n := tx_neg c_41 (by decide)
                  have q_1 := (rm_b1l (n := n) c_41).1 c_53
                  have q_l : tx_line n (tx_at n (M.2.1 53)) q = tx_line n (tx_at n (M.2.1 53)) (q + 1) := tx_e_step (fun i h => h.1) ⟨q_n, by rw [c_41]; decide⟩
                  have hline : ∀ (d2 r : Nat), n - r = d2 → r ≤ n → q ≤ r → tx_line n (tx_at n (M.2.1 53)) r = tx_line n (tx_at n (M.2.1 53)) q → cx_V E 56 [(2, false, .int (nI r)), (0, false, .ref mo), (1, false, .int (nI p))] [] G := by
                    intro d2
                    induction d2 using Nat.strongRecOn with
                    | ind d2 ih2 =>
                      intro r hd2 hr2 hqr hl
                      refine cx_iload_n (i := 2) hE d_Mo_skip_56 rfl rfl ?_
                      refine cx_aload_n (i := 0) hE d_Mo_skip_57 rfl rfl ?_
                      refine cx_get hE d_Mo_skip_58 f_Mo_126 (by assumption) (by rfl) ?_
                      rw [hn]
                      refine cx_icmp_ge (tgt := 165)  hE d_Mo_skip_61 (by decide) (fun c_61 => ?_) (fun c_61 => ?_)
                      · have q_61 := nJ_le (by omega) c_61
                        have q_e := hl.symm.trans (tx_e_stop (P := fun i => i < n ∧ ¬ (tx_at n (M.2.1 53)) i = 10) (fun h => by have := h.1; omega))
                        refine cx_goto (tgt := 2) hE d_Mo_skip_165 (by decide) ?_
                        refine cx_sub [0, 1, 2] rfl ?_
                        have q_g : q + 1 ≤ r := by
                          rw [q_l] at q_e
                          have := (tx_e_le (P := fun i => i < n ∧ ¬ (tx_at n (M.2.1 53)) i = 10) (n := n) (fun i h => h.1) (q + 1)).1
                          have q_f : tx_e (fun i => i < n ∧ ¬ (tx_at n (M.2.1 53)) i = 10) (q + 1) = r := q_e
                          omega
                        exact ih (n - r) (by omega) r rfl (by omega) ((rm_bl1 hq (q_1.trans q_e) (by omega)).symm.trans hr)
                      · have q_61 := nJ_lt (by omega) c_61
                        refine cx_aload_n (i := 0) hE d_Mo_skip_64 rfl rfl ?_
                        refine cx_iload_n (i := 2) hE d_Mo_skip_65 rfl rfl ?_
                        refine cx_invV1 hE d_Mo_skip_66 l_Mo_136 (by assumption) (c_Mo_at (p := r) hm hn hn6 (by omega)) rfl (by omega) (Nat.le_of_ble_eq_true rfl) n_Mo_at (by first | rfl | (simp only [List.map_cons, List.map_nil, cx_rfc]; rfl)) ?_
                        refine cx_bipush (v := 10) hE d_Mo_skip_69 (by decide) ?_
                        refine cx_icmp_eq (tgt := 165)  hE d_Mo_skip_71 (by decide) (fun c_71 => ?_) (fun c_71 => ?_)
                        · have q_e := hl.symm.trans (tx_e_stop (P := fun i => i < n ∧ ¬ (tx_at n (M.2.1 53)) i = 10) (fun h => h.2 c_71))
                          refine cx_goto (tgt := 2) hE d_Mo_skip_165 (by decide) ?_
                          refine cx_sub [0, 1, 2] rfl ?_
                          have q_g : q + 1 ≤ r := by
                            rw [q_l] at q_e
                            have := (tx_e_le (P := fun i => i < n ∧ ¬ (tx_at n (M.2.1 53)) i = 10) (n := n) (fun i h => h.1) (q + 1)).1
                            have q_f : tx_e (fun i => i < n ∧ ¬ (tx_at n (M.2.1 53)) i = 10) (q + 1) = r := q_e
                            omega
                          exact ih (n - r) (by omega) r rfl (by omega) ((rm_bl1 hq (q_1.trans q_e) (by omega)).symm.trans hr)
                        · refine cx_iinc (v := nI (r + 1)) hE d_Mo_skip_74 rfl (nI_1 _) (by decide) ?_
                          refine cx_goto (tgt := 56) hE d_Mo_skip_77 (by decide) ?_
                          refine cx_sub [0, 1, 2] rfl ?_
                          exact ih2 (n - (r + 1)) (by omega) (r + 1) rfl (by omega) (by omega) ((tx_e_step (P := fun i => i < n ∧ ¬ (tx_at n (M.2.1 53)) i = 10) (fun i h => h.1) ⟨q_61, c_71⟩).symm.trans hl)
                  refine cx_sub [1, 2, 3] rfl ?_
                  exact hline (n - q) q rfl hq (Nat.le_refl _) rfl
            · have q_b : (tx_at n (M.2.1 53)) q = 9 ∨ (tx_at n (M.2.1 53)) q = 10 ∨ (tx_at n (M.2.1 53)) q = 13 ∨ (tx_at n (M.2.1 53)) q = 32 := Or.inr (Or.inr (Or.inr c_29))
              have q_n : q < n := by
                rcases q_b with z | z | z | z <;> exact tx_neg z (by decide)
              refine cx_iinc (v := nI (q + 1)) hE d_Mo_skip_32 rfl (nI_1 _) (by decide) ?_
              refine cx_goto (tgt := 165) hE d_Mo_skip_35 (by decide) ?_
              refine cx_goto (tgt := 2) hE d_Mo_skip_165 (by decide) ?_
              refine cx_sub [0, 2, 3] rfl ?_
              exact ih (n - (q + 1)) (by omega) (q + 1) rfl (by omega) ((rm_bl1 hq (if_pos q_b) (by omega)).symm.trans hr)
  refine cx_iload_n (i := 1) hE d_Mo_skip_0 rfl rfl ?_
  refine cx_istore_n (i := 2) hE d_Mo_skip_1 rfl (by decide) ?_
  refine cx_sub [0, 1, 2] rfl ?_
  exact hloop _ p rfl hp rfl
theorem rm_wch (x : Nat) : cx_wrd.getD x 0 = cx_ch 0 x := rfl
def rm_wk (T : List Int32) : Int32 := if tx_kwi T < 18 then 300 + nI (tx_kwi T) else 400
theorem rm_TW {c : Nat → Int32} {p e : Nat} {W : List Int32} (h1 : W.length = e - p) (h2 : ∀ u, u < W.length → c (p + u) = W.getD u 0) : tx_tx c p e = W := by
  apply List.ext_getElem
  · rw [tx_tx_len, h1]
  · intro i a b
    have := h2 i b
    rw [List.getD_eq_getElem?_getD, List.getElem?_eq_getElem b] at this
    have h3 := tx_tx_get (c := c) (p := p) (e := e) (j := i) (by omega)
    rw [List.getD_eq_getElem?_getD, List.getElem?_eq_getElem a] at h3
    simp only [Option.getD_some] at this h3
    rw [h3, this]
theorem rm_WT {c : Nat → Int32} {p e : Nat} {W : List Int32} (h : tx_tx c p e = W) : W.length = e - p ∧ ∀ u, u < W.length → p + u < e ∧ c (p + u) = W.getD u 0 := by
  subst h
  refine ⟨tx_tx_len _ _ _, fun u hu => ?_⟩
  rw [tx_tx_len] at hu
  exact ⟨by omega, (tx_tx_get hu).symm⟩
def rm_al (c : Nat → Int32) (p e : Nat) (W : List Int32) : Nat → Bool
  | 0 => true
  | t + 1 => rm_al c p e W t && decide (p + t < e ∧ c (p + t) = W.getD t 0)
theorem rm_al_i {c : Nat → Int32} {p e : Nat} {W : List Int32} : ∀ t, rm_al c p e W t = true ↔ ∀ u, u < t → p + u < e ∧ c (p + u) = W.getD u 0
  | 0 => ⟨fun _ u h => by omega, fun _ => rfl⟩
  | t + 1 => by
    unfold rm_al
    rw [Bool.and_eq_true, rm_al_i t, decide_eq_true_eq]
    refine ⟨fun h u hu => ?_, fun h => ⟨fun u hu => h u (by omega), h t (by omega)⟩⟩
    rcases Nat.lt_or_ge u t with z | z
    · exact h.1 u z
    · have : u = t := by omega
      rw [this]; exact h.2
set_option maxRecDepth 100000 in
theorem c_Mo_wordKind {k : cx_K} {l : Launch} {G : cx_G} {mo : Nat} {P : Nat → Nat} {M : rm_M} (hm : rm_R k G mo P M) {n : Nat} (hn : M.1 2 = nI n) (hn6 : n ≤ 65536) {p e : Nat} (hpe : p ≤ e) (hen : e ≤ n)  : cx_Sp k l m_Mo_wordKind 1 [.ref mo, .int (nI p), .int (nI e)] G (cx_rd (some (.int (rm_wk (tx_tx (tx_at n (M.2.1 53)) p e)))) G) := by
  intro E hE
  have hmo := hm.1
  have hloop : ∀ (d j : Nat), 18 - j = d → j ≤ 18 → j ≤ tx_kwi (tx_tx (tx_at n (M.2.1 53)) p e) → cx_V E 5 [(4, false, .int (nI j)), (3, false, .int (nI (tx_kst.getD j 0))), (0, false, .ref mo), (1, false, .int (nI p)), (2, false, .int (nI e))] [] G := by
    intro d
    induction d using Nat.strongRecOn with
    | ind d ih =>
      intro j hd hj hk
      refine cx_iload_n (i := 3) hE d_Mo_wordKind_5 rfl rfl ?_
      refine cx_wrdS hE d_Mo_wordKind_6 (in_7 (List.mem_of_getElem? (i := 73) rfl)) ?_
      refine cx_wrdn hE d_Mo_wordKind_9 ?_
      refine cx_icmp_ge (tgt := 110)  hE d_Mo_wordKind_10 (by decide) (fun c_10 => ?_) (fun c_10 => ?_)
      · have q_j : j = 18 := by
          rcases Nat.lt_or_ge j 18 with z | z
          · have f1 := (tx_kwF j z).1
            have := nJ_le (a := (tx_kst.getD j 0)) (b := 113) (by decide) c_10
            omega
          · omega
        refine cx_sipush (v := 400) hE d_Mo_wordKind_110 (by decide) ?_
        refine cx_iret hE d_Mo_wordKind_113 rfl rfl ?_
        refine ⟨?_, rfl⟩
        unfold rm_wk
        rw [if_neg (by omega)]
      · have q_j : j < 18 := by
          rcases Nat.lt_or_ge j 18 with z | z
          · exact z
          · have : j = 18 := by omega
            subst this
            exact absurd (show (113 : Int32) ≤ nI 113 by decide) c_10
        obtain ⟨f1, f2, f3, f4, f5⟩ := tx_kwF j q_j
        refine cx_iconst (v := 0) hE d_Mo_wordKind_13 (by decide) ?_
        refine cx_istore hE d_Mo_wordKind_14 (by decide) ?_
        refine cx_iconst (v := 1) hE d_Mo_wordKind_16 (by decide) ?_
        refine cx_istore hE d_Mo_wordKind_17 (by decide) ?_
        have hin : ∀ (d2 t : Nat), (tx_kwl.getD j []).length - t = d2 → t ≤ (tx_kwl.getD j []).length → cx_V E 19 [(6, false, .int (cx_b (rm_al (tx_at n (M.2.1 53)) p e (tx_kwl.getD j []) t))), (5, false, .int (nI t)), (4, false, .int (nI j)), (3, false, .int (nI (tx_kst.getD j 0))), (0, false, .ref mo), (1, false, .int (nI p)), (2, false, .int (nI e))] [] G := by
          intro d2
          induction d2 using Nat.strongRecOn with
          | ind d2 ih2 =>
            intro t hd2 ht2
            refine cx_wrdS hE d_Mo_wordKind_19 (in_7 (List.mem_of_getElem? (i := 73) rfl)) ?_
            refine cx_iload_n (i := 3) hE d_Mo_wordKind_22 rfl rfl ?_
            refine cx_iload hE d_Mo_wordKind_23 rfl ?_
            refine cx_iadd hE d_Mo_wordKind_25 ?_
            show cx_V E _ _ (.int (nI (tx_kst.getD j 0) + nI t) :: _) G
            rw [nI_add]
            refine cx_wrdb hE d_Mo_wordKind_26 (vp_in_nI (by omega) (by decide)) ?_
            rw [nI_clamp (by omega), rm_wch]
            refine cx_bipush (v := 32) hE d_Mo_wordKind_27 (by decide) ?_
            refine cx_icmp_eq (tgt := 77)  hE d_Mo_wordKind_29 (by decide) (fun c_29 => ?_) (fun c_29 => ?_)
            · have q_t : t = (tx_kwl.getD j []).length := by
                rcases Nat.lt_or_ge t (tx_kwl.getD j []).length with z | z
                · exact absurd c_29 (f4 t z).2
                · omega
              subst q_t
              refine cx_iload hE d_Mo_wordKind_77 rfl ?_
              refine cx_if_eq (tgt := 97)  hE d_Mo_wordKind_79 (by decide) (fun c_79 => ?_) (fun c_79 => ?_)
              · have q_z : ¬ tx_kwi (tx_tx (tx_at n (M.2.1 53)) p e) = j := fun z => by
                  have q := rm_WT (tx_kwi_ge q_j z)
                  have q2 := (rm_al_i _).mpr q.2
                  rw [cx_b0.mp c_79] at q2
                  cases q2
                refine cx_iload_n (i := 3) hE d_Mo_wordKind_97 rfl rfl ?_
                refine cx_iload hE d_Mo_wordKind_98 rfl ?_
                refine cx_iadd hE d_Mo_wordKind_100 ?_
                show cx_V E _ _ (.int (nI (tx_kst.getD j 0) + nI (tx_kwl.getD j []).length) :: _) G
                rw [nI_add]
                refine cx_iconst (v := 1) hE d_Mo_wordKind_101 (by decide) ?_
                refine cx_iadd hE d_Mo_wordKind_102 ?_
                show cx_V E _ _ (.int (nI ((tx_kst.getD j 0) + (tx_kwl.getD j []).length) + 1) :: _) G
                rw [nI_1]
                refine cx_istore_n (i := 3) hE d_Mo_wordKind_103 rfl (by decide) ?_
                refine cx_iinc (v := nI (j + 1)) hE d_Mo_wordKind_104 rfl (nI_1 _) (by decide) ?_
                refine cx_goto (tgt := 5) hE d_Mo_wordKind_107 (by decide) ?_
                refine cx_sub [0, 1, 4, 5, 6] rfl ?_
                rw [← f2]
                exact ih (18 - (j + 1)) (by omega) (j + 1) rfl (by omega) (by omega)
              · have q_79 := (rm_al_i _).mp (cx_bn.mp c_79)
                refine cx_iload hE d_Mo_wordKind_82 rfl ?_
                refine cx_iload_n (i := 2) hE d_Mo_wordKind_84 rfl rfl ?_
                refine cx_iload_n (i := 1) hE d_Mo_wordKind_85 rfl rfl ?_
                refine cx_isub hE d_Mo_wordKind_86 ?_
                rw [pk_sub hpe]
                refine cx_icmp_ne (tgt := 97)  hE d_Mo_wordKind_87 (by decide) (fun c_87 => ?_) (fun c_87 => ?_)
                · have q_z : ¬ tx_kwi (tx_tx (tx_at n (M.2.1 53)) p e) = j := fun z => by
                    have q := rm_WT (tx_kwi_ge q_j z)
                    exact c_87 (by rw [q.1])
                  refine cx_iload_n (i := 3) hE d_Mo_wordKind_97 rfl rfl ?_
                  refine cx_iload hE d_Mo_wordKind_98 rfl ?_
                  refine cx_iadd hE d_Mo_wordKind_100 ?_
                  show cx_V E _ _ (.int (nI (tx_kst.getD j 0) + nI (tx_kwl.getD j []).length) :: _) G
                  rw [nI_add]
                  refine cx_iconst (v := 1) hE d_Mo_wordKind_101 (by decide) ?_
                  refine cx_iadd hE d_Mo_wordKind_102 ?_
                  show cx_V E _ _ (.int (nI ((tx_kst.getD j 0) + (tx_kwl.getD j []).length) + 1) :: _) G
                  rw [nI_1]
                  refine cx_istore_n (i := 3) hE d_Mo_wordKind_103 rfl (by decide) ?_
                  refine cx_iinc (v := nI (j + 1)) hE d_Mo_wordKind_104 rfl (nI_1 _) (by decide) ?_
                  refine cx_goto (tgt := 5) hE d_Mo_wordKind_107 (by decide) ?_
                  refine cx_sub [0, 1, 4, 5, 6] rfl ?_
                  rw [← f2]
                  exact ih (18 - (j + 1)) (by omega) (j + 1) rfl (by omega) (by omega)
                · have q_87 := (nI_eq (by omega) (by omega)).mp c_87
                  have q_k : tx_kwi (tx_tx (tx_at n (M.2.1 53)) p e) = j := by
                    rw [rm_TW q_87 (fun u hu => (q_79 u hu).2)]
                    exact f5
                  refine cx_sipush (v := 300) hE d_Mo_wordKind_90 (by decide) ?_
                  refine cx_iload hE d_Mo_wordKind_93 rfl ?_
                  refine cx_iadd hE d_Mo_wordKind_95 ?_
                  show cx_V E _ _ (.int (300 + nI j) :: _) G
                  refine cx_iret hE d_Mo_wordKind_96 rfl rfl ?_
                  refine ⟨?_, rfl⟩
                  unfold rm_wk
                  rw [q_k, if_pos q_j]
            · have q_t : t < (tx_kwl.getD j []).length := by
                rcases Nat.lt_or_ge t (tx_kwl.getD j []).length with z | z
                · exact z
                · have : t = (tx_kwl.getD j []).length := by omega
                  rw [this] at c_29
                  exact absurd f3 c_29
              rw [(f4 t q_t).1] at c_29
              refine cx_iload hE d_Mo_wordKind_32 rfl ?_
              refine cx_if_eq (tgt := 68)  hE d_Mo_wordKind_34 (by decide) (fun c_34 => ?_) (fun c_34 => ?_)
              · have q_a : rm_al (tx_at n (M.2.1 53)) p e (tx_kwl.getD j []) (t + 1) = false := by
                  show (rm_al (tx_at n (M.2.1 53)) p e (tx_kwl.getD j []) t && _) = false
                  rw [cx_b0.mp c_34]; rfl
                refine cx_iconst (v := 0) hE d_Mo_wordKind_68 (by decide) ?_
                refine cx_istore hE d_Mo_wordKind_69 (by decide) ?_
                refine cx_iinc (v := nI (t + 1)) hE d_Mo_wordKind_71 rfl (nI_1 _) (by decide) ?_
                refine cx_goto (tgt := 19) hE d_Mo_wordKind_74 (by decide) ?_
                refine cx_sub [1, 0, 2, 3, 4, 5, 6] rfl ?_
                have z := ih2 ((tx_kwl.getD j []).length - (t + 1)) (by omega) (t + 1) rfl (by omega)
                rw [q_a] at z
                exact z
              · have q_34 := cx_bn.mp c_34
                refine cx_iload_n (i := 1) hE d_Mo_wordKind_37 rfl rfl ?_
                refine cx_iload hE d_Mo_wordKind_38 rfl ?_
                refine cx_iadd hE d_Mo_wordKind_40 ?_
                show cx_V E _ _ (.int (nI p + nI t) :: _) G
                rw [nI_add]
                refine cx_iload_n (i := 2) hE d_Mo_wordKind_41 rfl rfl ?_
                refine cx_icmp_ge (tgt := 68)  hE d_Mo_wordKind_42 (by decide) (fun c_42 => ?_) (fun c_42 => ?_)
                · have q_a : rm_al (tx_at n (M.2.1 53)) p e (tx_kwl.getD j []) (t + 1) = false := by
                    show (rm_al (tx_at n (M.2.1 53)) p e (tx_kwl.getD j []) t && _) = false
                    rw [decide_eq_false (fun z => by have := nJ_le (by omega) c_42; omega), Bool.and_false]
                  refine cx_iconst (v := 0) hE d_Mo_wordKind_68 (by decide) ?_
                  refine cx_istore hE d_Mo_wordKind_69 (by decide) ?_
                  refine cx_iinc (v := nI (t + 1)) hE d_Mo_wordKind_71 rfl (nI_1 _) (by decide) ?_
                  refine cx_goto (tgt := 19) hE d_Mo_wordKind_74 (by decide) ?_
                  refine cx_sub [1, 0, 2, 3, 4, 5, 6] rfl ?_
                  have z := ih2 ((tx_kwl.getD j []).length - (t + 1)) (by omega) (t + 1) rfl (by omega)
                  rw [q_a] at z
                  exact z
                · have q_42 := nJ_lt (by omega) c_42
                  refine cx_aload_n (i := 0) hE d_Mo_wordKind_45 rfl rfl ?_
                  refine cx_iload_n (i := 1) hE d_Mo_wordKind_46 rfl rfl ?_
                  refine cx_iload hE d_Mo_wordKind_47 rfl ?_
                  refine cx_iadd hE d_Mo_wordKind_49 ?_
                  show cx_V E _ _ (.int (nI p + nI t) :: _) G
                  rw [nI_add]
                  refine cx_invV1 hE d_Mo_wordKind_50 l_Mo_136 (by assumption) (c_Mo_at (p := p + t) hm hn hn6 (by omega)) rfl (by omega) (Nat.le_of_ble_eq_true rfl) n_Mo_at (by first | rfl | (simp only [List.map_cons, List.map_nil, cx_rfc]; rfl)) ?_
                  refine cx_wrdS hE d_Mo_wordKind_53 (in_7 (List.mem_of_getElem? (i := 73) rfl)) ?_
                  refine cx_iload_n (i := 3) hE d_Mo_wordKind_56 rfl rfl ?_
                  refine cx_iload hE d_Mo_wordKind_57 rfl ?_
                  refine cx_iadd hE d_Mo_wordKind_59 ?_
                  show cx_V E _ _ (.int (nI (tx_kst.getD j 0) + nI t) :: _) G
                  rw [nI_add]
                  refine cx_wrdb hE d_Mo_wordKind_60 (vp_in_nI (by omega) (by decide)) ?_
                  rw [nI_clamp (by omega), rm_wch]
                  refine cx_icmp_ne (tgt := 68)  hE d_Mo_wordKind_61 (by decide) (fun c_61 => ?_) (fun c_61 => ?_)
                  · have q_a : rm_al (tx_at n (M.2.1 53)) p e (tx_kwl.getD j []) (t + 1) = false := by
                      show (rm_al (tx_at n (M.2.1 53)) p e (tx_kwl.getD j []) t && _) = false
                      rw [decide_eq_false (fun z => c_61 (by rw [(f4 t q_t).1]; exact z.2)), Bool.and_false]
                    refine cx_iconst (v := 0) hE d_Mo_wordKind_68 (by decide) ?_
                    refine cx_istore hE d_Mo_wordKind_69 (by decide) ?_
                    refine cx_iinc (v := nI (t + 1)) hE d_Mo_wordKind_71 rfl (nI_1 _) (by decide) ?_
                    refine cx_goto (tgt := 19) hE d_Mo_wordKind_74 (by decide) ?_
                    refine cx_sub [1, 0, 2, 3, 4, 5, 6] rfl ?_
                    have z := ih2 ((tx_kwl.getD j []).length - (t + 1)) (by omega) (t + 1) rfl (by omega)
                    rw [q_a] at z
                    exact z
                  · have q_a : rm_al (tx_at n (M.2.1 53)) p e (tx_kwl.getD j []) (t + 1) = true := by
                      show (rm_al (tx_at n (M.2.1 53)) p e (tx_kwl.getD j []) t && _) = true
                      rw [q_34, decide_eq_true ⟨q_42, by rw [(f4 t q_t).1] at c_61; exact c_61⟩]; rfl
                    refine cx_iconst (v := 1) hE d_Mo_wordKind_64 (by decide) ?_
                    refine cx_goto (tgt := 69) hE d_Mo_wordKind_65 (by decide) ?_
                    refine cx_istore hE d_Mo_wordKind_69 (by decide) ?_
                    refine cx_iinc (v := nI (t + 1)) hE d_Mo_wordKind_71 rfl (nI_1 _) (by decide) ?_
                    refine cx_goto (tgt := 19) hE d_Mo_wordKind_74 (by decide) ?_
                    refine cx_sub [1, 0, 2, 3, 4, 5, 6] rfl ?_
                    have z := ih2 ((tx_kwl.getD j []).length - (t + 1)) (by omega) (t + 1) rfl (by omega)
                    rw [q_a] at z
                    exact z
        refine cx_sub [0, 1, 2, 3, 4, 5, 6] rfl ?_
        exact hin (tx_kwl.getD j []).length 0 rfl (by omega)
  refine cx_iconst (v := 0) hE d_Mo_wordKind_0 (by decide) ?_
  refine cx_istore_n (i := 3) hE d_Mo_wordKind_1 rfl (by decide) ?_
  refine cx_iconst (v := 0) hE d_Mo_wordKind_2 (by decide) ?_
  refine cx_istore hE d_Mo_wordKind_3 (by decide) ?_
  refine cx_sub [0, 1, 2, 3, 4] rfl ?_
  exact hloop 18 0 rfl (by omega) (by omega)

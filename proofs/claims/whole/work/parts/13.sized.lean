/-! SIZED NUMBERS. The first rows are pasted from the kit (laws/BITS.to-paste). -/
theorem wb_tb (n : Nat) : (lN n).toBitVec = BitVec.ofNat 64 n := rfl
theorem wb_inj {a b : Int64} (h : a.toBitVec = b.toBitVec) : a = b := Int64.toBitVec_inj.mp h
theorem wb_tn {n : Nat} (h : n < 2 ^ 64) : (lN n).toBitVec.toNat = n := by rw [wb_tb, BitVec.toNat_ofNat, Nat.mod_eq_of_lt h]
theorem wb_of (x : Int64) : ∃ n, n < 2 ^ 64 ∧ x = lN n := ⟨x.toBitVec.toNat, x.toBitVec.isLt, wb_inj (by rw [wb_tb]; simp)⟩
theorem wb_of32 (x : Int32) : ∃ n, n < 2 ^ 32 ∧ x = nI n := ⟨x.toBitVec.toNat, x.toBitVec.isLt, Int32.toBitVec_inj.mp (by show _ = BitVec.ofNat 32 _; simp)⟩
theorem wb_c : ∀ k, k < 64 → ((nI k).toInt64 &&& 63) = lN k := by decide +kernel
theorem wb_cu : ∀ k, k < 64 → ((nI k).toInt64.toUInt64 &&& Int64.toUInt64 63) = UInt64.ofNat k := by decide +kernel
theorem wb_sm : ∀ k, k < 64 → (BitVec.ofNat 64 k).smod 64 = BitVec.ofNat 64 k := by decide +kernel
theorem wb_pw {a b : Nat} (h : a ≤ b) : 2 ^ b = 2 ^ a * 2 ^ (b - a) := by rw [← Nat.pow_add]; congr 1; omega
theorem wb_lt2 {a b : Nat} (h : a < b) : 2 ^ a < 2 ^ b := Nat.pow_lt_pow_right (by decide) h
theorem wb_mod (n : Nat) : lN n = lN (n % 2 ^ 64) := wb_inj (by rw [wb_tb, wb_tb]; apply BitVec.eq_of_toNat_eq; rw [BitVec.toNat_ofNat, BitVec.toNat_ofNat, Nat.mod_mod])
theorem wb_shr {n k : Nat} (hn : n < 2 ^ 64) (hk : k < 64) : ((lN n).toUInt64 >>> ((nI k).toInt64.toUInt64 &&& Int64.toUInt64 63)).toInt64 = lN (n / 2 ^ k) := by
  rw [wb_cu k hk]
  apply wb_inj
  apply BitVec.eq_of_toNat_eq
  show ((lN n).toUInt64 >>> UInt64.ofNat k).toNat = (BitVec.ofNat 64 _).toNat
  have h1 : (UInt64.ofNat k).toNat = k := by
    show (BitVec.ofNat 64 k).toNat = k
    rw [BitVec.toNat_ofNat, Nat.mod_eq_of_lt (by omega)]
  have h2 : (lN n).toUInt64.toNat = n := wb_tn hn
  rw [UInt64.toNat_shiftRight, h1, h2, Nat.mod_eq_of_lt hk, Nat.shiftRight_eq_div_pow, BitVec.toNat_ofNat, Nat.mod_eq_of_lt (Nat.lt_of_le_of_lt (Nat.div_le_self _ _) hn)]
theorem wb_shl (n : Nat) {k : Nat} (hk : k < 64) : lN n <<< ((nI k).toInt64 &&& 63) = lN (n * 2 ^ k) := by
  rw [wb_c k hk]
  apply wb_inj
  rw [Int64.toBitVec_shiftLeft, wb_tb, wb_tb, wb_tb, wb_sm k hk]
  apply BitVec.eq_of_toNat_eq
  rw [BitVec.shiftLeft_eq', BitVec.toNat_shiftLeft, BitVec.toNat_ofNat, BitVec.toNat_ofNat, BitVec.toNat_ofNat, Nat.mod_eq_of_lt (show k < 2 ^ 64 by omega), Nat.shiftLeft_eq, Nat.mul_mod, Nat.mod_mod, ← Nat.mul_mod]
theorem wb_and {a b : Nat} (ha : a < 2 ^ 64) (hb : b < 2 ^ 64) : lN a &&& lN b = lN (a &&& b) := by
  apply wb_inj
  rw [Int64.toBitVec_and, wb_tb, wb_tb, wb_tb]
  apply BitVec.eq_of_toNat_eq
  rw [BitVec.toNat_and, BitVec.toNat_ofNat, BitVec.toNat_ofNat, BitVec.toNat_ofNat, Nat.mod_eq_of_lt ha, Nat.mod_eq_of_lt hb, Nat.mod_eq_of_lt (Nat.and_lt_two_pow _ hb)]
theorem wb_or {a b : Nat} (ha : a < 2 ^ 64) (hb : b < 2 ^ 64) : lN a ||| lN b = lN (a ||| b) := by
  apply wb_inj
  rw [Int64.toBitVec_or, wb_tb, wb_tb, wb_tb]
  apply BitVec.eq_of_toNat_eq
  rw [BitVec.toNat_or, BitVec.toNat_ofNat, BitVec.toNat_ofNat, BitVec.toNat_ofNat, Nat.mod_eq_of_lt ha, Nat.mod_eq_of_lt hb, Nat.mod_eq_of_lt (Nat.or_lt_two_pow ha hb)]
theorem wb_mask {n k : Nat} (hn : n < 2 ^ 64) (hk : k < 64) : lN n &&& lN (2 ^ k - 1) = lN (n % 2 ^ k) := by
  rw [wb_and hn (by have := wb_lt2 hk; omega), Nat.and_two_pow_sub_one_eq_mod]
theorem u_tn {n : Nat} (h : n < 2 ^ 64) : (UInt64.ofNat n).toNat = n := Nat.mod_eq_of_lt h
theorem g_or {k p a b : Nat} (hp : 2 ^ k = p) (ha : a < p) (h : b * p + a < 2 ^ 64) : lN (b * p) ||| lN a = lN (b * p + a) := by
  subst hp
  have h1 : b * 2 ^ k ||| a = b * 2 ^ k + a := by rw [← Nat.shiftLeft_eq, Nat.shiftLeft_add_eq_or_of_lt ha]
  have h3 : UInt64.ofNat (b * 2 ^ k) ||| UInt64.ofNat a = UInt64.ofNat (b * 2 ^ k + a) := UInt64.toNat_inj.mp (by rw [UInt64.toNat_or, u_tn (by omega), u_tn (by omega), u_tn h, h1])
  have h2 := congrArg UInt64.toInt64 h3
  exact h2
/-- a digit of the base -/
def tx_bs (c : Int32) : Nat := if c = 98 then 2 else if c = 111 then 8 else if c = 100 then 10 else if c = 104 then 16 else 0
theorem tx_bs_le (c : Int32) : tx_bs c ≤ 16 ∧ (tx_bs c = 0 ∨ 2 ≤ tx_bs c) := by
  unfold tx_bs
  (repeat' split) <;> omega
theorem tx_base_nI (c : Int32) : tx_base c = nI (tx_bs c) := by
  unfold tx_base tx_bs
  (repeat' split) <;> rfl
def tx_hd (c : Int32) : Nat := (tx_hex c).toInt.toNat
def tx_hok (b : Nat) (c : Int32) : Bool := decide (0 ≤ (tx_hex c).toInt ∧ (tx_hex c).toInt < b)
theorem tx_hd_nI {b : Nat} {c : Int32} (h : tx_hok b c = true) (hb : b ≤ 16) : tx_hex c = nI (tx_hd c) ∧ tx_hd c < b := by
  have h1 := of_decide_eq_true h
  refine ⟨?_, by unfold tx_hd; omega⟩
  refine Int32.toInt_inj.mp ?_
  rw [nI_toInt (by unfold tx_hd; omega)]
  unfold tx_hd
  omega
/-- a sized number: digits of its width, its base, digits, its value within the width -/
def tx_szW (c : Nat → Int32) (a m : Nat) : Nat := tx_val (fun i => tx_dg (c i)) 10 a m
def tx_szV (c : Nat → Int32) (q e : Nat) : Nat := tx_val (fun i => tx_hd (c i)) (tx_bs (c (q + 1))) (q + 2) (e - (q + 2))
def tx_sz (c : Nat → Int32) (a m e : Nat) : Prop := tx_all (fun i => tx_dig (c i)) a m = true ∧ 1 ≤ tx_szW c a m ∧ tx_szW c a m ≤ 64 ∧ tx_bs (c (a + m + 1)) ≠ 0 ∧ a + m + 2 < e ∧ tx_all (fun i => tx_hok (tx_bs (c (a + m + 1))) (c i)) (a + m + 2) (e - (a + m + 2)) = true ∧ tx_szV c (a + m) e < 2 ^ tx_szW c a m
theorem tx_val_mono {dg : Nat → Nat} {b a : Nat} (hb : 1 ≤ b) : ∀ m t, t ≤ m → tx_val dg b a t ≤ tx_val dg b a m := by
  intro m
  induction m with
  | zero => intro t ht; rw [show t = 0 by omega]; exact Nat.le_refl _
  | succ m ih =>
    intro t ht
    rcases Nat.lt_or_ge m t with q | q
    · rw [show t = m + 1 by omega]; exact Nat.le_refl _
    · have h1 := ih t q
      have h2 : tx_val dg b a m * 1 ≤ tx_val dg b a m * b := Nat.mul_le_mul_left _ hb
      show _ ≤ tx_val dg b a m * b + dg (a + m)
      omega
theorem tx_2p {w : Nat} (h : w ≤ 64) : 2 ^ w ≤ 2 ^ 64 := Nat.pow_le_pow_right (by decide) h
theorem tx_decw {c : Nat → Int32} {a m : Nat} (h : 1 ≤ tx_dec c a m 64) : tx_all (fun i => tx_dig (c i)) a m = true ∧ 1 ≤ tx_szW c a m ∧ tx_szW c a m ≤ 64 ∧ tx_dec c a m 64 = nI (tx_szW c a m) := by
  unfold tx_dec at h ⊢
  by_cases hc : tx_all (fun i => tx_dig (c i)) a m = true ∧ tx_val (fun i => tx_dg (c i)) 10 a m ≤ 64
  · rw [if_pos hc] at h ⊢
    have := (nI_leI (a := 1) (b := tx_val (fun i => tx_dg (c i)) 10 a m) (by decide) (by omega)).mp h
    exact ⟨hc.1, this, hc.2, rfl⟩
  · rw [if_neg hc] at h
    exact absurd h (by decide)
theorem tx_decn {c : Nat → Int32} {a m e : Nat} (h : ¬ 1 ≤ tx_dec c a m 64) : ¬ tx_sz c a m e := by
  rintro ⟨h1, h2, h3, -⟩
  apply h
  unfold tx_dec
  rw [if_pos ⟨h1, h3⟩]
  exact nI_le (a := 1) h2 (by unfold tx_szW at h3; omega)
def tx_szp (G : cx_G) (c : Nat → Int32) (a m e : Nat) : cx_R → cx_G → Prop := fun r G' => (tx_sz c a m e → tx_new G 21 (nI a) (nI e) none (nI (tx_szW c a m)) (lN (tx_szV c (a + m) e)) r G') ∧ (¬ tx_sz c a m e → tx_new G 23 (nI a) (nI e) none 0 0 r G')
theorem tx_hex_pos {c : Int32} (h : ¬ tx_hex c = -1) : 0 ≤ (tx_hex c).toInt := by
  unfold tx_hex at h ⊢
  have sub : ∀ (a b : Nat), a ≤ b → b < 200 → c.toInt = b → (c - nI a) = nI (b - a) := fun a b hab hb hc => by
    have : c = nI b := Int32.toInt_inj.mp (by rw [nI_toInt (by omega)]; exact hc)
    rw [this, pk_sub hab]
  split at h
  · rename_i q
    rw [if_pos q]
    have q1 := of_decide_eq_true q
    rw [show (48 : Int32) = nI 48 from rfl, sub 48 c.toInt.toNat (by omega) (by omega) (by omega), nI_toInt (by omega)]
    omega
  · rename_i q
    rw [if_neg q]
    split at h
    · rename_i q1
      rw [if_pos q1, show (97 : Int32) = nI 97 from rfl, sub 97 c.toInt.toNat (by omega) (by omega) (by omega), show (10 : Int32) = nI 10 from rfl, nI_add, nI_toInt (by omega)]
      omega
    · rename_i q1
      rw [if_neg q1]
      split at h
      · rename_i q2
        rw [if_pos q2, show (65 : Int32) = nI 65 from rfl, sub 65 c.toInt.toNat (by omega) (by omega) (by omega), show (10 : Int32) = nI 10 from rfl, nI_add, nI_toInt (by omega)]
        omega
      · exact absurd rfl h
theorem tx_step64 {v b dd : Nat} (hv : v < 2 ^ 64) (hb : b ≤ 16) (hd : dd < b) : (v * b + dd) / 4294967296 < 2 ^ 40 ∧ v / 4294967296 * b + (v % 4294967296 * b + dd) / 4294967296 = (v * b + dd) / 4294967296 ∧ (v % 4294967296 * b + dd) % 4294967296 = (v * b + dd) % 4294967296 ∧ v % 4294967296 * b + dd < 2 ^ 64 := by
  have h1 : v = 4294967296 * (v / 4294967296) + v % 4294967296 := (Nat.div_add_mod v 4294967296).symm
  generalize v / 4294967296 = x at h1 ⊢
  have hy : v % 4294967296 < 4294967296 := Nat.mod_lt _ (by decide)
  generalize v % 4294967296 = y at h1 hy ⊢
  have e1 : v * b + dd = 4294967296 * (x * b) + (y * b + dd) := by rw [h1, Nat.add_mul, Nat.mul_assoc, Nat.add_assoc]
  have e2 : x * b ≤ x * 16 := Nat.mul_le_mul_left x hb
  have e3 : y * b ≤ y * 16 := Nat.mul_le_mul_left y hb
  rw [e1]
  generalize x * b = xb at *
  generalize y * b = yb at *
  refine ⟨by omega, by omega, by omega, by omega⟩
theorem tx_cmp {x : Nat} (hx : x < 2 ^ 63) (h : lg_cmp (lN x) 4294967295 ≤ 0) : x ≤ 4294967295 := by
  unfold lg_cmp at h
  rw [show (4294967295 : Int64) = lN 4294967295 from rfl] at h
  rcases Nat.lt_or_ge 4294967295 x with q | q
  · rw [if_pos ((pk_lLT (by decide) hx).mpr q)] at h
    exact absurd h (by decide)
  · exact q
theorem tx_cmp0 {v w : Nat} (hv : v < 2 ^ 64) (h : lg_cmp (lN (v / 2 ^ w)) 0 = 0) : v < 2 ^ w := by
  have hp : 0 < 2 ^ w := Nat.two_pow_pos w
  rcases Nat.lt_or_ge v (2 ^ w) with q | q
  · exact q
  · exfalso
    have h1 : 1 ≤ v / 2 ^ w := (Nat.le_div_iff_mul_le hp).mpr (by omega)
    have h2 : v / 2 ^ w ≤ v := Nat.div_le_self _ _
    generalize v / 2 ^ w = x at h h1 h2
    unfold lg_cmp at h
    have hne : ¬ lN x = 0 := fun z => by
      have : (lN x).toBitVec.toNat = (0 : Int64).toBitVec.toNat := congrArg (fun y : Int64 => y.toBitVec.toNat) z
      rw [wb_tn (by omega)] at this
      have h0 : (0 : Int64).toBitVec.toNat = 0 := rfl
      omega
    rw [if_neg hne] at h
    split at h <;> exact absurd h (by decide)
theorem tx_ncmp0 {v w : Nat} (hv : v < 2 ^ 64) (h : ¬ lg_cmp (lN (v / 2 ^ w)) 0 = 0) : ¬ v < 2 ^ w := by
  intro q
  apply h
  rw [Nat.div_eq_of_lt q]
  rfl
theorem tx_ncmp {x : Nat} (hx : x < 2 ^ 63) (h : ¬ lg_cmp (lN x) 4294967295 ≤ 0) : ¬ x ≤ 4294967295 := by
  intro q
  apply h
  unfold lg_cmp
  rw [show (4294967295 : Int64) = lN 4294967295 from rfl, if_neg (fun z => absurd ((pk_lLT (by decide) hx).mp z) (by omega))]
  split <;> decide
set_option maxRecDepth 100000 in
theorem c_Lx_sizedNumber {k : cx_K} {l : Launch} {G : cx_G} {lx ta ws n a m e : Nat} {f : Nat → Int32} (hL : tx_L k G lx ta ws n f) (hae : a + m < e) (he : e ≤ n) (r1 : G.2.1 + 2 ≤ 601024) (r2 : G.2.2 + 14 ≤ 7293034) : cx_Sp k l m_Lx_sizedNumber 2 [.ref lx, .int (nI a), .int (nI (a + m)), .int (nI e)] G (tx_szp G (tx_at n f) a m e) := by
  intro E hE
  have hT : tx_T k G ta n f := id hL.2
  obtain ⟨hl, b, cap, h1, h2, h3, h4, hf⟩ := id hL
  refine cx_aload_n (i := 0) hE d_Lx_sizedNumber_0 rfl rfl ?_
  refine cx_iload_n (i := 1) hE d_Lx_sizedNumber_1 rfl rfl ?_
  refine cx_iload_n (i := 2) hE d_Lx_sizedNumber_2 rfl rfl ?_
  refine cx_bipush (v := 64) hE d_Lx_sizedNumber_3 (by decide) ?_
  refine cx_invV1 hE d_Lx_sizedNumber_5 l_Lx_122 (by assumption) (c_Lx_decimal (M := 64) hL (by omega) (by decide)) rfl (by omega) (Nat.le_of_ble_eq_true rfl) n_Lx_decimal (by first | rfl | (simp only [List.map_cons, List.map_nil, cx_rfc]; rfl)) ?_
  refine cx_istore hE d_Lx_sizedNumber_8 (by decide) ?_
  refine cx_aload_n (i := 0) hE d_Lx_sizedNumber_10 rfl rfl ?_
  refine cx_get hE d_Lx_sizedNumber_11 f_Lx_18 (by assumption) (by rfl) ?_
  refine cx_iload_n (i := 2) hE d_Lx_sizedNumber_14 rfl rfl ?_
  refine cx_iconst (v := 1) hE d_Lx_sizedNumber_15 (by decide) ?_
  refine cx_iadd hE d_Lx_sizedNumber_16 ?_
  show cx_V E _ _ (.int (nI (a + m) + 1) :: _) G
  rw [nI_1 (a + m)]
  refine cx_invV1 hE d_Lx_sizedNumber_17 l_Lx_47 (by assumption) (c_Ta_byteAt (p := a + m + 1) hT (by omega)) rfl (by omega) (Nat.le_of_ble_eq_true rfl) n_Ta_byteAt (by first | rfl | (simp only [List.map_cons, List.map_nil, cx_rfc]; rfl)) ?_
  refine cx_invS1 hE d_Lx_sizedNumber_20 l_Lx_136 (c_Lx_baseOf _) rfl (by omega) (Nat.le_of_ble_eq_true rfl) n_Lx_baseOf (by first | rfl | (simp only [List.map_cons, List.map_nil, cx_rfc]; rfl)) ?_
  rw [tx_base_nI]
  refine cx_istore hE d_Lx_sizedNumber_23 (by decide) ?_
  refine cx_newh 7 rfl hE d_Lx_sizedNumber_25 z_Lx_32 (by omega) (by omega) (fun a_25 G_25 n_25 b_25 g_25 h_25 => ?_)
  refine cx_dup hE d_Lx_sizedNumber_28 ?_
  refine cx_bipush (v := 23) hE d_Lx_sizedNumber_29 (by decide) ?_
  refine cx_iload_n (i := 1) hE d_Lx_sizedNumber_31 rfl rfl ?_
  refine cx_iload_n (i := 3) hE d_Lx_sizedNumber_32 rfl rfl ?_
  refine cx_invI0 hE d_Lx_sizedNumber_33 l_Lx_61 (c_To_init h_25) rfl (by omega) (Nat.le_of_ble_eq_true rfl) n_To_init (by first | rfl | (simp only [List.map_cons, List.map_nil, cx_rfc]; rfl)) ?_
  refine cx_gen (fun G_33 g_33 => ?_)
  subst g_25
  rw [cx_mp] at g_33
  have x_33 : cx_ext G G_33 := by rw [← g_33]; exact cx_ext.mk n_25
  have h_33 := cx_ms g_33
  have u_33 := cx_mc g_33
  have hT3 := x_33.T hT
  have hl3 := x_33 _ _ hl
  obtain ⟨b3, cap3, t1, t2, t3, t4, t5⟩ := id hT3
  have hbad : ∀ G2 : cx_G, ¬ tx_sz (tx_at n f) a m e → cx_ext G_33 G2 → G_33.2.1 ≤ G2.2.1 → G_33.2.2 ≤ G2.2.2 → G2.2.1 ≤ G.2.1 + 2 → G2.2.2 ≤ G.2.2 + 14 → tx_szp G (tx_at n f) a m e (.inl (some (.ref a_25))) G2 := fun G2 h0 x1 y1 y2 y3 y4 => ⟨fun z => absurd z h0, fun _ => ⟨a_25, rfl, n_25, x_33.tr x1, x1 _ _ h_33, by omega, by omega, y3, y4⟩⟩
  refine cx_astore hE d_Lx_sizedNumber_36 (by decide) ?_
  refine cx_iload hE d_Lx_sizedNumber_38 rfl ?_
  refine cx_iconst (v := 1) hE d_Lx_sizedNumber_40 (by decide) ?_
  refine cx_icmp_lt (tgt := 56) hE d_Lx_sizedNumber_41 (by decide) (fun c_41 => ?_) (fun c_41 => ?_)
  · have q_n : ¬ tx_sz (tx_at n f) a m e := tx_decn (fun z => by rw [Int32.lt_iff_toInt_lt] at c_41; rw [Int32.le_iff_toInt_le] at z; omega)
    refine cx_aload hE d_Lx_sizedNumber_56 rfl ?_
    refine cx_aret (r := some a_25) hE d_Lx_sizedNumber_58 rfl (by first | exact Or.inl ⟨_, rfl⟩ | exact Or.inr ⟨_, rfl⟩) ?_
    exact hbad _ q_n (cx_ext.rf _) (Nat.le_refl _) (Nat.le_refl _) (by omega) (by omega)
  · have q_w := tx_decw (c := tx_at n f) (a := a) (m := m) (by rw [Int32.lt_iff_toInt_lt] at c_41; rw [Int32.le_iff_toInt_le]; omega)
    refine cx_iload hE d_Lx_sizedNumber_44 rfl ?_
    refine cx_if_eq (tgt := 56) hE d_Lx_sizedNumber_46 (by decide) (fun c_46 => ?_) (fun c_46 => ?_)
    · have q_46 : tx_bs (tx_at n f (a + m + 1)) = 0 := (nI_eq (b := 0) (by have := tx_bs_le (tx_at n f (a + m + 1)); omega) (by decide)).mp c_46
      have q_n : ¬ tx_sz (tx_at n f) a m e := fun z => z.2.2.2.1 q_46
      refine cx_aload hE d_Lx_sizedNumber_56 rfl ?_
      refine cx_aret (r := some a_25) hE d_Lx_sizedNumber_58 rfl (by first | exact Or.inl ⟨_, rfl⟩ | exact Or.inr ⟨_, rfl⟩) ?_
      exact hbad _ q_n (cx_ext.rf _) (Nat.le_refl _) (Nat.le_refl _) (by omega) (by omega)
    · have q_46 : ¬ tx_bs (tx_at n f (a + m + 1)) = 0 := fun z => c_46 (by rw [z]; rfl)
      refine cx_iload_n (i := 2) hE d_Lx_sizedNumber_49 rfl rfl ?_
      refine cx_iconst (v := 2) hE d_Lx_sizedNumber_50 (by decide) ?_
      refine cx_iadd hE d_Lx_sizedNumber_51 ?_
      rw [show nI (a + m) + 2 = nI (a + m + 2) from nI_addl (a + m) 2 rfl]
      refine cx_iload_n (i := 3) hE d_Lx_sizedNumber_52 rfl rfl ?_
      refine cx_icmp_lt (tgt := 59) hE d_Lx_sizedNumber_53 (by decide) (fun c_53 => ?_) (fun c_53 => ?_)
      · have q_53 : a + m + 2 < e := (nI_ltI (by omega) (by omega)).mp c_53
        have q_b := tx_bs_le (tx_at n f (a + m + 1))
        refine cx_lconst (v := 0) hE d_Lx_sizedNumber_59 (by decide) ?_
        refine cx_lstore hE d_Lx_sizedNumber_60 (by decide) ?_
        refine cx_lconst (v := 0) hE d_Lx_sizedNumber_62 (by decide) ?_
        refine cx_lstore hE d_Lx_sizedNumber_63 (by decide) ?_
        refine cx_iload_n (i := 2) hE d_Lx_sizedNumber_65 rfl rfl ?_
        refine cx_iconst (v := 2) hE d_Lx_sizedNumber_66 (by decide) ?_
        refine cx_iadd hE d_Lx_sizedNumber_67 ?_
        rw [show nI (a + m) + 2 = nI (a + m + 2) from nI_addl (a + m) 2 rfl]
        refine cx_istore hE d_Lx_sizedNumber_68 (by decide) ?_
        have hloop : ∀ (d t : Nat), e - (a + m + 2 + t) = d → a + m + 2 + t ≤ e → tx_all (fun i => tx_hok (tx_bs (tx_at n f (a + m + 1))) (tx_at n f i)) (a + m + 2) t = true → tx_val (fun i => tx_hd (tx_at n f i)) (tx_bs (tx_at n f (a + m + 1))) (a + m + 2) t < 2 ^ 64 → cx_V E 70 [(11, false, .int (nI (a + m + 2 + t))), (9, true, .long (lN (tx_val (fun i => tx_hd (tx_at n f i)) (tx_bs (tx_at n f (a + m + 1))) (a + m + 2) (t) % 4294967296))), (7, true, .long (lN (tx_val (fun i => tx_hd (tx_at n f i)) (tx_bs (tx_at n f (a + m + 1))) (a + m + 2) (t) / 4294967296))), (6, false, .ref a_25), (5, false, .int (nI (tx_bs (tx_at n f (a + m + 1))))), (4, false, .int (tx_dec (tx_at n f) a m 64)), (0, false, .ref lx), (1, false, .int (nI a)), (2, false, .int (nI (a + m))), (3, false, .int (nI e))] [] G_33 := by
          intro d
          induction d using Nat.strongRecOn with
          | ind d ih =>
            intro t hd ht hall hv
            have q_s : tx_val (fun i => tx_hd (tx_at n f i)) (tx_bs (tx_at n f (a + m + 1))) (a + m + 2) (t + 1) = tx_val (fun i => tx_hd (tx_at n f i)) (tx_bs (tx_at n f (a + m + 1))) (a + m + 2) t * (tx_bs (tx_at n f (a + m + 1))) + tx_hd (tx_at n f (a + m + 2 + t)) := rfl
            refine cx_iload hE d_Lx_sizedNumber_70 rfl ?_
            refine cx_iload_n (i := 3) hE d_Lx_sizedNumber_72 rfl rfl ?_
            refine cx_icmp_ge (tgt := 155) hE d_Lx_sizedNumber_73 (by decide) (fun c_73 => ?_) (fun c_73 => ?_)
            · have q_73 : a + m + 2 + t = e := by have := nJ_le (by omega) c_73; omega
              have q_t : t = e - (a + m + 2) := by omega
              refine cx_newh 7 rfl hE d_Lx_sizedNumber_155 z_Lx_32 (by omega) (by omega) (fun a_155 G_155 n_155 b_155 g_155 h_155 => ?_)
              refine cx_dup hE d_Lx_sizedNumber_158 ?_
              refine cx_bipush (v := 21) hE d_Lx_sizedNumber_159 (by decide) ?_
              refine cx_iload_n (i := 1) hE d_Lx_sizedNumber_161 rfl rfl ?_
              refine cx_iload_n (i := 3) hE d_Lx_sizedNumber_162 rfl rfl ?_
              refine cx_invI0 hE d_Lx_sizedNumber_163 l_Lx_61 (c_To_init h_155) rfl (by omega) (Nat.le_of_ble_eq_true rfl) n_To_init (by first | rfl | (simp only [List.map_cons, List.map_nil, cx_rfc]; rfl)) ?_
              refine cx_gen (fun G_163 g_163 => ?_)
              subst g_155
              rw [cx_mp] at g_163
              have x_163 : cx_ext G_33 G_163 := by rw [← g_163]; exact cx_ext.mk n_155
              have h_163 := cx_ms g_163
              have u_163 := cx_mc g_163
              have na_155 : G.1 a_155 = none := by
                cases hz : G.1 a_155 with
                | none => rfl
                | some e9 => rw [x_33 _ _ hz] at n_155; cases n_155
              refine cx_astore hE d_Lx_sizedNumber_166 (by decide) ?_
              refine cx_aload hE d_Lx_sizedNumber_168 rfl ?_
              refine cx_iload hE d_Lx_sizedNumber_170 rfl ?_
              refine cx_putg hE d_Lx_sizedNumber_172 f_Lx_144 (by assumption) (Nat.le_of_ble_eq_true rfl) (by first | rfl | exact cx_nr _ _) (by first | rfl | exact cx_fr _ _) (fun G_172 g_172 h_172 => ?_)
              refine cx_aload hE d_Lx_sizedNumber_175 rfl ?_
              refine cx_lload hE d_Lx_sizedNumber_177 rfl ?_
              refine cx_bipush (v := 32) hE d_Lx_sizedNumber_179 (by decide) ?_
              refine cx_lshl hE d_Lx_sizedNumber_181 ?_
              refine cx_lload hE d_Lx_sizedNumber_182 rfl ?_
              refine cx_lor hE d_Lx_sizedNumber_184 ?_
              rw [show (32 : Int32) = nI 32 from rfl, wb_shl _ (by decide), show (2 : Nat) ^ 32 = 4294967296 from rfl, g_or (k := 32) (p := 4294967296) rfl (Nat.mod_lt _ (by decide)) (by have := Nat.div_add_mod (tx_val (fun i => tx_hd (tx_at n f i)) (tx_bs (tx_at n f (a + m + 1))) (a + m + 2) t) 4294967296; omega), show tx_val (fun i => tx_hd (tx_at n f i)) (tx_bs (tx_at n f (a + m + 1))) (a + m + 2) t / 4294967296 * 4294967296 + tx_val (fun i => tx_hd (tx_at n f i)) (tx_bs (tx_at n f (a + m + 1))) (a + m + 2) t % 4294967296 = tx_val (fun i => tx_hd (tx_at n f i)) (tx_bs (tx_at n f (a + m + 1))) (a + m + 2) t from by have := Nat.div_add_mod (tx_val (fun i => tx_hd (tx_at n f i)) (tx_bs (tx_at n f (a + m + 1))) (a + m + 2) t) 4294967296; omega]
              refine cx_putg hE d_Lx_sizedNumber_185 f_Lx_126 (by assumption) (Nat.le_of_ble_eq_true rfl) (by first | rfl | exact cx_nr _ _) (by first | rfl | exact cx_fr _ _) (fun G_185 g_185 h_185 => ?_)
              refine cx_iload hE d_Lx_sizedNumber_188 rfl ?_
              refine cx_bipush (v := 64) hE d_Lx_sizedNumber_190 (by decide) ?_
              refine cx_icmp_ge (tgt := 213) hE d_Lx_sizedNumber_192 (by decide) (fun c_192 => ?_) (fun c_192 => ?_)
              · have q_192 : tx_szW (tx_at n f) a m = 64 := by
                  rw [q_w.2.2.2] at c_192
                  have := nJ_le (b := 64) (by decide) c_192
                  omega
                have q_v : tx_val (fun i => tx_hd (tx_at n f i)) (tx_bs (tx_at n f (a + m + 1))) (a + m + 2) t < 2 ^ tx_szW (tx_at n f) a m := by rw [q_192]; exact hv
                refine cx_aload hE d_Lx_sizedNumber_213 rfl ?_
                refine cx_aret (r := some a_155) hE d_Lx_sizedNumber_215 rfl (by first | exact Or.inl ⟨_, rfl⟩ | exact Or.inr ⟨_, rfl⟩) ?_
                have w_185 : cx_ext G_33 G_185 := by rw [← g_185, ← g_172]; exact (x_163.pt n_155).pt n_155
                have y_185 : G_185.2 = G_163.2 := (cx_pc g_185).trans (cx_pc g_172)
                have y1 : G_185.2.1 = G_33.2.1 + 1 := by rw [y_185]; exact u_163.1
                have y2 : G_185.2.2 = G_33.2.2 + 7 := by rw [y_185]; exact u_163.2
                have q_ok : tx_sz (tx_at n f) a m e := ⟨q_w.1, q_w.2.1, q_w.2.2.1, q_46, q_53, by rw [← q_t]; exact hall, by unfold tx_szV; rw [← q_t]; exact q_v⟩
                exact ⟨fun _ => ⟨a_155, rfl, na_155, x_33.tr w_185, by rw [h_185]; unfold tx_szV; rw [← q_t, q_w.2.2.2]; rfl, by omega, by omega, by omega, by omega⟩, fun z => absurd q_ok z⟩
              · have q_192 : tx_szW (tx_at n f) a m < 64 := by
                  rw [q_w.2.2.2] at c_192
                  exact nJ_lt (b := 64) (by omega) c_192
                refine cx_aload hE d_Lx_sizedNumber_195 rfl ?_
                refine cx_get hE d_Lx_sizedNumber_197 f_Lx_126 (by assumption) (by rfl) ?_
                refine cx_iload hE d_Lx_sizedNumber_200 rfl ?_
                refine cx_lushr hE d_Lx_sizedNumber_202 ?_
                rw [q_w.2.2.2, wb_shr (by omega) q_192]
                refine cx_lconst (v := 0) hE d_Lx_sizedNumber_203 (by decide) ?_
                refine cx_lcmp hE d_Lx_sizedNumber_204 ?_
                refine cx_if_eq (tgt := 213) hE d_Lx_sizedNumber_205 (by decide) (fun c_205 => ?_) (fun c_205 => ?_)
                · have q_v : tx_val (fun i => tx_hd (tx_at n f i)) (tx_bs (tx_at n f (a + m + 1))) (a + m + 2) t < 2 ^ tx_szW (tx_at n f) a m := tx_cmp0 (by omega) c_205
                  refine cx_aload hE d_Lx_sizedNumber_213 rfl ?_
                  refine cx_aret (r := some a_155) hE d_Lx_sizedNumber_215 rfl (by first | exact Or.inl ⟨_, rfl⟩ | exact Or.inr ⟨_, rfl⟩) ?_
                  have w_185 : cx_ext G_33 G_185 := by rw [← g_185, ← g_172]; exact (x_163.pt n_155).pt n_155
                  have y_185 : G_185.2 = G_163.2 := (cx_pc g_185).trans (cx_pc g_172)
                  have y1 : G_185.2.1 = G_33.2.1 + 1 := by rw [y_185]; exact u_163.1
                  have y2 : G_185.2.2 = G_33.2.2 + 7 := by rw [y_185]; exact u_163.2
                  have q_ok : tx_sz (tx_at n f) a m e := ⟨q_w.1, q_w.2.1, q_w.2.2.1, q_46, q_53, by rw [← q_t]; exact hall, by unfold tx_szV; rw [← q_t]; exact q_v⟩
                  exact ⟨fun _ => ⟨a_155, rfl, na_155, x_33.tr w_185, by rw [h_185]; unfold tx_szV; rw [← q_t, q_w.2.2.2]; rfl, by omega, by omega, by omega, by omega⟩, fun z => absurd q_ok z⟩
                · have q_v : ¬ tx_val (fun i => tx_hd (tx_at n f i)) (tx_bs (tx_at n f (a + m + 1))) (a + m + 2) t < 2 ^ tx_szW (tx_at n f) a m := tx_ncmp0 (by omega) c_205
                  refine cx_aload hE d_Lx_sizedNumber_208 rfl ?_
                  refine cx_goto (tgt := 215) hE d_Lx_sizedNumber_210 (by decide) ?_
                  refine cx_aret (r := some a_25) hE d_Lx_sizedNumber_215 rfl (by first | exact Or.inl ⟨_, rfl⟩ | exact Or.inr ⟨_, rfl⟩) ?_
                  have w_185 : cx_ext G_33 G_185 := by rw [← g_185, ← g_172]; exact (x_163.pt n_155).pt n_155
                  have y_185 : G_185.2 = G_163.2 := (cx_pc g_185).trans (cx_pc g_172)
                  have y1 : G_185.2.1 = G_33.2.1 + 1 := by rw [y_185]; exact u_163.1
                  have y2 : G_185.2.2 = G_33.2.2 + 7 := by rw [y_185]; exact u_163.2
                  have q_n : ¬ tx_sz (tx_at n f) a m e := fun z => by
                    have h8 := z.2.2.2.2.2.2
                    unfold tx_szV at h8
                    rw [← q_t] at h8
                    exact q_v h8
                  exact hbad _ q_n w_185 (by omega) (by omega) (by omega) (by omega)
            · have q_73 := nJ_lt (by omega) c_73
              have q_n0 : ∀ hq : tx_hok (tx_bs (tx_at n f (a + m + 1))) (tx_at n f (a + m + 2 + t)) = false, ¬ tx_sz (tx_at n f) a m e := fun hq z => by
                have h9 := z.2.2.2.2.2.1
                rw [tx_all_no hq _ (by omega)] at h9
                cases h9
              refine cx_aload_n (i := 0) hE d_Lx_sizedNumber_76 rfl rfl ?_
              refine cx_get hE d_Lx_sizedNumber_77 f_Lx_18 (by assumption) (by rfl) ?_
              refine cx_iload hE d_Lx_sizedNumber_80 rfl ?_
              refine cx_invV1 hE d_Lx_sizedNumber_82 l_Lx_47 (by assumption) (c_Ta_byteAt (p := a + m + 2 + t) hT3 (by omega)) rfl (by omega) (Nat.le_of_ble_eq_true rfl) n_Ta_byteAt (by first | rfl | (simp only [List.map_cons, List.map_nil, cx_rfc]; rfl)) ?_
              refine cx_invS1 hE d_Lx_sizedNumber_85 l_Lx_139 (c_Lx_digitOf _) rfl (by omega) (Nat.le_of_ble_eq_true rfl) n_Lx_digitOf (by first | rfl | (simp only [List.map_cons, List.map_nil, cx_rfc]; rfl)) ?_
              refine cx_istore hE d_Lx_sizedNumber_88 (by decide) ?_
              refine cx_lload hE d_Lx_sizedNumber_90 rfl ?_
              refine cx_iload hE d_Lx_sizedNumber_92 rfl ?_
              refine cx_i2l hE d_Lx_sizedNumber_94 ?_
              refine cx_lmul hE d_Lx_sizedNumber_95 ?_
              refine cx_iload hE d_Lx_sizedNumber_96 rfl ?_
              refine cx_i2l hE d_Lx_sizedNumber_98 ?_
              refine cx_ladd hE d_Lx_sizedNumber_99 ?_
              refine cx_lstore hE d_Lx_sizedNumber_100 (by decide) ?_
              refine cx_lload hE d_Lx_sizedNumber_102 rfl ?_
              refine cx_iload hE d_Lx_sizedNumber_104 rfl ?_
              refine cx_i2l hE d_Lx_sizedNumber_106 ?_
              refine cx_lmul hE d_Lx_sizedNumber_107 ?_
              refine cx_lload hE d_Lx_sizedNumber_108 rfl ?_
              refine cx_bipush (v := 32) hE d_Lx_sizedNumber_110 (by decide) ?_
              refine cx_lushr hE d_Lx_sizedNumber_112 ?_
              refine cx_ladd hE d_Lx_sizedNumber_113 ?_
              refine cx_lstore hE d_Lx_sizedNumber_114 (by decide) ?_
              refine cx_lload hE d_Lx_sizedNumber_116 rfl ?_
              refine cx_ldc2 (v := 4294967295) hE d_Lx_sizedNumber_118 (in_2 (List.mem_of_getElem? (i := 183) rfl)) ?_
              refine cx_land hE d_Lx_sizedNumber_121 ?_
              refine cx_lstore hE d_Lx_sizedNumber_122 (by decide) ?_
              refine cx_iload hE d_Lx_sizedNumber_124 rfl ?_
              refine cx_iconst (v := -1) hE d_Lx_sizedNumber_126 (by decide) ?_
              refine cx_icmp_eq (tgt := 146) hE d_Lx_sizedNumber_127 (by decide) (fun c_127 => ?_) (fun c_127 => ?_)
              · have q_n : ¬ tx_sz (tx_at n f) a m e := q_n0 (decide_eq_false (fun z => by rw [c_127] at z; exact absurd z.1 (by decide)))
                refine cx_aload hE d_Lx_sizedNumber_146 rfl ?_
                refine cx_aret (r := some a_25) hE d_Lx_sizedNumber_148 rfl (by first | exact Or.inl ⟨_, rfl⟩ | exact Or.inr ⟨_, rfl⟩) ?_
                exact hbad _ q_n (cx_ext.rf _) (Nat.le_refl _) (Nat.le_refl _) (by omega) (by omega)
              · refine cx_iload hE d_Lx_sizedNumber_130 rfl ?_
                refine cx_iload hE d_Lx_sizedNumber_132 rfl ?_
                refine cx_icmp_ge (tgt := 146) hE d_Lx_sizedNumber_134 (by decide) (fun c_134 => ?_) (fun c_134 => ?_)
                · have q_n : ¬ tx_sz (tx_at n f) a m e := q_n0 (decide_eq_false (fun z => by
                    rw [Int32.le_iff_toInt_le, nI_toInt (by omega)] at c_134
                    omega))
                  refine cx_aload hE d_Lx_sizedNumber_146 rfl ?_
                  refine cx_aret (r := some a_25) hE d_Lx_sizedNumber_148 rfl (by first | exact Or.inl ⟨_, rfl⟩ | exact Or.inr ⟨_, rfl⟩) ?_
                  exact hbad _ q_n (cx_ext.rf _) (Nat.le_refl _) (Nat.le_refl _) (by omega) (by omega)
                · have q_134 : (tx_hex (tx_at n f (a + m + 2 + t))).toInt < (tx_bs (tx_at n f (a + m + 1)) : Nat) := by
                    rw [Int32.le_iff_toInt_le, nI_toInt (by omega)] at c_134
                    omega
                  have q_127 : 0 ≤ (tx_hex (tx_at n f (a + m + 2 + t))).toInt := tx_hex_pos c_127
                  have q_hok : tx_hok (tx_bs (tx_at n f (a + m + 1))) (tx_at n f (a + m + 2 + t)) = true := decide_eq_true ⟨q_127, q_134⟩
                  have q_d := tx_hd_nI q_hok q_b.1
                  have q_lo : lN (tx_val (fun i => tx_hd (tx_at n f i)) (tx_bs (tx_at n f (a + m + 1))) (a + m + 2) t % 4294967296) * (nI (tx_bs (tx_at n f (a + m + 1)))).toInt64 + (tx_hex (tx_at n f (a + m + 2 + t))).toInt64 = lN (tx_val (fun i => tx_hd (tx_at n f i)) (tx_bs (tx_at n f (a + m + 1))) (a + m + 2) t % 4294967296 * (tx_bs (tx_at n f (a + m + 1))) + tx_hd (tx_at n f (a + m + 2 + t))) := by
                    rw [q_d.1, nI_l (by omega), nI_l (by omega), lN_mul, lN_add]
                  have q_r := tx_step64 (b := tx_bs (tx_at n f (a + m + 1))) (dd := tx_hd (tx_at n f (a + m + 2 + t))) hv q_b.1 q_d.2
                  have q_hi : lN (tx_val (fun i => tx_hd (tx_at n f i)) (tx_bs (tx_at n f (a + m + 1))) (a + m + 2) t / 4294967296) * (nI (tx_bs (tx_at n f (a + m + 1)))).toInt64 + ((lN (tx_val (fun i => tx_hd (tx_at n f i)) (tx_bs (tx_at n f (a + m + 1))) (a + m + 2) t % 4294967296) * (nI (tx_bs (tx_at n f (a + m + 1)))).toInt64 + (tx_hex (tx_at n f (a + m + 2 + t))).toInt64).toUInt64 >>> ((32 : Int32).toInt64.toUInt64 &&& Int64.toUInt64 63)).toInt64 = lN (tx_val (fun i => tx_hd (tx_at n f i)) (tx_bs (tx_at n f (a + m + 1))) (a + m + 2) (t + 1) / 4294967296) := by
                    rw [q_lo, show (32 : Int32) = nI 32 from rfl, wb_shr q_r.2.2.2 (by decide), nI_l (by omega), lN_mul, lN_add, q_s]
                    exact congrArg lN q_r.2.1
                  have q_ml : (lN (tx_val (fun i => tx_hd (tx_at n f i)) (tx_bs (tx_at n f (a + m + 1))) (a + m + 2) t % 4294967296) * (nI (tx_bs (tx_at n f (a + m + 1)))).toInt64 + (tx_hex (tx_at n f (a + m + 2 + t))).toInt64) &&& 4294967295 = lN (tx_val (fun i => tx_hd (tx_at n f i)) (tx_bs (tx_at n f (a + m + 1))) (a + m + 2) (t + 1) % 4294967296) := by
                    rw [q_lo, show (4294967295 : Int64) = lN (2 ^ 32 - 1) from rfl, wb_mask q_r.2.2.2 (by decide), q_s]
                    exact congrArg lN q_r.2.2.1
                  rw [q_hi, q_ml]
                  have q_hb := q_r.1
                  rw [← q_s] at q_hb
                  refine cx_lload hE d_Lx_sizedNumber_137 rfl ?_
                  refine cx_ldc2 (v := 4294967295) hE d_Lx_sizedNumber_139 (in_2 (List.mem_of_getElem? (i := 183) rfl)) ?_
                  refine cx_lcmp hE d_Lx_sizedNumber_142 ?_
                  refine cx_if_le (tgt := 149) hE d_Lx_sizedNumber_143 (by decide) (fun c_143 => ?_) (fun c_143 => ?_)
                  · have q_143 : tx_val (fun i => tx_hd (tx_at n f i)) (tx_bs (tx_at n f (a + m + 1))) (a + m + 2) (t + 1) / 4294967296 ≤ 4294967295 := tx_cmp (by omega) c_143
                    refine cx_iinc (v := nI (a + m + 2 + (t + 1))) hE d_Lx_sizedNumber_149 rfl (nI_1 _) (by decide) ?_
                    refine cx_goto (tgt := 70) hE d_Lx_sizedNumber_152 (by decide) ?_
                    refine cx_sub [0, 1, 2, 4, 5, 6, 7, 8, 9, 10] rfl ?_
                    exact ih (e - (a + m + 2 + (t + 1))) (by omega) (t + 1) rfl (by omega) (by rw [tx_all, hall, q_hok]; rfl) (by omega)
                  · have q_143 : ¬ tx_val (fun i => tx_hd (tx_at n f i)) (tx_bs (tx_at n f (a + m + 1))) (a + m + 2) (t + 1) / 4294967296 ≤ 4294967295 := tx_ncmp (by omega) c_143
                    have q_n : ¬ tx_sz (tx_at n f) a m e := fun z => by
                      have h8 := z.2.2.2.2.2.2
                      have h9 := tx_val_mono (dg := fun i => tx_hd (tx_at n f i)) (b := tx_bs (tx_at n f (a + m + 1))) (a := a + m + 2) (by omega) (e - (a + m + 2)) (t + 1) (by omega)
                      have h7 := tx_2p (w := tx_szW (tx_at n f) a m) z.2.2.1
                      unfold tx_szV at h8
                      omega
                    refine cx_aload hE d_Lx_sizedNumber_146 rfl ?_
                    refine cx_aret (r := some a_25) hE d_Lx_sizedNumber_148 rfl (by first | exact Or.inl ⟨_, rfl⟩ | exact Or.inr ⟨_, rfl⟩) ?_
                    exact hbad _ q_n (cx_ext.rf _) (Nat.le_refl _) (Nat.le_refl _) (by omega) (by omega)
        refine cx_sub [0, 1, 2, 3, 4, 5, 6, 7, 8, 9] rfl ?_
        have h_0 := hloop (e - (a + m + 2 + 0)) 0 rfl (by omega) rfl (by show 0 < _; decide)
        rw [show lN (tx_val (fun i => tx_hd (tx_at n f i)) (tx_bs (tx_at n f (a + m + 1))) (a + m + 2) 0 % 4294967296) = (0 : Int64) from rfl, show lN (tx_val (fun i => tx_hd (tx_at n f i)) (tx_bs (tx_at n f (a + m + 1))) (a + m + 2) 0 / 4294967296) = (0 : Int64) from by rw [show tx_val (fun i => tx_hd (tx_at n f i)) (tx_bs (tx_at n f (a + m + 1))) (a + m + 2) 0 = 0 from rfl, Nat.zero_div]; rfl] at h_0
        exact h_0
      · have q_n : ¬ tx_sz (tx_at n f) a m e := fun z => c_53 (nI_lt z.2.2.2.2.1 (by omega))
        refine cx_aload hE d_Lx_sizedNumber_56 rfl ?_
        refine cx_aret (r := some a_25) hE d_Lx_sizedNumber_58 rfl (by first | exact Or.inl ⟨_, rfl⟩ | exact Or.inr ⟨_, rfl⟩) ?_
        exact hbad _ q_n (cx_ext.rf _) (Nat.le_refl _) (Nat.le_refl _) (by omega) (by omega)
/-- a number's first place that isn't a quote and doesn't go on, from p on, with the first quote (if there was one) -/
def tx_nP (n : Nat) (c : Nat → Int32) (i : Nat) : Prop := i < n ∧ tx_on (c i) = true
/-- behind the quote (or the first stop), and behind the number -/
noncomputable def tx_q (n : Nat) (c : Nat → Int32) (p : Nat) : Nat := tx_e (tx_nP n c) p
noncomputable def tx_ne (n : Nat) (c : Nat → Int32) (p : Nat) : Nat := if c (tx_q n c p) = 39 then tx_e (tx_nP n c) (tx_q n c p + 1) else tx_q n c p

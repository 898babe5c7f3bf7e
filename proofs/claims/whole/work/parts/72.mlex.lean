/-! THE REFERENCE: its lexer, small methods. -/
theorem tx_dign {n : Nat} {f : Nat → Int32} {i : Nat} (h : tx_dig (tx_at n f i) = true) : i < n := by
  rcases Nat.lt_or_ge i n with z | z
  · exact z
  · rw [(tx_at_n n f i).mpr z] at h
    exact absurd h (by decide)
theorem tx_onn {n : Nat} {f : Nat → Int32} {i : Nat} (h : tx_on (tx_at n f i) = true) : i < n := by
  rcases Nat.lt_or_ge i n with z | z
  · exact z
  · rw [(tx_at_n n f i).mpr z] at h
    exact absurd h (by decide)
theorem tx_on_r (c : Int32) : tx_on c = ((tx_let c || decide (c = 95)) || (tx_dig c || decide (c = 36))) := by
  unfold tx_on
  cases tx_let c <;> cases tx_dig c <;> cases decide (c = 95) <;> cases decide (c = 36) <;> rfl
def rm_dP (n : Nat) (c : Nat → Int32) (i : Nat) : Prop := i < n ∧ tx_dig (c i) = true
theorem rm_dP_n {n : Nat} {c : Nat → Int32} : ∀ i, rm_dP n c i → i < n := fun _ h => h.1
noncomputable def rm_de (n : Nat) (c : Nat → Int32) (p : Nat) : Nat := tx_e (rm_dP n c) p
noncomputable def rm_ne (n : Nat) (c : Nat → Int32) (p : Nat) : Nat := if c (rm_de n c p) = 39 then tx_e (tx_nP n c) (rm_de n c p + 1) else tx_e (tx_nP n c) (rm_de n c p)
noncomputable def rm_sk (n : Nat) (c : Nat → Int32) (p : Nat) : Int32 := if c (tx_bl n c p) = 47 ∧ c (tx_bl n c p + 1) = 42 then -1 - nI (tx_bl n c p) else nI (tx_bl n c p)
def rm_dg (c : Int32) : Int32 := if tx_dig c then c - 48 else if 97 ≤ c.toInt ∧ c.toInt ≤ 102 then c - 97 + 10 else if 65 ≤ c.toInt ∧ c.toInt ≤ 70 then c - 65 + 10 else 99
theorem rm_dg_hex (c : Int32) : rm_dg c = if tx_hex c = -1 then 99 else tx_hex c := by
  unfold rm_dg tx_hex tx_dig
  have h1 := c.toInt_lt
  have h2 := c.le_toInt
  by_cases a : 48 ≤ c.toInt ∧ c.toInt ≤ 57
  · rw [decide_eq_true a]
    simp only [if_true]
    obtain ⟨x, hx, hc⟩ : ∃ x, x < 58 ∧ c = nI x := ⟨c.toInt.toNat, by omega, by apply Int32.toInt_inj.mp; rw [nI_toInt (by omega)]; omega⟩
    subst hc
    rw [nI_toInt (by omega)] at a
    have : ∀ y : Nat, y < 58 → 48 ≤ y → nI y - 48 = if nI y - 48 = -1 then 99 else nI y - 48 := by decide +kernel
    exact this x hx (by omega)
  · rw [decide_eq_false a]
    simp only [Bool.false_eq_true, if_false]
    by_cases b : 97 ≤ c.toInt ∧ c.toInt ≤ 102
    · rw [if_pos b, if_pos b]
      obtain ⟨x, hx, hc⟩ : ∃ x, x < 103 ∧ c = nI x := ⟨c.toInt.toNat, by omega, by apply Int32.toInt_inj.mp; rw [nI_toInt (by omega)]; omega⟩
      subst hc
      rw [nI_toInt (by omega)] at b
      have : ∀ y : Nat, y < 103 → 97 ≤ y → nI y - 97 + 10 = if nI y - 97 + 10 = -1 then 99 else nI y - 97 + 10 := by decide +kernel
      exact this x hx (by omega)
    · rw [if_neg b, if_neg b]
      by_cases d : 65 ≤ c.toInt ∧ c.toInt ≤ 70
      · rw [if_pos d, if_pos d]
        obtain ⟨x, hx, hc⟩ : ∃ x, x < 71 ∧ c = nI x := ⟨c.toInt.toNat, by omega, by apply Int32.toInt_inj.mp; rw [nI_toInt (by omega)]; omega⟩
        subst hc
        rw [nI_toInt (by omega)] at d
        have : ∀ y : Nat, y < 71 → 65 ≤ y → nI y - 65 + 10 = if nI y - 65 + 10 = -1 then 99 else nI y - 65 + 10 := by decide +kernel
        exact this x hx (by omega)
      · rw [if_neg d, if_neg d]
        rfl
def rm_pair (a b : Int32) : Int32 := if a = 38 ∧ b = 38 then 256 else if a = 124 ∧ b = 124 then 257 else if a = 61 ∧ b = 61 then 258 else if a = 33 ∧ b = 61 then 259 else if a = 60 ∧ b = 61 then 260 else if a = 62 ∧ b = 61 then 261 else if a = 60 ∧ b = 60 then 262 else if a = 62 ∧ b = 62 then 263 else 0
theorem rm_pf (a b : Int32) : (tx_pf a b 8 0 = true → 0 < rm_pair a b ∧ (a * 256 + b, rm_pair a b) ∈ rm_kl) ∧ (tx_pf a b 8 0 = false → rm_pair a b = 0) := by
  have e : tx_pf a b 8 0 = (decide (a = 38) && decide (b = 38) || (decide (a = 124) && decide (b = 124) || (decide (a = 61) && decide (b = 61) || (decide (a = 33) && decide (b = 61) || (decide (a = 60) && decide (b = 61) || (decide (a = 62) && decide (b = 61) || (decide (a = 60) && decide (b = 60) || (decide (a = 62) && decide (b = 62) || false)))))))) := rfl
  rw [e]
  refine ⟨fun h => ?_, fun h => ?_⟩
  · simp only [Bool.or_eq_true, Bool.and_eq_true, decide_eq_true_eq, Bool.false_eq_true, or_false] at h
    rcases h with ⟨rfl, rfl⟩ | ⟨rfl, rfl⟩ | ⟨rfl, rfl⟩ | ⟨rfl, rfl⟩ | ⟨rfl, rfl⟩ | ⟨rfl, rfl⟩ | ⟨rfl, rfl⟩ | ⟨rfl, rfl⟩ <;> decide
  · simp only [Bool.or_eq_false_iff, Bool.and_eq_false_iff, decide_eq_false_iff_not] at h
    obtain ⟨h1, h2, h3, h4, h5, h6, h7, h8, -⟩ := h
    unfold rm_pair
    rw [if_neg (fun z => h1.elim (fun q => q z.1) (fun q => q z.2)), if_neg (fun z => h2.elim (fun q => q z.1) (fun q => q z.2)), if_neg (fun z => h3.elim (fun q => q z.1) (fun q => q z.2)), if_neg (fun z => h4.elim (fun q => q z.1) (fun q => q z.2)), if_neg (fun z => h5.elim (fun q => q z.1) (fun q => q z.2)), if_neg (fun z => h6.elim (fun q => q z.1) (fun q => q z.2)), if_neg (fun z => h7.elim (fun q => q z.1) (fun q => q z.2)), if_neg (fun z => h8.elim (fun q => q z.1) (fun q => q z.2))]
def rm_sgn (c : Int32) : Bool := decide (0 ≤ (cx_ix 3 c).toInt)
theorem rm_sgT : ∀ j, j < 94 → (#[391, 393, 393, 393, 393, 391, 393, 391, 391, 391, 391, 391, 391, 391, 393, 393, 393, 393, 393, 393, 393, 393, 393, 393, 393, 391, 391, 391, 391, 391, 391, 391, 393, 393, 393, 393, 393, 393, 393, 393, 393, 393, 393, 393, 393, 393, 393, 393, 393, 393, 393, 393, 393, 393, 393, 393, 393, 393, 391, 393, 391, 391, 393, 393, 393, 393, 393, 393, 393, 393, 393, 393, 393, 393, 393, 393, 393, 393, 393, 393, 393, 393, 393, 393, 393, 393, 393, 393, 393, 393, 391, 391, 391, 391] : Array Int)[j]? = some (if rm_sgn (nI (j + 33)) = true then 391 else 393) := by decide +kernel
theorem rm_sgO : ∀ j, j < 256 → (j < 33 ∨ 126 < j) → rm_sgn (nI j) = false := by decide +kernel
theorem rm_sgK : ∀ j, j < 256 → rm_sgn (nI j) = true → (nI j, nI j) ∈ rm_kl := by decide +kernel
set_option maxRecDepth 100000 in
theorem c_Mo_isDigit {k : cx_K} {l : Launch} {G : cx_G} (c : Int32) : cx_Sp k l m_Mo_isDigit 0 [.int c] G (cx_rd (some (.int (cx_b (tx_dig c)))) G) := by
  intro E hE
  refine cx_iload_n (i := 0) hE d_Mo_isDigit_0 rfl rfl ?_
  refine cx_bipush (v := 48) hE d_Mo_isDigit_1 (by decide) ?_
  refine cx_icmp_lt (tgt := 16)  hE d_Mo_isDigit_3 (by decide) (fun c_3 => ?_) (fun c_3 => ?_)
  · refine cx_iconst (v := 0) hE d_Mo_isDigit_16 (by decide) ?_
    refine cx_iret hE d_Mo_isDigit_17 rfl rfl ?_
    clear hE
    refine ⟨?_, rfl⟩
    simp only [Int32.lt_iff_toInt_lt, Int32.le_iff_toInt_le, Int32.reduceToInt] at *
    first
      | (rw [show tx_dig c = true from decide_eq_true (by omega)]; rfl)
      | (rw [show tx_dig c = false from decide_eq_false (by omega)]; rfl)
  · refine cx_iload_n (i := 0) hE d_Mo_isDigit_6 rfl rfl ?_
    refine cx_bipush (v := 57) hE d_Mo_isDigit_7 (by decide) ?_
    refine cx_icmp_gt (tgt := 16)  hE d_Mo_isDigit_9 (by decide) (fun c_9 => ?_) (fun c_9 => ?_)
    · refine cx_iconst (v := 0) hE d_Mo_isDigit_16 (by decide) ?_
      refine cx_iret hE d_Mo_isDigit_17 rfl rfl ?_
      clear hE
      refine ⟨?_, rfl⟩
      simp only [Int32.lt_iff_toInt_lt, Int32.le_iff_toInt_le, Int32.reduceToInt] at *
      first
        | (rw [show tx_dig c = true from decide_eq_true (by omega)]; rfl)
        | (rw [show tx_dig c = false from decide_eq_false (by omega)]; rfl)
    · refine cx_iconst (v := 1) hE d_Mo_isDigit_12 (by decide) ?_
      refine cx_goto (tgt := 17) hE d_Mo_isDigit_13 (by decide) ?_
      refine cx_iret hE d_Mo_isDigit_17 rfl rfl ?_
      clear hE
      refine ⟨?_, rfl⟩
      simp only [Int32.lt_iff_toInt_lt, Int32.le_iff_toInt_le, Int32.reduceToInt] at *
      first
        | (rw [show tx_dig c = true from decide_eq_true (by omega)]; rfl)
        | (rw [show tx_dig c = false from decide_eq_false (by omega)]; rfl)
set_option maxRecDepth 100000 in
theorem c_Mo_isLetter {k : cx_K} {l : Launch} {G : cx_G} (c : Int32) : cx_Sp k l m_Mo_isLetter 0 [.int c] G (cx_rd (some (.int (cx_b (tx_let c || decide (c = 95))))) G) := by
  intro E hE
  refine cx_iload_n (i := 0) hE d_Mo_isLetter_0 rfl rfl ?_
  refine cx_bipush (v := 97) hE d_Mo_isLetter_1 (by decide) ?_
  refine cx_icmp_lt (tgt := 12)  hE d_Mo_isLetter_3 (by decide) (fun c_3 => ?_) (fun c_3 => ?_)
  · refine cx_iload_n (i := 0) hE d_Mo_isLetter_12 rfl rfl ?_
    refine cx_bipush (v := 65) hE d_Mo_isLetter_13 (by decide) ?_
    refine cx_icmp_lt (tgt := 24)  hE d_Mo_isLetter_15 (by decide) (fun c_15 => ?_) (fun c_15 => ?_)
    · refine cx_iload_n (i := 0) hE d_Mo_isLetter_24 rfl rfl ?_
      refine cx_bipush (v := 95) hE d_Mo_isLetter_25 (by decide) ?_
      refine cx_icmp_ne (tgt := 34)  hE d_Mo_isLetter_27 (by decide) (fun c_27 => ?_) (fun c_27 => ?_)
      · refine cx_iconst (v := 0) hE d_Mo_isLetter_34 (by decide) ?_
        refine cx_iret hE d_Mo_isLetter_35 rfl rfl ?_
        clear hE
        refine ⟨?_, rfl⟩
        simp only [Int32.lt_iff_toInt_lt, Int32.le_iff_toInt_le, Int32.reduceToInt] at *
        first
          | (rw [show tx_let c = true from decide_eq_true (by omega)]; rfl)
          | (rw [show tx_let c = false from decide_eq_false (by omega), show decide (c = 95) = true from decide_eq_true (by assumption)]; rfl)
          | (rw [show tx_let c = false from decide_eq_false (by omega), show decide (c = 95) = false from decide_eq_false (by assumption)]; rfl)
      · refine cx_iconst (v := 1) hE d_Mo_isLetter_30 (by decide) ?_
        refine cx_goto (tgt := 35) hE d_Mo_isLetter_31 (by decide) ?_
        refine cx_iret hE d_Mo_isLetter_35 rfl rfl ?_
        clear hE
        refine ⟨?_, rfl⟩
        simp only [Int32.lt_iff_toInt_lt, Int32.le_iff_toInt_le, Int32.reduceToInt] at *
        first
          | (rw [show tx_let c = true from decide_eq_true (by omega)]; rfl)
          | (rw [show tx_let c = false from decide_eq_false (by omega), show decide (c = 95) = true from decide_eq_true (by assumption)]; rfl)
          | (rw [show tx_let c = false from decide_eq_false (by omega), show decide (c = 95) = false from decide_eq_false (by assumption)]; rfl)
    · refine cx_iload_n (i := 0) hE d_Mo_isLetter_18 rfl rfl ?_
      refine cx_bipush (v := 90) hE d_Mo_isLetter_19 (by decide) ?_
      refine cx_icmp_le (tgt := 30)  hE d_Mo_isLetter_21 (by decide) (fun c_21 => ?_) (fun c_21 => ?_)
      · refine cx_iconst (v := 1) hE d_Mo_isLetter_30 (by decide) ?_
        refine cx_goto (tgt := 35) hE d_Mo_isLetter_31 (by decide) ?_
        refine cx_iret hE d_Mo_isLetter_35 rfl rfl ?_
        clear hE
        refine ⟨?_, rfl⟩
        simp only [Int32.lt_iff_toInt_lt, Int32.le_iff_toInt_le, Int32.reduceToInt] at *
        first
          | (rw [show tx_let c = true from decide_eq_true (by omega)]; rfl)
          | (rw [show tx_let c = false from decide_eq_false (by omega), show decide (c = 95) = true from decide_eq_true (by assumption)]; rfl)
          | (rw [show tx_let c = false from decide_eq_false (by omega), show decide (c = 95) = false from decide_eq_false (by assumption)]; rfl)
      · refine cx_iload_n (i := 0) hE d_Mo_isLetter_24 rfl rfl ?_
        refine cx_bipush (v := 95) hE d_Mo_isLetter_25 (by decide) ?_
        refine cx_icmp_ne (tgt := 34)  hE d_Mo_isLetter_27 (by decide) (fun c_27 => ?_) (fun c_27 => ?_)
        · refine cx_iconst (v := 0) hE d_Mo_isLetter_34 (by decide) ?_
          refine cx_iret hE d_Mo_isLetter_35 rfl rfl ?_
          clear hE
          refine ⟨?_, rfl⟩
          simp only [Int32.lt_iff_toInt_lt, Int32.le_iff_toInt_le, Int32.reduceToInt] at *
          first
            | (rw [show tx_let c = true from decide_eq_true (by omega)]; rfl)
            | (rw [show tx_let c = false from decide_eq_false (by omega), show decide (c = 95) = true from decide_eq_true (by assumption)]; rfl)
            | (rw [show tx_let c = false from decide_eq_false (by omega), show decide (c = 95) = false from decide_eq_false (by assumption)]; rfl)
        · refine cx_iconst (v := 1) hE d_Mo_isLetter_30 (by decide) ?_
          refine cx_goto (tgt := 35) hE d_Mo_isLetter_31 (by decide) ?_
          refine cx_iret hE d_Mo_isLetter_35 rfl rfl ?_
          clear hE
          refine ⟨?_, rfl⟩
          simp only [Int32.lt_iff_toInt_lt, Int32.le_iff_toInt_le, Int32.reduceToInt] at *
          first
            | (rw [show tx_let c = true from decide_eq_true (by omega)]; rfl)
            | (rw [show tx_let c = false from decide_eq_false (by omega), show decide (c = 95) = true from decide_eq_true (by assumption)]; rfl)
            | (rw [show tx_let c = false from decide_eq_false (by omega), show decide (c = 95) = false from decide_eq_false (by assumption)]; rfl)
  · refine cx_iload_n (i := 0) hE d_Mo_isLetter_6 rfl rfl ?_
    refine cx_bipush (v := 122) hE d_Mo_isLetter_7 (by decide) ?_
    refine cx_icmp_le (tgt := 30)  hE d_Mo_isLetter_9 (by decide) (fun c_9 => ?_) (fun c_9 => ?_)
    · refine cx_iconst (v := 1) hE d_Mo_isLetter_30 (by decide) ?_
      refine cx_goto (tgt := 35) hE d_Mo_isLetter_31 (by decide) ?_
      refine cx_iret hE d_Mo_isLetter_35 rfl rfl ?_
      clear hE
      refine ⟨?_, rfl⟩
      simp only [Int32.lt_iff_toInt_lt, Int32.le_iff_toInt_le, Int32.reduceToInt] at *
      first
        | (rw [show tx_let c = true from decide_eq_true (by omega)]; rfl)
        | (rw [show tx_let c = false from decide_eq_false (by omega), show decide (c = 95) = true from decide_eq_true (by assumption)]; rfl)
        | (rw [show tx_let c = false from decide_eq_false (by omega), show decide (c = 95) = false from decide_eq_false (by assumption)]; rfl)
    · refine cx_iload_n (i := 0) hE d_Mo_isLetter_12 rfl rfl ?_
      refine cx_bipush (v := 65) hE d_Mo_isLetter_13 (by decide) ?_
      refine cx_icmp_lt (tgt := 24)  hE d_Mo_isLetter_15 (by decide) (fun c_15 => ?_) (fun c_15 => ?_)
      · refine cx_iload_n (i := 0) hE d_Mo_isLetter_24 rfl rfl ?_
        refine cx_bipush (v := 95) hE d_Mo_isLetter_25 (by decide) ?_
        refine cx_icmp_ne (tgt := 34)  hE d_Mo_isLetter_27 (by decide) (fun c_27 => ?_) (fun c_27 => ?_)
        · refine cx_iconst (v := 0) hE d_Mo_isLetter_34 (by decide) ?_
          refine cx_iret hE d_Mo_isLetter_35 rfl rfl ?_
          clear hE
          refine ⟨?_, rfl⟩
          simp only [Int32.lt_iff_toInt_lt, Int32.le_iff_toInt_le, Int32.reduceToInt] at *
          first
            | (rw [show tx_let c = true from decide_eq_true (by omega)]; rfl)
            | (rw [show tx_let c = false from decide_eq_false (by omega), show decide (c = 95) = true from decide_eq_true (by assumption)]; rfl)
            | (rw [show tx_let c = false from decide_eq_false (by omega), show decide (c = 95) = false from decide_eq_false (by assumption)]; rfl)
        · refine cx_iconst (v := 1) hE d_Mo_isLetter_30 (by decide) ?_
          refine cx_goto (tgt := 35) hE d_Mo_isLetter_31 (by decide) ?_
          refine cx_iret hE d_Mo_isLetter_35 rfl rfl ?_
          clear hE
          refine ⟨?_, rfl⟩
          simp only [Int32.lt_iff_toInt_lt, Int32.le_iff_toInt_le, Int32.reduceToInt] at *
          first
            | (rw [show tx_let c = true from decide_eq_true (by omega)]; rfl)
            | (rw [show tx_let c = false from decide_eq_false (by omega), show decide (c = 95) = true from decide_eq_true (by assumption)]; rfl)
            | (rw [show tx_let c = false from decide_eq_false (by omega), show decide (c = 95) = false from decide_eq_false (by assumption)]; rfl)
      · refine cx_iload_n (i := 0) hE d_Mo_isLetter_18 rfl rfl ?_
        refine cx_bipush (v := 90) hE d_Mo_isLetter_19 (by decide) ?_
        refine cx_icmp_le (tgt := 30)  hE d_Mo_isLetter_21 (by decide) (fun c_21 => ?_) (fun c_21 => ?_)
        · refine cx_iconst (v := 1) hE d_Mo_isLetter_30 (by decide) ?_
          refine cx_goto (tgt := 35) hE d_Mo_isLetter_31 (by decide) ?_
          refine cx_iret hE d_Mo_isLetter_35 rfl rfl ?_
          clear hE
          refine ⟨?_, rfl⟩
          simp only [Int32.lt_iff_toInt_lt, Int32.le_iff_toInt_le, Int32.reduceToInt] at *
          first
            | (rw [show tx_let c = true from decide_eq_true (by omega)]; rfl)
            | (rw [show tx_let c = false from decide_eq_false (by omega), show decide (c = 95) = true from decide_eq_true (by assumption)]; rfl)
            | (rw [show tx_let c = false from decide_eq_false (by omega), show decide (c = 95) = false from decide_eq_false (by assumption)]; rfl)
        · refine cx_iload_n (i := 0) hE d_Mo_isLetter_24 rfl rfl ?_
          refine cx_bipush (v := 95) hE d_Mo_isLetter_25 (by decide) ?_
          refine cx_icmp_ne (tgt := 34)  hE d_Mo_isLetter_27 (by decide) (fun c_27 => ?_) (fun c_27 => ?_)
          · refine cx_iconst (v := 0) hE d_Mo_isLetter_34 (by decide) ?_
            refine cx_iret hE d_Mo_isLetter_35 rfl rfl ?_
            clear hE
            refine ⟨?_, rfl⟩
            simp only [Int32.lt_iff_toInt_lt, Int32.le_iff_toInt_le, Int32.reduceToInt] at *
            first
              | (rw [show tx_let c = true from decide_eq_true (by omega)]; rfl)
              | (rw [show tx_let c = false from decide_eq_false (by omega), show decide (c = 95) = true from decide_eq_true (by assumption)]; rfl)
              | (rw [show tx_let c = false from decide_eq_false (by omega), show decide (c = 95) = false from decide_eq_false (by assumption)]; rfl)
          · refine cx_iconst (v := 1) hE d_Mo_isLetter_30 (by decide) ?_
            refine cx_goto (tgt := 35) hE d_Mo_isLetter_31 (by decide) ?_
            refine cx_iret hE d_Mo_isLetter_35 rfl rfl ?_
            clear hE
            refine ⟨?_, rfl⟩
            simp only [Int32.lt_iff_toInt_lt, Int32.le_iff_toInt_le, Int32.reduceToInt] at *
            first
              | (rw [show tx_let c = true from decide_eq_true (by omega)]; rfl)
              | (rw [show tx_let c = false from decide_eq_false (by omega), show decide (c = 95) = true from decide_eq_true (by assumption)]; rfl)
              | (rw [show tx_let c = false from decide_eq_false (by omega), show decide (c = 95) = false from decide_eq_false (by assumption)]; rfl)
set_option maxRecDepth 100000 in
theorem c_Mo_isIn {k : cx_K} {l : Launch} {G : cx_G} (c : Int32) : cx_Sp k l m_Mo_isIn 1 [.int c] G (cx_rd (some (.int (cx_b (tx_on c)))) G) := by
  intro E hE
  refine cx_iload_n (i := 0) hE d_Mo_isIn_0 rfl rfl ?_
  refine cx_invS1 hE d_Mo_isIn_1 l_Mo_129 (c_Mo_isLetter c) rfl (by omega) (Nat.le_of_ble_eq_true rfl) n_Mo_isLetter (by first | rfl | (simp only [List.map_cons, List.map_nil, cx_rfc]; rfl)) ?_
  refine cx_if_ne (tgt := 20)  hE d_Mo_isIn_4 (by decide) (fun c_4 => ?_) (fun c_4 => ?_)
  · refine cx_iconst (v := 1) hE d_Mo_isIn_20 (by decide) ?_
    refine cx_goto (tgt := 25) hE d_Mo_isIn_21 (by decide) ?_
    refine cx_iret hE d_Mo_isIn_25 rfl rfl ?_
    clear hE
    refine ⟨?_, rfl⟩
    simp only [cx_b0, Bool.not_eq_false] at *
    rw [tx_on_r]
    simp [cx_b, *]
  · refine cx_iload_n (i := 0) hE d_Mo_isIn_7 rfl rfl ?_
    refine cx_invS1 hE d_Mo_isIn_8 l_Mo_133 (c_Mo_isDigit c) rfl (by omega) (Nat.le_of_ble_eq_true rfl) n_Mo_isDigit (by first | rfl | (simp only [List.map_cons, List.map_nil, cx_rfc]; rfl)) ?_
    refine cx_if_ne (tgt := 20)  hE d_Mo_isIn_11 (by decide) (fun c_11 => ?_) (fun c_11 => ?_)
    · refine cx_iconst (v := 1) hE d_Mo_isIn_20 (by decide) ?_
      refine cx_goto (tgt := 25) hE d_Mo_isIn_21 (by decide) ?_
      refine cx_iret hE d_Mo_isIn_25 rfl rfl ?_
      clear hE
      refine ⟨?_, rfl⟩
      simp only [cx_b0, Bool.not_eq_false] at *
      rw [tx_on_r]
      simp [cx_b, *]
    · refine cx_iload_n (i := 0) hE d_Mo_isIn_14 rfl rfl ?_
      refine cx_bipush (v := 36) hE d_Mo_isIn_15 (by decide) ?_
      refine cx_icmp_ne (tgt := 24)  hE d_Mo_isIn_17 (by decide) (fun c_17 => ?_) (fun c_17 => ?_)
      · refine cx_iconst (v := 0) hE d_Mo_isIn_24 (by decide) ?_
        refine cx_iret hE d_Mo_isIn_25 rfl rfl ?_
        clear hE
        refine ⟨?_, rfl⟩
        simp only [cx_b0, Bool.not_eq_false] at *
        rw [tx_on_r]
        simp [cx_b, *]
      · refine cx_iconst (v := 1) hE d_Mo_isIn_20 (by decide) ?_
        refine cx_goto (tgt := 25) hE d_Mo_isIn_21 (by decide) ?_
        refine cx_iret hE d_Mo_isIn_25 rfl rfl ?_
        clear hE
        refine ⟨?_, rfl⟩
        simp only [cx_b0, Bool.not_eq_false] at *
        rw [tx_on_r]
        simp [cx_b, *]
set_option maxRecDepth 100000 in
theorem c_Mo_digit {k : cx_K} {l : Launch} {G : cx_G} (c : Int32) : cx_Sp k l m_Mo_digit 1 [.int c] G (cx_rd (some (.int (rm_dg c))) G) := by
  intro E hE
  refine cx_iload_n (i := 0) hE d_Mo_digit_0 rfl rfl ?_
  refine cx_invS1 hE d_Mo_digit_1 l_Mo_133 (c_Mo_isDigit c) rfl (by omega) (Nat.le_of_ble_eq_true rfl) n_Mo_isDigit (by first | rfl | (simp only [List.map_cons, List.map_nil, cx_rfc]; rfl)) ?_
  refine cx_if_eq (tgt := 14)  hE d_Mo_digit_4 (by decide) (fun c_4 => ?_) (fun c_4 => ?_)
  · refine cx_iload_n (i := 0) hE d_Mo_digit_14 rfl rfl ?_
    refine cx_bipush (v := 97) hE d_Mo_digit_15 (by decide) ?_
    refine cx_icmp_lt (tgt := 36)  hE d_Mo_digit_17 (by decide) (fun c_17 => ?_) (fun c_17 => ?_)
    · refine cx_iload_n (i := 0) hE d_Mo_digit_36 rfl rfl ?_
      refine cx_bipush (v := 65) hE d_Mo_digit_37 (by decide) ?_
      refine cx_icmp_lt (tgt := 58)  hE d_Mo_digit_39 (by decide) (fun c_39 => ?_) (fun c_39 => ?_)
      · refine cx_bipush (v := 99) hE d_Mo_digit_58 (by decide) ?_
        refine cx_iret hE d_Mo_digit_60 rfl rfl ?_
        clear hE
        refine ⟨?_, rfl⟩
        simp only [cx_b0, Bool.not_eq_false, Int32.lt_iff_toInt_lt, Int32.le_iff_toInt_le, Int32.reduceToInt] at *
        unfold rm_dg
        rw [c_4]
        simp only [Bool.false_eq_true, if_false, if_true]
        all_goals ((repeat' split) <;> first | rfl | omega)
      · refine cx_iload_n (i := 0) hE d_Mo_digit_42 rfl rfl ?_
        refine cx_bipush (v := 70) hE d_Mo_digit_43 (by decide) ?_
        refine cx_icmp_gt (tgt := 58)  hE d_Mo_digit_45 (by decide) (fun c_45 => ?_) (fun c_45 => ?_)
        · refine cx_bipush (v := 99) hE d_Mo_digit_58 (by decide) ?_
          refine cx_iret hE d_Mo_digit_60 rfl rfl ?_
          clear hE
          refine ⟨?_, rfl⟩
          simp only [cx_b0, Bool.not_eq_false, Int32.lt_iff_toInt_lt, Int32.le_iff_toInt_le, Int32.reduceToInt] at *
          unfold rm_dg
          rw [c_4]
          simp only [Bool.false_eq_true, if_false, if_true]
          all_goals ((repeat' split) <;> first | rfl | omega)
        · refine cx_iload_n (i := 0) hE d_Mo_digit_48 rfl rfl ?_
          refine cx_bipush (v := 65) hE d_Mo_digit_49 (by decide) ?_
          refine cx_isub hE d_Mo_digit_51 ?_
          refine cx_bipush (v := 10) hE d_Mo_digit_52 (by decide) ?_
          refine cx_iadd hE d_Mo_digit_54 ?_
          refine cx_goto (tgt := 60) hE d_Mo_digit_55 (by decide) ?_
          refine cx_iret hE d_Mo_digit_60 rfl rfl ?_
          clear hE
          refine ⟨?_, rfl⟩
          simp only [cx_b0, Bool.not_eq_false, Int32.lt_iff_toInt_lt, Int32.le_iff_toInt_le, Int32.reduceToInt] at *
          unfold rm_dg
          rw [c_4]
          simp only [Bool.false_eq_true, if_false, if_true]
          all_goals ((repeat' split) <;> first | rfl | omega)
    · refine cx_iload_n (i := 0) hE d_Mo_digit_20 rfl rfl ?_
      refine cx_bipush (v := 102) hE d_Mo_digit_21 (by decide) ?_
      refine cx_icmp_gt (tgt := 36)  hE d_Mo_digit_23 (by decide) (fun c_23 => ?_) (fun c_23 => ?_)
      · refine cx_iload_n (i := 0) hE d_Mo_digit_36 rfl rfl ?_
        refine cx_bipush (v := 65) hE d_Mo_digit_37 (by decide) ?_
        refine cx_icmp_lt (tgt := 58)  hE d_Mo_digit_39 (by decide) (fun c_39 => ?_) (fun c_39 => ?_)
        · refine cx_bipush (v := 99) hE d_Mo_digit_58 (by decide) ?_
          refine cx_iret hE d_Mo_digit_60 rfl rfl ?_
          clear hE
          refine ⟨?_, rfl⟩
          simp only [cx_b0, Bool.not_eq_false, Int32.lt_iff_toInt_lt, Int32.le_iff_toInt_le, Int32.reduceToInt] at *
          unfold rm_dg
          rw [c_4]
          simp only [Bool.false_eq_true, if_false, if_true]
          all_goals ((repeat' split) <;> first | rfl | omega)
        · refine cx_iload_n (i := 0) hE d_Mo_digit_42 rfl rfl ?_
          refine cx_bipush (v := 70) hE d_Mo_digit_43 (by decide) ?_
          refine cx_icmp_gt (tgt := 58)  hE d_Mo_digit_45 (by decide) (fun c_45 => ?_) (fun c_45 => ?_)
          · refine cx_bipush (v := 99) hE d_Mo_digit_58 (by decide) ?_
            refine cx_iret hE d_Mo_digit_60 rfl rfl ?_
            clear hE
            refine ⟨?_, rfl⟩
            simp only [cx_b0, Bool.not_eq_false, Int32.lt_iff_toInt_lt, Int32.le_iff_toInt_le, Int32.reduceToInt] at *
            unfold rm_dg
            rw [c_4]
            simp only [Bool.false_eq_true, if_false, if_true]
            all_goals ((repeat' split) <;> first | rfl | omega)
          · refine cx_iload_n (i := 0) hE d_Mo_digit_48 rfl rfl ?_
            refine cx_bipush (v := 65) hE d_Mo_digit_49 (by decide) ?_
            refine cx_isub hE d_Mo_digit_51 ?_
            refine cx_bipush (v := 10) hE d_Mo_digit_52 (by decide) ?_
            refine cx_iadd hE d_Mo_digit_54 ?_
            refine cx_goto (tgt := 60) hE d_Mo_digit_55 (by decide) ?_
            refine cx_iret hE d_Mo_digit_60 rfl rfl ?_
            clear hE
            refine ⟨?_, rfl⟩
            simp only [cx_b0, Bool.not_eq_false, Int32.lt_iff_toInt_lt, Int32.le_iff_toInt_le, Int32.reduceToInt] at *
            unfold rm_dg
            rw [c_4]
            simp only [Bool.false_eq_true, if_false, if_true]
            all_goals ((repeat' split) <;> first | rfl | omega)
      · refine cx_iload_n (i := 0) hE d_Mo_digit_26 rfl rfl ?_
        refine cx_bipush (v := 97) hE d_Mo_digit_27 (by decide) ?_
        refine cx_isub hE d_Mo_digit_29 ?_
        refine cx_bipush (v := 10) hE d_Mo_digit_30 (by decide) ?_
        refine cx_iadd hE d_Mo_digit_32 ?_
        refine cx_goto (tgt := 60) hE d_Mo_digit_33 (by decide) ?_
        refine cx_iret hE d_Mo_digit_60 rfl rfl ?_
        clear hE
        refine ⟨?_, rfl⟩
        simp only [cx_b0, Bool.not_eq_false, Int32.lt_iff_toInt_lt, Int32.le_iff_toInt_le, Int32.reduceToInt] at *
        unfold rm_dg
        rw [c_4]
        simp only [Bool.false_eq_true, if_false, if_true]
        all_goals ((repeat' split) <;> first | rfl | omega)
  · refine cx_iload_n (i := 0) hE d_Mo_digit_7 rfl rfl ?_
    refine cx_bipush (v := 48) hE d_Mo_digit_8 (by decide) ?_
    refine cx_isub hE d_Mo_digit_10 ?_
    refine cx_goto (tgt := 60) hE d_Mo_digit_11 (by decide) ?_
    refine cx_iret hE d_Mo_digit_60 rfl rfl ?_
    clear hE
    refine ⟨?_, rfl⟩
    simp only [cx_b0, Bool.not_eq_false, Int32.lt_iff_toInt_lt, Int32.le_iff_toInt_le, Int32.reduceToInt] at *
    unfold rm_dg
    rw [c_4]
    simp only [Bool.false_eq_true, if_false, if_true]
    all_goals ((repeat' split) <;> first | rfl | omega)
set_option maxRecDepth 100000 in
theorem c_Mo_pair {k : cx_K} {l : Launch} {G : cx_G} (a b : Int32) : cx_Sp k l m_Mo_pair 0 [.int a, .int b] G (cx_rd (some (.int (rm_pair a b))) G) := by
  intro E hE
  have h144 : ¬ (a = 38 ∧ b = 38) → ¬ (a = 124 ∧ b = 124) → ¬ (a = 61 ∧ b = 61) → ¬ (a = 33 ∧ b = 61) → ¬ (a = 60 ∧ b = 61) → ¬ (a = 62 ∧ b = 61) → ¬ (a = 60 ∧ b = 60) → ¬ (a = 62 ∧ b = 62) → cx_V E 144 [(0, false, .int a), (1, false, .int b)] [] G := by
    intro n0 n1 n2 n3 n4 n5 n6 n7
    refine cx_iconst (v := 0) hE d_Mo_pair_144 (by decide) ?_
    refine cx_iret hE d_Mo_pair_145 rfl rfl ?_
    refine ⟨?_, rfl⟩
    unfold rm_pair
    rw [if_neg n0, if_neg n1, if_neg n2, if_neg n3, if_neg n4, if_neg n5, if_neg n6, if_neg n7]
  have h126 : ¬ (a = 38 ∧ b = 38) → ¬ (a = 124 ∧ b = 124) → ¬ (a = 61 ∧ b = 61) → ¬ (a = 33 ∧ b = 61) → ¬ (a = 60 ∧ b = 61) → ¬ (a = 62 ∧ b = 61) → ¬ (a = 60 ∧ b = 60) → cx_V E 126 [(0, false, .int a), (1, false, .int b)] [] G := by
    intro n0 n1 n2 n3 n4 n5 n6
    refine cx_iload_n (i := 0) hE d_Mo_pair_126 rfl rfl ?_
    refine cx_bipush (v := 62) hE d_Mo_pair_127 (by decide) ?_
    refine cx_icmp_ne (tgt := 144)  hE d_Mo_pair_129 (by decide) (fun c_129 => ?_) (fun c_129 => ?_)
    · first
        | exact h144 n0 n1 n2 n3 n4 n5 n6 (fun z => c_129 z.1)
        | exact h144 n0 n1 n2 n3 n4 n5 n6 (fun z => c_135 z.2)
    · refine cx_iload_n (i := 1) hE d_Mo_pair_132 rfl rfl ?_
      refine cx_bipush (v := 62) hE d_Mo_pair_133 (by decide) ?_
      refine cx_icmp_ne (tgt := 144)  hE d_Mo_pair_135 (by decide) (fun c_135 => ?_) (fun c_135 => ?_)
      · first
          | exact h144 n0 n1 n2 n3 n4 n5 n6 (fun z => c_129 z.1)
          | exact h144 n0 n1 n2 n3 n4 n5 n6 (fun z => c_135 z.2)
      · refine cx_sipush (v := 263) hE d_Mo_pair_138 (by decide) ?_
        refine cx_goto (tgt := 145) hE d_Mo_pair_141 (by decide) ?_
        refine cx_iret hE d_Mo_pair_145 rfl rfl ?_
        refine ⟨?_, rfl⟩
        unfold rm_pair
        rw [if_neg n0, if_neg n1, if_neg n2, if_neg n3, if_neg n4, if_neg n5, if_neg n6, if_pos ⟨c_129, c_135⟩]
  have h108 : ¬ (a = 38 ∧ b = 38) → ¬ (a = 124 ∧ b = 124) → ¬ (a = 61 ∧ b = 61) → ¬ (a = 33 ∧ b = 61) → ¬ (a = 60 ∧ b = 61) → ¬ (a = 62 ∧ b = 61) → cx_V E 108 [(0, false, .int a), (1, false, .int b)] [] G := by
    intro n0 n1 n2 n3 n4 n5
    refine cx_iload_n (i := 0) hE d_Mo_pair_108 rfl rfl ?_
    refine cx_bipush (v := 60) hE d_Mo_pair_109 (by decide) ?_
    refine cx_icmp_ne (tgt := 126)  hE d_Mo_pair_111 (by decide) (fun c_111 => ?_) (fun c_111 => ?_)
    · first
        | exact h126 n0 n1 n2 n3 n4 n5 (fun z => c_111 z.1)
        | exact h126 n0 n1 n2 n3 n4 n5 (fun z => c_117 z.2)
    · refine cx_iload_n (i := 1) hE d_Mo_pair_114 rfl rfl ?_
      refine cx_bipush (v := 60) hE d_Mo_pair_115 (by decide) ?_
      refine cx_icmp_ne (tgt := 126)  hE d_Mo_pair_117 (by decide) (fun c_117 => ?_) (fun c_117 => ?_)
      · first
          | exact h126 n0 n1 n2 n3 n4 n5 (fun z => c_111 z.1)
          | exact h126 n0 n1 n2 n3 n4 n5 (fun z => c_117 z.2)
      · refine cx_sipush (v := 262) hE d_Mo_pair_120 (by decide) ?_
        refine cx_goto (tgt := 145) hE d_Mo_pair_123 (by decide) ?_
        refine cx_iret hE d_Mo_pair_145 rfl rfl ?_
        refine ⟨?_, rfl⟩
        unfold rm_pair
        rw [if_neg n0, if_neg n1, if_neg n2, if_neg n3, if_neg n4, if_neg n5, if_pos ⟨c_111, c_117⟩]
  have h90 : ¬ (a = 38 ∧ b = 38) → ¬ (a = 124 ∧ b = 124) → ¬ (a = 61 ∧ b = 61) → ¬ (a = 33 ∧ b = 61) → ¬ (a = 60 ∧ b = 61) → cx_V E 90 [(0, false, .int a), (1, false, .int b)] [] G := by
    intro n0 n1 n2 n3 n4
    refine cx_iload_n (i := 0) hE d_Mo_pair_90 rfl rfl ?_
    refine cx_bipush (v := 62) hE d_Mo_pair_91 (by decide) ?_
    refine cx_icmp_ne (tgt := 108)  hE d_Mo_pair_93 (by decide) (fun c_93 => ?_) (fun c_93 => ?_)
    · first
        | exact h108 n0 n1 n2 n3 n4 (fun z => c_93 z.1)
        | exact h108 n0 n1 n2 n3 n4 (fun z => c_99 z.2)
    · refine cx_iload_n (i := 1) hE d_Mo_pair_96 rfl rfl ?_
      refine cx_bipush (v := 61) hE d_Mo_pair_97 (by decide) ?_
      refine cx_icmp_ne (tgt := 108)  hE d_Mo_pair_99 (by decide) (fun c_99 => ?_) (fun c_99 => ?_)
      · first
          | exact h108 n0 n1 n2 n3 n4 (fun z => c_93 z.1)
          | exact h108 n0 n1 n2 n3 n4 (fun z => c_99 z.2)
      · refine cx_sipush (v := 261) hE d_Mo_pair_102 (by decide) ?_
        refine cx_goto (tgt := 145) hE d_Mo_pair_105 (by decide) ?_
        refine cx_iret hE d_Mo_pair_145 rfl rfl ?_
        refine ⟨?_, rfl⟩
        unfold rm_pair
        rw [if_neg n0, if_neg n1, if_neg n2, if_neg n3, if_neg n4, if_pos ⟨c_93, c_99⟩]
  have h72 : ¬ (a = 38 ∧ b = 38) → ¬ (a = 124 ∧ b = 124) → ¬ (a = 61 ∧ b = 61) → ¬ (a = 33 ∧ b = 61) → cx_V E 72 [(0, false, .int a), (1, false, .int b)] [] G := by
    intro n0 n1 n2 n3
    refine cx_iload_n (i := 0) hE d_Mo_pair_72 rfl rfl ?_
    refine cx_bipush (v := 60) hE d_Mo_pair_73 (by decide) ?_
    refine cx_icmp_ne (tgt := 90)  hE d_Mo_pair_75 (by decide) (fun c_75 => ?_) (fun c_75 => ?_)
    · first
        | exact h90 n0 n1 n2 n3 (fun z => c_75 z.1)
        | exact h90 n0 n1 n2 n3 (fun z => c_81 z.2)
    · refine cx_iload_n (i := 1) hE d_Mo_pair_78 rfl rfl ?_
      refine cx_bipush (v := 61) hE d_Mo_pair_79 (by decide) ?_
      refine cx_icmp_ne (tgt := 90)  hE d_Mo_pair_81 (by decide) (fun c_81 => ?_) (fun c_81 => ?_)
      · first
          | exact h90 n0 n1 n2 n3 (fun z => c_75 z.1)
          | exact h90 n0 n1 n2 n3 (fun z => c_81 z.2)
      · refine cx_sipush (v := 260) hE d_Mo_pair_84 (by decide) ?_
        refine cx_goto (tgt := 145) hE d_Mo_pair_87 (by decide) ?_
        refine cx_iret hE d_Mo_pair_145 rfl rfl ?_
        refine ⟨?_, rfl⟩
        unfold rm_pair
        rw [if_neg n0, if_neg n1, if_neg n2, if_neg n3, if_pos ⟨c_75, c_81⟩]
  have h54 : ¬ (a = 38 ∧ b = 38) → ¬ (a = 124 ∧ b = 124) → ¬ (a = 61 ∧ b = 61) → cx_V E 54 [(0, false, .int a), (1, false, .int b)] [] G := by
    intro n0 n1 n2
    refine cx_iload_n (i := 0) hE d_Mo_pair_54 rfl rfl ?_
    refine cx_bipush (v := 33) hE d_Mo_pair_55 (by decide) ?_
    refine cx_icmp_ne (tgt := 72)  hE d_Mo_pair_57 (by decide) (fun c_57 => ?_) (fun c_57 => ?_)
    · first
        | exact h72 n0 n1 n2 (fun z => c_57 z.1)
        | exact h72 n0 n1 n2 (fun z => c_63 z.2)
    · refine cx_iload_n (i := 1) hE d_Mo_pair_60 rfl rfl ?_
      refine cx_bipush (v := 61) hE d_Mo_pair_61 (by decide) ?_
      refine cx_icmp_ne (tgt := 72)  hE d_Mo_pair_63 (by decide) (fun c_63 => ?_) (fun c_63 => ?_)
      · first
          | exact h72 n0 n1 n2 (fun z => c_57 z.1)
          | exact h72 n0 n1 n2 (fun z => c_63 z.2)
      · refine cx_sipush (v := 259) hE d_Mo_pair_66 (by decide) ?_
        refine cx_goto (tgt := 145) hE d_Mo_pair_69 (by decide) ?_
        refine cx_iret hE d_Mo_pair_145 rfl rfl ?_
        refine ⟨?_, rfl⟩
        unfold rm_pair
        rw [if_neg n0, if_neg n1, if_neg n2, if_pos ⟨c_57, c_63⟩]
  have h36 : ¬ (a = 38 ∧ b = 38) → ¬ (a = 124 ∧ b = 124) → cx_V E 36 [(0, false, .int a), (1, false, .int b)] [] G := by
    intro n0 n1
    refine cx_iload_n (i := 0) hE d_Mo_pair_36 rfl rfl ?_
    refine cx_bipush (v := 61) hE d_Mo_pair_37 (by decide) ?_
    refine cx_icmp_ne (tgt := 54)  hE d_Mo_pair_39 (by decide) (fun c_39 => ?_) (fun c_39 => ?_)
    · first
        | exact h54 n0 n1 (fun z => c_39 z.1)
        | exact h54 n0 n1 (fun z => c_45 z.2)
    · refine cx_iload_n (i := 1) hE d_Mo_pair_42 rfl rfl ?_
      refine cx_bipush (v := 61) hE d_Mo_pair_43 (by decide) ?_
      refine cx_icmp_ne (tgt := 54)  hE d_Mo_pair_45 (by decide) (fun c_45 => ?_) (fun c_45 => ?_)
      · first
          | exact h54 n0 n1 (fun z => c_39 z.1)
          | exact h54 n0 n1 (fun z => c_45 z.2)
      · refine cx_sipush (v := 258) hE d_Mo_pair_48 (by decide) ?_
        refine cx_goto (tgt := 145) hE d_Mo_pair_51 (by decide) ?_
        refine cx_iret hE d_Mo_pair_145 rfl rfl ?_
        refine ⟨?_, rfl⟩
        unfold rm_pair
        rw [if_neg n0, if_neg n1, if_pos ⟨c_39, c_45⟩]
  have h18 : ¬ (a = 38 ∧ b = 38) → cx_V E 18 [(0, false, .int a), (1, false, .int b)] [] G := by
    intro n0
    refine cx_iload_n (i := 0) hE d_Mo_pair_18 rfl rfl ?_
    refine cx_bipush (v := 124) hE d_Mo_pair_19 (by decide) ?_
    refine cx_icmp_ne (tgt := 36)  hE d_Mo_pair_21 (by decide) (fun c_21 => ?_) (fun c_21 => ?_)
    · first
        | exact h36 n0 (fun z => c_21 z.1)
        | exact h36 n0 (fun z => c_27 z.2)
    · refine cx_iload_n (i := 1) hE d_Mo_pair_24 rfl rfl ?_
      refine cx_bipush (v := 124) hE d_Mo_pair_25 (by decide) ?_
      refine cx_icmp_ne (tgt := 36)  hE d_Mo_pair_27 (by decide) (fun c_27 => ?_) (fun c_27 => ?_)
      · first
          | exact h36 n0 (fun z => c_21 z.1)
          | exact h36 n0 (fun z => c_27 z.2)
      · refine cx_sipush (v := 257) hE d_Mo_pair_30 (by decide) ?_
        refine cx_goto (tgt := 145) hE d_Mo_pair_33 (by decide) ?_
        refine cx_iret hE d_Mo_pair_145 rfl rfl ?_
        refine ⟨?_, rfl⟩
        unfold rm_pair
        rw [if_neg n0, if_pos ⟨c_21, c_27⟩]
  have h0 : cx_V E 0 [(0, false, .int a), (1, false, .int b)] [] G := by
    refine cx_iload_n (i := 0) hE d_Mo_pair_0 rfl rfl ?_
    refine cx_bipush (v := 38) hE d_Mo_pair_1 (by decide) ?_
    refine cx_icmp_ne (tgt := 18)  hE d_Mo_pair_3 (by decide) (fun c_3 => ?_) (fun c_3 => ?_)
    · first
        | exact h18  (fun z => c_3 z.1)
        | exact h18  (fun z => c_9 z.2)
    · refine cx_iload_n (i := 1) hE d_Mo_pair_6 rfl rfl ?_
      refine cx_bipush (v := 38) hE d_Mo_pair_7 (by decide) ?_
      refine cx_icmp_ne (tgt := 18)  hE d_Mo_pair_9 (by decide) (fun c_9 => ?_) (fun c_9 => ?_)
      · first
          | exact h18  (fun z => c_3 z.1)
          | exact h18  (fun z => c_9 z.2)
      · refine cx_sipush (v := 256) hE d_Mo_pair_12 (by decide) ?_
        refine cx_goto (tgt := 145) hE d_Mo_pair_15 (by decide) ?_
        refine cx_iret hE d_Mo_pair_145 rfl rfl ?_
        refine ⟨?_, rfl⟩
        unfold rm_pair
        rw [if_pos ⟨c_3, c_9⟩]
  exact h0
set_option maxRecDepth 100000 in
theorem c_Mo_isSign {k : cx_K} {l : Launch} {G : cx_G} {ch : Nat} (hc : ch < 256) : cx_Sp k l m_Mo_isSign 0 [.int (nI ch)] G (cx_rd (some (.int (cx_b (rm_sgn (nI ch))))) G) := by
  intro E hE
  refine cx_iload_n (i := 0) hE d_Mo_isSign_0 rfl rfl ?_
  have ht := nI_toInt (n := ch) (by omega)
  have h0 : rm_sgn (nI ch) = false → cx_V E 394 [(0, false, .int (nI ch))] [] G := fun z => by
    refine cx_iconst (v := 0) hE d_Mo_isSign_394 (by decide) ?_
    refine cx_iret hE d_Mo_isSign_395 rfl rfl ?_
    rw [z]
    exact ⟨rfl, rfl⟩
  have h1 : rm_sgn (nI ch) = true → cx_V E 392 [(0, false, .int (nI ch))] [] G := fun z => by
    refine cx_iconst (v := 1) hE d_Mo_isSign_392 (by decide) ?_
    refine cx_iret hE d_Mo_isSign_393 rfl rfl ?_
    rw [z]
    exact ⟨rfl, rfl⟩
  by_cases a : ch < 33 ∨ 126 < ch
  · exact cx_tableOut (tgt := 394) hE d_Mo_isSign_1 (by omega) (by decide) (h0 (rm_sgO ch hc a))
  · have hT := rm_sgT (ch - 33) (by omega)
    rw [show ch - 33 + 33 = ch by omega] at hT
    have e : ((nI ch).toInt - 33).toNat = ch - 33 := by omega
    cases z : rm_sgn (nI ch) with
    | true =>
      rw [z, if_pos rfl] at hT
      exact cx_tableIn (tgt := 392) hE d_Mo_isSign_1 (by omega) (by omega) (by rw [e]; exact hT) (by decide) (h1 z)
    | false =>
      rw [z, if_neg (by decide)] at hT
      exact cx_tableIn (tgt := 394) hE d_Mo_isSign_1 (by omega) (by omega) (by rw [e]; exact hT) (by decide) (h0 z)
set_option maxRecDepth 100000 in
theorem c_Mo_at {k : cx_K} {l : Launch} {G : cx_G} {mo : Nat} {P : Nat → Nat} {M : rm_M} (hm : rm_R k G mo P M) {n : Nat} (hn : M.1 2 = nI n) (hn6 : n ≤ 65536) {p : Nat} (hp : p < 2 ^ 31)  : cx_Sp k l m_Mo_at 0 [.ref mo, .int (nI p)] G (cx_rd (some (.int (tx_at n (M.2.1 53) p))) G) := by
  intro E hE
  have hmo := hm.1
  have h53 := hm.b 53 rfl
  refine cx_iload_n (i := 1) hE d_Mo_at_0 rfl rfl ?_
  refine cx_aload_n (i := 0) hE d_Mo_at_1 rfl rfl ?_
  refine cx_get hE d_Mo_at_2 f_Mo_126 (by assumption) (by rfl) ?_
  rw [hn]
  refine cx_icmp_ge (tgt := 21)  hE d_Mo_at_5 (by decide) (fun c_5 => ?_) (fun c_5 => ?_)
  · have q_5 : ¬ p < n := fun z => absurd (nJ_le (by omega) c_5) (by omega)
    refine cx_iconst (v := -1) hE d_Mo_at_21 (by decide) ?_
    refine cx_iret hE d_Mo_at_22 rfl rfl ?_
    refine ⟨?_, rfl⟩
    first | (rw [tx_at, if_pos q_5, nI_clamp hp]) | (rw [tx_at, if_neg q_5])
  · have q_5 := nJ_lt (by omega) c_5
    refine cx_aload_n (i := 0) hE d_Mo_at_8 rfl rfl ?_
    refine cx_get hE d_Mo_at_9 f_Mo_116 (by assumption) (by rfl) ?_
    refine cx_iload_n (i := 1) hE d_Mo_at_12 rfl rfl ?_
    refine cx_bald 0 hE d_Mo_at_13 rfl (by assumption) (vp_in_nI (by show _ < 65536; omega) (by show 65536 < 2147483648; omega)) ?_
    refine cx_sipush (v := 255) hE d_Mo_at_14 (by decide) ?_
    refine cx_iand hE d_Mo_at_17 ?_
    refine cx_goto (tgt := 22) hE d_Mo_at_18 (by decide) ?_
    refine cx_iret hE d_Mo_at_22 rfl rfl ?_
    refine ⟨?_, rfl⟩
    first | (rw [tx_at, if_pos q_5, nI_clamp hp]) | (rw [tx_at, if_neg q_5])
set_option maxRecDepth 100000 in
theorem c_Mo_numberEnd {k : cx_K} {l : Launch} {G : cx_G} {mo : Nat} {P : Nat → Nat} {M : rm_M} (hm : rm_R k G mo P M) {n : Nat} (hn : M.1 2 = nI n) (hn6 : n ≤ 65536) {p : Nat} (hp : p ≤ n)  : cx_Sp k l m_Mo_numberEnd 2 [.ref mo, .int (nI p)] G (cx_rd (some (.int (nI (rm_ne n (tx_at n (M.2.1 53)) p)))) G) := by
  intro E hE
  have hmo := hm.1
  have hend : ∀ (d q r : Nat), n - q = d → q ≤ n → tx_e (tx_nP n (tx_at n (M.2.1 53))) q = r → rm_ne n (tx_at n (M.2.1 53)) p = r → cx_V E 32 [(2, false, .int (nI q)), (0, false, .ref mo), (1, false, .int (nI p))] [] G := by
    intro d
    induction d using Nat.strongRecOn with
    | ind d ih =>
      intro q r hd hq hr hr2
      refine cx_aload_n (i := 0) hE d_Mo_numberEnd_32 rfl rfl ?_
      refine cx_iload_n (i := 2) hE d_Mo_numberEnd_33 rfl rfl ?_
      refine cx_invV1 hE d_Mo_numberEnd_34 l_Mo_136 (by assumption) (c_Mo_at (p := q) hm hn hn6 (by omega)) rfl (by omega) (Nat.le_of_ble_eq_true rfl) n_Mo_at (by first | rfl | (simp only [List.map_cons, List.map_nil, cx_rfc]; rfl)) ?_
      refine cx_invS1 hE d_Mo_numberEnd_37 l_Mo_158 (c_Mo_isIn ((tx_at n (M.2.1 53)) q)) rfl (by omega) (Nat.le_of_ble_eq_true rfl) n_Mo_isIn (by first | rfl | (simp only [List.map_cons, List.map_nil, cx_rfc]; rfl)) ?_
      refine cx_if_eq (tgt := 49)  hE d_Mo_numberEnd_40 (by decide) (fun c_40 => ?_) (fun c_40 => ?_)
      · have q_40 := cx_b0.mp c_40
        refine cx_iload_n (i := 2) hE d_Mo_numberEnd_49 rfl rfl ?_
        refine cx_iret hE d_Mo_numberEnd_50 rfl rfl ?_
        refine ⟨?_, rfl⟩
        rw [tx_e_stop (fun h => by rw [h.2] at q_40; cases q_40)] at hr
        rw [hr2, hr]
      · have q_40 := cx_bn.mp c_40
        have q_n := tx_onn q_40
        refine cx_iinc (v := nI (q + 1)) hE d_Mo_numberEnd_43 rfl (nI_1 _) (by decide) ?_
        refine cx_goto (tgt := 32) hE d_Mo_numberEnd_46 (by decide) ?_
        refine cx_sub [0, 1, 2] rfl ?_
        exact ih (n - (q + 1)) (by omega) (q + 1) r rfl (by omega) ((tx_e_step tx_nP_n ⟨q_n, q_40⟩).symm.trans hr) hr2
  have hdig : ∀ (d q : Nat), n - q = d → q ≤ n → rm_de n (tx_at n (M.2.1 53)) q = rm_de n (tx_at n (M.2.1 53)) p → cx_V E 2 [(2, false, .int (nI q)), (0, false, .ref mo), (1, false, .int (nI p))] [] G := by
    intro d
    induction d using Nat.strongRecOn with
    | ind d ih =>
      intro q hd hq hr
      refine cx_aload_n (i := 0) hE d_Mo_numberEnd_2 rfl rfl ?_
      refine cx_iload_n (i := 2) hE d_Mo_numberEnd_3 rfl rfl ?_
      refine cx_invV1 hE d_Mo_numberEnd_4 l_Mo_136 (by assumption) (c_Mo_at (p := q) hm hn hn6 (by omega)) rfl (by omega) (Nat.le_of_ble_eq_true rfl) n_Mo_at (by first | rfl | (simp only [List.map_cons, List.map_nil, cx_rfc]; rfl)) ?_
      refine cx_invS1 hE d_Mo_numberEnd_7 l_Mo_133 (c_Mo_isDigit ((tx_at n (M.2.1 53)) q)) rfl (by omega) (Nat.le_of_ble_eq_true rfl) n_Mo_isDigit (by first | rfl | (simp only [List.map_cons, List.map_nil, cx_rfc]; rfl)) ?_
      refine cx_if_eq (tgt := 19)  hE d_Mo_numberEnd_10 (by decide) (fun c_10 => ?_) (fun c_10 => ?_)
      · have q_10 := cx_b0.mp c_10
        have q_s : rm_de n (tx_at n (M.2.1 53)) p = q := hr.symm.trans (tx_e_stop (fun h => by rw [h.2] at q_10; cases q_10))
        refine cx_aload_n (i := 0) hE d_Mo_numberEnd_19 rfl rfl ?_
        refine cx_iload_n (i := 2) hE d_Mo_numberEnd_20 rfl rfl ?_
        refine cx_invV1 hE d_Mo_numberEnd_21 l_Mo_136 (by assumption) (c_Mo_at (p := q) hm hn hn6 (by omega)) rfl (by omega) (Nat.le_of_ble_eq_true rfl) n_Mo_at (by first | rfl | (simp only [List.map_cons, List.map_nil, cx_rfc]; rfl)) ?_
        refine cx_bipush (v := 39) hE d_Mo_numberEnd_24 (by decide) ?_
        refine cx_icmp_ne (tgt := 32)  hE d_Mo_numberEnd_26 (by decide) (fun c_26 => ?_) (fun c_26 => ?_)
        · refine cx_sub [0, 1, 2] rfl ?_
          first
            | exact hend _ (q + 1) _ rfl (by omega) rfl (by unfold rm_ne; rw [q_s, if_pos c_26])
            | exact hend _ q _ rfl (by omega) rfl (by unfold rm_ne; rw [q_s, if_neg c_26])
        · have q_n := tx_neg c_26 (by decide)
          refine cx_iinc (v := nI (q + 1)) hE d_Mo_numberEnd_29 rfl (nI_1 _) (by decide) ?_
          refine cx_sub [0, 1, 2] rfl ?_
          first
            | exact hend _ (q + 1) _ rfl (by omega) rfl (by unfold rm_ne; rw [q_s, if_pos c_26])
            | exact hend _ q _ rfl (by omega) rfl (by unfold rm_ne; rw [q_s, if_neg c_26])
      · have q_10 := cx_bn.mp c_10
        have q_n := tx_dign q_10
        refine cx_iinc (v := nI (q + 1)) hE d_Mo_numberEnd_13 rfl (nI_1 _) (by decide) ?_
        refine cx_goto (tgt := 2) hE d_Mo_numberEnd_16 (by decide) ?_
        refine cx_sub [0, 1, 2] rfl ?_
        exact ih (n - (q + 1)) (by omega) (q + 1) rfl (by omega) ((tx_e_step rm_dP_n ⟨q_n, q_10⟩).symm.trans hr)
  refine cx_iload_n (i := 1) hE d_Mo_numberEnd_0 rfl rfl ?_
  refine cx_istore_n (i := 2) hE d_Mo_numberEnd_1 rfl (by decide) ?_
  refine cx_sub [0, 1, 2] rfl ?_
  exact hdig _ p rfl hp rfl
def rm_tok (t : Nat) (kd p e : Int32) (M : rm_M) : rm_M := (va_up M.1 7 (nI (t + 1)), va_up (va_up (va_up M.2.1 4 (upd (M.2.1 4) t kd)) 5 (upd (M.2.1 5) t p)) 6 (upd (M.2.1 6) t e), M.2.2)
set_option maxRecDepth 100000 in
theorem c_Mo_token {k : cx_K} {l : Launch} {G : cx_G} {mo : Nat} {P : Nat → Nat} {M : rm_M} (hm : rm_R k G mo P M) {t : Nat} (ht : M.1 7 = nI t) (hi : t < 65540) {kd p e : Int32}  : cx_Sp k l m_Mo_token 0 [.ref mo, .int kd, .int p, .int e] G (rm_q k G mo P none (rm_tok t kd p e M)) := by
  intro E hE
  have hmo := hm.1
  refine cx_aload_n (i := 0) hE d_Mo_token_0 rfl rfl ?_
  refine cx_get hE d_Mo_token_1 f_Mo_15 (by assumption) (by rfl) ?_
  refine cx_aload_n (i := 0) hE d_Mo_token_4 rfl rfl ?_
  refine cx_get hE d_Mo_token_5 f_Mo_161 (by assumption) (by rfl) ?_
  rw [ht]
  refine cx_iload_n (i := 1) hE d_Mo_token_8 rfl rfl ?_
  refine cx_iast 1 hE d_Mo_token_9 rfl (hm.i 4 rfl) (vp_in_nI (by show _ < 65540; omega) (by show 65540 < 2147483648; omega)) ?_
  rw [nI_clamp (by omega)]
  refine cx_gen (fun G_9 g_9 => ?_)
  have m9 := hm.si 4 1 rfl (Or.inr rfl) g_9
  have om9 := m9.1.1
  refine cx_aload_n (i := 0) hE d_Mo_token_10 rfl rfl ?_
  refine cx_get hE d_Mo_token_11 f_Mo_19 (by assumption) (by rfl) ?_
  refine cx_aload_n (i := 0) hE d_Mo_token_14 rfl rfl ?_
  refine cx_get hE d_Mo_token_15 f_Mo_161 (by assumption) (by rfl) ?_
  rw [ht]
  refine cx_iload_n (i := 2) hE d_Mo_token_18 rfl rfl ?_
  refine cx_iast 1 hE d_Mo_token_19 rfl (m9.1.i 5 rfl) (vp_in_nI (by show _ < 65540; omega) (by show 65540 < 2147483648; omega)) ?_
  rw [nI_clamp (by omega)]
  refine cx_gen (fun G_19 g_19 => ?_)
  have m19 := m9.1.si 5 1 rfl (Or.inr rfl) g_19
  have om19 := m19.1.1
  refine cx_aload_n (i := 0) hE d_Mo_token_20 rfl rfl ?_
  refine cx_get hE d_Mo_token_21 f_Mo_22 (by assumption) (by rfl) ?_
  refine cx_aload_n (i := 0) hE d_Mo_token_24 rfl rfl ?_
  refine cx_get hE d_Mo_token_25 f_Mo_161 (by assumption) (by rfl) ?_
  rw [ht]
  refine cx_iload_n (i := 3) hE d_Mo_token_28 rfl rfl ?_
  refine cx_iast 1 hE d_Mo_token_29 rfl (m19.1.i 6 rfl) (vp_in_nI (by show _ < 65540; omega) (by show 65540 < 2147483648; omega)) ?_
  rw [nI_clamp (by omega)]
  refine cx_gen (fun G_29 g_29 => ?_)
  have m29 := m19.1.si 6 1 rfl (Or.inr rfl) g_29
  have om29 := m29.1.1
  refine cx_aload_n (i := 0) hE d_Mo_token_30 rfl rfl ?_
  refine cx_dup hE d_Mo_token_31 ?_
  refine cx_get hE d_Mo_token_32 f_Mo_161 (by assumption) (by rfl) ?_
  rw [ht]
  refine cx_iconst (v := 1) hE d_Mo_token_35 (by decide) ?_
  refine cx_iadd hE d_Mo_token_36 ?_
  show cx_V E _ _ [.int (nI t + 1), .ref mo] _
  rw [nI_1]
  refine cx_putg hE d_Mo_token_37 f_Mo_161 (by assumption) (Nat.le_of_ble_eq_true rfl) (by first | rfl | exact cx_nr _ _) (by first | rfl | exact cx_fr _ _) (fun G_37 g_37 h_37 => ?_)
  rw [rm_s7] at g_37 h_37
  have m37 := m29.1.pi g_37
  refine cx_vret hE d_Mo_token_40 rfl ?_
  exact ⟨rfl, m37.1, ((m9.2.tr m19.2).tr m29.2).tr m37.2, (cx_pc g_37).trans ((cx_pc g_29).trans ((cx_pc g_19).trans (cx_pc g_9)))⟩

/-! BLANKS, ALL OF THEM; NUMBERS. -/
theorem cx_gen {E : cx_E} {pc : Nat} {lv : cx_L} {st : List Value} {G1 : cx_G} (h : ∀ G2, G1 = G2 → cx_V E pc lv st G2) : cx_V E pc lv st G1 := h _ rfl
def tx_sk (b : Nat → Nat) : Nat → Nat → Nat
  | 0, p => p
  | m + 1, p => if b p = p then p else tx_sk b m (b p)
/-- behind all blanks and comments -/
noncomputable def tx_bl (n : Nat) (c : Nat → Int32) (p : Nat) : Nat := tx_sk (tx_b1 n c) (n - p) p
theorem tx_neg {n : Nat} {f : Nat → Int32} {p : Nat} {x : Int32} (h : tx_at n f p = x) (hx : ¬ (-1 : Int32) = x) : p < n := by
  rcases Nat.lt_or_ge p n with q | q
  · exact q
  · rw [tx_at, if_neg (by omega)] at h
    exact absurd h hx
theorem tx_com_le {n : Nat} {c : Nat → Int32} {p : Nat} (h : p ≤ n) : p ≤ tx_com n c p ∧ tx_com n c p ≤ n := by
  unfold tx_com
  have h1 := (tx_e_le (P := tx_cP n c) (n := n) (fun i h => by have := h.1; omega) (p + 2)).1
  split <;> constructor <;> omega
theorem tx_line_le {n : Nat} {c : Nat → Int32} {p : Nat} (h : p ≤ n) : p ≤ tx_line n c p ∧ tx_line n c p ≤ n := by
  have h1 := tx_e_le (P := fun i => i < n ∧ ¬ c i = 10) (n := n) (fun i h => h.1) p
  exact ⟨h1.1, h1.2 h⟩
theorem tx_b1_le {n : Nat} {f : Nat → Int32} {p : Nat} (h : p ≤ n) : p ≤ tx_b1 n (tx_at n f) p ∧ tx_b1 n (tx_at n f) p ≤ n := by
  unfold tx_b1
  split
  · rename_i q
    have : p < n := by
      rcases q with q | q | q | q <;> exact tx_neg q (by decide)
    omega
  · split
    · omega
    · split
      · exact tx_line_le h
      · split
        · exact tx_com_le h
        · omega
theorem tx_sk_fuel {b : Nat → Nat} {n : Nat} (hb : ∀ p, p ≤ n → p ≤ b p ∧ b p ≤ n) : ∀ (m p : Nat), p ≤ n → n - p ≤ m → tx_sk b m p = tx_sk b (n - p) p := by
  intro m
  induction m using Nat.strongRecOn with
  | ind m ih =>
    intro p hp hm
    cases m with
    | zero => rw [show n - p = 0 by omega]
    | succ m =>
      by_cases hq : b p = p
      · have e1 : tx_sk b (m + 1) p = p := by rw [tx_sk, if_pos hq]
        rw [e1]
        cases n - p with
        | zero => rfl
        | succ j => rw [tx_sk, if_pos hq]
      · have h1 := hb p hp
        have h2 : b p ≠ p := hq
        obtain ⟨j, hj⟩ : ∃ j, n - p = j + 1 := ⟨n - p - 1, by omega⟩
        rw [hj, tx_sk, if_neg hq, tx_sk, if_neg hq, ih m (by omega) (b p) h1.2 (by omega)]
        rcases Nat.lt_or_ge j (m + 1) with z | z
        · exact (ih j z (b p) h1.2 (by omega)).symm
        · have : j = m := by omega
          rw [this]
          exact (ih m (by omega) (b p) h1.2 (by omega)).symm
theorem tx_bl_stop {n : Nat} {c : Nat → Int32} {p : Nat} (h : tx_b1 n c p = p) : tx_bl n c p = p := by
  unfold tx_bl
  cases n - p with
  | zero => rfl
  | succ j => rw [tx_sk, if_pos h]
theorem tx_bl_step {n : Nat} {f : Nat → Int32} {p : Nat} (hp : p ≤ n) (h : ¬ tx_b1 n (tx_at n f) p = p) : tx_bl n (tx_at n f) p = tx_bl n (tx_at n f) (tx_b1 n (tx_at n f) p) := by
  have h1 := tx_b1_le (f := f) hp
  unfold tx_bl
  obtain ⟨j, hj⟩ : ∃ j, n - p = j + 1 := ⟨n - p - 1, by omega⟩
  rw [hj, tx_sk, if_neg h]
  exact tx_sk_fuel (fun q hq => tx_b1_le hq) j _ h1.2 (by omega)
theorem tx_bl_le {n : Nat} {f : Nat → Int32} {p : Nat} (hp : p ≤ n) : p ≤ tx_bl n (tx_at n f) p ∧ tx_bl n (tx_at n f) p ≤ n ∧ tx_b1 n (tx_at n f) (tx_bl n (tx_at n f) p) = tx_bl n (tx_at n f) p := by
  have key : ∀ (d p : Nat), n - p = d → p ≤ n → p ≤ tx_bl n (tx_at n f) p ∧ tx_bl n (tx_at n f) p ≤ n ∧ tx_b1 n (tx_at n f) (tx_bl n (tx_at n f) p) = tx_bl n (tx_at n f) p := by
    intro d
    induction d using Nat.strongRecOn with
    | ind d ih =>
      intro p hd hp
      by_cases h : tx_b1 n (tx_at n f) p = p
      · rw [tx_bl_stop h]
        exact ⟨Nat.le_refl _, hp, h⟩
      · have h1 := tx_b1_le (f := f) hp
        rw [tx_bl_step hp h]
        have h2 := ih (n - tx_b1 n (tx_at n f) p) (by omega) _ rfl h1.2
        exact ⟨by omega, h2.2⟩
  exact key _ p rfl hp
abbrev m_To_init : cx_M := (⟨"CircuitText$Token", "<init>", "(III)V"⟩, prog_8_method_1_code, 4, (Option.none : Option Jvm.ClassFile.FieldType), [], [false, false, false, false])
theorem w_To_init : cx_W m_To_init := ⟨Or.inl ⟨(in_1 (List.mem_of_getElem? (i := 133) rfl)), rfl⟩, by decide +kernel, by decide, by decide, by decide +kernel⟩
theorem n_To_init : (parseMethodDescriptor m_To_init.1.desc).map (fun d => d.parameters.length) = some 3 := by decide +kernel
theorem d_To_init_0 : decode prog_8_method_1_code 0 = .ok (.aload_n 0, 1) := by decide +kernel
theorem d_To_init_1 : decode prog_8_method_1_code 1 = .ok (.invokespecial 1, 3) := by decide +kernel
theorem d_To_init_4 : decode prog_8_method_1_code 4 = .ok (.aload_n 0, 1) := by decide +kernel
theorem d_To_init_5 : decode prog_8_method_1_code 5 = .ok (.aconst_null, 1) := by decide +kernel
theorem d_To_init_6 : decode prog_8_method_1_code 6 = .ok (.putfield 7, 3) := by decide +kernel
theorem d_To_init_9 : decode prog_8_method_1_code 9 = .ok (.aload_n 0, 1) := by decide +kernel
theorem d_To_init_10 : decode prog_8_method_1_code 10 = .ok (.aconst_null, 1) := by decide +kernel
theorem d_To_init_11 : decode prog_8_method_1_code 11 = .ok (.putfield 13, 3) := by decide +kernel
theorem d_To_init_14 : decode prog_8_method_1_code 14 = .ok (.aload_n 0, 1) := by decide +kernel
theorem d_To_init_15 : decode prog_8_method_1_code 15 = .ok (.iconst 0, 1) := by decide +kernel
theorem d_To_init_16 : decode prog_8_method_1_code 16 = .ok (.putfield 17, 3) := by decide +kernel
theorem d_To_init_19 : decode prog_8_method_1_code 19 = .ok (.aload_n 0, 1) := by decide +kernel
theorem d_To_init_20 : decode prog_8_method_1_code 20 = .ok (.lconst 0, 1) := by decide +kernel
theorem d_To_init_21 : decode prog_8_method_1_code 21 = .ok (.putfield 21, 3) := by decide +kernel
theorem d_To_init_24 : decode prog_8_method_1_code 24 = .ok (.aload_n 0, 1) := by decide +kernel
theorem d_To_init_25 : decode prog_8_method_1_code 25 = .ok (.iload_n 1, 1) := by decide +kernel
theorem d_To_init_26 : decode prog_8_method_1_code 26 = .ok (.putfield 25, 3) := by decide +kernel
theorem d_To_init_29 : decode prog_8_method_1_code 29 = .ok (.aload_n 0, 1) := by decide +kernel
theorem d_To_init_30 : decode prog_8_method_1_code 30 = .ok (.iload_n 2, 1) := by decide +kernel
theorem d_To_init_31 : decode prog_8_method_1_code 31 = .ok (.putfield 28, 3) := by decide +kernel
theorem d_To_init_34 : decode prog_8_method_1_code 34 = .ok (.aload_n 0, 1) := by decide +kernel
theorem d_To_init_35 : decode prog_8_method_1_code 35 = .ok (.iload_n 3, 1) := by decide +kernel
theorem d_To_init_36 : decode prog_8_method_1_code 36 = .ok (.putfield 31, 3) := by decide +kernel
theorem d_To_init_39 : decode prog_8_method_1_code 39 = .ok (.return_, 1) := by decide +kernel
theorem f_To_7 : cx_F "CircuitText$Token" 7 7 3 (.object "CircuitText$Token") false := ⟨_, F_To, 7, t_To, k_To, by decide, rfl, rfl, Or.inl (in_1 (List.mem_of_getElem? (i := 146) rfl))⟩
theorem f_To_13 : cx_F "CircuitText$Token" 13 7 4 (.object "CircuitText$Word") false := ⟨_, F_To, 7, t_To, k_To, by decide, rfl, rfl, Or.inl (in_1 (List.mem_of_getElem? (i := 149) rfl))⟩
theorem f_To_17 : cx_F "CircuitText$Token" 17 7 5 (.int) false := ⟨_, F_To, 7, t_To, k_To, by decide, rfl, rfl, Or.inl (in_1 (List.mem_of_getElem? (i := 154) rfl))⟩
theorem f_To_21 : cx_F "CircuitText$Token" 21 7 6 (.long) false := ⟨_, F_To, 7, t_To, k_To, by decide, rfl, rfl, Or.inl (in_1 (List.mem_of_getElem? (i := 158) rfl))⟩
theorem f_To_25 : cx_F "CircuitText$Token" 25 7 0 (.int) true := ⟨_, F_To, 7, t_To, k_To, by decide, rfl, rfl, Or.inl (in_1 (List.mem_of_getElem? (i := 135) rfl))⟩
theorem ff_To_25 : cx_FF "CircuitText$Token" 25 7 0 (.int) := ⟨_, F_To, 7, t_To, k_To, by decide, rfl, rfl, rfl, (in_1 (List.mem_of_getElem? (i := 135) rfl))⟩
theorem f_To_28 : cx_F "CircuitText$Token" 28 7 1 (.int) true := ⟨_, F_To, 7, t_To, k_To, by decide, rfl, rfl, Or.inl (in_1 (List.mem_of_getElem? (i := 139) rfl))⟩
theorem ff_To_28 : cx_FF "CircuitText$Token" 28 7 1 (.int) := ⟨_, F_To, 7, t_To, k_To, by decide, rfl, rfl, rfl, (in_1 (List.mem_of_getElem? (i := 139) rfl))⟩
theorem f_To_31 : cx_F "CircuitText$Token" 31 7 2 (.int) true := ⟨_, F_To, 7, t_To, k_To, by decide, rfl, rfl, Or.inl (in_1 (List.mem_of_getElem? (i := 144) rfl))⟩
theorem ff_To_31 : cx_FF "CircuitText$Token" 31 7 2 (.int) := ⟨_, F_To, 7, t_To, k_To, by decide, rfl, rfl, rfl, (in_1 (List.mem_of_getElem? (i := 144) rfl))⟩
abbrev m_Lx_decimal : cx_M := (⟨"CircuitText$Lexer", "decimal", "(III)I"⟩, prog_3_method_12_code, 6, (Option.some Jvm.ClassFile.FieldType.int), [], [false, false, false, false])
theorem w_Lx_decimal : cx_W m_Lx_decimal := ⟨Or.inl ⟨(in_2 (List.mem_of_getElem? (i := 169) rfl)), rfl⟩, by decide +kernel, by decide, by decide, by decide +kernel⟩
theorem n_Lx_decimal : (parseMethodDescriptor m_Lx_decimal.1.desc).map (fun d => d.parameters.length) = some 3 := by decide +kernel
theorem d_Lx_decimal_0 : decode prog_3_method_12_code 0 = .ok (.iconst 0, 1) := by decide +kernel
theorem d_Lx_decimal_1 : decode prog_3_method_12_code 1 = .ok (.istore 4, 2) := by decide +kernel
theorem d_Lx_decimal_3 : decode prog_3_method_12_code 3 = .ok (.iload_n 1, 1) := by decide +kernel
theorem d_Lx_decimal_4 : decode prog_3_method_12_code 4 = .ok (.istore 5, 2) := by decide +kernel
theorem d_Lx_decimal_6 : decode prog_3_method_12_code 6 = .ok (.iload 5, 2) := by decide +kernel
theorem d_Lx_decimal_8 : decode prog_3_method_12_code 8 = .ok (.iload_n 2, 1) := by decide +kernel
theorem d_Lx_decimal_9 : decode prog_3_method_12_code 9 = .ok (.if_icmp .ge 52, 3) := by decide +kernel
theorem d_Lx_decimal_12 : decode prog_3_method_12_code 12 = .ok (.aload_n 0, 1) := by decide +kernel
theorem d_Lx_decimal_13 : decode prog_3_method_12_code 13 = .ok (.getfield 18, 3) := by decide +kernel
theorem d_Lx_decimal_16 : decode prog_3_method_12_code 16 = .ok (.iload 5, 2) := by decide +kernel
theorem d_Lx_decimal_18 : decode prog_3_method_12_code 18 = .ok (.invokevirtual 47, 3) := by decide +kernel
theorem d_Lx_decimal_21 : decode prog_3_method_12_code 21 = .ok (.invokestatic 64, 3) := by decide +kernel
theorem d_Lx_decimal_24 : decode prog_3_method_12_code 24 = .ok (.ifCond .ne 5, 3) := by decide +kernel
theorem d_Lx_decimal_27 : decode prog_3_method_12_code 27 = .ok (.iconst (-1), 1) := by decide +kernel
theorem d_Lx_decimal_28 : decode prog_3_method_12_code 28 = .ok (.ireturn, 1) := by decide +kernel
theorem d_Lx_decimal_29 : decode prog_3_method_12_code 29 = .ok (.bipush 10, 2) := by decide +kernel
theorem d_Lx_decimal_31 : decode prog_3_method_12_code 31 = .ok (.iload 4, 2) := by decide +kernel
theorem d_Lx_decimal_33 : decode prog_3_method_12_code 33 = .ok (.imul, 1) := by decide +kernel
theorem d_Lx_decimal_34 : decode prog_3_method_12_code 34 = .ok (.aload_n 0, 1) := by decide +kernel
theorem d_Lx_decimal_35 : decode prog_3_method_12_code 35 = .ok (.getfield 18, 3) := by decide +kernel
theorem d_Lx_decimal_38 : decode prog_3_method_12_code 38 = .ok (.iload 5, 2) := by decide +kernel
theorem d_Lx_decimal_40 : decode prog_3_method_12_code 40 = .ok (.invokevirtual 47, 3) := by decide +kernel
theorem d_Lx_decimal_43 : decode prog_3_method_12_code 43 = .ok (.iadd, 1) := by decide +kernel
theorem d_Lx_decimal_44 : decode prog_3_method_12_code 44 = .ok (.bipush 48, 2) := by decide +kernel
theorem d_Lx_decimal_46 : decode prog_3_method_12_code 46 = .ok (.isub, 1) := by decide +kernel
theorem d_Lx_decimal_47 : decode prog_3_method_12_code 47 = .ok (.iload_n 3, 1) := by decide +kernel
theorem d_Lx_decimal_48 : decode prog_3_method_12_code 48 = .ok (.iconst 1, 1) := by decide +kernel
theorem d_Lx_decimal_49 : decode prog_3_method_12_code 49 = .ok (.iadd, 1) := by decide +kernel
theorem d_Lx_decimal_50 : decode prog_3_method_12_code 50 = .ok (.invokestatic 130, 3) := by decide +kernel
theorem d_Lx_decimal_53 : decode prog_3_method_12_code 53 = .ok (.istore 4, 2) := by decide +kernel
theorem d_Lx_decimal_55 : decode prog_3_method_12_code 55 = .ok (.iinc 5 1, 3) := by decide +kernel
theorem d_Lx_decimal_58 : decode prog_3_method_12_code 58 = .ok (.goto (-52), 3) := by decide +kernel
theorem d_Lx_decimal_61 : decode prog_3_method_12_code 61 = .ok (.iload 4, 2) := by decide +kernel
theorem d_Lx_decimal_63 : decode prog_3_method_12_code 63 = .ok (.iload_n 3, 1) := by decide +kernel
theorem d_Lx_decimal_64 : decode prog_3_method_12_code 64 = .ok (.if_icmp .gt 8, 3) := by decide +kernel
theorem d_Lx_decimal_67 : decode prog_3_method_12_code 67 = .ok (.iload 4, 2) := by decide +kernel
theorem d_Lx_decimal_69 : decode prog_3_method_12_code 69 = .ok (.goto 4, 3) := by decide +kernel
theorem d_Lx_decimal_72 : decode prog_3_method_12_code 72 = .ok (.iconst (-1), 1) := by decide +kernel
theorem d_Lx_decimal_73 : decode prog_3_method_12_code 73 = .ok (.ireturn, 1) := by decide +kernel
abbrev m_Lx_plainNumber : cx_M := (⟨"CircuitText$Lexer", "plainNumber", "(II)LCircuitText$Token;"⟩, prog_3_method_11_code, 5, (Option.some (Jvm.ClassFile.FieldType.object "CircuitText$Token")), [], [false, false, false])
theorem w_Lx_plainNumber : cx_W m_Lx_plainNumber := ⟨Or.inl ⟨(in_2 (List.mem_of_getElem? (i := 164) rfl)), rfl⟩, by decide +kernel, by decide, by decide, by decide +kernel⟩
theorem n_Lx_plainNumber : (parseMethodDescriptor m_Lx_plainNumber.1.desc).map (fun d => d.parameters.length) = some 2 := by decide +kernel
theorem d_Lx_plainNumber_0 : decode prog_3_method_11_code 0 = .ok (.aload_n 0, 1) := by decide +kernel
theorem d_Lx_plainNumber_1 : decode prog_3_method_11_code 1 = .ok (.iload_n 1, 1) := by decide +kernel
theorem d_Lx_plainNumber_2 : decode prog_3_method_11_code 2 = .ok (.iload_n 2, 1) := by decide +kernel
theorem d_Lx_plainNumber_3 : decode prog_3_method_11_code 3 = .ok (.ldc 121, 2) := by decide +kernel
theorem d_Lx_plainNumber_5 : decode prog_3_method_11_code 5 = .ok (.invokevirtual 122, 3) := by decide +kernel
theorem d_Lx_plainNumber_8 : decode prog_3_method_11_code 8 = .ok (.istore_n 3, 1) := by decide +kernel
theorem d_Lx_plainNumber_9 : decode prog_3_method_11_code 9 = .ok (.new 32, 3) := by decide +kernel
theorem d_Lx_plainNumber_12 : decode prog_3_method_11_code 12 = .ok (.dup, 1) := by decide +kernel
theorem d_Lx_plainNumber_13 : decode prog_3_method_11_code 13 = .ok (.iload_n 3, 1) := by decide +kernel
theorem d_Lx_plainNumber_14 : decode prog_3_method_11_code 14 = .ok (.iconst (-1), 1) := by decide +kernel
theorem d_Lx_plainNumber_15 : decode prog_3_method_11_code 15 = .ok (.if_icmp .ne 8, 3) := by decide +kernel
theorem d_Lx_plainNumber_18 : decode prog_3_method_11_code 18 = .ok (.bipush 23, 2) := by decide +kernel
theorem d_Lx_plainNumber_20 : decode prog_3_method_11_code 20 = .ok (.goto 5, 3) := by decide +kernel
theorem d_Lx_plainNumber_23 : decode prog_3_method_11_code 23 = .ok (.bipush 20, 2) := by decide +kernel
theorem d_Lx_plainNumber_25 : decode prog_3_method_11_code 25 = .ok (.iload_n 1, 1) := by decide +kernel
theorem d_Lx_plainNumber_26 : decode prog_3_method_11_code 26 = .ok (.iload_n 2, 1) := by decide +kernel
theorem d_Lx_plainNumber_27 : decode prog_3_method_11_code 27 = .ok (.invokespecial 61, 3) := by decide +kernel
theorem d_Lx_plainNumber_30 : decode prog_3_method_11_code 30 = .ok (.astore 4, 2) := by decide +kernel
theorem d_Lx_plainNumber_32 : decode prog_3_method_11_code 32 = .ok (.aload 4, 2) := by decide +kernel
theorem d_Lx_plainNumber_34 : decode prog_3_method_11_code 34 = .ok (.iload_n 3, 1) := by decide +kernel
theorem d_Lx_plainNumber_35 : decode prog_3_method_11_code 35 = .ok (.i2l, 1) := by decide +kernel
theorem d_Lx_plainNumber_36 : decode prog_3_method_11_code 36 = .ok (.putfield 126, 3) := by decide +kernel
theorem d_Lx_plainNumber_39 : decode prog_3_method_11_code 39 = .ok (.aload 4, 2) := by decide +kernel
theorem d_Lx_plainNumber_41 : decode prog_3_method_11_code 41 = .ok (.areturn, 1) := by decide +kernel
theorem z_Lx_32 : cx_N "CircuitText$Lexer" 32 7 [.int 0, .int 0, .int 0, .null, .null, .int 0, .long 0] := ⟨_, F_To, t_To, k_To, (in_2 (List.mem_of_getElem? (i := 146) rfl)), (in_1 (List.mem_of_getElem? (i := 130) rfl)), (in_1 (List.mem_of_getElem? (i := 18) rfl)), fun j hj => by rcases (show j = 0 ∨ j = 1 ∨ j = 2 ∨ j = 3 ∨ j = 4 ∨ j = 5 ∨ j = 6 by have : j < 7 := hj; omega) with rfl | rfl | rfl | rfl | rfl | rfl | rfl <;> rfl⟩
theorem f_Lx_126 : cx_F "CircuitText$Lexer" 126 7 6 (.long) false := ⟨_, F_To, 7, t_To, k_To, by decide, rfl, rfl, Or.inr ⟨"CircuitText", (in_1 (List.mem_of_getElem? (i := 160) rfl))⟩⟩
theorem l_Lx_122 : cx_LV "CircuitText$Lexer" 122 2 m_Lx_decimal := ⟨Or.inl (in_2 (List.mem_of_getElem? (i := 166) rfl)), w_Lx_decimal, (in_2 (List.mem_of_getElem? (i := 168) rfl)), _, rfl, (List.mem_append_left _ (List.mem_of_getElem? (i := 8) rfl))⟩
theorem l_Lx_61 : cx_LI "CircuitText$Lexer" 61 m_To_init := ⟨Or.inl (in_2 (List.mem_of_getElem? (i := 147) rfl)), w_To_init, (in_1 (List.mem_of_getElem? (i := 132) rfl)), rfl, rfl, rfl, (in_1 (List.mem_of_getElem? (i := 133) rfl))⟩
set_option maxRecDepth 100000 in
theorem c_Lx_behindBlanks {k : cx_K} {l : Launch} {G : cx_G} {lx ta ws n p : Nat} {f : Nat → Int32} (hL : tx_L k G lx ta ws n f) (hpn : p ≤ n) (hn : n ≤ 65536) : cx_Sp k l m_Lx_behindBlanks 3 [.ref lx, .int (nI p)] G (cx_rd (some (.int (nI (tx_bl n (tx_at n f) p)))) G) := by
  intro E hE
  obtain ⟨hl, b, cap, h1, h2, h3, h4, hf⟩ := id hL
  have hloop : ∀ (d q i : Nat), n - q = d → q ≤ n → i ≤ q → tx_bl n (tx_at n f) q = tx_bl n (tx_at n f) p → cx_V E 4 [(3, false, .int (nI i)), (2, false, .int (nI q)), (0, false, .ref lx), (1, false, .int (nI p))] [] G := by
    intro d
    induction d using Nat.strongRecOn with
    | ind d ih =>
      intro q i hd hq hi hr
      have hb := tx_b1_le (f := f) hq
      refine cx_iload_n (i := 3) hE d_Lx_behindBlanks_4 rfl rfl ?_
      refine cx_ldc (v := 65536) hE d_Lx_behindBlanks_5 (in_2 (List.mem_of_getElem? (i := 125) rfl)) ?_
      refine cx_icmp_gt (tgt := 35) hE d_Lx_behindBlanks_7 (by decide) (fun c_7 => ?_) (fun c_7 => ?_)
      · exact absurd c_7 (nI_nlt (a := 65536) (b := i) (by omega) (by omega))
        -- end
      · refine cx_aload_n (i := 0) hE d_Lx_behindBlanks_10 rfl rfl ?_
        refine cx_iload_n (i := 2) hE d_Lx_behindBlanks_11 rfl rfl ?_
        refine cx_invV1 hE d_Lx_behindBlanks_12 l_Lx_44 (by assumption) (c_Lx_behindBlank (p := q) hL (by omega)) rfl (by omega) (Nat.le_of_ble_eq_true rfl) n_Lx_behindBlank (by first | rfl | (simp only [List.map_cons, List.map_nil, cx_rfc]; rfl)) ?_
        refine cx_istore hE d_Lx_behindBlanks_15 (by decide) ?_
        refine cx_iload hE d_Lx_behindBlanks_17 rfl ?_
        refine cx_iload_n (i := 2) hE d_Lx_behindBlanks_19 rfl rfl ?_
        refine cx_icmp_ne (tgt := 26) hE d_Lx_behindBlanks_20 (by decide) (fun c_20 => ?_) (fun c_20 => ?_)
        · have q_20 : ¬ tx_b1 n (tx_at n f) q = q := fun z => c_20 (by rw [z])
          refine cx_iload hE d_Lx_behindBlanks_26 rfl ?_
          refine cx_istore_n (i := 2) hE d_Lx_behindBlanks_28 rfl (by decide) ?_
          refine cx_iinc (v := nI (i + 1)) hE d_Lx_behindBlanks_29 rfl (nI_1 _) (by decide) ?_
          refine cx_goto (tgt := 4) hE d_Lx_behindBlanks_32 (by decide) ?_
          refine cx_sub [0, 1, 3, 4] rfl ?_
          exact ih (n - tx_b1 n (tx_at n f) q) (by omega) (tx_b1 n (tx_at n f) q) (i + 1) rfl hb.2 (by omega) (by rw [← hr]; exact (tx_bl_step hq q_20).symm)
        · have q_20 : tx_b1 n (tx_at n f) q = q := (nI_eq (by omega) (by omega)).mp c_20
          refine cx_goto (tgt := 35) hE d_Lx_behindBlanks_23 (by decide) ?_
          refine cx_iload_n (i := 2) hE d_Lx_behindBlanks_35 rfl rfl ?_
          refine cx_iret hE d_Lx_behindBlanks_36 rfl rfl ?_
          refine ⟨?_, rfl⟩
          rw [← hr, tx_bl_stop q_20]
  refine cx_iload_n (i := 1) hE d_Lx_behindBlanks_0 rfl rfl ?_
  refine cx_istore_n (i := 2) hE d_Lx_behindBlanks_1 rfl (by decide) ?_
  refine cx_iconst (v := 0) hE d_Lx_behindBlanks_2 (by decide) ?_
  refine cx_istore_n (i := 3) hE d_Lx_behindBlanks_3 rfl (by decide) ?_
  refine cx_sub [0, 1, 2, 3] rfl ?_
  exact hloop (n - p) p 0 rfl hpn (Nat.zero_le _) rfl
set_option maxRecDepth 100000 in
theorem c_To_init {k : cx_K} {l : Launch} {G : cx_G} {a : Nat} {kd pl bh : Int32} (hG : G.1 a = some (.inr (7, [.int 0, .int 0, .int 0, .null, .null, .int 0, .long 0]))) : cx_Sp k l m_To_init 1 [.ref a, .int kd, .int pl, .int bh] G (cx_rd none (cx_put G a (.inr (7, [.int kd, .int pl, .int bh, .null, .null, .int 0, .long 0])))) := by
  intro E hE
  refine cx_aload_n (i := 0) hE d_To_init_0 rfl rfl ?_
  refine cx_objI hE d_To_init_1 (in_1 (List.mem_of_getElem? (i := 134) rfl)) (in_1 (List.mem_of_getElem? (i := 43) rfl)) (in_1 (List.mem_of_getElem? (i := 44) rfl)) (by omega) (Nat.le_of_ble_eq_true rfl) ?_
  refine cx_aload_n (i := 0) hE d_To_init_4 rfl rfl ?_
  refine cx_null hE d_To_init_5 ?_
  refine cx_putg hE d_To_init_6 f_To_7 (by assumption) (Nat.le_of_ble_eq_true rfl) (by first | rfl | exact cx_nr _ _) (by first | rfl | exact cx_fr _ _) (fun G_6 g_6 h_6 => ?_)
  refine cx_aload_n (i := 0) hE d_To_init_9 rfl rfl ?_
  refine cx_null hE d_To_init_10 ?_
  refine cx_putg hE d_To_init_11 f_To_13 (by assumption) (Nat.le_of_ble_eq_true rfl) (by first | rfl | exact cx_nr _ _) (by first | rfl | exact cx_fr _ _) (fun G_11 g_11 h_11 => ?_)
  refine cx_aload_n (i := 0) hE d_To_init_14 rfl rfl ?_
  refine cx_iconst (v := 0) hE d_To_init_15 (by decide) ?_
  refine cx_putg hE d_To_init_16 f_To_17 (by assumption) (Nat.le_of_ble_eq_true rfl) (by first | rfl | exact cx_nr _ _) (by first | rfl | exact cx_fr _ _) (fun G_16 g_16 h_16 => ?_)
  refine cx_aload_n (i := 0) hE d_To_init_19 rfl rfl ?_
  refine cx_lconst (v := 0) hE d_To_init_20 (by decide) ?_
  refine cx_putg hE d_To_init_21 f_To_21 (by assumption) (Nat.le_of_ble_eq_true rfl) (by first | rfl | exact cx_nr _ _) (by first | rfl | exact cx_fr _ _) (fun G_21 g_21 h_21 => ?_)
  refine cx_aload_n (i := 0) hE d_To_init_24 rfl rfl ?_
  refine cx_iload_n (i := 1) hE d_To_init_25 rfl rfl ?_
  refine cx_putFg hE d_To_init_26 ff_To_25 rfl (by assumption) (Nat.le_of_ble_eq_true rfl) (by first | rfl | exact cx_nr _ _) (by first | rfl | exact cx_fr _ _) (fun G_26 g_26 h_26 => ?_)
  refine cx_aload_n (i := 0) hE d_To_init_29 rfl rfl ?_
  refine cx_iload_n (i := 2) hE d_To_init_30 rfl rfl ?_
  refine cx_putFg hE d_To_init_31 ff_To_28 rfl (by assumption) (Nat.le_of_ble_eq_true rfl) (by first | rfl | exact cx_nr _ _) (by first | rfl | exact cx_fr _ _) (fun G_31 g_31 h_31 => ?_)
  refine cx_aload_n (i := 0) hE d_To_init_34 rfl rfl ?_
  refine cx_iload_n (i := 3) hE d_To_init_35 rfl rfl ?_
  refine cx_putFg hE d_To_init_36 ff_To_31 rfl (by assumption) (Nat.le_of_ble_eq_true rfl) (by first | rfl | exact cx_nr _ _) (by first | rfl | exact cx_fr _ _) (fun G_36 g_36 h_36 => ?_)
  refine cx_vret hE d_To_init_39 rfl ?_
  refine ⟨rfl, ?_⟩
  subst g_6 g_11 g_16 g_21 g_26 g_31 g_36
  simp only [cx_pp]
  rfl
/-- a digit's worth -/
def tx_dg (c : Int32) : Nat := (c.toInt - 48).toNat
theorem tx_dg_nI {c : Int32} (h : tx_dig c = true) : c = nI (tx_dg c + 48) ∧ tx_dg c ≤ 9 := by
  have h1 := of_decide_eq_true h
  have h2 : tx_dg c + 48 = c.toInt.toNat := by unfold tx_dg; omega
  refine ⟨?_, by unfold tx_dg; omega⟩
  rw [h2]
  refine Int32.toInt_inj.mp ?_
  rw [nI_toInt (by omega)]
  omega
/-- the value of m digits from a on -/
def tx_val (dg : Nat → Nat) (base a : Nat) : Nat → Nat
  | 0 => 0
  | m + 1 => tx_val dg base a m * base + dg (a + m)
/-- all of m places from a on -/
def tx_all (P : Nat → Bool) (a : Nat) : Nat → Bool
  | 0 => true
  | m + 1 => tx_all P a m && P (a + m)
theorem tx_all_no {P : Nat → Bool} {a t : Nat} (h : P (a + t) = false) : ∀ m, t < m → tx_all P a m = false := by
  intro m
  induction m with
  | zero => intro h; omega
  | succ m ih =>
    intro ht
    unfold tx_all
    rcases Nat.lt_or_ge t m with q | q
    · rw [ih q]; rfl
    · have : t = m := by omega
      subst this
      rw [h, Bool.and_false]
/-- m digits from a on as a number of at most M, or -1 -/
def tx_dec (c : Nat → Int32) (a m M : Nat) : Int32 := if tx_all (fun i => tx_dig (c i)) a m = true ∧ tx_val (fun i => tx_dg (c i)) 10 a m ≤ M then nI (tx_val (fun i => tx_dg (c i)) 10 a m) else -1
theorem tx_min {a b : Nat} (ha : a < 2 ^ 31) (hb : b < 2 ^ 31) : (if nI b < nI a then nI b else nI a) = nI (min a b) := by
  by_cases h : b < a
  · rw [if_pos (nI_lt h ha), Nat.min_eq_right (by omega)]
  · rw [if_neg (nI_nlt (by omega) hb), Nat.min_eq_left (by omega)]
theorem tx_max {a b : Nat} (ha : a < 2 ^ 31) (hb : b < 2 ^ 31) : (if nI a < nI b then nI b else nI a) = nI (max a b) := by
  by_cases h : a < b
  · rw [if_pos (nI_lt h hb), Nat.max_eq_right (by omega)]
  · rw [if_neg (nI_nlt (by omega) ha), Nat.max_eq_left (by omega)]
set_option maxRecDepth 100000 in
theorem c_Lx_decimal {k : cx_K} {l : Launch} {G : cx_G} {lx ta ws n a m M : Nat} {f : Nat → Int32} (hL : tx_L k G lx ta ws n f) (ham : a + m < 1048576) (hM : M ≤ 65535) : cx_Sp k l m_Lx_decimal 1 [.ref lx, .int (nI a), .int (nI (a + m)), .int (nI M)] G (cx_rd (some (.int (tx_dec (tx_at n f) a m M))) G) := by
  intro E hE
  have hT : tx_T k G ta n f := hL.2
  obtain ⟨hl, b, cap, h1, h2, h3, h4, hf⟩ := hL
  have hloop : ∀ (d t : Nat), m - t = d → t ≤ m → tx_all (fun i => tx_dig (tx_at n f i)) a t = true → cx_V E 6 [(5, false, .int (nI (a + t))), (4, false, .int (nI (min (tx_val (fun i => tx_dg (tx_at n f i)) 10 a t) (M + 1)))), (0, false, .ref lx), (1, false, .int (nI a)), (2, false, .int (nI (a + m))), (3, false, .int (nI M))] [] G := by
    intro d
    induction d using Nat.strongRecOn with
    | ind d ih =>
      intro t hd ht hall
      refine cx_iload hE d_Lx_decimal_6 rfl ?_
      refine cx_iload_n (i := 2) hE d_Lx_decimal_8 rfl rfl ?_
      refine cx_icmp_ge (tgt := 61) hE d_Lx_decimal_9 (by decide) (fun c_9 => ?_) (fun c_9 => ?_)
      · have q_9 : t = m := by have := nJ_le (by omega) c_9; omega
        subst q_9
        refine cx_iload hE d_Lx_decimal_61 rfl ?_
        refine cx_iload_n (i := 3) hE d_Lx_decimal_63 rfl rfl ?_
        refine cx_icmp_gt (tgt := 72) hE d_Lx_decimal_64 (by decide) (fun c_64 => ?_) (fun c_64 => ?_)
        · have q_64 : ¬ tx_val (fun i => tx_dg (tx_at n f i)) 10 a t ≤ M := fun z => absurd c_64 (nI_nlt (a := M) (b := min (tx_val (fun i => tx_dg (tx_at n f i)) 10 a t) (M + 1)) (by omega) (by omega))
          refine cx_iconst (v := -1) hE d_Lx_decimal_72 (by decide) ?_
          refine cx_iret hE d_Lx_decimal_73 rfl rfl ?_
          refine ⟨?_, rfl⟩
          first
            | (rw [tx_dec, if_pos ⟨hall, q_64⟩, Nat.min_eq_left (by omega)])
            | (rw [tx_dec, if_neg (fun z => q_64 z.2)])
        · have q_64 : tx_val (fun i => tx_dg (tx_at n f i)) 10 a t ≤ M := by
            rcases Nat.lt_or_ge M (tx_val (fun i => tx_dg (tx_at n f i)) 10 a t) with z | z
            · exact absurd (nI_lt (a := M) (b := min (tx_val (fun i => tx_dg (tx_at n f i)) 10 a t) (M + 1)) (by omega) (by omega)) c_64
            · exact z
          refine cx_iload hE d_Lx_decimal_67 rfl ?_
          refine cx_goto (tgt := 73) hE d_Lx_decimal_69 (by decide) ?_
          refine cx_iret hE d_Lx_decimal_73 rfl rfl ?_
          refine ⟨?_, rfl⟩
          first
            | (rw [tx_dec, if_pos ⟨hall, q_64⟩, Nat.min_eq_left (by omega)])
            | (rw [tx_dec, if_neg (fun z => q_64 z.2)])
      · have q_9 := nJ_lt (by omega) c_9
        refine cx_aload_n (i := 0) hE d_Lx_decimal_12 rfl rfl ?_
        refine cx_get hE d_Lx_decimal_13 f_Lx_18 (by assumption) (by rfl) ?_
        refine cx_iload hE d_Lx_decimal_16 rfl ?_
        refine cx_invV1 hE d_Lx_decimal_18 l_Lx_47 (by assumption) (c_Ta_byteAt (p := a + t) hT (by omega)) rfl (by omega) (Nat.le_of_ble_eq_true rfl) n_Ta_byteAt (by first | rfl | (simp only [List.map_cons, List.map_nil, cx_rfc]; rfl)) ?_
        refine cx_invS1 hE d_Lx_decimal_21 l_Lx_64 (c_Lx_isDigit _) rfl (by omega) (Nat.le_of_ble_eq_true rfl) n_Lx_isDigit (by first | rfl | (simp only [List.map_cons, List.map_nil, cx_rfc]; rfl)) ?_
        refine cx_if_ne (tgt := 29) hE d_Lx_decimal_24 (by decide) (fun c_24 => ?_) (fun c_24 => ?_)
        · have q_24 := cx_bn.mp c_24
          have q_d := tx_dg_nI q_24
          have q_v : tx_val (fun i => tx_dg (tx_at n f i)) 10 a (t + 1) = tx_val (fun i => tx_dg (tx_at n f i)) 10 a t * 10 + tx_dg (tx_at n f (a + t)) := rfl
          have q_e : (10 : Int32) * nI (min (tx_val (fun i => tx_dg (tx_at n f i)) 10 a t) (M + 1)) + tx_at n f (a + t) - 48 = nI (10 * min (tx_val (fun i => tx_dg (tx_at n f i)) 10 a t) (M + 1) + tx_dg (tx_at n f (a + t))) := by
            have e1 := q_d.1
            generalize tx_dg (tx_at n f (a + t)) = dd at e1 ⊢
            rw [e1, show (10 : Int32) = nI 10 from rfl, pk_mul, nI_add, show (48 : Int32) = nI 48 from rfl, pk_sub (by omega)]
            congr 1
          have q_m : min (10 * min (tx_val (fun i => tx_dg (tx_at n f i)) 10 a t) (M + 1) + tx_dg (tx_at n f (a + t))) (M + 1) = min (tx_val (fun i => tx_dg (tx_at n f i)) 10 a (t + 1)) (M + 1) := by
            rw [q_v]; omega
          refine cx_bipush (v := 10) hE d_Lx_decimal_29 (by decide) ?_
          refine cx_iload hE d_Lx_decimal_31 rfl ?_
          refine cx_imul hE d_Lx_decimal_33 ?_
          refine cx_aload_n (i := 0) hE d_Lx_decimal_34 rfl rfl ?_
          refine cx_get hE d_Lx_decimal_35 f_Lx_18 (by assumption) (by rfl) ?_
          refine cx_iload hE d_Lx_decimal_38 rfl ?_
          refine cx_invV1 hE d_Lx_decimal_40 l_Lx_47 (by assumption) (c_Ta_byteAt (p := a + t) hT (by omega)) rfl (by omega) (Nat.le_of_ble_eq_true rfl) n_Ta_byteAt (by first | rfl | (simp only [List.map_cons, List.map_nil, cx_rfc]; rfl)) ?_
          refine cx_iadd hE d_Lx_decimal_43 ?_
          refine cx_bipush (v := 48) hE d_Lx_decimal_44 (by decide) ?_
          refine cx_isub hE d_Lx_decimal_46 ?_
          rw [show (10 : Int32) * nI (min (tx_val (fun i => tx_dg (tx_at n f i)) 10 a t) (M + 1)) + tx_at n f (a + t) - 48 = nI (10 * min (tx_val (fun i => tx_dg (tx_at n f i)) 10 a t) (M + 1) + tx_dg (tx_at n f (a + t))) from q_e]
          refine cx_iload_n (i := 3) hE d_Lx_decimal_47 rfl rfl ?_
          refine cx_iconst (v := 1) hE d_Lx_decimal_48 (by decide) ?_
          refine cx_iadd hE d_Lx_decimal_49 ?_
          show cx_V E _ _ (.int (nI M + 1) :: _) G
          rw [nI_1 M]
          refine cx_mmin hE d_Lx_decimal_50 (in_2 (List.mem_of_getElem? (i := 170) rfl)) (in_2 (List.mem_of_getElem? (i := 171) rfl)) (in_1 (List.mem_of_getElem? (i := 12) rfl)) (in_2 (List.mem_of_getElem? (i := 172) rfl)) (by omega) (Nat.le_of_ble_eq_true rfl) ?_
          rw [tx_min (by omega) (by omega), show min (10 * min (tx_val (fun i => tx_dg (tx_at n f i)) 10 a t) (M + 1) + tx_dg (tx_at n f (a + t))) (M + 1) = min (tx_val (fun i => tx_dg (tx_at n f i)) 10 a (t + 1)) (M + 1) from q_m]
          refine cx_istore hE d_Lx_decimal_53 (by decide) ?_
          refine cx_iinc (v := nI (a + (t + 1))) hE d_Lx_decimal_55 rfl (nI_1 _) (by decide) ?_
          refine cx_goto (tgt := 6) hE d_Lx_decimal_58 (by decide) ?_
          refine cx_sub [0, 1, 2, 3, 4, 5] rfl ?_
          exact ih (m - (t + 1)) (by omega) (t + 1) rfl (by omega) (by rw [tx_all, hall, q_24]; rfl)
        · have q_24 := cx_b0.mp (by simpa using c_24)
          refine cx_iconst (v := -1) hE d_Lx_decimal_27 (by decide) ?_
          refine cx_iret hE d_Lx_decimal_28 rfl rfl ?_
          refine ⟨?_, rfl⟩
          rw [tx_dec, if_neg (fun z => by rw [tx_all_no q_24 m (by omega)] at z; exact absurd z.1 (by decide))]
  refine cx_iconst (v := 0) hE d_Lx_decimal_0 (by decide) ?_
  refine cx_istore hE d_Lx_decimal_1 (by decide) ?_
  refine cx_iload_n (i := 1) hE d_Lx_decimal_3 rfl rfl ?_
  refine cx_istore hE d_Lx_decimal_4 (by decide) ?_
  refine cx_sub [0, 1, 2, 3, 4, 5] rfl ?_
  exact hloop (m - 0) 0 rfl (Nat.zero_le _) rfl
/-- a new token at a: kind, place, behind, word, width, value; every other cell is as it was -/
def tx_new (G : cx_G) (kd pl bh : Int32) (wd : Option Nat) (w : Int32) (v : Int64) : cx_R → cx_G → Prop := fun r G' => ∃ a, r = .inl (some (.ref a)) ∧ G.1 a = none ∧ cx_ext G G' ∧ G'.1 a = some (.inr (7, [.int kd, .int pl, .int bh, .null, va_rf wd, .int w, .long v])) ∧ G.2.1 ≤ G'.2.1 ∧ G.2.2 ≤ G'.2.2 ∧ G'.2.1 ≤ G.2.1 + 2 ∧ G'.2.2 ≤ G.2.2 + 14
set_option maxRecDepth 100000 in
theorem c_Lx_plainNumber {k : cx_K} {l : Launch} {G : cx_G} {lx ta ws n a m : Nat} {f : Nat → Int32} (hL : tx_L k G lx ta ws n f) (ham : a + m < 1048576) (r1 : G.2.1 + 2 ≤ 601024) (r2 : G.2.2 + 14 ≤ 7293034) : cx_Sp k l m_Lx_plainNumber 2 [.ref lx, .int (nI a), .int (nI (a + m))] G (tx_new G (if tx_dec (tx_at n f) a m 65535 = -1 then 23 else 20) (nI a) (nI (a + m)) none 0 (tx_dec (tx_at n f) a m 65535).toInt64) := by
  intro E hE
  have hT : tx_T k G ta n f := id hL.2
  obtain ⟨hl, b, cap, h1, h2, h3, h4, hf⟩ := id hL
  refine cx_aload_n (i := 0) hE d_Lx_plainNumber_0 rfl rfl ?_
  refine cx_iload_n (i := 1) hE d_Lx_plainNumber_1 rfl rfl ?_
  refine cx_iload_n (i := 2) hE d_Lx_plainNumber_2 rfl rfl ?_
  refine cx_ldc (v := 65535) hE d_Lx_plainNumber_3 (in_2 (List.mem_of_getElem? (i := 165) rfl)) ?_
  refine cx_invV1 hE d_Lx_plainNumber_5 l_Lx_122 (by assumption) (c_Lx_decimal (M := 65535) hL ham (by decide)) rfl (by omega) (Nat.le_of_ble_eq_true rfl) n_Lx_decimal (by first | rfl | (simp only [List.map_cons, List.map_nil, cx_rfc]; rfl)) ?_
  refine cx_istore_n (i := 3) hE d_Lx_plainNumber_8 rfl (by decide) ?_
  refine cx_newh 7 rfl hE d_Lx_plainNumber_9 z_Lx_32 (by omega) (by omega) (fun a_9 G_9 n_9 b_9 g_9 h_9 => ?_)
  refine cx_dup hE d_Lx_plainNumber_12 ?_
  refine cx_iload_n (i := 3) hE d_Lx_plainNumber_13 rfl rfl ?_
  refine cx_iconst (v := -1) hE d_Lx_plainNumber_14 (by decide) ?_
  refine cx_icmp_ne (tgt := 23) hE d_Lx_plainNumber_15 (by decide) (fun c_15 => ?_) (fun c_15 => ?_)
  · refine cx_bipush (v := 20) hE d_Lx_plainNumber_23 (by decide) ?_
    refine cx_iload_n (i := 1) hE d_Lx_plainNumber_25 rfl rfl ?_
    refine cx_iload_n (i := 2) hE d_Lx_plainNumber_26 rfl rfl ?_
    refine cx_invI0 hE d_Lx_plainNumber_27 l_Lx_61 (c_To_init h_9) rfl (by omega) (Nat.le_of_ble_eq_true rfl) n_To_init (by first | rfl | (simp only [List.map_cons, List.map_nil, cx_rfc]; rfl)) ?_
    refine cx_gen (fun G_27 g_27 => ?_)
    have h_27 := cx_ps g_27
    refine cx_astore hE d_Lx_plainNumber_30 (by decide) ?_
    refine cx_aload hE d_Lx_plainNumber_32 rfl ?_
    refine cx_iload_n (i := 3) hE d_Lx_plainNumber_34 rfl rfl ?_
    refine cx_i2l hE d_Lx_plainNumber_35 ?_
    refine cx_putg hE d_Lx_plainNumber_36 f_Lx_126 (by assumption) (Nat.le_of_ble_eq_true rfl) (by first | rfl | exact cx_nr _ _) (by first | rfl | exact cx_fr _ _) (fun G_36 g_36 h_36 => ?_)
    refine cx_aload hE d_Lx_plainNumber_39 rfl ?_
    refine cx_aret (r := some a_9) hE d_Lx_plainNumber_41 rfl (by first | exact Or.inl ⟨_, rfl⟩ | exact Or.inr ⟨_, rfl⟩) ?_
    rw [if_neg c_15]
    subst g_36 g_27 g_9
    refine ⟨_, rfl, n_9, ?_, cx_ps rfl, ?_, ?_, ?_, ?_⟩
    · simp only [cx_mp]
      exact cx_ext.mk n_9
    · show G.2.1 ≤ G.2.1 + 1; omega
    · show G.2.2 ≤ G.2.2 + 7; omega
    · show G.2.1 + 1 ≤ _; omega
    · show G.2.2 + 7 ≤ _; omega
  · refine cx_bipush (v := 23) hE d_Lx_plainNumber_18 (by decide) ?_
    refine cx_goto (tgt := 25) hE d_Lx_plainNumber_20 (by decide) ?_
    refine cx_iload_n (i := 1) hE d_Lx_plainNumber_25 rfl rfl ?_
    refine cx_iload_n (i := 2) hE d_Lx_plainNumber_26 rfl rfl ?_
    refine cx_invI0 hE d_Lx_plainNumber_27 l_Lx_61 (c_To_init h_9) rfl (by omega) (Nat.le_of_ble_eq_true rfl) n_To_init (by first | rfl | (simp only [List.map_cons, List.map_nil, cx_rfc]; rfl)) ?_
    refine cx_gen (fun G_27 g_27 => ?_)
    have h_27 := cx_ps g_27
    refine cx_astore hE d_Lx_plainNumber_30 (by decide) ?_
    refine cx_aload hE d_Lx_plainNumber_32 rfl ?_
    refine cx_iload_n (i := 3) hE d_Lx_plainNumber_34 rfl rfl ?_
    refine cx_i2l hE d_Lx_plainNumber_35 ?_
    refine cx_putg hE d_Lx_plainNumber_36 f_Lx_126 (by assumption) (Nat.le_of_ble_eq_true rfl) (by first | rfl | exact cx_nr _ _) (by first | rfl | exact cx_fr _ _) (fun G_36 g_36 h_36 => ?_)
    refine cx_aload hE d_Lx_plainNumber_39 rfl ?_
    refine cx_aret (r := some a_9) hE d_Lx_plainNumber_41 rfl (by first | exact Or.inl ⟨_, rfl⟩ | exact Or.inr ⟨_, rfl⟩) ?_
    rw [if_pos c_15]
    subst g_36 g_27 g_9
    refine ⟨_, rfl, n_9, ?_, cx_ps rfl, ?_, ?_, ?_, ?_⟩
    · simp only [cx_mp]
      exact cx_ext.mk n_9
    · show G.2.1 ≤ G.2.1 + 1; omega
    · show G.2.2 ≤ G.2.2 + 7; omega
    · show G.2.1 + 1 ≤ _; omega
    · show G.2.2 + 7 ≤ _; omega

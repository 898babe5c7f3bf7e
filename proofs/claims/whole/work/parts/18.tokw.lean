/-! TOKENS: what stands at a place; words. -/
theorem tx_255 (x : Int32) : x &&& 255 = nI (x.toBitVec.toNat % 256) := by
  apply Int32.toBitVec_inj.mp
  apply BitVec.eq_of_toNat_eq
  rw [Int32.toBitVec_and, BitVec.toNat_and]
  show x.toBitVec.toNat &&& 255 = (x.toBitVec.toNat % 256) % 2 ^ 32
  rw [show (255 : Nat) = 2 ^ 8 - 1 from rfl, Nat.and_two_pow_sub_one_eq_mod, Nat.mod_eq_of_lt (a := x.toBitVec.toNat % 256) (by omega)]
theorem tx_low {x : Int32} (hf : fits .byte (.int x) = true) (h : (x &&& 255).toInt < 128) : x &&& 255 = x := by
  have hf' : -128 ≤ x.toInt ∧ x.toInt ≤ 127 := by
    simp only [fits, Bool.and_eq_true, decide_eq_true_eq] at hf
    exact ⟨Int32.le_iff_toInt_le.mp hf.1, Int32.le_iff_toInt_le.mp hf.2⟩
  have e1 : x.toInt = x.toBitVec.toInt := rfl
  have e2 := BitVec.toInt_eq_toNat_cond x.toBitVec
  have e3 := x.toBitVec.isLt
  rw [tx_255] at h ⊢
  rw [nI_toInt (by omega)] at h
  apply Int32.toInt_inj.mp
  rw [nI_toInt (by omega), e1, e2]
  split at e2 <;> rename_i z
  · rw [if_pos z]; omega
  · rw [if_neg z]; omega
/-- kind, place, behind, text, width, value -/
abbrev tx_Tk : Type := Int32 × Nat × Nat × Option (List Int32) × Int32 × Int64
def tx_tx (c : Nat → Int32) (p e : Nat) : List Int32 := (List.range (e - p)).map (fun j => c (p + j))
noncomputable def tx_tok (n : Nat) (c : Nat → Int32) (p : Nat) : tx_Tk :=
  if c p = -1 then (22, n, n, none, 0, 0)
  else if tx_dig (c p) = true then
    (if c (tx_q n c p) = 39 then (@ite tx_Tk (tx_sz c p (tx_q n c p - p) (tx_ne n c p)) (Classical.propDecidable _) (21, p, tx_ne n c p, none, nI (tx_szW c p (tx_q n c p - p)), lN (tx_szV c (p + (tx_q n c p - p)) (tx_ne n c p))) (23, p, tx_ne n c p, none, 0, 0))
    else (if tx_dec c p (tx_q n c p - p) 65535 = -1 then 23 else 20, p, tx_q n c p, none, 0, (tx_dec c p (tx_q n c p - p) 65535).toInt64))
  else if tx_let (c p) = true ∨ c p = 95 then (tx_kw (tx_tx c p (tx_q n c p)), p, tx_q n c p, some (tx_tx c p (tx_q n c p)), 0, 0)
  else (tx_sgk (c p) (c (p + 1)), p, p + tx_sgl (c p) (c (p + 1)), none, 0, 0)
/-- a token's object -/
def tx_to (G : cx_G) (a : Nat) (t : tx_Tk) (nx w : Option Nat) : Prop := G.1 a = some (.inr (7, [.int t.1, .int (nI t.2.1), .int (nI t.2.2.1), va_rf nx, va_rf w, .int t.2.2.2.2.1, .long t.2.2.2.2.2]))
abbrev tx_Cn : Type := Nat → List (Nat × List Int32 × Int32)
def tx_le (C C' : tx_Cn) : Prop := ∀ T x, tx_fd C T = some x → tx_fd C' T = some x
/-- words that are in C' but not in C lie at new places -/
def tx_nw (G : cx_G) (C C' : tx_Cn) : Prop := ∀ T x, tx_fd C' T = some x → tx_fd C T = some x ∨ G.1 x.1 = none
def tx_lf (G : cx_G) (C C' : tx_Cn) : Prop := tx_le C C' ∧ tx_nw G C C'
theorem tx_nw.up {G : cx_G} {C : tx_Cn} {T : List Int32} {a : Nat} {kd : Int32} (ha : G.1 a = none) : tx_nw G C (va_up C (tx_hi T) ((a, T, kd) :: C (tx_hi T))) := by
  intro X x q
  rw [tx_fd_up] at q
  by_cases hX : X = T
  · rw [if_pos hX] at q
    cases q
    exact Or.inr ha
  · rw [if_neg hX] at q
    exact Or.inl q
def tx_wl (C : tx_Cn) (t : tx_Tk) (w : Option Nat) : Prop := (t.2.2.2.1 = none → w = none) ∧ ∀ T, t.2.2.2.1 = some T → ∃ x, tx_fd C T = some x ∧ w = some x.1
theorem tx_wl.le {C C' : tx_Cn} {t : tx_Tk} {w : Option Nat} (h : tx_le C C') (hw : tx_wl C t w) : tx_wl C' t w := ⟨hw.1, fun T q => by
  obtain ⟨x, h1, h2⟩ := hw.2 T q
  exact ⟨x, h _ _ h1, h2⟩⟩
/-- a new token t, and perhaps a new word -/
def tx_tp (k : cx_K) (G : cx_G) (wa ca : Nat) (C : tx_Cn) (t : tx_Tk) : cx_R → cx_G → Prop := fun r G' => ∃ a w C', r = .inl (some (.ref a)) ∧ G.1 a = none ∧ tx_x ca G G' ∧ tx_W k G' wa ca C' ∧ tx_kO C' ∧ tx_lf G C C' ∧ tx_to G' a t none w ∧ tx_wl C' t w ∧ G'.2.1 ≤ G.2.1 + 3 ∧ G'.2.2 ≤ G.2.2 + 14 + (t.2.2.1 - t.2.1)
theorem tx_new.tp {k : cx_K} {G G' : cx_G} {wa ca : Nat} {C : tx_Cn} {kd w : Int32} {v : Int64} {pl bh : Nat} {r : cx_R} (hW : tx_W k G wa ca C) (hO : tx_kO C) (h : tx_new G kd (nI pl) (nI bh) none w v r G') : tx_tp k G wa ca C (kd, pl, bh, none, w, v) r G' := by
  obtain ⟨a, h1, h2, h3, h4, h5, h6, h7, h8⟩ := h
  refine ⟨a, none, C, h1, h2, ⟨?_, fun b e _ q => h3 b e q⟩, hW.ext h3, hO, ⟨fun _ _ q => q, fun _ _ q => Or.inl q⟩, h4, ⟨fun _ => rfl, fun _ q => by cases q⟩, by omega, by omega⟩
  obtain ⟨-, g, q, -⟩ := hW
  exact ⟨_, _, _, q⟩
theorem tx_kO.up {C : tx_Cn} {T : List Int32} {a : Nat} (h : tx_kO C) (hT : tx_fd C T = none) : tx_kO (va_up C (tx_hi T) ((a, T, 19) :: C (tx_hi T))) ∧ tx_le C (va_up C (tx_hi T) ((a, T, 19) :: C (tx_hi T))) := by
  have h18 : tx_kwi T = 18 := by
    rcases Nat.lt_or_ge (tx_kwi T) 18 with z | z
    · obtain ⟨x, q⟩ := (h T).1 z
      rw [hT] at q
      cases q
    · have := tx_kwi_le T
      omega
  have hk : tx_kw T = 19 := by rw [tx_kw, h18]; rfl
  refine ⟨fun X => ?_, fun X x q => ?_⟩
  · rw [tx_fd_up]
    by_cases hX : X = T
    · rw [if_pos hX]
      refine ⟨fun _ => ⟨_, rfl⟩, fun x q => ?_⟩
      cases q
      rw [hX, hk]
    · rw [if_neg hX]
      exact h X
  · rw [tx_fd_up]
    by_cases hX : X = T
    · rw [hX, hT] at q
      cases q
    · rw [if_neg hX]
      exact q
theorem tx_tx_len (c : Nat → Int32) (p e : Nat) : (tx_tx c p e).length = e - p := by
  unfold tx_tx
  rw [List.length_map, List.length_range]
theorem tx_tx_get {c : Nat → Int32} {p e j : Nat} (h : j < e - p) : (tx_tx c p e).getD j 0 = c (p + j) := by
  unfold tx_tx
  rw [List.getD_eq_getElem?_getD, List.getElem?_map, List.getElem?_range h]
  rfl
theorem tx_on_low {c : Int32} (h : tx_on c = true) : c.toInt < 128 := by
  unfold tx_on tx_let tx_dig at h
  simp only [Bool.or_eq_true, decide_eq_true_eq] at h
  rcases h with ((h | h) | h) | h
  · omega
  · omega
  · rw [h]; decide
  · rw [h]; decide
abbrev m_Lx_word : cx_M := (⟨"CircuitText$Lexer", "word", "(I)LCircuitText$Token;"⟩, prog_3_method_8_code, 5, (Option.some (Jvm.ClassFile.FieldType.object "CircuitText$Token")), [], [false, false])
theorem w_Lx_word : cx_W m_Lx_word := ⟨Or.inl ⟨(in_2 (List.mem_of_getElem? (i := 187) rfl)), rfl⟩, by decide +kernel, by decide, by decide, by decide +kernel⟩
theorem n_Lx_word : (parseMethodDescriptor m_Lx_word.1.desc).map (fun d => d.parameters.length) = some 1 := by decide +kernel
theorem d_Lx_word_0 : decode prog_3_method_8_code 0 = .ok (.iload_n 1, 1) := by decide +kernel
theorem d_Lx_word_1 : decode prog_3_method_8_code 1 = .ok (.istore_n 2, 1) := by decide +kernel
theorem d_Lx_word_2 : decode prog_3_method_8_code 2 = .ok (.iload_n 2, 1) := by decide +kernel
theorem d_Lx_word_3 : decode prog_3_method_8_code 3 = .ok (.aload_n 0, 1) := by decide +kernel
theorem d_Lx_word_4 : decode prog_3_method_8_code 4 = .ok (.getfield 18, 3) := by decide +kernel
theorem d_Lx_word_7 : decode prog_3_method_8_code 7 = .ok (.getfield 58, 3) := by decide +kernel
theorem d_Lx_word_10 : decode prog_3_method_8_code 10 = .ok (.if_icmp .ge 23, 3) := by decide +kernel
theorem d_Lx_word_13 : decode prog_3_method_8_code 13 = .ok (.aload_n 0, 1) := by decide +kernel
theorem d_Lx_word_14 : decode prog_3_method_8_code 14 = .ok (.getfield 18, 3) := by decide +kernel
theorem d_Lx_word_17 : decode prog_3_method_8_code 17 = .ok (.iload_n 2, 1) := by decide +kernel
theorem d_Lx_word_18 : decode prog_3_method_8_code 18 = .ok (.invokevirtual 47, 3) := by decide +kernel
theorem d_Lx_word_21 : decode prog_3_method_8_code 21 = .ok (.invokestatic 80, 3) := by decide +kernel
theorem d_Lx_word_24 : decode prog_3_method_8_code 24 = .ok (.ifCond .eq 9, 3) := by decide +kernel
theorem d_Lx_word_27 : decode prog_3_method_8_code 27 = .ok (.iinc 2 1, 3) := by decide +kernel
theorem d_Lx_word_30 : decode prog_3_method_8_code 30 = .ok (.goto (-28), 3) := by decide +kernel
theorem d_Lx_word_33 : decode prog_3_method_8_code 33 = .ok (.aload_n 0, 1) := by decide +kernel
theorem d_Lx_word_34 : decode prog_3_method_8_code 34 = .ok (.getfield 12, 3) := by decide +kernel
theorem d_Lx_word_37 : decode prog_3_method_8_code 37 = .ok (.aload_n 0, 1) := by decide +kernel
theorem d_Lx_word_38 : decode prog_3_method_8_code 38 = .ok (.getfield 18, 3) := by decide +kernel
theorem d_Lx_word_41 : decode prog_3_method_8_code 41 = .ok (.iload_n 1, 1) := by decide +kernel
theorem d_Lx_word_42 : decode prog_3_method_8_code 42 = .ok (.iload_n 2, 1) := by decide +kernel
theorem d_Lx_word_43 : decode prog_3_method_8_code 43 = .ok (.invokevirtual 83, 3) := by decide +kernel
theorem d_Lx_word_46 : decode prog_3_method_8_code 46 = .ok (.invokevirtual 87, 3) := by decide +kernel
theorem d_Lx_word_49 : decode prog_3_method_8_code 49 = .ok (.astore_n 3, 1) := by decide +kernel
theorem d_Lx_word_50 : decode prog_3_method_8_code 50 = .ok (.new 32, 3) := by decide +kernel
theorem d_Lx_word_53 : decode prog_3_method_8_code 53 = .ok (.dup, 1) := by decide +kernel
theorem d_Lx_word_54 : decode prog_3_method_8_code 54 = .ok (.aload_n 3, 1) := by decide +kernel
theorem d_Lx_word_55 : decode prog_3_method_8_code 55 = .ok (.getfield 91, 3) := by decide +kernel
theorem d_Lx_word_58 : decode prog_3_method_8_code 58 = .ok (.iload_n 1, 1) := by decide +kernel
theorem d_Lx_word_59 : decode prog_3_method_8_code 59 = .ok (.iload_n 2, 1) := by decide +kernel
theorem d_Lx_word_60 : decode prog_3_method_8_code 60 = .ok (.invokespecial 61, 3) := by decide +kernel
theorem d_Lx_word_63 : decode prog_3_method_8_code 63 = .ok (.astore 4, 2) := by decide +kernel
theorem d_Lx_word_65 : decode prog_3_method_8_code 65 = .ok (.aload 4, 2) := by decide +kernel
theorem d_Lx_word_67 : decode prog_3_method_8_code 67 = .ok (.aload_n 3, 1) := by decide +kernel
theorem d_Lx_word_68 : decode prog_3_method_8_code 68 = .ok (.putfield 94, 3) := by decide +kernel
theorem d_Lx_word_71 : decode prog_3_method_8_code 71 = .ok (.aload 4, 2) := by decide +kernel
theorem d_Lx_word_73 : decode prog_3_method_8_code 73 = .ok (.areturn, 1) := by decide +kernel
theorem f_Lx_12 : cx_F "CircuitText$Lexer" 12 2 1 (.object "CircuitText$Words") true := ⟨_, F_Lx, 2, t_Lx, k_Lx, by decide, rfl, rfl, Or.inl (in_2 (List.mem_of_getElem? (i := 109) rfl))⟩
theorem ff_Lx_12 : cx_FF "CircuitText$Lexer" 12 2 1 (.object "CircuitText$Words") := ⟨_, F_Lx, 2, t_Lx, k_Lx, by decide, rfl, rfl, rfl, (in_2 (List.mem_of_getElem? (i := 109) rfl))⟩
theorem f_Lx_91 : cx_F "CircuitText$Lexer" 91 10 2 (.int) false := ⟨_, F_Wd, 5, t_Wd, k_Wd, by decide, rfl, rfl, Or.inr ⟨"CircuitText", (in_2 (List.mem_of_getElem? (i := 88) rfl))⟩⟩
theorem f_Lx_94 : cx_F "CircuitText$Lexer" 94 7 4 (.object "CircuitText$Word") false := ⟨_, F_To, 7, t_To, k_To, by decide, rfl, rfl, Or.inr ⟨"CircuitText", (in_1 (List.mem_of_getElem? (i := 153) rfl))⟩⟩
abbrev m_Lx_tokenAt : cx_M := (⟨"CircuitText$Lexer", "tokenAt", "(I)LCircuitText$Token;"⟩, prog_3_method_7_code, 3, (Option.some (Jvm.ClassFile.FieldType.object "CircuitText$Token")), [], [false, false])
theorem w_Lx_tokenAt : cx_W m_Lx_tokenAt := ⟨Or.inl ⟨(in_2 (List.mem_of_getElem? (i := 145) rfl)), rfl⟩, by decide +kernel, by decide, by decide, by decide +kernel⟩
theorem n_Lx_tokenAt : (parseMethodDescriptor m_Lx_tokenAt.1.desc).map (fun d => d.parameters.length) = some 1 := by decide +kernel
theorem d_Lx_tokenAt_0 : decode prog_3_method_7_code 0 = .ok (.aload_n 0, 1) := by decide +kernel
theorem d_Lx_tokenAt_1 : decode prog_3_method_7_code 1 = .ok (.getfield 18, 3) := by decide +kernel
theorem d_Lx_tokenAt_4 : decode prog_3_method_7_code 4 = .ok (.iload_n 1, 1) := by decide +kernel
theorem d_Lx_tokenAt_5 : decode prog_3_method_7_code 5 = .ok (.invokevirtual 47, 3) := by decide +kernel
theorem d_Lx_tokenAt_8 : decode prog_3_method_7_code 8 = .ok (.istore_n 2, 1) := by decide +kernel
theorem d_Lx_tokenAt_9 : decode prog_3_method_7_code 9 = .ok (.iload_n 2, 1) := by decide +kernel
theorem d_Lx_tokenAt_10 : decode prog_3_method_7_code 10 = .ok (.iconst (-1), 1) := by decide +kernel
theorem d_Lx_tokenAt_11 : decode prog_3_method_7_code 11 = .ok (.if_icmp .ne 27, 3) := by decide +kernel
theorem d_Lx_tokenAt_14 : decode prog_3_method_7_code 14 = .ok (.new 32, 3) := by decide +kernel
theorem d_Lx_tokenAt_17 : decode prog_3_method_7_code 17 = .ok (.dup, 1) := by decide +kernel
theorem d_Lx_tokenAt_18 : decode prog_3_method_7_code 18 = .ok (.bipush 22, 2) := by decide +kernel
theorem d_Lx_tokenAt_20 : decode prog_3_method_7_code 20 = .ok (.aload_n 0, 1) := by decide +kernel
theorem d_Lx_tokenAt_21 : decode prog_3_method_7_code 21 = .ok (.getfield 18, 3) := by decide +kernel
theorem d_Lx_tokenAt_24 : decode prog_3_method_7_code 24 = .ok (.getfield 58, 3) := by decide +kernel
theorem d_Lx_tokenAt_27 : decode prog_3_method_7_code 27 = .ok (.aload_n 0, 1) := by decide +kernel
theorem d_Lx_tokenAt_28 : decode prog_3_method_7_code 28 = .ok (.getfield 18, 3) := by decide +kernel
theorem d_Lx_tokenAt_31 : decode prog_3_method_7_code 31 = .ok (.getfield 58, 3) := by decide +kernel
theorem d_Lx_tokenAt_34 : decode prog_3_method_7_code 34 = .ok (.invokespecial 61, 3) := by decide +kernel
theorem d_Lx_tokenAt_37 : decode prog_3_method_7_code 37 = .ok (.areturn, 1) := by decide +kernel
theorem d_Lx_tokenAt_38 : decode prog_3_method_7_code 38 = .ok (.iload_n 2, 1) := by decide +kernel
theorem d_Lx_tokenAt_39 : decode prog_3_method_7_code 39 = .ok (.invokestatic 64, 3) := by decide +kernel
theorem d_Lx_tokenAt_42 : decode prog_3_method_7_code 42 = .ok (.ifCond .eq 9, 3) := by decide +kernel
theorem d_Lx_tokenAt_45 : decode prog_3_method_7_code 45 = .ok (.aload_n 0, 1) := by decide +kernel
theorem d_Lx_tokenAt_46 : decode prog_3_method_7_code 46 = .ok (.iload_n 1, 1) := by decide +kernel
theorem d_Lx_tokenAt_47 : decode prog_3_method_7_code 47 = .ok (.invokevirtual 68, 3) := by decide +kernel
theorem d_Lx_tokenAt_50 : decode prog_3_method_7_code 50 = .ok (.areturn, 1) := by decide +kernel
theorem d_Lx_tokenAt_51 : decode prog_3_method_7_code 51 = .ok (.iload_n 2, 1) := by decide +kernel
theorem d_Lx_tokenAt_52 : decode prog_3_method_7_code 52 = .ok (.invokestatic 71, 3) := by decide +kernel
theorem d_Lx_tokenAt_55 : decode prog_3_method_7_code 55 = .ok (.ifCond .ne 9, 3) := by decide +kernel
theorem d_Lx_tokenAt_58 : decode prog_3_method_7_code 58 = .ok (.iload_n 2, 1) := by decide +kernel
theorem d_Lx_tokenAt_59 : decode prog_3_method_7_code 59 = .ok (.bipush 95, 2) := by decide +kernel
theorem d_Lx_tokenAt_61 : decode prog_3_method_7_code 61 = .ok (.if_icmp .ne 11, 3) := by decide +kernel
theorem d_Lx_tokenAt_64 : decode prog_3_method_7_code 64 = .ok (.aload_n 0, 1) := by decide +kernel
theorem d_Lx_tokenAt_65 : decode prog_3_method_7_code 65 = .ok (.iload_n 1, 1) := by decide +kernel
theorem d_Lx_tokenAt_66 : decode prog_3_method_7_code 66 = .ok (.invokevirtual 74, 3) := by decide +kernel
theorem d_Lx_tokenAt_69 : decode prog_3_method_7_code 69 = .ok (.goto 8, 3) := by decide +kernel
theorem d_Lx_tokenAt_72 : decode prog_3_method_7_code 72 = .ok (.aload_n 0, 1) := by decide +kernel
theorem d_Lx_tokenAt_73 : decode prog_3_method_7_code 73 = .ok (.iload_n 1, 1) := by decide +kernel
theorem d_Lx_tokenAt_74 : decode prog_3_method_7_code 74 = .ok (.invokevirtual 77, 3) := by decide +kernel
theorem d_Lx_tokenAt_77 : decode prog_3_method_7_code 77 = .ok (.areturn, 1) := by decide +kernel
abbrev m_Lx_tokens : cx_M := (⟨"CircuitText$Lexer", "tokens", "()LCircuitText$Token;"⟩, prog_3_method_2_code, 5, (Option.some (Jvm.ClassFile.FieldType.object "CircuitText$Token")), [], [false])
theorem w_Lx_tokens : cx_W m_Lx_tokens := ⟨Or.inl ⟨(in_2 (List.mem_of_getElem? (i := 120) rfl)), rfl⟩, by decide +kernel, by decide, by decide, by decide +kernel⟩
theorem n_Lx_tokens : (parseMethodDescriptor m_Lx_tokens.1.desc).map (fun d => d.parameters.length) = some 0 := by decide +kernel
theorem d_Lx_tokens_0 : decode prog_3_method_2_code 0 = .ok (.aload_n 0, 1) := by decide +kernel
theorem d_Lx_tokens_1 : decode prog_3_method_2_code 1 = .ok (.aload_n 0, 1) := by decide +kernel
theorem d_Lx_tokens_2 : decode prog_3_method_2_code 2 = .ok (.iconst 0, 1) := by decide +kernel
theorem d_Lx_tokens_3 : decode prog_3_method_2_code 3 = .ok (.invokevirtual 22, 3) := by decide +kernel
theorem d_Lx_tokens_6 : decode prog_3_method_2_code 6 = .ok (.invokevirtual 26, 3) := by decide +kernel
theorem d_Lx_tokens_9 : decode prog_3_method_2_code 9 = .ok (.astore_n 1, 1) := by decide +kernel
theorem d_Lx_tokens_10 : decode prog_3_method_2_code 10 = .ok (.aload_n 1, 1) := by decide +kernel
theorem d_Lx_tokens_11 : decode prog_3_method_2_code 11 = .ok (.astore_n 2, 1) := by decide +kernel
theorem d_Lx_tokens_12 : decode prog_3_method_2_code 12 = .ok (.iconst 0, 1) := by decide +kernel
theorem d_Lx_tokens_13 : decode prog_3_method_2_code 13 = .ok (.istore_n 3, 1) := by decide +kernel
theorem d_Lx_tokens_14 : decode prog_3_method_2_code 14 = .ok (.iload_n 3, 1) := by decide +kernel
theorem d_Lx_tokens_15 : decode prog_3_method_2_code 15 = .ok (.ldc 30, 2) := by decide +kernel
theorem d_Lx_tokens_17 : decode prog_3_method_2_code 17 = .ok (.if_icmp .gt 50, 3) := by decide +kernel
theorem d_Lx_tokens_20 : decode prog_3_method_2_code 20 = .ok (.aload_n 2, 1) := by decide +kernel
theorem d_Lx_tokens_21 : decode prog_3_method_2_code 21 = .ok (.getfield 31, 3) := by decide +kernel
theorem d_Lx_tokens_24 : decode prog_3_method_2_code 24 = .ok (.bipush 22, 2) := by decide +kernel
theorem d_Lx_tokens_26 : decode prog_3_method_2_code 26 = .ok (.if_icmp .eq 41, 3) := by decide +kernel
theorem d_Lx_tokens_29 : decode prog_3_method_2_code 29 = .ok (.aload_n 2, 1) := by decide +kernel
theorem d_Lx_tokens_30 : decode prog_3_method_2_code 30 = .ok (.getfield 31, 3) := by decide +kernel
theorem d_Lx_tokens_33 : decode prog_3_method_2_code 33 = .ok (.bipush 23, 2) := by decide +kernel
theorem d_Lx_tokens_35 : decode prog_3_method_2_code 35 = .ok (.if_icmp .eq 32, 3) := by decide +kernel
theorem d_Lx_tokens_38 : decode prog_3_method_2_code 38 = .ok (.aload_n 0, 1) := by decide +kernel
theorem d_Lx_tokens_39 : decode prog_3_method_2_code 39 = .ok (.aload_n 0, 1) := by decide +kernel
theorem d_Lx_tokens_40 : decode prog_3_method_2_code 40 = .ok (.aload_n 2, 1) := by decide +kernel
theorem d_Lx_tokens_41 : decode prog_3_method_2_code 41 = .ok (.getfield 37, 3) := by decide +kernel
theorem d_Lx_tokens_44 : decode prog_3_method_2_code 44 = .ok (.invokevirtual 22, 3) := by decide +kernel
theorem d_Lx_tokens_47 : decode prog_3_method_2_code 47 = .ok (.invokevirtual 26, 3) := by decide +kernel
theorem d_Lx_tokens_50 : decode prog_3_method_2_code 50 = .ok (.astore 4, 2) := by decide +kernel
theorem d_Lx_tokens_52 : decode prog_3_method_2_code 52 = .ok (.aload_n 2, 1) := by decide +kernel
theorem d_Lx_tokens_53 : decode prog_3_method_2_code 53 = .ok (.aload 4, 2) := by decide +kernel
theorem d_Lx_tokens_55 : decode prog_3_method_2_code 55 = .ok (.putfield 40, 3) := by decide +kernel
theorem d_Lx_tokens_58 : decode prog_3_method_2_code 58 = .ok (.aload 4, 2) := by decide +kernel
theorem d_Lx_tokens_60 : decode prog_3_method_2_code 60 = .ok (.astore_n 2, 1) := by decide +kernel
theorem d_Lx_tokens_61 : decode prog_3_method_2_code 61 = .ok (.iinc 3 1, 3) := by decide +kernel
theorem d_Lx_tokens_64 : decode prog_3_method_2_code 64 = .ok (.goto (-50), 3) := by decide +kernel
theorem d_Lx_tokens_67 : decode prog_3_method_2_code 67 = .ok (.aload_n 1, 1) := by decide +kernel
theorem d_Lx_tokens_68 : decode prog_3_method_2_code 68 = .ok (.areturn, 1) := by decide +kernel
theorem f_Lx_31 : cx_F "CircuitText$Lexer" 31 7 0 (.int) true := ⟨_, F_To, 7, t_To, k_To, by decide, rfl, rfl, Or.inr ⟨"CircuitText", (in_1 (List.mem_of_getElem? (i := 137) rfl))⟩⟩
theorem f_Lx_37 : cx_F "CircuitText$Lexer" 37 7 2 (.int) true := ⟨_, F_To, 7, t_To, k_To, by decide, rfl, rfl, Or.inr ⟨"CircuitText", (in_1 (List.mem_of_getElem? (i := 145) rfl))⟩⟩
theorem f_Lx_40 : cx_F "CircuitText$Lexer" 40 7 3 (.object "CircuitText$Token") false := ⟨_, F_To, 7, t_To, k_To, by decide, rfl, rfl, Or.inr ⟨"CircuitText", (in_1 (List.mem_of_getElem? (i := 147) rfl))⟩⟩
abbrev m_Lx_init : cx_M := (⟨"CircuitText$Lexer", "<init>", "(LCircuitText$Tape;)V"⟩, prog_3_method_1_code, 2, (Option.none : Option Jvm.ClassFile.FieldType), [], [false, false])
theorem w_Lx_init : cx_W m_Lx_init := ⟨Or.inl ⟨(in_2 (List.mem_of_getElem? (i := 7) rfl)), rfl⟩, by decide +kernel, by decide, by decide, by decide +kernel⟩
theorem n_Lx_init : (parseMethodDescriptor m_Lx_init.1.desc).map (fun d => d.parameters.length) = some 1 := by decide +kernel
theorem d_Lx_init_0 : decode prog_3_method_1_code 0 = .ok (.aload_n 0, 1) := by decide +kernel
theorem d_Lx_init_1 : decode prog_3_method_1_code 1 = .ok (.invokespecial 3, 3) := by decide +kernel
theorem d_Lx_init_4 : decode prog_3_method_1_code 4 = .ok (.aload_n 0, 1) := by decide +kernel
theorem d_Lx_init_5 : decode prog_3_method_1_code 5 = .ok (.new 9, 3) := by decide +kernel
theorem d_Lx_init_8 : decode prog_3_method_1_code 8 = .ok (.dup, 1) := by decide +kernel
theorem d_Lx_init_9 : decode prog_3_method_1_code 9 = .ok (.invokespecial 11, 3) := by decide +kernel
theorem d_Lx_init_12 : decode prog_3_method_1_code 12 = .ok (.putfield 12, 3) := by decide +kernel
theorem d_Lx_init_15 : decode prog_3_method_1_code 15 = .ok (.aload_n 0, 1) := by decide +kernel
theorem d_Lx_init_16 : decode prog_3_method_1_code 16 = .ok (.aload_n 1, 1) := by decide +kernel
theorem d_Lx_init_17 : decode prog_3_method_1_code 17 = .ok (.putfield 18, 3) := by decide +kernel
theorem d_Lx_init_20 : decode prog_3_method_1_code 20 = .ok (.return_, 1) := by decide +kernel
theorem z_Lx_9 : cx_N "CircuitText$Lexer" 9 11 [.null] := ⟨_, F_Ws, t_Ws, k_Ws, (in_2 (List.mem_of_getElem? (i := 9) rfl)), (in_2 (List.mem_of_getElem? (i := 10) rfl)), (in_1 (List.mem_of_getElem? (i := 20) rfl)), fun j hj => by rcases (show j = 0 by have : j < 1 := hj; omega) with rfl <;> rfl⟩
theorem l_Lx_83 : cx_LV "CircuitText$Lexer" 83 6 m_Ta_copy := ⟨Or.inl (in_2 (List.mem_of_getElem? (i := 188) rfl)), w_Ta_copy, (in_2 (List.mem_of_getElem? (i := 189) rfl)), _, rfl, (in_2 (List.mem_of_getElem? (i := 190) rfl))⟩
theorem l_Lx_87 : cx_LV "CircuitText$Lexer" 87 11 m_Ws_wordOf := ⟨Or.inr ⟨"CircuitText", (in_3 (List.mem_of_getElem? (i := 232) rfl))⟩, w_Ws_wordOf, (in_2 (List.mem_of_getElem? (i := 71) rfl)), _, rfl, (List.mem_append_left _ (List.mem_of_getElem? (i := 0) rfl))⟩
theorem l_Lx_68 : cx_LV "CircuitText$Lexer" 68 2 m_Lx_number := ⟨Or.inl (in_2 (List.mem_of_getElem? (i := 151) rfl)), w_Lx_number, (in_2 (List.mem_of_getElem? (i := 153) rfl)), _, rfl, (List.mem_append_left _ (List.mem_of_getElem? (i := 6) rfl))⟩
theorem l_Lx_74 : cx_LV "CircuitText$Lexer" 74 2 m_Lx_word := ⟨Or.inl (in_2 (List.mem_of_getElem? (i := 184) rfl)), w_Lx_word, (in_2 (List.mem_of_getElem? (i := 186) rfl)), _, rfl, (List.mem_append_left _ (List.mem_of_getElem? (i := 10) rfl))⟩
theorem l_Lx_77 : cx_LV "CircuitText$Lexer" 77 2 m_Lx_sign := ⟨Or.inl (in_3 (List.mem_of_getElem? (i := 233) rfl)), w_Lx_sign, (in_3 (List.mem_of_getElem? (i := 235) rfl)), _, rfl, (List.mem_append_left _ (List.mem_of_getElem? (i := 12) rfl))⟩
theorem l_Lx_22 : cx_LV "CircuitText$Lexer" 22 2 m_Lx_behindBlanks := ⟨Or.inl (in_2 (List.mem_of_getElem? (i := 121) rfl)), w_Lx_behindBlanks, (in_2 (List.mem_of_getElem? (i := 123) rfl)), _, rfl, (List.mem_append_left _ (List.mem_of_getElem? (i := 1) rfl))⟩
theorem l_Lx_26 : cx_LV "CircuitText$Lexer" 26 2 m_Lx_tokenAt := ⟨Or.inl (in_2 (List.mem_of_getElem? (i := 142) rfl)), w_Lx_tokenAt, (in_2 (List.mem_of_getElem? (i := 144) rfl)), _, rfl, (List.mem_append_left _ (List.mem_of_getElem? (i := 5) rfl))⟩
theorem l_Lx_11 : cx_LI "CircuitText$Lexer" 11 m_Ws_init := ⟨Or.inl (in_2 (List.mem_of_getElem? (i := 11) rfl)), w_Ws_init, (in_2 (List.mem_of_getElem? (i := 12) rfl)), rfl, rfl, rfl, (in_2 (List.mem_of_getElem? (i := 13) rfl))⟩
set_option maxRecDepth 100000 in
theorem c_Lx_word {k : cx_K} {l : Launch} {G : cx_G} {lx ta wa ca n p : Nat} {f : Nat → Int32} {C : tx_Cn} (hL : tx_L k G lx ta wa n f) (hW : tx_W k G wa ca C) (hO : tx_kO C) (hpn : p < n) (hn : n ≤ 65536) (r1 : G.2.1 + 3 ≤ 601024) (r2 : G.2.2 + 14 + n ≤ 7293034) (hN0 : ∀ t, G.1 t = none → k.2.2.2.2.2.2 t) : cx_Sp k l m_Lx_word 4 [.ref lx, .int (nI p)] G (tx_tp k G wa ca C (tx_kw (tx_tx (tx_at n f) p (tx_q n (tx_at n f) p)), p, tx_q n (tx_at n f) p, some (tx_tx (tx_at n f) p (tx_q n (tx_at n f) p)), 0, 0)) := by
  intro E hE
  have hT : tx_T k G ta n f := id hL.2
  obtain ⟨hl, b, cap, h1, h2, h3, h4, hf⟩ := id hL
  have hq0 : p ≤ tx_q n (tx_at n f) p ∧ (p ≤ n → tx_q n (tx_at n f) p ≤ n) := tx_e_le (P := tx_nP n (tx_at n f)) tx_nP_n p
  have hqn := hq0.2 (by omega)
  have hQ : tx_end (tx_nP n (tx_at n f)) p (tx_q n (tx_at n f) p) := tx_ex tx_nP_n p
  have hfl : ∀ j, j < tx_q n (tx_at n f) p - p → f (p + j) = tx_at n f (p + j) := by
    intro j hj
    have z := hQ.2.1 (p + j) (by omega) (by omega)
    have z1 := tx_on_low z.2
    unfold tx_at at z1 ⊢
    rw [if_pos z.1] at z1 ⊢
    exact (tx_low (hf _) z1).symm
  have hend : cx_V E 33 [(2, false, .int (nI (tx_q n (tx_at n f) p))), (0, false, .ref lx), (1, false, .int (nI p))] [] G := by
    refine cx_aload_n (i := 0) hE d_Lx_word_33 rfl rfl ?_
    refine cx_get hE d_Lx_word_34 f_Lx_12 (by assumption) (by rfl) ?_
    refine cx_aload_n (i := 0) hE d_Lx_word_37 rfl rfl ?_
    refine cx_get hE d_Lx_word_38 f_Lx_18 (by assumption) (by rfl) ?_
    refine cx_iload_n (i := 1) hE d_Lx_word_41 rfl rfl ?_
    refine cx_iload_n (i := 2) hE d_Lx_word_42 rfl rfl ?_
    refine cx_invV hE d_Lx_word_43 l_Lx_83 h1 (c_Ta_copy (a := p) (m := tx_q n (tx_at n f) p - p) hT (by omega) (by omega) (by omega)) (by rw [Nat.add_sub_cancel' hq0.1]; rfl) (by omega) (Nat.le_of_ble_eq_true rfl) n_Ta_copy (by rfl) (fun v G1 q => ?_) (fun a G1 q => by obtain ⟨_, _, q, _⟩ := q; cases q)
    obtain ⟨tb, g1, q0, q1, q2, q3, q4, q5, q6, q7⟩ := q
    cases q0
    show cx_V E _ _ [.ref tb, .ref wa] G1
    have hW1 := hW.ext q2
    have hx1 : tx_ar k G1 tb (tx_tx (tx_at n f) p (tx_q n (tx_at n f) p)) := tx_ar.of (tx_tx_len _ _ _).symm q3 (fun j hj => by rw [tx_tx_get hj]; exact (q4 j hj).trans (hfl j hj)) (hN0 tb q1)
    refine cx_invV (Post' := tx_wo k G1 wa ca C (tx_tx (tx_at n f) p (tx_q n (tx_at n f) p))) hE d_Lx_word_46 l_Lx_87 hW1.1 (c_Ws_wordOf hW1 hx1 (by rw [tx_tx_len]; omega) (by omega) (by omega)) rfl (by omega) (Nat.le_of_ble_eq_true rfl) n_Ws_wordOf (by rfl) (fun v G2 q => ?_) (fun a G2 q => by rcases q with ⟨_, _, q, _⟩ | ⟨_, _, q, _⟩ <;> cases q)
    obtain ⟨aw, C2, s0, s1, s2, s3, s4, s5, s6, s7, s8, s9⟩ : ∃ aw C2, v = some (.ref aw) ∧ tx_W k G2 wa ca C2 ∧ tx_kO C2 ∧ tx_lf G C C2 ∧ tx_fd C2 (tx_tx (tx_at n f) p (tx_q n (tx_at n f) p)) = some (aw, (tx_tx (tx_at n f) p (tx_q n (tx_at n f) p)), tx_kw (tx_tx (tx_at n f) p (tx_q n (tx_at n f) p))) ∧ tx_x ca G1 G2 ∧ (∃ nx, tx_wd k G2 aw (tx_tx (tx_at n f) p (tx_q n (tx_at n f) p)) nx (tx_kw (tx_tx (tx_at n f) p (tx_q n (tx_at n f) p))) none none) ∧ G2.2.1 ≤ G1.2.1 + 1 ∧ G2.2.2 ≤ G1.2.2 + 5 ∧ True := by
      obtain ⟨aw, C2, s1, s2, s3, s4, s5, s6, s7, s8⟩ : ∃ aw C2, v = some (.ref aw) ∧ tx_W k G2 wa ca C2 ∧ tx_kO C2 ∧ tx_lf G C C2 ∧ tx_fd C2 (tx_tx (tx_at n f) p (tx_q n (tx_at n f) p)) = some (aw, (tx_tx (tx_at n f) p (tx_q n (tx_at n f) p)), tx_kw (tx_tx (tx_at n f) p (tx_q n (tx_at n f) p))) ∧ tx_x ca G1 G2 ∧ G2.2.1 ≤ G1.2.1 + 1 ∧ G2.2.2 ≤ G1.2.2 + 5 := by
        rcases q with ⟨x, u1, u2, u3⟩ | ⟨u1, aw, u2, u3, u4, u5, u6, u7⟩
        · cases u2
          subst u3
          refine ⟨x.1, C, rfl, hW1, hO, ⟨fun _ _ z => z, fun _ _ z => Or.inl z⟩, ?_, ⟨?_, fun _ _ _ z => z⟩, by omega, by omega⟩
          · rw [u1, ← (hO _).2 x u1]
          · obtain ⟨-, g, z, -⟩ := hW1
            exact ⟨_, _, _, z⟩
        · cases u2
          have hu := tx_kO.up (a := aw) hO u1
          have hf9 := tx_fd_up C aw (tx_tx (tx_at n f) p (tx_q n (tx_at n f) p)) 19 (tx_tx (tx_at n f) p (tx_q n (tx_at n f) p))
          rw [if_pos rfl] at hf9
          have hga : G.1 aw = none := by
            cases hG0 : G.1 aw with
            | none => rfl
            | some e => rw [q2 _ _ hG0] at u3; cases u3
          exact ⟨aw, _, rfl, u5, hu.1, ⟨hu.2, tx_nw.up hga⟩, by rw [hf9, ← (hu.1 _).2 _ hf9], u4, by omega, by omega⟩
      refine ⟨aw, C2, s1, s2, s3, s4, s5, s6, ?_, s7, s8, trivial⟩
      obtain ⟨-, g, -, z⟩ := s2
      exact tx_cn.in _ _ (z _ (tx_hi_lt (tx_tx (tx_at n f) p (tx_q n (tx_at n f) p)))) _ (List.mem_of_find?_eq_some s5)
    subst s0
    show cx_V E _ _ [.ref aw] G2
    obtain ⟨nx, tb2, hw1, hw2⟩ := s6
    refine cx_astore_n (i := 3) hE d_Lx_word_49 rfl (by decide) ?_
    refine cx_newh 7 rfl hE d_Lx_word_50 z_Lx_32 (by omega) (by omega) (fun a_50 G_50 n_50 b_50 g_50 h_50 => ?_)
    have hw50 := cx_mn g_50 n_50 hw1
    refine cx_dup hE d_Lx_word_53 ?_
    refine cx_aload_n (i := 3) hE d_Lx_word_54 rfl rfl ?_
    refine cx_get hE d_Lx_word_55 f_Lx_91 (by assumption) (by rfl) ?_
    refine cx_iload_n (i := 1) hE d_Lx_word_58 rfl rfl ?_
    refine cx_iload_n (i := 2) hE d_Lx_word_59 rfl rfl ?_
    refine cx_invI0 hE d_Lx_word_60 l_Lx_61 (c_To_init h_50) rfl (by omega) (Nat.le_of_ble_eq_true rfl) n_To_init (by first | rfl | (simp only [List.map_cons, List.map_nil, cx_rfc]; rfl)) ?_
    refine cx_gen (fun G_60 g_60 => ?_)
    have h_60 := cx_ps g_60
    refine cx_astore hE d_Lx_word_63 (by decide) ?_
    refine cx_aload hE d_Lx_word_65 rfl ?_
    refine cx_aload_n (i := 3) hE d_Lx_word_67 rfl rfl ?_
    refine cx_putg hE d_Lx_word_68 f_Lx_94 (by assumption) (Nat.le_of_ble_eq_true rfl) (by first | rfl | exact cx_nr _ _) (by first | rfl | exact cx_fr _ _) (fun G_68 g_68 h_68 => ?_)
    refine cx_aload hE d_Lx_word_71 rfl ?_
    refine cx_aret (r := some a_50) hE d_Lx_word_73 rfl (by first | exact Or.inl ⟨_, rfl⟩ | exact Or.inr ⟨_, rfl⟩) ?_
    have e1 : cx_ext G2 G_68 := by
      subst g_68 g_60 g_50
      simp only [cx_mp]
      exact cx_ext.mk n_50
    refine ⟨a_50, some aw, C2, rfl, ?_, ⟨?_, fun b e z1 z2 => ?_⟩, s1.ext e1, s2, s3, ?_, ⟨fun z => (by cases z), fun T z => ?_⟩, ?_, ?_⟩
    · cases hG0 : G.1 a_50 with
      | none => rfl
      | some e =>
        by_cases z : a_50 = ca
        · obtain ⟨-, g, z1, -⟩ := s1
          rw [← z, n_50] at z1
          cases z1
        · have z2 := s5.2 _ _ z (q2 _ _ hG0)
          rw [n_50] at z2
          cases z2
    · obtain ⟨-, g, z, -⟩ := hW
      exact ⟨_, _, _, z⟩
    · exact e1 _ _ (s5.2 b e z1 (q2 b e z2))
    · exact h_68
    · cases z
      exact ⟨_, s4, rfl⟩
    · subst g_68 g_60 g_50
      show G2.2.1 + 1 ≤ _
      omega
    · subst g_68 g_60 g_50
      show G2.2.2 + 7 ≤ G.2.2 + 14 + (tx_q n (tx_at n f) p - p)
      omega
  have hloop : ∀ (d i : Nat), n - i = d → i ≤ n → p ≤ i → tx_e (tx_nP n (tx_at n f)) i = tx_q n (tx_at n f) p → cx_V E 2 [(2, false, .int (nI (i))), (0, false, .ref lx), (1, false, .int (nI p))] [] G := by
    intro d
    induction d using Nat.strongRecOn with
    | ind d ih =>
      intro i hd hi hpi hr
      have hstop : ¬ tx_nP n (tx_at n f) i → cx_V E 33 [(2, false, .int (nI (i))), (0, false, .ref lx), (1, false, .int (nI p))] [] G := fun hz => by
        have e9 := tx_e_stop hz
        rw [hr] at e9
        rw [← e9]
        exact hend
      refine cx_iload_n (i := 2) hE d_Lx_word_2 rfl rfl ?_
      refine cx_aload_n (i := 0) hE d_Lx_word_3 rfl rfl ?_
      refine cx_get hE d_Lx_word_4 f_Lx_18 (by assumption) (by rfl) ?_
      refine cx_get hE d_Lx_word_7 f_Lx_58 (by assumption) (by rfl) ?_
      refine cx_icmp_ge (tgt := 33)  hE d_Lx_word_10 (by decide) (fun c_10 => ?_) (fun c_10 => ?_)
      · have q_10 := nJ_le (by omega) c_10
        refine cx_sub [0, 1, 2] rfl ?_
        exact hstop (fun z => by first | exact absurd z.1 (by omega) | exact absurd (z.2.symm.trans q_24) (by decide))
      · have q_10 := nJ_lt (by omega) c_10
        refine cx_aload_n (i := 0) hE d_Lx_word_13 rfl rfl ?_
        refine cx_get hE d_Lx_word_14 f_Lx_18 (by assumption) (by rfl) ?_
        refine cx_iload_n (i := 2) hE d_Lx_word_17 rfl rfl ?_
        refine cx_invV1 hE d_Lx_word_18 l_Lx_47 (by assumption) (c_Ta_byteAt (p := i) hT (by omega)) rfl (by omega) (Nat.le_of_ble_eq_true rfl) n_Ta_byteAt (by first | rfl | (simp only [List.map_cons, List.map_nil, cx_rfc]; rfl)) ?_
        refine cx_invS1 hE d_Lx_word_21 l_Lx_80 (c_Lx_goesOn _) rfl (by omega) (Nat.le_of_ble_eq_true rfl) n_Lx_goesOn (by first | rfl | (simp only [List.map_cons, List.map_nil, cx_rfc]; rfl)) ?_
        refine cx_if_eq (tgt := 33)  hE d_Lx_word_24 (by decide) (fun c_24 => ?_) (fun c_24 => ?_)
        · have q_24 := cx_b0.mp (by simpa using c_24)
          refine cx_sub [0, 1, 2] rfl ?_
          exact hstop (fun z => by first | exact absurd z.1 (by omega) | exact absurd (z.2.symm.trans q_24) (by decide))
        · have q_24 := cx_bn.mp c_24
          refine cx_iinc (v := nI (i + 1)) hE d_Lx_word_27 rfl (nI_1 _) (by decide) ?_
          refine cx_goto (tgt := 2) hE d_Lx_word_30 (by decide) ?_
          refine cx_sub [0, 1, 2] rfl ?_
          exact ih (n - (i + 1)) (by omega) (i + 1) rfl (by omega) (by omega) (by rw [← hr]; exact (tx_e_step tx_nP_n ⟨q_10, q_24⟩).symm)
  refine cx_iload_n (i := 1) hE d_Lx_word_0 rfl rfl ?_
  refine cx_istore_n (i := 2) hE d_Lx_word_1 rfl (by decide) ?_
  refine cx_sub [0, 1, 2] rfl ?_
  exact hloop (n - p) p rfl (by omega) (Nat.le_refl _) rfl

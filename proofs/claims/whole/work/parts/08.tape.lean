/-! TAPE, VERDICT, and the lexer's questions about one byte. -/
abbrev m_Ve_check : cx_M := (⟨"CircuitText$Verdict", "check", "(ZII)V"⟩, prog_10_method_2_code, 4, (Option.none : Option Jvm.ClassFile.FieldType), [], [false, false, false, false])
theorem w_Ve_check : cx_W m_Ve_check := ⟨Or.inl ⟨(in_4 (List.mem_of_getElem? (i := 102) rfl)), rfl⟩, by decide +kernel, by decide, by decide, by decide +kernel⟩
theorem n_Ve_check : (parseMethodDescriptor m_Ve_check.1.desc).map (fun d => d.parameters.length) = some 3 := by decide +kernel
theorem d_Ve_check_0 : decode prog_10_method_2_code 0 = .ok (.iload_n 1, 1) := by decide +kernel
theorem d_Ve_check_1 : decode prog_10_method_2_code 1 = .ok (.ifCond .ne 20, 3) := by decide +kernel
theorem d_Ve_check_4 : decode prog_10_method_2_code 4 = .ok (.aload_n 0, 1) := by decide +kernel
theorem d_Ve_check_5 : decode prog_10_method_2_code 5 = .ok (.getfield 9, 3) := by decide +kernel
theorem d_Ve_check_8 : decode prog_10_method_2_code 8 = .ok (.ifCond .ne 13, 3) := by decide +kernel
theorem d_Ve_check_11 : decode prog_10_method_2_code 11 = .ok (.aload_n 0, 1) := by decide +kernel
theorem d_Ve_check_12 : decode prog_10_method_2_code 12 = .ok (.iload_n 2, 1) := by decide +kernel
theorem d_Ve_check_13 : decode prog_10_method_2_code 13 = .ok (.putfield 9, 3) := by decide +kernel
theorem d_Ve_check_16 : decode prog_10_method_2_code 16 = .ok (.aload_n 0, 1) := by decide +kernel
theorem d_Ve_check_17 : decode prog_10_method_2_code 17 = .ok (.iload_n 3, 1) := by decide +kernel
theorem d_Ve_check_18 : decode prog_10_method_2_code 18 = .ok (.putfield 15, 3) := by decide +kernel
theorem d_Ve_check_21 : decode prog_10_method_2_code 21 = .ok (.return_, 1) := by decide +kernel
theorem f_Ve_9 : cx_F "CircuitText$Verdict" 9 9 0 (.int) false := ⟨_, F_Ve, 2, t_Ve, k_Ve, by decide, rfl, rfl, Or.inl (in_1 (List.mem_of_getElem? (i := 108) rfl))⟩
theorem f_Ve_15 : cx_F "CircuitText$Verdict" 15 9 1 (.int) false := ⟨_, F_Ve, 2, t_Ve, k_Ve, by decide, rfl, rfl, Or.inl (in_1 (List.mem_of_getElem? (i := 111) rfl))⟩
abbrev m_Ta_byteAt : cx_M := (⟨"CircuitText$Tape", "byteAt", "(I)I"⟩, prog_7_method_3_code, 2, (Option.some Jvm.ClassFile.FieldType.int), [], [false, false])
theorem w_Ta_byteAt : cx_W m_Ta_byteAt := ⟨Or.inl ⟨(in_2 (List.mem_of_getElem? (i := 133) rfl)), rfl⟩, by decide +kernel, by decide, by decide, by decide +kernel⟩
theorem n_Ta_byteAt : (parseMethodDescriptor m_Ta_byteAt.1.desc).map (fun d => d.parameters.length) = some 1 := by decide +kernel
theorem d_Ta_byteAt_0 : decode prog_7_method_3_code 0 = .ok (.iload_n 1, 1) := by decide +kernel
theorem d_Ta_byteAt_1 : decode prog_7_method_3_code 1 = .ok (.ifCond .lt 33, 3) := by decide +kernel
theorem d_Ta_byteAt_4 : decode prog_7_method_3_code 4 = .ok (.iload_n 1, 1) := by decide +kernel
theorem d_Ta_byteAt_5 : decode prog_7_method_3_code 5 = .ok (.aload_n 0, 1) := by decide +kernel
theorem d_Ta_byteAt_6 : decode prog_7_method_3_code 6 = .ok (.getfield 15, 3) := by decide +kernel
theorem d_Ta_byteAt_9 : decode prog_7_method_3_code 9 = .ok (.if_icmp .ge 25, 3) := by decide +kernel
theorem d_Ta_byteAt_12 : decode prog_7_method_3_code 12 = .ok (.iload_n 1, 1) := by decide +kernel
theorem d_Ta_byteAt_13 : decode prog_7_method_3_code 13 = .ok (.aload_n 0, 1) := by decide +kernel
theorem d_Ta_byteAt_14 : decode prog_7_method_3_code 14 = .ok (.getfield 9, 3) := by decide +kernel
theorem d_Ta_byteAt_17 : decode prog_7_method_3_code 17 = .ok (.arraylength, 1) := by decide +kernel
theorem d_Ta_byteAt_18 : decode prog_7_method_3_code 18 = .ok (.if_icmp .ge 16, 3) := by decide +kernel
theorem d_Ta_byteAt_21 : decode prog_7_method_3_code 21 = .ok (.aload_n 0, 1) := by decide +kernel
theorem d_Ta_byteAt_22 : decode prog_7_method_3_code 22 = .ok (.getfield 9, 3) := by decide +kernel
theorem d_Ta_byteAt_25 : decode prog_7_method_3_code 25 = .ok (.iload_n 1, 1) := by decide +kernel
theorem d_Ta_byteAt_26 : decode prog_7_method_3_code 26 = .ok (.baload, 1) := by decide +kernel
theorem d_Ta_byteAt_27 : decode prog_7_method_3_code 27 = .ok (.sipush 255, 3) := by decide +kernel
theorem d_Ta_byteAt_30 : decode prog_7_method_3_code 30 = .ok (.iand, 1) := by decide +kernel
theorem d_Ta_byteAt_31 : decode prog_7_method_3_code 31 = .ok (.goto 4, 3) := by decide +kernel
theorem d_Ta_byteAt_34 : decode prog_7_method_3_code 34 = .ok (.iconst (-1), 1) := by decide +kernel
theorem d_Ta_byteAt_35 : decode prog_7_method_3_code 35 = .ok (.ireturn, 1) := by decide +kernel
theorem f_Ta_15 : cx_F "CircuitText$Tape" 15 6 1 (.int) false := ⟨_, F_Ta, 2, t_Ta, k_Ta, by decide, rfl, rfl, Or.inl (in_1 (List.mem_of_getElem? (i := 52) rfl))⟩
theorem f_Ta_9 : cx_F "CircuitText$Tape" 9 6 0 (.array .byte) false := ⟨_, F_Ta, 2, t_Ta, k_Ta, by decide, rfl, rfl, Or.inl (in_1 (List.mem_of_getElem? (i := 51) rfl))⟩
abbrev m_Lx_isDigit : cx_M := (⟨"CircuitText$Lexer", "isDigit", "(I)Z"⟩, prog_3_method_16_code, 1, (Option.some Jvm.ClassFile.FieldType.boolean), [], [false])
theorem w_Lx_isDigit : cx_W m_Lx_isDigit := ⟨Or.inl ⟨(in_2 (List.mem_of_getElem? (i := 150) rfl)), rfl⟩, by decide +kernel, by decide, by decide, by decide +kernel⟩
theorem n_Lx_isDigit : (parseMethodDescriptor m_Lx_isDigit.1.desc).map (fun d => d.parameters.length) = some 1 := by decide +kernel
theorem d_Lx_isDigit_0 : decode prog_3_method_16_code 0 = .ok (.iload_n 0, 1) := by decide +kernel
theorem d_Lx_isDigit_1 : decode prog_3_method_16_code 1 = .ok (.bipush 48, 2) := by decide +kernel
theorem d_Lx_isDigit_3 : decode prog_3_method_16_code 3 = .ok (.if_icmp .lt 13, 3) := by decide +kernel
theorem d_Lx_isDigit_6 : decode prog_3_method_16_code 6 = .ok (.iload_n 0, 1) := by decide +kernel
theorem d_Lx_isDigit_7 : decode prog_3_method_16_code 7 = .ok (.bipush 57, 2) := by decide +kernel
theorem d_Lx_isDigit_9 : decode prog_3_method_16_code 9 = .ok (.if_icmp .gt 7, 3) := by decide +kernel
theorem d_Lx_isDigit_12 : decode prog_3_method_16_code 12 = .ok (.iconst 1, 1) := by decide +kernel
theorem d_Lx_isDigit_13 : decode prog_3_method_16_code 13 = .ok (.goto 4, 3) := by decide +kernel
theorem d_Lx_isDigit_16 : decode prog_3_method_16_code 16 = .ok (.iconst 0, 1) := by decide +kernel
theorem d_Lx_isDigit_17 : decode prog_3_method_16_code 17 = .ok (.ireturn, 1) := by decide +kernel
abbrev m_Lx_isLetter : cx_M := (⟨"CircuitText$Lexer", "isLetter", "(I)Z"⟩, prog_3_method_17_code, 1, (Option.some Jvm.ClassFile.FieldType.boolean), [], [false])
theorem w_Lx_isLetter : cx_W m_Lx_isLetter := ⟨Or.inl ⟨(in_2 (List.mem_of_getElem? (i := 160) rfl)), rfl⟩, by decide +kernel, by decide, by decide, by decide +kernel⟩
theorem n_Lx_isLetter : (parseMethodDescriptor m_Lx_isLetter.1.desc).map (fun d => d.parameters.length) = some 1 := by decide +kernel
theorem d_Lx_isLetter_0 : decode prog_3_method_17_code 0 = .ok (.iload_n 0, 1) := by decide +kernel
theorem d_Lx_isLetter_1 : decode prog_3_method_17_code 1 = .ok (.bipush 97, 2) := by decide +kernel
theorem d_Lx_isLetter_3 : decode prog_3_method_17_code 3 = .ok (.if_icmp .lt 9, 3) := by decide +kernel
theorem d_Lx_isLetter_6 : decode prog_3_method_17_code 6 = .ok (.iload_n 0, 1) := by decide +kernel
theorem d_Lx_isLetter_7 : decode prog_3_method_17_code 7 = .ok (.bipush 122, 2) := by decide +kernel
theorem d_Lx_isLetter_9 : decode prog_3_method_17_code 9 = .ok (.if_icmp .le 15, 3) := by decide +kernel
theorem d_Lx_isLetter_12 : decode prog_3_method_17_code 12 = .ok (.iload_n 0, 1) := by decide +kernel
theorem d_Lx_isLetter_13 : decode prog_3_method_17_code 13 = .ok (.bipush 65, 2) := by decide +kernel
theorem d_Lx_isLetter_15 : decode prog_3_method_17_code 15 = .ok (.if_icmp .lt 13, 3) := by decide +kernel
theorem d_Lx_isLetter_18 : decode prog_3_method_17_code 18 = .ok (.iload_n 0, 1) := by decide +kernel
theorem d_Lx_isLetter_19 : decode prog_3_method_17_code 19 = .ok (.bipush 90, 2) := by decide +kernel
theorem d_Lx_isLetter_21 : decode prog_3_method_17_code 21 = .ok (.if_icmp .gt 7, 3) := by decide +kernel
theorem d_Lx_isLetter_24 : decode prog_3_method_17_code 24 = .ok (.iconst 1, 1) := by decide +kernel
theorem d_Lx_isLetter_25 : decode prog_3_method_17_code 25 = .ok (.goto 4, 3) := by decide +kernel
theorem d_Lx_isLetter_28 : decode prog_3_method_17_code 28 = .ok (.iconst 0, 1) := by decide +kernel
theorem d_Lx_isLetter_29 : decode prog_3_method_17_code 29 = .ok (.ireturn, 1) := by decide +kernel
abbrev m_Lx_goesOn : cx_M := (⟨"CircuitText$Lexer", "goesOn", "(I)Z"⟩, prog_3_method_18_code, 1, (Option.some Jvm.ClassFile.FieldType.boolean), [], [false])
theorem w_Lx_goesOn : cx_W m_Lx_goesOn := ⟨Or.inl ⟨(in_2 (List.mem_of_getElem? (i := 157) rfl)), rfl⟩, by decide +kernel, by decide, by decide, by decide +kernel⟩
theorem n_Lx_goesOn : (parseMethodDescriptor m_Lx_goesOn.1.desc).map (fun d => d.parameters.length) = some 1 := by decide +kernel
theorem d_Lx_goesOn_0 : decode prog_3_method_18_code 0 = .ok (.iload_n 0, 1) := by decide +kernel
theorem d_Lx_goesOn_1 : decode prog_3_method_18_code 1 = .ok (.invokestatic 71, 3) := by decide +kernel
theorem d_Lx_goesOn_4 : decode prog_3_method_18_code 4 = .ok (.ifCond .ne 22, 3) := by decide +kernel
theorem d_Lx_goesOn_7 : decode prog_3_method_18_code 7 = .ok (.iload_n 0, 1) := by decide +kernel
theorem d_Lx_goesOn_8 : decode prog_3_method_18_code 8 = .ok (.invokestatic 64, 3) := by decide +kernel
theorem d_Lx_goesOn_11 : decode prog_3_method_18_code 11 = .ok (.ifCond .ne 15, 3) := by decide +kernel
theorem d_Lx_goesOn_14 : decode prog_3_method_18_code 14 = .ok (.iload_n 0, 1) := by decide +kernel
theorem d_Lx_goesOn_15 : decode prog_3_method_18_code 15 = .ok (.bipush 95, 2) := by decide +kernel
theorem d_Lx_goesOn_17 : decode prog_3_method_18_code 17 = .ok (.if_icmp .eq 9, 3) := by decide +kernel
theorem d_Lx_goesOn_20 : decode prog_3_method_18_code 20 = .ok (.iload_n 0, 1) := by decide +kernel
theorem d_Lx_goesOn_21 : decode prog_3_method_18_code 21 = .ok (.bipush 36, 2) := by decide +kernel
theorem d_Lx_goesOn_23 : decode prog_3_method_18_code 23 = .ok (.if_icmp .ne 7, 3) := by decide +kernel
theorem d_Lx_goesOn_26 : decode prog_3_method_18_code 26 = .ok (.iconst 1, 1) := by decide +kernel
theorem d_Lx_goesOn_27 : decode prog_3_method_18_code 27 = .ok (.goto 4, 3) := by decide +kernel
theorem d_Lx_goesOn_30 : decode prog_3_method_18_code 30 = .ok (.iconst 0, 1) := by decide +kernel
theorem d_Lx_goesOn_31 : decode prog_3_method_18_code 31 = .ok (.ireturn, 1) := by decide +kernel
abbrev m_Lx_baseOf : cx_M := (⟨"CircuitText$Lexer", "baseOf", "(I)I"⟩, prog_3_method_14_code, 1, (Option.some Jvm.ClassFile.FieldType.int), [], [false])
theorem w_Lx_baseOf : cx_W m_Lx_baseOf := ⟨Or.inl ⟨(in_2 (List.mem_of_getElem? (i := 179) rfl)), rfl⟩, by decide +kernel, by decide, by decide, by decide +kernel⟩
theorem n_Lx_baseOf : (parseMethodDescriptor m_Lx_baseOf.1.desc).map (fun d => d.parameters.length) = some 1 := by decide +kernel
theorem d_Lx_baseOf_0 : decode prog_3_method_14_code 0 = .ok (.iload_n 0, 1) := by decide +kernel
theorem d_Lx_baseOf_1 : decode prog_3_method_14_code 1 = .ok (.lookupswitch 54 #[(98, 43), (100, 48), (104, 51), (111, 45)], 43) := by decide +kernel
theorem d_Lx_baseOf_44 : decode prog_3_method_14_code 44 = .ok (.iconst 2, 1) := by decide +kernel
theorem d_Lx_baseOf_45 : decode prog_3_method_14_code 45 = .ok (.ireturn, 1) := by decide +kernel
theorem d_Lx_baseOf_46 : decode prog_3_method_14_code 46 = .ok (.bipush 8, 2) := by decide +kernel
theorem d_Lx_baseOf_48 : decode prog_3_method_14_code 48 = .ok (.ireturn, 1) := by decide +kernel
theorem d_Lx_baseOf_49 : decode prog_3_method_14_code 49 = .ok (.bipush 10, 2) := by decide +kernel
theorem d_Lx_baseOf_51 : decode prog_3_method_14_code 51 = .ok (.ireturn, 1) := by decide +kernel
theorem d_Lx_baseOf_52 : decode prog_3_method_14_code 52 = .ok (.bipush 16, 2) := by decide +kernel
theorem d_Lx_baseOf_54 : decode prog_3_method_14_code 54 = .ok (.ireturn, 1) := by decide +kernel
theorem d_Lx_baseOf_55 : decode prog_3_method_14_code 55 = .ok (.iconst 0, 1) := by decide +kernel
theorem d_Lx_baseOf_56 : decode prog_3_method_14_code 56 = .ok (.ireturn, 1) := by decide +kernel
abbrev m_Lx_digitOf : cx_M := (⟨"CircuitText$Lexer", "digitOf", "(I)I"⟩, prog_3_method_15_code, 1, (Option.some Jvm.ClassFile.FieldType.int), [], [false])
theorem w_Lx_digitOf : cx_W m_Lx_digitOf := ⟨Or.inl ⟨(in_2 (List.mem_of_getElem? (i := 182) rfl)), rfl⟩, by decide +kernel, by decide, by decide, by decide +kernel⟩
theorem n_Lx_digitOf : (parseMethodDescriptor m_Lx_digitOf.1.desc).map (fun d => d.parameters.length) = some 1 := by decide +kernel
theorem d_Lx_digitOf_0 : decode prog_3_method_15_code 0 = .ok (.iload_n 0, 1) := by decide +kernel
theorem d_Lx_digitOf_1 : decode prog_3_method_15_code 1 = .ok (.invokestatic 64, 3) := by decide +kernel
theorem d_Lx_digitOf_4 : decode prog_3_method_15_code 4 = .ok (.ifCond .eq 8, 3) := by decide +kernel
theorem d_Lx_digitOf_7 : decode prog_3_method_15_code 7 = .ok (.iload_n 0, 1) := by decide +kernel
theorem d_Lx_digitOf_8 : decode prog_3_method_15_code 8 = .ok (.bipush 48, 2) := by decide +kernel
theorem d_Lx_digitOf_10 : decode prog_3_method_15_code 10 = .ok (.isub, 1) := by decide +kernel
theorem d_Lx_digitOf_11 : decode prog_3_method_15_code 11 = .ok (.ireturn, 1) := by decide +kernel
theorem d_Lx_digitOf_12 : decode prog_3_method_15_code 12 = .ok (.iload_n 0, 1) := by decide +kernel
theorem d_Lx_digitOf_13 : decode prog_3_method_15_code 13 = .ok (.bipush 97, 2) := by decide +kernel
theorem d_Lx_digitOf_15 : decode prog_3_method_15_code 15 = .ok (.if_icmp .lt 17, 3) := by decide +kernel
theorem d_Lx_digitOf_18 : decode prog_3_method_15_code 18 = .ok (.iload_n 0, 1) := by decide +kernel
theorem d_Lx_digitOf_19 : decode prog_3_method_15_code 19 = .ok (.bipush 102, 2) := by decide +kernel
theorem d_Lx_digitOf_21 : decode prog_3_method_15_code 21 = .ok (.if_icmp .gt 11, 3) := by decide +kernel
theorem d_Lx_digitOf_24 : decode prog_3_method_15_code 24 = .ok (.iload_n 0, 1) := by decide +kernel
theorem d_Lx_digitOf_25 : decode prog_3_method_15_code 25 = .ok (.bipush 97, 2) := by decide +kernel
theorem d_Lx_digitOf_27 : decode prog_3_method_15_code 27 = .ok (.isub, 1) := by decide +kernel
theorem d_Lx_digitOf_28 : decode prog_3_method_15_code 28 = .ok (.bipush 10, 2) := by decide +kernel
theorem d_Lx_digitOf_30 : decode prog_3_method_15_code 30 = .ok (.iadd, 1) := by decide +kernel
theorem d_Lx_digitOf_31 : decode prog_3_method_15_code 31 = .ok (.ireturn, 1) := by decide +kernel
theorem d_Lx_digitOf_32 : decode prog_3_method_15_code 32 = .ok (.iload_n 0, 1) := by decide +kernel
theorem d_Lx_digitOf_33 : decode prog_3_method_15_code 33 = .ok (.bipush 65, 2) := by decide +kernel
theorem d_Lx_digitOf_35 : decode prog_3_method_15_code 35 = .ok (.if_icmp .lt 19, 3) := by decide +kernel
theorem d_Lx_digitOf_38 : decode prog_3_method_15_code 38 = .ok (.iload_n 0, 1) := by decide +kernel
theorem d_Lx_digitOf_39 : decode prog_3_method_15_code 39 = .ok (.bipush 70, 2) := by decide +kernel
theorem d_Lx_digitOf_41 : decode prog_3_method_15_code 41 = .ok (.if_icmp .gt 13, 3) := by decide +kernel
theorem d_Lx_digitOf_44 : decode prog_3_method_15_code 44 = .ok (.iload_n 0, 1) := by decide +kernel
theorem d_Lx_digitOf_45 : decode prog_3_method_15_code 45 = .ok (.bipush 65, 2) := by decide +kernel
theorem d_Lx_digitOf_47 : decode prog_3_method_15_code 47 = .ok (.isub, 1) := by decide +kernel
theorem d_Lx_digitOf_48 : decode prog_3_method_15_code 48 = .ok (.bipush 10, 2) := by decide +kernel
theorem d_Lx_digitOf_50 : decode prog_3_method_15_code 50 = .ok (.iadd, 1) := by decide +kernel
theorem d_Lx_digitOf_51 : decode prog_3_method_15_code 51 = .ok (.goto 4, 3) := by decide +kernel
theorem d_Lx_digitOf_54 : decode prog_3_method_15_code 54 = .ok (.iconst (-1), 1) := by decide +kernel
theorem d_Lx_digitOf_55 : decode prog_3_method_15_code 55 = .ok (.ireturn, 1) := by decide +kernel
theorem l_Lx_71 : cx_LS "CircuitText$Lexer" 71 m_Lx_isLetter := ⟨Or.inl (in_2 (List.mem_of_getElem? (i := 158) rfl)), w_Lx_isLetter, (in_2 (List.mem_of_getElem? (i := 159) rfl)), (in_1 (List.mem_of_getElem? (i := 19) rfl))⟩
theorem l_Lx_64 : cx_LS "CircuitText$Lexer" 64 m_Lx_isDigit := ⟨Or.inl (in_2 (List.mem_of_getElem? (i := 148) rfl)), w_Lx_isDigit, (in_2 (List.mem_of_getElem? (i := 149) rfl)), (in_1 (List.mem_of_getElem? (i := 19) rfl))⟩
/-- a truth as an int -/
def cx_b (b : Bool) : Int32 := match b with | true => 1 | false => 0
theorem cx_b0 {b : Bool} : cx_b b = 0 ↔ b = false := by cases b <;> decide
theorem cx_bn {b : Bool} : ¬ cx_b b = 0 ↔ b = true := by cases b <;> decide
theorem cx_bz (b : Bool) : narrow .boolean (.int (cx_b b)) = .int (cx_b b) := by cases b <;> rfl
def tx_dig (c : Int32) : Bool := decide (48 ≤ c.toInt ∧ c.toInt ≤ 57)
def tx_let (c : Int32) : Bool := decide (97 ≤ c.toInt ∧ c.toInt ≤ 122 ∨ 65 ≤ c.toInt ∧ c.toInt ≤ 90)
def tx_on (c : Int32) : Bool := tx_let c || tx_dig c || decide (c = 95) || decide (c = 36)
def tx_base (c : Int32) : Int32 := if c = 98 then 2 else if c = 111 then 8 else if c = 100 then 10 else if c = 104 then 16 else 0
def tx_hex (c : Int32) : Int32 := if tx_dig c then c - 48 else if 97 ≤ c.toInt ∧ c.toInt ≤ 102 then c - 97 + 10 else if 65 ≤ c.toInt ∧ c.toInt ≤ 70 then c - 65 + 10 else -1
/-- the tape's object at ta: n bytes, which f has -/
def tx_T (k : cx_K) (G : cx_G) (ta n : Nat) (f : Nat → Int32) : Prop := ∃ b cap, G.1 ta = some (.inr (6, [.ref b, .int (nI n)])) ∧ G.1 b = some (.inl (k.2.1 0, cap, .inl f)) ∧ n ≤ cap ∧ cap ≤ 1000000 ∧ ∀ j, fits .byte (.int (f j)) = true
/-- the byte at p, or -1 -/
def tx_at (n : Nat) (f : Nat → Int32) (p : Nat) : Int32 := if p < n then f p &&& 255 else -1
set_option maxRecDepth 100000 in
theorem c_Lx_isDigit {k : cx_K} {l : Launch} {G : cx_G} (c : Int32) : cx_Sp k l m_Lx_isDigit 0 [.int c] G (cx_rd (some (.int (cx_b (tx_dig c)))) G) := by
  intro E hE
  refine cx_iload_n (i := 0) hE d_Lx_isDigit_0 rfl rfl ?_
  refine cx_bipush (v := 48) hE d_Lx_isDigit_1 (by decide) ?_
  refine cx_icmp_lt (tgt := 16) hE d_Lx_isDigit_3 (by decide) (fun c_3 => ?_) (fun c_3 => ?_)
  · refine cx_iconst (v := 0) hE d_Lx_isDigit_16 (by decide) ?_
    refine cx_iret hE d_Lx_isDigit_17 rfl rfl ?_
    clear hE
    refine ⟨?_, rfl⟩
    simp only [Int32.lt_iff_toInt_lt, Int32.le_iff_toInt_le, Int32.reduceToInt] at *
    first
      | (rw [show tx_dig c = true from decide_eq_true (by omega)]; rfl)
      | (rw [show tx_dig c = false from decide_eq_false (by omega)]; rfl)
  · refine cx_iload_n (i := 0) hE d_Lx_isDigit_6 rfl rfl ?_
    refine cx_bipush (v := 57) hE d_Lx_isDigit_7 (by decide) ?_
    refine cx_icmp_gt (tgt := 16) hE d_Lx_isDigit_9 (by decide) (fun c_9 => ?_) (fun c_9 => ?_)
    · refine cx_iconst (v := 0) hE d_Lx_isDigit_16 (by decide) ?_
      refine cx_iret hE d_Lx_isDigit_17 rfl rfl ?_
      clear hE
      refine ⟨?_, rfl⟩
      simp only [Int32.lt_iff_toInt_lt, Int32.le_iff_toInt_le, Int32.reduceToInt] at *
      first
        | (rw [show tx_dig c = true from decide_eq_true (by omega)]; rfl)
        | (rw [show tx_dig c = false from decide_eq_false (by omega)]; rfl)
    · refine cx_iconst (v := 1) hE d_Lx_isDigit_12 (by decide) ?_
      refine cx_goto (tgt := 17) hE d_Lx_isDigit_13 (by decide) ?_
      refine cx_iret hE d_Lx_isDigit_17 rfl rfl ?_
      clear hE
      refine ⟨?_, rfl⟩
      simp only [Int32.lt_iff_toInt_lt, Int32.le_iff_toInt_le, Int32.reduceToInt] at *
      first
        | (rw [show tx_dig c = true from decide_eq_true (by omega)]; rfl)
        | (rw [show tx_dig c = false from decide_eq_false (by omega)]; rfl)
set_option maxRecDepth 100000 in
theorem c_Lx_isLetter {k : cx_K} {l : Launch} {G : cx_G} (c : Int32) : cx_Sp k l m_Lx_isLetter 0 [.int c] G (cx_rd (some (.int (cx_b (tx_let c)))) G) := by
  intro E hE
  refine cx_iload_n (i := 0) hE d_Lx_isLetter_0 rfl rfl ?_
  refine cx_bipush (v := 97) hE d_Lx_isLetter_1 (by decide) ?_
  refine cx_icmp_lt (tgt := 12) hE d_Lx_isLetter_3 (by decide) (fun c_3 => ?_) (fun c_3 => ?_)
  · refine cx_iload_n (i := 0) hE d_Lx_isLetter_12 rfl rfl ?_
    refine cx_bipush (v := 65) hE d_Lx_isLetter_13 (by decide) ?_
    refine cx_icmp_lt (tgt := 28) hE d_Lx_isLetter_15 (by decide) (fun c_15 => ?_) (fun c_15 => ?_)
    · refine cx_iconst (v := 0) hE d_Lx_isLetter_28 (by decide) ?_
      refine cx_iret hE d_Lx_isLetter_29 rfl rfl ?_
      clear hE
      refine ⟨?_, rfl⟩
      simp only [Int32.lt_iff_toInt_lt, Int32.le_iff_toInt_le, Int32.reduceToInt] at *
      first
        | (rw [show tx_let c = true from decide_eq_true (by omega)]; rfl)
        | (rw [show tx_let c = false from decide_eq_false (by omega)]; rfl)
    · refine cx_iload_n (i := 0) hE d_Lx_isLetter_18 rfl rfl ?_
      refine cx_bipush (v := 90) hE d_Lx_isLetter_19 (by decide) ?_
      refine cx_icmp_gt (tgt := 28) hE d_Lx_isLetter_21 (by decide) (fun c_21 => ?_) (fun c_21 => ?_)
      · refine cx_iconst (v := 0) hE d_Lx_isLetter_28 (by decide) ?_
        refine cx_iret hE d_Lx_isLetter_29 rfl rfl ?_
        clear hE
        refine ⟨?_, rfl⟩
        simp only [Int32.lt_iff_toInt_lt, Int32.le_iff_toInt_le, Int32.reduceToInt] at *
        first
          | (rw [show tx_let c = true from decide_eq_true (by omega)]; rfl)
          | (rw [show tx_let c = false from decide_eq_false (by omega)]; rfl)
      · refine cx_iconst (v := 1) hE d_Lx_isLetter_24 (by decide) ?_
        refine cx_goto (tgt := 29) hE d_Lx_isLetter_25 (by decide) ?_
        refine cx_iret hE d_Lx_isLetter_29 rfl rfl ?_
        clear hE
        refine ⟨?_, rfl⟩
        simp only [Int32.lt_iff_toInt_lt, Int32.le_iff_toInt_le, Int32.reduceToInt] at *
        first
          | (rw [show tx_let c = true from decide_eq_true (by omega)]; rfl)
          | (rw [show tx_let c = false from decide_eq_false (by omega)]; rfl)
  · refine cx_iload_n (i := 0) hE d_Lx_isLetter_6 rfl rfl ?_
    refine cx_bipush (v := 122) hE d_Lx_isLetter_7 (by decide) ?_
    refine cx_icmp_le (tgt := 24) hE d_Lx_isLetter_9 (by decide) (fun c_9 => ?_) (fun c_9 => ?_)
    · refine cx_iconst (v := 1) hE d_Lx_isLetter_24 (by decide) ?_
      refine cx_goto (tgt := 29) hE d_Lx_isLetter_25 (by decide) ?_
      refine cx_iret hE d_Lx_isLetter_29 rfl rfl ?_
      clear hE
      refine ⟨?_, rfl⟩
      simp only [Int32.lt_iff_toInt_lt, Int32.le_iff_toInt_le, Int32.reduceToInt] at *
      first
        | (rw [show tx_let c = true from decide_eq_true (by omega)]; rfl)
        | (rw [show tx_let c = false from decide_eq_false (by omega)]; rfl)
    · refine cx_iload_n (i := 0) hE d_Lx_isLetter_12 rfl rfl ?_
      refine cx_bipush (v := 65) hE d_Lx_isLetter_13 (by decide) ?_
      refine cx_icmp_lt (tgt := 28) hE d_Lx_isLetter_15 (by decide) (fun c_15 => ?_) (fun c_15 => ?_)
      · refine cx_iconst (v := 0) hE d_Lx_isLetter_28 (by decide) ?_
        refine cx_iret hE d_Lx_isLetter_29 rfl rfl ?_
        clear hE
        refine ⟨?_, rfl⟩
        simp only [Int32.lt_iff_toInt_lt, Int32.le_iff_toInt_le, Int32.reduceToInt] at *
        first
          | (rw [show tx_let c = true from decide_eq_true (by omega)]; rfl)
          | (rw [show tx_let c = false from decide_eq_false (by omega)]; rfl)
      · refine cx_iload_n (i := 0) hE d_Lx_isLetter_18 rfl rfl ?_
        refine cx_bipush (v := 90) hE d_Lx_isLetter_19 (by decide) ?_
        refine cx_icmp_gt (tgt := 28) hE d_Lx_isLetter_21 (by decide) (fun c_21 => ?_) (fun c_21 => ?_)
        · refine cx_iconst (v := 0) hE d_Lx_isLetter_28 (by decide) ?_
          refine cx_iret hE d_Lx_isLetter_29 rfl rfl ?_
          clear hE
          refine ⟨?_, rfl⟩
          simp only [Int32.lt_iff_toInt_lt, Int32.le_iff_toInt_le, Int32.reduceToInt] at *
          first
            | (rw [show tx_let c = true from decide_eq_true (by omega)]; rfl)
            | (rw [show tx_let c = false from decide_eq_false (by omega)]; rfl)
        · refine cx_iconst (v := 1) hE d_Lx_isLetter_24 (by decide) ?_
          refine cx_goto (tgt := 29) hE d_Lx_isLetter_25 (by decide) ?_
          refine cx_iret hE d_Lx_isLetter_29 rfl rfl ?_
          clear hE
          refine ⟨?_, rfl⟩
          simp only [Int32.lt_iff_toInt_lt, Int32.le_iff_toInt_le, Int32.reduceToInt] at *
          first
            | (rw [show tx_let c = true from decide_eq_true (by omega)]; rfl)
            | (rw [show tx_let c = false from decide_eq_false (by omega)]; rfl)
set_option maxRecDepth 100000 in
theorem c_Lx_goesOn {k : cx_K} {l : Launch} {G : cx_G} (c : Int32) : cx_Sp k l m_Lx_goesOn 1 [.int c] G (cx_rd (some (.int (cx_b (tx_on c)))) G) := by
  intro E hE
  refine cx_iload_n (i := 0) hE d_Lx_goesOn_0 rfl rfl ?_
  refine cx_invS1 hE d_Lx_goesOn_1 l_Lx_71 (c_Lx_isLetter c) rfl (by omega) (Nat.le_of_ble_eq_true rfl) n_Lx_isLetter (by first | rfl | (simp only [List.map_cons, List.map_nil, cx_rfc]; rfl)) ?_
  refine cx_if_ne (tgt := 26) hE d_Lx_goesOn_4 (by decide) (fun c_4 => ?_) (fun c_4 => ?_)
  · refine cx_iconst (v := 1) hE d_Lx_goesOn_26 (by decide) ?_
    refine cx_goto (tgt := 31) hE d_Lx_goesOn_27 (by decide) ?_
    refine cx_iret hE d_Lx_goesOn_31 rfl rfl ?_
    clear hE
    refine ⟨?_, rfl⟩
    simp only [cx_b0, Bool.not_eq_false] at *
    simp [tx_on, cx_b, *]
  · refine cx_iload_n (i := 0) hE d_Lx_goesOn_7 rfl rfl ?_
    refine cx_invS1 hE d_Lx_goesOn_8 l_Lx_64 (c_Lx_isDigit c) rfl (by omega) (Nat.le_of_ble_eq_true rfl) n_Lx_isDigit (by first | rfl | (simp only [List.map_cons, List.map_nil, cx_rfc]; rfl)) ?_
    refine cx_if_ne (tgt := 26) hE d_Lx_goesOn_11 (by decide) (fun c_11 => ?_) (fun c_11 => ?_)
    · refine cx_iconst (v := 1) hE d_Lx_goesOn_26 (by decide) ?_
      refine cx_goto (tgt := 31) hE d_Lx_goesOn_27 (by decide) ?_
      refine cx_iret hE d_Lx_goesOn_31 rfl rfl ?_
      clear hE
      refine ⟨?_, rfl⟩
      simp only [cx_b0, Bool.not_eq_false] at *
      simp [tx_on, cx_b, *]
    · refine cx_iload_n (i := 0) hE d_Lx_goesOn_14 rfl rfl ?_
      refine cx_bipush (v := 95) hE d_Lx_goesOn_15 (by decide) ?_
      refine cx_icmp_eq (tgt := 26) hE d_Lx_goesOn_17 (by decide) (fun c_17 => ?_) (fun c_17 => ?_)
      · refine cx_iconst (v := 1) hE d_Lx_goesOn_26 (by decide) ?_
        refine cx_goto (tgt := 31) hE d_Lx_goesOn_27 (by decide) ?_
        refine cx_iret hE d_Lx_goesOn_31 rfl rfl ?_
        clear hE
        refine ⟨?_, rfl⟩
        simp only [cx_b0, Bool.not_eq_false] at *
        simp [tx_on, cx_b, *]
      · refine cx_iload_n (i := 0) hE d_Lx_goesOn_20 rfl rfl ?_
        refine cx_bipush (v := 36) hE d_Lx_goesOn_21 (by decide) ?_
        refine cx_icmp_ne (tgt := 30) hE d_Lx_goesOn_23 (by decide) (fun c_23 => ?_) (fun c_23 => ?_)
        · refine cx_iconst (v := 0) hE d_Lx_goesOn_30 (by decide) ?_
          refine cx_iret hE d_Lx_goesOn_31 rfl rfl ?_
          clear hE
          refine ⟨?_, rfl⟩
          simp only [cx_b0, Bool.not_eq_false] at *
          simp [tx_on, cx_b, *]
        · refine cx_iconst (v := 1) hE d_Lx_goesOn_26 (by decide) ?_
          refine cx_goto (tgt := 31) hE d_Lx_goesOn_27 (by decide) ?_
          refine cx_iret hE d_Lx_goesOn_31 rfl rfl ?_
          clear hE
          refine ⟨?_, rfl⟩
          simp only [cx_b0, Bool.not_eq_false] at *
          simp [tx_on, cx_b, *]
set_option maxRecDepth 100000 in
theorem c_Lx_baseOf {k : cx_K} {l : Launch} {G : cx_G} (c : Int32) : cx_Sp k l m_Lx_baseOf 0 [.int c] G (cx_rd (some (.int (tx_base c))) G) := by
  intro E hE
  refine cx_iload_n (i := 0) hE d_Lx_baseOf_0 rfl rfl ?_
  by_cases e_1_98 : c = 98
  · refine cx_lookup (tgt := 44) hE d_Lx_baseOf_1 (by decide) (by first | (rw [e_1_98]; done) | (rw [e_1_98]; rfl)) (by decide) ?_
    refine cx_iconst (v := 2) hE d_Lx_baseOf_44 (by decide) ?_
    refine cx_iret hE d_Lx_baseOf_45 rfl rfl ?_
    clear hE
    refine ⟨?_, rfl⟩
    simp [tx_base, *]
  by_cases e_1_100 : c = 100
  · refine cx_lookup (tgt := 49) hE d_Lx_baseOf_1 (by decide) (by first | (rw [e_1_100]; done) | (rw [e_1_100]; rfl)) (by decide) ?_
    refine cx_bipush (v := 10) hE d_Lx_baseOf_49 (by decide) ?_
    refine cx_iret hE d_Lx_baseOf_51 rfl rfl ?_
    clear hE
    refine ⟨?_, rfl⟩
    simp [tx_base, *]
  by_cases e_1_104 : c = 104
  · refine cx_lookup (tgt := 52) hE d_Lx_baseOf_1 (by decide) (by first | (rw [e_1_104]; done) | (rw [e_1_104]; rfl)) (by decide) ?_
    refine cx_bipush (v := 16) hE d_Lx_baseOf_52 (by decide) ?_
    refine cx_iret hE d_Lx_baseOf_54 rfl rfl ?_
    clear hE
    refine ⟨?_, rfl⟩
    simp [tx_base, *]
  by_cases e_1_111 : c = 111
  · refine cx_lookup (tgt := 46) hE d_Lx_baseOf_1 (by decide) (by first | (rw [e_1_111]; done) | (rw [e_1_111]; rfl)) (by decide) ?_
    refine cx_bipush (v := 8) hE d_Lx_baseOf_46 (by decide) ?_
    refine cx_iret hE d_Lx_baseOf_48 rfl rfl ?_
    clear hE
    refine ⟨?_, rfl⟩
    simp [tx_base, *]
  refine cx_lookup (tgt := 55) hE d_Lx_baseOf_1 (by decide) (off := 54) (by show Op.lookupswitch.offset [(98, 43), (100, 48), (104, 51), (111, 45)] 54 _ = _; rw [lv_osw (k := 98) e_1_98 (by decide), lv_osw (k := 100) e_1_100 (by decide), lv_osw (k := 104) e_1_104 (by decide), lv_osw (k := 111) e_1_111 (by decide)]; rfl) (by decide) ?_
  refine cx_iconst (v := 0) hE d_Lx_baseOf_55 (by decide) ?_
  refine cx_iret hE d_Lx_baseOf_56 rfl rfl ?_
  clear hE
  refine ⟨?_, rfl⟩
  simp [tx_base, *]
set_option maxRecDepth 100000 in
theorem c_Lx_digitOf {k : cx_K} {l : Launch} {G : cx_G} (c : Int32) : cx_Sp k l m_Lx_digitOf 1 [.int c] G (cx_rd (some (.int (tx_hex c))) G) := by
  intro E hE
  refine cx_iload_n (i := 0) hE d_Lx_digitOf_0 rfl rfl ?_
  refine cx_invS1 hE d_Lx_digitOf_1 l_Lx_64 (c_Lx_isDigit c) rfl (by omega) (Nat.le_of_ble_eq_true rfl) n_Lx_isDigit (by first | rfl | (simp only [List.map_cons, List.map_nil, cx_rfc]; rfl)) ?_
  refine cx_if_eq (tgt := 12) hE d_Lx_digitOf_4 (by decide) (fun c_4 => ?_) (fun c_4 => ?_)
  · refine cx_iload_n (i := 0) hE d_Lx_digitOf_12 rfl rfl ?_
    refine cx_bipush (v := 97) hE d_Lx_digitOf_13 (by decide) ?_
    refine cx_icmp_lt (tgt := 32) hE d_Lx_digitOf_15 (by decide) (fun c_15 => ?_) (fun c_15 => ?_)
    · refine cx_iload_n (i := 0) hE d_Lx_digitOf_32 rfl rfl ?_
      refine cx_bipush (v := 65) hE d_Lx_digitOf_33 (by decide) ?_
      refine cx_icmp_lt (tgt := 54) hE d_Lx_digitOf_35 (by decide) (fun c_35 => ?_) (fun c_35 => ?_)
      · refine cx_iconst (v := -1) hE d_Lx_digitOf_54 (by decide) ?_
        refine cx_iret hE d_Lx_digitOf_55 rfl rfl ?_
        clear hE
        refine ⟨?_, rfl⟩
        simp only [cx_b0, Bool.not_eq_false, Int32.lt_iff_toInt_lt, Int32.le_iff_toInt_le, Int32.reduceToInt] at *
        unfold tx_hex
        rw [c_4]
        simp only [Bool.false_eq_true, if_false, if_true]
        all_goals ((repeat' split) <;> first | rfl | omega)
      · refine cx_iload_n (i := 0) hE d_Lx_digitOf_38 rfl rfl ?_
        refine cx_bipush (v := 70) hE d_Lx_digitOf_39 (by decide) ?_
        refine cx_icmp_gt (tgt := 54) hE d_Lx_digitOf_41 (by decide) (fun c_41 => ?_) (fun c_41 => ?_)
        · refine cx_iconst (v := -1) hE d_Lx_digitOf_54 (by decide) ?_
          refine cx_iret hE d_Lx_digitOf_55 rfl rfl ?_
          clear hE
          refine ⟨?_, rfl⟩
          simp only [cx_b0, Bool.not_eq_false, Int32.lt_iff_toInt_lt, Int32.le_iff_toInt_le, Int32.reduceToInt] at *
          unfold tx_hex
          rw [c_4]
          simp only [Bool.false_eq_true, if_false, if_true]
          all_goals ((repeat' split) <;> first | rfl | omega)
        · refine cx_iload_n (i := 0) hE d_Lx_digitOf_44 rfl rfl ?_
          refine cx_bipush (v := 65) hE d_Lx_digitOf_45 (by decide) ?_
          refine cx_isub hE d_Lx_digitOf_47 ?_
          refine cx_bipush (v := 10) hE d_Lx_digitOf_48 (by decide) ?_
          refine cx_iadd hE d_Lx_digitOf_50 ?_
          refine cx_goto (tgt := 55) hE d_Lx_digitOf_51 (by decide) ?_
          refine cx_iret hE d_Lx_digitOf_55 rfl rfl ?_
          clear hE
          refine ⟨?_, rfl⟩
          simp only [cx_b0, Bool.not_eq_false, Int32.lt_iff_toInt_lt, Int32.le_iff_toInt_le, Int32.reduceToInt] at *
          unfold tx_hex
          rw [c_4]
          simp only [Bool.false_eq_true, if_false, if_true]
          all_goals ((repeat' split) <;> first | rfl | omega)
    · refine cx_iload_n (i := 0) hE d_Lx_digitOf_18 rfl rfl ?_
      refine cx_bipush (v := 102) hE d_Lx_digitOf_19 (by decide) ?_
      refine cx_icmp_gt (tgt := 32) hE d_Lx_digitOf_21 (by decide) (fun c_21 => ?_) (fun c_21 => ?_)
      · refine cx_iload_n (i := 0) hE d_Lx_digitOf_32 rfl rfl ?_
        refine cx_bipush (v := 65) hE d_Lx_digitOf_33 (by decide) ?_
        refine cx_icmp_lt (tgt := 54) hE d_Lx_digitOf_35 (by decide) (fun c_35 => ?_) (fun c_35 => ?_)
        · refine cx_iconst (v := -1) hE d_Lx_digitOf_54 (by decide) ?_
          refine cx_iret hE d_Lx_digitOf_55 rfl rfl ?_
          clear hE
          refine ⟨?_, rfl⟩
          simp only [cx_b0, Bool.not_eq_false, Int32.lt_iff_toInt_lt, Int32.le_iff_toInt_le, Int32.reduceToInt] at *
          unfold tx_hex
          rw [c_4]
          simp only [Bool.false_eq_true, if_false, if_true]
          all_goals ((repeat' split) <;> first | rfl | omega)
        · refine cx_iload_n (i := 0) hE d_Lx_digitOf_38 rfl rfl ?_
          refine cx_bipush (v := 70) hE d_Lx_digitOf_39 (by decide) ?_
          refine cx_icmp_gt (tgt := 54) hE d_Lx_digitOf_41 (by decide) (fun c_41 => ?_) (fun c_41 => ?_)
          · refine cx_iconst (v := -1) hE d_Lx_digitOf_54 (by decide) ?_
            refine cx_iret hE d_Lx_digitOf_55 rfl rfl ?_
            clear hE
            refine ⟨?_, rfl⟩
            simp only [cx_b0, Bool.not_eq_false, Int32.lt_iff_toInt_lt, Int32.le_iff_toInt_le, Int32.reduceToInt] at *
            unfold tx_hex
            rw [c_4]
            simp only [Bool.false_eq_true, if_false, if_true]
            all_goals ((repeat' split) <;> first | rfl | omega)
          · refine cx_iload_n (i := 0) hE d_Lx_digitOf_44 rfl rfl ?_
            refine cx_bipush (v := 65) hE d_Lx_digitOf_45 (by decide) ?_
            refine cx_isub hE d_Lx_digitOf_47 ?_
            refine cx_bipush (v := 10) hE d_Lx_digitOf_48 (by decide) ?_
            refine cx_iadd hE d_Lx_digitOf_50 ?_
            refine cx_goto (tgt := 55) hE d_Lx_digitOf_51 (by decide) ?_
            refine cx_iret hE d_Lx_digitOf_55 rfl rfl ?_
            clear hE
            refine ⟨?_, rfl⟩
            simp only [cx_b0, Bool.not_eq_false, Int32.lt_iff_toInt_lt, Int32.le_iff_toInt_le, Int32.reduceToInt] at *
            unfold tx_hex
            rw [c_4]
            simp only [Bool.false_eq_true, if_false, if_true]
            all_goals ((repeat' split) <;> first | rfl | omega)
      · refine cx_iload_n (i := 0) hE d_Lx_digitOf_24 rfl rfl ?_
        refine cx_bipush (v := 97) hE d_Lx_digitOf_25 (by decide) ?_
        refine cx_isub hE d_Lx_digitOf_27 ?_
        refine cx_bipush (v := 10) hE d_Lx_digitOf_28 (by decide) ?_
        refine cx_iadd hE d_Lx_digitOf_30 ?_
        refine cx_iret hE d_Lx_digitOf_31 rfl rfl ?_
        clear hE
        refine ⟨?_, rfl⟩
        simp only [cx_b0, Bool.not_eq_false, Int32.lt_iff_toInt_lt, Int32.le_iff_toInt_le, Int32.reduceToInt] at *
        unfold tx_hex
        rw [c_4]
        simp only [Bool.false_eq_true, if_false, if_true]
        all_goals ((repeat' split) <;> first | rfl | omega)
  · refine cx_iload_n (i := 0) hE d_Lx_digitOf_7 rfl rfl ?_
    refine cx_bipush (v := 48) hE d_Lx_digitOf_8 (by decide) ?_
    refine cx_isub hE d_Lx_digitOf_10 ?_
    refine cx_iret hE d_Lx_digitOf_11 rfl rfl ?_
    clear hE
    refine ⟨?_, rfl⟩
    simp only [cx_b0, Bool.not_eq_false, Int32.lt_iff_toInt_lt, Int32.le_iff_toInt_le, Int32.reduceToInt] at *
    unfold tx_hex
    rw [c_4]
    simp only [Bool.false_eq_true, if_false, if_true]
    all_goals ((repeat' split) <;> first | rfl | omega)
set_option maxRecDepth 100000 in
theorem c_Ta_byteAt {k : cx_K} {l : Launch} {G : cx_G} {ta n p : Nat} {f : Nat → Int32} (hT : tx_T k G ta n f) (hp : p < 2 ^ 31) : cx_Sp k l m_Ta_byteAt 0 [.ref ta, .int (nI p)] G (cx_rd (some (.int (tx_at n f p))) G) := by
  intro E hE
  obtain ⟨b, cap, h1, h2, h3, h4, hf⟩ := hT
  refine cx_iload_n (i := 1) hE d_Ta_byteAt_0 rfl rfl ?_
  refine cx_if_lt (tgt := 34) hE d_Ta_byteAt_1 (by decide) (fun c_1 => ?_) (fun c_1 => ?_)
  · exact absurd c_1 (nI_pos hp)
    -- end
  · refine cx_iload_n (i := 1) hE d_Ta_byteAt_4 rfl rfl ?_
    refine cx_aload_n (i := 0) hE d_Ta_byteAt_5 rfl rfl ?_
    refine cx_get hE d_Ta_byteAt_6 f_Ta_15 (by assumption) (by rfl) ?_
    refine cx_icmp_ge (tgt := 34) hE d_Ta_byteAt_9 (by decide) (fun c_9 => ?_) (fun c_9 => ?_)
    · have q_9 : ¬ p < n := fun q => absurd c_9 (nI_ge q (by omega))
      refine cx_iconst (v := -1) hE d_Ta_byteAt_34 (by decide) ?_
      refine cx_iret hE d_Ta_byteAt_35 rfl rfl ?_
      refine ⟨?_, rfl⟩
      first | (rw [tx_at, if_pos q_9, nI_clamp hp]) | (rw [tx_at, if_neg q_9])
    · have q_9 : p < n := by
        rcases Nat.lt_or_ge p n with q | q
        · exact q
        · exact absurd (nI_le q hp) c_9
      refine cx_iload_n (i := 1) hE d_Ta_byteAt_12 rfl rfl ?_
      refine cx_aload_n (i := 0) hE d_Ta_byteAt_13 rfl rfl ?_
      refine cx_get hE d_Ta_byteAt_14 f_Ta_9 (by assumption) (by rfl) ?_
      refine cx_alen 0 hE d_Ta_byteAt_17 rfl (by assumption) rfl ?_
      refine cx_icmp_ge (tgt := 34) hE d_Ta_byteAt_18 (by decide) (fun c_18 => ?_) (fun c_18 => ?_)
      · exact absurd c_18 (nI_ge (a := p) (b := cap) (by omega) (by omega))
        -- end
      · refine cx_aload_n (i := 0) hE d_Ta_byteAt_21 rfl rfl ?_
        refine cx_get hE d_Ta_byteAt_22 f_Ta_9 (by assumption) (by rfl) ?_
        refine cx_iload_n (i := 1) hE d_Ta_byteAt_25 rfl rfl ?_
        refine cx_bald 0 hE d_Ta_byteAt_26 rfl (by assumption) (vp_in_nI (by omega) (by omega)) ?_
        refine cx_sipush (v := 255) hE d_Ta_byteAt_27 (by decide) ?_
        refine cx_iand hE d_Ta_byteAt_30 ?_
        refine cx_goto (tgt := 35) hE d_Ta_byteAt_31 (by decide) ?_
        refine cx_iret hE d_Ta_byteAt_35 rfl rfl ?_
        refine ⟨?_, rfl⟩
        first | (rw [tx_at, if_pos q_9, nI_clamp hp]) | (rw [tx_at, if_neg q_9])

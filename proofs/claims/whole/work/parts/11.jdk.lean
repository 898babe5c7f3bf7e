/-! THE JDK'S STRING (on literals) AND ARRAYS. -/
theorem cx_invK1 {E : cx_E} {k : cx_K} {l : Launch} {fr : Nat} {M : cx_M} {G0 : cx_G} {Post : cx_R → cx_G → Prop} {pc : Nat} {lv : cx_L} {st stk : List Value} {G G1 : cx_G} {fr' : Nat} {M' : cx_M} {idx i : Nat} {av : List Value} {v : Value} (hE : cx_C E k l fr M G0 Post) (hd : decode M.2.1 pc = .ok (.invokevirtual idx, 3)) (hl : Cond.methodLink M.1.cls idx M'.1 ∈ lw_tbl) (hW : cx_W M') (hin9 : Cond.instanceMethod M'.1 ∈ lw_tbl) (hsel : Cond.selects "java/lang/String" M'.1 M'.1 ∈ lw_tbl) (hi : i < 11) (hSp : cx_Sp k l M' fr' (.ref (k.2.2.2.1 i) :: av) G (cx_rd (some v) G1)) (hs : stk = av.reverse ++ .ref (k.2.2.2.1 i) :: st) (hfr : fr' + 1 ≤ fr) (hw : (st.map fun v => v.category).sum ≤ 8) (hn : (parseMethodDescriptor M'.1.desc).map (fun d => d.parameters.length) = some av.length) (hav : (Value.ref (k.2.2.2.1 i) :: av).map (fun v => v.category) = M'.2.2.2.2.2.map cx_cat)
    (h : cx_V E (pc + 3) lv (v :: st) G1) : cx_V E pc lv stk G :=
  cx_invK hE hd hl hW hin9 hsel hi hSp hs hfr hw hn hav (fun v' G' q => by obtain ⟨q1, q2⟩ := q; cases q1; subst q2; exact h) (fun a G' q => by cases q.1)
theorem cx_bytes : ∀ i, i < 11 → (cx_len.getD i 0 = (cx_byt.getD i []).length ∧ cx_len.getD i 0 < 2 ^ 20 ∧ ∀ b ∈ cx_byt.getD i [], b &&& 255 = b ∧ b.toInt8.toInt32 = b ∧ 0 ≤ b.toInt ∧ b.toInt < 128) := by decide +kernel
def cx_ch (i j : Nat) : Int32 := (cx_byt.getD i []).getD j 0
theorem cx_ch_ok {i j : Nat} (hi : i < 11) (hj : j < cx_len.getD i 0) : cx_ch i j &&& 255 = cx_ch i j ∧ (cx_ch i j).toInt8.toInt32 = cx_ch i j ∧ 0 ≤ (cx_ch i j).toInt ∧ (cx_ch i j).toInt < 128 := by
  obtain ⟨h1, -, h3⟩ := cx_bytes i hi
  refine h3 _ ?_
  unfold cx_ch
  rw [h1] at hj
  generalize cx_byt.getD i [] = L at hj ⊢
  rw [List.getD_eq_getElem?_getD, List.getElem?_eq_getElem hj]
  exact List.getElem_mem hj
theorem cx_len_lt {i : Nat} (hi : i < 11) : cx_len.getD i 0 < 2 ^ 20 := (cx_bytes i hi).2.1
abbrev m_St_coder : cx_M := (⟨"java/lang/String", "coder", "()B"⟩, prog_27_method_152_code, 1, (Option.some Jvm.ClassFile.FieldType.byte), [], [false])
theorem w_St_coder : cx_W m_St_coder := ⟨Or.inl ⟨(in_2 (List.mem_of_getElem? (i := 25) rfl)), rfl⟩, by decide +kernel, by decide, by decide, by decide +kernel⟩
theorem n_St_coder : (parseMethodDescriptor m_St_coder.1.desc).map (fun d => d.parameters.length) = some 0 := by decide +kernel
theorem d_St_coder_0 : decode prog_27_method_152_code 0 = .ok (.getstatic 38, 3) := by decide +kernel
theorem d_St_coder_3 : decode prog_27_method_152_code 3 = .ok (.ifCond .eq 10, 3) := by decide +kernel
theorem d_St_coder_6 : decode prog_27_method_152_code 6 = .ok (.aload_n 0, 1) := by decide +kernel
theorem d_St_coder_7 : decode prog_27_method_152_code 7 = .ok (.getfield 15, 3) := by decide +kernel
theorem d_St_coder_10 : decode prog_27_method_152_code 10 = .ok (.goto 4, 3) := by decide +kernel
theorem d_St_coder_13 : decode prog_27_method_152_code 13 = .ok (.iconst 1, 1) := by decide +kernel
theorem d_St_coder_14 : decode prog_27_method_152_code 14 = .ok (.ireturn, 1) := by decide +kernel
abbrev m_St_isLatin1 : cx_M := (⟨"java/lang/String", "isLatin1", "()Z"⟩, prog_27_method_154_code, 1, (Option.some Jvm.ClassFile.FieldType.boolean), [], [false])
theorem w_St_isLatin1 : cx_W m_St_isLatin1 := ⟨Or.inl ⟨(in_2 (List.mem_of_getElem? (i := 35) rfl)), rfl⟩, by decide +kernel, by decide, by decide, by decide +kernel⟩
theorem n_St_isLatin1 : (parseMethodDescriptor m_St_isLatin1.1.desc).map (fun d => d.parameters.length) = some 0 := by decide +kernel
theorem d_St_isLatin1_0 : decode prog_27_method_154_code 0 = .ok (.getstatic 38, 3) := by decide +kernel
theorem d_St_isLatin1_3 : decode prog_27_method_154_code 3 = .ok (.ifCond .eq 14, 3) := by decide +kernel
theorem d_St_isLatin1_6 : decode prog_27_method_154_code 6 = .ok (.aload_n 0, 1) := by decide +kernel
theorem d_St_isLatin1_7 : decode prog_27_method_154_code 7 = .ok (.getfield 15, 3) := by decide +kernel
theorem d_St_isLatin1_10 : decode prog_27_method_154_code 10 = .ok (.ifCond .ne 7, 3) := by decide +kernel
theorem d_St_isLatin1_13 : decode prog_27_method_154_code 13 = .ok (.iconst 1, 1) := by decide +kernel
theorem d_St_isLatin1_14 : decode prog_27_method_154_code 14 = .ok (.goto 4, 3) := by decide +kernel
theorem d_St_isLatin1_17 : decode prog_27_method_154_code 17 = .ok (.iconst 0, 1) := by decide +kernel
theorem d_St_isLatin1_18 : decode prog_27_method_154_code 18 = .ok (.ireturn, 1) := by decide +kernel
abbrev m_St_length : cx_M := (⟨"java/lang/String", "length", "()I"⟩, prog_27_method_54_code, 1, (Option.some Jvm.ClassFile.FieldType.int), [], [false])
theorem w_St_length : cx_W m_St_length := ⟨Or.inl ⟨(in_2 (List.mem_of_getElem? (i := 21) rfl)), rfl⟩, by decide +kernel, by decide, by decide, by decide +kernel⟩
theorem n_St_length : (parseMethodDescriptor m_St_length.1.desc).map (fun d => d.parameters.length) = some 0 := by decide +kernel
theorem d_St_length_0 : decode prog_27_method_54_code 0 = .ok (.aload_n 0, 1) := by decide +kernel
theorem d_St_length_1 : decode prog_27_method_54_code 1 = .ok (.getfield 9, 3) := by decide +kernel
theorem d_St_length_4 : decode prog_27_method_54_code 4 = .ok (.arraylength, 1) := by decide +kernel
theorem d_St_length_5 : decode prog_27_method_54_code 5 = .ok (.aload_n 0, 1) := by decide +kernel
theorem d_St_length_6 : decode prog_27_method_54_code 6 = .ok (.invokevirtual 335, 3) := by decide +kernel
theorem d_St_length_9 : decode prog_27_method_54_code 9 = .ok (.ishr, 1) := by decide +kernel
theorem d_St_length_10 : decode prog_27_method_54_code 10 = .ok (.ireturn, 1) := by decide +kernel
abbrev m_Pr_checkIndex : cx_M := (⟨"jdk/internal/util/Preconditions", "checkIndex", "(IILjava/util/function/BiFunction;)I"⟩, prog_44_method_11_code, 3, (Option.some Jvm.ClassFile.FieldType.int), [], [false, false, false])
theorem w_Pr_checkIndex : cx_W m_Pr_checkIndex := ⟨Or.inl ⟨(in_2 (List.mem_of_getElem? (i := 46) rfl)), rfl⟩, by decide +kernel, by decide, by decide, by decide +kernel⟩
theorem n_Pr_checkIndex : (parseMethodDescriptor m_Pr_checkIndex.1.desc).map (fun d => d.parameters.length) = some 3 := by decide +kernel
theorem d_Pr_checkIndex_0 : decode prog_44_method_11_code 0 = .ok (.iload_n 0, 1) := by decide +kernel
theorem d_Pr_checkIndex_1 : decode prog_44_method_11_code 1 = .ok (.ifCond .lt 8, 3) := by decide +kernel
theorem d_Pr_checkIndex_4 : decode prog_44_method_11_code 4 = .ok (.iload_n 0, 1) := by decide +kernel
theorem d_Pr_checkIndex_5 : decode prog_44_method_11_code 5 = .ok (.iload_n 1, 1) := by decide +kernel
theorem d_Pr_checkIndex_6 : decode prog_44_method_11_code 6 = .ok (.if_icmp .lt 10, 3) := by decide +kernel
theorem d_Pr_checkIndex_9 : decode prog_44_method_11_code 9 = .ok (.aload_n 2, 1) := by decide +kernel
theorem d_Pr_checkIndex_10 : decode prog_44_method_11_code 10 = .ok (.iload_n 0, 1) := by decide +kernel
theorem d_Pr_checkIndex_11 : decode prog_44_method_11_code 11 = .ok (.iload_n 1, 1) := by decide +kernel
theorem d_Pr_checkIndex_12 : decode prog_44_method_11_code 12 = .ok (.invokestatic 95, 3) := by decide +kernel
theorem d_Pr_checkIndex_15 : decode prog_44_method_11_code 15 = .ok (.athrow, 1) := by decide +kernel
theorem d_Pr_checkIndex_16 : decode prog_44_method_11_code 16 = .ok (.iload_n 0, 1) := by decide +kernel
theorem d_Pr_checkIndex_17 : decode prog_44_method_11_code 17 = .ok (.ireturn, 1) := by decide +kernel
abbrev m_St_checkIndex : cx_M := (⟨"java/lang/String", "checkIndex", "(II)V"⟩, prog_27_method_155_code, 2, (Option.none : Option Jvm.ClassFile.FieldType), [], [false, false])
theorem w_St_checkIndex : cx_W m_St_checkIndex := ⟨Or.inl ⟨(in_2 (List.mem_of_getElem? (i := 41) rfl)), rfl⟩, by decide +kernel, by decide, by decide, by decide +kernel⟩
theorem n_St_checkIndex : (parseMethodDescriptor m_St_checkIndex.1.desc).map (fun d => d.parameters.length) = some 2 := by decide +kernel
theorem d_St_checkIndex_0 : decode prog_27_method_155_code 0 = .ok (.iload_n 0, 1) := by decide +kernel
theorem d_St_checkIndex_1 : decode prog_27_method_155_code 1 = .ok (.iload_n 1, 1) := by decide +kernel
theorem d_St_checkIndex_2 : decode prog_27_method_155_code 2 = .ok (.getstatic 1053, 3) := by decide +kernel
theorem d_St_checkIndex_5 : decode prog_27_method_155_code 5 = .ok (.invokestatic 1059, 3) := by decide +kernel
theorem d_St_checkIndex_8 : decode prog_27_method_155_code 8 = .ok (.pop, 1) := by decide +kernel
theorem d_St_checkIndex_9 : decode prog_27_method_155_code 9 = .ok (.return_, 1) := by decide +kernel
abbrev m_SL_charAt : cx_M := (⟨"java/lang/StringLatin1", "charAt", "([BI)C"⟩, prog_29_method_2_code, 2, (Option.some Jvm.ClassFile.FieldType.char), [], [false, false])
theorem w_SL_charAt : cx_W m_SL_charAt := ⟨Or.inl ⟨(in_2 (List.mem_of_getElem? (i := 38) rfl)), rfl⟩, by decide +kernel, by decide, by decide, by decide +kernel⟩
theorem n_SL_charAt : (parseMethodDescriptor m_SL_charAt.1.desc).map (fun d => d.parameters.length) = some 2 := by decide +kernel
theorem d_SL_charAt_0 : decode prog_29_method_2_code 0 = .ok (.iload_n 1, 1) := by decide +kernel
theorem d_SL_charAt_1 : decode prog_29_method_2_code 1 = .ok (.aload_n 0, 1) := by decide +kernel
theorem d_SL_charAt_2 : decode prog_29_method_2_code 2 = .ok (.arraylength, 1) := by decide +kernel
theorem d_SL_charAt_3 : decode prog_29_method_2_code 3 = .ok (.invokestatic 9, 3) := by decide +kernel
theorem d_SL_charAt_6 : decode prog_29_method_2_code 6 = .ok (.aload_n 0, 1) := by decide +kernel
theorem d_SL_charAt_7 : decode prog_29_method_2_code 7 = .ok (.iload_n 1, 1) := by decide +kernel
theorem d_SL_charAt_8 : decode prog_29_method_2_code 8 = .ok (.baload, 1) := by decide +kernel
theorem d_SL_charAt_9 : decode prog_29_method_2_code 9 = .ok (.sipush 255, 3) := by decide +kernel
theorem d_SL_charAt_12 : decode prog_29_method_2_code 12 = .ok (.iand, 1) := by decide +kernel
theorem d_SL_charAt_13 : decode prog_29_method_2_code 13 = .ok (.i2c, 1) := by decide +kernel
theorem d_SL_charAt_14 : decode prog_29_method_2_code 14 = .ok (.ireturn, 1) := by decide +kernel
abbrev m_St_charAt : cx_M := (⟨"java/lang/String", "charAt", "(I)C"⟩, prog_27_method_56_code, 2, (Option.some Jvm.ClassFile.FieldType.char), [], [false, false])
theorem w_St_charAt : cx_W m_St_charAt := ⟨Or.inl ⟨(in_2 (List.mem_of_getElem? (i := 31) rfl)), rfl⟩, by decide +kernel, by decide, by decide, by decide +kernel⟩
theorem n_St_charAt : (parseMethodDescriptor m_St_charAt.1.desc).map (fun d => d.parameters.length) = some 1 := by decide +kernel
theorem d_St_charAt_0 : decode prog_27_method_56_code 0 = .ok (.aload_n 0, 1) := by decide +kernel
theorem d_St_charAt_1 : decode prog_27_method_56_code 1 = .ok (.invokevirtual 492, 3) := by decide +kernel
theorem d_St_charAt_4 : decode prog_27_method_56_code 4 = .ok (.ifCond .eq 12, 3) := by decide +kernel
theorem d_St_charAt_7 : decode prog_27_method_56_code 7 = .ok (.aload_n 0, 1) := by decide +kernel
theorem d_St_charAt_8 : decode prog_27_method_56_code 8 = .ok (.getfield 9, 3) := by decide +kernel
theorem d_St_charAt_11 : decode prog_27_method_56_code 11 = .ok (.iload_n 1, 1) := by decide +kernel
theorem d_St_charAt_12 : decode prog_27_method_56_code 12 = .ok (.invokestatic 495, 3) := by decide +kernel
theorem d_St_charAt_15 : decode prog_27_method_56_code 15 = .ok (.ireturn, 1) := by decide +kernel
theorem d_St_charAt_16 : decode prog_27_method_56_code 16 = .ok (.aload_n 0, 1) := by decide +kernel
theorem d_St_charAt_17 : decode prog_27_method_56_code 17 = .ok (.getfield 9, 3) := by decide +kernel
theorem d_St_charAt_20 : decode prog_27_method_56_code 20 = .ok (.iload_n 1, 1) := by decide +kernel
theorem d_St_charAt_21 : decode prog_27_method_56_code 21 = .ok (.invokestatic 498, 3) := by decide +kernel
theorem d_St_charAt_24 : decode prog_27_method_56_code 24 = .ok (.ireturn, 1) := by decide +kernel
abbrev m_SL_canEncode : cx_M := (⟨"java/lang/StringLatin1", "canEncode", "(I)Z"⟩, prog_29_method_4_code, 1, (Option.some Jvm.ClassFile.FieldType.boolean), [], [false])
theorem w_SL_canEncode : cx_W m_SL_canEncode := ⟨Or.inl ⟨(in_4 (List.mem_of_getElem? (i := 15) rfl)), rfl⟩, by decide +kernel, by decide, by decide, by decide +kernel⟩
theorem n_SL_canEncode : (parseMethodDescriptor m_SL_canEncode.1.desc).map (fun d => d.parameters.length) = some 1 := by decide +kernel
theorem d_SL_canEncode_0 : decode prog_29_method_4_code 0 = .ok (.iload_n 0, 1) := by decide +kernel
theorem d_SL_canEncode_1 : decode prog_29_method_4_code 1 = .ok (.ifCond .lt 14, 3) := by decide +kernel
theorem d_SL_canEncode_4 : decode prog_29_method_4_code 4 = .ok (.iload_n 0, 1) := by decide +kernel
theorem d_SL_canEncode_5 : decode prog_29_method_4_code 5 = .ok (.sipush 255, 3) := by decide +kernel
theorem d_SL_canEncode_8 : decode prog_29_method_4_code 8 = .ok (.if_icmp .gt 7, 3) := by decide +kernel
theorem d_SL_canEncode_11 : decode prog_29_method_4_code 11 = .ok (.iconst 1, 1) := by decide +kernel
theorem d_SL_canEncode_12 : decode prog_29_method_4_code 12 = .ok (.goto 4, 3) := by decide +kernel
theorem d_SL_canEncode_15 : decode prog_29_method_4_code 15 = .ok (.iconst 0, 1) := by decide +kernel
theorem d_SL_canEncode_16 : decode prog_29_method_4_code 16 = .ok (.ireturn, 1) := by decide +kernel
abbrev m_SL_indexOfChar : cx_M := (⟨"java/lang/StringLatin1", "indexOfChar", "([BIII)I"⟩, prog_29_method_23_code, 6, (Option.some Jvm.ClassFile.FieldType.int), [], [false, false, false, false])
theorem w_SL_indexOfChar : cx_W m_SL_indexOfChar := ⟨Or.inl ⟨(in_4 (List.mem_of_getElem? (i := 20) rfl)), rfl⟩, by decide +kernel, by decide, by decide, by decide +kernel⟩
theorem n_SL_indexOfChar : (parseMethodDescriptor m_SL_indexOfChar.1.desc).map (fun d => d.parameters.length) = some 4 := by decide +kernel
theorem d_SL_indexOfChar_0 : decode prog_29_method_23_code 0 = .ok (.iload_n 1, 1) := by decide +kernel
theorem d_SL_indexOfChar_1 : decode prog_29_method_23_code 1 = .ok (.i2b, 1) := by decide +kernel
theorem d_SL_indexOfChar_2 : decode prog_29_method_23_code 2 = .ok (.istore 4, 2) := by decide +kernel
theorem d_SL_indexOfChar_4 : decode prog_29_method_23_code 4 = .ok (.iload_n 2, 1) := by decide +kernel
theorem d_SL_indexOfChar_5 : decode prog_29_method_23_code 5 = .ok (.istore 5, 2) := by decide +kernel
theorem d_SL_indexOfChar_7 : decode prog_29_method_23_code 7 = .ok (.iload 5, 2) := by decide +kernel
theorem d_SL_indexOfChar_9 : decode prog_29_method_23_code 9 = .ok (.iload_n 3, 1) := by decide +kernel
theorem d_SL_indexOfChar_10 : decode prog_29_method_23_code 10 = .ok (.if_icmp .ge 21, 3) := by decide +kernel
theorem d_SL_indexOfChar_13 : decode prog_29_method_23_code 13 = .ok (.aload_n 0, 1) := by decide +kernel
theorem d_SL_indexOfChar_14 : decode prog_29_method_23_code 14 = .ok (.iload 5, 2) := by decide +kernel
theorem d_SL_indexOfChar_16 : decode prog_29_method_23_code 16 = .ok (.baload, 1) := by decide +kernel
theorem d_SL_indexOfChar_17 : decode prog_29_method_23_code 17 = .ok (.iload 4, 2) := by decide +kernel
theorem d_SL_indexOfChar_19 : decode prog_29_method_23_code 19 = .ok (.if_icmp .ne 6, 3) := by decide +kernel
theorem d_SL_indexOfChar_22 : decode prog_29_method_23_code 22 = .ok (.iload 5, 2) := by decide +kernel
theorem d_SL_indexOfChar_24 : decode prog_29_method_23_code 24 = .ok (.ireturn, 1) := by decide +kernel
theorem d_SL_indexOfChar_25 : decode prog_29_method_23_code 25 = .ok (.iinc 5 1, 3) := by decide +kernel
theorem d_SL_indexOfChar_28 : decode prog_29_method_23_code 28 = .ok (.goto (-21), 3) := by decide +kernel
theorem d_SL_indexOfChar_31 : decode prog_29_method_23_code 31 = .ok (.iconst (-1), 1) := by decide +kernel
theorem d_SL_indexOfChar_32 : decode prog_29_method_23_code 32 = .ok (.ireturn, 1) := by decide +kernel
abbrev m_SL_indexOf : cx_M := (⟨"java/lang/StringLatin1", "indexOf", "([BIII)I"⟩, prog_29_method_22_code, 4, (Option.some Jvm.ClassFile.FieldType.int), [], [false, false, false, false])
theorem w_SL_indexOf : cx_W m_SL_indexOf := ⟨Or.inl ⟨(in_4 (List.mem_of_getElem? (i := 12) rfl)), rfl⟩, by decide +kernel, by decide, by decide, by decide +kernel⟩
theorem n_SL_indexOf : (parseMethodDescriptor m_SL_indexOf.1.desc).map (fun d => d.parameters.length) = some 4 := by decide +kernel
theorem d_SL_indexOf_0 : decode prog_29_method_22_code 0 = .ok (.iload_n 1, 1) := by decide +kernel
theorem d_SL_indexOf_1 : decode prog_29_method_22_code 1 = .ok (.invokestatic 88, 3) := by decide +kernel
theorem d_SL_indexOf_4 : decode prog_29_method_22_code 4 = .ok (.ifCond .ne 5, 3) := by decide +kernel
theorem d_SL_indexOf_7 : decode prog_29_method_22_code 7 = .ok (.iconst (-1), 1) := by decide +kernel
theorem d_SL_indexOf_8 : decode prog_29_method_22_code 8 = .ok (.ireturn, 1) := by decide +kernel
theorem d_SL_indexOf_9 : decode prog_29_method_22_code 9 = .ok (.iload_n 2, 1) := by decide +kernel
theorem d_SL_indexOf_10 : decode prog_29_method_22_code 10 = .ok (.iconst 0, 1) := by decide +kernel
theorem d_SL_indexOf_11 : decode prog_29_method_22_code 11 = .ok (.invokestatic 92, 3) := by decide +kernel
theorem d_SL_indexOf_14 : decode prog_29_method_22_code 14 = .ok (.istore_n 2, 1) := by decide +kernel
theorem d_SL_indexOf_15 : decode prog_29_method_22_code 15 = .ok (.iload_n 3, 1) := by decide +kernel
theorem d_SL_indexOf_16 : decode prog_29_method_22_code 16 = .ok (.aload_n 0, 1) := by decide +kernel
theorem d_SL_indexOf_17 : decode prog_29_method_22_code 17 = .ok (.arraylength, 1) := by decide +kernel
theorem d_SL_indexOf_18 : decode prog_29_method_22_code 18 = .ok (.invokestatic 38, 3) := by decide +kernel
theorem d_SL_indexOf_21 : decode prog_29_method_22_code 21 = .ok (.istore_n 3, 1) := by decide +kernel
theorem d_SL_indexOf_22 : decode prog_29_method_22_code 22 = .ok (.iload_n 2, 1) := by decide +kernel
theorem d_SL_indexOf_23 : decode prog_29_method_22_code 23 = .ok (.iload_n 3, 1) := by decide +kernel
theorem d_SL_indexOf_24 : decode prog_29_method_22_code 24 = .ok (.if_icmp .lt 5, 3) := by decide +kernel
theorem d_SL_indexOf_27 : decode prog_29_method_22_code 27 = .ok (.iconst (-1), 1) := by decide +kernel
theorem d_SL_indexOf_28 : decode prog_29_method_22_code 28 = .ok (.ireturn, 1) := by decide +kernel
theorem d_SL_indexOf_29 : decode prog_29_method_22_code 29 = .ok (.aload_n 0, 1) := by decide +kernel
theorem d_SL_indexOf_30 : decode prog_29_method_22_code 30 = .ok (.iload_n 1, 1) := by decide +kernel
theorem d_SL_indexOf_31 : decode prog_29_method_22_code 31 = .ok (.iload_n 2, 1) := by decide +kernel
theorem d_SL_indexOf_32 : decode prog_29_method_22_code 32 = .ok (.iload_n 3, 1) := by decide +kernel
theorem d_SL_indexOf_33 : decode prog_29_method_22_code 33 = .ok (.invokestatic 95, 3) := by decide +kernel
theorem d_SL_indexOf_36 : decode prog_29_method_22_code 36 = .ok (.ireturn, 1) := by decide +kernel
abbrev m_St_indexOf2 : cx_M := (⟨"java/lang/String", "indexOf", "(II)I"⟩, prog_27_method_80_code, 3, (Option.some Jvm.ClassFile.FieldType.int), [], [false, false, false])
theorem w_St_indexOf2 : cx_W m_St_indexOf2 := ⟨Or.inl ⟨(in_4 (List.mem_of_getElem? (i := 8) rfl)), rfl⟩, by decide +kernel, by decide, by decide, by decide +kernel⟩
theorem n_St_indexOf2 : (parseMethodDescriptor m_St_indexOf2.1.desc).map (fun d => d.parameters.length) = some 2 := by decide +kernel
theorem d_St_indexOf2_0 : decode prog_27_method_80_code 0 = .ok (.aload_n 0, 1) := by decide +kernel
theorem d_St_indexOf2_1 : decode prog_27_method_80_code 1 = .ok (.invokevirtual 492, 3) := by decide +kernel
theorem d_St_indexOf2_4 : decode prog_27_method_80_code 4 = .ok (.ifCond .eq 19, 3) := by decide +kernel
theorem d_St_indexOf2_7 : decode prog_27_method_80_code 7 = .ok (.aload_n 0, 1) := by decide +kernel
theorem d_St_indexOf2_8 : decode prog_27_method_80_code 8 = .ok (.getfield 9, 3) := by decide +kernel
theorem d_St_indexOf2_11 : decode prog_27_method_80_code 11 = .ok (.iload_n 1, 1) := by decide +kernel
theorem d_St_indexOf2_12 : decode prog_27_method_80_code 12 = .ok (.iload_n 2, 1) := by decide +kernel
theorem d_St_indexOf2_13 : decode prog_27_method_80_code 13 = .ok (.aload_n 0, 1) := by decide +kernel
theorem d_St_indexOf2_14 : decode prog_27_method_80_code 14 = .ok (.invokevirtual 505, 3) := by decide +kernel
theorem d_St_indexOf2_17 : decode prog_27_method_80_code 17 = .ok (.invokestatic 637, 3) := by decide +kernel
theorem d_St_indexOf2_20 : decode prog_27_method_80_code 20 = .ok (.goto 16, 3) := by decide +kernel
theorem d_St_indexOf2_23 : decode prog_27_method_80_code 23 = .ok (.aload_n 0, 1) := by decide +kernel
theorem d_St_indexOf2_24 : decode prog_27_method_80_code 24 = .ok (.getfield 9, 3) := by decide +kernel
theorem d_St_indexOf2_27 : decode prog_27_method_80_code 27 = .ok (.iload_n 1, 1) := by decide +kernel
theorem d_St_indexOf2_28 : decode prog_27_method_80_code 28 = .ok (.iload_n 2, 1) := by decide +kernel
theorem d_St_indexOf2_29 : decode prog_27_method_80_code 29 = .ok (.aload_n 0, 1) := by decide +kernel
theorem d_St_indexOf2_30 : decode prog_27_method_80_code 30 = .ok (.invokevirtual 505, 3) := by decide +kernel
theorem d_St_indexOf2_33 : decode prog_27_method_80_code 33 = .ok (.invokestatic 640, 3) := by decide +kernel
theorem d_St_indexOf2_36 : decode prog_27_method_80_code 36 = .ok (.ireturn, 1) := by decide +kernel
abbrev m_St_indexOf1 : cx_M := (⟨"java/lang/String", "indexOf", "(I)I"⟩, prog_27_method_79_code, 2, (Option.some Jvm.ClassFile.FieldType.int), [], [false, false])
theorem w_St_indexOf1 : cx_W m_St_indexOf1 := ⟨Or.inl ⟨(in_4 (List.mem_of_getElem? (i := 4) rfl)), rfl⟩, by decide +kernel, by decide, by decide, by decide +kernel⟩
theorem n_St_indexOf1 : (parseMethodDescriptor m_St_indexOf1.1.desc).map (fun d => d.parameters.length) = some 1 := by decide +kernel
theorem d_St_indexOf1_0 : decode prog_27_method_79_code 0 = .ok (.aload_n 0, 1) := by decide +kernel
theorem d_St_indexOf1_1 : decode prog_27_method_79_code 1 = .ok (.iload_n 1, 1) := by decide +kernel
theorem d_St_indexOf1_2 : decode prog_27_method_79_code 2 = .ok (.iconst 0, 1) := by decide +kernel
theorem d_St_indexOf1_3 : decode prog_27_method_79_code 3 = .ok (.invokevirtual 633, 3) := by decide +kernel
theorem d_St_indexOf1_6 : decode prog_27_method_79_code 6 = .ok (.ireturn, 1) := by decide +kernel
abbrev m_Ar_checkLength : cx_M := (⟨"java/util/Arrays", "checkLength", "(II)V"⟩, prog_37_method_131_code, 2, (Option.none : Option Jvm.ClassFile.FieldType), [], [false, false])
theorem w_Ar_checkLength : cx_W m_Ar_checkLength := ⟨Or.inl ⟨(in_2 (List.mem_of_getElem? (i := 200) rfl)), rfl⟩, by decide +kernel, by decide, by decide, by decide +kernel⟩
theorem n_Ar_checkLength : (parseMethodDescriptor m_Ar_checkLength.1.desc).map (fun d => d.parameters.length) = some 2 := by decide +kernel
theorem d_Ar_checkLength_0 : decode prog_37_method_131_code 0 = .ok (.iload_n 1, 1) := by decide +kernel
theorem d_Ar_checkLength_1 : decode prog_37_method_131_code 1 = .ok (.iload_n 0, 1) := by decide +kernel
theorem d_Ar_checkLength_2 : decode prog_37_method_131_code 2 = .ok (.if_icmp .ge 35, 3) := by decide +kernel
theorem d_Ar_checkLength_5 : decode prog_37_method_131_code 5 = .ok (.new 43, 3) := by decide +kernel
theorem d_Ar_checkLength_8 : decode prog_37_method_131_code 8 = .ok (.dup, 1) := by decide +kernel
theorem d_Ar_checkLength_9 : decode prog_37_method_131_code 9 = .ok (.new 45, 3) := by decide +kernel
theorem d_Ar_checkLength_12 : decode prog_37_method_131_code 12 = .ok (.dup, 1) := by decide +kernel
theorem d_Ar_checkLength_13 : decode prog_37_method_131_code 13 = .ok (.invokespecial 47, 3) := by decide +kernel
theorem d_Ar_checkLength_16 : decode prog_37_method_131_code 16 = .ok (.iload_n 0, 1) := by decide +kernel
theorem d_Ar_checkLength_17 : decode prog_37_method_131_code 17 = .ok (.invokevirtual 54, 3) := by decide +kernel
theorem d_Ar_checkLength_20 : decode prog_37_method_131_code 20 = .ok (.ldc_w 337, 3) := by decide +kernel
theorem d_Ar_checkLength_23 : decode prog_37_method_131_code 23 = .ok (.invokevirtual 50, 3) := by decide +kernel
theorem d_Ar_checkLength_26 : decode prog_37_method_131_code 26 = .ok (.iload_n 1, 1) := by decide +kernel
theorem d_Ar_checkLength_27 : decode prog_37_method_131_code 27 = .ok (.invokevirtual 54, 3) := by decide +kernel
theorem d_Ar_checkLength_30 : decode prog_37_method_131_code 30 = .ok (.invokevirtual 61, 3) := by decide +kernel
theorem d_Ar_checkLength_33 : decode prog_37_method_131_code 33 = .ok (.invokespecial 65, 3) := by decide +kernel
theorem d_Ar_checkLength_36 : decode prog_37_method_131_code 36 = .ok (.athrow, 1) := by decide +kernel
theorem d_Ar_checkLength_37 : decode prog_37_method_131_code 37 = .ok (.return_, 1) := by decide +kernel
theorem z_Ar_43 : cx_N "java/util/Arrays" 43 15 [.null, .null, .null, .null, .null, .int 0] := ⟨_, F_IAE, t_IAE, k_IAE, (in_2 (List.mem_of_getElem? (i := 201) rfl)), (in_2 (List.mem_of_getElem? (i := 202) rfl)), (in_1 (List.mem_of_getElem? (i := 14) rfl)), fun j hj => by rcases (show j = 0 ∨ j = 1 ∨ j = 2 ∨ j = 3 ∨ j = 4 ∨ j = 5 by have : j < 6 := hj; omega) with rfl | rfl | rfl | rfl | rfl | rfl <;> rfl⟩
abbrev m_Ar_copyOfRangeByte : cx_M := (⟨"java/util/Arrays", "copyOfRangeByte", "([BII)[B"⟩, prog_37_method_133_code, 5, (Option.some (Jvm.ClassFile.FieldType.array Jvm.ClassFile.FieldType.byte)), [], [false, false, false])
theorem w_Ar_copyOfRangeByte : cx_W m_Ar_copyOfRangeByte := ⟨Or.inl ⟨(in_2 (List.mem_of_getElem? (i := 197) rfl)), rfl⟩, by decide +kernel, by decide, by decide, by decide +kernel⟩
theorem n_Ar_copyOfRangeByte : (parseMethodDescriptor m_Ar_copyOfRangeByte.1.desc).map (fun d => d.parameters.length) = some 3 := by decide +kernel
theorem d_Ar_copyOfRangeByte_0 : decode prog_37_method_133_code 0 = .ok (.iload_n 1, 1) := by decide +kernel
theorem d_Ar_copyOfRangeByte_1 : decode prog_37_method_133_code 1 = .ok (.iload_n 2, 1) := by decide +kernel
theorem d_Ar_copyOfRangeByte_2 : decode prog_37_method_133_code 2 = .ok (.invokestatic 343, 3) := by decide +kernel
theorem d_Ar_copyOfRangeByte_5 : decode prog_37_method_133_code 5 = .ok (.iload_n 2, 1) := by decide +kernel
theorem d_Ar_copyOfRangeByte_6 : decode prog_37_method_133_code 6 = .ok (.iload_n 1, 1) := by decide +kernel
theorem d_Ar_copyOfRangeByte_7 : decode prog_37_method_133_code 7 = .ok (.isub, 1) := by decide +kernel
theorem d_Ar_copyOfRangeByte_8 : decode prog_37_method_133_code 8 = .ok (.istore_n 3, 1) := by decide +kernel
theorem d_Ar_copyOfRangeByte_9 : decode prog_37_method_133_code 9 = .ok (.iload_n 3, 1) := by decide +kernel
theorem d_Ar_copyOfRangeByte_10 : decode prog_37_method_133_code 10 = .ok (.newarray .byte, 2) := by decide +kernel
theorem d_Ar_copyOfRangeByte_12 : decode prog_37_method_133_code 12 = .ok (.astore 4, 2) := by decide +kernel
theorem d_Ar_copyOfRangeByte_14 : decode prog_37_method_133_code 14 = .ok (.aload_n 0, 1) := by decide +kernel
theorem d_Ar_copyOfRangeByte_15 : decode prog_37_method_133_code 15 = .ok (.iload_n 1, 1) := by decide +kernel
theorem d_Ar_copyOfRangeByte_16 : decode prog_37_method_133_code 16 = .ok (.aload 4, 2) := by decide +kernel
theorem d_Ar_copyOfRangeByte_18 : decode prog_37_method_133_code 18 = .ok (.iconst 0, 1) := by decide +kernel
theorem d_Ar_copyOfRangeByte_19 : decode prog_37_method_133_code 19 = .ok (.aload_n 0, 1) := by decide +kernel
theorem d_Ar_copyOfRangeByte_20 : decode prog_37_method_133_code 20 = .ok (.arraylength, 1) := by decide +kernel
theorem d_Ar_copyOfRangeByte_21 : decode prog_37_method_133_code 21 = .ok (.iload_n 1, 1) := by decide +kernel
theorem d_Ar_copyOfRangeByte_22 : decode prog_37_method_133_code 22 = .ok (.isub, 1) := by decide +kernel
theorem d_Ar_copyOfRangeByte_23 : decode prog_37_method_133_code 23 = .ok (.iload_n 3, 1) := by decide +kernel
theorem d_Ar_copyOfRangeByte_24 : decode prog_37_method_133_code 24 = .ok (.invokestatic 304, 3) := by decide +kernel
theorem d_Ar_copyOfRangeByte_27 : decode prog_37_method_133_code 27 = .ok (.invokestatic 150, 3) := by decide +kernel
theorem d_Ar_copyOfRangeByte_30 : decode prog_37_method_133_code 30 = .ok (.aload 4, 2) := by decide +kernel
theorem d_Ar_copyOfRangeByte_32 : decode prog_37_method_133_code 32 = .ok (.areturn, 1) := by decide +kernel
abbrev m_Ar_copyOfRange : cx_M := (⟨"java/util/Arrays", "copyOfRange", "([BII)[B"⟩, prog_37_method_132_code, 3, (Option.some (Jvm.ClassFile.FieldType.array Jvm.ClassFile.FieldType.byte)), [], [false, false, false])
theorem w_Ar_copyOfRange : cx_W m_Ar_copyOfRange := ⟨Or.inl ⟨(in_2 (List.mem_of_getElem? (i := 194) rfl)), rfl⟩, by decide +kernel, by decide, by decide, by decide +kernel⟩
theorem n_Ar_copyOfRange : (parseMethodDescriptor m_Ar_copyOfRange.1.desc).map (fun d => d.parameters.length) = some 3 := by decide +kernel
theorem d_Ar_copyOfRange_0 : decode prog_37_method_132_code 0 = .ok (.iload_n 1, 1) := by decide +kernel
theorem d_Ar_copyOfRange_1 : decode prog_37_method_132_code 1 = .ok (.ifCond .ne 9, 3) := by decide +kernel
theorem d_Ar_copyOfRange_4 : decode prog_37_method_132_code 4 = .ok (.iload_n 2, 1) := by decide +kernel
theorem d_Ar_copyOfRange_5 : decode prog_37_method_132_code 5 = .ok (.aload_n 0, 1) := by decide +kernel
theorem d_Ar_copyOfRange_6 : decode prog_37_method_132_code 6 = .ok (.arraylength, 1) := by decide +kernel
theorem d_Ar_copyOfRange_7 : decode prog_37_method_132_code 7 = .ok (.if_icmp .eq 10, 3) := by decide +kernel
theorem d_Ar_copyOfRange_10 : decode prog_37_method_132_code 10 = .ok (.aload_n 0, 1) := by decide +kernel
theorem d_Ar_copyOfRange_11 : decode prog_37_method_132_code 11 = .ok (.iload_n 1, 1) := by decide +kernel
theorem d_Ar_copyOfRange_12 : decode prog_37_method_132_code 12 = .ok (.iload_n 2, 1) := by decide +kernel
theorem d_Ar_copyOfRange_13 : decode prog_37_method_132_code 13 = .ok (.invokestatic 339, 3) := by decide +kernel
theorem d_Ar_copyOfRange_16 : decode prog_37_method_132_code 16 = .ok (.areturn, 1) := by decide +kernel
theorem d_Ar_copyOfRange_17 : decode prog_37_method_132_code 17 = .ok (.aload_n 0, 1) := by decide +kernel
theorem d_Ar_copyOfRange_18 : decode prog_37_method_132_code 18 = .ok (.invokevirtual 310, 3) := by decide +kernel
theorem d_Ar_copyOfRange_21 : decode prog_37_method_132_code 21 = .ok (.checkcast 311, 3) := by decide +kernel
theorem d_Ar_copyOfRange_24 : decode prog_37_method_132_code 24 = .ok (.areturn, 1) := by decide +kernel
abbrev m_Ta_copy : cx_M := (⟨"CircuitText$Tape", "copy", "(II)[B"⟩, prog_7_method_4_code, 4, (Option.some (Jvm.ClassFile.FieldType.array Jvm.ClassFile.FieldType.byte)), [], [false, false, false])
theorem w_Ta_copy : cx_W m_Ta_copy := ⟨Or.inl ⟨(in_2 (List.mem_of_getElem? (i := 191) rfl)), rfl⟩, by decide +kernel, by decide, by decide, by decide +kernel⟩
theorem n_Ta_copy : (parseMethodDescriptor m_Ta_copy.1.desc).map (fun d => d.parameters.length) = some 2 := by decide +kernel
theorem d_Ta_copy_0 : decode prog_7_method_4_code 0 = .ok (.iload_n 1, 1) := by decide +kernel
theorem d_Ta_copy_1 : decode prog_7_method_4_code 1 = .ok (.ifCond .lt 20, 3) := by decide +kernel
theorem d_Ta_copy_4 : decode prog_7_method_4_code 4 = .ok (.iload_n 1, 1) := by decide +kernel
theorem d_Ta_copy_5 : decode prog_7_method_4_code 5 = .ok (.iload_n 2, 1) := by decide +kernel
theorem d_Ta_copy_6 : decode prog_7_method_4_code 6 = .ok (.if_icmp .gt 15, 3) := by decide +kernel
theorem d_Ta_copy_9 : decode prog_7_method_4_code 9 = .ok (.iload_n 2, 1) := by decide +kernel
theorem d_Ta_copy_10 : decode prog_7_method_4_code 10 = .ok (.aload_n 0, 1) := by decide +kernel
theorem d_Ta_copy_11 : decode prog_7_method_4_code 11 = .ok (.getfield 15, 3) := by decide +kernel
theorem d_Ta_copy_14 : decode prog_7_method_4_code 14 = .ok (.if_icmp .gt 7, 3) := by decide +kernel
theorem d_Ta_copy_17 : decode prog_7_method_4_code 17 = .ok (.iconst 1, 1) := by decide +kernel
theorem d_Ta_copy_18 : decode prog_7_method_4_code 18 = .ok (.goto 4, 3) := by decide +kernel
theorem d_Ta_copy_21 : decode prog_7_method_4_code 21 = .ok (.iconst 0, 1) := by decide +kernel
theorem d_Ta_copy_22 : decode prog_7_method_4_code 22 = .ok (.istore_n 3, 1) := by decide +kernel
theorem d_Ta_copy_23 : decode prog_7_method_4_code 23 = .ok (.iload_n 3, 1) := by decide +kernel
theorem d_Ta_copy_24 : decode prog_7_method_4_code 24 = .ok (.ifCond .eq 15, 3) := by decide +kernel
theorem d_Ta_copy_27 : decode prog_7_method_4_code 27 = .ok (.aload_n 0, 1) := by decide +kernel
theorem d_Ta_copy_28 : decode prog_7_method_4_code 28 = .ok (.getfield 9, 3) := by decide +kernel
theorem d_Ta_copy_31 : decode prog_7_method_4_code 31 = .ok (.iload_n 1, 1) := by decide +kernel
theorem d_Ta_copy_32 : decode prog_7_method_4_code 32 = .ok (.iload_n 2, 1) := by decide +kernel
theorem d_Ta_copy_33 : decode prog_7_method_4_code 33 = .ok (.invokestatic 25, 3) := by decide +kernel
theorem d_Ta_copy_36 : decode prog_7_method_4_code 36 = .ok (.goto 6, 3) := by decide +kernel
theorem d_Ta_copy_39 : decode prog_7_method_4_code 39 = .ok (.iconst 0, 1) := by decide +kernel
theorem d_Ta_copy_40 : decode prog_7_method_4_code 40 = .ok (.newarray .byte, 2) := by decide +kernel
theorem d_Ta_copy_42 : decode prog_7_method_4_code 42 = .ok (.areturn, 1) := by decide +kernel
theorem l_St_1059 : cx_LS "java/lang/String" 1059 m_Pr_checkIndex := ⟨Or.inl (in_2 (List.mem_of_getElem? (i := 44) rfl)), w_Pr_checkIndex, (in_2 (List.mem_of_getElem? (i := 45) rfl)), (in_1 (List.mem_of_getElem? (i := 23) rfl))⟩
theorem l_SL_9 : cx_LS "java/lang/StringLatin1" 9 m_St_checkIndex := ⟨Or.inl (in_2 (List.mem_of_getElem? (i := 39) rfl)), w_St_checkIndex, (in_2 (List.mem_of_getElem? (i := 40) rfl)), (in_1 (List.mem_of_getElem? (i := 21) rfl))⟩
theorem l_St_495 : cx_LS "java/lang/String" 495 m_SL_charAt := ⟨Or.inl (in_2 (List.mem_of_getElem? (i := 36) rfl)), w_SL_charAt, (in_2 (List.mem_of_getElem? (i := 37) rfl)), (in_1 (List.mem_of_getElem? (i := 22) rfl))⟩
theorem l_SL_88 : cx_LS "java/lang/StringLatin1" 88 m_SL_canEncode := ⟨Or.inl (in_4 (List.mem_of_getElem? (i := 13) rfl)), w_SL_canEncode, (in_4 (List.mem_of_getElem? (i := 14) rfl)), (in_1 (List.mem_of_getElem? (i := 22) rfl))⟩
theorem l_SL_95 : cx_LS "java/lang/StringLatin1" 95 m_SL_indexOfChar := ⟨Or.inl (in_4 (List.mem_of_getElem? (i := 18) rfl)), w_SL_indexOfChar, (in_4 (List.mem_of_getElem? (i := 19) rfl)), (in_1 (List.mem_of_getElem? (i := 22) rfl))⟩
theorem l_St_637 : cx_LS "java/lang/String" 637 m_SL_indexOf := ⟨Or.inl (in_4 (List.mem_of_getElem? (i := 10) rfl)), w_SL_indexOf, (in_4 (List.mem_of_getElem? (i := 11) rfl)), (in_1 (List.mem_of_getElem? (i := 22) rfl))⟩
theorem l_Ar_343 : cx_LS "java/util/Arrays" 343 m_Ar_checkLength := ⟨Or.inl (in_2 (List.mem_of_getElem? (i := 198) rfl)), w_Ar_checkLength, (in_2 (List.mem_of_getElem? (i := 199) rfl)), (in_1 (List.mem_of_getElem? (i := 11) rfl))⟩
theorem l_Ar_339 : cx_LS "java/util/Arrays" 339 m_Ar_copyOfRangeByte := ⟨Or.inl (in_2 (List.mem_of_getElem? (i := 195) rfl)), w_Ar_copyOfRangeByte, (in_2 (List.mem_of_getElem? (i := 196) rfl)), (in_1 (List.mem_of_getElem? (i := 11) rfl))⟩
theorem l_Ta_25 : cx_LS "CircuitText$Tape" 25 m_Ar_copyOfRange := ⟨Or.inl (in_2 (List.mem_of_getElem? (i := 192) rfl)), w_Ar_copyOfRange, (in_2 (List.mem_of_getElem? (i := 193) rfl)), (in_1 (List.mem_of_getElem? (i := 11) rfl))⟩
set_option maxRecDepth 100000 in
theorem c_St_coder {k : cx_K} {l : Launch} {G : cx_G} {i : Nat} (hi : i < 11) : cx_Sp k l m_St_coder 0 [.ref (k.2.2.2.1 i)] G (cx_rd (some (.int 0)) G) := by
  intro E hE
  refine cx_comp hE d_St_coder_0 (in_2 (List.mem_of_getElem? (i := 26) rfl)) ?_
  refine cx_if_eq (tgt := 13) hE d_St_coder_3 (by decide) (fun c_3 => ?_) (fun c_3 => ?_)
  · exact absurd c_3 (by decide)
    -- end
  · refine cx_aload_n (i := 0) hE d_St_coder_6 rfl rfl ?_
    refine cx_litc hE d_St_coder_7 (in_3 (List.mem_of_getElem? (i := 197) rfl)) hi ?_
    refine cx_goto (tgt := 14) hE d_St_coder_10 (by decide) ?_
    refine cx_iret hE d_St_coder_14 rfl rfl ?_
    exact ⟨rfl, rfl⟩
set_option maxRecDepth 100000 in
theorem c_St_isLatin1 {k : cx_K} {l : Launch} {G : cx_G} {i : Nat} (hi : i < 11) : cx_Sp k l m_St_isLatin1 0 [.ref (k.2.2.2.1 i)] G (cx_rd (some (.int 1)) G) := by
  intro E hE
  refine cx_comp hE d_St_isLatin1_0 (in_2 (List.mem_of_getElem? (i := 26) rfl)) ?_
  refine cx_if_eq (tgt := 17) hE d_St_isLatin1_3 (by decide) (fun c_3 => ?_) (fun c_3 => ?_)
  · exact absurd c_3 (by decide)
    -- end
  · refine cx_aload_n (i := 0) hE d_St_isLatin1_6 rfl rfl ?_
    refine cx_litc hE d_St_isLatin1_7 (in_3 (List.mem_of_getElem? (i := 197) rfl)) hi ?_
    refine cx_if_ne (tgt := 17) hE d_St_isLatin1_10 (by decide) (fun c_10 => ?_) (fun c_10 => ?_)
    · exact absurd rfl c_10
      -- end
    · refine cx_iconst (v := 1) hE d_St_isLatin1_13 (by decide) ?_
      refine cx_goto (tgt := 18) hE d_St_isLatin1_14 (by decide) ?_
      refine cx_iret hE d_St_isLatin1_18 rfl rfl ?_
      exact ⟨rfl, rfl⟩
set_option maxRecDepth 100000 in
theorem c_St_length {k : cx_K} {l : Launch} {G : cx_G} {i : Nat} (hi : i < 11) : cx_Sp k l m_St_length 1 [.ref (k.2.2.2.1 i)] G (cx_rd (some (.int (nI (cx_len.getD i 0)))) G) := by
  intro E hE
  refine cx_aload_n (i := 0) hE d_St_length_0 rfl rfl ?_
  refine cx_litv hE d_St_length_1 (in_3 (List.mem_of_getElem? (i := 196) rfl)) hi ?_
  refine cx_litn hE d_St_length_4 hi ?_
  refine cx_aload_n (i := 0) hE d_St_length_5 rfl rfl ?_
  refine cx_invK1 (i := i) hE d_St_length_6 (in_2 (List.mem_of_getElem? (i := 22) rfl)) w_St_coder (in_2 (List.mem_of_getElem? (i := 23) rfl)) (in_2 (List.mem_of_getElem? (i := 24) rfl)) hi (c_St_coder hi) rfl (by omega) (Nat.le_of_ble_eq_true rfl) n_St_coder rfl ?_
  refine cx_ishr hE d_St_length_9 ?_
  refine cx_iret hE d_St_length_10 rfl rfl ?_
  refine ⟨?_, rfl⟩
  rw [sb_shr0]
set_option maxRecDepth 100000 in
theorem c_Pr_checkIndex {k : cx_K} {l : Launch} {G : cx_G} {x n : Nat} {r : Option Nat} (hx : x < n) (hn : n < 2 ^ 31) : cx_Sp k l m_Pr_checkIndex 0 [.int (nI x), .int (nI n), va_rf r] G (cx_rd (some (.int (nI x))) G) := by
  intro E hE
  refine cx_iload_n (i := 0) hE d_Pr_checkIndex_0 rfl rfl ?_
  refine cx_if_lt (tgt := 9) hE d_Pr_checkIndex_1 (by decide) (fun c_1 => ?_) (fun c_1 => ?_)
  · exact absurd c_1 (nI_pos (by omega))
    -- end
  · refine cx_iload_n (i := 0) hE d_Pr_checkIndex_4 rfl rfl ?_
    refine cx_iload_n (i := 1) hE d_Pr_checkIndex_5 rfl rfl ?_
    refine cx_icmp_lt (tgt := 16) hE d_Pr_checkIndex_6 (by decide) (fun c_6 => ?_) (fun c_6 => ?_)
    · refine cx_iload_n (i := 0) hE d_Pr_checkIndex_16 rfl rfl ?_
      refine cx_iret hE d_Pr_checkIndex_17 rfl rfl ?_
      exact ⟨rfl, rfl⟩
    · exact absurd (nI_lt hx hn) c_6
      -- end
set_option maxRecDepth 100000 in
theorem c_St_checkIndex {k : cx_K} {l : Launch} {G : cx_G} {x n : Nat} (hx : x < n) (hn : n < 2 ^ 31) : cx_Sp k l m_St_checkIndex 1 [.int (nI x), .int (nI n)] G (cx_rd none G) := by
  intro E hE
  refine cx_iload_n (i := 0) hE d_St_checkIndex_0 rfl rfl ?_
  refine cx_iload_n (i := 1) hE d_St_checkIndex_1 rfl rfl ?_
  refine cx_sioo hE d_St_checkIndex_2 (in_2 (List.mem_of_getElem? (i := 42) rfl)) (fun r => ?_)
  refine cx_invS1 hE d_St_checkIndex_5 l_St_1059 (c_Pr_checkIndex (r := r) hx hn) rfl (by omega) (Nat.le_of_ble_eq_true rfl) n_Pr_checkIndex (by first | rfl | (simp only [List.map_cons, List.map_nil, cx_rfc]; rfl)) ?_
  refine cx_pop hE d_St_checkIndex_8 ?_
  refine cx_vret hE d_St_checkIndex_9 rfl ?_
  exact ⟨rfl, rfl⟩
theorem cx_chc {i j : Nat} (hi : i < 11) (hj : j < cx_len.getD i 0) : ((cx_ch i j).toUInt32 % 65536).toInt32 = cx_ch i j := by
  have h9 := (cx_ch_ok hi hj).2.2
  obtain ⟨z, hz1, hz2⟩ := nI_of (x := cx_ch i j) (by rw [Int32.lt_iff_toInt_lt]; simp only [Int32.reduceToInt]; omega)
  rw [hz2] at h9 ⊢
  rw [nI_toInt hz1] at h9
  rw [pk_char, pk_tn (by omega), Nat.mod_eq_of_lt (by omega)]
theorem cx_chn {i j : Nat} (hi : i < 11) (hj : j < cx_len.getD i 0) : narrow .char (.int (cx_ch i j)) = .int (cx_ch i j) := by
  have h9 := pk_nc (cx_ch i j)
  rw [cx_chc hi hj] at h9
  exact h9
set_option maxRecDepth 100000 in
theorem c_SL_charAt {k : cx_K} {l : Launch} {G : cx_G} {i j : Nat} (hi : i < 11) (hj : j < cx_len.getD i 0) : cx_Sp k l m_SL_charAt 2 [.ref (k.2.2.2.2.1 i), .int (nI j)] G (cx_rd (some (.int (cx_ch i j))) G) := by
  intro E hE
  refine cx_iload_n (i := 1) hE d_SL_charAt_0 rfl rfl ?_
  refine cx_aload_n (i := 0) hE d_SL_charAt_1 rfl rfl ?_
  refine cx_litn hE d_SL_charAt_2 hi ?_
  refine cx_invS0 hE d_SL_charAt_3 l_SL_9 (c_St_checkIndex hj (by have := cx_len_lt hi; omega)) rfl (by omega) (Nat.le_of_ble_eq_true rfl) n_St_checkIndex (by first | rfl | (simp only [List.map_cons, List.map_nil, cx_rfc]; rfl)) ?_
  refine cx_aload_n (i := 0) hE d_SL_charAt_6 rfl rfl ?_
  refine cx_iload_n (i := 1) hE d_SL_charAt_7 rfl rfl ?_
  refine cx_litb hE d_SL_charAt_8 hi (vp_in_nI hj (by have := cx_len_lt hi; omega)) ?_
  rw [nI_clamp (by have := cx_len_lt hi; omega)]
  show cx_V E _ _ (.int (cx_ch i j) :: _) G
  refine cx_sipush (v := 255) hE d_SL_charAt_9 (by decide) ?_
  refine cx_iand hE d_SL_charAt_12 ?_
  rw [(cx_ch_ok hi hj).1]
  refine cx_i2c hE d_SL_charAt_13 ?_
  rw [cx_chc hi hj]
  refine cx_iret hE d_SL_charAt_14 rfl (cx_chn hi hj) ?_
  exact ⟨rfl, rfl⟩
set_option maxRecDepth 100000 in
theorem c_St_charAt {k : cx_K} {l : Launch} {G : cx_G} {i j : Nat} (hi : i < 11) (hj : j < cx_len.getD i 0) : cx_Sp k l m_St_charAt 3 [.ref (k.2.2.2.1 i), .int (nI j)] G (cx_rd (some (.int (cx_ch i j))) G) := by
  intro E hE
  refine cx_aload_n (i := 0) hE d_St_charAt_0 rfl rfl ?_
  refine cx_invK1 (i := i) hE d_St_charAt_1 (in_2 (List.mem_of_getElem? (i := 32) rfl)) w_St_isLatin1 (in_2 (List.mem_of_getElem? (i := 33) rfl)) (in_2 (List.mem_of_getElem? (i := 34) rfl)) hi (c_St_isLatin1 hi) rfl (by omega) (Nat.le_of_ble_eq_true rfl) n_St_isLatin1 rfl ?_
  refine cx_if_eq (tgt := 16) hE d_St_charAt_4 (by decide) (fun c_4 => ?_) (fun c_4 => ?_)
  · exact absurd c_4 (by decide)
    -- end
  · refine cx_aload_n (i := 0) hE d_St_charAt_7 rfl rfl ?_
    refine cx_litv hE d_St_charAt_8 (in_3 (List.mem_of_getElem? (i := 196) rfl)) hi ?_
    refine cx_iload_n (i := 1) hE d_St_charAt_11 rfl rfl ?_
    refine cx_invS1 hE d_St_charAt_12 l_St_495 (c_SL_charAt hi hj) rfl (by omega) (Nat.le_of_ble_eq_true rfl) n_SL_charAt (by first | rfl | (simp only [List.map_cons, List.map_nil, cx_rfc]; rfl)) ?_
    refine cx_iret hE d_St_charAt_15 rfl (cx_chn hi hj) ?_
    exact ⟨rfl, rfl⟩
set_option maxRecDepth 100000 in
theorem c_SL_canEncode {k : cx_K} {l : Launch} {G : cx_G} (c : Int32) : cx_Sp k l m_SL_canEncode 0 [.int c] G (cx_rd (some (.int (cx_b (decide (0 ≤ c.toInt ∧ c.toInt ≤ 255))))) G) := by
  intro E hE
  refine cx_iload_n (i := 0) hE d_SL_canEncode_0 rfl rfl ?_
  refine cx_if_lt (tgt := 15) hE d_SL_canEncode_1 (by decide) (fun c_1 => ?_) (fun c_1 => ?_)
  · refine cx_iconst (v := 0) hE d_SL_canEncode_15 (by decide) ?_
    refine cx_iret hE d_SL_canEncode_16 rfl rfl ?_
    clear hE
    refine ⟨?_, rfl⟩
    simp only [Int32.lt_iff_toInt_lt, Int32.le_iff_toInt_le, Int32.reduceToInt] at *
    first
      | (rw [show decide (0 ≤ c.toInt ∧ c.toInt ≤ 255) = true from decide_eq_true (by omega)]; rfl)
      | (rw [show decide (0 ≤ c.toInt ∧ c.toInt ≤ 255) = false from decide_eq_false (by omega)]; rfl)
  · refine cx_iload_n (i := 0) hE d_SL_canEncode_4 rfl rfl ?_
    refine cx_sipush (v := 255) hE d_SL_canEncode_5 (by decide) ?_
    refine cx_icmp_gt (tgt := 15) hE d_SL_canEncode_8 (by decide) (fun c_8 => ?_) (fun c_8 => ?_)
    · refine cx_iconst (v := 0) hE d_SL_canEncode_15 (by decide) ?_
      refine cx_iret hE d_SL_canEncode_16 rfl rfl ?_
      clear hE
      refine ⟨?_, rfl⟩
      simp only [Int32.lt_iff_toInt_lt, Int32.le_iff_toInt_le, Int32.reduceToInt] at *
      first
        | (rw [show decide (0 ≤ c.toInt ∧ c.toInt ≤ 255) = true from decide_eq_true (by omega)]; rfl)
        | (rw [show decide (0 ≤ c.toInt ∧ c.toInt ≤ 255) = false from decide_eq_false (by omega)]; rfl)
    · refine cx_iconst (v := 1) hE d_SL_canEncode_11 (by decide) ?_
      refine cx_goto (tgt := 16) hE d_SL_canEncode_12 (by decide) ?_
      refine cx_iret hE d_SL_canEncode_16 rfl rfl ?_
      clear hE
      refine ⟨?_, rfl⟩
      simp only [Int32.lt_iff_toInt_lt, Int32.le_iff_toInt_le, Int32.reduceToInt] at *
      first
        | (rw [show decide (0 ≤ c.toInt ∧ c.toInt ≤ 255) = true from decide_eq_true (by omega)]; rfl)
        | (rw [show decide (0 ≤ c.toInt ∧ c.toInt ≤ 255) = false from decide_eq_false (by omega)]; rfl)
/-- where the char c stands in the literal i, from j on -/
def cx_ixf (i : Nat) (c : Int32) : Nat → Nat → Int32
  | 0, _ => -1
  | m + 1, j => if cx_ch i j = c then nI j else cx_ixf i c m (j + 1)
def cx_ix (i : Nat) (c : Int32) : Int32 := cx_ixf i c (cx_len.getD i 0) 0
set_option maxRecDepth 100000 in
theorem c_SL_indexOfChar {k : cx_K} {l : Launch} {G : cx_G} {i : Nat} {c : Int32} {ch : Nat} (hi : i < 11) (hch : ch < 256) (hc : c = nI ch) : cx_Sp k l m_SL_indexOfChar 0 [.ref (k.2.2.2.2.1 i), .int c, .int 0, .int (nI (cx_len.getD i 0))] G (cx_rd (some (.int (cx_ix i c))) G) := by
  intro E hE
  have hlt := cx_len_lt hi
  have hq : ∀ j, j < cx_len.getD i 0 → (cx_ch i j = c.toInt8.toInt32 ↔ cx_ch i j = c) := fun j hj => by
    have h9 := cx_ch_ok hi hj
    rw [hc, sc_eq h9.2.1 hch, h9.1]
  have hloop : ∀ (m j : Nat), j + m = cx_len.getD i 0 → cx_ixf i c m j = cx_ix i c → cx_V E 7 [(5, false, .int (nI j)), (4, false, .int c.toInt8.toInt32), (0, false, .ref (k.2.2.2.2.1 i)), (1, false, .int c), (2, false, .int 0), (3, false, .int (nI (cx_len.getD i 0)))] [] G := by
    intro m
    induction m with
    | zero =>
      intro j hj hr
      refine cx_iload hE d_SL_indexOfChar_7 rfl ?_
      refine cx_iload_n (i := 3) hE d_SL_indexOfChar_9 rfl rfl ?_
      refine cx_icmp_ge (tgt := 31) hE d_SL_indexOfChar_10 (by decide) (fun c_10 => ?_) (fun c_10 => ?_)
      · refine cx_iconst (v := -1) hE d_SL_indexOfChar_31 (by decide) ?_
        refine cx_iret hE d_SL_indexOfChar_32 rfl rfl ?_
        exact ⟨by rw [← hr]; rfl, rfl⟩
      · exact absurd (nI_le (by omega) (by omega)) c_10
        -- end
    | succ m ih =>
      intro j hj hr
      refine cx_iload hE d_SL_indexOfChar_7 rfl ?_
      refine cx_iload_n (i := 3) hE d_SL_indexOfChar_9 rfl rfl ?_
      refine cx_icmp_ge (tgt := 31) hE d_SL_indexOfChar_10 (by decide) (fun c_10 => ?_) (fun c_10 => ?_)
      · exact absurd c_10 (nI_ge (by omega) (by omega))
        -- end
      · refine cx_aload_n (i := 0) hE d_SL_indexOfChar_13 rfl rfl ?_
        refine cx_iload hE d_SL_indexOfChar_14 rfl ?_
        refine cx_litb hE d_SL_indexOfChar_16 hi (vp_in_nI (by omega) (by omega)) ?_
        rw [nI_clamp (by omega)]
        show cx_V E _ _ (.int (cx_ch i j) :: _) G
        refine cx_iload hE d_SL_indexOfChar_17 rfl ?_
        refine cx_icmp_ne (tgt := 25) hE d_SL_indexOfChar_19 (by decide) (fun c_19 => ?_) (fun c_19 => ?_)
        · have q_19 : ¬ cx_ch i j = c := fun z => c_19 ((hq j (by omega)).mpr z)
          refine cx_iinc (v := nI (j + 1)) hE d_SL_indexOfChar_25 rfl (nI_1 _) (by decide) ?_
          refine cx_goto (tgt := 7) hE d_SL_indexOfChar_28 (by decide) ?_
          refine cx_sub [0, 1, 2, 3, 4, 5] rfl ?_
          exact ih (j + 1) (by omega) (by rw [← hr, cx_ixf, if_neg q_19])
        · have q_19 : cx_ch i j = c := (hq j (by omega)).mp c_19
          refine cx_iload hE d_SL_indexOfChar_22 rfl ?_
          refine cx_iret hE d_SL_indexOfChar_24 rfl rfl ?_
          exact ⟨by rw [← hr, cx_ixf, if_pos q_19], rfl⟩
  refine cx_iload_n (i := 1) hE d_SL_indexOfChar_0 rfl rfl ?_
  refine cx_i2b hE d_SL_indexOfChar_1 ?_
  refine cx_istore hE d_SL_indexOfChar_2 (by decide) ?_
  refine cx_iload_n (i := 2) hE d_SL_indexOfChar_4 rfl rfl ?_
  refine cx_istore hE d_SL_indexOfChar_5 (by decide) ?_
  refine cx_sub [0, 1, 2, 3, 4, 5] rfl ?_
  exact hloop (cx_len.getD i 0) 0 (Nat.zero_add _) rfl
set_option maxRecDepth 100000 in
theorem c_SL_indexOf {k : cx_K} {l : Launch} {G : cx_G} {i : Nat} {c : Int32} {ch : Nat} (hi : i < 11) (hch : ch < 256) (hc : c = nI ch) : cx_Sp k l m_SL_indexOf 1 [.ref (k.2.2.2.2.1 i), .int c, .int 0, .int (nI (cx_len.getD i 0))] G (cx_rd (some (.int (cx_ix i c))) G) := by
  intro E hE
  refine cx_iload_n (i := 1) hE d_SL_indexOf_0 rfl rfl ?_
  refine cx_invS1 hE d_SL_indexOf_1 l_SL_88 (c_SL_canEncode c) rfl (by omega) (Nat.le_of_ble_eq_true rfl) n_SL_canEncode (by first | rfl | (simp only [List.map_cons, List.map_nil, cx_rfc]; rfl)) ?_
  refine cx_if_ne (tgt := 9) hE d_SL_indexOf_4 (by decide) (fun c_4 => ?_) (fun c_4 => ?_)
  · refine cx_iload_n (i := 2) hE d_SL_indexOf_9 rfl rfl ?_
    refine cx_iconst (v := 0) hE d_SL_indexOf_10 (by decide) ?_
    refine cx_mmax hE d_SL_indexOf_11 (in_4 (List.mem_of_getElem? (i := 16) rfl)) (in_3 (List.mem_of_getElem? (i := 55) rfl)) (in_1 (List.mem_of_getElem? (i := 12) rfl)) (in_3 (List.mem_of_getElem? (i := 56) rfl)) (by omega) (Nat.le_of_ble_eq_true rfl) ?_
    rw [if_neg (by decide)]
    refine cx_istore_n (i := 2) hE d_SL_indexOf_14 rfl (by decide) ?_
    refine cx_iload_n (i := 3) hE d_SL_indexOf_15 rfl rfl ?_
    refine cx_aload_n (i := 0) hE d_SL_indexOf_16 rfl rfl ?_
    refine cx_litn hE d_SL_indexOf_17 hi ?_
    refine cx_mmin hE d_SL_indexOf_18 (in_4 (List.mem_of_getElem? (i := 17) rfl)) (in_2 (List.mem_of_getElem? (i := 171) rfl)) (in_1 (List.mem_of_getElem? (i := 12) rfl)) (in_2 (List.mem_of_getElem? (i := 172) rfl)) (by omega) (Nat.le_of_ble_eq_true rfl) ?_
    rw [if_neg (nI_nlt (Nat.le_refl _) (by have := cx_len_lt hi; omega))]
    refine cx_istore_n (i := 3) hE d_SL_indexOf_21 rfl (by decide) ?_
    refine cx_iload_n (i := 2) hE d_SL_indexOf_22 rfl rfl ?_
    refine cx_iload_n (i := 3) hE d_SL_indexOf_23 rfl rfl ?_
    refine cx_icmp_lt (tgt := 29) hE d_SL_indexOf_24 (by decide) (fun c_24 => ?_) (fun c_24 => ?_)
    · refine cx_aload_n (i := 0) hE d_SL_indexOf_29 rfl rfl ?_
      refine cx_iload_n (i := 1) hE d_SL_indexOf_30 rfl rfl ?_
      refine cx_iload_n (i := 2) hE d_SL_indexOf_31 rfl rfl ?_
      refine cx_iload_n (i := 3) hE d_SL_indexOf_32 rfl rfl ?_
      refine cx_invS1 hE d_SL_indexOf_33 l_SL_95 (c_SL_indexOfChar hi hch hc) rfl (by omega) (Nat.le_of_ble_eq_true rfl) n_SL_indexOfChar (by first | rfl | (simp only [List.map_cons, List.map_nil, cx_rfc]; rfl)) ?_
      refine cx_iret hE d_SL_indexOf_36 rfl rfl ?_
      exact ⟨rfl, rfl⟩
    · have q_24 : cx_len.getD i 0 = 0 := by
        rcases Nat.eq_zero_or_pos (cx_len.getD i 0) with z | z
        · exact z
        · exact absurd (nI_lt (a := 0) (b := cx_len.getD i 0) z (by have := cx_len_lt hi; omega)) c_24
      refine cx_iconst (v := -1) hE d_SL_indexOf_27 (by decide) ?_
      refine cx_iret hE d_SL_indexOf_28 rfl rfl ?_
      refine ⟨?_, rfl⟩
      rw [cx_ix, q_24]
      rfl
  · have q_4 : decide (0 ≤ c.toInt ∧ c.toInt ≤ 255) = true := decide_eq_true (by rw [hc, nI_toInt (by omega)]; omega)
    exact absurd c_4 (cx_bn.mpr q_4)
    -- end
set_option maxRecDepth 100000 in
theorem c_St_indexOf2 {k : cx_K} {l : Launch} {G : cx_G} {i : Nat} {c : Int32} {ch : Nat} (hi : i < 11) (hch : ch < 256) (hc : c = nI ch) : cx_Sp k l m_St_indexOf2 2 [.ref (k.2.2.2.1 i), .int c, .int 0] G (cx_rd (some (.int (cx_ix i c))) G) := by
  intro E hE
  refine cx_aload_n (i := 0) hE d_St_indexOf2_0 rfl rfl ?_
  refine cx_invK1 (i := i) hE d_St_indexOf2_1 (in_2 (List.mem_of_getElem? (i := 32) rfl)) w_St_isLatin1 (in_2 (List.mem_of_getElem? (i := 33) rfl)) (in_2 (List.mem_of_getElem? (i := 34) rfl)) hi (c_St_isLatin1 hi) rfl (by omega) (Nat.le_of_ble_eq_true rfl) n_St_isLatin1 rfl ?_
  refine cx_if_eq (tgt := 23) hE d_St_indexOf2_4 (by decide) (fun c_4 => ?_) (fun c_4 => ?_)
  · exact absurd c_4 (by decide)
    -- end
  · refine cx_aload_n (i := 0) hE d_St_indexOf2_7 rfl rfl ?_
    refine cx_litv hE d_St_indexOf2_8 (in_3 (List.mem_of_getElem? (i := 196) rfl)) hi ?_
    refine cx_iload_n (i := 1) hE d_St_indexOf2_11 rfl rfl ?_
    refine cx_iload_n (i := 2) hE d_St_indexOf2_12 rfl rfl ?_
    refine cx_aload_n (i := 0) hE d_St_indexOf2_13 rfl rfl ?_
    refine cx_invK1 (i := i) hE d_St_indexOf2_14 (in_4 (List.mem_of_getElem? (i := 9) rfl)) w_St_length (in_2 (List.mem_of_getElem? (i := 19) rfl)) (in_2 (List.mem_of_getElem? (i := 20) rfl)) hi (c_St_length hi) rfl (by omega) (Nat.le_of_ble_eq_true rfl) n_St_length rfl ?_
    refine cx_invS1 hE d_St_indexOf2_17 l_St_637 (c_SL_indexOf hi hch hc) rfl (by omega) (Nat.le_of_ble_eq_true rfl) n_SL_indexOf (by first | rfl | (simp only [List.map_cons, List.map_nil, cx_rfc]; rfl)) ?_
    refine cx_goto (tgt := 36) hE d_St_indexOf2_20 (by decide) ?_
    refine cx_iret hE d_St_indexOf2_36 rfl rfl ?_
    exact ⟨rfl, rfl⟩
set_option maxRecDepth 100000 in
theorem c_St_indexOf1 {k : cx_K} {l : Launch} {G : cx_G} {i : Nat} {c : Int32} {ch : Nat} (hi : i < 11) (hch : ch < 256) (hc : c = nI ch) : cx_Sp k l m_St_indexOf1 3 [.ref (k.2.2.2.1 i), .int c] G (cx_rd (some (.int (cx_ix i c))) G) := by
  intro E hE
  refine cx_aload_n (i := 0) hE d_St_indexOf1_0 rfl rfl ?_
  refine cx_iload_n (i := 1) hE d_St_indexOf1_1 rfl rfl ?_
  refine cx_iconst (v := 0) hE d_St_indexOf1_2 (by decide) ?_
  refine cx_invK1 (i := i) hE d_St_indexOf1_3 (in_4 (List.mem_of_getElem? (i := 5) rfl)) w_St_indexOf2 (in_4 (List.mem_of_getElem? (i := 6) rfl)) (in_4 (List.mem_of_getElem? (i := 7) rfl)) hi (c_St_indexOf2 hi hch hc) rfl (by omega) (Nat.le_of_ble_eq_true rfl) n_St_indexOf2 rfl ?_
  refine cx_iret hE d_St_indexOf1_6 rfl rfl ?_
  exact ⟨rfl, rfl⟩
theorem cx_clone {E : cx_E} {k : cx_K} {l : Launch} {fr : Nat} {M : cx_M} {G0 : cx_G} {Post : cx_R → cx_G → Prop} {pc : Nat} {lv : cx_L} {st : List Value} {G : cx_G} {idx a n : Nat} {f : Nat → Int32} (hE : cx_C E k l fr M G0 Post) (hd : decode M.2.1 pc = .ok (.invokevirtual idx, 3)) (hl : Cond.methodLink M.1.cls idx ⟨"[B", "clone", "()Ljava/lang/Object;"⟩ ∈ lw_tbl) (hG : G.1 a = some (.inl (k.2.1 0, n, .inl f))) (hf : ∀ j, fits .byte (.int (f j)) = true) (hfr : 1 ≤ fr) (hw : (st.map fun v => v.category).sum ≤ 8) (hn1 : G.2.1 + 1 ≤ room_1.cells) (hn2 : G.2.2 + n ≤ room_1.slots)
    (h : ∀ q, G.1 q = none → k.2.2.1 ≤ q → cx_V E (pc + 3) lv (.ref q :: st) (cx_mk G q (.inl (k.2.1 0, n, .inl f)) n)) : cx_V E pc lv (.ref a :: st) G := by
  obtain ⟨k', ⟨p, l', e, R, s, m, args, below, meth, c⟩, nL', fr', c0, s0, Q⟩ := E
  obtain ⟨hx, hb, hml, rfl, hown, hSt, rfl, hOd, hb0, hRf, hRl, hrc, hrs, -, -, -, -, -, -, rfl, rfl, -⟩ := hE
  intro H locs ls cells slots g1 g2 g3 g4 g5
  obtain ⟨ws, q0, hP, hD, hws, hq0⟩ := g1.look hG
  refine va_clone hx hb (by rw [hml]; exact g3.1.1.symm) hown (hSt.1 _ hl rfl args) (hSt.1 _ (in_3 (List.mem_of_getElem? (i := 66) rfl)) rfl args) (hSt.1 _ (in_3 (List.mem_of_getElem? (i := 67) rfl)) rfl args) (hSt.1 _ (in_3 (List.mem_of_getElem? (i := 68) rfl)) rfl args) (hSt.1 _ (in_3 (List.mem_of_getElem? (i := 69) rfl)) rfl args) (va_Nw.of rfl (hSt.1 _ (in_3 (List.mem_of_getElem? (i := 70) rfl)) rfl args)) hSt.2.1 hP hD g2 (fun q hq => Nat.le_trans hb0 hq) q0 0 hq0 rfl (hSt.2.1.2 0 _ rfl).2 ?_ (by omega) (by omega) (by omega) (by show slots + n ≤ R.slots; omega) hd (fun q H1 hK1 hP1 hD1 hS1 => ?_)
  · intro i v hv
    have e9 : vp_cell (k'.2.1 0) (n, .inl f) = arrV (k'.2.1 0) n (fun j => .int (f j)) := rfl
    rw [e9] at hv
    have hi : i < n := by
      have := (Array.getElem?_eq_some_iff.mp hv).1
      rw [arrV_size] at this
      exact this
    rw [arrV_read _ _ hi] at hv
    cases hv
    exact hf i
  · obtain ⟨y1, y2, y3⟩ := cx_H.push (G := G) (n := n) hn1 hn2 hws hP1 hD1
    exact h q y2 y3 H1 locs ls (cells + 1) (slots + n) y1 hS1 g3 (by show _ = G.2.1 + 1; omega) (by show _ = G.2.2 + n; omega)
/-- a new array of m bytes, h's -/
def tx_nb (k : cx_K) (G : cx_G) (m : Nat) (h : Nat → Int32) : cx_R → cx_G → Prop := fun r G' => ∃ a g, r = .inl (some (.ref a)) ∧ G.1 a = none ∧ cx_ext G G' ∧ G'.1 a = some (.inl (k.2.1 0, m, .inl g)) ∧ (∀ j, j < m → g j = h j) ∧ (∀ j, fits .byte (.int (g j)) = true) ∧ G'.2.1 = G.2.1 + 1 ∧ G'.2.2 = G.2.2 + m
theorem cx_fit0 : fits .byte (.int 0) = true := rfl
theorem cx_fitc {f g : Nat → Int32} {sp dp n : Nat} (hf : ∀ j, fits .byte (.int (f j)) = true) (hg : ∀ j, fits .byte (.int (g j)) = true) : ∀ j, fits .byte (.int (va_cpy f g sp dp n j)) = true := by
  intro j
  by_cases h : dp ≤ j ∧ j < dp + n
  · rw [pk_cpy_in h.1 h.2]; exact hf _
  · rw [pk_cpy_out (by omega)]; exact hg _
set_option maxRecDepth 100000 in
theorem c_Ar_checkLength {k : cx_K} {l : Launch} {G : cx_G} {a b : Nat} (hab : a ≤ b) (hb : b < 2 ^ 31) : cx_Sp k l m_Ar_checkLength 0 [.int (nI a), .int (nI b)] G (cx_rd none G) := by
  intro E hE
  refine cx_iload_n (i := 1) hE d_Ar_checkLength_0 rfl rfl ?_
  refine cx_iload_n (i := 0) hE d_Ar_checkLength_1 rfl rfl ?_
  refine cx_icmp_ge (tgt := 37) hE d_Ar_checkLength_2 (by decide) (fun c_2 => ?_) (fun c_2 => ?_)
  · refine cx_vret hE d_Ar_checkLength_37 rfl ?_
    exact ⟨rfl, rfl⟩
  · exact absurd (nI_le hab hb) c_2
    -- end
set_option maxRecDepth 100000 in
theorem c_Ar_copyOfRangeByte {k : cx_K} {l : Launch} {G : cx_G} {b n a m : Nat} {f : Nat → Int32} (hG : G.1 b = some (.inl (k.2.1 0, n, .inl f))) (hf : ∀ j, fits .byte (.int (f j)) = true) (ham : a + m ≤ n) (hn : n ≤ 1048576) (r1 : G.2.1 + 1 ≤ 601024) (r2 : G.2.2 + m ≤ 7293034) : cx_Sp k l m_Ar_copyOfRangeByte 1 [.ref b, .int (nI a), .int (nI (a + m))] G (tx_nb k G m (fun j => f (a + j))) := by
  intro E hE
  refine cx_iload_n (i := 1) hE d_Ar_copyOfRangeByte_0 rfl rfl ?_
  refine cx_iload_n (i := 2) hE d_Ar_copyOfRangeByte_1 rfl rfl ?_
  refine cx_invS0 hE d_Ar_copyOfRangeByte_2 l_Ar_343 (c_Ar_checkLength (by omega) (by omega)) rfl (by omega) (Nat.le_of_ble_eq_true rfl) n_Ar_checkLength (by first | rfl | (simp only [List.map_cons, List.map_nil, cx_rfc]; rfl)) ?_
  refine cx_iload_n (i := 2) hE d_Ar_copyOfRangeByte_5 rfl rfl ?_
  refine cx_iload_n (i := 1) hE d_Ar_copyOfRangeByte_6 rfl rfl ?_
  refine cx_isub hE d_Ar_copyOfRangeByte_7 ?_
  rw [pk_sub (by omega), Nat.add_sub_cancel_left]
  refine cx_istore_n (i := 3) hE d_Ar_copyOfRangeByte_8 rfl (by decide) ?_
  refine cx_iload_n (i := 3) hE d_Ar_copyOfRangeByte_9 rfl rfl ?_
  refine cx_newa 0 (a0 := (m, .inl (fun _ => 0))) (N' := m) hE d_Ar_copyOfRangeByte_10 (in_1 (List.mem_of_getElem? (i := 60) rfl)) rfl rfl (fun _ => rfl) (nI_pos (by omega)) (nI_clamp (by omega)) (by show m * 1 ≤ _; omega) (by show _ ≤ 601024; omega) (by show _ ≤ 7293034; omega) (fun a_10 n_10 b_10 => ?_)
  refine cx_gen (fun G_10 g_10 => ?_)
  have h_10 := cx_ms g_10
  have hb_10 := cx_mn g_10 n_10 hG
  refine cx_astore hE d_Ar_copyOfRangeByte_12 (by decide) ?_
  refine cx_aload_n (i := 0) hE d_Ar_copyOfRangeByte_14 rfl rfl ?_
  refine cx_iload_n (i := 1) hE d_Ar_copyOfRangeByte_15 rfl rfl ?_
  refine cx_aload hE d_Ar_copyOfRangeByte_16 rfl ?_
  refine cx_iconst (v := 0) hE d_Ar_copyOfRangeByte_18 (by decide) ?_
  refine cx_aload_n (i := 0) hE d_Ar_copyOfRangeByte_19 rfl rfl ?_
  refine cx_alen 0 hE d_Ar_copyOfRangeByte_20 rfl (by assumption) rfl ?_
  refine cx_iload_n (i := 1) hE d_Ar_copyOfRangeByte_21 rfl rfl ?_
  refine cx_isub hE d_Ar_copyOfRangeByte_22 ?_
  rw [show Int32.ofNat n = nI n from rfl, pk_sub (by omega)]
  refine cx_iload_n (i := 3) hE d_Ar_copyOfRangeByte_23 rfl rfl ?_
  refine cx_mmin hE d_Ar_copyOfRangeByte_24 (in_3 (List.mem_of_getElem? (i := 72) rfl)) (in_2 (List.mem_of_getElem? (i := 171) rfl)) (in_1 (List.mem_of_getElem? (i := 12) rfl)) (in_2 (List.mem_of_getElem? (i := 172) rfl)) (by omega) (Nat.le_of_ble_eq_true rfl) ?_
  rw [tx_min (by omega) (by omega), Nat.min_eq_right (by omega)]
  refine cx_copyb hE d_Ar_copyOfRangeByte_27 (in_3 (List.mem_of_getElem? (i := 73) rfl)) (in_3 (List.mem_of_getElem? (i := 75) rfl)) (in_3 (List.mem_of_getElem? (i := 74) rfl)) (in_1 (List.mem_of_getElem? (i := 13) rfl)) hb_10 h_10 (by omega) (by omega) (by omega) (sp := a) (dp := 0) (n := m) (by omega) (by omega) (fun i _ => hf _) (by omega) (Nat.le_of_ble_eq_true rfl) ?_
  refine cx_aload hE d_Ar_copyOfRangeByte_30 rfl ?_
  refine cx_aret (r := some a_10) hE d_Ar_copyOfRangeByte_32 rfl (by first | exact Or.inl ⟨_, rfl⟩ | exact Or.inr ⟨_, rfl⟩) ?_
  subst g_10
  refine ⟨_, _, rfl, n_10, ?_, cx_ps rfl, fun j hj => ?_, cx_fitc hf (fun _ => cx_fit0), rfl, rfl⟩
  · rw [cx_mp]
    exact cx_ext.mk n_10
  · rw [pk_cpy_in (by omega) (by omega), Nat.sub_zero]

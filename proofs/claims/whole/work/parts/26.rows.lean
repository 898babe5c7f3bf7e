/-! MEANING: the rows of its methods. -/
abbrev m_Me_moduleOf : cx_M := (⟨"CircuitText$Meaning", "moduleOf", "(LCircuitText$Token;)LCircuitText$Unit;"⟩, prog_4_method_7_code, 1, (Option.some (Jvm.ClassFile.FieldType.object "CircuitText$Unit")), [], [false])
theorem w_Me_moduleOf : cx_W m_Me_moduleOf := ⟨Or.inl ⟨(in_4 (List.mem_of_getElem? (i := 98) rfl)), rfl⟩, by decide +kernel, by decide, by decide, by decide +kernel⟩
theorem n_Me_moduleOf : (parseMethodDescriptor m_Me_moduleOf.1.desc).map (fun d => d.parameters.length) = some 1 := by decide +kernel
theorem d_Me_moduleOf_0 : decode prog_4_method_7_code 0 = .ok (.aload_n 0, 1) := by decide +kernel
theorem d_Me_moduleOf_1 : decode prog_4_method_7_code 1 = .ok (.getfield 89, 3) := by decide +kernel
theorem d_Me_moduleOf_4 : decode prog_4_method_7_code 4 = .ok (.ifnonnull 7, 3) := by decide +kernel
theorem d_Me_moduleOf_7 : decode prog_4_method_7_code 7 = .ok (.aconst_null, 1) := by decide +kernel
theorem d_Me_moduleOf_8 : decode prog_4_method_7_code 8 = .ok (.goto 10, 3) := by decide +kernel
theorem d_Me_moduleOf_11 : decode prog_4_method_7_code 11 = .ok (.aload_n 0, 1) := by decide +kernel
theorem d_Me_moduleOf_12 : decode prog_4_method_7_code 12 = .ok (.getfield 89, 3) := by decide +kernel
theorem d_Me_moduleOf_15 : decode prog_4_method_7_code 15 = .ok (.getfield 80, 3) := by decide +kernel
theorem d_Me_moduleOf_18 : decode prog_4_method_7_code 18 = .ok (.areturn, 1) := by decide +kernel
theorem f_Me_89 : cx_F "CircuitText$Meaning" 89 7 4 (.object "CircuitText$Word") false := ⟨_, F_To, 7, t_To, k_To, by decide, rfl, rfl, Or.inr ⟨"CircuitText", (in_1 (List.mem_of_getElem? (i := 152) rfl))⟩⟩
theorem f_Me_80 : cx_F "CircuitText$Meaning" 80 10 3 (.object "CircuitText$Unit") false := ⟨_, F_Wd, 5, t_Wd, k_Wd, by decide, rfl, rfl, Or.inr ⟨"CircuitText", (in_2 (List.mem_of_getElem? (i := 90) rfl))⟩⟩
abbrev m_Me_declaredAs : cx_M := (⟨"CircuitText$Meaning", "declaredAs", "(LCircuitText$Token;)LCircuitText$Name;"⟩, prog_4_method_12_code, 3, (Option.some (Jvm.ClassFile.FieldType.object "CircuitText$Name")), [], [false, false])
theorem w_Me_declaredAs : cx_W m_Me_declaredAs := ⟨Or.inl ⟨(in_4 (List.mem_of_getElem? (i := 191) rfl)), rfl⟩, by decide +kernel, by decide, by decide, by decide +kernel⟩
theorem n_Me_declaredAs : (parseMethodDescriptor m_Me_declaredAs.1.desc).map (fun d => d.parameters.length) = some 1 := by decide +kernel
theorem d_Me_declaredAs_0 : decode prog_4_method_12_code 0 = .ok (.aload_n 1, 1) := by decide +kernel
theorem d_Me_declaredAs_1 : decode prog_4_method_12_code 1 = .ok (.getfield 89, 3) := by decide +kernel
theorem d_Me_declaredAs_4 : decode prog_4_method_12_code 4 = .ok (.ifnonnull 7, 3) := by decide +kernel
theorem d_Me_declaredAs_7 : decode prog_4_method_12_code 7 = .ok (.aconst_null, 1) := by decide +kernel
theorem d_Me_declaredAs_8 : decode prog_4_method_12_code 8 = .ok (.goto 10, 3) := by decide +kernel
theorem d_Me_declaredAs_11 : decode prog_4_method_12_code 11 = .ok (.aload_n 1, 1) := by decide +kernel
theorem d_Me_declaredAs_12 : decode prog_4_method_12_code 12 = .ok (.getfield 89, 3) := by decide +kernel
theorem d_Me_declaredAs_15 : decode prog_4_method_12_code 15 = .ok (.getfield 97, 3) := by decide +kernel
theorem d_Me_declaredAs_18 : decode prog_4_method_12_code 18 = .ok (.astore_n 2, 1) := by decide +kernel
theorem d_Me_declaredAs_19 : decode prog_4_method_12_code 19 = .ok (.aload_n 2, 1) := by decide +kernel
theorem d_Me_declaredAs_20 : decode prog_4_method_12_code 20 = .ok (.ifnull 18, 3) := by decide +kernel
theorem d_Me_declaredAs_23 : decode prog_4_method_12_code 23 = .ok (.aload_n 2, 1) := by decide +kernel
theorem d_Me_declaredAs_24 : decode prog_4_method_12_code 24 = .ok (.getfield 109, 3) := by decide +kernel
theorem d_Me_declaredAs_27 : decode prog_4_method_12_code 27 = .ok (.aload_n 0, 1) := by decide +kernel
theorem d_Me_declaredAs_28 : decode prog_4_method_12_code 28 = .ok (.getfield 28, 3) := by decide +kernel
theorem d_Me_declaredAs_31 : decode prog_4_method_12_code 31 = .ok (.if_acmp .ne 7, 3) := by decide +kernel
theorem d_Me_declaredAs_34 : decode prog_4_method_12_code 34 = .ok (.aload_n 2, 1) := by decide +kernel
theorem d_Me_declaredAs_35 : decode prog_4_method_12_code 35 = .ok (.goto 4, 3) := by decide +kernel
theorem d_Me_declaredAs_38 : decode prog_4_method_12_code 38 = .ok (.aconst_null, 1) := by decide +kernel
theorem d_Me_declaredAs_39 : decode prog_4_method_12_code 39 = .ok (.areturn, 1) := by decide +kernel
theorem f_Me_97 : cx_F "CircuitText$Meaning" 97 10 4 (.object "CircuitText$Name") false := ⟨_, F_Wd, 5, t_Wd, k_Wd, by decide, rfl, rfl, Or.inr ⟨"CircuitText", (in_2 (List.mem_of_getElem? (i := 92) rfl))⟩⟩
theorem f_Me_109 : cx_F "CircuitText$Meaning" 109 4 0 (.object "CircuitText$Unit") true := ⟨_, F_Nm, 11, t_Nm, k_Nm, by decide, rfl, rfl, Or.inr ⟨"CircuitText", (in_4 (List.mem_of_getElem? (i := 138) rfl))⟩⟩
theorem f_Me_28 : cx_F "CircuitText$Meaning" 28 3 2 (.object "CircuitText$Unit") false := ⟨_, F_Me, 3, t_Me, k_Me, by decide, rfl, rfl, Or.inl (in_1 (List.mem_of_getElem? (i := 235) rfl))⟩
abbrev m_Nm_isDrivable : cx_M := (⟨"CircuitText$Name", "isDrivable", "()Z"⟩, prog_5_method_3_code, 1, (Option.some Jvm.ClassFile.FieldType.boolean), [], [false])
theorem w_Nm_isDrivable : cx_W m_Nm_isDrivable := ⟨Or.inl ⟨(in_5 (List.mem_of_getElem? (i := 32) rfl)), rfl⟩, by decide +kernel, by decide, by decide, by decide +kernel⟩
theorem n_Nm_isDrivable : (parseMethodDescriptor m_Nm_isDrivable.1.desc).map (fun d => d.parameters.length) = some 0 := by decide +kernel
theorem d_Nm_isDrivable_0 : decode prog_5_method_3_code 0 = .ok (.aload_n 0, 1) := by decide +kernel
theorem d_Nm_isDrivable_1 : decode prog_5_method_3_code 1 = .ok (.getfield 44, 3) := by decide +kernel
theorem d_Nm_isDrivable_4 : decode prog_5_method_3_code 4 = .ok (.iconst 1, 1) := by decide +kernel
theorem d_Nm_isDrivable_5 : decode prog_5_method_3_code 5 = .ok (.if_icmp .eq 11, 3) := by decide +kernel
theorem d_Nm_isDrivable_8 : decode prog_5_method_3_code 8 = .ok (.aload_n 0, 1) := by decide +kernel
theorem d_Nm_isDrivable_9 : decode prog_5_method_3_code 9 = .ok (.getfield 44, 3) := by decide +kernel
theorem d_Nm_isDrivable_12 : decode prog_5_method_3_code 12 = .ok (.iconst 3, 1) := by decide +kernel
theorem d_Nm_isDrivable_13 : decode prog_5_method_3_code 13 = .ok (.if_icmp .ne 7, 3) := by decide +kernel
theorem d_Nm_isDrivable_16 : decode prog_5_method_3_code 16 = .ok (.iconst 1, 1) := by decide +kernel
theorem d_Nm_isDrivable_17 : decode prog_5_method_3_code 17 = .ok (.goto 4, 3) := by decide +kernel
theorem d_Nm_isDrivable_20 : decode prog_5_method_3_code 20 = .ok (.iconst 0, 1) := by decide +kernel
theorem d_Nm_isDrivable_21 : decode prog_5_method_3_code 21 = .ok (.ireturn, 1) := by decide +kernel
theorem f_Nm_44 : cx_F "CircuitText$Name" 44 4 2 (.int) true := ⟨_, F_Nm, 11, t_Nm, k_Nm, by decide, rfl, rfl, Or.inl (in_4 (List.mem_of_getElem? (i := 142) rfl))⟩
theorem ff_Nm_44 : cx_FF "CircuitText$Name" 44 4 2 (.int) := ⟨_, F_Nm, 11, t_Nm, k_Nm, by decide, rfl, rfl, rfl, (in_4 (List.mem_of_getElem? (i := 142) rfl))⟩
abbrev m_Nm_isRegister : cx_M := (⟨"CircuitText$Name", "isRegister", "()Z"⟩, prog_5_method_2_code, 1, (Option.some Jvm.ClassFile.FieldType.boolean), [], [false])
theorem w_Nm_isRegister : cx_W m_Nm_isRegister := ⟨Or.inl ⟨(in_5 (List.mem_of_getElem? (i := 152) rfl)), rfl⟩, by decide +kernel, by decide, by decide, by decide +kernel⟩
theorem n_Nm_isRegister : (parseMethodDescriptor m_Nm_isRegister.1.desc).map (fun d => d.parameters.length) = some 0 := by decide +kernel
theorem d_Nm_isRegister_0 : decode prog_5_method_2_code 0 = .ok (.aload_n 0, 1) := by decide +kernel
theorem d_Nm_isRegister_1 : decode prog_5_method_2_code 1 = .ok (.getfield 44, 3) := by decide +kernel
theorem d_Nm_isRegister_4 : decode prog_5_method_2_code 4 = .ok (.iconst 2, 1) := by decide +kernel
theorem d_Nm_isRegister_5 : decode prog_5_method_2_code 5 = .ok (.if_icmp .eq 11, 3) := by decide +kernel
theorem d_Nm_isRegister_8 : decode prog_5_method_2_code 8 = .ok (.aload_n 0, 1) := by decide +kernel
theorem d_Nm_isRegister_9 : decode prog_5_method_2_code 9 = .ok (.getfield 44, 3) := by decide +kernel
theorem d_Nm_isRegister_12 : decode prog_5_method_2_code 12 = .ok (.iconst 4, 1) := by decide +kernel
theorem d_Nm_isRegister_13 : decode prog_5_method_2_code 13 = .ok (.if_icmp .ne 7, 3) := by decide +kernel
theorem d_Nm_isRegister_16 : decode prog_5_method_2_code 16 = .ok (.iconst 1, 1) := by decide +kernel
theorem d_Nm_isRegister_17 : decode prog_5_method_2_code 17 = .ok (.goto 4, 3) := by decide +kernel
theorem d_Nm_isRegister_20 : decode prog_5_method_2_code 20 = .ok (.iconst 0, 1) := by decide +kernel
theorem d_Nm_isRegister_21 : decode prog_5_method_2_code 21 = .ok (.ireturn, 1) := by decide +kernel
abbrev m_Nm_isOutput : cx_M := (⟨"CircuitText$Name", "isOutput", "()Z"⟩, prog_5_method_4_code, 1, (Option.some Jvm.ClassFile.FieldType.boolean), [], [false])
theorem w_Nm_isOutput : cx_W m_Nm_isOutput := ⟨Or.inl ⟨(in_5 (List.mem_of_getElem? (i := 203) rfl)), rfl⟩, by decide +kernel, by decide, by decide, by decide +kernel⟩
theorem n_Nm_isOutput : (parseMethodDescriptor m_Nm_isOutput.1.desc).map (fun d => d.parameters.length) = some 0 := by decide +kernel
theorem d_Nm_isOutput_0 : decode prog_5_method_4_code 0 = .ok (.aload_n 0, 1) := by decide +kernel
theorem d_Nm_isOutput_1 : decode prog_5_method_4_code 1 = .ok (.getfield 44, 3) := by decide +kernel
theorem d_Nm_isOutput_4 : decode prog_5_method_4_code 4 = .ok (.iconst 1, 1) := by decide +kernel
theorem d_Nm_isOutput_5 : decode prog_5_method_4_code 5 = .ok (.if_icmp .eq 11, 3) := by decide +kernel
theorem d_Nm_isOutput_8 : decode prog_5_method_4_code 8 = .ok (.aload_n 0, 1) := by decide +kernel
theorem d_Nm_isOutput_9 : decode prog_5_method_4_code 9 = .ok (.getfield 44, 3) := by decide +kernel
theorem d_Nm_isOutput_12 : decode prog_5_method_4_code 12 = .ok (.iconst 2, 1) := by decide +kernel
theorem d_Nm_isOutput_13 : decode prog_5_method_4_code 13 = .ok (.if_icmp .ne 7, 3) := by decide +kernel
theorem d_Nm_isOutput_16 : decode prog_5_method_4_code 16 = .ok (.iconst 1, 1) := by decide +kernel
theorem d_Nm_isOutput_17 : decode prog_5_method_4_code 17 = .ok (.goto 4, 3) := by decide +kernel
theorem d_Nm_isOutput_20 : decode prog_5_method_4_code 20 = .ok (.iconst 0, 1) := by decide +kernel
theorem d_Nm_isOutput_21 : decode prog_5_method_4_code 21 = .ok (.ireturn, 1) := by decide +kernel
abbrev m_Me_widthOf : cx_M := (⟨"CircuitText$Meaning", "widthOf", "(LCircuitText$Name;)I"⟩, prog_4_method_6_code, 2, (Option.some Jvm.ClassFile.FieldType.int), [], [false, false])
theorem w_Me_widthOf : cx_W m_Me_widthOf := ⟨Or.inl ⟨(in_5 (List.mem_of_getElem? (i := 40) rfl)), rfl⟩, by decide +kernel, by decide, by decide, by decide +kernel⟩
theorem n_Me_widthOf : (parseMethodDescriptor m_Me_widthOf.1.desc).map (fun d => d.parameters.length) = some 1 := by decide +kernel
theorem d_Me_widthOf_0 : decode prog_4_method_6_code 0 = .ok (.aload_n 1, 1) := by decide +kernel
theorem d_Me_widthOf_1 : decode prog_4_method_6_code 1 = .ok (.ifnonnull 7, 3) := by decide +kernel
theorem d_Me_widthOf_4 : decode prog_4_method_6_code 4 = .ok (.iconst 1, 1) := by decide +kernel
theorem d_Me_widthOf_5 : decode prog_4_method_6_code 5 = .ok (.goto 7, 3) := by decide +kernel
theorem d_Me_widthOf_8 : decode prog_4_method_6_code 8 = .ok (.aload_n 1, 1) := by decide +kernel
theorem d_Me_widthOf_9 : decode prog_4_method_6_code 9 = .ok (.getfield 86, 3) := by decide +kernel
theorem d_Me_widthOf_12 : decode prog_4_method_6_code 12 = .ok (.ireturn, 1) := by decide +kernel
theorem f_Me_86 : cx_F "CircuitText$Meaning" 86 4 3 (.int) true := ⟨_, F_Nm, 11, t_Nm, k_Nm, by decide, rfl, rfl, Or.inr ⟨"CircuitText", (in_4 (List.mem_of_getElem? (i := 146) rfl))⟩⟩
abbrev m_Me_unit : cx_M := (⟨"CircuitText$Meaning", "unit", "()LCircuitText$Unit;"⟩, prog_4_method_2_code, 1, (Option.some (Jvm.ClassFile.FieldType.object "CircuitText$Unit")), [], [false])
theorem w_Me_unit : cx_W m_Me_unit := ⟨Or.inl ⟨(in_5 (List.mem_of_getElem? (i := 15) rfl)), rfl⟩, by decide +kernel, by decide, by decide, by decide +kernel⟩
theorem n_Me_unit : (parseMethodDescriptor m_Me_unit.1.desc).map (fun d => d.parameters.length) = some 0 := by decide +kernel
theorem d_Me_unit_0 : decode prog_4_method_2_code 0 = .ok (.aload_n 0, 1) := by decide +kernel
theorem d_Me_unit_1 : decode prog_4_method_2_code 1 = .ok (.getfield 28, 3) := by decide +kernel
theorem d_Me_unit_4 : decode prog_4_method_2_code 4 = .ok (.areturn, 1) := by decide +kernel
abbrev m_Me_used : cx_M := (⟨"CircuitText$Meaning", "used", "(LCircuitText$Token;)LCircuitText$Name;"⟩, prog_4_method_13_code, 4, (Option.some (Jvm.ClassFile.FieldType.object "CircuitText$Name")), [], [false, false])
theorem w_Me_used : cx_W m_Me_used := ⟨Or.inl ⟨(in_5 (List.mem_of_getElem? (i := 70) rfl)), rfl⟩, by decide +kernel, by decide, by decide, by decide +kernel⟩
theorem n_Me_used : (parseMethodDescriptor m_Me_used.1.desc).map (fun d => d.parameters.length) = some 1 := by decide +kernel
theorem d_Me_used_0 : decode prog_4_method_13_code 0 = .ok (.aload_n 0, 1) := by decide +kernel
theorem d_Me_used_1 : decode prog_4_method_13_code 1 = .ok (.aload_n 1, 1) := by decide +kernel
theorem d_Me_used_2 : decode prog_4_method_13_code 2 = .ok (.invokevirtual 93, 3) := by decide +kernel
theorem d_Me_used_5 : decode prog_4_method_13_code 5 = .ok (.astore_n 2, 1) := by decide +kernel
theorem d_Me_used_6 : decode prog_4_method_13_code 6 = .ok (.aload_n 2, 1) := by decide +kernel
theorem d_Me_used_7 : decode prog_4_method_13_code 7 = .ok (.ifnull 15, 3) := by decide +kernel
theorem d_Me_used_10 : decode prog_4_method_13_code 10 = .ok (.aload_n 2, 1) := by decide +kernel
theorem d_Me_used_11 : decode prog_4_method_13_code 11 = .ok (.getfield 112, 3) := by decide +kernel
theorem d_Me_used_14 : decode prog_4_method_13_code 14 = .ok (.iconst 5, 1) := by decide +kernel
theorem d_Me_used_15 : decode prog_4_method_13_code 15 = .ok (.if_icmp .eq 7, 3) := by decide +kernel
theorem d_Me_used_18 : decode prog_4_method_13_code 18 = .ok (.iconst 1, 1) := by decide +kernel
theorem d_Me_used_19 : decode prog_4_method_13_code 19 = .ok (.goto 4, 3) := by decide +kernel
theorem d_Me_used_22 : decode prog_4_method_13_code 22 = .ok (.iconst 0, 1) := by decide +kernel
theorem d_Me_used_23 : decode prog_4_method_13_code 23 = .ok (.istore_n 3, 1) := by decide +kernel
theorem d_Me_used_24 : decode prog_4_method_13_code 24 = .ok (.aload_n 0, 1) := by decide +kernel
theorem d_Me_used_25 : decode prog_4_method_13_code 25 = .ok (.getfield 32, 3) := by decide +kernel
theorem d_Me_used_28 : decode prog_4_method_13_code 28 = .ok (.iload_n 3, 1) := by decide +kernel
theorem d_Me_used_29 : decode prog_4_method_13_code 29 = .ok (.bipush 22, 2) := by decide +kernel
theorem d_Me_used_31 : decode prog_4_method_13_code 31 = .ok (.aload_n 1, 1) := by decide +kernel
theorem d_Me_used_32 : decode prog_4_method_13_code 32 = .ok (.getfield 40, 3) := by decide +kernel
theorem d_Me_used_35 : decode prog_4_method_13_code 35 = .ok (.invokevirtual 44, 3) := by decide +kernel
theorem d_Me_used_38 : decode prog_4_method_13_code 38 = .ok (.iload_n 3, 1) := by decide +kernel
theorem d_Me_used_39 : decode prog_4_method_13_code 39 = .ok (.ifCond .eq 7, 3) := by decide +kernel
theorem d_Me_used_42 : decode prog_4_method_13_code 42 = .ok (.aload_n 2, 1) := by decide +kernel
theorem d_Me_used_43 : decode prog_4_method_13_code 43 = .ok (.goto 4, 3) := by decide +kernel
theorem d_Me_used_46 : decode prog_4_method_13_code 46 = .ok (.aconst_null, 1) := by decide +kernel
theorem d_Me_used_47 : decode prog_4_method_13_code 47 = .ok (.areturn, 1) := by decide +kernel
theorem f_Me_112 : cx_F "CircuitText$Meaning" 112 4 2 (.int) true := ⟨_, F_Nm, 11, t_Nm, k_Nm, by decide, rfl, rfl, Or.inr ⟨"CircuitText", (in_4 (List.mem_of_getElem? (i := 144) rfl))⟩⟩
theorem f_Me_32 : cx_F "CircuitText$Meaning" 32 3 0 (.object "CircuitText$Verdict") true := ⟨_, F_Me, 3, t_Me, k_Me, by decide, rfl, rfl, Or.inl (in_1 (List.mem_of_getElem? (i := 232) rfl))⟩
theorem ff_Me_32 : cx_FF "CircuitText$Meaning" 32 3 0 (.object "CircuitText$Verdict") := ⟨_, F_Me, 3, t_Me, k_Me, by decide, rfl, rfl, rfl, (in_1 (List.mem_of_getElem? (i := 232) rfl))⟩
theorem f_Me_40 : cx_F "CircuitText$Meaning" 40 7 1 (.int) true := ⟨_, F_To, 7, t_To, k_To, by decide, rfl, rfl, Or.inr ⟨"CircuitText", (in_1 (List.mem_of_getElem? (i := 142) rfl))⟩⟩
abbrev m_Me_rangeWidth : cx_M := (⟨"CircuitText$Meaning", "rangeWidth", "(LCircuitText$Token;II)I"⟩, prog_4_method_8_code, 5, (Option.some Jvm.ClassFile.FieldType.int), [], [false, false, false, false])
theorem w_Me_rangeWidth : cx_W m_Me_rangeWidth := ⟨Or.inl ⟨(in_4 (List.mem_of_getElem? (i := 126) rfl)), rfl⟩, by decide +kernel, by decide, by decide, by decide +kernel⟩
theorem n_Me_rangeWidth : (parseMethodDescriptor m_Me_rangeWidth.1.desc).map (fun d => d.parameters.length) = some 3 := by decide +kernel
theorem d_Me_rangeWidth_0 : decode prog_4_method_8_code 0 = .ok (.iload_n 3, 1) := by decide +kernel
theorem d_Me_rangeWidth_1 : decode prog_4_method_8_code 1 = .ok (.ifCond .ne 13, 3) := by decide +kernel
theorem d_Me_rangeWidth_4 : decode prog_4_method_8_code 4 = .ok (.iload_n 2, 1) := by decide +kernel
theorem d_Me_rangeWidth_5 : decode prog_4_method_8_code 5 = .ok (.bipush 64, 2) := by decide +kernel
theorem d_Me_rangeWidth_7 : decode prog_4_method_8_code 7 = .ok (.if_icmp .ge 7, 3) := by decide +kernel
theorem d_Me_rangeWidth_10 : decode prog_4_method_8_code 10 = .ok (.iconst 1, 1) := by decide +kernel
theorem d_Me_rangeWidth_11 : decode prog_4_method_8_code 11 = .ok (.goto 4, 3) := by decide +kernel
theorem d_Me_rangeWidth_14 : decode prog_4_method_8_code 14 = .ok (.iconst 0, 1) := by decide +kernel
theorem d_Me_rangeWidth_15 : decode prog_4_method_8_code 15 = .ok (.istore 4, 2) := by decide +kernel
theorem d_Me_rangeWidth_17 : decode prog_4_method_8_code 17 = .ok (.aload_n 0, 1) := by decide +kernel
theorem d_Me_rangeWidth_18 : decode prog_4_method_8_code 18 = .ok (.getfield 32, 3) := by decide +kernel
theorem d_Me_rangeWidth_21 : decode prog_4_method_8_code 21 = .ok (.iload 4, 2) := by decide +kernel
theorem d_Me_rangeWidth_23 : decode prog_4_method_8_code 23 = .ok (.bipush 30, 2) := by decide +kernel
theorem d_Me_rangeWidth_25 : decode prog_4_method_8_code 25 = .ok (.aload_n 1, 1) := by decide +kernel
theorem d_Me_rangeWidth_26 : decode prog_4_method_8_code 26 = .ok (.getfield 40, 3) := by decide +kernel
theorem d_Me_rangeWidth_29 : decode prog_4_method_8_code 29 = .ok (.invokevirtual 44, 3) := by decide +kernel
theorem d_Me_rangeWidth_32 : decode prog_4_method_8_code 32 = .ok (.iload 4, 2) := by decide +kernel
theorem d_Me_rangeWidth_34 : decode prog_4_method_8_code 34 = .ok (.ifCond .eq 9, 3) := by decide +kernel
theorem d_Me_rangeWidth_37 : decode prog_4_method_8_code 37 = .ok (.iload_n 2, 1) := by decide +kernel
theorem d_Me_rangeWidth_38 : decode prog_4_method_8_code 38 = .ok (.iconst 1, 1) := by decide +kernel
theorem d_Me_rangeWidth_39 : decode prog_4_method_8_code 39 = .ok (.iadd, 1) := by decide +kernel
theorem d_Me_rangeWidth_40 : decode prog_4_method_8_code 40 = .ok (.goto 4, 3) := by decide +kernel
theorem d_Me_rangeWidth_43 : decode prog_4_method_8_code 43 = .ok (.iconst 1, 1) := by decide +kernel
theorem d_Me_rangeWidth_44 : decode prog_4_method_8_code 44 = .ok (.ireturn, 1) := by decide +kernel
abbrev m_Me_bracesWidth : cx_M := (⟨"CircuitText$Meaning", "bracesWidth", "(LCircuitText$Token;I)I"⟩, prog_4_method_9_code, 4, (Option.some Jvm.ClassFile.FieldType.int), [], [false, false, false])
theorem w_Me_bracesWidth : cx_W m_Me_bracesWidth := ⟨Or.inl ⟨(in_5 (List.mem_of_getElem? (i := 62) rfl)), rfl⟩, by decide +kernel, by decide, by decide, by decide +kernel⟩
theorem n_Me_bracesWidth : (parseMethodDescriptor m_Me_bracesWidth.1.desc).map (fun d => d.parameters.length) = some 2 := by decide +kernel
theorem d_Me_bracesWidth_0 : decode prog_4_method_9_code 0 = .ok (.iload_n 2, 1) := by decide +kernel
theorem d_Me_bracesWidth_1 : decode prog_4_method_9_code 1 = .ok (.iconst 1, 1) := by decide +kernel
theorem d_Me_bracesWidth_2 : decode prog_4_method_9_code 2 = .ok (.if_icmp .lt 13, 3) := by decide +kernel
theorem d_Me_bracesWidth_5 : decode prog_4_method_9_code 5 = .ok (.iload_n 2, 1) := by decide +kernel
theorem d_Me_bracesWidth_6 : decode prog_4_method_9_code 6 = .ok (.bipush 64, 2) := by decide +kernel
theorem d_Me_bracesWidth_8 : decode prog_4_method_9_code 8 = .ok (.if_icmp .gt 7, 3) := by decide +kernel
theorem d_Me_bracesWidth_11 : decode prog_4_method_9_code 11 = .ok (.iconst 1, 1) := by decide +kernel
theorem d_Me_bracesWidth_12 : decode prog_4_method_9_code 12 = .ok (.goto 4, 3) := by decide +kernel
theorem d_Me_bracesWidth_15 : decode prog_4_method_9_code 15 = .ok (.iconst 0, 1) := by decide +kernel
theorem d_Me_bracesWidth_16 : decode prog_4_method_9_code 16 = .ok (.istore_n 3, 1) := by decide +kernel
theorem d_Me_bracesWidth_17 : decode prog_4_method_9_code 17 = .ok (.aload_n 0, 1) := by decide +kernel
theorem d_Me_bracesWidth_18 : decode prog_4_method_9_code 18 = .ok (.getfield 32, 3) := by decide +kernel
theorem d_Me_bracesWidth_21 : decode prog_4_method_9_code 21 = .ok (.iload_n 3, 1) := by decide +kernel
theorem d_Me_bracesWidth_22 : decode prog_4_method_9_code 22 = .ok (.bipush 30, 2) := by decide +kernel
theorem d_Me_bracesWidth_24 : decode prog_4_method_9_code 24 = .ok (.aload_n 1, 1) := by decide +kernel
theorem d_Me_bracesWidth_25 : decode prog_4_method_9_code 25 = .ok (.getfield 40, 3) := by decide +kernel
theorem d_Me_bracesWidth_28 : decode prog_4_method_9_code 28 = .ok (.invokevirtual 44, 3) := by decide +kernel
theorem d_Me_bracesWidth_31 : decode prog_4_method_9_code 31 = .ok (.iload_n 3, 1) := by decide +kernel
theorem d_Me_bracesWidth_32 : decode prog_4_method_9_code 32 = .ok (.ifCond .eq 7, 3) := by decide +kernel
theorem d_Me_bracesWidth_35 : decode prog_4_method_9_code 35 = .ok (.iload_n 2, 1) := by decide +kernel
theorem d_Me_bracesWidth_36 : decode prog_4_method_9_code 36 = .ok (.goto 4, 3) := by decide +kernel
theorem d_Me_bracesWidth_39 : decode prog_4_method_9_code 39 = .ok (.iconst 1, 1) := by decide +kernel
theorem d_Me_bracesWidth_40 : decode prog_4_method_9_code 40 = .ok (.ireturn, 1) := by decide +kernel
abbrev m_Me_instanced : cx_M := (⟨"CircuitText$Meaning", "instanced", "(LCircuitText$Token;)LCircuitText$Unit;"⟩, prog_4_method_20_code, 3, (Option.some (Jvm.ClassFile.FieldType.object "CircuitText$Unit")), [], [false, false])
theorem w_Me_instanced : cx_W m_Me_instanced := ⟨Or.inl ⟨(in_5 (List.mem_of_getElem? (i := 164) rfl)), rfl⟩, by decide +kernel, by decide, by decide, by decide +kernel⟩
theorem n_Me_instanced : (parseMethodDescriptor m_Me_instanced.1.desc).map (fun d => d.parameters.length) = some 1 := by decide +kernel
theorem d_Me_instanced_0 : decode prog_4_method_20_code 0 = .ok (.aload_n 1, 1) := by decide +kernel
theorem d_Me_instanced_1 : decode prog_4_method_20_code 1 = .ok (.invokestatic 36, 3) := by decide +kernel
theorem d_Me_instanced_4 : decode prog_4_method_20_code 4 = .ok (.astore_n 2, 1) := by decide +kernel
theorem d_Me_instanced_5 : decode prog_4_method_20_code 5 = .ok (.aload_n 0, 1) := by decide +kernel
theorem d_Me_instanced_6 : decode prog_4_method_20_code 6 = .ok (.getfield 32, 3) := by decide +kernel
theorem d_Me_instanced_9 : decode prog_4_method_20_code 9 = .ok (.aload_n 2, 1) := by decide +kernel
theorem d_Me_instanced_10 : decode prog_4_method_20_code 10 = .ok (.ifnull 7, 3) := by decide +kernel
theorem d_Me_instanced_13 : decode prog_4_method_20_code 13 = .ok (.iconst 1, 1) := by decide +kernel
theorem d_Me_instanced_14 : decode prog_4_method_20_code 14 = .ok (.goto 4, 3) := by decide +kernel
theorem d_Me_instanced_17 : decode prog_4_method_20_code 17 = .ok (.iconst 0, 1) := by decide +kernel
theorem d_Me_instanced_18 : decode prog_4_method_20_code 18 = .ok (.bipush 22, 2) := by decide +kernel
theorem d_Me_instanced_20 : decode prog_4_method_20_code 20 = .ok (.aload_n 1, 1) := by decide +kernel
theorem d_Me_instanced_21 : decode prog_4_method_20_code 21 = .ok (.getfield 40, 3) := by decide +kernel
theorem d_Me_instanced_24 : decode prog_4_method_20_code 24 = .ok (.invokevirtual 44, 3) := by decide +kernel
theorem d_Me_instanced_27 : decode prog_4_method_20_code 27 = .ok (.aload_n 2, 1) := by decide +kernel
theorem d_Me_instanced_28 : decode prog_4_method_20_code 28 = .ok (.areturn, 1) := by decide +kernel
abbrev m_To_plain : cx_M := (⟨"CircuitText$Token", "plain", "()I"⟩, prog_8_method_2_code, 1, (Option.some Jvm.ClassFile.FieldType.int), [], [false])
theorem w_To_plain : cx_W m_To_plain := ⟨Or.inl ⟨(in_4 (List.mem_of_getElem? (i := 122) rfl)), rfl⟩, by decide +kernel, by decide, by decide, by decide +kernel⟩
theorem n_To_plain : (parseMethodDescriptor m_To_plain.1.desc).map (fun d => d.parameters.length) = some 0 := by decide +kernel
theorem d_To_plain_0 : decode prog_8_method_2_code 0 = .ok (.aload_n 0, 1) := by decide +kernel
theorem d_To_plain_1 : decode prog_8_method_2_code 1 = .ok (.getfield 21, 3) := by decide +kernel
theorem d_To_plain_4 : decode prog_8_method_2_code 4 = .ok (.l2i, 1) := by decide +kernel
theorem d_To_plain_5 : decode prog_8_method_2_code 5 = .ok (.ireturn, 1) := by decide +kernel
abbrev m_Me_drive : cx_M := (⟨"CircuitText$Meaning", "drive", "(LCircuitText$Name;LCircuitText$Token;)V"⟩, prog_4_method_15_code, 3, (Option.none : Option Jvm.ClassFile.FieldType), [], [false, false, false])
theorem w_Me_drive : cx_W m_Me_drive := ⟨Or.inl ⟨(in_5 (List.mem_of_getElem? (i := 36) rfl)), rfl⟩, by decide +kernel, by decide, by decide, by decide +kernel⟩
theorem n_Me_drive : (parseMethodDescriptor m_Me_drive.1.desc).map (fun d => d.parameters.length) = some 2 := by decide +kernel
theorem d_Me_drive_0 : decode prog_4_method_15_code 0 = .ok (.aload_n 0, 1) := by decide +kernel
theorem d_Me_drive_1 : decode prog_4_method_15_code 1 = .ok (.getfield 32, 3) := by decide +kernel
theorem d_Me_drive_4 : decode prog_4_method_15_code 4 = .ok (.aload_n 1, 1) := by decide +kernel
theorem d_Me_drive_5 : decode prog_4_method_15_code 5 = .ok (.getfield 63, 3) := by decide +kernel
theorem d_Me_drive_8 : decode prog_4_method_15_code 8 = .ok (.ifCond .ne 7, 3) := by decide +kernel
theorem d_Me_drive_11 : decode prog_4_method_15_code 11 = .ok (.iconst 1, 1) := by decide +kernel
theorem d_Me_drive_12 : decode prog_4_method_15_code 12 = .ok (.goto 4, 3) := by decide +kernel
theorem d_Me_drive_15 : decode prog_4_method_15_code 15 = .ok (.iconst 0, 1) := by decide +kernel
theorem d_Me_drive_16 : decode prog_4_method_15_code 16 = .ok (.bipush 31, 2) := by decide +kernel
theorem d_Me_drive_18 : decode prog_4_method_15_code 18 = .ok (.aload_n 2, 1) := by decide +kernel
theorem d_Me_drive_19 : decode prog_4_method_15_code 19 = .ok (.getfield 40, 3) := by decide +kernel
theorem d_Me_drive_22 : decode prog_4_method_15_code 22 = .ok (.invokevirtual 44, 3) := by decide +kernel
theorem d_Me_drive_25 : decode prog_4_method_15_code 25 = .ok (.aload_n 1, 1) := by decide +kernel
theorem d_Me_drive_26 : decode prog_4_method_15_code 26 = .ok (.iconst 1, 1) := by decide +kernel
theorem d_Me_drive_27 : decode prog_4_method_15_code 27 = .ok (.putfield 63, 3) := by decide +kernel
theorem d_Me_drive_30 : decode prog_4_method_15_code 30 = .ok (.return_, 1) := by decide +kernel
theorem f_Me_63 : cx_F "CircuitText$Meaning" 63 4 6 (.boolean) false := ⟨_, F_Nm, 11, t_Nm, k_Nm, by decide, rfl, rfl, Or.inr ⟨"CircuitText", (in_4 (List.mem_of_getElem? (i := 155) rfl))⟩⟩
abbrev m_Me_assigned : cx_M := (⟨"CircuitText$Meaning", "assigned", "(LCircuitText$Token;)LCircuitText$Name;"⟩, prog_4_method_14_code, 4, (Option.some (Jvm.ClassFile.FieldType.object "CircuitText$Name")), [], [false, false])
theorem w_Me_assigned : cx_W m_Me_assigned := ⟨Or.inl ⟨(in_5 (List.mem_of_getElem? (i := 28) rfl)), rfl⟩, by decide +kernel, by decide, by decide, by decide +kernel⟩
theorem n_Me_assigned : (parseMethodDescriptor m_Me_assigned.1.desc).map (fun d => d.parameters.length) = some 1 := by decide +kernel
theorem d_Me_assigned_0 : decode prog_4_method_14_code 0 = .ok (.aload_n 0, 1) := by decide +kernel
theorem d_Me_assigned_1 : decode prog_4_method_14_code 1 = .ok (.aload_n 1, 1) := by decide +kernel
theorem d_Me_assigned_2 : decode prog_4_method_14_code 2 = .ok (.invokevirtual 93, 3) := by decide +kernel
theorem d_Me_assigned_5 : decode prog_4_method_14_code 5 = .ok (.astore_n 2, 1) := by decide +kernel
theorem d_Me_assigned_6 : decode prog_4_method_14_code 6 = .ok (.aload_n 2, 1) := by decide +kernel
theorem d_Me_assigned_7 : decode prog_4_method_14_code 7 = .ok (.ifnull 14, 3) := by decide +kernel
theorem d_Me_assigned_10 : decode prog_4_method_14_code 10 = .ok (.aload_n 2, 1) := by decide +kernel
theorem d_Me_assigned_11 : decode prog_4_method_14_code 11 = .ok (.invokevirtual 67, 3) := by decide +kernel
theorem d_Me_assigned_14 : decode prog_4_method_14_code 14 = .ok (.ifCond .eq 7, 3) := by decide +kernel
theorem d_Me_assigned_17 : decode prog_4_method_14_code 17 = .ok (.iconst 1, 1) := by decide +kernel
theorem d_Me_assigned_18 : decode prog_4_method_14_code 18 = .ok (.goto 4, 3) := by decide +kernel
theorem d_Me_assigned_21 : decode prog_4_method_14_code 21 = .ok (.iconst 0, 1) := by decide +kernel
theorem d_Me_assigned_22 : decode prog_4_method_14_code 22 = .ok (.istore_n 3, 1) := by decide +kernel
theorem d_Me_assigned_23 : decode prog_4_method_14_code 23 = .ok (.aload_n 0, 1) := by decide +kernel
theorem d_Me_assigned_24 : decode prog_4_method_14_code 24 = .ok (.getfield 32, 3) := by decide +kernel
theorem d_Me_assigned_27 : decode prog_4_method_14_code 27 = .ok (.iload_n 3, 1) := by decide +kernel
theorem d_Me_assigned_28 : decode prog_4_method_14_code 28 = .ok (.bipush 22, 2) := by decide +kernel
theorem d_Me_assigned_30 : decode prog_4_method_14_code 30 = .ok (.aload_n 1, 1) := by decide +kernel
theorem d_Me_assigned_31 : decode prog_4_method_14_code 31 = .ok (.getfield 40, 3) := by decide +kernel
theorem d_Me_assigned_34 : decode prog_4_method_14_code 34 = .ok (.invokevirtual 44, 3) := by decide +kernel
theorem d_Me_assigned_37 : decode prog_4_method_14_code 37 = .ok (.iload_n 3, 1) := by decide +kernel
theorem d_Me_assigned_38 : decode prog_4_method_14_code 38 = .ok (.ifCond .eq 9, 3) := by decide +kernel
theorem d_Me_assigned_41 : decode prog_4_method_14_code 41 = .ok (.aload_n 0, 1) := by decide +kernel
theorem d_Me_assigned_42 : decode prog_4_method_14_code 42 = .ok (.aload_n 2, 1) := by decide +kernel
theorem d_Me_assigned_43 : decode prog_4_method_14_code 43 = .ok (.aload_n 1, 1) := by decide +kernel
theorem d_Me_assigned_44 : decode prog_4_method_14_code 44 = .ok (.invokevirtual 115, 3) := by decide +kernel
theorem d_Me_assigned_47 : decode prog_4_method_14_code 47 = .ok (.iload_n 3, 1) := by decide +kernel
theorem d_Me_assigned_48 : decode prog_4_method_14_code 48 = .ok (.ifCond .eq 7, 3) := by decide +kernel
theorem d_Me_assigned_51 : decode prog_4_method_14_code 51 = .ok (.aload_n 2, 1) := by decide +kernel
theorem d_Me_assigned_52 : decode prog_4_method_14_code 52 = .ok (.goto 4, 3) := by decide +kernel
theorem d_Me_assigned_55 : decode prog_4_method_14_code 55 = .ok (.aconst_null, 1) := by decide +kernel
theorem d_Me_assigned_56 : decode prog_4_method_14_code 56 = .ok (.areturn, 1) := by decide +kernel
abbrev m_Me_setRegister : cx_M := (⟨"CircuitText$Meaning", "setRegister", "(LCircuitText$Token;)LCircuitText$Name;"⟩, prog_4_method_16_code, 4, (Option.some (Jvm.ClassFile.FieldType.object "CircuitText$Name")), [], [false, false])
theorem w_Me_setRegister : cx_W m_Me_setRegister := ⟨Or.inl ⟨(in_5 (List.mem_of_getElem? (i := 148) rfl)), rfl⟩, by decide +kernel, by decide, by decide, by decide +kernel⟩
theorem n_Me_setRegister : (parseMethodDescriptor m_Me_setRegister.1.desc).map (fun d => d.parameters.length) = some 1 := by decide +kernel
theorem d_Me_setRegister_0 : decode prog_4_method_16_code 0 = .ok (.aload_n 0, 1) := by decide +kernel
theorem d_Me_setRegister_1 : decode prog_4_method_16_code 1 = .ok (.aload_n 1, 1) := by decide +kernel
theorem d_Me_setRegister_2 : decode prog_4_method_16_code 2 = .ok (.invokevirtual 93, 3) := by decide +kernel
theorem d_Me_setRegister_5 : decode prog_4_method_16_code 5 = .ok (.astore_n 2, 1) := by decide +kernel
theorem d_Me_setRegister_6 : decode prog_4_method_16_code 6 = .ok (.aload_n 2, 1) := by decide +kernel
theorem d_Me_setRegister_7 : decode prog_4_method_16_code 7 = .ok (.ifnull 14, 3) := by decide +kernel
theorem d_Me_setRegister_10 : decode prog_4_method_16_code 10 = .ok (.aload_n 2, 1) := by decide +kernel
theorem d_Me_setRegister_11 : decode prog_4_method_16_code 11 = .ok (.invokevirtual 119, 3) := by decide +kernel
theorem d_Me_setRegister_14 : decode prog_4_method_16_code 14 = .ok (.ifCond .eq 7, 3) := by decide +kernel
theorem d_Me_setRegister_17 : decode prog_4_method_16_code 17 = .ok (.iconst 1, 1) := by decide +kernel
theorem d_Me_setRegister_18 : decode prog_4_method_16_code 18 = .ok (.goto 4, 3) := by decide +kernel
theorem d_Me_setRegister_21 : decode prog_4_method_16_code 21 = .ok (.iconst 0, 1) := by decide +kernel
theorem d_Me_setRegister_22 : decode prog_4_method_16_code 22 = .ok (.istore_n 3, 1) := by decide +kernel
theorem d_Me_setRegister_23 : decode prog_4_method_16_code 23 = .ok (.aload_n 0, 1) := by decide +kernel
theorem d_Me_setRegister_24 : decode prog_4_method_16_code 24 = .ok (.getfield 32, 3) := by decide +kernel
theorem d_Me_setRegister_27 : decode prog_4_method_16_code 27 = .ok (.iload_n 3, 1) := by decide +kernel
theorem d_Me_setRegister_28 : decode prog_4_method_16_code 28 = .ok (.bipush 22, 2) := by decide +kernel
theorem d_Me_setRegister_30 : decode prog_4_method_16_code 30 = .ok (.aload_n 1, 1) := by decide +kernel
theorem d_Me_setRegister_31 : decode prog_4_method_16_code 31 = .ok (.getfield 40, 3) := by decide +kernel
theorem d_Me_setRegister_34 : decode prog_4_method_16_code 34 = .ok (.invokevirtual 44, 3) := by decide +kernel
theorem d_Me_setRegister_37 : decode prog_4_method_16_code 37 = .ok (.iload_n 3, 1) := by decide +kernel
theorem d_Me_setRegister_38 : decode prog_4_method_16_code 38 = .ok (.ifCond .eq 53, 3) := by decide +kernel
theorem d_Me_setRegister_41 : decode prog_4_method_16_code 41 = .ok (.aload_n 0, 1) := by decide +kernel
theorem d_Me_setRegister_42 : decode prog_4_method_16_code 42 = .ok (.getfield 32, 3) := by decide +kernel
theorem d_Me_setRegister_45 : decode prog_4_method_16_code 45 = .ok (.aload_n 2, 1) := by decide +kernel
theorem d_Me_setRegister_46 : decode prog_4_method_16_code 46 = .ok (.getfield 122, 3) := by decide +kernel
theorem d_Me_setRegister_49 : decode prog_4_method_16_code 49 = .ok (.ifCond .eq 17, 3) := by decide +kernel
theorem d_Me_setRegister_52 : decode prog_4_method_16_code 52 = .ok (.aload_n 2, 1) := by decide +kernel
theorem d_Me_setRegister_53 : decode prog_4_method_16_code 53 = .ok (.getfield 122, 3) := by decide +kernel
theorem d_Me_setRegister_56 : decode prog_4_method_16_code 56 = .ok (.aload_n 0, 1) := by decide +kernel
theorem d_Me_setRegister_57 : decode prog_4_method_16_code 57 = .ok (.getfield 28, 3) := by decide +kernel
theorem d_Me_setRegister_60 : decode prog_4_method_16_code 60 = .ok (.getfield 125, 3) := by decide +kernel
theorem d_Me_setRegister_63 : decode prog_4_method_16_code 63 = .ok (.if_icmp .ne 7, 3) := by decide +kernel
theorem d_Me_setRegister_66 : decode prog_4_method_16_code 66 = .ok (.iconst 1, 1) := by decide +kernel
theorem d_Me_setRegister_67 : decode prog_4_method_16_code 67 = .ok (.goto 4, 3) := by decide +kernel
theorem d_Me_setRegister_70 : decode prog_4_method_16_code 70 = .ok (.iconst 0, 1) := by decide +kernel
theorem d_Me_setRegister_71 : decode prog_4_method_16_code 71 = .ok (.bipush 32, 2) := by decide +kernel
theorem d_Me_setRegister_73 : decode prog_4_method_16_code 73 = .ok (.aload_n 1, 1) := by decide +kernel
theorem d_Me_setRegister_74 : decode prog_4_method_16_code 74 = .ok (.getfield 40, 3) := by decide +kernel
theorem d_Me_setRegister_77 : decode prog_4_method_16_code 77 = .ok (.invokevirtual 44, 3) := by decide +kernel
theorem d_Me_setRegister_80 : decode prog_4_method_16_code 80 = .ok (.aload_n 2, 1) := by decide +kernel
theorem d_Me_setRegister_81 : decode prog_4_method_16_code 81 = .ok (.aload_n 0, 1) := by decide +kernel
theorem d_Me_setRegister_82 : decode prog_4_method_16_code 82 = .ok (.getfield 28, 3) := by decide +kernel
theorem d_Me_setRegister_85 : decode prog_4_method_16_code 85 = .ok (.getfield 125, 3) := by decide +kernel
theorem d_Me_setRegister_88 : decode prog_4_method_16_code 88 = .ok (.putfield 122, 3) := by decide +kernel
theorem d_Me_setRegister_91 : decode prog_4_method_16_code 91 = .ok (.iload_n 3, 1) := by decide +kernel
theorem d_Me_setRegister_92 : decode prog_4_method_16_code 92 = .ok (.ifCond .eq 7, 3) := by decide +kernel
theorem d_Me_setRegister_95 : decode prog_4_method_16_code 95 = .ok (.aload_n 2, 1) := by decide +kernel
theorem d_Me_setRegister_96 : decode prog_4_method_16_code 96 = .ok (.goto 4, 3) := by decide +kernel
theorem d_Me_setRegister_99 : decode prog_4_method_16_code 99 = .ok (.aconst_null, 1) := by decide +kernel
theorem d_Me_setRegister_100 : decode prog_4_method_16_code 100 = .ok (.areturn, 1) := by decide +kernel
theorem f_Me_122 : cx_F "CircuitText$Meaning" 122 4 7 (.int) false := ⟨_, F_Nm, 11, t_Nm, k_Nm, by decide, rfl, rfl, Or.inr ⟨"CircuitText", (in_4 (List.mem_of_getElem? (i := 157) rfl))⟩⟩
theorem f_Me_125 : cx_F "CircuitText$Meaning" 125 8 6 (.int) false := ⟨_, F_Un, 10, t_Un, k_Un, by decide, rfl, rfl, Or.inr ⟨"CircuitText", (in_1 (List.mem_of_getElem? (i := 201) rfl))⟩⟩
abbrev m_Me_begin : cx_M := (⟨"CircuitText$Meaning", "begin", "(LCircuitText$Name;LCircuitText$Token;)V"⟩, prog_4_method_11_code, 3, (Option.none : Option Jvm.ClassFile.FieldType), [], [false, false, false])
theorem w_Me_begin : cx_W m_Me_begin := ⟨Or.inl ⟨(in_5 (List.mem_of_getElem? (i := 11) rfl)), rfl⟩, by decide +kernel, by decide, by decide, by decide +kernel⟩
theorem n_Me_begin : (parseMethodDescriptor m_Me_begin.1.desc).map (fun d => d.parameters.length) = some 2 := by decide +kernel
theorem d_Me_begin_0 : decode prog_4_method_11_code 0 = .ok (.aload_n 0, 1) := by decide +kernel
theorem d_Me_begin_1 : decode prog_4_method_11_code 1 = .ok (.getfield 32, 3) := by decide +kernel
theorem d_Me_begin_4 : decode prog_4_method_11_code 4 = .ok (.aload_n 1, 1) := by decide +kernel
theorem d_Me_begin_5 : decode prog_4_method_11_code 5 = .ok (.getfield 86, 3) := by decide +kernel
theorem d_Me_begin_8 : decode prog_4_method_11_code 8 = .ok (.aload_n 2, 1) := by decide +kernel
theorem d_Me_begin_9 : decode prog_4_method_11_code 9 = .ok (.getfield 101, 3) := by decide +kernel
theorem d_Me_begin_12 : decode prog_4_method_11_code 12 = .ok (.if_icmp .ne 7, 3) := by decide +kernel
theorem d_Me_begin_15 : decode prog_4_method_11_code 15 = .ok (.iconst 1, 1) := by decide +kernel
theorem d_Me_begin_16 : decode prog_4_method_11_code 16 = .ok (.goto 4, 3) := by decide +kernel
theorem d_Me_begin_19 : decode prog_4_method_11_code 19 = .ok (.iconst 0, 1) := by decide +kernel
theorem d_Me_begin_20 : decode prog_4_method_11_code 20 = .ok (.bipush 30, 2) := by decide +kernel
theorem d_Me_begin_22 : decode prog_4_method_11_code 22 = .ok (.aload_n 2, 1) := by decide +kernel
theorem d_Me_begin_23 : decode prog_4_method_11_code 23 = .ok (.getfield 40, 3) := by decide +kernel
theorem d_Me_begin_26 : decode prog_4_method_11_code 26 = .ok (.invokevirtual 44, 3) := by decide +kernel
theorem d_Me_begin_29 : decode prog_4_method_11_code 29 = .ok (.aload_n 1, 1) := by decide +kernel
theorem d_Me_begin_30 : decode prog_4_method_11_code 30 = .ok (.aload_n 2, 1) := by decide +kernel
theorem d_Me_begin_31 : decode prog_4_method_11_code 31 = .ok (.getfield 102, 3) := by decide +kernel
theorem d_Me_begin_34 : decode prog_4_method_11_code 34 = .ok (.putfield 106, 3) := by decide +kernel
theorem d_Me_begin_37 : decode prog_4_method_11_code 37 = .ok (.return_, 1) := by decide +kernel
theorem f_Me_101 : cx_F "CircuitText$Meaning" 101 7 5 (.int) false := ⟨_, F_To, 7, t_To, k_To, by decide, rfl, rfl, Or.inr ⟨"CircuitText", (in_1 (List.mem_of_getElem? (i := 155) rfl))⟩⟩
theorem f_Me_102 : cx_F "CircuitText$Meaning" 102 7 6 (.long) false := ⟨_, F_To, 7, t_To, k_To, by decide, rfl, rfl, Or.inr ⟨"CircuitText", (in_1 (List.mem_of_getElem? (i := 159) rfl))⟩⟩
theorem f_Me_106 : cx_F "CircuitText$Meaning" 106 4 5 (.long) false := ⟨_, F_Nm, 11, t_Nm, k_Nm, by decide, rfl, rfl, Or.inr ⟨"CircuitText", (in_4 (List.mem_of_getElem? (i := 153) rfl))⟩⟩
abbrev m_Me_caseValue : cx_M := (⟨"CircuitText$Meaning", "caseValue", "(LCircuitText$Token;I)V"⟩, prog_4_method_17_code, 3, (Option.none : Option Jvm.ClassFile.FieldType), [], [false, false, false])
theorem w_Me_caseValue : cx_W m_Me_caseValue := ⟨Or.inl ⟨(in_5 (List.mem_of_getElem? (i := 140) rfl)), rfl⟩, by decide +kernel, by decide, by decide, by decide +kernel⟩
theorem n_Me_caseValue : (parseMethodDescriptor m_Me_caseValue.1.desc).map (fun d => d.parameters.length) = some 2 := by decide +kernel
theorem d_Me_caseValue_0 : decode prog_4_method_17_code 0 = .ok (.aload_n 0, 1) := by decide +kernel
theorem d_Me_caseValue_1 : decode prog_4_method_17_code 1 = .ok (.getfield 32, 3) := by decide +kernel
theorem d_Me_caseValue_4 : decode prog_4_method_17_code 4 = .ok (.aload_n 1, 1) := by decide +kernel
theorem d_Me_caseValue_5 : decode prog_4_method_17_code 5 = .ok (.getfield 101, 3) := by decide +kernel
theorem d_Me_caseValue_8 : decode prog_4_method_17_code 8 = .ok (.iload_n 2, 1) := by decide +kernel
theorem d_Me_caseValue_9 : decode prog_4_method_17_code 9 = .ok (.if_icmp .ne 7, 3) := by decide +kernel
theorem d_Me_caseValue_12 : decode prog_4_method_17_code 12 = .ok (.iconst 1, 1) := by decide +kernel
theorem d_Me_caseValue_13 : decode prog_4_method_17_code 13 = .ok (.goto 4, 3) := by decide +kernel
theorem d_Me_caseValue_16 : decode prog_4_method_17_code 16 = .ok (.iconst 0, 1) := by decide +kernel
theorem d_Me_caseValue_17 : decode prog_4_method_17_code 17 = .ok (.bipush 30, 2) := by decide +kernel
theorem d_Me_caseValue_19 : decode prog_4_method_17_code 19 = .ok (.aload_n 1, 1) := by decide +kernel
theorem d_Me_caseValue_20 : decode prog_4_method_17_code 20 = .ok (.getfield 40, 3) := by decide +kernel
theorem d_Me_caseValue_23 : decode prog_4_method_17_code 23 = .ok (.invokevirtual 44, 3) := by decide +kernel
theorem d_Me_caseValue_26 : decode prog_4_method_17_code 26 = .ok (.aload_n 0, 1) := by decide +kernel
theorem d_Me_caseValue_27 : decode prog_4_method_17_code 27 = .ok (.iload_n 2, 1) := by decide +kernel
theorem d_Me_caseValue_28 : decode prog_4_method_17_code 28 = .ok (.invokevirtual 128, 3) := by decide +kernel
theorem d_Me_caseValue_31 : decode prog_4_method_17_code 31 = .ok (.return_, 1) := by decide +kernel
abbrev m_Me_spend : cx_M := (⟨"CircuitText$Meaning", "spend", "(I)V"⟩, prog_4_method_5_code, 3, (Option.none : Option Jvm.ClassFile.FieldType), [], [false, false])
theorem w_Me_spend : cx_W m_Me_spend := ⟨Or.inl ⟨(in_5 (List.mem_of_getElem? (i := 80) rfl)), rfl⟩, by decide +kernel, by decide, by decide, by decide +kernel⟩
theorem n_Me_spend : (parseMethodDescriptor m_Me_spend.1.desc).map (fun d => d.parameters.length) = some 1 := by decide +kernel
theorem d_Me_spend_0 : decode prog_4_method_5_code 0 = .ok (.aload_n 0, 1) := by decide +kernel
theorem d_Me_spend_1 : decode prog_4_method_5_code 1 = .ok (.getfield 28, 3) := by decide +kernel
theorem d_Me_spend_4 : decode prog_4_method_5_code 4 = .ok (.getfield 83, 3) := by decide +kernel
theorem d_Me_spend_7 : decode prog_4_method_5_code 7 = .ok (.iload_n 1, 1) := by decide +kernel
theorem d_Me_spend_8 : decode prog_4_method_5_code 8 = .ok (.iadd, 1) := by decide +kernel
theorem d_Me_spend_9 : decode prog_4_method_5_code 9 = .ok (.istore_n 2, 1) := by decide +kernel
theorem d_Me_spend_10 : decode prog_4_method_5_code 10 = .ok (.aload_n 0, 1) := by decide +kernel
theorem d_Me_spend_11 : decode prog_4_method_5_code 11 = .ok (.getfield 28, 3) := by decide +kernel
theorem d_Me_spend_14 : decode prog_4_method_5_code 14 = .ok (.iload_n 2, 1) := by decide +kernel
theorem d_Me_spend_15 : decode prog_4_method_5_code 15 = .ok (.sipush 1500, 3) := by decide +kernel
theorem d_Me_spend_18 : decode prog_4_method_5_code 18 = .ok (.if_icmp .le 9, 3) := by decide +kernel
theorem d_Me_spend_21 : decode prog_4_method_5_code 21 = .ok (.sipush 1501, 3) := by decide +kernel
theorem d_Me_spend_24 : decode prog_4_method_5_code 24 = .ok (.goto 4, 3) := by decide +kernel
theorem d_Me_spend_27 : decode prog_4_method_5_code 27 = .ok (.iload_n 2, 1) := by decide +kernel
theorem d_Me_spend_28 : decode prog_4_method_5_code 28 = .ok (.putfield 83, 3) := by decide +kernel
theorem d_Me_spend_31 : decode prog_4_method_5_code 31 = .ok (.return_, 1) := by decide +kernel
theorem f_Me_83 : cx_F "CircuitText$Meaning" 83 8 9 (.int) false := ⟨_, F_Un, 10, t_Un, k_Un, by decide, rfl, rfl, Or.inr ⟨"CircuitText", (in_1 (List.mem_of_getElem? (i := 209) rfl))⟩⟩
abbrev m_Me_binary : cx_M := (⟨"CircuitText$Meaning", "binary", "(LCircuitText$Token;II)I"⟩, prog_4_method_18_code, 5, (Option.some Jvm.ClassFile.FieldType.int), [], [false, false, false, false])
theorem w_Me_binary : cx_W m_Me_binary := ⟨Or.inl ⟨(in_5 (List.mem_of_getElem? (i := 87) rfl)), rfl⟩, by decide +kernel, by decide, by decide, by decide +kernel⟩
theorem n_Me_binary : (parseMethodDescriptor m_Me_binary.1.desc).map (fun d => d.parameters.length) = some 3 := by decide +kernel
theorem d_Me_binary_0 : decode prog_4_method_18_code 0 = .ok (.iload_n 2, 1) := by decide +kernel
theorem d_Me_binary_1 : decode prog_4_method_18_code 1 = .ok (.iload_n 3, 1) := by decide +kernel
theorem d_Me_binary_2 : decode prog_4_method_18_code 2 = .ok (.invokestatic 132, 3) := by decide +kernel
theorem d_Me_binary_5 : decode prog_4_method_18_code 5 = .ok (.istore 4, 2) := by decide +kernel
theorem d_Me_binary_7 : decode prog_4_method_18_code 7 = .ok (.aload_n 1, 1) := by decide +kernel
theorem d_Me_binary_8 : decode prog_4_method_18_code 8 = .ok (.getfield 138, 3) := by decide +kernel
theorem d_Me_binary_11 : decode prog_4_method_18_code 11 = .ok (.lookupswitch 173 #[(38, 142), (42, 108), (43, 142), (45, 142), (94, 142), (124, 142), (9766, 89), (15420, 97), (15934, 97), (31868, 89)], 89) := by decide +kernel
theorem d_Me_binary_100 : decode prog_4_method_18_code 100 = .ok (.aload_n 0, 1) := by decide +kernel
theorem d_Me_binary_101 : decode prog_4_method_18_code 101 = .ok (.iload 4, 2) := by decide +kernel
theorem d_Me_binary_103 : decode prog_4_method_18_code 103 = .ok (.invokevirtual 128, 3) := by decide +kernel
theorem d_Me_binary_106 : decode prog_4_method_18_code 106 = .ok (.iconst 1, 1) := by decide +kernel
theorem d_Me_binary_107 : decode prog_4_method_18_code 107 = .ok (.ireturn, 1) := by decide +kernel
theorem d_Me_binary_108 : decode prog_4_method_18_code 108 = .ok (.aload_n 0, 1) := by decide +kernel
theorem d_Me_binary_109 : decode prog_4_method_18_code 109 = .ok (.iconst 3, 1) := by decide +kernel
theorem d_Me_binary_110 : decode prog_4_method_18_code 110 = .ok (.iload_n 2, 1) := by decide +kernel
theorem d_Me_binary_111 : decode prog_4_method_18_code 111 = .ok (.imul, 1) := by decide +kernel
theorem d_Me_binary_112 : decode prog_4_method_18_code 112 = .ok (.iload_n 3, 1) := by decide +kernel
theorem d_Me_binary_113 : decode prog_4_method_18_code 113 = .ok (.iadd, 1) := by decide +kernel
theorem d_Me_binary_114 : decode prog_4_method_18_code 114 = .ok (.invokevirtual 128, 3) := by decide +kernel
theorem d_Me_binary_117 : decode prog_4_method_18_code 117 = .ok (.iload_n 2, 1) := by decide +kernel
theorem d_Me_binary_118 : decode prog_4_method_18_code 118 = .ok (.ireturn, 1) := by decide +kernel
theorem d_Me_binary_119 : decode prog_4_method_18_code 119 = .ok (.aload_n 0, 1) := by decide +kernel
theorem d_Me_binary_120 : decode prog_4_method_18_code 120 = .ok (.getfield 32, 3) := by decide +kernel
theorem d_Me_binary_123 : decode prog_4_method_18_code 123 = .ok (.iload_n 2, 1) := by decide +kernel
theorem d_Me_binary_124 : decode prog_4_method_18_code 124 = .ok (.iload_n 3, 1) := by decide +kernel
theorem d_Me_binary_125 : decode prog_4_method_18_code 125 = .ok (.if_icmp .ne 7, 3) := by decide +kernel
theorem d_Me_binary_128 : decode prog_4_method_18_code 128 = .ok (.iconst 1, 1) := by decide +kernel
theorem d_Me_binary_129 : decode prog_4_method_18_code 129 = .ok (.goto 4, 3) := by decide +kernel
theorem d_Me_binary_132 : decode prog_4_method_18_code 132 = .ok (.iconst 0, 1) := by decide +kernel
theorem d_Me_binary_133 : decode prog_4_method_18_code 133 = .ok (.bipush 30, 2) := by decide +kernel
theorem d_Me_binary_135 : decode prog_4_method_18_code 135 = .ok (.aload_n 1, 1) := by decide +kernel
theorem d_Me_binary_136 : decode prog_4_method_18_code 136 = .ok (.getfield 40, 3) := by decide +kernel
theorem d_Me_binary_139 : decode prog_4_method_18_code 139 = .ok (.invokevirtual 44, 3) := by decide +kernel
theorem d_Me_binary_142 : decode prog_4_method_18_code 142 = .ok (.aload_n 0, 1) := by decide +kernel
theorem d_Me_binary_143 : decode prog_4_method_18_code 143 = .ok (.iload 4, 2) := by decide +kernel
theorem d_Me_binary_145 : decode prog_4_method_18_code 145 = .ok (.iload 4, 2) := by decide +kernel
theorem d_Me_binary_147 : decode prog_4_method_18_code 147 = .ok (.imul, 1) := by decide +kernel
theorem d_Me_binary_148 : decode prog_4_method_18_code 148 = .ok (.invokevirtual 128, 3) := by decide +kernel
theorem d_Me_binary_151 : decode prog_4_method_18_code 151 = .ok (.iload_n 2, 1) := by decide +kernel
theorem d_Me_binary_152 : decode prog_4_method_18_code 152 = .ok (.ireturn, 1) := by decide +kernel
theorem d_Me_binary_153 : decode prog_4_method_18_code 153 = .ok (.aload_n 0, 1) := by decide +kernel
theorem d_Me_binary_154 : decode prog_4_method_18_code 154 = .ok (.getfield 32, 3) := by decide +kernel
theorem d_Me_binary_157 : decode prog_4_method_18_code 157 = .ok (.iload_n 2, 1) := by decide +kernel
theorem d_Me_binary_158 : decode prog_4_method_18_code 158 = .ok (.iload_n 3, 1) := by decide +kernel
theorem d_Me_binary_159 : decode prog_4_method_18_code 159 = .ok (.if_icmp .ne 7, 3) := by decide +kernel
theorem d_Me_binary_162 : decode prog_4_method_18_code 162 = .ok (.iconst 1, 1) := by decide +kernel
theorem d_Me_binary_163 : decode prog_4_method_18_code 163 = .ok (.goto 4, 3) := by decide +kernel
theorem d_Me_binary_166 : decode prog_4_method_18_code 166 = .ok (.iconst 0, 1) := by decide +kernel
theorem d_Me_binary_167 : decode prog_4_method_18_code 167 = .ok (.bipush 30, 2) := by decide +kernel
theorem d_Me_binary_169 : decode prog_4_method_18_code 169 = .ok (.aload_n 1, 1) := by decide +kernel
theorem d_Me_binary_170 : decode prog_4_method_18_code 170 = .ok (.getfield 40, 3) := by decide +kernel
theorem d_Me_binary_173 : decode prog_4_method_18_code 173 = .ok (.invokevirtual 44, 3) := by decide +kernel
theorem d_Me_binary_176 : decode prog_4_method_18_code 176 = .ok (.aload_n 0, 1) := by decide +kernel
theorem d_Me_binary_177 : decode prog_4_method_18_code 177 = .ok (.iload 4, 2) := by decide +kernel
theorem d_Me_binary_179 : decode prog_4_method_18_code 179 = .ok (.invokevirtual 128, 3) := by decide +kernel
theorem d_Me_binary_182 : decode prog_4_method_18_code 182 = .ok (.iload_n 2, 1) := by decide +kernel
theorem d_Me_binary_183 : decode prog_4_method_18_code 183 = .ok (.ireturn, 1) := by decide +kernel
theorem d_Me_binary_184 : decode prog_4_method_18_code 184 = .ok (.aload_n 0, 1) := by decide +kernel
theorem d_Me_binary_185 : decode prog_4_method_18_code 185 = .ok (.getfield 32, 3) := by decide +kernel
theorem d_Me_binary_188 : decode prog_4_method_18_code 188 = .ok (.iload_n 2, 1) := by decide +kernel
theorem d_Me_binary_189 : decode prog_4_method_18_code 189 = .ok (.iload_n 3, 1) := by decide +kernel
theorem d_Me_binary_190 : decode prog_4_method_18_code 190 = .ok (.if_icmp .ne 7, 3) := by decide +kernel
theorem d_Me_binary_193 : decode prog_4_method_18_code 193 = .ok (.iconst 1, 1) := by decide +kernel
theorem d_Me_binary_194 : decode prog_4_method_18_code 194 = .ok (.goto 4, 3) := by decide +kernel
theorem d_Me_binary_197 : decode prog_4_method_18_code 197 = .ok (.iconst 0, 1) := by decide +kernel
theorem d_Me_binary_198 : decode prog_4_method_18_code 198 = .ok (.bipush 30, 2) := by decide +kernel
theorem d_Me_binary_200 : decode prog_4_method_18_code 200 = .ok (.aload_n 1, 1) := by decide +kernel
theorem d_Me_binary_201 : decode prog_4_method_18_code 201 = .ok (.getfield 40, 3) := by decide +kernel
theorem d_Me_binary_204 : decode prog_4_method_18_code 204 = .ok (.invokevirtual 44, 3) := by decide +kernel
theorem d_Me_binary_207 : decode prog_4_method_18_code 207 = .ok (.aload_n 0, 1) := by decide +kernel
theorem d_Me_binary_208 : decode prog_4_method_18_code 208 = .ok (.iload 4, 2) := by decide +kernel
theorem d_Me_binary_210 : decode prog_4_method_18_code 210 = .ok (.invokevirtual 128, 3) := by decide +kernel
theorem d_Me_binary_213 : decode prog_4_method_18_code 213 = .ok (.iconst 1, 1) := by decide +kernel
theorem d_Me_binary_214 : decode prog_4_method_18_code 214 = .ok (.ireturn, 1) := by decide +kernel
theorem f_Me_138 : cx_F "CircuitText$Meaning" 138 7 0 (.int) true := ⟨_, F_To, 7, t_To, k_To, by decide, rfl, rfl, Or.inr ⟨"CircuitText", (in_1 (List.mem_of_getElem? (i := 138) rfl))⟩⟩
abbrev m_Me_conditional : cx_M := (⟨"CircuitText$Meaning", "conditional", "(LCircuitText$Token;III)I"⟩, prog_4_method_19_code, 5, (Option.some Jvm.ClassFile.FieldType.int), [], [false, false, false, false, false])
theorem w_Me_conditional : cx_W m_Me_conditional := ⟨Or.inl ⟨(in_5 (List.mem_of_getElem? (i := 116) rfl)), rfl⟩, by decide +kernel, by decide, by decide, by decide +kernel⟩
theorem n_Me_conditional : (parseMethodDescriptor m_Me_conditional.1.desc).map (fun d => d.parameters.length) = some 4 := by decide +kernel
theorem d_Me_conditional_0 : decode prog_4_method_19_code 0 = .ok (.aload_n 0, 1) := by decide +kernel
theorem d_Me_conditional_1 : decode prog_4_method_19_code 1 = .ok (.getfield 32, 3) := by decide +kernel
theorem d_Me_conditional_4 : decode prog_4_method_19_code 4 = .ok (.iload_n 3, 1) := by decide +kernel
theorem d_Me_conditional_5 : decode prog_4_method_19_code 5 = .ok (.iload 4, 2) := by decide +kernel
theorem d_Me_conditional_7 : decode prog_4_method_19_code 7 = .ok (.if_icmp .ne 7, 3) := by decide +kernel
theorem d_Me_conditional_10 : decode prog_4_method_19_code 10 = .ok (.iconst 1, 1) := by decide +kernel
theorem d_Me_conditional_11 : decode prog_4_method_19_code 11 = .ok (.goto 4, 3) := by decide +kernel
theorem d_Me_conditional_14 : decode prog_4_method_19_code 14 = .ok (.iconst 0, 1) := by decide +kernel
theorem d_Me_conditional_15 : decode prog_4_method_19_code 15 = .ok (.bipush 30, 2) := by decide +kernel
theorem d_Me_conditional_17 : decode prog_4_method_19_code 17 = .ok (.aload_n 1, 1) := by decide +kernel
theorem d_Me_conditional_18 : decode prog_4_method_19_code 18 = .ok (.getfield 40, 3) := by decide +kernel
theorem d_Me_conditional_21 : decode prog_4_method_19_code 21 = .ok (.invokevirtual 44, 3) := by decide +kernel
theorem d_Me_conditional_24 : decode prog_4_method_19_code 24 = .ok (.aload_n 0, 1) := by decide +kernel
theorem d_Me_conditional_25 : decode prog_4_method_19_code 25 = .ok (.iload_n 2, 1) := by decide +kernel
theorem d_Me_conditional_26 : decode prog_4_method_19_code 26 = .ok (.iload_n 3, 1) := by decide +kernel
theorem d_Me_conditional_27 : decode prog_4_method_19_code 27 = .ok (.iload 4, 2) := by decide +kernel
theorem d_Me_conditional_29 : decode prog_4_method_19_code 29 = .ok (.invokestatic 132, 3) := by decide +kernel
theorem d_Me_conditional_32 : decode prog_4_method_19_code 32 = .ok (.invokestatic 132, 3) := by decide +kernel
theorem d_Me_conditional_35 : decode prog_4_method_19_code 35 = .ok (.invokevirtual 128, 3) := by decide +kernel
theorem d_Me_conditional_38 : decode prog_4_method_19_code 38 = .ok (.iload_n 3, 1) := by decide +kernel
theorem d_Me_conditional_39 : decode prog_4_method_19_code 39 = .ok (.ireturn, 1) := by decide +kernel
abbrev m_Me_linkedPort : cx_M := (⟨"CircuitText$Meaning", "linkedPort", "(LCircuitText$Name;LCircuitText$Token;)LCircuitText$Name;"⟩, prog_4_method_22_code, 5, (Option.some (Jvm.ClassFile.FieldType.object "CircuitText$Name")), [], [false, false, false])
theorem w_Me_linkedPort : cx_W m_Me_linkedPort := ⟨Or.inl ⟨(in_5 (List.mem_of_getElem? (i := 177) rfl)), rfl⟩, by decide +kernel, by decide, by decide, by decide +kernel⟩
theorem n_Me_linkedPort : (parseMethodDescriptor m_Me_linkedPort.1.desc).map (fun d => d.parameters.length) = some 2 := by decide +kernel
theorem d_Me_linkedPort_0 : decode prog_4_method_22_code 0 = .ok (.aload_n 1, 1) := by decide +kernel
theorem d_Me_linkedPort_1 : decode prog_4_method_22_code 1 = .ok (.getfield 143, 3) := by decide +kernel
theorem d_Me_linkedPort_4 : decode prog_4_method_22_code 4 = .ok (.ifnonnull 7, 3) := by decide +kernel
theorem d_Me_linkedPort_7 : decode prog_4_method_22_code 7 = .ok (.aconst_null, 1) := by decide +kernel
theorem d_Me_linkedPort_8 : decode prog_4_method_22_code 8 = .ok (.goto 14, 3) := by decide +kernel
theorem d_Me_linkedPort_11 : decode prog_4_method_22_code 11 = .ok (.aload_n 1, 1) := by decide +kernel
theorem d_Me_linkedPort_12 : decode prog_4_method_22_code 12 = .ok (.getfield 143, 3) := by decide +kernel
theorem d_Me_linkedPort_15 : decode prog_4_method_22_code 15 = .ok (.aload_n 2, 1) := by decide +kernel
theorem d_Me_linkedPort_16 : decode prog_4_method_22_code 16 = .ok (.getfield 89, 3) := by decide +kernel
theorem d_Me_linkedPort_19 : decode prog_4_method_22_code 19 = .ok (.invokevirtual 149, 3) := by decide +kernel
theorem d_Me_linkedPort_22 : decode prog_4_method_22_code 22 = .ok (.astore_n 3, 1) := by decide +kernel
theorem d_Me_linkedPort_23 : decode prog_4_method_22_code 23 = .ok (.aload_n 3, 1) := by decide +kernel
theorem d_Me_linkedPort_24 : decode prog_4_method_22_code 24 = .ok (.ifnull 15, 3) := by decide +kernel
theorem d_Me_linkedPort_27 : decode prog_4_method_22_code 27 = .ok (.aload_n 3, 1) := by decide +kernel
theorem d_Me_linkedPort_28 : decode prog_4_method_22_code 28 = .ok (.getfield 153, 3) := by decide +kernel
theorem d_Me_linkedPort_31 : decode prog_4_method_22_code 31 = .ok (.aload_n 1, 1) := by decide +kernel
theorem d_Me_linkedPort_32 : decode prog_4_method_22_code 32 = .ok (.if_acmp .eq 7, 3) := by decide +kernel
theorem d_Me_linkedPort_35 : decode prog_4_method_22_code 35 = .ok (.iconst 1, 1) := by decide +kernel
theorem d_Me_linkedPort_36 : decode prog_4_method_22_code 36 = .ok (.goto 4, 3) := by decide +kernel
theorem d_Me_linkedPort_39 : decode prog_4_method_22_code 39 = .ok (.iconst 0, 1) := by decide +kernel
theorem d_Me_linkedPort_40 : decode prog_4_method_22_code 40 = .ok (.istore 4, 2) := by decide +kernel
theorem d_Me_linkedPort_42 : decode prog_4_method_22_code 42 = .ok (.aload_n 0, 1) := by decide +kernel
theorem d_Me_linkedPort_43 : decode prog_4_method_22_code 43 = .ok (.getfield 32, 3) := by decide +kernel
theorem d_Me_linkedPort_46 : decode prog_4_method_22_code 46 = .ok (.iload 4, 2) := by decide +kernel
theorem d_Me_linkedPort_48 : decode prog_4_method_22_code 48 = .ok (.bipush 23, 2) := by decide +kernel
theorem d_Me_linkedPort_50 : decode prog_4_method_22_code 50 = .ok (.aload_n 2, 1) := by decide +kernel
theorem d_Me_linkedPort_51 : decode prog_4_method_22_code 51 = .ok (.getfield 40, 3) := by decide +kernel
theorem d_Me_linkedPort_54 : decode prog_4_method_22_code 54 = .ok (.invokevirtual 44, 3) := by decide +kernel
theorem d_Me_linkedPort_57 : decode prog_4_method_22_code 57 = .ok (.iload 4, 2) := by decide +kernel
theorem d_Me_linkedPort_59 : decode prog_4_method_22_code 59 = .ok (.ifCond .eq 18, 3) := by decide +kernel
theorem d_Me_linkedPort_62 : decode prog_4_method_22_code 62 = .ok (.aload_n 3, 1) := by decide +kernel
theorem d_Me_linkedPort_63 : decode prog_4_method_22_code 63 = .ok (.aload_n 1, 1) := by decide +kernel
theorem d_Me_linkedPort_64 : decode prog_4_method_22_code 64 = .ok (.putfield 153, 3) := by decide +kernel
theorem d_Me_linkedPort_67 : decode prog_4_method_22_code 67 = .ok (.aload_n 1, 1) := by decide +kernel
theorem d_Me_linkedPort_68 : decode prog_4_method_22_code 68 = .ok (.dup, 1) := by decide +kernel
theorem d_Me_linkedPort_69 : decode prog_4_method_22_code 69 = .ok (.getfield 156, 3) := by decide +kernel
theorem d_Me_linkedPort_72 : decode prog_4_method_22_code 72 = .ok (.iconst 1, 1) := by decide +kernel
theorem d_Me_linkedPort_73 : decode prog_4_method_22_code 73 = .ok (.iadd, 1) := by decide +kernel
theorem d_Me_linkedPort_74 : decode prog_4_method_22_code 74 = .ok (.putfield 156, 3) := by decide +kernel
theorem d_Me_linkedPort_77 : decode prog_4_method_22_code 77 = .ok (.iload 4, 2) := by decide +kernel
theorem d_Me_linkedPort_79 : decode prog_4_method_22_code 79 = .ok (.ifCond .eq 7, 3) := by decide +kernel
theorem d_Me_linkedPort_82 : decode prog_4_method_22_code 82 = .ok (.aload_n 3, 1) := by decide +kernel
theorem d_Me_linkedPort_83 : decode prog_4_method_22_code 83 = .ok (.goto 4, 3) := by decide +kernel
theorem d_Me_linkedPort_86 : decode prog_4_method_22_code 86 = .ok (.aconst_null, 1) := by decide +kernel
theorem d_Me_linkedPort_87 : decode prog_4_method_22_code 87 = .ok (.areturn, 1) := by decide +kernel
theorem f_Me_143 : cx_F "CircuitText$Meaning" 143 4 8 (.object "CircuitText$Unit") false := ⟨_, F_Nm, 11, t_Nm, k_Nm, by decide, rfl, rfl, Or.inr ⟨"CircuitText", (in_4 (List.mem_of_getElem? (i := 160) rfl))⟩⟩
theorem f_Me_153 : cx_F "CircuitText$Meaning" 153 4 10 (.object "CircuitText$Name") false := ⟨_, F_Nm, 11, t_Nm, k_Nm, by decide, rfl, rfl, Or.inr ⟨"CircuitText", (in_4 (List.mem_of_getElem? (i := 164) rfl))⟩⟩
theorem f_Me_156 : cx_F "CircuitText$Meaning" 156 4 9 (.int) false := ⟨_, F_Nm, 11, t_Nm, k_Nm, by decide, rfl, rfl, Or.inr ⟨"CircuitText", (in_4 (List.mem_of_getElem? (i := 162) rfl))⟩⟩
abbrev m_Un_portOf : cx_M := (⟨"CircuitText$Unit", "portOf", "(LCircuitText$Word;)LCircuitText$Name;"⟩, prog_9_method_2_code, 3, (Option.some (Jvm.ClassFile.FieldType.object "CircuitText$Name")), [], [false, false])
theorem w_Un_portOf : cx_W m_Un_portOf := ⟨Or.inl ⟨(in_5 (List.mem_of_getElem? (i := 181) rfl)), rfl⟩, by decide +kernel, by decide, by decide, by decide +kernel⟩
theorem n_Un_portOf : (parseMethodDescriptor m_Un_portOf.1.desc).map (fun d => d.parameters.length) = some 1 := by decide +kernel
theorem d_Un_portOf_0 : decode prog_9_method_2_code 0 = .ok (.iconst 0, 1) := by decide +kernel
theorem d_Un_portOf_1 : decode prog_9_method_2_code 1 = .ok (.istore_n 2, 1) := by decide +kernel
theorem d_Un_portOf_2 : decode prog_9_method_2_code 2 = .ok (.iload_n 2, 1) := by decide +kernel
theorem d_Un_portOf_3 : decode prog_9_method_2_code 3 = .ok (.aload_n 0, 1) := by decide +kernel
theorem d_Un_portOf_4 : decode prog_9_method_2_code 4 = .ok (.getfield 16, 3) := by decide +kernel
theorem d_Un_portOf_7 : decode prog_9_method_2_code 7 = .ok (.if_icmp .ge 50, 3) := by decide +kernel
theorem d_Un_portOf_10 : decode prog_9_method_2_code 10 = .ok (.iload_n 2, 1) := by decide +kernel
theorem d_Un_portOf_11 : decode prog_9_method_2_code 11 = .ok (.aload_n 0, 1) := by decide +kernel
theorem d_Un_portOf_12 : decode prog_9_method_2_code 12 = .ok (.getfield 10, 3) := by decide +kernel
theorem d_Un_portOf_15 : decode prog_9_method_2_code 15 = .ok (.invokevirtual 49, 3) := by decide +kernel
theorem d_Un_portOf_18 : decode prog_9_method_2_code 18 = .ok (.if_icmp .ge 39, 3) := by decide +kernel
theorem d_Un_portOf_21 : decode prog_9_method_2_code 21 = .ok (.aload_n 0, 1) := by decide +kernel
theorem d_Un_portOf_22 : decode prog_9_method_2_code 22 = .ok (.getfield 10, 3) := by decide +kernel
theorem d_Un_portOf_25 : decode prog_9_method_2_code 25 = .ok (.iload_n 2, 1) := by decide +kernel
theorem d_Un_portOf_26 : decode prog_9_method_2_code 26 = .ok (.invokevirtual 53, 3) := by decide +kernel
theorem d_Un_portOf_29 : decode prog_9_method_2_code 29 = .ok (.checkcast 57, 3) := by decide +kernel
theorem d_Un_portOf_32 : decode prog_9_method_2_code 32 = .ok (.getfield 59, 3) := by decide +kernel
theorem d_Un_portOf_35 : decode prog_9_method_2_code 35 = .ok (.aload_n 1, 1) := by decide +kernel
theorem d_Un_portOf_36 : decode prog_9_method_2_code 36 = .ok (.if_acmp .ne 15, 3) := by decide +kernel
theorem d_Un_portOf_39 : decode prog_9_method_2_code 39 = .ok (.aload_n 0, 1) := by decide +kernel
theorem d_Un_portOf_40 : decode prog_9_method_2_code 40 = .ok (.getfield 10, 3) := by decide +kernel
theorem d_Un_portOf_43 : decode prog_9_method_2_code 43 = .ok (.iload_n 2, 1) := by decide +kernel
theorem d_Un_portOf_44 : decode prog_9_method_2_code 44 = .ok (.invokevirtual 53, 3) := by decide +kernel
theorem d_Un_portOf_47 : decode prog_9_method_2_code 47 = .ok (.checkcast 57, 3) := by decide +kernel
theorem d_Un_portOf_50 : decode prog_9_method_2_code 50 = .ok (.areturn, 1) := by decide +kernel
theorem d_Un_portOf_51 : decode prog_9_method_2_code 51 = .ok (.iinc 2 1, 3) := by decide +kernel
theorem d_Un_portOf_54 : decode prog_9_method_2_code 54 = .ok (.goto (-52), 3) := by decide +kernel
theorem d_Un_portOf_57 : decode prog_9_method_2_code 57 = .ok (.aconst_null, 1) := by decide +kernel
theorem d_Un_portOf_58 : decode prog_9_method_2_code 58 = .ok (.areturn, 1) := by decide +kernel
theorem f_Un_16 : cx_F "CircuitText$Unit" 16 8 4 (.int) false := ⟨_, F_Un, 10, t_Un, k_Un, by decide, rfl, rfl, Or.inl (in_1 (List.mem_of_getElem? (i := 191) rfl))⟩
theorem f_Un_10 : cx_F "CircuitText$Unit" 10 8 3 (.object "java/util/ArrayList") true := ⟨_, F_Un, 10, t_Un, k_Un, by decide, rfl, rfl, Or.inl (in_1 (List.mem_of_getElem? (i := 188) rfl))⟩
theorem ff_Un_10 : cx_FF "CircuitText$Unit" 10 8 3 (.object "java/util/ArrayList") := ⟨_, F_Un, 10, t_Un, k_Un, by decide, rfl, rfl, rfl, (in_1 (List.mem_of_getElem? (i := 188) rfl))⟩
theorem f_Un_59 : cx_F "CircuitText$Unit" 59 4 1 (.object "CircuitText$Word") true := ⟨_, F_Nm, 11, t_Nm, k_Nm, by decide, rfl, rfl, Or.inr ⟨"CircuitText", (in_4 (List.mem_of_getElem? (i := 140) rfl))⟩⟩
abbrev m_Me_link : cx_M := (⟨"CircuitText$Meaning", "link", "(LCircuitText$Token;LCircuitText$Name;LCircuitText$Token;ZI)V"⟩, prog_4_method_23_code, 8, (Option.none : Option Jvm.ClassFile.FieldType), [], [false, false, false, false, false, false])
theorem w_Me_link : cx_W m_Me_link := ⟨Or.inl ⟨(in_5 (List.mem_of_getElem? (i := 199) rfl)), rfl⟩, by decide +kernel, by decide, by decide, by decide +kernel⟩
theorem n_Me_link : (parseMethodDescriptor m_Me_link.1.desc).map (fun d => d.parameters.length) = some 5 := by decide +kernel
theorem d_Me_link_0 : decode prog_4_method_23_code 0 = .ok (.aload_n 2, 1) := by decide +kernel
theorem d_Me_link_1 : decode prog_4_method_23_code 1 = .ok (.ifnonnull 4, 3) := by decide +kernel
theorem d_Me_link_4 : decode prog_4_method_23_code 4 = .ok (.return_, 1) := by decide +kernel
theorem d_Me_link_5 : decode prog_4_method_23_code 5 = .ok (.iload 4, 2) := by decide +kernel
theorem d_Me_link_7 : decode prog_4_method_23_code 7 = .ok (.ifCond .eq 11, 3) := by decide +kernel
theorem d_Me_link_10 : decode prog_4_method_23_code 10 = .ok (.aload_n 0, 1) := by decide +kernel
theorem d_Me_link_11 : decode prog_4_method_23_code 11 = .ok (.aload_n 3, 1) := by decide +kernel
theorem d_Me_link_12 : decode prog_4_method_23_code 12 = .ok (.invokevirtual 93, 3) := by decide +kernel
theorem d_Me_link_15 : decode prog_4_method_23_code 15 = .ok (.goto 4, 3) := by decide +kernel
theorem d_Me_link_18 : decode prog_4_method_23_code 18 = .ok (.aconst_null, 1) := by decide +kernel
theorem d_Me_link_19 : decode prog_4_method_23_code 19 = .ok (.astore 6, 2) := by decide +kernel
theorem d_Me_link_21 : decode prog_4_method_23_code 21 = .ok (.aload 6, 2) := by decide +kernel
theorem d_Me_link_23 : decode prog_4_method_23_code 23 = .ok (.ifnull 15, 3) := by decide +kernel
theorem d_Me_link_26 : decode prog_4_method_23_code 26 = .ok (.aload 6, 2) := by decide +kernel
theorem d_Me_link_28 : decode prog_4_method_23_code 28 = .ok (.invokevirtual 67, 3) := by decide +kernel
theorem d_Me_link_31 : decode prog_4_method_23_code 31 = .ok (.ifCond .eq 7, 3) := by decide +kernel
theorem d_Me_link_34 : decode prog_4_method_23_code 34 = .ok (.iconst 1, 1) := by decide +kernel
theorem d_Me_link_35 : decode prog_4_method_23_code 35 = .ok (.goto 4, 3) := by decide +kernel
theorem d_Me_link_38 : decode prog_4_method_23_code 38 = .ok (.iconst 0, 1) := by decide +kernel
theorem d_Me_link_39 : decode prog_4_method_23_code 39 = .ok (.istore 7, 2) := by decide +kernel
theorem d_Me_link_41 : decode prog_4_method_23_code 41 = .ok (.aload_n 0, 1) := by decide +kernel
theorem d_Me_link_42 : decode prog_4_method_23_code 42 = .ok (.getfield 32, 3) := by decide +kernel
theorem d_Me_link_45 : decode prog_4_method_23_code 45 = .ok (.iload 7, 2) := by decide +kernel
theorem d_Me_link_47 : decode prog_4_method_23_code 47 = .ok (.ifCond .ne 10, 3) := by decide +kernel
theorem d_Me_link_50 : decode prog_4_method_23_code 50 = .ok (.aload_n 2, 1) := by decide +kernel
theorem d_Me_link_51 : decode prog_4_method_23_code 51 = .ok (.invokevirtual 159, 3) := by decide +kernel
theorem d_Me_link_54 : decode prog_4_method_23_code 54 = .ok (.ifCond .ne 7, 3) := by decide +kernel
theorem d_Me_link_57 : decode prog_4_method_23_code 57 = .ok (.iconst 1, 1) := by decide +kernel
theorem d_Me_link_58 : decode prog_4_method_23_code 58 = .ok (.goto 4, 3) := by decide +kernel
theorem d_Me_link_61 : decode prog_4_method_23_code 61 = .ok (.iconst 0, 1) := by decide +kernel
theorem d_Me_link_62 : decode prog_4_method_23_code 62 = .ok (.bipush 25, 2) := by decide +kernel
theorem d_Me_link_64 : decode prog_4_method_23_code 64 = .ok (.aload_n 3, 1) := by decide +kernel
theorem d_Me_link_65 : decode prog_4_method_23_code 65 = .ok (.getfield 40, 3) := by decide +kernel
theorem d_Me_link_68 : decode prog_4_method_23_code 68 = .ok (.invokevirtual 44, 3) := by decide +kernel
theorem d_Me_link_71 : decode prog_4_method_23_code 71 = .ok (.aload_n 0, 1) := by decide +kernel
theorem d_Me_link_72 : decode prog_4_method_23_code 72 = .ok (.getfield 32, 3) := by decide +kernel
theorem d_Me_link_75 : decode prog_4_method_23_code 75 = .ok (.aload_n 2, 1) := by decide +kernel
theorem d_Me_link_76 : decode prog_4_method_23_code 76 = .ok (.getfield 86, 3) := by decide +kernel
theorem d_Me_link_79 : decode prog_4_method_23_code 79 = .ok (.iload 5, 2) := by decide +kernel
theorem d_Me_link_81 : decode prog_4_method_23_code 81 = .ok (.if_icmp .ne 7, 3) := by decide +kernel
theorem d_Me_link_84 : decode prog_4_method_23_code 84 = .ok (.iconst 1, 1) := by decide +kernel
theorem d_Me_link_85 : decode prog_4_method_23_code 85 = .ok (.goto 4, 3) := by decide +kernel
theorem d_Me_link_88 : decode prog_4_method_23_code 88 = .ok (.iconst 0, 1) := by decide +kernel
theorem d_Me_link_89 : decode prog_4_method_23_code 89 = .ok (.bipush 30, 2) := by decide +kernel
theorem d_Me_link_91 : decode prog_4_method_23_code 91 = .ok (.aload_n 1, 1) := by decide +kernel
theorem d_Me_link_92 : decode prog_4_method_23_code 92 = .ok (.getfield 40, 3) := by decide +kernel
theorem d_Me_link_95 : decode prog_4_method_23_code 95 = .ok (.invokevirtual 44, 3) := by decide +kernel
theorem d_Me_link_98 : decode prog_4_method_23_code 98 = .ok (.aload_n 2, 1) := by decide +kernel
theorem d_Me_link_99 : decode prog_4_method_23_code 99 = .ok (.invokevirtual 159, 3) := by decide +kernel
theorem d_Me_link_102 : decode prog_4_method_23_code 102 = .ok (.ifCond .eq 15, 3) := by decide +kernel
theorem d_Me_link_105 : decode prog_4_method_23_code 105 = .ok (.iload 7, 2) := by decide +kernel
theorem d_Me_link_107 : decode prog_4_method_23_code 107 = .ok (.ifCond .eq 10, 3) := by decide +kernel
theorem d_Me_link_110 : decode prog_4_method_23_code 110 = .ok (.aload_n 0, 1) := by decide +kernel
theorem d_Me_link_111 : decode prog_4_method_23_code 111 = .ok (.aload 6, 2) := by decide +kernel
theorem d_Me_link_113 : decode prog_4_method_23_code 113 = .ok (.aload_n 3, 1) := by decide +kernel
theorem d_Me_link_114 : decode prog_4_method_23_code 114 = .ok (.invokevirtual 115, 3) := by decide +kernel
theorem d_Me_link_117 : decode prog_4_method_23_code 117 = .ok (.return_, 1) := by decide +kernel
abbrev m_Me_finishInstance : cx_M := (⟨"CircuitText$Meaning", "finishInstance", "(LCircuitText$Name;)V"⟩, prog_4_method_24_code, 3, (Option.none : Option Jvm.ClassFile.FieldType), [], [false, false])
theorem w_Me_finishInstance : cx_W m_Me_finishInstance := ⟨Or.inl ⟨(in_5 (List.mem_of_getElem? (i := 207) rfl)), rfl⟩, by decide +kernel, by decide, by decide, by decide +kernel⟩
theorem n_Me_finishInstance : (parseMethodDescriptor m_Me_finishInstance.1.desc).map (fun d => d.parameters.length) = some 1 := by decide +kernel
theorem d_Me_finishInstance_0 : decode prog_4_method_24_code 0 = .ok (.aload_n 1, 1) := by decide +kernel
theorem d_Me_finishInstance_1 : decode prog_4_method_24_code 1 = .ok (.getfield 143, 3) := by decide +kernel
theorem d_Me_finishInstance_4 : decode prog_4_method_24_code 4 = .ok (.ifnull 21, 3) := by decide +kernel
theorem d_Me_finishInstance_7 : decode prog_4_method_24_code 7 = .ok (.aload_n 1, 1) := by decide +kernel
theorem d_Me_finishInstance_8 : decode prog_4_method_24_code 8 = .ok (.getfield 156, 3) := by decide +kernel
theorem d_Me_finishInstance_11 : decode prog_4_method_24_code 11 = .ok (.aload_n 1, 1) := by decide +kernel
theorem d_Me_finishInstance_12 : decode prog_4_method_24_code 12 = .ok (.getfield 143, 3) := by decide +kernel
theorem d_Me_finishInstance_15 : decode prog_4_method_24_code 15 = .ok (.getfield 162, 3) := by decide +kernel
theorem d_Me_finishInstance_18 : decode prog_4_method_24_code 18 = .ok (.if_icmp .ne 7, 3) := by decide +kernel
theorem d_Me_finishInstance_21 : decode prog_4_method_24_code 21 = .ok (.iconst 1, 1) := by decide +kernel
theorem d_Me_finishInstance_22 : decode prog_4_method_24_code 22 = .ok (.goto 4, 3) := by decide +kernel
theorem d_Me_finishInstance_25 : decode prog_4_method_24_code 25 = .ok (.iconst 0, 1) := by decide +kernel
theorem d_Me_finishInstance_26 : decode prog_4_method_24_code 26 = .ok (.istore_n 2, 1) := by decide +kernel
theorem d_Me_finishInstance_27 : decode prog_4_method_24_code 27 = .ok (.aload_n 0, 1) := by decide +kernel
theorem d_Me_finishInstance_28 : decode prog_4_method_24_code 28 = .ok (.getfield 32, 3) := by decide +kernel
theorem d_Me_finishInstance_31 : decode prog_4_method_24_code 31 = .ok (.iload_n 2, 1) := by decide +kernel
theorem d_Me_finishInstance_32 : decode prog_4_method_24_code 32 = .ok (.bipush 24, 2) := by decide +kernel
theorem d_Me_finishInstance_34 : decode prog_4_method_24_code 34 = .ok (.aload_n 1, 1) := by decide +kernel
theorem d_Me_finishInstance_35 : decode prog_4_method_24_code 35 = .ok (.getfield 71, 3) := by decide +kernel
theorem d_Me_finishInstance_38 : decode prog_4_method_24_code 38 = .ok (.invokevirtual 44, 3) := by decide +kernel
theorem d_Me_finishInstance_41 : decode prog_4_method_24_code 41 = .ok (.return_, 1) := by decide +kernel
theorem f_Me_162 : cx_F "CircuitText$Meaning" 162 8 4 (.int) false := ⟨_, F_Un, 10, t_Un, k_Un, by decide, rfl, rfl, Or.inr ⟨"CircuitText", (in_1 (List.mem_of_getElem? (i := 194) rfl))⟩⟩
theorem f_Me_71 : cx_F "CircuitText$Meaning" 71 4 4 (.int) true := ⟨_, F_Nm, 11, t_Nm, k_Nm, by decide, rfl, rfl, Or.inr ⟨"CircuitText", (in_4 (List.mem_of_getElem? (i := 149) rfl))⟩⟩
abbrev m_Me_declare : cx_M := (⟨"CircuitText$Meaning", "declare", "(LCircuitText$Token;II)LCircuitText$Name;"⟩, prog_4_method_10_code, 5, (Option.some (Jvm.ClassFile.FieldType.object "CircuitText$Name")), [], [false, false, false, false])
theorem w_Me_declare : cx_W m_Me_declare := ⟨Or.inl ⟨(in_4 (List.mem_of_getElem? (i := 130) rfl)), rfl⟩, by decide +kernel, by decide, by decide, by decide +kernel⟩
theorem n_Me_declare : (parseMethodDescriptor m_Me_declare.1.desc).map (fun d => d.parameters.length) = some 3 := by decide +kernel
theorem d_Me_declare_0 : decode prog_4_method_10_code 0 = .ok (.new 61, 3) := by decide +kernel
theorem d_Me_declare_3 : decode prog_4_method_10_code 3 = .ok (.dup, 1) := by decide +kernel
theorem d_Me_declare_4 : decode prog_4_method_10_code 4 = .ok (.aload_n 0, 1) := by decide +kernel
theorem d_Me_declare_5 : decode prog_4_method_10_code 5 = .ok (.getfield 28, 3) := by decide +kernel
theorem d_Me_declare_8 : decode prog_4_method_10_code 8 = .ok (.aload_n 1, 1) := by decide +kernel
theorem d_Me_declare_9 : decode prog_4_method_10_code 9 = .ok (.iload_n 2, 1) := by decide +kernel
theorem d_Me_declare_10 : decode prog_4_method_10_code 10 = .ok (.iload_n 3, 1) := by decide +kernel
theorem d_Me_declare_11 : decode prog_4_method_10_code 11 = .ok (.invokespecial 90, 3) := by decide +kernel
theorem d_Me_declare_14 : decode prog_4_method_10_code 14 = .ok (.astore 4, 2) := by decide +kernel
theorem d_Me_declare_16 : decode prog_4_method_10_code 16 = .ok (.aload_n 0, 1) := by decide +kernel
theorem d_Me_declare_17 : decode prog_4_method_10_code 17 = .ok (.getfield 32, 3) := by decide +kernel
theorem d_Me_declare_20 : decode prog_4_method_10_code 20 = .ok (.aload_n 0, 1) := by decide +kernel
theorem d_Me_declare_21 : decode prog_4_method_10_code 21 = .ok (.aload_n 1, 1) := by decide +kernel
theorem d_Me_declare_22 : decode prog_4_method_10_code 22 = .ok (.invokevirtual 93, 3) := by decide +kernel
theorem d_Me_declare_25 : decode prog_4_method_10_code 25 = .ok (.ifnonnull 7, 3) := by decide +kernel
theorem d_Me_declare_28 : decode prog_4_method_10_code 28 = .ok (.iconst 1, 1) := by decide +kernel
theorem d_Me_declare_29 : decode prog_4_method_10_code 29 = .ok (.goto 4, 3) := by decide +kernel
theorem d_Me_declare_32 : decode prog_4_method_10_code 32 = .ok (.iconst 0, 1) := by decide +kernel
theorem d_Me_declare_33 : decode prog_4_method_10_code 33 = .ok (.bipush 21, 2) := by decide +kernel
theorem d_Me_declare_35 : decode prog_4_method_10_code 35 = .ok (.aload_n 1, 1) := by decide +kernel
theorem d_Me_declare_36 : decode prog_4_method_10_code 36 = .ok (.getfield 40, 3) := by decide +kernel
theorem d_Me_declare_39 : decode prog_4_method_10_code 39 = .ok (.invokevirtual 44, 3) := by decide +kernel
theorem d_Me_declare_42 : decode prog_4_method_10_code 42 = .ok (.aload_n 1, 1) := by decide +kernel
theorem d_Me_declare_43 : decode prog_4_method_10_code 43 = .ok (.getfield 89, 3) := by decide +kernel
theorem d_Me_declare_46 : decode prog_4_method_10_code 46 = .ok (.ifnull 12, 3) := by decide +kernel
theorem d_Me_declare_49 : decode prog_4_method_10_code 49 = .ok (.aload_n 1, 1) := by decide +kernel
theorem d_Me_declare_50 : decode prog_4_method_10_code 50 = .ok (.getfield 89, 3) := by decide +kernel
theorem d_Me_declare_53 : decode prog_4_method_10_code 53 = .ok (.aload 4, 2) := by decide +kernel
theorem d_Me_declare_55 : decode prog_4_method_10_code 55 = .ok (.putfield 97, 3) := by decide +kernel
theorem d_Me_declare_58 : decode prog_4_method_10_code 58 = .ok (.aload_n 0, 1) := by decide +kernel
theorem d_Me_declare_59 : decode prog_4_method_10_code 59 = .ok (.getfield 28, 3) := by decide +kernel
theorem d_Me_declare_62 : decode prog_4_method_10_code 62 = .ok (.getfield 54, 3) := by decide +kernel
theorem d_Me_declare_65 : decode prog_4_method_10_code 65 = .ok (.aload 4, 2) := by decide +kernel
theorem d_Me_declare_67 : decode prog_4_method_10_code 67 = .ok (.invokevirtual 72, 3) := by decide +kernel
theorem d_Me_declare_70 : decode prog_4_method_10_code 70 = .ok (.pop, 1) := by decide +kernel
theorem d_Me_declare_71 : decode prog_4_method_10_code 71 = .ok (.aload 4, 2) := by decide +kernel
theorem d_Me_declare_73 : decode prog_4_method_10_code 73 = .ok (.areturn, 1) := by decide +kernel
theorem z_Me_61 : cx_N "CircuitText$Meaning" 61 4 [.null, .null, .int 0, .int 0, .int 0, .long 0, .int 0, .int 0, .null, .int 0, .null] := ⟨_, F_Nm, t_Nm, k_Nm, (in_4 (List.mem_of_getElem? (i := 131) rfl)), (in_4 (List.mem_of_getElem? (i := 132) rfl)), (in_1 (List.mem_of_getElem? (i := 33) rfl)), fun j hj => by rcases (show j = 0 ∨ j = 1 ∨ j = 2 ∨ j = 3 ∨ j = 4 ∨ j = 5 ∨ j = 6 ∨ j = 7 ∨ j = 8 ∨ j = 9 ∨ j = 10 by have : j < 11 := hj; omega) with rfl | rfl | rfl | rfl | rfl | rfl | rfl | rfl | rfl | rfl | rfl <;> rfl⟩
theorem f_Me_54 : cx_F "CircuitText$Meaning" 54 8 3 (.object "java/util/ArrayList") true := ⟨_, F_Un, 10, t_Un, k_Un, by decide, rfl, rfl, Or.inr ⟨"CircuitText", (in_1 (List.mem_of_getElem? (i := 189) rfl))⟩⟩
abbrev m_Nm_init : cx_M := (⟨"CircuitText$Name", "<init>", "(LCircuitText$Unit;LCircuitText$Token;II)V"⟩, prog_5_method_1_code, 5, (Option.none : Option Jvm.ClassFile.FieldType), [], [false, false, false, false, false])
theorem w_Nm_init : cx_W m_Nm_init := ⟨Or.inl ⟨(in_4 (List.mem_of_getElem? (i := 135) rfl)), rfl⟩, by decide +kernel, by decide, by decide, by decide +kernel⟩
theorem n_Nm_init : (parseMethodDescriptor m_Nm_init.1.desc).map (fun d => d.parameters.length) = some 4 := by decide +kernel
theorem d_Nm_init_0 : decode prog_5_method_1_code 0 = .ok (.aload_n 0, 1) := by decide +kernel
theorem d_Nm_init_1 : decode prog_5_method_1_code 1 = .ok (.invokespecial 3, 3) := by decide +kernel
theorem d_Nm_init_4 : decode prog_5_method_1_code 4 = .ok (.aload_n 0, 1) := by decide +kernel
theorem d_Nm_init_5 : decode prog_5_method_1_code 5 = .ok (.lconst 0, 1) := by decide +kernel
theorem d_Nm_init_6 : decode prog_5_method_1_code 6 = .ok (.putfield 9, 3) := by decide +kernel
theorem d_Nm_init_9 : decode prog_5_method_1_code 9 = .ok (.aload_n 0, 1) := by decide +kernel
theorem d_Nm_init_10 : decode prog_5_method_1_code 10 = .ok (.iconst 0, 1) := by decide +kernel
theorem d_Nm_init_11 : decode prog_5_method_1_code 11 = .ok (.putfield 15, 3) := by decide +kernel
theorem d_Nm_init_14 : decode prog_5_method_1_code 14 = .ok (.aload_n 0, 1) := by decide +kernel
theorem d_Nm_init_15 : decode prog_5_method_1_code 15 = .ok (.iconst 0, 1) := by decide +kernel
theorem d_Nm_init_16 : decode prog_5_method_1_code 16 = .ok (.putfield 19, 3) := by decide +kernel
theorem d_Nm_init_19 : decode prog_5_method_1_code 19 = .ok (.aload_n 0, 1) := by decide +kernel
theorem d_Nm_init_20 : decode prog_5_method_1_code 20 = .ok (.aconst_null, 1) := by decide +kernel
theorem d_Nm_init_21 : decode prog_5_method_1_code 21 = .ok (.putfield 23, 3) := by decide +kernel
theorem d_Nm_init_24 : decode prog_5_method_1_code 24 = .ok (.aload_n 0, 1) := by decide +kernel
theorem d_Nm_init_25 : decode prog_5_method_1_code 25 = .ok (.iconst 0, 1) := by decide +kernel
theorem d_Nm_init_26 : decode prog_5_method_1_code 26 = .ok (.putfield 27, 3) := by decide +kernel
theorem d_Nm_init_29 : decode prog_5_method_1_code 29 = .ok (.aload_n 0, 1) := by decide +kernel
theorem d_Nm_init_30 : decode prog_5_method_1_code 30 = .ok (.aconst_null, 1) := by decide +kernel
theorem d_Nm_init_31 : decode prog_5_method_1_code 31 = .ok (.putfield 30, 3) := by decide +kernel
theorem d_Nm_init_34 : decode prog_5_method_1_code 34 = .ok (.aload_n 0, 1) := by decide +kernel
theorem d_Nm_init_35 : decode prog_5_method_1_code 35 = .ok (.aload_n 1, 1) := by decide +kernel
theorem d_Nm_init_36 : decode prog_5_method_1_code 36 = .ok (.putfield 34, 3) := by decide +kernel
theorem d_Nm_init_39 : decode prog_5_method_1_code 39 = .ok (.aload_n 0, 1) := by decide +kernel
theorem d_Nm_init_40 : decode prog_5_method_1_code 40 = .ok (.aload_n 2, 1) := by decide +kernel
theorem d_Nm_init_41 : decode prog_5_method_1_code 41 = .ok (.getfield 37, 3) := by decide +kernel
theorem d_Nm_init_44 : decode prog_5_method_1_code 44 = .ok (.putfield 43, 3) := by decide +kernel
theorem d_Nm_init_47 : decode prog_5_method_1_code 47 = .ok (.aload_n 0, 1) := by decide +kernel
theorem d_Nm_init_48 : decode prog_5_method_1_code 48 = .ok (.iload_n 3, 1) := by decide +kernel
theorem d_Nm_init_49 : decode prog_5_method_1_code 49 = .ok (.putfield 44, 3) := by decide +kernel
theorem d_Nm_init_52 : decode prog_5_method_1_code 52 = .ok (.aload_n 0, 1) := by decide +kernel
theorem d_Nm_init_53 : decode prog_5_method_1_code 53 = .ok (.iload 4, 2) := by decide +kernel
theorem d_Nm_init_55 : decode prog_5_method_1_code 55 = .ok (.putfield 47, 3) := by decide +kernel
theorem d_Nm_init_58 : decode prog_5_method_1_code 58 = .ok (.aload_n 0, 1) := by decide +kernel
theorem d_Nm_init_59 : decode prog_5_method_1_code 59 = .ok (.aload_n 2, 1) := by decide +kernel
theorem d_Nm_init_60 : decode prog_5_method_1_code 60 = .ok (.getfield 50, 3) := by decide +kernel
theorem d_Nm_init_63 : decode prog_5_method_1_code 63 = .ok (.putfield 53, 3) := by decide +kernel
theorem d_Nm_init_66 : decode prog_5_method_1_code 66 = .ok (.return_, 1) := by decide +kernel
theorem f_Nm_9 : cx_F "CircuitText$Name" 9 4 5 (.long) false := ⟨_, F_Nm, 11, t_Nm, k_Nm, by decide, rfl, rfl, Or.inl (in_4 (List.mem_of_getElem? (i := 151) rfl))⟩
theorem f_Nm_15 : cx_F "CircuitText$Name" 15 4 6 (.boolean) false := ⟨_, F_Nm, 11, t_Nm, k_Nm, by decide, rfl, rfl, Or.inl (in_4 (List.mem_of_getElem? (i := 154) rfl))⟩
theorem f_Nm_19 : cx_F "CircuitText$Name" 19 4 7 (.int) false := ⟨_, F_Nm, 11, t_Nm, k_Nm, by decide, rfl, rfl, Or.inl (in_4 (List.mem_of_getElem? (i := 156) rfl))⟩
theorem f_Nm_23 : cx_F "CircuitText$Name" 23 4 8 (.object "CircuitText$Unit") false := ⟨_, F_Nm, 11, t_Nm, k_Nm, by decide, rfl, rfl, Or.inl (in_4 (List.mem_of_getElem? (i := 158) rfl))⟩
theorem f_Nm_27 : cx_F "CircuitText$Name" 27 4 9 (.int) false := ⟨_, F_Nm, 11, t_Nm, k_Nm, by decide, rfl, rfl, Or.inl (in_4 (List.mem_of_getElem? (i := 161) rfl))⟩
theorem f_Nm_30 : cx_F "CircuitText$Name" 30 4 10 (.object "CircuitText$Name") false := ⟨_, F_Nm, 11, t_Nm, k_Nm, by decide, rfl, rfl, Or.inl (in_4 (List.mem_of_getElem? (i := 163) rfl))⟩
theorem f_Nm_34 : cx_F "CircuitText$Name" 34 4 0 (.object "CircuitText$Unit") true := ⟨_, F_Nm, 11, t_Nm, k_Nm, by decide, rfl, rfl, Or.inl (in_4 (List.mem_of_getElem? (i := 137) rfl))⟩
theorem ff_Nm_34 : cx_FF "CircuitText$Name" 34 4 0 (.object "CircuitText$Unit") := ⟨_, F_Nm, 11, t_Nm, k_Nm, by decide, rfl, rfl, rfl, (in_4 (List.mem_of_getElem? (i := 137) rfl))⟩
theorem f_Nm_37 : cx_F "CircuitText$Name" 37 7 4 (.object "CircuitText$Word") false := ⟨_, F_To, 7, t_To, k_To, by decide, rfl, rfl, Or.inr ⟨"CircuitText", (in_1 (List.mem_of_getElem? (i := 150) rfl))⟩⟩
theorem f_Nm_43 : cx_F "CircuitText$Name" 43 4 1 (.object "CircuitText$Word") true := ⟨_, F_Nm, 11, t_Nm, k_Nm, by decide, rfl, rfl, Or.inl (in_4 (List.mem_of_getElem? (i := 139) rfl))⟩
theorem ff_Nm_43 : cx_FF "CircuitText$Name" 43 4 1 (.object "CircuitText$Word") := ⟨_, F_Nm, 11, t_Nm, k_Nm, by decide, rfl, rfl, rfl, (in_4 (List.mem_of_getElem? (i := 139) rfl))⟩
theorem f_Nm_47 : cx_F "CircuitText$Name" 47 4 3 (.int) true := ⟨_, F_Nm, 11, t_Nm, k_Nm, by decide, rfl, rfl, Or.inl (in_4 (List.mem_of_getElem? (i := 145) rfl))⟩
theorem ff_Nm_47 : cx_FF "CircuitText$Name" 47 4 3 (.int) := ⟨_, F_Nm, 11, t_Nm, k_Nm, by decide, rfl, rfl, rfl, (in_4 (List.mem_of_getElem? (i := 145) rfl))⟩
theorem f_Nm_50 : cx_F "CircuitText$Name" 50 7 1 (.int) true := ⟨_, F_To, 7, t_To, k_To, by decide, rfl, rfl, Or.inr ⟨"CircuitText", (in_1 (List.mem_of_getElem? (i := 141) rfl))⟩⟩
theorem f_Nm_53 : cx_F "CircuitText$Name" 53 4 4 (.int) true := ⟨_, F_Nm, 11, t_Nm, k_Nm, by decide, rfl, rfl, Or.inl (in_4 (List.mem_of_getElem? (i := 148) rfl))⟩
theorem ff_Nm_53 : cx_FF "CircuitText$Name" 53 4 4 (.int) := ⟨_, F_Nm, 11, t_Nm, k_Nm, by decide, rfl, rfl, rfl, (in_4 (List.mem_of_getElem? (i := 148) rfl))⟩
abbrev m_Me_declareInstance : cx_M := (⟨"CircuitText$Meaning", "declareInstance", "(LCircuitText$Token;LCircuitText$Unit;)LCircuitText$Name;"⟩, prog_4_method_21_code, 4, (Option.some (Jvm.ClassFile.FieldType.object "CircuitText$Name")), [], [false, false, false])
theorem w_Me_declareInstance : cx_W m_Me_declareInstance := ⟨Or.inl ⟨(in_5 (List.mem_of_getElem? (i := 168) rfl)), rfl⟩, by decide +kernel, by decide, by decide, by decide +kernel⟩
theorem n_Me_declareInstance : (parseMethodDescriptor m_Me_declareInstance.1.desc).map (fun d => d.parameters.length) = some 2 := by decide +kernel
theorem d_Me_declareInstance_0 : decode prog_4_method_21_code 0 = .ok (.aload_n 0, 1) := by decide +kernel
theorem d_Me_declareInstance_1 : decode prog_4_method_21_code 1 = .ok (.aload_n 1, 1) := by decide +kernel
theorem d_Me_declareInstance_2 : decode prog_4_method_21_code 2 = .ok (.iconst 5, 1) := by decide +kernel
theorem d_Me_declareInstance_3 : decode prog_4_method_21_code 3 = .ok (.iconst 0, 1) := by decide +kernel
theorem d_Me_declareInstance_4 : decode prog_4_method_21_code 4 = .ok (.invokevirtual 139, 3) := by decide +kernel
theorem d_Me_declareInstance_7 : decode prog_4_method_21_code 7 = .ok (.astore_n 3, 1) := by decide +kernel
theorem d_Me_declareInstance_8 : decode prog_4_method_21_code 8 = .ok (.aload_n 3, 1) := by decide +kernel
theorem d_Me_declareInstance_9 : decode prog_4_method_21_code 9 = .ok (.aload_n 2, 1) := by decide +kernel
theorem d_Me_declareInstance_10 : decode prog_4_method_21_code 10 = .ok (.putfield 143, 3) := by decide +kernel
theorem d_Me_declareInstance_13 : decode prog_4_method_21_code 13 = .ok (.aload_n 0, 1) := by decide +kernel
theorem d_Me_declareInstance_14 : decode prog_4_method_21_code 14 = .ok (.getfield 28, 3) := by decide +kernel
theorem d_Me_declareInstance_17 : decode prog_4_method_21_code 17 = .ok (.dup, 1) := by decide +kernel
theorem d_Me_declareInstance_18 : decode prog_4_method_21_code 18 = .ok (.getfield 146, 3) := by decide +kernel
theorem d_Me_declareInstance_21 : decode prog_4_method_21_code 21 = .ok (.iconst 1, 1) := by decide +kernel
theorem d_Me_declareInstance_22 : decode prog_4_method_21_code 22 = .ok (.iadd, 1) := by decide +kernel
theorem d_Me_declareInstance_23 : decode prog_4_method_21_code 23 = .ok (.putfield 146, 3) := by decide +kernel
theorem d_Me_declareInstance_26 : decode prog_4_method_21_code 26 = .ok (.aload_n 3, 1) := by decide +kernel
theorem d_Me_declareInstance_27 : decode prog_4_method_21_code 27 = .ok (.areturn, 1) := by decide +kernel
theorem f_Me_146 : cx_F "CircuitText$Meaning" 146 8 7 (.int) false := ⟨_, F_Un, 10, t_Un, k_Un, by decide, rfl, rfl, Or.inr ⟨"CircuitText", (in_1 (List.mem_of_getElem? (i := 204) rfl))⟩⟩
abbrev m_Un_init : cx_M := (⟨"CircuitText$Unit", "<init>", "(LCircuitText$Token;I)V"⟩, prog_9_method_1_code, 3, (Option.none : Option Jvm.ClassFile.FieldType), [], [false, false, false])
theorem w_Un_init : cx_W m_Un_init := ⟨Or.inl ⟨(in_1 (List.mem_of_getElem? (i := 178) rfl)), rfl⟩, by decide +kernel, by decide, by decide, by decide +kernel⟩
theorem n_Un_init : (parseMethodDescriptor m_Un_init.1.desc).map (fun d => d.parameters.length) = some 2 := by decide +kernel
theorem d_Un_init_0 : decode prog_9_method_1_code 0 = .ok (.aload_n 0, 1) := by decide +kernel
theorem d_Un_init_1 : decode prog_9_method_1_code 1 = .ok (.invokespecial 1, 3) := by decide +kernel
theorem d_Un_init_4 : decode prog_9_method_1_code 4 = .ok (.aload_n 0, 1) := by decide +kernel
theorem d_Un_init_5 : decode prog_9_method_1_code 5 = .ok (.new 7, 3) := by decide +kernel
theorem d_Un_init_8 : decode prog_9_method_1_code 8 = .ok (.dup, 1) := by decide +kernel
theorem d_Un_init_9 : decode prog_9_method_1_code 9 = .ok (.invokespecial 9, 3) := by decide +kernel
theorem d_Un_init_12 : decode prog_9_method_1_code 12 = .ok (.putfield 10, 3) := by decide +kernel
theorem d_Un_init_15 : decode prog_9_method_1_code 15 = .ok (.aload_n 0, 1) := by decide +kernel
theorem d_Un_init_16 : decode prog_9_method_1_code 16 = .ok (.iconst 0, 1) := by decide +kernel
theorem d_Un_init_17 : decode prog_9_method_1_code 17 = .ok (.putfield 16, 3) := by decide +kernel
theorem d_Un_init_20 : decode prog_9_method_1_code 20 = .ok (.aload_n 0, 1) := by decide +kernel
theorem d_Un_init_21 : decode prog_9_method_1_code 21 = .ok (.iconst 0, 1) := by decide +kernel
theorem d_Un_init_22 : decode prog_9_method_1_code 22 = .ok (.putfield 20, 3) := by decide +kernel
theorem d_Un_init_25 : decode prog_9_method_1_code 25 = .ok (.aload_n 0, 1) := by decide +kernel
theorem d_Un_init_26 : decode prog_9_method_1_code 26 = .ok (.iconst 0, 1) := by decide +kernel
theorem d_Un_init_27 : decode prog_9_method_1_code 27 = .ok (.putfield 23, 3) := by decide +kernel
theorem d_Un_init_30 : decode prog_9_method_1_code 30 = .ok (.aload_n 0, 1) := by decide +kernel
theorem d_Un_init_31 : decode prog_9_method_1_code 31 = .ok (.iconst 0, 1) := by decide +kernel
theorem d_Un_init_32 : decode prog_9_method_1_code 32 = .ok (.putfield 26, 3) := by decide +kernel
theorem d_Un_init_35 : decode prog_9_method_1_code 35 = .ok (.aload_n 0, 1) := by decide +kernel
theorem d_Un_init_36 : decode prog_9_method_1_code 36 = .ok (.iconst 0, 1) := by decide +kernel
theorem d_Un_init_37 : decode prog_9_method_1_code 37 = .ok (.putfield 29, 3) := by decide +kernel
theorem d_Un_init_40 : decode prog_9_method_1_code 40 = .ok (.aload_n 0, 1) := by decide +kernel
theorem d_Un_init_41 : decode prog_9_method_1_code 41 = .ok (.iconst 0, 1) := by decide +kernel
theorem d_Un_init_42 : decode prog_9_method_1_code 42 = .ok (.putfield 32, 3) := by decide +kernel
theorem d_Un_init_45 : decode prog_9_method_1_code 45 = .ok (.aload_n 0, 1) := by decide +kernel
theorem d_Un_init_46 : decode prog_9_method_1_code 46 = .ok (.aload_n 1, 1) := by decide +kernel
theorem d_Un_init_47 : decode prog_9_method_1_code 47 = .ok (.getfield 35, 3) := by decide +kernel
theorem d_Un_init_50 : decode prog_9_method_1_code 50 = .ok (.putfield 41, 3) := by decide +kernel
theorem d_Un_init_53 : decode prog_9_method_1_code 53 = .ok (.aload_n 0, 1) := by decide +kernel
theorem d_Un_init_54 : decode prog_9_method_1_code 54 = .ok (.aload_n 1, 1) := by decide +kernel
theorem d_Un_init_55 : decode prog_9_method_1_code 55 = .ok (.getfield 42, 3) := by decide +kernel
theorem d_Un_init_58 : decode prog_9_method_1_code 58 = .ok (.putfield 45, 3) := by decide +kernel
theorem d_Un_init_61 : decode prog_9_method_1_code 61 = .ok (.aload_n 0, 1) := by decide +kernel
theorem d_Un_init_62 : decode prog_9_method_1_code 62 = .ok (.iload_n 2, 1) := by decide +kernel
theorem d_Un_init_63 : decode prog_9_method_1_code 63 = .ok (.putfield 46, 3) := by decide +kernel
theorem d_Un_init_66 : decode prog_9_method_1_code 66 = .ok (.return_, 1) := by decide +kernel
theorem z_Un_7 : cx_N "CircuitText$Unit" 7 13 [.null, .int 0, .int 0] := ⟨_, F_AL, t_AL, k_AL, (in_1 (List.mem_of_getElem? (i := 180) rfl)), (in_1 (List.mem_of_getElem? (i := 62) rfl)), (in_1 (List.mem_of_getElem? (i := 5) rfl)), fun j hj => by rcases (show j = 0 ∨ j = 1 ∨ j = 2 by have : j < 3 := hj; omega) with rfl | rfl | rfl <;> rfl⟩
theorem f_Un_20 : cx_F "CircuitText$Unit" 20 8 5 (.int) false := ⟨_, F_Un, 10, t_Un, k_Un, by decide, rfl, rfl, Or.inl (in_1 (List.mem_of_getElem? (i := 195) rfl))⟩
theorem f_Un_23 : cx_F "CircuitText$Unit" 23 8 6 (.int) false := ⟨_, F_Un, 10, t_Un, k_Un, by decide, rfl, rfl, Or.inl (in_1 (List.mem_of_getElem? (i := 198) rfl))⟩
theorem f_Un_26 : cx_F "CircuitText$Unit" 26 8 7 (.int) false := ⟨_, F_Un, 10, t_Un, k_Un, by decide, rfl, rfl, Or.inl (in_1 (List.mem_of_getElem? (i := 202) rfl))⟩
theorem f_Un_29 : cx_F "CircuitText$Unit" 29 8 8 (.int) false := ⟨_, F_Un, 10, t_Un, k_Un, by decide, rfl, rfl, Or.inl (in_1 (List.mem_of_getElem? (i := 205) rfl))⟩
theorem f_Un_32 : cx_F "CircuitText$Unit" 32 8 9 (.int) false := ⟨_, F_Un, 10, t_Un, k_Un, by decide, rfl, rfl, Or.inl (in_1 (List.mem_of_getElem? (i := 208) rfl))⟩
theorem f_Un_35 : cx_F "CircuitText$Unit" 35 7 4 (.object "CircuitText$Word") false := ⟨_, F_To, 7, t_To, k_To, by decide, rfl, rfl, Or.inr ⟨"CircuitText", (in_1 (List.mem_of_getElem? (i := 151) rfl))⟩⟩
theorem f_Un_41 : cx_F "CircuitText$Unit" 41 8 0 (.object "CircuitText$Word") true := ⟨_, F_Un, 10, t_Un, k_Un, by decide, rfl, rfl, Or.inl (in_1 (List.mem_of_getElem? (i := 182) rfl))⟩
theorem ff_Un_41 : cx_FF "CircuitText$Unit" 41 8 0 (.object "CircuitText$Word") := ⟨_, F_Un, 10, t_Un, k_Un, by decide, rfl, rfl, rfl, (in_1 (List.mem_of_getElem? (i := 182) rfl))⟩
theorem f_Un_42 : cx_F "CircuitText$Unit" 42 7 1 (.int) true := ⟨_, F_To, 7, t_To, k_To, by decide, rfl, rfl, Or.inr ⟨"CircuitText", (in_1 (List.mem_of_getElem? (i := 140) rfl))⟩⟩
theorem f_Un_45 : cx_F "CircuitText$Unit" 45 8 1 (.int) true := ⟨_, F_Un, 10, t_Un, k_Un, by decide, rfl, rfl, Or.inl (in_1 (List.mem_of_getElem? (i := 184) rfl))⟩
theorem ff_Un_45 : cx_FF "CircuitText$Unit" 45 8 1 (.int) := ⟨_, F_Un, 10, t_Un, k_Un, by decide, rfl, rfl, rfl, (in_1 (List.mem_of_getElem? (i := 184) rfl))⟩
theorem f_Un_46 : cx_F "CircuitText$Unit" 46 8 2 (.int) true := ⟨_, F_Un, 10, t_Un, k_Un, by decide, rfl, rfl, Or.inl (in_1 (List.mem_of_getElem? (i := 186) rfl))⟩
theorem ff_Un_46 : cx_FF "CircuitText$Unit" 46 8 2 (.int) := ⟨_, F_Un, 10, t_Un, k_Un, by decide, rfl, rfl, rfl, (in_1 (List.mem_of_getElem? (i := 186) rfl))⟩
abbrev m_Me_beginUnit : cx_M := (⟨"CircuitText$Meaning", "beginUnit", "(LCircuitText$Token;)V"⟩, prog_4_method_3_code, 2, (Option.none : Option Jvm.ClassFile.FieldType), [], [false, false])
theorem w_Me_beginUnit : cx_W m_Me_beginUnit := ⟨Or.inl ⟨(in_4 (List.mem_of_getElem? (i := 95) rfl)), rfl⟩, by decide +kernel, by decide, by decide, by decide +kernel⟩
theorem n_Me_beginUnit : (parseMethodDescriptor m_Me_beginUnit.1.desc).map (fun d => d.parameters.length) = some 1 := by decide +kernel
theorem d_Me_beginUnit_0 : decode prog_4_method_3_code 0 = .ok (.aload_n 0, 1) := by decide +kernel
theorem d_Me_beginUnit_1 : decode prog_4_method_3_code 1 = .ok (.getfield 32, 3) := by decide +kernel
theorem d_Me_beginUnit_4 : decode prog_4_method_3_code 4 = .ok (.aload_n 1, 1) := by decide +kernel
theorem d_Me_beginUnit_5 : decode prog_4_method_3_code 5 = .ok (.invokestatic 36, 3) := by decide +kernel
theorem d_Me_beginUnit_8 : decode prog_4_method_3_code 8 = .ok (.ifnonnull 7, 3) := by decide +kernel
theorem d_Me_beginUnit_11 : decode prog_4_method_3_code 11 = .ok (.iconst 1, 1) := by decide +kernel
theorem d_Me_beginUnit_12 : decode prog_4_method_3_code 12 = .ok (.goto 4, 3) := by decide +kernel
theorem d_Me_beginUnit_15 : decode prog_4_method_3_code 15 = .ok (.iconst 0, 1) := by decide +kernel
theorem d_Me_beginUnit_16 : decode prog_4_method_3_code 16 = .ok (.bipush 20, 2) := by decide +kernel
theorem d_Me_beginUnit_18 : decode prog_4_method_3_code 18 = .ok (.aload_n 1, 1) := by decide +kernel
theorem d_Me_beginUnit_19 : decode prog_4_method_3_code 19 = .ok (.getfield 40, 3) := by decide +kernel
theorem d_Me_beginUnit_22 : decode prog_4_method_3_code 22 = .ok (.invokevirtual 44, 3) := by decide +kernel
theorem d_Me_beginUnit_25 : decode prog_4_method_3_code 25 = .ok (.aload_n 0, 1) := by decide +kernel
theorem d_Me_beginUnit_26 : decode prog_4_method_3_code 26 = .ok (.new 18, 3) := by decide +kernel
theorem d_Me_beginUnit_29 : decode prog_4_method_3_code 29 = .ok (.dup, 1) := by decide +kernel
theorem d_Me_beginUnit_30 : decode prog_4_method_3_code 30 = .ok (.aload_n 1, 1) := by decide +kernel
theorem d_Me_beginUnit_31 : decode prog_4_method_3_code 31 = .ok (.aload_n 0, 1) := by decide +kernel
theorem d_Me_beginUnit_32 : decode prog_4_method_3_code 32 = .ok (.getfield 12, 3) := by decide +kernel
theorem d_Me_beginUnit_35 : decode prog_4_method_3_code 35 = .ok (.invokevirtual 50, 3) := by decide +kernel
theorem d_Me_beginUnit_38 : decode prog_4_method_3_code 38 = .ok (.invokespecial 25, 3) := by decide +kernel
theorem d_Me_beginUnit_41 : decode prog_4_method_3_code 41 = .ok (.putfield 28, 3) := by decide +kernel
theorem d_Me_beginUnit_44 : decode prog_4_method_3_code 44 = .ok (.return_, 1) := by decide +kernel
theorem z_Me_18 : cx_N "CircuitText$Meaning" 18 8 [.null, .int 0, .int 0, .null, .int 0, .int 0, .int 0, .int 0, .int 0, .int 0] := ⟨_, F_Un, t_Un, k_Un, (in_1 (List.mem_of_getElem? (i := 127) rfl)), (in_1 (List.mem_of_getElem? (i := 128) rfl)), (in_1 (List.mem_of_getElem? (i := 17) rfl)), fun j hj => by rcases (show j = 0 ∨ j = 1 ∨ j = 2 ∨ j = 3 ∨ j = 4 ∨ j = 5 ∨ j = 6 ∨ j = 7 ∨ j = 8 ∨ j = 9 by have : j < 10 := hj; omega) with rfl | rfl | rfl | rfl | rfl | rfl | rfl | rfl | rfl | rfl <;> rfl⟩
theorem f_Me_12 : cx_F "CircuitText$Meaning" 12 3 1 (.object "java/util/ArrayList") true := ⟨_, F_Me, 3, t_Me, k_Me, by decide, rfl, rfl, Or.inl (in_1 (List.mem_of_getElem? (i := 233) rfl))⟩
theorem ff_Me_12 : cx_FF "CircuitText$Meaning" 12 3 1 (.object "java/util/ArrayList") := ⟨_, F_Me, 3, t_Me, k_Me, by decide, rfl, rfl, rfl, (in_1 (List.mem_of_getElem? (i := 233) rfl))⟩
abbrev m_Me_finishUnit : cx_M := (⟨"CircuitText$Meaning", "finishUnit", "()V"⟩, prog_4_method_4_code, 3, (Option.none : Option Jvm.ClassFile.FieldType), [], [false])
theorem w_Me_finishUnit : cx_W m_Me_finishUnit := ⟨Or.inl ⟨(in_5 (List.mem_of_getElem? (i := 211) rfl)), rfl⟩, by decide +kernel, by decide, by decide, by decide +kernel⟩
theorem n_Me_finishUnit : (parseMethodDescriptor m_Me_finishUnit.1.desc).map (fun d => d.parameters.length) = some 0 := by decide +kernel
theorem d_Me_finishUnit_0 : decode prog_4_method_4_code 0 = .ok (.iconst 0, 1) := by decide +kernel
theorem d_Me_finishUnit_1 : decode prog_4_method_4_code 1 = .ok (.istore_n 1, 1) := by decide +kernel
theorem d_Me_finishUnit_2 : decode prog_4_method_4_code 2 = .ok (.iload_n 1, 1) := by decide +kernel
theorem d_Me_finishUnit_3 : decode prog_4_method_4_code 3 = .ok (.aload_n 0, 1) := by decide +kernel
theorem d_Me_finishUnit_4 : decode prog_4_method_4_code 4 = .ok (.getfield 28, 3) := by decide +kernel
theorem d_Me_finishUnit_7 : decode prog_4_method_4_code 7 = .ok (.getfield 54, 3) := by decide +kernel
theorem d_Me_finishUnit_10 : decode prog_4_method_4_code 10 = .ok (.invokevirtual 50, 3) := by decide +kernel
theorem d_Me_finishUnit_13 : decode prog_4_method_4_code 13 = .ok (.if_icmp .ge 56, 3) := by decide +kernel
theorem d_Me_finishUnit_16 : decode prog_4_method_4_code 16 = .ok (.aload_n 0, 1) := by decide +kernel
theorem d_Me_finishUnit_17 : decode prog_4_method_4_code 17 = .ok (.getfield 28, 3) := by decide +kernel
theorem d_Me_finishUnit_20 : decode prog_4_method_4_code 20 = .ok (.getfield 54, 3) := by decide +kernel
theorem d_Me_finishUnit_23 : decode prog_4_method_4_code 23 = .ok (.iload_n 1, 1) := by decide +kernel
theorem d_Me_finishUnit_24 : decode prog_4_method_4_code 24 = .ok (.invokevirtual 57, 3) := by decide +kernel
theorem d_Me_finishUnit_27 : decode prog_4_method_4_code 27 = .ok (.checkcast 61, 3) := by decide +kernel
theorem d_Me_finishUnit_30 : decode prog_4_method_4_code 30 = .ok (.astore_n 2, 1) := by decide +kernel
theorem d_Me_finishUnit_31 : decode prog_4_method_4_code 31 = .ok (.aload_n 0, 1) := by decide +kernel
theorem d_Me_finishUnit_32 : decode prog_4_method_4_code 32 = .ok (.getfield 32, 3) := by decide +kernel
theorem d_Me_finishUnit_35 : decode prog_4_method_4_code 35 = .ok (.aload_n 2, 1) := by decide +kernel
theorem d_Me_finishUnit_36 : decode prog_4_method_4_code 36 = .ok (.getfield 63, 3) := by decide +kernel
theorem d_Me_finishUnit_39 : decode prog_4_method_4_code 39 = .ok (.ifCond .ne 10, 3) := by decide +kernel
theorem d_Me_finishUnit_42 : decode prog_4_method_4_code 42 = .ok (.aload_n 2, 1) := by decide +kernel
theorem d_Me_finishUnit_43 : decode prog_4_method_4_code 43 = .ok (.invokevirtual 67, 3) := by decide +kernel
theorem d_Me_finishUnit_46 : decode prog_4_method_4_code 46 = .ok (.ifCond .ne 7, 3) := by decide +kernel
theorem d_Me_finishUnit_49 : decode prog_4_method_4_code 49 = .ok (.iconst 1, 1) := by decide +kernel
theorem d_Me_finishUnit_50 : decode prog_4_method_4_code 50 = .ok (.goto 4, 3) := by decide +kernel
theorem d_Me_finishUnit_53 : decode prog_4_method_4_code 53 = .ok (.iconst 0, 1) := by decide +kernel
theorem d_Me_finishUnit_54 : decode prog_4_method_4_code 54 = .ok (.bipush 33, 2) := by decide +kernel
theorem d_Me_finishUnit_56 : decode prog_4_method_4_code 56 = .ok (.aload_n 2, 1) := by decide +kernel
theorem d_Me_finishUnit_57 : decode prog_4_method_4_code 57 = .ok (.getfield 71, 3) := by decide +kernel
theorem d_Me_finishUnit_60 : decode prog_4_method_4_code 60 = .ok (.invokevirtual 44, 3) := by decide +kernel
theorem d_Me_finishUnit_63 : decode prog_4_method_4_code 63 = .ok (.iinc 1 1, 3) := by decide +kernel
theorem d_Me_finishUnit_66 : decode prog_4_method_4_code 66 = .ok (.goto (-64), 3) := by decide +kernel
theorem d_Me_finishUnit_69 : decode prog_4_method_4_code 69 = .ok (.aload_n 0, 1) := by decide +kernel
theorem d_Me_finishUnit_70 : decode prog_4_method_4_code 70 = .ok (.getfield 12, 3) := by decide +kernel
theorem d_Me_finishUnit_73 : decode prog_4_method_4_code 73 = .ok (.aload_n 0, 1) := by decide +kernel
theorem d_Me_finishUnit_74 : decode prog_4_method_4_code 74 = .ok (.getfield 28, 3) := by decide +kernel
theorem d_Me_finishUnit_77 : decode prog_4_method_4_code 77 = .ok (.invokevirtual 72, 3) := by decide +kernel
theorem d_Me_finishUnit_80 : decode prog_4_method_4_code 80 = .ok (.pop, 1) := by decide +kernel
theorem d_Me_finishUnit_81 : decode prog_4_method_4_code 81 = .ok (.aload_n 0, 1) := by decide +kernel
theorem d_Me_finishUnit_82 : decode prog_4_method_4_code 82 = .ok (.getfield 28, 3) := by decide +kernel
theorem d_Me_finishUnit_85 : decode prog_4_method_4_code 85 = .ok (.getfield 76, 3) := by decide +kernel
theorem d_Me_finishUnit_88 : decode prog_4_method_4_code 88 = .ok (.ifnull 17, 3) := by decide +kernel
theorem d_Me_finishUnit_91 : decode prog_4_method_4_code 91 = .ok (.aload_n 0, 1) := by decide +kernel
theorem d_Me_finishUnit_92 : decode prog_4_method_4_code 92 = .ok (.getfield 28, 3) := by decide +kernel
theorem d_Me_finishUnit_95 : decode prog_4_method_4_code 95 = .ok (.getfield 76, 3) := by decide +kernel
theorem d_Me_finishUnit_98 : decode prog_4_method_4_code 98 = .ok (.aload_n 0, 1) := by decide +kernel
theorem d_Me_finishUnit_99 : decode prog_4_method_4_code 99 = .ok (.getfield 28, 3) := by decide +kernel
theorem d_Me_finishUnit_102 : decode prog_4_method_4_code 102 = .ok (.putfield 80, 3) := by decide +kernel
theorem d_Me_finishUnit_105 : decode prog_4_method_4_code 105 = .ok (.return_, 1) := by decide +kernel
theorem f_Me_76 : cx_F "CircuitText$Meaning" 76 8 0 (.object "CircuitText$Word") true := ⟨_, F_Un, 10, t_Un, k_Un, by decide, rfl, rfl, Or.inr ⟨"CircuitText", (in_1 (List.mem_of_getElem? (i := 183) rfl))⟩⟩
abbrev m_Me_init : cx_M := (⟨"CircuitText$Meaning", "<init>", "(LCircuitText$Verdict;)V"⟩, prog_4_method_1_code, 2, (Option.none : Option Jvm.ClassFile.FieldType), [], [false, false])
theorem w_Me_init : cx_W m_Me_init := ⟨Or.inl ⟨(in_1 (List.mem_of_getElem? (i := 123) rfl)), rfl⟩, by decide +kernel, by decide, by decide, by decide +kernel⟩
theorem n_Me_init : (parseMethodDescriptor m_Me_init.1.desc).map (fun d => d.parameters.length) = some 1 := by decide +kernel
theorem d_Me_init_0 : decode prog_4_method_1_code 0 = .ok (.aload_n 0, 1) := by decide +kernel
theorem d_Me_init_1 : decode prog_4_method_1_code 1 = .ok (.invokespecial 3, 3) := by decide +kernel
theorem d_Me_init_4 : decode prog_4_method_1_code 4 = .ok (.aload_n 0, 1) := by decide +kernel
theorem d_Me_init_5 : decode prog_4_method_1_code 5 = .ok (.new 9, 3) := by decide +kernel
theorem d_Me_init_8 : decode prog_4_method_1_code 8 = .ok (.dup, 1) := by decide +kernel
theorem d_Me_init_9 : decode prog_4_method_1_code 9 = .ok (.invokespecial 11, 3) := by decide +kernel
theorem d_Me_init_12 : decode prog_4_method_1_code 12 = .ok (.putfield 12, 3) := by decide +kernel
theorem d_Me_init_15 : decode prog_4_method_1_code 15 = .ok (.aload_n 0, 1) := by decide +kernel
theorem d_Me_init_16 : decode prog_4_method_1_code 16 = .ok (.new 18, 3) := by decide +kernel
theorem d_Me_init_19 : decode prog_4_method_1_code 19 = .ok (.dup, 1) := by decide +kernel
theorem d_Me_init_20 : decode prog_4_method_1_code 20 = .ok (.new 20, 3) := by decide +kernel
theorem d_Me_init_23 : decode prog_4_method_1_code 23 = .ok (.dup, 1) := by decide +kernel
theorem d_Me_init_24 : decode prog_4_method_1_code 24 = .ok (.bipush 19, 2) := by decide +kernel
theorem d_Me_init_26 : decode prog_4_method_1_code 26 = .ok (.iconst 0, 1) := by decide +kernel
theorem d_Me_init_27 : decode prog_4_method_1_code 27 = .ok (.iconst 0, 1) := by decide +kernel
theorem d_Me_init_28 : decode prog_4_method_1_code 28 = .ok (.invokespecial 22, 3) := by decide +kernel
theorem d_Me_init_31 : decode prog_4_method_1_code 31 = .ok (.iconst 0, 1) := by decide +kernel
theorem d_Me_init_32 : decode prog_4_method_1_code 32 = .ok (.invokespecial 25, 3) := by decide +kernel
theorem d_Me_init_35 : decode prog_4_method_1_code 35 = .ok (.putfield 28, 3) := by decide +kernel
theorem d_Me_init_38 : decode prog_4_method_1_code 38 = .ok (.aload_n 0, 1) := by decide +kernel
theorem d_Me_init_39 : decode prog_4_method_1_code 39 = .ok (.aload_n 1, 1) := by decide +kernel
theorem d_Me_init_40 : decode prog_4_method_1_code 40 = .ok (.putfield 32, 3) := by decide +kernel
theorem d_Me_init_43 : decode prog_4_method_1_code 43 = .ok (.return_, 1) := by decide +kernel
theorem z_Me_9 : cx_N "CircuitText$Meaning" 9 13 [.null, .int 0, .int 0] := ⟨_, F_AL, t_AL, k_AL, (in_1 (List.mem_of_getElem? (i := 125) rfl)), (in_1 (List.mem_of_getElem? (i := 62) rfl)), (in_1 (List.mem_of_getElem? (i := 5) rfl)), fun j hj => by rcases (show j = 0 ∨ j = 1 ∨ j = 2 by have : j < 3 := hj; omega) with rfl | rfl | rfl <;> rfl⟩
theorem z_Me_20 : cx_N "CircuitText$Meaning" 20 7 [.int 0, .int 0, .int 0, .null, .null, .int 0, .long 0] := ⟨_, F_To, t_To, k_To, (in_1 (List.mem_of_getElem? (i := 129) rfl)), (in_1 (List.mem_of_getElem? (i := 130) rfl)), (in_1 (List.mem_of_getElem? (i := 18) rfl)), fun j hj => by rcases (show j = 0 ∨ j = 1 ∨ j = 2 ∨ j = 3 ∨ j = 4 ∨ j = 5 ∨ j = 6 by have : j < 7 := hj; omega) with rfl | rfl | rfl | rfl | rfl | rfl | rfl <;> rfl⟩
abbrev m_Ve_init : cx_M := (⟨"CircuitText$Verdict", "<init>", "()V"⟩, prog_10_method_1_code, 1, (Option.none : Option Jvm.ClassFile.FieldType), [], [false])
theorem w_Ve_init : cx_W m_Ve_init := ⟨Or.inl ⟨(in_1 (List.mem_of_getElem? (i := 106) rfl)), rfl⟩, by decide +kernel, by decide, by decide, by decide +kernel⟩
theorem n_Ve_init : (parseMethodDescriptor m_Ve_init.1.desc).map (fun d => d.parameters.length) = some 0 := by decide +kernel
theorem d_Ve_init_0 : decode prog_10_method_1_code 0 = .ok (.aload_n 0, 1) := by decide +kernel
theorem d_Ve_init_1 : decode prog_10_method_1_code 1 = .ok (.invokespecial 3, 3) := by decide +kernel
theorem d_Ve_init_4 : decode prog_10_method_1_code 4 = .ok (.aload_n 0, 1) := by decide +kernel
theorem d_Ve_init_5 : decode prog_10_method_1_code 5 = .ok (.iconst 0, 1) := by decide +kernel
theorem d_Ve_init_6 : decode prog_10_method_1_code 6 = .ok (.putfield 9, 3) := by decide +kernel
theorem d_Ve_init_9 : decode prog_10_method_1_code 9 = .ok (.aload_n 0, 1) := by decide +kernel
theorem d_Ve_init_10 : decode prog_10_method_1_code 10 = .ok (.iconst (-1), 1) := by decide +kernel
theorem d_Ve_init_11 : decode prog_10_method_1_code 11 = .ok (.putfield 15, 3) := by decide +kernel
theorem d_Ve_init_14 : decode prog_10_method_1_code 14 = .ok (.return_, 1) := by decide +kernel
theorem l_Me_93 : cx_LV "CircuitText$Meaning" 93 3 m_Me_declaredAs := ⟨Or.inl (in_4 (List.mem_of_getElem? (i := 188) rfl)), w_Me_declaredAs, (in_4 (List.mem_of_getElem? (i := 190) rfl)), _, rfl, (List.mem_append_left _ (List.mem_of_getElem? (i := 18) rfl))⟩
theorem l_Me_44 : cx_LV "CircuitText$Meaning" 44 9 m_Ve_check := ⟨Or.inl (in_4 (List.mem_of_getElem? (i := 99) rfl)), w_Ve_check, (in_4 (List.mem_of_getElem? (i := 100) rfl)), _, rfl, (in_4 (List.mem_of_getElem? (i := 101) rfl))⟩
theorem l_Me_36 : cx_LS "CircuitText$Meaning" 36 m_Me_moduleOf := ⟨Or.inl (in_4 (List.mem_of_getElem? (i := 96) rfl)), w_Me_moduleOf, (in_4 (List.mem_of_getElem? (i := 97) rfl)), (in_1 (List.mem_of_getElem? (i := 16) rfl))⟩
theorem l_Me_67 : cx_LV "CircuitText$Meaning" 67 4 m_Nm_isDrivable := ⟨Or.inl (in_5 (List.mem_of_getElem? (i := 29) rfl)), w_Nm_isDrivable, (in_5 (List.mem_of_getElem? (i := 30) rfl)), _, rfl, (in_5 (List.mem_of_getElem? (i := 31) rfl))⟩
theorem l_Me_115 : cx_LV "CircuitText$Meaning" 115 3 m_Me_drive := ⟨Or.inl (in_5 (List.mem_of_getElem? (i := 33) rfl)), w_Me_drive, (in_5 (List.mem_of_getElem? (i := 35) rfl)), _, rfl, (List.mem_append_left _ (List.mem_of_getElem? (i := 25) rfl))⟩
theorem l_Me_119 : cx_LV "CircuitText$Meaning" 119 4 m_Nm_isRegister := ⟨Or.inl (in_5 (List.mem_of_getElem? (i := 149) rfl)), w_Nm_isRegister, (in_5 (List.mem_of_getElem? (i := 150) rfl)), _, rfl, (in_5 (List.mem_of_getElem? (i := 151) rfl))⟩
theorem l_Me_128 : cx_LV "CircuitText$Meaning" 128 3 m_Me_spend := ⟨Or.inl (in_5 (List.mem_of_getElem? (i := 89) rfl)), w_Me_spend, (in_5 (List.mem_of_getElem? (i := 78) rfl)), _, rfl, (in_5 (List.mem_of_getElem? (i := 79) rfl))⟩
theorem l_Me_149 : cx_LV "CircuitText$Meaning" 149 8 m_Un_portOf := ⟨Or.inl (in_5 (List.mem_of_getElem? (i := 178) rfl)), w_Un_portOf, (in_5 (List.mem_of_getElem? (i := 179) rfl)), _, rfl, (in_5 (List.mem_of_getElem? (i := 180) rfl))⟩
theorem l_Un_49 : cx_LV "CircuitText$Unit" 49 13 m_AL_size := ⟨Or.inl (in_5 (List.mem_of_getElem? (i := 182) rfl)), w_AL_size, (in_4 (List.mem_of_getElem? (i := 104) rfl)), _, rfl, (in_4 (List.mem_of_getElem? (i := 105) rfl))⟩
theorem l_Un_53 : cx_LV "CircuitText$Unit" 53 13 m_AL_get := ⟨Or.inl (in_5 (List.mem_of_getElem? (i := 183) rfl)), w_AL_get, (in_5 (List.mem_of_getElem? (i := 184) rfl)), _, rfl, (in_5 (List.mem_of_getElem? (i := 185) rfl))⟩
theorem l_Me_159 : cx_LV "CircuitText$Meaning" 159 4 m_Nm_isOutput := ⟨Or.inl (in_5 (List.mem_of_getElem? (i := 200) rfl)), w_Nm_isOutput, (in_5 (List.mem_of_getElem? (i := 201) rfl)), _, rfl, (in_5 (List.mem_of_getElem? (i := 202) rfl))⟩
theorem l_Me_90 : cx_LI "CircuitText$Meaning" 90 m_Nm_init := ⟨Or.inl (in_4 (List.mem_of_getElem? (i := 133) rfl)), w_Nm_init, (in_4 (List.mem_of_getElem? (i := 134) rfl)), rfl, rfl, rfl, (in_4 (List.mem_of_getElem? (i := 135) rfl))⟩
theorem l_Me_72 : cx_LV "CircuitText$Meaning" 72 13 m_AL_add1 := ⟨Or.inl (in_4 (List.mem_of_getElem? (i := 192) rfl)), w_AL_add1, (in_4 (List.mem_of_getElem? (i := 193) rfl)), _, rfl, (in_4 (List.mem_of_getElem? (i := 194) rfl))⟩
theorem l_Me_139 : cx_LV "CircuitText$Meaning" 139 3 m_Me_declare := ⟨Or.inl (in_5 (List.mem_of_getElem? (i := 169) rfl)), w_Me_declare, (in_4 (List.mem_of_getElem? (i := 128) rfl)), _, rfl, (in_4 (List.mem_of_getElem? (i := 129) rfl))⟩
theorem l_Un_9 : cx_LI "CircuitText$Unit" 9 m_AL_init := ⟨Or.inl (in_1 (List.mem_of_getElem? (i := 181) rfl)), w_AL_init, (in_1 (List.mem_of_getElem? (i := 64) rfl)), rfl, rfl, rfl, (in_1 (List.mem_of_getElem? (i := 65) rfl))⟩
theorem l_Me_50 : cx_LV "CircuitText$Meaning" 50 13 m_AL_size := ⟨Or.inl (in_4 (List.mem_of_getElem? (i := 103) rfl)), w_AL_size, (in_4 (List.mem_of_getElem? (i := 104) rfl)), _, rfl, (in_4 (List.mem_of_getElem? (i := 105) rfl))⟩
theorem l_Me_25 : cx_LI "CircuitText$Meaning" 25 m_Un_init := ⟨Or.inl (in_1 (List.mem_of_getElem? (i := 176) rfl)), w_Un_init, (in_1 (List.mem_of_getElem? (i := 177) rfl)), rfl, rfl, rfl, (in_1 (List.mem_of_getElem? (i := 178) rfl))⟩
theorem l_Me_57 : cx_LV "CircuitText$Meaning" 57 13 m_AL_get := ⟨Or.inl (in_5 (List.mem_of_getElem? (i := 212) rfl)), w_AL_get, (in_5 (List.mem_of_getElem? (i := 184) rfl)), _, rfl, (in_5 (List.mem_of_getElem? (i := 185) rfl))⟩
theorem l_Me_11 : cx_LI "CircuitText$Meaning" 11 m_AL_init := ⟨Or.inl (in_1 (List.mem_of_getElem? (i := 126) rfl)), w_AL_init, (in_1 (List.mem_of_getElem? (i := 64) rfl)), rfl, rfl, rfl, (in_1 (List.mem_of_getElem? (i := 65) rfl))⟩
theorem l_Me_22 : cx_LI "CircuitText$Meaning" 22 m_To_init := ⟨Or.inl (in_1 (List.mem_of_getElem? (i := 131) rfl)), w_To_init, (in_1 (List.mem_of_getElem? (i := 132) rfl)), rfl, rfl, rfl, (in_1 (List.mem_of_getElem? (i := 133) rfl))⟩

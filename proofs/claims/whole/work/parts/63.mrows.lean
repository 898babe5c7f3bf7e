/-! THE REFERENCE: rows of its methods. -/
abbrev m_Mo_thrown : cx_M := (⟨"CircuitTextModel", "thrown", "()I"⟩, prog_14_method_2_code, 1, (Option.some Jvm.ClassFile.FieldType.int), [], [false])
theorem w_Mo_thrown : cx_W m_Mo_thrown := ⟨Or.inl ⟨(in_7 (List.mem_of_getElem? (i := 35) rfl)), rfl⟩, by decide +kernel, by decide, by decide, by decide +kernel⟩
theorem n_Mo_thrown : (parseMethodDescriptor m_Mo_thrown.1.desc).map (fun d => d.parameters.length) = some 0 := by decide +kernel
theorem d_Mo_thrown_0 : decode prog_14_method_2_code 0 = .ok (.aload_n 0, 1) := by decide +kernel
theorem d_Mo_thrown_1 : decode prog_14_method_2_code 1 = .ok (.getfield 122, 3) := by decide +kernel
theorem d_Mo_thrown_4 : decode prog_14_method_2_code 4 = .ok (.ireturn, 1) := by decide +kernel
theorem f_Mo_122 : cx_F "CircuitTextModel" 122 12 0 (.int) false := ⟨_, F_Mo, 58, t_Mo, k_Mo, by decide, rfl, rfl, Or.inl (in_6 (List.mem_of_getElem? (i := 95) rfl))⟩
abbrev m_Mo_read1 : cx_M := (⟨"CircuitTextModel", "read", "()I"⟩, prog_14_method_73_code, 3, (Option.some Jvm.ClassFile.FieldType.int), [], [false])
theorem w_Mo_read1 : cx_W m_Mo_read1 := ⟨Or.inl ⟨(in_7 (List.mem_of_getElem? (i := 39) rfl)), rfl⟩, by decide +kernel, by decide, by decide, by decide +kernel⟩
theorem n_Mo_read1 : (parseMethodDescriptor m_Mo_read1.1.desc).map (fun d => d.parameters.length) = some 0 := by decide +kernel
theorem d_Mo_read1_0 : decode prog_14_method_73_code 0 = .ok (.aload_n 0, 1) := by decide +kernel
theorem d_Mo_read1_1 : decode prog_14_method_73_code 1 = .ok (.iconst 0, 1) := by decide +kernel
theorem d_Mo_read1_2 : decode prog_14_method_73_code 2 = .ok (.putfield 122, 3) := by decide +kernel
theorem d_Mo_read1_5 : decode prog_14_method_73_code 5 = .ok (.iconst 0, 1) := by decide +kernel
theorem d_Mo_read1_6 : decode prog_14_method_73_code 6 = .ok (.istore_n 1, 1) := by decide +kernel
theorem d_Mo_read1_7 : decode prog_14_method_73_code 7 = .ok (.iload_n 1, 1) := by decide +kernel
theorem d_Mo_read1_8 : decode prog_14_method_73_code 8 = .ok (.aload_n 0, 1) := by decide +kernel
theorem d_Mo_read1_9 : decode prog_14_method_73_code 9 = .ok (.getfield 407, 3) := by decide +kernel
theorem d_Mo_read1_12 : decode prog_14_method_73_code 12 = .ok (.if_icmp .ge 21, 3) := by decide +kernel
theorem d_Mo_read1_15 : decode prog_14_method_73_code 15 = .ok (.aload_n 0, 1) := by decide +kernel
theorem d_Mo_read1_16 : decode prog_14_method_73_code 16 = .ok (.getfield 116, 3) := by decide +kernel
theorem d_Mo_read1_19 : decode prog_14_method_73_code 19 = .ok (.iload_n 1, 1) := by decide +kernel
theorem d_Mo_read1_20 : decode prog_14_method_73_code 20 = .ok (.aload_n 0, 1) := by decide +kernel
theorem d_Mo_read1_21 : decode prog_14_method_73_code 21 = .ok (.getfield 8, 3) := by decide +kernel
theorem d_Mo_read1_24 : decode prog_14_method_73_code 24 = .ok (.iload_n 1, 1) := by decide +kernel
theorem d_Mo_read1_25 : decode prog_14_method_73_code 25 = .ok (.baload, 1) := by decide +kernel
theorem d_Mo_read1_26 : decode prog_14_method_73_code 26 = .ok (.bastore, 1) := by decide +kernel
theorem d_Mo_read1_27 : decode prog_14_method_73_code 27 = .ok (.iinc 1 1, 3) := by decide +kernel
theorem d_Mo_read1_30 : decode prog_14_method_73_code 30 = .ok (.goto (-23), 3) := by decide +kernel
theorem d_Mo_read1_33 : decode prog_14_method_73_code 33 = .ok (.aload_n 0, 1) := by decide +kernel
theorem d_Mo_read1_34 : decode prog_14_method_73_code 34 = .ok (.aload_n 0, 1) := by decide +kernel
theorem d_Mo_read1_35 : decode prog_14_method_73_code 35 = .ok (.getfield 407, 3) := by decide +kernel
theorem d_Mo_read1_38 : decode prog_14_method_73_code 38 = .ok (.putfield 126, 3) := by decide +kernel
theorem d_Mo_read1_41 : decode prog_14_method_73_code 41 = .ok (.aload_n 0, 1) := by decide +kernel
theorem d_Mo_read1_42 : decode prog_14_method_73_code 42 = .ok (.iconst 0, 1) := by decide +kernel
theorem d_Mo_read1_43 : decode prog_14_method_73_code 43 = .ok (.putfield 407, 3) := by decide +kernel
theorem d_Mo_read1_46 : decode prog_14_method_73_code 46 = .ok (.aload_n 0, 1) := by decide +kernel
theorem d_Mo_read1_47 : decode prog_14_method_73_code 47 = .ok (.invokevirtual 410, 3) := by decide +kernel
theorem d_Mo_read1_50 : decode prog_14_method_73_code 50 = .ok (.aload_n 0, 1) := by decide +kernel
theorem d_Mo_read1_51 : decode prog_14_method_73_code 51 = .ok (.aload_n 0, 1) := by decide +kernel
theorem d_Mo_read1_52 : decode prog_14_method_73_code 52 = .ok (.getfield 187, 3) := by decide +kernel
theorem d_Mo_read1_55 : decode prog_14_method_73_code 55 = .ok (.putfield 413, 3) := by decide +kernel
theorem d_Mo_read1_58 : decode prog_14_method_73_code 58 = .ok (.aload_n 0, 1) := by decide +kernel
theorem d_Mo_read1_59 : decode prog_14_method_73_code 59 = .ok (.getfield 190, 3) := by decide +kernel
theorem d_Mo_read1_62 : decode prog_14_method_73_code 62 = .ok (.istore_n 1, 1) := by decide +kernel
theorem d_Mo_read1_63 : decode prog_14_method_73_code 63 = .ok (.aload_n 0, 1) := by decide +kernel
theorem d_Mo_read1_64 : decode prog_14_method_73_code 64 = .ok (.getfield 187, 3) := by decide +kernel
theorem d_Mo_read1_67 : decode prog_14_method_73_code 67 = .ok (.ifCond .ne 46, 3) := by decide +kernel
theorem d_Mo_read1_70 : decode prog_14_method_73_code 70 = .ok (.iconst 0, 1) := by decide +kernel
theorem d_Mo_read1_71 : decode prog_14_method_73_code 71 = .ok (.istore_n 2, 1) := by decide +kernel
theorem d_Mo_read1_72 : decode prog_14_method_73_code 72 = .ok (.iload_n 2, 1) := by decide +kernel
theorem d_Mo_read1_73 : decode prog_14_method_73_code 73 = .ok (.aload_n 0, 1) := by decide +kernel
theorem d_Mo_read1_74 : decode prog_14_method_73_code 74 = .ok (.getfield 126, 3) := by decide +kernel
theorem d_Mo_read1_77 : decode prog_14_method_73_code 77 = .ok (.if_icmp .ge 21, 3) := by decide +kernel
theorem d_Mo_read1_80 : decode prog_14_method_73_code 80 = .ok (.aload_n 0, 1) := by decide +kernel
theorem d_Mo_read1_81 : decode prog_14_method_73_code 81 = .ok (.getfield 113, 3) := by decide +kernel
theorem d_Mo_read1_84 : decode prog_14_method_73_code 84 = .ok (.iload_n 2, 1) := by decide +kernel
theorem d_Mo_read1_85 : decode prog_14_method_73_code 85 = .ok (.aload_n 0, 1) := by decide +kernel
theorem d_Mo_read1_86 : decode prog_14_method_73_code 86 = .ok (.getfield 116, 3) := by decide +kernel
theorem d_Mo_read1_89 : decode prog_14_method_73_code 89 = .ok (.iload_n 2, 1) := by decide +kernel
theorem d_Mo_read1_90 : decode prog_14_method_73_code 90 = .ok (.baload, 1) := by decide +kernel
theorem d_Mo_read1_91 : decode prog_14_method_73_code 91 = .ok (.bastore, 1) := by decide +kernel
theorem d_Mo_read1_92 : decode prog_14_method_73_code 92 = .ok (.iinc 2 1, 3) := by decide +kernel
theorem d_Mo_read1_95 : decode prog_14_method_73_code 95 = .ok (.goto (-23), 3) := by decide +kernel
theorem d_Mo_read1_98 : decode prog_14_method_73_code 98 = .ok (.aload_n 0, 1) := by decide +kernel
theorem d_Mo_read1_99 : decode prog_14_method_73_code 99 = .ok (.aload_n 0, 1) := by decide +kernel
theorem d_Mo_read1_100 : decode prog_14_method_73_code 100 = .ok (.getfield 126, 3) := by decide +kernel
theorem d_Mo_read1_103 : decode prog_14_method_73_code 103 = .ok (.putfield 416, 3) := by decide +kernel
theorem d_Mo_read1_106 : decode prog_14_method_73_code 106 = .ok (.aload_n 0, 1) := by decide +kernel
theorem d_Mo_read1_107 : decode prog_14_method_73_code 107 = .ok (.iconst 1, 1) := by decide +kernel
theorem d_Mo_read1_108 : decode prog_14_method_73_code 108 = .ok (.putfield 419, 3) := by decide +kernel
theorem d_Mo_read1_111 : decode prog_14_method_73_code 111 = .ok (.iconst (-1), 1) := by decide +kernel
theorem d_Mo_read1_112 : decode prog_14_method_73_code 112 = .ok (.ireturn, 1) := by decide +kernel
theorem d_Mo_read1_113 : decode prog_14_method_73_code 113 = .ok (.aload_n 0, 1) := by decide +kernel
theorem d_Mo_read1_114 : decode prog_14_method_73_code 114 = .ok (.getfield 419, 3) := by decide +kernel
theorem d_Mo_read1_117 : decode prog_14_method_73_code 117 = .ok (.ifCond .eq 43, 3) := by decide +kernel
theorem d_Mo_read1_120 : decode prog_14_method_73_code 120 = .ok (.iconst 0, 1) := by decide +kernel
theorem d_Mo_read1_121 : decode prog_14_method_73_code 121 = .ok (.istore_n 2, 1) := by decide +kernel
theorem d_Mo_read1_122 : decode prog_14_method_73_code 122 = .ok (.iload_n 2, 1) := by decide +kernel
theorem d_Mo_read1_123 : decode prog_14_method_73_code 123 = .ok (.aload_n 0, 1) := by decide +kernel
theorem d_Mo_read1_124 : decode prog_14_method_73_code 124 = .ok (.getfield 416, 3) := by decide +kernel
theorem d_Mo_read1_127 : decode prog_14_method_73_code 127 = .ok (.if_icmp .ge 21, 3) := by decide +kernel
theorem d_Mo_read1_130 : decode prog_14_method_73_code 130 = .ok (.aload_n 0, 1) := by decide +kernel
theorem d_Mo_read1_131 : decode prog_14_method_73_code 131 = .ok (.getfield 116, 3) := by decide +kernel
theorem d_Mo_read1_134 : decode prog_14_method_73_code 134 = .ok (.iload_n 2, 1) := by decide +kernel
theorem d_Mo_read1_135 : decode prog_14_method_73_code 135 = .ok (.aload_n 0, 1) := by decide +kernel
theorem d_Mo_read1_136 : decode prog_14_method_73_code 136 = .ok (.getfield 113, 3) := by decide +kernel
theorem d_Mo_read1_139 : decode prog_14_method_73_code 139 = .ok (.iload_n 2, 1) := by decide +kernel
theorem d_Mo_read1_140 : decode prog_14_method_73_code 140 = .ok (.baload, 1) := by decide +kernel
theorem d_Mo_read1_141 : decode prog_14_method_73_code 141 = .ok (.bastore, 1) := by decide +kernel
theorem d_Mo_read1_142 : decode prog_14_method_73_code 142 = .ok (.iinc 2 1, 3) := by decide +kernel
theorem d_Mo_read1_145 : decode prog_14_method_73_code 145 = .ok (.goto (-23), 3) := by decide +kernel
theorem d_Mo_read1_148 : decode prog_14_method_73_code 148 = .ok (.aload_n 0, 1) := by decide +kernel
theorem d_Mo_read1_149 : decode prog_14_method_73_code 149 = .ok (.aload_n 0, 1) := by decide +kernel
theorem d_Mo_read1_150 : decode prog_14_method_73_code 150 = .ok (.getfield 416, 3) := by decide +kernel
theorem d_Mo_read1_153 : decode prog_14_method_73_code 153 = .ok (.putfield 126, 3) := by decide +kernel
theorem d_Mo_read1_156 : decode prog_14_method_73_code 156 = .ok (.aload_n 0, 1) := by decide +kernel
theorem d_Mo_read1_157 : decode prog_14_method_73_code 157 = .ok (.invokevirtual 410, 3) := by decide +kernel
theorem d_Mo_read1_160 : decode prog_14_method_73_code 160 = .ok (.iload_n 1, 1) := by decide +kernel
theorem d_Mo_read1_161 : decode prog_14_method_73_code 161 = .ok (.ireturn, 1) := by decide +kernel
theorem f_Mo_407 : cx_F "CircuitTextModel" 407 12 54 (.int) false := ⟨_, F_Mo, 58, t_Mo, k_Mo, by decide, rfl, rfl, Or.inl (in_6 (List.mem_of_getElem? (i := 149) rfl))⟩
theorem f_Mo_116 : cx_F "CircuitTextModel" 116 12 53 (.array .byte) true := ⟨_, F_Mo, 58, t_Mo, k_Mo, by decide, rfl, rfl, Or.inl (in_6 (List.mem_of_getElem? (i := 148) rfl))⟩
theorem ff_Mo_116 : cx_FF "CircuitTextModel" 116 12 53 (.array .byte) := ⟨_, F_Mo, 58, t_Mo, k_Mo, by decide, rfl, rfl, rfl, (in_6 (List.mem_of_getElem? (i := 148) rfl))⟩
theorem f_Mo_8 : cx_F "CircuitTextModel" 8 12 1 (.array .byte) true := ⟨_, F_Mo, 58, t_Mo, k_Mo, by decide, rfl, rfl, Or.inl (in_6 (List.mem_of_getElem? (i := 96) rfl))⟩
theorem ff_Mo_8 : cx_FF "CircuitTextModel" 8 12 1 (.array .byte) := ⟨_, F_Mo, 58, t_Mo, k_Mo, by decide, rfl, rfl, rfl, (in_6 (List.mem_of_getElem? (i := 96) rfl))⟩
theorem f_Mo_126 : cx_F "CircuitTextModel" 126 12 2 (.int) false := ⟨_, F_Mo, 58, t_Mo, k_Mo, by decide, rfl, rfl, Or.inl (in_6 (List.mem_of_getElem? (i := 97) rfl))⟩
theorem f_Mo_187 : cx_F "CircuitTextModel" 187 12 9 (.int) false := ⟨_, F_Mo, 58, t_Mo, k_Mo, by decide, rfl, rfl, Or.inl (in_6 (List.mem_of_getElem? (i := 104) rfl))⟩
theorem f_Mo_413 : cx_F "CircuitTextModel" 413 12 3 (.int) false := ⟨_, F_Mo, 58, t_Mo, k_Mo, by decide, rfl, rfl, Or.inl (in_6 (List.mem_of_getElem? (i := 98) rfl))⟩
theorem f_Mo_190 : cx_F "CircuitTextModel" 190 12 10 (.int) false := ⟨_, F_Mo, 58, t_Mo, k_Mo, by decide, rfl, rfl, Or.inl (in_6 (List.mem_of_getElem? (i := 105) rfl))⟩
theorem f_Mo_113 : cx_F "CircuitTextModel" 113 12 52 (.array .byte) true := ⟨_, F_Mo, 58, t_Mo, k_Mo, by decide, rfl, rfl, Or.inl (in_6 (List.mem_of_getElem? (i := 147) rfl))⟩
theorem ff_Mo_113 : cx_FF "CircuitTextModel" 113 12 52 (.array .byte) := ⟨_, F_Mo, 58, t_Mo, k_Mo, by decide, rfl, rfl, rfl, (in_6 (List.mem_of_getElem? (i := 147) rfl))⟩
theorem f_Mo_416 : cx_F "CircuitTextModel" 416 12 55 (.int) false := ⟨_, F_Mo, 58, t_Mo, k_Mo, by decide, rfl, rfl, Or.inl (in_6 (List.mem_of_getElem? (i := 150) rfl))⟩
theorem f_Mo_419 : cx_F "CircuitTextModel" 419 12 51 (.boolean) false := ⟨_, F_Mo, 58, t_Mo, k_Mo, by decide, rfl, rfl, Or.inl (in_6 (List.mem_of_getElem? (i := 146) rfl))⟩
abbrev m_Mo_readSource : cx_M := (⟨"CircuitTextModel", "readSource", "()V"⟩, prog_14_method_72_code, 1, (Option.none : Option Jvm.ClassFile.FieldType), [], [false])
theorem w_Mo_readSource : cx_W m_Mo_readSource := ⟨Or.inl ⟨(in_7 (List.mem_of_getElem? (i := 43) rfl)), rfl⟩, by decide +kernel, by decide, by decide, by decide +kernel⟩
theorem n_Mo_readSource : (parseMethodDescriptor m_Mo_readSource.1.desc).map (fun d => d.parameters.length) = some 0 := by decide +kernel
theorem d_Mo_readSource_0 : decode prog_14_method_72_code 0 = .ok (.aload_n 0, 1) := by decide +kernel
theorem d_Mo_readSource_1 : decode prog_14_method_72_code 1 = .ok (.iconst 0, 1) := by decide +kernel
theorem d_Mo_readSource_2 : decode prog_14_method_72_code 2 = .ok (.putfield 187, 3) := by decide +kernel
theorem d_Mo_readSource_5 : decode prog_14_method_72_code 5 = .ok (.aload_n 0, 1) := by decide +kernel
theorem d_Mo_readSource_6 : decode prog_14_method_72_code 6 = .ok (.iconst (-1), 1) := by decide +kernel
theorem d_Mo_readSource_7 : decode prog_14_method_72_code 7 = .ok (.putfield 190, 3) := by decide +kernel
theorem d_Mo_readSource_10 : decode prog_14_method_72_code 10 = .ok (.aload_n 0, 1) := by decide +kernel
theorem d_Mo_readSource_11 : decode prog_14_method_72_code 11 = .ok (.invokevirtual 398, 3) := by decide +kernel
theorem d_Mo_readSource_14 : decode prog_14_method_72_code 14 = .ok (.aload_n 0, 1) := by decide +kernel
theorem d_Mo_readSource_15 : decode prog_14_method_72_code 15 = .ok (.invokevirtual 401, 3) := by decide +kernel
theorem d_Mo_readSource_18 : decode prog_14_method_72_code 18 = .ok (.aload_n 0, 1) := by decide +kernel
theorem d_Mo_readSource_19 : decode prog_14_method_72_code 19 = .ok (.getfield 187, 3) := by decide +kernel
theorem d_Mo_readSource_22 : decode prog_14_method_72_code 22 = .ok (.ifCond .ne 7, 3) := by decide +kernel
theorem d_Mo_readSource_25 : decode prog_14_method_72_code 25 = .ok (.aload_n 0, 1) := by decide +kernel
theorem d_Mo_readSource_26 : decode prog_14_method_72_code 26 = .ok (.invokevirtual 404, 3) := by decide +kernel
theorem d_Mo_readSource_29 : decode prog_14_method_72_code 29 = .ok (.return_, 1) := by decide +kernel
abbrev m_Mo_cutTokens : cx_M := (⟨"CircuitTextModel", "cutTokens", "()V"⟩, prog_14_method_16_code, 4, (Option.none : Option Jvm.ClassFile.FieldType), [], [false])
theorem w_Mo_cutTokens : cx_W m_Mo_cutTokens := ⟨Or.inl ⟨(in_7 (List.mem_of_getElem? (i := 47) rfl)), rfl⟩, by decide +kernel, by decide, by decide, by decide +kernel⟩
theorem n_Mo_cutTokens : (parseMethodDescriptor m_Mo_cutTokens.1.desc).map (fun d => d.parameters.length) = some 0 := by decide +kernel
theorem d_Mo_cutTokens_0 : decode prog_14_method_16_code 0 = .ok (.aload_n 0, 1) := by decide +kernel
theorem d_Mo_cutTokens_1 : decode prog_14_method_16_code 1 = .ok (.iconst 0, 1) := by decide +kernel
theorem d_Mo_cutTokens_2 : decode prog_14_method_16_code 2 = .ok (.putfield 161, 3) := by decide +kernel
theorem d_Mo_cutTokens_5 : decode prog_14_method_16_code 5 = .ok (.iconst 0, 1) := by decide +kernel
theorem d_Mo_cutTokens_6 : decode prog_14_method_16_code 6 = .ok (.istore_n 1, 1) := by decide +kernel
theorem d_Mo_cutTokens_7 : decode prog_14_method_16_code 7 = .ok (.aload_n 0, 1) := by decide +kernel
theorem d_Mo_cutTokens_8 : decode prog_14_method_16_code 8 = .ok (.iload_n 1, 1) := by decide +kernel
theorem d_Mo_cutTokens_9 : decode prog_14_method_16_code 9 = .ok (.invokevirtual 164, 3) := by decide +kernel
theorem d_Mo_cutTokens_12 : decode prog_14_method_16_code 12 = .ok (.istore_n 2, 1) := by decide +kernel
theorem d_Mo_cutTokens_13 : decode prog_14_method_16_code 13 = .ok (.iload_n 2, 1) := by decide +kernel
theorem d_Mo_cutTokens_14 : decode prog_14_method_16_code 14 = .ok (.ifCond .ge 18, 3) := by decide +kernel
theorem d_Mo_cutTokens_17 : decode prog_14_method_16_code 17 = .ok (.aload_n 0, 1) := by decide +kernel
theorem d_Mo_cutTokens_18 : decode prog_14_method_16_code 18 = .ok (.sipush 404, 3) := by decide +kernel
theorem d_Mo_cutTokens_21 : decode prog_14_method_16_code 21 = .ok (.iconst (-1), 1) := by decide +kernel
theorem d_Mo_cutTokens_22 : decode prog_14_method_16_code 22 = .ok (.iload_n 2, 1) := by decide +kernel
theorem d_Mo_cutTokens_23 : decode prog_14_method_16_code 23 = .ok (.isub, 1) := by decide +kernel
theorem d_Mo_cutTokens_24 : decode prog_14_method_16_code 24 = .ok (.aload_n 0, 1) := by decide +kernel
theorem d_Mo_cutTokens_25 : decode prog_14_method_16_code 25 = .ok (.getfield 126, 3) := by decide +kernel
theorem d_Mo_cutTokens_28 : decode prog_14_method_16_code 28 = .ok (.invokevirtual 167, 3) := by decide +kernel
theorem d_Mo_cutTokens_31 : decode prog_14_method_16_code 31 = .ok (.return_, 1) := by decide +kernel
theorem d_Mo_cutTokens_32 : decode prog_14_method_16_code 32 = .ok (.iload_n 2, 1) := by decide +kernel
theorem d_Mo_cutTokens_33 : decode prog_14_method_16_code 33 = .ok (.aload_n 0, 1) := by decide +kernel
theorem d_Mo_cutTokens_34 : decode prog_14_method_16_code 34 = .ok (.getfield 126, 3) := by decide +kernel
theorem d_Mo_cutTokens_37 : decode prog_14_method_16_code 37 = .ok (.if_icmp .lt 19, 3) := by decide +kernel
theorem d_Mo_cutTokens_40 : decode prog_14_method_16_code 40 = .ok (.aload_n 0, 1) := by decide +kernel
theorem d_Mo_cutTokens_41 : decode prog_14_method_16_code 41 = .ok (.sipush 403, 3) := by decide +kernel
theorem d_Mo_cutTokens_44 : decode prog_14_method_16_code 44 = .ok (.aload_n 0, 1) := by decide +kernel
theorem d_Mo_cutTokens_45 : decode prog_14_method_16_code 45 = .ok (.getfield 126, 3) := by decide +kernel
theorem d_Mo_cutTokens_48 : decode prog_14_method_16_code 48 = .ok (.aload_n 0, 1) := by decide +kernel
theorem d_Mo_cutTokens_49 : decode prog_14_method_16_code 49 = .ok (.getfield 126, 3) := by decide +kernel
theorem d_Mo_cutTokens_52 : decode prog_14_method_16_code 52 = .ok (.invokevirtual 167, 3) := by decide +kernel
theorem d_Mo_cutTokens_55 : decode prog_14_method_16_code 55 = .ok (.return_, 1) := by decide +kernel
theorem d_Mo_cutTokens_56 : decode prog_14_method_16_code 56 = .ok (.aload_n 0, 1) := by decide +kernel
theorem d_Mo_cutTokens_57 : decode prog_14_method_16_code 57 = .ok (.iload_n 2, 1) := by decide +kernel
theorem d_Mo_cutTokens_58 : decode prog_14_method_16_code 58 = .ok (.invokevirtual 136, 3) := by decide +kernel
theorem d_Mo_cutTokens_61 : decode prog_14_method_16_code 61 = .ok (.istore_n 3, 1) := by decide +kernel
theorem d_Mo_cutTokens_62 : decode prog_14_method_16_code 62 = .ok (.iload_n 3, 1) := by decide +kernel
theorem d_Mo_cutTokens_63 : decode prog_14_method_16_code 63 = .ok (.invokestatic 129, 3) := by decide +kernel
theorem d_Mo_cutTokens_66 : decode prog_14_method_16_code 66 = .ok (.ifCond .eq 37, 3) := by decide +kernel
theorem d_Mo_cutTokens_69 : decode prog_14_method_16_code 69 = .ok (.iload_n 2, 1) := by decide +kernel
theorem d_Mo_cutTokens_70 : decode prog_14_method_16_code 70 = .ok (.istore_n 1, 1) := by decide +kernel
theorem d_Mo_cutTokens_71 : decode prog_14_method_16_code 71 = .ok (.aload_n 0, 1) := by decide +kernel
theorem d_Mo_cutTokens_72 : decode prog_14_method_16_code 72 = .ok (.iload_n 1, 1) := by decide +kernel
theorem d_Mo_cutTokens_73 : decode prog_14_method_16_code 73 = .ok (.invokevirtual 136, 3) := by decide +kernel
theorem d_Mo_cutTokens_76 : decode prog_14_method_16_code 76 = .ok (.invokestatic 158, 3) := by decide +kernel
theorem d_Mo_cutTokens_79 : decode prog_14_method_16_code 79 = .ok (.ifCond .eq 9, 3) := by decide +kernel
theorem d_Mo_cutTokens_82 : decode prog_14_method_16_code 82 = .ok (.iinc 1 1, 3) := by decide +kernel
theorem d_Mo_cutTokens_85 : decode prog_14_method_16_code 85 = .ok (.goto (-14), 3) := by decide +kernel
theorem d_Mo_cutTokens_88 : decode prog_14_method_16_code 88 = .ok (.aload_n 0, 1) := by decide +kernel
theorem d_Mo_cutTokens_89 : decode prog_14_method_16_code 89 = .ok (.aload_n 0, 1) := by decide +kernel
theorem d_Mo_cutTokens_90 : decode prog_14_method_16_code 90 = .ok (.iload_n 2, 1) := by decide +kernel
theorem d_Mo_cutTokens_91 : decode prog_14_method_16_code 91 = .ok (.iload_n 1, 1) := by decide +kernel
theorem d_Mo_cutTokens_92 : decode prog_14_method_16_code 92 = .ok (.invokevirtual 171, 3) := by decide +kernel
theorem d_Mo_cutTokens_95 : decode prog_14_method_16_code 95 = .ok (.iload_n 2, 1) := by decide +kernel
theorem d_Mo_cutTokens_96 : decode prog_14_method_16_code 96 = .ok (.iload_n 1, 1) := by decide +kernel
theorem d_Mo_cutTokens_97 : decode prog_14_method_16_code 97 = .ok (.invokevirtual 167, 3) := by decide +kernel
theorem d_Mo_cutTokens_100 : decode prog_14_method_16_code 100 = .ok (.goto 93, 3) := by decide +kernel
theorem d_Mo_cutTokens_103 : decode prog_14_method_16_code 103 = .ok (.iload_n 3, 1) := by decide +kernel
theorem d_Mo_cutTokens_104 : decode prog_14_method_16_code 104 = .ok (.invokestatic 133, 3) := by decide +kernel
theorem d_Mo_cutTokens_107 : decode prog_14_method_16_code 107 = .ok (.ifCond .eq 24, 3) := by decide +kernel
theorem d_Mo_cutTokens_110 : decode prog_14_method_16_code 110 = .ok (.aload_n 0, 1) := by decide +kernel
theorem d_Mo_cutTokens_111 : decode prog_14_method_16_code 111 = .ok (.iload_n 2, 1) := by decide +kernel
theorem d_Mo_cutTokens_112 : decode prog_14_method_16_code 112 = .ok (.invokevirtual 175, 3) := by decide +kernel
theorem d_Mo_cutTokens_115 : decode prog_14_method_16_code 115 = .ok (.istore_n 1, 1) := by decide +kernel
theorem d_Mo_cutTokens_116 : decode prog_14_method_16_code 116 = .ok (.aload_n 0, 1) := by decide +kernel
theorem d_Mo_cutTokens_117 : decode prog_14_method_16_code 117 = .ok (.aload_n 0, 1) := by decide +kernel
theorem d_Mo_cutTokens_118 : decode prog_14_method_16_code 118 = .ok (.iload_n 2, 1) := by decide +kernel
theorem d_Mo_cutTokens_119 : decode prog_14_method_16_code 119 = .ok (.iload_n 1, 1) := by decide +kernel
theorem d_Mo_cutTokens_120 : decode prog_14_method_16_code 120 = .ok (.invokevirtual 178, 3) := by decide +kernel
theorem d_Mo_cutTokens_123 : decode prog_14_method_16_code 123 = .ok (.iload_n 2, 1) := by decide +kernel
theorem d_Mo_cutTokens_124 : decode prog_14_method_16_code 124 = .ok (.iload_n 1, 1) := by decide +kernel
theorem d_Mo_cutTokens_125 : decode prog_14_method_16_code 125 = .ok (.invokevirtual 167, 3) := by decide +kernel
theorem d_Mo_cutTokens_128 : decode prog_14_method_16_code 128 = .ok (.goto 65, 3) := by decide +kernel
theorem d_Mo_cutTokens_131 : decode prog_14_method_16_code 131 = .ok (.iload_n 3, 1) := by decide +kernel
theorem d_Mo_cutTokens_132 : decode prog_14_method_16_code 132 = .ok (.aload_n 0, 1) := by decide +kernel
theorem d_Mo_cutTokens_133 : decode prog_14_method_16_code 133 = .ok (.iload_n 2, 1) := by decide +kernel
theorem d_Mo_cutTokens_134 : decode prog_14_method_16_code 134 = .ok (.iconst 1, 1) := by decide +kernel
theorem d_Mo_cutTokens_135 : decode prog_14_method_16_code 135 = .ok (.iadd, 1) := by decide +kernel
theorem d_Mo_cutTokens_136 : decode prog_14_method_16_code 136 = .ok (.invokevirtual 136, 3) := by decide +kernel
theorem d_Mo_cutTokens_139 : decode prog_14_method_16_code 139 = .ok (.invokestatic 181, 3) := by decide +kernel
theorem d_Mo_cutTokens_142 : decode prog_14_method_16_code 142 = .ok (.ifCond .le 27, 3) := by decide +kernel
theorem d_Mo_cutTokens_145 : decode prog_14_method_16_code 145 = .ok (.iload_n 2, 1) := by decide +kernel
theorem d_Mo_cutTokens_146 : decode prog_14_method_16_code 146 = .ok (.iconst 2, 1) := by decide +kernel
theorem d_Mo_cutTokens_147 : decode prog_14_method_16_code 147 = .ok (.iadd, 1) := by decide +kernel
theorem d_Mo_cutTokens_148 : decode prog_14_method_16_code 148 = .ok (.istore_n 1, 1) := by decide +kernel
theorem d_Mo_cutTokens_149 : decode prog_14_method_16_code 149 = .ok (.aload_n 0, 1) := by decide +kernel
theorem d_Mo_cutTokens_150 : decode prog_14_method_16_code 150 = .ok (.iload_n 3, 1) := by decide +kernel
theorem d_Mo_cutTokens_151 : decode prog_14_method_16_code 151 = .ok (.aload_n 0, 1) := by decide +kernel
theorem d_Mo_cutTokens_152 : decode prog_14_method_16_code 152 = .ok (.iload_n 2, 1) := by decide +kernel
theorem d_Mo_cutTokens_153 : decode prog_14_method_16_code 153 = .ok (.iconst 1, 1) := by decide +kernel
theorem d_Mo_cutTokens_154 : decode prog_14_method_16_code 154 = .ok (.iadd, 1) := by decide +kernel
theorem d_Mo_cutTokens_155 : decode prog_14_method_16_code 155 = .ok (.invokevirtual 136, 3) := by decide +kernel
theorem d_Mo_cutTokens_158 : decode prog_14_method_16_code 158 = .ok (.invokestatic 181, 3) := by decide +kernel
theorem d_Mo_cutTokens_161 : decode prog_14_method_16_code 161 = .ok (.iload_n 2, 1) := by decide +kernel
theorem d_Mo_cutTokens_162 : decode prog_14_method_16_code 162 = .ok (.iload_n 1, 1) := by decide +kernel
theorem d_Mo_cutTokens_163 : decode prog_14_method_16_code 163 = .ok (.invokevirtual 167, 3) := by decide +kernel
theorem d_Mo_cutTokens_166 : decode prog_14_method_16_code 166 = .ok (.goto 27, 3) := by decide +kernel
theorem d_Mo_cutTokens_169 : decode prog_14_method_16_code 169 = .ok (.iload_n 2, 1) := by decide +kernel
theorem d_Mo_cutTokens_170 : decode prog_14_method_16_code 170 = .ok (.iconst 1, 1) := by decide +kernel
theorem d_Mo_cutTokens_171 : decode prog_14_method_16_code 171 = .ok (.iadd, 1) := by decide +kernel
theorem d_Mo_cutTokens_172 : decode prog_14_method_16_code 172 = .ok (.istore_n 1, 1) := by decide +kernel
theorem d_Mo_cutTokens_173 : decode prog_14_method_16_code 173 = .ok (.aload_n 0, 1) := by decide +kernel
theorem d_Mo_cutTokens_174 : decode prog_14_method_16_code 174 = .ok (.iload_n 3, 1) := by decide +kernel
theorem d_Mo_cutTokens_175 : decode prog_14_method_16_code 175 = .ok (.invokestatic 184, 3) := by decide +kernel
theorem d_Mo_cutTokens_178 : decode prog_14_method_16_code 178 = .ok (.ifCond .eq 7, 3) := by decide +kernel
theorem d_Mo_cutTokens_181 : decode prog_14_method_16_code 181 = .ok (.iload_n 3, 1) := by decide +kernel
theorem d_Mo_cutTokens_182 : decode prog_14_method_16_code 182 = .ok (.goto 6, 3) := by decide +kernel
theorem d_Mo_cutTokens_185 : decode prog_14_method_16_code 185 = .ok (.sipush 404, 3) := by decide +kernel
theorem d_Mo_cutTokens_188 : decode prog_14_method_16_code 188 = .ok (.iload_n 2, 1) := by decide +kernel
theorem d_Mo_cutTokens_189 : decode prog_14_method_16_code 189 = .ok (.iload_n 1, 1) := by decide +kernel
theorem d_Mo_cutTokens_190 : decode prog_14_method_16_code 190 = .ok (.invokevirtual 167, 3) := by decide +kernel
theorem d_Mo_cutTokens_193 : decode prog_14_method_16_code 193 = .ok (.aload_n 0, 1) := by decide +kernel
theorem d_Mo_cutTokens_194 : decode prog_14_method_16_code 194 = .ok (.getfield 15, 3) := by decide +kernel
theorem d_Mo_cutTokens_197 : decode prog_14_method_16_code 197 = .ok (.aload_n 0, 1) := by decide +kernel
theorem d_Mo_cutTokens_198 : decode prog_14_method_16_code 198 = .ok (.getfield 161, 3) := by decide +kernel
theorem d_Mo_cutTokens_201 : decode prog_14_method_16_code 201 = .ok (.iconst 1, 1) := by decide +kernel
theorem d_Mo_cutTokens_202 : decode prog_14_method_16_code 202 = .ok (.isub, 1) := by decide +kernel
theorem d_Mo_cutTokens_203 : decode prog_14_method_16_code 203 = .ok (.iaload, 1) := by decide +kernel
theorem d_Mo_cutTokens_204 : decode prog_14_method_16_code 204 = .ok (.sipush 404, 3) := by decide +kernel
theorem d_Mo_cutTokens_207 : decode prog_14_method_16_code 207 = .ok (.if_icmp .ne 4, 3) := by decide +kernel
theorem d_Mo_cutTokens_210 : decode prog_14_method_16_code 210 = .ok (.return_, 1) := by decide +kernel
theorem d_Mo_cutTokens_211 : decode prog_14_method_16_code 211 = .ok (.goto (-204), 3) := by decide +kernel
theorem f_Mo_161 : cx_F "CircuitTextModel" 161 12 7 (.int) false := ⟨_, F_Mo, 58, t_Mo, k_Mo, by decide, rfl, rfl, Or.inl (in_6 (List.mem_of_getElem? (i := 102) rfl))⟩
theorem f_Mo_15 : cx_F "CircuitTextModel" 15 12 4 (.array .int) true := ⟨_, F_Mo, 58, t_Mo, k_Mo, by decide, rfl, rfl, Or.inl (in_6 (List.mem_of_getElem? (i := 99) rfl))⟩
theorem ff_Mo_15 : cx_FF "CircuitTextModel" 15 12 4 (.array .int) := ⟨_, F_Mo, 58, t_Mo, k_Mo, by decide, rfl, rfl, rfl, (in_6 (List.mem_of_getElem? (i := 99) rfl))⟩
abbrev m_Mo_skip : cx_M := (⟨"CircuitTextModel", "skip", "(I)I"⟩, prog_14_method_7_code, 5, (Option.some Jvm.ClassFile.FieldType.int), [], [false, false])
theorem w_Mo_skip : cx_W m_Mo_skip := ⟨Or.inl ⟨(in_7 (List.mem_of_getElem? (i := 51) rfl)), rfl⟩, by decide +kernel, by decide, by decide, by decide +kernel⟩
theorem n_Mo_skip : (parseMethodDescriptor m_Mo_skip.1.desc).map (fun d => d.parameters.length) = some 1 := by decide +kernel
theorem d_Mo_skip_0 : decode prog_14_method_7_code 0 = .ok (.iload_n 1, 1) := by decide +kernel
theorem d_Mo_skip_1 : decode prog_14_method_7_code 1 = .ok (.istore_n 2, 1) := by decide +kernel
theorem d_Mo_skip_2 : decode prog_14_method_7_code 2 = .ok (.aload_n 0, 1) := by decide +kernel
theorem d_Mo_skip_3 : decode prog_14_method_7_code 3 = .ok (.iload_n 2, 1) := by decide +kernel
theorem d_Mo_skip_4 : decode prog_14_method_7_code 4 = .ok (.invokevirtual 136, 3) := by decide +kernel
theorem d_Mo_skip_7 : decode prog_14_method_7_code 7 = .ok (.istore_n 3, 1) := by decide +kernel
theorem d_Mo_skip_8 : decode prog_14_method_7_code 8 = .ok (.iload_n 3, 1) := by decide +kernel
theorem d_Mo_skip_9 : decode prog_14_method_7_code 9 = .ok (.bipush 9, 2) := by decide +kernel
theorem d_Mo_skip_11 : decode prog_14_method_7_code 11 = .ok (.if_icmp .eq 21, 3) := by decide +kernel
theorem d_Mo_skip_14 : decode prog_14_method_7_code 14 = .ok (.iload_n 3, 1) := by decide +kernel
theorem d_Mo_skip_15 : decode prog_14_method_7_code 15 = .ok (.bipush 10, 2) := by decide +kernel
theorem d_Mo_skip_17 : decode prog_14_method_7_code 17 = .ok (.if_icmp .eq 15, 3) := by decide +kernel
theorem d_Mo_skip_20 : decode prog_14_method_7_code 20 = .ok (.iload_n 3, 1) := by decide +kernel
theorem d_Mo_skip_21 : decode prog_14_method_7_code 21 = .ok (.bipush 13, 2) := by decide +kernel
theorem d_Mo_skip_23 : decode prog_14_method_7_code 23 = .ok (.if_icmp .eq 9, 3) := by decide +kernel
theorem d_Mo_skip_26 : decode prog_14_method_7_code 26 = .ok (.iload_n 3, 1) := by decide +kernel
theorem d_Mo_skip_27 : decode prog_14_method_7_code 27 = .ok (.bipush 32, 2) := by decide +kernel
theorem d_Mo_skip_29 : decode prog_14_method_7_code 29 = .ok (.if_icmp .ne 9, 3) := by decide +kernel
theorem d_Mo_skip_32 : decode prog_14_method_7_code 32 = .ok (.iinc 2 1, 3) := by decide +kernel
theorem d_Mo_skip_35 : decode prog_14_method_7_code 35 = .ok (.goto 130, 3) := by decide +kernel
theorem d_Mo_skip_38 : decode prog_14_method_7_code 38 = .ok (.iload_n 3, 1) := by decide +kernel
theorem d_Mo_skip_39 : decode prog_14_method_7_code 39 = .ok (.bipush 47, 2) := by decide +kernel
theorem d_Mo_skip_41 : decode prog_14_method_7_code 41 = .ok (.if_icmp .ne 39, 3) := by decide +kernel
theorem d_Mo_skip_44 : decode prog_14_method_7_code 44 = .ok (.aload_n 0, 1) := by decide +kernel
theorem d_Mo_skip_45 : decode prog_14_method_7_code 45 = .ok (.iload_n 2, 1) := by decide +kernel
theorem d_Mo_skip_46 : decode prog_14_method_7_code 46 = .ok (.iconst 1, 1) := by decide +kernel
theorem d_Mo_skip_47 : decode prog_14_method_7_code 47 = .ok (.iadd, 1) := by decide +kernel
theorem d_Mo_skip_48 : decode prog_14_method_7_code 48 = .ok (.invokevirtual 136, 3) := by decide +kernel
theorem d_Mo_skip_51 : decode prog_14_method_7_code 51 = .ok (.bipush 47, 2) := by decide +kernel
theorem d_Mo_skip_53 : decode prog_14_method_7_code 53 = .ok (.if_icmp .ne 27, 3) := by decide +kernel
theorem d_Mo_skip_56 : decode prog_14_method_7_code 56 = .ok (.iload_n 2, 1) := by decide +kernel
theorem d_Mo_skip_57 : decode prog_14_method_7_code 57 = .ok (.aload_n 0, 1) := by decide +kernel
theorem d_Mo_skip_58 : decode prog_14_method_7_code 58 = .ok (.getfield 126, 3) := by decide +kernel
theorem d_Mo_skip_61 : decode prog_14_method_7_code 61 = .ok (.if_icmp .ge 104, 3) := by decide +kernel
theorem d_Mo_skip_64 : decode prog_14_method_7_code 64 = .ok (.aload_n 0, 1) := by decide +kernel
theorem d_Mo_skip_65 : decode prog_14_method_7_code 65 = .ok (.iload_n 2, 1) := by decide +kernel
theorem d_Mo_skip_66 : decode prog_14_method_7_code 66 = .ok (.invokevirtual 136, 3) := by decide +kernel
theorem d_Mo_skip_69 : decode prog_14_method_7_code 69 = .ok (.bipush 10, 2) := by decide +kernel
theorem d_Mo_skip_71 : decode prog_14_method_7_code 71 = .ok (.if_icmp .eq 94, 3) := by decide +kernel
theorem d_Mo_skip_74 : decode prog_14_method_7_code 74 = .ok (.iinc 2 1, 3) := by decide +kernel
theorem d_Mo_skip_77 : decode prog_14_method_7_code 77 = .ok (.goto (-21), 3) := by decide +kernel
theorem d_Mo_skip_80 : decode prog_14_method_7_code 80 = .ok (.iload_n 3, 1) := by decide +kernel
theorem d_Mo_skip_81 : decode prog_14_method_7_code 81 = .ok (.bipush 47, 2) := by decide +kernel
theorem d_Mo_skip_83 : decode prog_14_method_7_code 83 = .ok (.if_icmp .ne 80, 3) := by decide +kernel
theorem d_Mo_skip_86 : decode prog_14_method_7_code 86 = .ok (.aload_n 0, 1) := by decide +kernel
theorem d_Mo_skip_87 : decode prog_14_method_7_code 87 = .ok (.iload_n 2, 1) := by decide +kernel
theorem d_Mo_skip_88 : decode prog_14_method_7_code 88 = .ok (.iconst 1, 1) := by decide +kernel
theorem d_Mo_skip_89 : decode prog_14_method_7_code 89 = .ok (.iadd, 1) := by decide +kernel
theorem d_Mo_skip_90 : decode prog_14_method_7_code 90 = .ok (.invokevirtual 136, 3) := by decide +kernel
theorem d_Mo_skip_93 : decode prog_14_method_7_code 93 = .ok (.bipush 42, 2) := by decide +kernel
theorem d_Mo_skip_95 : decode prog_14_method_7_code 95 = .ok (.if_icmp .ne 68, 3) := by decide +kernel
theorem d_Mo_skip_98 : decode prog_14_method_7_code 98 = .ok (.iload_n 2, 1) := by decide +kernel
theorem d_Mo_skip_99 : decode prog_14_method_7_code 99 = .ok (.iconst 2, 1) := by decide +kernel
theorem d_Mo_skip_100 : decode prog_14_method_7_code 100 = .ok (.iadd, 1) := by decide +kernel
theorem d_Mo_skip_101 : decode prog_14_method_7_code 101 = .ok (.istore 4, 2) := by decide +kernel
theorem d_Mo_skip_103 : decode prog_14_method_7_code 103 = .ok (.iload 4, 2) := by decide +kernel
theorem d_Mo_skip_105 : decode prog_14_method_7_code 105 = .ok (.aload_n 0, 1) := by decide +kernel
theorem d_Mo_skip_106 : decode prog_14_method_7_code 106 = .ok (.getfield 126, 3) := by decide +kernel
theorem d_Mo_skip_109 : decode prog_14_method_7_code 109 = .ok (.if_icmp .ge 33, 3) := by decide +kernel
theorem d_Mo_skip_112 : decode prog_14_method_7_code 112 = .ok (.aload_n 0, 1) := by decide +kernel
theorem d_Mo_skip_113 : decode prog_14_method_7_code 113 = .ok (.iload 4, 2) := by decide +kernel
theorem d_Mo_skip_115 : decode prog_14_method_7_code 115 = .ok (.invokevirtual 136, 3) := by decide +kernel
theorem d_Mo_skip_118 : decode prog_14_method_7_code 118 = .ok (.bipush 42, 2) := by decide +kernel
theorem d_Mo_skip_120 : decode prog_14_method_7_code 120 = .ok (.if_icmp .ne 16, 3) := by decide +kernel
theorem d_Mo_skip_123 : decode prog_14_method_7_code 123 = .ok (.aload_n 0, 1) := by decide +kernel
theorem d_Mo_skip_124 : decode prog_14_method_7_code 124 = .ok (.iload 4, 2) := by decide +kernel
theorem d_Mo_skip_126 : decode prog_14_method_7_code 126 = .ok (.iconst 1, 1) := by decide +kernel
theorem d_Mo_skip_127 : decode prog_14_method_7_code 127 = .ok (.iadd, 1) := by decide +kernel
theorem d_Mo_skip_128 : decode prog_14_method_7_code 128 = .ok (.invokevirtual 136, 3) := by decide +kernel
theorem d_Mo_skip_131 : decode prog_14_method_7_code 131 = .ok (.bipush 47, 2) := by decide +kernel
theorem d_Mo_skip_133 : decode prog_14_method_7_code 133 = .ok (.if_icmp .eq 9, 3) := by decide +kernel
theorem d_Mo_skip_136 : decode prog_14_method_7_code 136 = .ok (.iinc 4 1, 3) := by decide +kernel
theorem d_Mo_skip_139 : decode prog_14_method_7_code 139 = .ok (.goto (-36), 3) := by decide +kernel
theorem d_Mo_skip_142 : decode prog_14_method_7_code 142 = .ok (.iload 4, 2) := by decide +kernel
theorem d_Mo_skip_144 : decode prog_14_method_7_code 144 = .ok (.aload_n 0, 1) := by decide +kernel
theorem d_Mo_skip_145 : decode prog_14_method_7_code 145 = .ok (.getfield 126, 3) := by decide +kernel
theorem d_Mo_skip_148 : decode prog_14_method_7_code 148 = .ok (.if_icmp .lt 7, 3) := by decide +kernel
theorem d_Mo_skip_151 : decode prog_14_method_7_code 151 = .ok (.iconst (-1), 1) := by decide +kernel
theorem d_Mo_skip_152 : decode prog_14_method_7_code 152 = .ok (.iload_n 2, 1) := by decide +kernel
theorem d_Mo_skip_153 : decode prog_14_method_7_code 153 = .ok (.isub, 1) := by decide +kernel
theorem d_Mo_skip_154 : decode prog_14_method_7_code 154 = .ok (.ireturn, 1) := by decide +kernel
theorem d_Mo_skip_155 : decode prog_14_method_7_code 155 = .ok (.iload 4, 2) := by decide +kernel
theorem d_Mo_skip_157 : decode prog_14_method_7_code 157 = .ok (.iconst 2, 1) := by decide +kernel
theorem d_Mo_skip_158 : decode prog_14_method_7_code 158 = .ok (.iadd, 1) := by decide +kernel
theorem d_Mo_skip_159 : decode prog_14_method_7_code 159 = .ok (.istore_n 2, 1) := by decide +kernel
theorem d_Mo_skip_160 : decode prog_14_method_7_code 160 = .ok (.goto 5, 3) := by decide +kernel
theorem d_Mo_skip_163 : decode prog_14_method_7_code 163 = .ok (.iload_n 2, 1) := by decide +kernel
theorem d_Mo_skip_164 : decode prog_14_method_7_code 164 = .ok (.ireturn, 1) := by decide +kernel
theorem d_Mo_skip_165 : decode prog_14_method_7_code 165 = .ok (.goto (-163), 3) := by decide +kernel
abbrev m_Mo_at : cx_M := (⟨"CircuitTextModel", "at", "(I)I"⟩, prog_14_method_3_code, 2, (Option.some Jvm.ClassFile.FieldType.int), [], [false, false])
theorem w_Mo_at : cx_W m_Mo_at := ⟨Or.inl ⟨(in_7 (List.mem_of_getElem? (i := 55) rfl)), rfl⟩, by decide +kernel, by decide, by decide, by decide +kernel⟩
theorem n_Mo_at : (parseMethodDescriptor m_Mo_at.1.desc).map (fun d => d.parameters.length) = some 1 := by decide +kernel
theorem d_Mo_at_0 : decode prog_14_method_3_code 0 = .ok (.iload_n 1, 1) := by decide +kernel
theorem d_Mo_at_1 : decode prog_14_method_3_code 1 = .ok (.aload_n 0, 1) := by decide +kernel
theorem d_Mo_at_2 : decode prog_14_method_3_code 2 = .ok (.getfield 126, 3) := by decide +kernel
theorem d_Mo_at_5 : decode prog_14_method_3_code 5 = .ok (.if_icmp .ge 16, 3) := by decide +kernel
theorem d_Mo_at_8 : decode prog_14_method_3_code 8 = .ok (.aload_n 0, 1) := by decide +kernel
theorem d_Mo_at_9 : decode prog_14_method_3_code 9 = .ok (.getfield 116, 3) := by decide +kernel
theorem d_Mo_at_12 : decode prog_14_method_3_code 12 = .ok (.iload_n 1, 1) := by decide +kernel
theorem d_Mo_at_13 : decode prog_14_method_3_code 13 = .ok (.baload, 1) := by decide +kernel
theorem d_Mo_at_14 : decode prog_14_method_3_code 14 = .ok (.sipush 255, 3) := by decide +kernel
theorem d_Mo_at_17 : decode prog_14_method_3_code 17 = .ok (.iand, 1) := by decide +kernel
theorem d_Mo_at_18 : decode prog_14_method_3_code 18 = .ok (.goto 4, 3) := by decide +kernel
theorem d_Mo_at_21 : decode prog_14_method_3_code 21 = .ok (.iconst (-1), 1) := by decide +kernel
theorem d_Mo_at_22 : decode prog_14_method_3_code 22 = .ok (.ireturn, 1) := by decide +kernel
abbrev m_Mo_token : cx_M := (⟨"CircuitTextModel", "token", "(III)V"⟩, prog_14_method_15_code, 4, (Option.none : Option Jvm.ClassFile.FieldType), [], [false, false, false, false])
theorem w_Mo_token : cx_W m_Mo_token := ⟨Or.inl ⟨(in_7 (List.mem_of_getElem? (i := 59) rfl)), rfl⟩, by decide +kernel, by decide, by decide, by decide +kernel⟩
theorem n_Mo_token : (parseMethodDescriptor m_Mo_token.1.desc).map (fun d => d.parameters.length) = some 3 := by decide +kernel
theorem d_Mo_token_0 : decode prog_14_method_15_code 0 = .ok (.aload_n 0, 1) := by decide +kernel
theorem d_Mo_token_1 : decode prog_14_method_15_code 1 = .ok (.getfield 15, 3) := by decide +kernel
theorem d_Mo_token_4 : decode prog_14_method_15_code 4 = .ok (.aload_n 0, 1) := by decide +kernel
theorem d_Mo_token_5 : decode prog_14_method_15_code 5 = .ok (.getfield 161, 3) := by decide +kernel
theorem d_Mo_token_8 : decode prog_14_method_15_code 8 = .ok (.iload_n 1, 1) := by decide +kernel
theorem d_Mo_token_9 : decode prog_14_method_15_code 9 = .ok (.iastore, 1) := by decide +kernel
theorem d_Mo_token_10 : decode prog_14_method_15_code 10 = .ok (.aload_n 0, 1) := by decide +kernel
theorem d_Mo_token_11 : decode prog_14_method_15_code 11 = .ok (.getfield 19, 3) := by decide +kernel
theorem d_Mo_token_14 : decode prog_14_method_15_code 14 = .ok (.aload_n 0, 1) := by decide +kernel
theorem d_Mo_token_15 : decode prog_14_method_15_code 15 = .ok (.getfield 161, 3) := by decide +kernel
theorem d_Mo_token_18 : decode prog_14_method_15_code 18 = .ok (.iload_n 2, 1) := by decide +kernel
theorem d_Mo_token_19 : decode prog_14_method_15_code 19 = .ok (.iastore, 1) := by decide +kernel
theorem d_Mo_token_20 : decode prog_14_method_15_code 20 = .ok (.aload_n 0, 1) := by decide +kernel
theorem d_Mo_token_21 : decode prog_14_method_15_code 21 = .ok (.getfield 22, 3) := by decide +kernel
theorem d_Mo_token_24 : decode prog_14_method_15_code 24 = .ok (.aload_n 0, 1) := by decide +kernel
theorem d_Mo_token_25 : decode prog_14_method_15_code 25 = .ok (.getfield 161, 3) := by decide +kernel
theorem d_Mo_token_28 : decode prog_14_method_15_code 28 = .ok (.iload_n 3, 1) := by decide +kernel
theorem d_Mo_token_29 : decode prog_14_method_15_code 29 = .ok (.iastore, 1) := by decide +kernel
theorem d_Mo_token_30 : decode prog_14_method_15_code 30 = .ok (.aload_n 0, 1) := by decide +kernel
theorem d_Mo_token_31 : decode prog_14_method_15_code 31 = .ok (.dup, 1) := by decide +kernel
theorem d_Mo_token_32 : decode prog_14_method_15_code 32 = .ok (.getfield 161, 3) := by decide +kernel
theorem d_Mo_token_35 : decode prog_14_method_15_code 35 = .ok (.iconst 1, 1) := by decide +kernel
theorem d_Mo_token_36 : decode prog_14_method_15_code 36 = .ok (.iadd, 1) := by decide +kernel
theorem d_Mo_token_37 : decode prog_14_method_15_code 37 = .ok (.putfield 161, 3) := by decide +kernel
theorem d_Mo_token_40 : decode prog_14_method_15_code 40 = .ok (.return_, 1) := by decide +kernel
theorem f_Mo_19 : cx_F "CircuitTextModel" 19 12 5 (.array .int) true := ⟨_, F_Mo, 58, t_Mo, k_Mo, by decide, rfl, rfl, Or.inl (in_6 (List.mem_of_getElem? (i := 100) rfl))⟩
theorem ff_Mo_19 : cx_FF "CircuitTextModel" 19 12 5 (.array .int) := ⟨_, F_Mo, 58, t_Mo, k_Mo, by decide, rfl, rfl, rfl, (in_6 (List.mem_of_getElem? (i := 100) rfl))⟩
theorem f_Mo_22 : cx_F "CircuitTextModel" 22 12 6 (.array .int) true := ⟨_, F_Mo, 58, t_Mo, k_Mo, by decide, rfl, rfl, Or.inl (in_6 (List.mem_of_getElem? (i := 101) rfl))⟩
theorem ff_Mo_22 : cx_FF "CircuitTextModel" 22 12 6 (.array .int) := ⟨_, F_Mo, 58, t_Mo, k_Mo, by decide, rfl, rfl, rfl, (in_6 (List.mem_of_getElem? (i := 101) rfl))⟩
abbrev m_Mo_isLetter : cx_M := (⟨"CircuitTextModel", "isLetter", "(I)Z"⟩, prog_14_method_5_code, 1, (Option.some Jvm.ClassFile.FieldType.boolean), [], [false])
theorem w_Mo_isLetter : cx_W m_Mo_isLetter := ⟨Or.inl ⟨(in_7 (List.mem_of_getElem? (i := 62) rfl)), rfl⟩, by decide +kernel, by decide, by decide, by decide +kernel⟩
theorem n_Mo_isLetter : (parseMethodDescriptor m_Mo_isLetter.1.desc).map (fun d => d.parameters.length) = some 1 := by decide +kernel
theorem d_Mo_isLetter_0 : decode prog_14_method_5_code 0 = .ok (.iload_n 0, 1) := by decide +kernel
theorem d_Mo_isLetter_1 : decode prog_14_method_5_code 1 = .ok (.bipush 97, 2) := by decide +kernel
theorem d_Mo_isLetter_3 : decode prog_14_method_5_code 3 = .ok (.if_icmp .lt 9, 3) := by decide +kernel
theorem d_Mo_isLetter_6 : decode prog_14_method_5_code 6 = .ok (.iload_n 0, 1) := by decide +kernel
theorem d_Mo_isLetter_7 : decode prog_14_method_5_code 7 = .ok (.bipush 122, 2) := by decide +kernel
theorem d_Mo_isLetter_9 : decode prog_14_method_5_code 9 = .ok (.if_icmp .le 21, 3) := by decide +kernel
theorem d_Mo_isLetter_12 : decode prog_14_method_5_code 12 = .ok (.iload_n 0, 1) := by decide +kernel
theorem d_Mo_isLetter_13 : decode prog_14_method_5_code 13 = .ok (.bipush 65, 2) := by decide +kernel
theorem d_Mo_isLetter_15 : decode prog_14_method_5_code 15 = .ok (.if_icmp .lt 9, 3) := by decide +kernel
theorem d_Mo_isLetter_18 : decode prog_14_method_5_code 18 = .ok (.iload_n 0, 1) := by decide +kernel
theorem d_Mo_isLetter_19 : decode prog_14_method_5_code 19 = .ok (.bipush 90, 2) := by decide +kernel
theorem d_Mo_isLetter_21 : decode prog_14_method_5_code 21 = .ok (.if_icmp .le 9, 3) := by decide +kernel
theorem d_Mo_isLetter_24 : decode prog_14_method_5_code 24 = .ok (.iload_n 0, 1) := by decide +kernel
theorem d_Mo_isLetter_25 : decode prog_14_method_5_code 25 = .ok (.bipush 95, 2) := by decide +kernel
theorem d_Mo_isLetter_27 : decode prog_14_method_5_code 27 = .ok (.if_icmp .ne 7, 3) := by decide +kernel
theorem d_Mo_isLetter_30 : decode prog_14_method_5_code 30 = .ok (.iconst 1, 1) := by decide +kernel
theorem d_Mo_isLetter_31 : decode prog_14_method_5_code 31 = .ok (.goto 4, 3) := by decide +kernel
theorem d_Mo_isLetter_34 : decode prog_14_method_5_code 34 = .ok (.iconst 0, 1) := by decide +kernel
theorem d_Mo_isLetter_35 : decode prog_14_method_5_code 35 = .ok (.ireturn, 1) := by decide +kernel
abbrev m_Mo_isIn : cx_M := (⟨"CircuitTextModel", "isIn", "(I)Z"⟩, prog_14_method_6_code, 1, (Option.some Jvm.ClassFile.FieldType.boolean), [], [false])
theorem w_Mo_isIn : cx_W m_Mo_isIn := ⟨Or.inl ⟨(in_7 (List.mem_of_getElem? (i := 65) rfl)), rfl⟩, by decide +kernel, by decide, by decide, by decide +kernel⟩
theorem n_Mo_isIn : (parseMethodDescriptor m_Mo_isIn.1.desc).map (fun d => d.parameters.length) = some 1 := by decide +kernel
theorem d_Mo_isIn_0 : decode prog_14_method_6_code 0 = .ok (.iload_n 0, 1) := by decide +kernel
theorem d_Mo_isIn_1 : decode prog_14_method_6_code 1 = .ok (.invokestatic 129, 3) := by decide +kernel
theorem d_Mo_isIn_4 : decode prog_14_method_6_code 4 = .ok (.ifCond .ne 16, 3) := by decide +kernel
theorem d_Mo_isIn_7 : decode prog_14_method_6_code 7 = .ok (.iload_n 0, 1) := by decide +kernel
theorem d_Mo_isIn_8 : decode prog_14_method_6_code 8 = .ok (.invokestatic 133, 3) := by decide +kernel
theorem d_Mo_isIn_11 : decode prog_14_method_6_code 11 = .ok (.ifCond .ne 9, 3) := by decide +kernel
theorem d_Mo_isIn_14 : decode prog_14_method_6_code 14 = .ok (.iload_n 0, 1) := by decide +kernel
theorem d_Mo_isIn_15 : decode prog_14_method_6_code 15 = .ok (.bipush 36, 2) := by decide +kernel
theorem d_Mo_isIn_17 : decode prog_14_method_6_code 17 = .ok (.if_icmp .ne 7, 3) := by decide +kernel
theorem d_Mo_isIn_20 : decode prog_14_method_6_code 20 = .ok (.iconst 1, 1) := by decide +kernel
theorem d_Mo_isIn_21 : decode prog_14_method_6_code 21 = .ok (.goto 4, 3) := by decide +kernel
theorem d_Mo_isIn_24 : decode prog_14_method_6_code 24 = .ok (.iconst 0, 1) := by decide +kernel
theorem d_Mo_isIn_25 : decode prog_14_method_6_code 25 = .ok (.ireturn, 1) := by decide +kernel
abbrev m_Mo_isDigit : cx_M := (⟨"CircuitTextModel", "isDigit", "(I)Z"⟩, prog_14_method_4_code, 1, (Option.some Jvm.ClassFile.FieldType.boolean), [], [false])
theorem w_Mo_isDigit : cx_W m_Mo_isDigit := ⟨Or.inl ⟨(in_7 (List.mem_of_getElem? (i := 68) rfl)), rfl⟩, by decide +kernel, by decide, by decide, by decide +kernel⟩
theorem n_Mo_isDigit : (parseMethodDescriptor m_Mo_isDigit.1.desc).map (fun d => d.parameters.length) = some 1 := by decide +kernel
theorem d_Mo_isDigit_0 : decode prog_14_method_4_code 0 = .ok (.iload_n 0, 1) := by decide +kernel
theorem d_Mo_isDigit_1 : decode prog_14_method_4_code 1 = .ok (.bipush 48, 2) := by decide +kernel
theorem d_Mo_isDigit_3 : decode prog_14_method_4_code 3 = .ok (.if_icmp .lt 13, 3) := by decide +kernel
theorem d_Mo_isDigit_6 : decode prog_14_method_4_code 6 = .ok (.iload_n 0, 1) := by decide +kernel
theorem d_Mo_isDigit_7 : decode prog_14_method_4_code 7 = .ok (.bipush 57, 2) := by decide +kernel
theorem d_Mo_isDigit_9 : decode prog_14_method_4_code 9 = .ok (.if_icmp .gt 7, 3) := by decide +kernel
theorem d_Mo_isDigit_12 : decode prog_14_method_4_code 12 = .ok (.iconst 1, 1) := by decide +kernel
theorem d_Mo_isDigit_13 : decode prog_14_method_4_code 13 = .ok (.goto 4, 3) := by decide +kernel
theorem d_Mo_isDigit_16 : decode prog_14_method_4_code 16 = .ok (.iconst 0, 1) := by decide +kernel
theorem d_Mo_isDigit_17 : decode prog_14_method_4_code 17 = .ok (.ireturn, 1) := by decide +kernel
abbrev m_Mo_wordKind : cx_M := (⟨"CircuitTextModel", "wordKind", "(II)I"⟩, prog_14_method_8_code, 7, (Option.some Jvm.ClassFile.FieldType.int), [], [false, false, false])
theorem w_Mo_wordKind : cx_W m_Mo_wordKind := ⟨Or.inl ⟨(in_7 (List.mem_of_getElem? (i := 72) rfl)), rfl⟩, by decide +kernel, by decide, by decide, by decide +kernel⟩
theorem n_Mo_wordKind : (parseMethodDescriptor m_Mo_wordKind.1.desc).map (fun d => d.parameters.length) = some 2 := by decide +kernel
theorem d_Mo_wordKind_0 : decode prog_14_method_8_code 0 = .ok (.iconst 0, 1) := by decide +kernel
theorem d_Mo_wordKind_1 : decode prog_14_method_8_code 1 = .ok (.istore_n 3, 1) := by decide +kernel
theorem d_Mo_wordKind_2 : decode prog_14_method_8_code 2 = .ok (.iconst 0, 1) := by decide +kernel
theorem d_Mo_wordKind_3 : decode prog_14_method_8_code 3 = .ok (.istore 4, 2) := by decide +kernel
theorem d_Mo_wordKind_5 : decode prog_14_method_8_code 5 = .ok (.iload_n 3, 1) := by decide +kernel
theorem d_Mo_wordKind_6 : decode prog_14_method_8_code 6 = .ok (.getstatic 140, 3) := by decide +kernel
theorem d_Mo_wordKind_9 : decode prog_14_method_8_code 9 = .ok (.arraylength, 1) := by decide +kernel
theorem d_Mo_wordKind_10 : decode prog_14_method_8_code 10 = .ok (.if_icmp .ge 100, 3) := by decide +kernel
theorem d_Mo_wordKind_13 : decode prog_14_method_8_code 13 = .ok (.iconst 0, 1) := by decide +kernel
theorem d_Mo_wordKind_14 : decode prog_14_method_8_code 14 = .ok (.istore 5, 2) := by decide +kernel
theorem d_Mo_wordKind_16 : decode prog_14_method_8_code 16 = .ok (.iconst 1, 1) := by decide +kernel
theorem d_Mo_wordKind_17 : decode prog_14_method_8_code 17 = .ok (.istore 6, 2) := by decide +kernel
theorem d_Mo_wordKind_19 : decode prog_14_method_8_code 19 = .ok (.getstatic 140, 3) := by decide +kernel
theorem d_Mo_wordKind_22 : decode prog_14_method_8_code 22 = .ok (.iload_n 3, 1) := by decide +kernel
theorem d_Mo_wordKind_23 : decode prog_14_method_8_code 23 = .ok (.iload 5, 2) := by decide +kernel
theorem d_Mo_wordKind_25 : decode prog_14_method_8_code 25 = .ok (.iadd, 1) := by decide +kernel
theorem d_Mo_wordKind_26 : decode prog_14_method_8_code 26 = .ok (.baload, 1) := by decide +kernel
theorem d_Mo_wordKind_27 : decode prog_14_method_8_code 27 = .ok (.bipush 32, 2) := by decide +kernel
theorem d_Mo_wordKind_29 : decode prog_14_method_8_code 29 = .ok (.if_icmp .eq 48, 3) := by decide +kernel
theorem d_Mo_wordKind_32 : decode prog_14_method_8_code 32 = .ok (.iload 6, 2) := by decide +kernel
theorem d_Mo_wordKind_34 : decode prog_14_method_8_code 34 = .ok (.ifCond .eq 34, 3) := by decide +kernel
theorem d_Mo_wordKind_37 : decode prog_14_method_8_code 37 = .ok (.iload_n 1, 1) := by decide +kernel
theorem d_Mo_wordKind_38 : decode prog_14_method_8_code 38 = .ok (.iload 5, 2) := by decide +kernel
theorem d_Mo_wordKind_40 : decode prog_14_method_8_code 40 = .ok (.iadd, 1) := by decide +kernel
theorem d_Mo_wordKind_41 : decode prog_14_method_8_code 41 = .ok (.iload_n 2, 1) := by decide +kernel
theorem d_Mo_wordKind_42 : decode prog_14_method_8_code 42 = .ok (.if_icmp .ge 26, 3) := by decide +kernel
theorem d_Mo_wordKind_45 : decode prog_14_method_8_code 45 = .ok (.aload_n 0, 1) := by decide +kernel
theorem d_Mo_wordKind_46 : decode prog_14_method_8_code 46 = .ok (.iload_n 1, 1) := by decide +kernel
theorem d_Mo_wordKind_47 : decode prog_14_method_8_code 47 = .ok (.iload 5, 2) := by decide +kernel
theorem d_Mo_wordKind_49 : decode prog_14_method_8_code 49 = .ok (.iadd, 1) := by decide +kernel
theorem d_Mo_wordKind_50 : decode prog_14_method_8_code 50 = .ok (.invokevirtual 136, 3) := by decide +kernel
theorem d_Mo_wordKind_53 : decode prog_14_method_8_code 53 = .ok (.getstatic 140, 3) := by decide +kernel
theorem d_Mo_wordKind_56 : decode prog_14_method_8_code 56 = .ok (.iload_n 3, 1) := by decide +kernel
theorem d_Mo_wordKind_57 : decode prog_14_method_8_code 57 = .ok (.iload 5, 2) := by decide +kernel
theorem d_Mo_wordKind_59 : decode prog_14_method_8_code 59 = .ok (.iadd, 1) := by decide +kernel
theorem d_Mo_wordKind_60 : decode prog_14_method_8_code 60 = .ok (.baload, 1) := by decide +kernel
theorem d_Mo_wordKind_61 : decode prog_14_method_8_code 61 = .ok (.if_icmp .ne 7, 3) := by decide +kernel
theorem d_Mo_wordKind_64 : decode prog_14_method_8_code 64 = .ok (.iconst 1, 1) := by decide +kernel
theorem d_Mo_wordKind_65 : decode prog_14_method_8_code 65 = .ok (.goto 4, 3) := by decide +kernel
theorem d_Mo_wordKind_68 : decode prog_14_method_8_code 68 = .ok (.iconst 0, 1) := by decide +kernel
theorem d_Mo_wordKind_69 : decode prog_14_method_8_code 69 = .ok (.istore 6, 2) := by decide +kernel
theorem d_Mo_wordKind_71 : decode prog_14_method_8_code 71 = .ok (.iinc 5 1, 3) := by decide +kernel
theorem d_Mo_wordKind_74 : decode prog_14_method_8_code 74 = .ok (.goto (-55), 3) := by decide +kernel
theorem d_Mo_wordKind_77 : decode prog_14_method_8_code 77 = .ok (.iload 6, 2) := by decide +kernel
theorem d_Mo_wordKind_79 : decode prog_14_method_8_code 79 = .ok (.ifCond .eq 18, 3) := by decide +kernel
theorem d_Mo_wordKind_82 : decode prog_14_method_8_code 82 = .ok (.iload 5, 2) := by decide +kernel
theorem d_Mo_wordKind_84 : decode prog_14_method_8_code 84 = .ok (.iload_n 2, 1) := by decide +kernel
theorem d_Mo_wordKind_85 : decode prog_14_method_8_code 85 = .ok (.iload_n 1, 1) := by decide +kernel
theorem d_Mo_wordKind_86 : decode prog_14_method_8_code 86 = .ok (.isub, 1) := by decide +kernel
theorem d_Mo_wordKind_87 : decode prog_14_method_8_code 87 = .ok (.if_icmp .ne 10, 3) := by decide +kernel
theorem d_Mo_wordKind_90 : decode prog_14_method_8_code 90 = .ok (.sipush 300, 3) := by decide +kernel
theorem d_Mo_wordKind_93 : decode prog_14_method_8_code 93 = .ok (.iload 4, 2) := by decide +kernel
theorem d_Mo_wordKind_95 : decode prog_14_method_8_code 95 = .ok (.iadd, 1) := by decide +kernel
theorem d_Mo_wordKind_96 : decode prog_14_method_8_code 96 = .ok (.ireturn, 1) := by decide +kernel
theorem d_Mo_wordKind_97 : decode prog_14_method_8_code 97 = .ok (.iload_n 3, 1) := by decide +kernel
theorem d_Mo_wordKind_98 : decode prog_14_method_8_code 98 = .ok (.iload 5, 2) := by decide +kernel
theorem d_Mo_wordKind_100 : decode prog_14_method_8_code 100 = .ok (.iadd, 1) := by decide +kernel
theorem d_Mo_wordKind_101 : decode prog_14_method_8_code 101 = .ok (.iconst 1, 1) := by decide +kernel
theorem d_Mo_wordKind_102 : decode prog_14_method_8_code 102 = .ok (.iadd, 1) := by decide +kernel
theorem d_Mo_wordKind_103 : decode prog_14_method_8_code 103 = .ok (.istore_n 3, 1) := by decide +kernel
theorem d_Mo_wordKind_104 : decode prog_14_method_8_code 104 = .ok (.iinc 4 1, 3) := by decide +kernel
theorem d_Mo_wordKind_107 : decode prog_14_method_8_code 107 = .ok (.goto (-102), 3) := by decide +kernel
theorem d_Mo_wordKind_110 : decode prog_14_method_8_code 110 = .ok (.sipush 400, 3) := by decide +kernel
theorem d_Mo_wordKind_113 : decode prog_14_method_8_code 113 = .ok (.ireturn, 1) := by decide +kernel
abbrev m_Mo_numberEnd : cx_M := (⟨"CircuitTextModel", "numberEnd", "(I)I"⟩, prog_14_method_12_code, 3, (Option.some Jvm.ClassFile.FieldType.int), [], [false, false])
theorem w_Mo_numberEnd : cx_W m_Mo_numberEnd := ⟨Or.inl ⟨(in_7 (List.mem_of_getElem? (i := 78) rfl)), rfl⟩, by decide +kernel, by decide, by decide, by decide +kernel⟩
theorem n_Mo_numberEnd : (parseMethodDescriptor m_Mo_numberEnd.1.desc).map (fun d => d.parameters.length) = some 1 := by decide +kernel
theorem d_Mo_numberEnd_0 : decode prog_14_method_12_code 0 = .ok (.iload_n 1, 1) := by decide +kernel
theorem d_Mo_numberEnd_1 : decode prog_14_method_12_code 1 = .ok (.istore_n 2, 1) := by decide +kernel
theorem d_Mo_numberEnd_2 : decode prog_14_method_12_code 2 = .ok (.aload_n 0, 1) := by decide +kernel
theorem d_Mo_numberEnd_3 : decode prog_14_method_12_code 3 = .ok (.iload_n 2, 1) := by decide +kernel
theorem d_Mo_numberEnd_4 : decode prog_14_method_12_code 4 = .ok (.invokevirtual 136, 3) := by decide +kernel
theorem d_Mo_numberEnd_7 : decode prog_14_method_12_code 7 = .ok (.invokestatic 133, 3) := by decide +kernel
theorem d_Mo_numberEnd_10 : decode prog_14_method_12_code 10 = .ok (.ifCond .eq 9, 3) := by decide +kernel
theorem d_Mo_numberEnd_13 : decode prog_14_method_12_code 13 = .ok (.iinc 2 1, 3) := by decide +kernel
theorem d_Mo_numberEnd_16 : decode prog_14_method_12_code 16 = .ok (.goto (-14), 3) := by decide +kernel
theorem d_Mo_numberEnd_19 : decode prog_14_method_12_code 19 = .ok (.aload_n 0, 1) := by decide +kernel
theorem d_Mo_numberEnd_20 : decode prog_14_method_12_code 20 = .ok (.iload_n 2, 1) := by decide +kernel
theorem d_Mo_numberEnd_21 : decode prog_14_method_12_code 21 = .ok (.invokevirtual 136, 3) := by decide +kernel
theorem d_Mo_numberEnd_24 : decode prog_14_method_12_code 24 = .ok (.bipush 39, 2) := by decide +kernel
theorem d_Mo_numberEnd_26 : decode prog_14_method_12_code 26 = .ok (.if_icmp .ne 6, 3) := by decide +kernel
theorem d_Mo_numberEnd_29 : decode prog_14_method_12_code 29 = .ok (.iinc 2 1, 3) := by decide +kernel
theorem d_Mo_numberEnd_32 : decode prog_14_method_12_code 32 = .ok (.aload_n 0, 1) := by decide +kernel
theorem d_Mo_numberEnd_33 : decode prog_14_method_12_code 33 = .ok (.iload_n 2, 1) := by decide +kernel
theorem d_Mo_numberEnd_34 : decode prog_14_method_12_code 34 = .ok (.invokevirtual 136, 3) := by decide +kernel
theorem d_Mo_numberEnd_37 : decode prog_14_method_12_code 37 = .ok (.invokestatic 158, 3) := by decide +kernel
theorem d_Mo_numberEnd_40 : decode prog_14_method_12_code 40 = .ok (.ifCond .eq 9, 3) := by decide +kernel
theorem d_Mo_numberEnd_43 : decode prog_14_method_12_code 43 = .ok (.iinc 2 1, 3) := by decide +kernel
theorem d_Mo_numberEnd_46 : decode prog_14_method_12_code 46 = .ok (.goto (-14), 3) := by decide +kernel
theorem d_Mo_numberEnd_49 : decode prog_14_method_12_code 49 = .ok (.iload_n 2, 1) := by decide +kernel
theorem d_Mo_numberEnd_50 : decode prog_14_method_12_code 50 = .ok (.ireturn, 1) := by decide +kernel
abbrev m_Mo_numberKind : cx_M := (⟨"CircuitTextModel", "numberKind", "(II)I"⟩, prog_14_method_11_code, 11, (Option.some Jvm.ClassFile.FieldType.int), [], [false, false, false])
theorem w_Mo_numberKind : cx_W m_Mo_numberKind := ⟨Or.inl ⟨(in_7 (List.mem_of_getElem? (i := 82) rfl)), rfl⟩, by decide +kernel, by decide, by decide, by decide +kernel⟩
theorem n_Mo_numberKind : (parseMethodDescriptor m_Mo_numberKind.1.desc).map (fun d => d.parameters.length) = some 2 := by decide +kernel
theorem d_Mo_numberKind_0 : decode prog_14_method_11_code 0 = .ok (.iload_n 1, 1) := by decide +kernel
theorem d_Mo_numberKind_1 : decode prog_14_method_11_code 1 = .ok (.istore_n 3, 1) := by decide +kernel
theorem d_Mo_numberKind_2 : decode prog_14_method_11_code 2 = .ok (.iload_n 3, 1) := by decide +kernel
theorem d_Mo_numberKind_3 : decode prog_14_method_11_code 3 = .ok (.iload_n 2, 1) := by decide +kernel
theorem d_Mo_numberKind_4 : decode prog_14_method_11_code 4 = .ok (.if_icmp .ge 20, 3) := by decide +kernel
theorem d_Mo_numberKind_7 : decode prog_14_method_11_code 7 = .ok (.aload_n 0, 1) := by decide +kernel
theorem d_Mo_numberKind_8 : decode prog_14_method_11_code 8 = .ok (.iload_n 3, 1) := by decide +kernel
theorem d_Mo_numberKind_9 : decode prog_14_method_11_code 9 = .ok (.invokevirtual 136, 3) := by decide +kernel
theorem d_Mo_numberKind_12 : decode prog_14_method_11_code 12 = .ok (.invokestatic 133, 3) := by decide +kernel
theorem d_Mo_numberKind_15 : decode prog_14_method_11_code 15 = .ok (.ifCond .eq 9, 3) := by decide +kernel
theorem d_Mo_numberKind_18 : decode prog_14_method_11_code 18 = .ok (.iinc 3 1, 3) := by decide +kernel
theorem d_Mo_numberKind_21 : decode prog_14_method_11_code 21 = .ok (.goto (-19), 3) := by decide +kernel
theorem d_Mo_numberKind_24 : decode prog_14_method_11_code 24 = .ok (.aload_n 0, 1) := by decide +kernel
theorem d_Mo_numberKind_25 : decode prog_14_method_11_code 25 = .ok (.iload_n 1, 1) := by decide +kernel
theorem d_Mo_numberKind_26 : decode prog_14_method_11_code 26 = .ok (.iload_n 3, 1) := by decide +kernel
theorem d_Mo_numberKind_27 : decode prog_14_method_11_code 27 = .ok (.bipush 10, 2) := by decide +kernel
theorem d_Mo_numberKind_29 : decode prog_14_method_11_code 29 = .ok (.bipush 16, 2) := by decide +kernel
theorem d_Mo_numberKind_31 : decode prog_14_method_11_code 31 = .ok (.invokevirtual 152, 3) := by decide +kernel
theorem d_Mo_numberKind_34 : decode prog_14_method_11_code 34 = .ok (.lstore 4, 2) := by decide +kernel
theorem d_Mo_numberKind_36 : decode prog_14_method_11_code 36 = .ok (.aload_n 0, 1) := by decide +kernel
theorem d_Mo_numberKind_37 : decode prog_14_method_11_code 37 = .ok (.getfield 148, 3) := by decide +kernel
theorem d_Mo_numberKind_40 : decode prog_14_method_11_code 40 = .ok (.istore 6, 2) := by decide +kernel
theorem d_Mo_numberKind_42 : decode prog_14_method_11_code 42 = .ok (.iload_n 3, 1) := by decide +kernel
theorem d_Mo_numberKind_43 : decode prog_14_method_11_code 43 = .ok (.iload_n 2, 1) := by decide +kernel
theorem d_Mo_numberKind_44 : decode prog_14_method_11_code 44 = .ok (.if_icmp .ne 18, 3) := by decide +kernel
theorem d_Mo_numberKind_47 : decode prog_14_method_11_code 47 = .ok (.iload 6, 2) := by decide +kernel
theorem d_Mo_numberKind_49 : decode prog_14_method_11_code 49 = .ok (.ifCond .eq 9, 3) := by decide +kernel
theorem d_Mo_numberKind_52 : decode prog_14_method_11_code 52 = .ok (.sipush 401, 3) := by decide +kernel
theorem d_Mo_numberKind_55 : decode prog_14_method_11_code 55 = .ok (.goto 6, 3) := by decide +kernel
theorem d_Mo_numberKind_58 : decode prog_14_method_11_code 58 = .ok (.sipush 404, 3) := by decide +kernel
theorem d_Mo_numberKind_61 : decode prog_14_method_11_code 61 = .ok (.ireturn, 1) := by decide +kernel
theorem d_Mo_numberKind_62 : decode prog_14_method_11_code 62 = .ok (.aload_n 0, 1) := by decide +kernel
theorem d_Mo_numberKind_63 : decode prog_14_method_11_code 63 = .ok (.iload_n 3, 1) := by decide +kernel
theorem d_Mo_numberKind_64 : decode prog_14_method_11_code 64 = .ok (.invokevirtual 136, 3) := by decide +kernel
theorem d_Mo_numberKind_67 : decode prog_14_method_11_code 67 = .ok (.bipush 39, 2) := by decide +kernel
theorem d_Mo_numberKind_69 : decode prog_14_method_11_code 69 = .ok (.if_icmp .ne 31, 3) := by decide +kernel
theorem d_Mo_numberKind_72 : decode prog_14_method_11_code 72 = .ok (.iload 6, 2) := by decide +kernel
theorem d_Mo_numberKind_74 : decode prog_14_method_11_code 74 = .ok (.ifCond .eq 26, 3) := by decide +kernel
theorem d_Mo_numberKind_77 : decode prog_14_method_11_code 77 = .ok (.lload 4, 2) := by decide +kernel
theorem d_Mo_numberKind_79 : decode prog_14_method_11_code 79 = .ok (.lconst 1, 1) := by decide +kernel
theorem d_Mo_numberKind_80 : decode prog_14_method_11_code 80 = .ok (.lcmp, 1) := by decide +kernel
theorem d_Mo_numberKind_81 : decode prog_14_method_11_code 81 = .ok (.ifCond .lt 19, 3) := by decide +kernel
theorem d_Mo_numberKind_84 : decode prog_14_method_11_code 84 = .ok (.lload 4, 2) := by decide +kernel
theorem d_Mo_numberKind_86 : decode prog_14_method_11_code 86 = .ok (.ldc2_w 156, 3) := by decide +kernel
theorem d_Mo_numberKind_89 : decode prog_14_method_11_code 89 = .ok (.lcmp, 1) := by decide +kernel
theorem d_Mo_numberKind_90 : decode prog_14_method_11_code 90 = .ok (.ifCond .gt 10, 3) := by decide +kernel
theorem d_Mo_numberKind_93 : decode prog_14_method_11_code 93 = .ok (.iload_n 3, 1) := by decide +kernel
theorem d_Mo_numberKind_94 : decode prog_14_method_11_code 94 = .ok (.iconst 2, 1) := by decide +kernel
theorem d_Mo_numberKind_95 : decode prog_14_method_11_code 95 = .ok (.iadd, 1) := by decide +kernel
theorem d_Mo_numberKind_96 : decode prog_14_method_11_code 96 = .ok (.iload_n 2, 1) := by decide +kernel
theorem d_Mo_numberKind_97 : decode prog_14_method_11_code 97 = .ok (.if_icmp .lt 7, 3) := by decide +kernel
theorem d_Mo_numberKind_100 : decode prog_14_method_11_code 100 = .ok (.sipush 404, 3) := by decide +kernel
theorem d_Mo_numberKind_103 : decode prog_14_method_11_code 103 = .ok (.ireturn, 1) := by decide +kernel
theorem d_Mo_numberKind_104 : decode prog_14_method_11_code 104 = .ok (.aload_n 0, 1) := by decide +kernel
theorem d_Mo_numberKind_105 : decode prog_14_method_11_code 105 = .ok (.iload_n 3, 1) := by decide +kernel
theorem d_Mo_numberKind_106 : decode prog_14_method_11_code 106 = .ok (.iconst 1, 1) := by decide +kernel
theorem d_Mo_numberKind_107 : decode prog_14_method_11_code 107 = .ok (.iadd, 1) := by decide +kernel
theorem d_Mo_numberKind_108 : decode prog_14_method_11_code 108 = .ok (.invokevirtual 136, 3) := by decide +kernel
theorem d_Mo_numberKind_111 : decode prog_14_method_11_code 111 = .ok (.istore 7, 2) := by decide +kernel
theorem d_Mo_numberKind_113 : decode prog_14_method_11_code 113 = .ok (.iload 7, 2) := by decide +kernel
theorem d_Mo_numberKind_115 : decode prog_14_method_11_code 115 = .ok (.bipush 98, 2) := by decide +kernel
theorem d_Mo_numberKind_117 : decode prog_14_method_11_code 117 = .ok (.if_icmp .ne 7, 3) := by decide +kernel
theorem d_Mo_numberKind_120 : decode prog_14_method_11_code 120 = .ok (.iconst 2, 1) := by decide +kernel
theorem d_Mo_numberKind_121 : decode prog_14_method_11_code 121 = .ok (.goto 40, 3) := by decide +kernel
theorem d_Mo_numberKind_124 : decode prog_14_method_11_code 124 = .ok (.iload 7, 2) := by decide +kernel
theorem d_Mo_numberKind_126 : decode prog_14_method_11_code 126 = .ok (.bipush 111, 2) := by decide +kernel
theorem d_Mo_numberKind_128 : decode prog_14_method_11_code 128 = .ok (.if_icmp .ne 8, 3) := by decide +kernel
theorem d_Mo_numberKind_131 : decode prog_14_method_11_code 131 = .ok (.bipush 8, 2) := by decide +kernel
theorem d_Mo_numberKind_133 : decode prog_14_method_11_code 133 = .ok (.goto 28, 3) := by decide +kernel
theorem d_Mo_numberKind_136 : decode prog_14_method_11_code 136 = .ok (.iload 7, 2) := by decide +kernel
theorem d_Mo_numberKind_138 : decode prog_14_method_11_code 138 = .ok (.bipush 100, 2) := by decide +kernel
theorem d_Mo_numberKind_140 : decode prog_14_method_11_code 140 = .ok (.if_icmp .ne 8, 3) := by decide +kernel
theorem d_Mo_numberKind_143 : decode prog_14_method_11_code 143 = .ok (.bipush 10, 2) := by decide +kernel
theorem d_Mo_numberKind_145 : decode prog_14_method_11_code 145 = .ok (.goto 16, 3) := by decide +kernel
theorem d_Mo_numberKind_148 : decode prog_14_method_11_code 148 = .ok (.iload 7, 2) := by decide +kernel
theorem d_Mo_numberKind_150 : decode prog_14_method_11_code 150 = .ok (.bipush 104, 2) := by decide +kernel
theorem d_Mo_numberKind_152 : decode prog_14_method_11_code 152 = .ok (.if_icmp .ne 8, 3) := by decide +kernel
theorem d_Mo_numberKind_155 : decode prog_14_method_11_code 155 = .ok (.bipush 16, 2) := by decide +kernel
theorem d_Mo_numberKind_157 : decode prog_14_method_11_code 157 = .ok (.goto 4, 3) := by decide +kernel
theorem d_Mo_numberKind_160 : decode prog_14_method_11_code 160 = .ok (.iconst 0, 1) := by decide +kernel
theorem d_Mo_numberKind_161 : decode prog_14_method_11_code 161 = .ok (.istore 8, 2) := by decide +kernel
theorem d_Mo_numberKind_163 : decode prog_14_method_11_code 163 = .ok (.iload 8, 2) := by decide +kernel
theorem d_Mo_numberKind_165 : decode prog_14_method_11_code 165 = .ok (.ifCond .le 7, 3) := by decide +kernel
theorem d_Mo_numberKind_168 : decode prog_14_method_11_code 168 = .ok (.iconst 1, 1) := by decide +kernel
theorem d_Mo_numberKind_169 : decode prog_14_method_11_code 169 = .ok (.goto 4, 3) := by decide +kernel
theorem d_Mo_numberKind_172 : decode prog_14_method_11_code 172 = .ok (.iconst 0, 1) := by decide +kernel
theorem d_Mo_numberKind_173 : decode prog_14_method_11_code 173 = .ok (.istore 9, 2) := by decide +kernel
theorem d_Mo_numberKind_175 : decode prog_14_method_11_code 175 = .ok (.iload_n 3, 1) := by decide +kernel
theorem d_Mo_numberKind_176 : decode prog_14_method_11_code 176 = .ok (.iconst 2, 1) := by decide +kernel
theorem d_Mo_numberKind_177 : decode prog_14_method_11_code 177 = .ok (.iadd, 1) := by decide +kernel
theorem d_Mo_numberKind_178 : decode prog_14_method_11_code 178 = .ok (.istore 10, 2) := by decide +kernel
theorem d_Mo_numberKind_180 : decode prog_14_method_11_code 180 = .ok (.iload 10, 2) := by decide +kernel
theorem d_Mo_numberKind_182 : decode prog_14_method_11_code 182 = .ok (.iload_n 2, 1) := by decide +kernel
theorem d_Mo_numberKind_183 : decode prog_14_method_11_code 183 = .ok (.if_icmp .ge 35, 3) := by decide +kernel
theorem d_Mo_numberKind_186 : decode prog_14_method_11_code 186 = .ok (.iload 9, 2) := by decide +kernel
theorem d_Mo_numberKind_188 : decode prog_14_method_11_code 188 = .ok (.ifCond .eq 30, 3) := by decide +kernel
theorem d_Mo_numberKind_191 : decode prog_14_method_11_code 191 = .ok (.aload_n 0, 1) := by decide +kernel
theorem d_Mo_numberKind_192 : decode prog_14_method_11_code 192 = .ok (.iload 10, 2) := by decide +kernel
theorem d_Mo_numberKind_194 : decode prog_14_method_11_code 194 = .ok (.invokevirtual 136, 3) := by decide +kernel
theorem d_Mo_numberKind_197 : decode prog_14_method_11_code 197 = .ok (.invokestatic 143, 3) := by decide +kernel
theorem d_Mo_numberKind_200 : decode prog_14_method_11_code 200 = .ok (.iload 8, 2) := by decide +kernel
theorem d_Mo_numberKind_202 : decode prog_14_method_11_code 202 = .ok (.if_icmp .ge 7, 3) := by decide +kernel
theorem d_Mo_numberKind_205 : decode prog_14_method_11_code 205 = .ok (.iconst 1, 1) := by decide +kernel
theorem d_Mo_numberKind_206 : decode prog_14_method_11_code 206 = .ok (.goto 4, 3) := by decide +kernel
theorem d_Mo_numberKind_209 : decode prog_14_method_11_code 209 = .ok (.iconst 0, 1) := by decide +kernel
theorem d_Mo_numberKind_210 : decode prog_14_method_11_code 210 = .ok (.istore 9, 2) := by decide +kernel
theorem d_Mo_numberKind_212 : decode prog_14_method_11_code 212 = .ok (.iinc 10 1, 3) := by decide +kernel
theorem d_Mo_numberKind_215 : decode prog_14_method_11_code 215 = .ok (.goto (-35), 3) := by decide +kernel
theorem d_Mo_numberKind_218 : decode prog_14_method_11_code 218 = .ok (.iload 9, 2) := by decide +kernel
theorem d_Mo_numberKind_220 : decode prog_14_method_11_code 220 = .ok (.ifCond .eq 17, 3) := by decide +kernel
theorem d_Mo_numberKind_223 : decode prog_14_method_11_code 223 = .ok (.aload_n 0, 1) := by decide +kernel
theorem d_Mo_numberKind_224 : decode prog_14_method_11_code 224 = .ok (.iload_n 3, 1) := by decide +kernel
theorem d_Mo_numberKind_225 : decode prog_14_method_11_code 225 = .ok (.iconst 2, 1) := by decide +kernel
theorem d_Mo_numberKind_226 : decode prog_14_method_11_code 226 = .ok (.iadd, 1) := by decide +kernel
theorem d_Mo_numberKind_227 : decode prog_14_method_11_code 227 = .ok (.iload_n 2, 1) := by decide +kernel
theorem d_Mo_numberKind_228 : decode prog_14_method_11_code 228 = .ok (.iload 8, 2) := by decide +kernel
theorem d_Mo_numberKind_230 : decode prog_14_method_11_code 230 = .ok (.lload 4, 2) := by decide +kernel
theorem d_Mo_numberKind_232 : decode prog_14_method_11_code 232 = .ok (.l2i, 1) := by decide +kernel
theorem d_Mo_numberKind_233 : decode prog_14_method_11_code 233 = .ok (.invokevirtual 152, 3) := by decide +kernel
theorem d_Mo_numberKind_236 : decode prog_14_method_11_code 236 = .ok (.pop2, 1) := by decide +kernel
theorem d_Mo_numberKind_237 : decode prog_14_method_11_code 237 = .ok (.iload 9, 2) := by decide +kernel
theorem d_Mo_numberKind_239 : decode prog_14_method_11_code 239 = .ok (.ifCond .eq 16, 3) := by decide +kernel
theorem d_Mo_numberKind_242 : decode prog_14_method_11_code 242 = .ok (.aload_n 0, 1) := by decide +kernel
theorem d_Mo_numberKind_243 : decode prog_14_method_11_code 243 = .ok (.getfield 148, 3) := by decide +kernel
theorem d_Mo_numberKind_246 : decode prog_14_method_11_code 246 = .ok (.ifCond .eq 9, 3) := by decide +kernel
theorem d_Mo_numberKind_249 : decode prog_14_method_11_code 249 = .ok (.sipush 402, 3) := by decide +kernel
theorem d_Mo_numberKind_252 : decode prog_14_method_11_code 252 = .ok (.goto 6, 3) := by decide +kernel
theorem d_Mo_numberKind_255 : decode prog_14_method_11_code 255 = .ok (.sipush 404, 3) := by decide +kernel
theorem d_Mo_numberKind_258 : decode prog_14_method_11_code 258 = .ok (.ireturn, 1) := by decide +kernel
theorem f_Mo_148 : cx_F "CircuitTextModel" 148 12 57 (.boolean) false := ⟨_, F_Mo, 58, t_Mo, k_Mo, by decide, rfl, rfl, Or.inl (in_6 (List.mem_of_getElem? (i := 152) rfl))⟩
abbrev m_Mo_read2 : cx_M := (⟨"CircuitTextModel", "read", "(IIII)J"⟩, prog_14_method_10_code, 11, (Option.some Jvm.ClassFile.FieldType.long), [], [false, false, false, false, false])
theorem w_Mo_read2 : cx_W m_Mo_read2 := ⟨Or.inl ⟨(in_7 (List.mem_of_getElem? (i := 86) rfl)), rfl⟩, by decide +kernel, by decide, by decide, by decide +kernel⟩
theorem n_Mo_read2 : (parseMethodDescriptor m_Mo_read2.1.desc).map (fun d => d.parameters.length) = some 4 := by decide +kernel
theorem d_Mo_read2_0 : decode prog_14_method_10_code 0 = .ok (.lconst 0, 1) := by decide +kernel
theorem d_Mo_read2_1 : decode prog_14_method_10_code 1 = .ok (.lstore 5, 2) := by decide +kernel
theorem d_Mo_read2_3 : decode prog_14_method_10_code 3 = .ok (.lconst 0, 1) := by decide +kernel
theorem d_Mo_read2_4 : decode prog_14_method_10_code 4 = .ok (.lstore 7, 2) := by decide +kernel
theorem d_Mo_read2_6 : decode prog_14_method_10_code 6 = .ok (.iconst 0, 1) := by decide +kernel
theorem d_Mo_read2_7 : decode prog_14_method_10_code 7 = .ok (.istore 9, 2) := by decide +kernel
theorem d_Mo_read2_9 : decode prog_14_method_10_code 9 = .ok (.iload_n 1, 1) := by decide +kernel
theorem d_Mo_read2_10 : decode prog_14_method_10_code 10 = .ok (.istore 10, 2) := by decide +kernel
theorem d_Mo_read2_12 : decode prog_14_method_10_code 12 = .ok (.iload 10, 2) := by decide +kernel
theorem d_Mo_read2_14 : decode prog_14_method_10_code 14 = .ok (.iload_n 2, 1) := by decide +kernel
theorem d_Mo_read2_15 : decode prog_14_method_10_code 15 = .ok (.if_icmp .ge 77, 3) := by decide +kernel
theorem d_Mo_read2_18 : decode prog_14_method_10_code 18 = .ok (.lload 7, 2) := by decide +kernel
theorem d_Mo_read2_20 : decode prog_14_method_10_code 20 = .ok (.iload_n 3, 1) := by decide +kernel
theorem d_Mo_read2_21 : decode prog_14_method_10_code 21 = .ok (.i2l, 1) := by decide +kernel
theorem d_Mo_read2_22 : decode prog_14_method_10_code 22 = .ok (.lmul, 1) := by decide +kernel
theorem d_Mo_read2_23 : decode prog_14_method_10_code 23 = .ok (.aload_n 0, 1) := by decide +kernel
theorem d_Mo_read2_24 : decode prog_14_method_10_code 24 = .ok (.iload 10, 2) := by decide +kernel
theorem d_Mo_read2_26 : decode prog_14_method_10_code 26 = .ok (.invokevirtual 136, 3) := by decide +kernel
theorem d_Mo_read2_29 : decode prog_14_method_10_code 29 = .ok (.invokestatic 143, 3) := by decide +kernel
theorem d_Mo_read2_32 : decode prog_14_method_10_code 32 = .ok (.i2l, 1) := by decide +kernel
theorem d_Mo_read2_33 : decode prog_14_method_10_code 33 = .ok (.ladd, 1) := by decide +kernel
theorem d_Mo_read2_34 : decode prog_14_method_10_code 34 = .ok (.lstore 7, 2) := by decide +kernel
theorem d_Mo_read2_36 : decode prog_14_method_10_code 36 = .ok (.lload 5, 2) := by decide +kernel
theorem d_Mo_read2_38 : decode prog_14_method_10_code 38 = .ok (.iload_n 3, 1) := by decide +kernel
theorem d_Mo_read2_39 : decode prog_14_method_10_code 39 = .ok (.i2l, 1) := by decide +kernel
theorem d_Mo_read2_40 : decode prog_14_method_10_code 40 = .ok (.lmul, 1) := by decide +kernel
theorem d_Mo_read2_41 : decode prog_14_method_10_code 41 = .ok (.lload 7, 2) := by decide +kernel
theorem d_Mo_read2_43 : decode prog_14_method_10_code 43 = .ok (.bipush 32, 2) := by decide +kernel
theorem d_Mo_read2_45 : decode prog_14_method_10_code 45 = .ok (.lshr, 1) := by decide +kernel
theorem d_Mo_read2_46 : decode prog_14_method_10_code 46 = .ok (.ladd, 1) := by decide +kernel
theorem d_Mo_read2_47 : decode prog_14_method_10_code 47 = .ok (.lstore 5, 2) := by decide +kernel
theorem d_Mo_read2_49 : decode prog_14_method_10_code 49 = .ok (.lload 7, 2) := by decide +kernel
theorem d_Mo_read2_51 : decode prog_14_method_10_code 51 = .ok (.ldc2_w 146, 3) := by decide +kernel
theorem d_Mo_read2_54 : decode prog_14_method_10_code 54 = .ok (.land, 1) := by decide +kernel
theorem d_Mo_read2_55 : decode prog_14_method_10_code 55 = .ok (.lstore 7, 2) := by decide +kernel
theorem d_Mo_read2_57 : decode prog_14_method_10_code 57 = .ok (.iload 9, 2) := by decide +kernel
theorem d_Mo_read2_59 : decode prog_14_method_10_code 59 = .ok (.ifCond .ne 12, 3) := by decide +kernel
theorem d_Mo_read2_62 : decode prog_14_method_10_code 62 = .ok (.lload 5, 2) := by decide +kernel
theorem d_Mo_read2_64 : decode prog_14_method_10_code 64 = .ok (.ldc2_w 146, 3) := by decide +kernel
theorem d_Mo_read2_67 : decode prog_14_method_10_code 67 = .ok (.lcmp, 1) := by decide +kernel
theorem d_Mo_read2_68 : decode prog_14_method_10_code 68 = .ok (.ifCond .le 7, 3) := by decide +kernel
theorem d_Mo_read2_71 : decode prog_14_method_10_code 71 = .ok (.iconst 1, 1) := by decide +kernel
theorem d_Mo_read2_72 : decode prog_14_method_10_code 72 = .ok (.goto 4, 3) := by decide +kernel
theorem d_Mo_read2_75 : decode prog_14_method_10_code 75 = .ok (.iconst 0, 1) := by decide +kernel
theorem d_Mo_read2_76 : decode prog_14_method_10_code 76 = .ok (.istore 9, 2) := by decide +kernel
theorem d_Mo_read2_78 : decode prog_14_method_10_code 78 = .ok (.lload 5, 2) := by decide +kernel
theorem d_Mo_read2_80 : decode prog_14_method_10_code 80 = .ok (.ldc2_w 146, 3) := by decide +kernel
theorem d_Mo_read2_83 : decode prog_14_method_10_code 83 = .ok (.land, 1) := by decide +kernel
theorem d_Mo_read2_84 : decode prog_14_method_10_code 84 = .ok (.lstore 5, 2) := by decide +kernel
theorem d_Mo_read2_86 : decode prog_14_method_10_code 86 = .ok (.iinc 10 1, 3) := by decide +kernel
theorem d_Mo_read2_89 : decode prog_14_method_10_code 89 = .ok (.goto (-77), 3) := by decide +kernel
theorem d_Mo_read2_92 : decode prog_14_method_10_code 92 = .ok (.iload 9, 2) := by decide +kernel
theorem d_Mo_read2_94 : decode prog_14_method_10_code 94 = .ok (.ifCond .ne 54, 3) := by decide +kernel
theorem d_Mo_read2_97 : decode prog_14_method_10_code 97 = .ok (.iload 4, 2) := by decide +kernel
theorem d_Mo_read2_99 : decode prog_14_method_10_code 99 = .ok (.bipush 64, 2) := by decide +kernel
theorem d_Mo_read2_101 : decode prog_14_method_10_code 101 = .ok (.if_icmp .ge 43, 3) := by decide +kernel
theorem d_Mo_read2_104 : decode prog_14_method_10_code 104 = .ok (.iload 4, 2) := by decide +kernel
theorem d_Mo_read2_106 : decode prog_14_method_10_code 106 = .ok (.bipush 32, 2) := by decide +kernel
theorem d_Mo_read2_108 : decode prog_14_method_10_code 108 = .ok (.if_icmp .lt 19, 3) := by decide +kernel
theorem d_Mo_read2_111 : decode prog_14_method_10_code 111 = .ok (.lload 5, 2) := by decide +kernel
theorem d_Mo_read2_113 : decode prog_14_method_10_code 113 = .ok (.iload 4, 2) := by decide +kernel
theorem d_Mo_read2_115 : decode prog_14_method_10_code 115 = .ok (.bipush 32, 2) := by decide +kernel
theorem d_Mo_read2_117 : decode prog_14_method_10_code 117 = .ok (.isub, 1) := by decide +kernel
theorem d_Mo_read2_118 : decode prog_14_method_10_code 118 = .ok (.lshr, 1) := by decide +kernel
theorem d_Mo_read2_119 : decode prog_14_method_10_code 119 = .ok (.lconst 0, 1) := by decide +kernel
theorem d_Mo_read2_120 : decode prog_14_method_10_code 120 = .ok (.lcmp, 1) := by decide +kernel
theorem d_Mo_read2_121 : decode prog_14_method_10_code 121 = .ok (.ifCond .ne 27, 3) := by decide +kernel
theorem d_Mo_read2_124 : decode prog_14_method_10_code 124 = .ok (.goto 20, 3) := by decide +kernel
theorem d_Mo_read2_127 : decode prog_14_method_10_code 127 = .ok (.lload 5, 2) := by decide +kernel
theorem d_Mo_read2_129 : decode prog_14_method_10_code 129 = .ok (.lconst 0, 1) := by decide +kernel
theorem d_Mo_read2_130 : decode prog_14_method_10_code 130 = .ok (.lcmp, 1) := by decide +kernel
theorem d_Mo_read2_131 : decode prog_14_method_10_code 131 = .ok (.ifCond .ne 17, 3) := by decide +kernel
theorem d_Mo_read2_134 : decode prog_14_method_10_code 134 = .ok (.lload 7, 2) := by decide +kernel
theorem d_Mo_read2_136 : decode prog_14_method_10_code 136 = .ok (.iload 4, 2) := by decide +kernel
theorem d_Mo_read2_138 : decode prog_14_method_10_code 138 = .ok (.lshr, 1) := by decide +kernel
theorem d_Mo_read2_139 : decode prog_14_method_10_code 139 = .ok (.lconst 0, 1) := by decide +kernel
theorem d_Mo_read2_140 : decode prog_14_method_10_code 140 = .ok (.lcmp, 1) := by decide +kernel
theorem d_Mo_read2_141 : decode prog_14_method_10_code 141 = .ok (.ifCond .ne 7, 3) := by decide +kernel
theorem d_Mo_read2_144 : decode prog_14_method_10_code 144 = .ok (.iconst 1, 1) := by decide +kernel
theorem d_Mo_read2_145 : decode prog_14_method_10_code 145 = .ok (.goto 4, 3) := by decide +kernel
theorem d_Mo_read2_148 : decode prog_14_method_10_code 148 = .ok (.iconst 0, 1) := by decide +kernel
theorem d_Mo_read2_149 : decode prog_14_method_10_code 149 = .ok (.istore 10, 2) := by decide +kernel
theorem d_Mo_read2_151 : decode prog_14_method_10_code 151 = .ok (.aload_n 0, 1) := by decide +kernel
theorem d_Mo_read2_152 : decode prog_14_method_10_code 152 = .ok (.iload 10, 2) := by decide +kernel
theorem d_Mo_read2_154 : decode prog_14_method_10_code 154 = .ok (.putfield 148, 3) := by decide +kernel
theorem d_Mo_read2_157 : decode prog_14_method_10_code 157 = .ok (.lload 5, 2) := by decide +kernel
theorem d_Mo_read2_159 : decode prog_14_method_10_code 159 = .ok (.bipush 32, 2) := by decide +kernel
theorem d_Mo_read2_161 : decode prog_14_method_10_code 161 = .ok (.lshl, 1) := by decide +kernel
theorem d_Mo_read2_162 : decode prog_14_method_10_code 162 = .ok (.lload 7, 2) := by decide +kernel
theorem d_Mo_read2_164 : decode prog_14_method_10_code 164 = .ok (.lor, 1) := by decide +kernel
theorem d_Mo_read2_165 : decode prog_14_method_10_code 165 = .ok (.lreturn, 1) := by decide +kernel
abbrev m_Mo_digit : cx_M := (⟨"CircuitTextModel", "digit", "(I)I"⟩, prog_14_method_9_code, 1, (Option.some Jvm.ClassFile.FieldType.int), [], [false])
theorem w_Mo_digit : cx_W m_Mo_digit := ⟨Or.inl ⟨(in_7 (List.mem_of_getElem? (i := 89) rfl)), rfl⟩, by decide +kernel, by decide, by decide, by decide +kernel⟩
theorem n_Mo_digit : (parseMethodDescriptor m_Mo_digit.1.desc).map (fun d => d.parameters.length) = some 1 := by decide +kernel
theorem d_Mo_digit_0 : decode prog_14_method_9_code 0 = .ok (.iload_n 0, 1) := by decide +kernel
theorem d_Mo_digit_1 : decode prog_14_method_9_code 1 = .ok (.invokestatic 133, 3) := by decide +kernel
theorem d_Mo_digit_4 : decode prog_14_method_9_code 4 = .ok (.ifCond .eq 10, 3) := by decide +kernel
theorem d_Mo_digit_7 : decode prog_14_method_9_code 7 = .ok (.iload_n 0, 1) := by decide +kernel
theorem d_Mo_digit_8 : decode prog_14_method_9_code 8 = .ok (.bipush 48, 2) := by decide +kernel
theorem d_Mo_digit_10 : decode prog_14_method_9_code 10 = .ok (.isub, 1) := by decide +kernel
theorem d_Mo_digit_11 : decode prog_14_method_9_code 11 = .ok (.goto 49, 3) := by decide +kernel
theorem d_Mo_digit_14 : decode prog_14_method_9_code 14 = .ok (.iload_n 0, 1) := by decide +kernel
theorem d_Mo_digit_15 : decode prog_14_method_9_code 15 = .ok (.bipush 97, 2) := by decide +kernel
theorem d_Mo_digit_17 : decode prog_14_method_9_code 17 = .ok (.if_icmp .lt 19, 3) := by decide +kernel
theorem d_Mo_digit_20 : decode prog_14_method_9_code 20 = .ok (.iload_n 0, 1) := by decide +kernel
theorem d_Mo_digit_21 : decode prog_14_method_9_code 21 = .ok (.bipush 102, 2) := by decide +kernel
theorem d_Mo_digit_23 : decode prog_14_method_9_code 23 = .ok (.if_icmp .gt 13, 3) := by decide +kernel
theorem d_Mo_digit_26 : decode prog_14_method_9_code 26 = .ok (.iload_n 0, 1) := by decide +kernel
theorem d_Mo_digit_27 : decode prog_14_method_9_code 27 = .ok (.bipush 97, 2) := by decide +kernel
theorem d_Mo_digit_29 : decode prog_14_method_9_code 29 = .ok (.isub, 1) := by decide +kernel
theorem d_Mo_digit_30 : decode prog_14_method_9_code 30 = .ok (.bipush 10, 2) := by decide +kernel
theorem d_Mo_digit_32 : decode prog_14_method_9_code 32 = .ok (.iadd, 1) := by decide +kernel
theorem d_Mo_digit_33 : decode prog_14_method_9_code 33 = .ok (.goto 27, 3) := by decide +kernel
theorem d_Mo_digit_36 : decode prog_14_method_9_code 36 = .ok (.iload_n 0, 1) := by decide +kernel
theorem d_Mo_digit_37 : decode prog_14_method_9_code 37 = .ok (.bipush 65, 2) := by decide +kernel
theorem d_Mo_digit_39 : decode prog_14_method_9_code 39 = .ok (.if_icmp .lt 19, 3) := by decide +kernel
theorem d_Mo_digit_42 : decode prog_14_method_9_code 42 = .ok (.iload_n 0, 1) := by decide +kernel
theorem d_Mo_digit_43 : decode prog_14_method_9_code 43 = .ok (.bipush 70, 2) := by decide +kernel
theorem d_Mo_digit_45 : decode prog_14_method_9_code 45 = .ok (.if_icmp .gt 13, 3) := by decide +kernel
theorem d_Mo_digit_48 : decode prog_14_method_9_code 48 = .ok (.iload_n 0, 1) := by decide +kernel
theorem d_Mo_digit_49 : decode prog_14_method_9_code 49 = .ok (.bipush 65, 2) := by decide +kernel
theorem d_Mo_digit_51 : decode prog_14_method_9_code 51 = .ok (.isub, 1) := by decide +kernel
theorem d_Mo_digit_52 : decode prog_14_method_9_code 52 = .ok (.bipush 10, 2) := by decide +kernel
theorem d_Mo_digit_54 : decode prog_14_method_9_code 54 = .ok (.iadd, 1) := by decide +kernel
theorem d_Mo_digit_55 : decode prog_14_method_9_code 55 = .ok (.goto 5, 3) := by decide +kernel
theorem d_Mo_digit_58 : decode prog_14_method_9_code 58 = .ok (.bipush 99, 2) := by decide +kernel
theorem d_Mo_digit_60 : decode prog_14_method_9_code 60 = .ok (.ireturn, 1) := by decide +kernel
abbrev m_Mo_pair : cx_M := (⟨"CircuitTextModel", "pair", "(II)I"⟩, prog_14_method_13_code, 2, (Option.some Jvm.ClassFile.FieldType.int), [], [false, false])
theorem w_Mo_pair : cx_W m_Mo_pair := ⟨Or.inl ⟨(in_7 (List.mem_of_getElem? (i := 94) rfl)), rfl⟩, by decide +kernel, by decide, by decide, by decide +kernel⟩
theorem n_Mo_pair : (parseMethodDescriptor m_Mo_pair.1.desc).map (fun d => d.parameters.length) = some 2 := by decide +kernel
theorem d_Mo_pair_0 : decode prog_14_method_13_code 0 = .ok (.iload_n 0, 1) := by decide +kernel
theorem d_Mo_pair_1 : decode prog_14_method_13_code 1 = .ok (.bipush 38, 2) := by decide +kernel
theorem d_Mo_pair_3 : decode prog_14_method_13_code 3 = .ok (.if_icmp .ne 15, 3) := by decide +kernel
theorem d_Mo_pair_6 : decode prog_14_method_13_code 6 = .ok (.iload_n 1, 1) := by decide +kernel
theorem d_Mo_pair_7 : decode prog_14_method_13_code 7 = .ok (.bipush 38, 2) := by decide +kernel
theorem d_Mo_pair_9 : decode prog_14_method_13_code 9 = .ok (.if_icmp .ne 9, 3) := by decide +kernel
theorem d_Mo_pair_12 : decode prog_14_method_13_code 12 = .ok (.sipush 256, 3) := by decide +kernel
theorem d_Mo_pair_15 : decode prog_14_method_13_code 15 = .ok (.goto 130, 3) := by decide +kernel
theorem d_Mo_pair_18 : decode prog_14_method_13_code 18 = .ok (.iload_n 0, 1) := by decide +kernel
theorem d_Mo_pair_19 : decode prog_14_method_13_code 19 = .ok (.bipush 124, 2) := by decide +kernel
theorem d_Mo_pair_21 : decode prog_14_method_13_code 21 = .ok (.if_icmp .ne 15, 3) := by decide +kernel
theorem d_Mo_pair_24 : decode prog_14_method_13_code 24 = .ok (.iload_n 1, 1) := by decide +kernel
theorem d_Mo_pair_25 : decode prog_14_method_13_code 25 = .ok (.bipush 124, 2) := by decide +kernel
theorem d_Mo_pair_27 : decode prog_14_method_13_code 27 = .ok (.if_icmp .ne 9, 3) := by decide +kernel
theorem d_Mo_pair_30 : decode prog_14_method_13_code 30 = .ok (.sipush 257, 3) := by decide +kernel
theorem d_Mo_pair_33 : decode prog_14_method_13_code 33 = .ok (.goto 112, 3) := by decide +kernel
theorem d_Mo_pair_36 : decode prog_14_method_13_code 36 = .ok (.iload_n 0, 1) := by decide +kernel
theorem d_Mo_pair_37 : decode prog_14_method_13_code 37 = .ok (.bipush 61, 2) := by decide +kernel
theorem d_Mo_pair_39 : decode prog_14_method_13_code 39 = .ok (.if_icmp .ne 15, 3) := by decide +kernel
theorem d_Mo_pair_42 : decode prog_14_method_13_code 42 = .ok (.iload_n 1, 1) := by decide +kernel
theorem d_Mo_pair_43 : decode prog_14_method_13_code 43 = .ok (.bipush 61, 2) := by decide +kernel
theorem d_Mo_pair_45 : decode prog_14_method_13_code 45 = .ok (.if_icmp .ne 9, 3) := by decide +kernel
theorem d_Mo_pair_48 : decode prog_14_method_13_code 48 = .ok (.sipush 258, 3) := by decide +kernel
theorem d_Mo_pair_51 : decode prog_14_method_13_code 51 = .ok (.goto 94, 3) := by decide +kernel
theorem d_Mo_pair_54 : decode prog_14_method_13_code 54 = .ok (.iload_n 0, 1) := by decide +kernel
theorem d_Mo_pair_55 : decode prog_14_method_13_code 55 = .ok (.bipush 33, 2) := by decide +kernel
theorem d_Mo_pair_57 : decode prog_14_method_13_code 57 = .ok (.if_icmp .ne 15, 3) := by decide +kernel
theorem d_Mo_pair_60 : decode prog_14_method_13_code 60 = .ok (.iload_n 1, 1) := by decide +kernel
theorem d_Mo_pair_61 : decode prog_14_method_13_code 61 = .ok (.bipush 61, 2) := by decide +kernel
theorem d_Mo_pair_63 : decode prog_14_method_13_code 63 = .ok (.if_icmp .ne 9, 3) := by decide +kernel
theorem d_Mo_pair_66 : decode prog_14_method_13_code 66 = .ok (.sipush 259, 3) := by decide +kernel
theorem d_Mo_pair_69 : decode prog_14_method_13_code 69 = .ok (.goto 76, 3) := by decide +kernel
theorem d_Mo_pair_72 : decode prog_14_method_13_code 72 = .ok (.iload_n 0, 1) := by decide +kernel
theorem d_Mo_pair_73 : decode prog_14_method_13_code 73 = .ok (.bipush 60, 2) := by decide +kernel
theorem d_Mo_pair_75 : decode prog_14_method_13_code 75 = .ok (.if_icmp .ne 15, 3) := by decide +kernel
theorem d_Mo_pair_78 : decode prog_14_method_13_code 78 = .ok (.iload_n 1, 1) := by decide +kernel
theorem d_Mo_pair_79 : decode prog_14_method_13_code 79 = .ok (.bipush 61, 2) := by decide +kernel
theorem d_Mo_pair_81 : decode prog_14_method_13_code 81 = .ok (.if_icmp .ne 9, 3) := by decide +kernel
theorem d_Mo_pair_84 : decode prog_14_method_13_code 84 = .ok (.sipush 260, 3) := by decide +kernel
theorem d_Mo_pair_87 : decode prog_14_method_13_code 87 = .ok (.goto 58, 3) := by decide +kernel
theorem d_Mo_pair_90 : decode prog_14_method_13_code 90 = .ok (.iload_n 0, 1) := by decide +kernel
theorem d_Mo_pair_91 : decode prog_14_method_13_code 91 = .ok (.bipush 62, 2) := by decide +kernel
theorem d_Mo_pair_93 : decode prog_14_method_13_code 93 = .ok (.if_icmp .ne 15, 3) := by decide +kernel
theorem d_Mo_pair_96 : decode prog_14_method_13_code 96 = .ok (.iload_n 1, 1) := by decide +kernel
theorem d_Mo_pair_97 : decode prog_14_method_13_code 97 = .ok (.bipush 61, 2) := by decide +kernel
theorem d_Mo_pair_99 : decode prog_14_method_13_code 99 = .ok (.if_icmp .ne 9, 3) := by decide +kernel
theorem d_Mo_pair_102 : decode prog_14_method_13_code 102 = .ok (.sipush 261, 3) := by decide +kernel
theorem d_Mo_pair_105 : decode prog_14_method_13_code 105 = .ok (.goto 40, 3) := by decide +kernel
theorem d_Mo_pair_108 : decode prog_14_method_13_code 108 = .ok (.iload_n 0, 1) := by decide +kernel
theorem d_Mo_pair_109 : decode prog_14_method_13_code 109 = .ok (.bipush 60, 2) := by decide +kernel
theorem d_Mo_pair_111 : decode prog_14_method_13_code 111 = .ok (.if_icmp .ne 15, 3) := by decide +kernel
theorem d_Mo_pair_114 : decode prog_14_method_13_code 114 = .ok (.iload_n 1, 1) := by decide +kernel
theorem d_Mo_pair_115 : decode prog_14_method_13_code 115 = .ok (.bipush 60, 2) := by decide +kernel
theorem d_Mo_pair_117 : decode prog_14_method_13_code 117 = .ok (.if_icmp .ne 9, 3) := by decide +kernel
theorem d_Mo_pair_120 : decode prog_14_method_13_code 120 = .ok (.sipush 262, 3) := by decide +kernel
theorem d_Mo_pair_123 : decode prog_14_method_13_code 123 = .ok (.goto 22, 3) := by decide +kernel
theorem d_Mo_pair_126 : decode prog_14_method_13_code 126 = .ok (.iload_n 0, 1) := by decide +kernel
theorem d_Mo_pair_127 : decode prog_14_method_13_code 127 = .ok (.bipush 62, 2) := by decide +kernel
theorem d_Mo_pair_129 : decode prog_14_method_13_code 129 = .ok (.if_icmp .ne 15, 3) := by decide +kernel
theorem d_Mo_pair_132 : decode prog_14_method_13_code 132 = .ok (.iload_n 1, 1) := by decide +kernel
theorem d_Mo_pair_133 : decode prog_14_method_13_code 133 = .ok (.bipush 62, 2) := by decide +kernel
theorem d_Mo_pair_135 : decode prog_14_method_13_code 135 = .ok (.if_icmp .ne 9, 3) := by decide +kernel
theorem d_Mo_pair_138 : decode prog_14_method_13_code 138 = .ok (.sipush 263, 3) := by decide +kernel
theorem d_Mo_pair_141 : decode prog_14_method_13_code 141 = .ok (.goto 4, 3) := by decide +kernel
theorem d_Mo_pair_144 : decode prog_14_method_13_code 144 = .ok (.iconst 0, 1) := by decide +kernel
theorem d_Mo_pair_145 : decode prog_14_method_13_code 145 = .ok (.ireturn, 1) := by decide +kernel
abbrev m_Mo_isSign : cx_M := (⟨"CircuitTextModel", "isSign", "(I)Z"⟩, prog_14_method_14_code, 1, (Option.some Jvm.ClassFile.FieldType.boolean), [], [false])
theorem w_Mo_isSign : cx_W m_Mo_isSign := ⟨Or.inl ⟨(in_7 (List.mem_of_getElem? (i := 97) rfl)), rfl⟩, by decide +kernel, by decide, by decide, by decide +kernel⟩
theorem n_Mo_isSign : (parseMethodDescriptor m_Mo_isSign.1.desc).map (fun d => d.parameters.length) = some 1 := by decide +kernel
theorem d_Mo_isSign_0 : decode prog_14_method_14_code 0 = .ok (.iload_n 0, 1) := by decide +kernel
theorem d_Mo_isSign_1 : decode prog_14_method_14_code 1 = .ok (.tableswitch 393 33 126 #[391, 393, 393, 393, 393, 391, 393, 391, 391, 391, 391, 391, 391, 391, 393, 393, 393, 393, 393, 393, 393, 393, 393, 393, 393, 391, 391, 391, 391, 391, 391, 391, 393, 393, 393, 393, 393, 393, 393, 393, 393, 393, 393, 393, 393, 393, 393, 393, 393, 393, 393, 393, 393, 393, 393, 393, 393, 393, 391, 393, 391, 391, 393, 393, 393, 393, 393, 393, 393, 393, 393, 393, 393, 393, 393, 393, 393, 393, 393, 393, 393, 393, 393, 393, 393, 393, 393, 393, 393, 393, 391, 391, 391, 391], 391) := by decide +kernel
theorem d_Mo_isSign_392 : decode prog_14_method_14_code 392 = .ok (.iconst 1, 1) := by decide +kernel
theorem d_Mo_isSign_393 : decode prog_14_method_14_code 393 = .ok (.ireturn, 1) := by decide +kernel
theorem d_Mo_isSign_394 : decode prog_14_method_14_code 394 = .ok (.iconst 0, 1) := by decide +kernel
theorem d_Mo_isSign_395 : decode prog_14_method_14_code 395 = .ok (.ireturn, 1) := by decide +kernel
abbrev m_Mo_designGrammar : cx_M := (⟨"CircuitTextModel", "designGrammar", "()V"⟩, prog_14_method_39_code, 2, (Option.none : Option Jvm.ClassFile.FieldType), [], [false])
theorem w_Mo_designGrammar : cx_W m_Mo_designGrammar := ⟨Or.inl ⟨(in_7 (List.mem_of_getElem? (i := 101) rfl)), rfl⟩, by decide +kernel, by decide, by decide, by decide +kernel⟩
theorem n_Mo_designGrammar : (parseMethodDescriptor m_Mo_designGrammar.1.desc).map (fun d => d.parameters.length) = some 0 := by decide +kernel
theorem d_Mo_designGrammar_0 : decode prog_14_method_39_code 0 = .ok (.aload_n 0, 1) := by decide +kernel
theorem d_Mo_designGrammar_1 : decode prog_14_method_39_code 1 = .ok (.iconst 0, 1) := by decide +kernel
theorem d_Mo_designGrammar_2 : decode prog_14_method_39_code 2 = .ok (.putfield 193, 3) := by decide +kernel
theorem d_Mo_designGrammar_5 : decode prog_14_method_39_code 5 = .ok (.aload_n 0, 1) := by decide +kernel
theorem d_Mo_designGrammar_6 : decode prog_14_method_39_code 6 = .ok (.iconst 0, 1) := by decide +kernel
theorem d_Mo_designGrammar_7 : decode prog_14_method_39_code 7 = .ok (.putfield 206, 3) := by decide +kernel
theorem d_Mo_designGrammar_10 : decode prog_14_method_39_code 10 = .ok (.iconst 1, 1) := by decide +kernel
theorem d_Mo_designGrammar_11 : decode prog_14_method_39_code 11 = .ok (.istore_n 1, 1) := by decide +kernel
theorem d_Mo_designGrammar_12 : decode prog_14_method_39_code 12 = .ok (.iload_n 1, 1) := by decide +kernel
theorem d_Mo_designGrammar_13 : decode prog_14_method_39_code 13 = .ok (.ifCond .eq 149, 3) := by decide +kernel
theorem d_Mo_designGrammar_16 : decode prog_14_method_39_code 16 = .ok (.aload_n 0, 1) := by decide +kernel
theorem d_Mo_designGrammar_17 : decode prog_14_method_39_code 17 = .ok (.getfield 187, 3) := by decide +kernel
theorem d_Mo_designGrammar_20 : decode prog_14_method_39_code 20 = .ok (.ifCond .ne 142, 3) := by decide +kernel
theorem d_Mo_designGrammar_23 : decode prog_14_method_39_code 23 = .ok (.aload_n 0, 1) := by decide +kernel
theorem d_Mo_designGrammar_24 : decode prog_14_method_39_code 24 = .ok (.sipush 300, 3) := by decide +kernel
theorem d_Mo_designGrammar_27 : decode prog_14_method_39_code 27 = .ok (.invokevirtual 209, 3) := by decide +kernel
theorem d_Mo_designGrammar_30 : decode prog_14_method_39_code 30 = .ok (.aload_n 0, 1) := by decide +kernel
theorem d_Mo_designGrammar_31 : decode prog_14_method_39_code 31 = .ok (.sipush 400, 3) := by decide +kernel
theorem d_Mo_designGrammar_34 : decode prog_14_method_39_code 34 = .ok (.invokevirtual 209, 3) := by decide +kernel
theorem d_Mo_designGrammar_37 : decode prog_14_method_39_code 37 = .ok (.aload_n 0, 1) := by decide +kernel
theorem d_Mo_designGrammar_38 : decode prog_14_method_39_code 38 = .ok (.bipush 40, 2) := by decide +kernel
theorem d_Mo_designGrammar_40 : decode prog_14_method_39_code 40 = .ok (.invokevirtual 223, 3) := by decide +kernel
theorem d_Mo_designGrammar_43 : decode prog_14_method_39_code 43 = .ok (.aload_n 0, 1) := by decide +kernel
theorem d_Mo_designGrammar_44 : decode prog_14_method_39_code 44 = .ok (.sipush 302, 3) := by decide +kernel
theorem d_Mo_designGrammar_47 : decode prog_14_method_39_code 47 = .ok (.invokevirtual 203, 3) := by decide +kernel
theorem d_Mo_designGrammar_50 : decode prog_14_method_39_code 50 = .ok (.ifCond .ne 13, 3) := by decide +kernel
theorem d_Mo_designGrammar_53 : decode prog_14_method_39_code 53 = .ok (.aload_n 0, 1) := by decide +kernel
theorem d_Mo_designGrammar_54 : decode prog_14_method_39_code 54 = .ok (.sipush 303, 3) := by decide +kernel
theorem d_Mo_designGrammar_57 : decode prog_14_method_39_code 57 = .ok (.invokevirtual 203, 3) := by decide +kernel
theorem d_Mo_designGrammar_60 : decode prog_14_method_39_code 60 = .ok (.ifCond .eq 33, 3) := by decide +kernel
theorem d_Mo_designGrammar_63 : decode prog_14_method_39_code 63 = .ok (.aload_n 0, 1) := by decide +kernel
theorem d_Mo_designGrammar_64 : decode prog_14_method_39_code 64 = .ok (.invokevirtual 256, 3) := by decide +kernel
theorem d_Mo_designGrammar_67 : decode prog_14_method_39_code 67 = .ok (.aload_n 0, 1) := by decide +kernel
theorem d_Mo_designGrammar_68 : decode prog_14_method_39_code 68 = .ok (.bipush 44, 2) := by decide +kernel
theorem d_Mo_designGrammar_70 : decode prog_14_method_39_code 70 = .ok (.invokevirtual 203, 3) := by decide +kernel
theorem d_Mo_designGrammar_73 : decode prog_14_method_39_code 73 = .ok (.ifCond .eq 20, 3) := by decide +kernel
theorem d_Mo_designGrammar_76 : decode prog_14_method_39_code 76 = .ok (.aload_n 0, 1) := by decide +kernel
theorem d_Mo_designGrammar_77 : decode prog_14_method_39_code 77 = .ok (.dup, 1) := by decide +kernel
theorem d_Mo_designGrammar_78 : decode prog_14_method_39_code 78 = .ok (.getfield 193, 3) := by decide +kernel
theorem d_Mo_designGrammar_81 : decode prog_14_method_39_code 81 = .ok (.iconst 1, 1) := by decide +kernel
theorem d_Mo_designGrammar_82 : decode prog_14_method_39_code 82 = .ok (.iadd, 1) := by decide +kernel
theorem d_Mo_designGrammar_83 : decode prog_14_method_39_code 83 = .ok (.putfield 193, 3) := by decide +kernel
theorem d_Mo_designGrammar_86 : decode prog_14_method_39_code 86 = .ok (.aload_n 0, 1) := by decide +kernel
theorem d_Mo_designGrammar_87 : decode prog_14_method_39_code 87 = .ok (.invokevirtual 256, 3) := by decide +kernel
theorem d_Mo_designGrammar_90 : decode prog_14_method_39_code 90 = .ok (.goto (-23), 3) := by decide +kernel
theorem d_Mo_designGrammar_93 : decode prog_14_method_39_code 93 = .ok (.aload_n 0, 1) := by decide +kernel
theorem d_Mo_designGrammar_94 : decode prog_14_method_39_code 94 = .ok (.bipush 41, 2) := by decide +kernel
theorem d_Mo_designGrammar_96 : decode prog_14_method_39_code 96 = .ok (.invokevirtual 235, 3) := by decide +kernel
theorem d_Mo_designGrammar_99 : decode prog_14_method_39_code 99 = .ok (.aload_n 0, 1) := by decide +kernel
theorem d_Mo_designGrammar_100 : decode prog_14_method_39_code 100 = .ok (.bipush 59, 2) := by decide +kernel
theorem d_Mo_designGrammar_102 : decode prog_14_method_39_code 102 = .ok (.invokevirtual 209, 3) := by decide +kernel
theorem d_Mo_designGrammar_105 : decode prog_14_method_39_code 105 = .ok (.aload_n 0, 1) := by decide +kernel
theorem d_Mo_designGrammar_106 : decode prog_14_method_39_code 106 = .ok (.getfield 187, 3) := by decide +kernel
theorem d_Mo_designGrammar_109 : decode prog_14_method_39_code 109 = .ok (.ifCond .ne 20, 3) := by decide +kernel
theorem d_Mo_designGrammar_112 : decode prog_14_method_39_code 112 = .ok (.aload_n 0, 1) := by decide +kernel
theorem d_Mo_designGrammar_113 : decode prog_14_method_39_code 113 = .ok (.invokevirtual 216, 3) := by decide +kernel
theorem d_Mo_designGrammar_116 : decode prog_14_method_39_code 116 = .ok (.sipush 301, 3) := by decide +kernel
theorem d_Mo_designGrammar_119 : decode prog_14_method_39_code 119 = .ok (.if_icmp .eq 10, 3) := by decide +kernel
theorem d_Mo_designGrammar_122 : decode prog_14_method_39_code 122 = .ok (.aload_n 0, 1) := by decide +kernel
theorem d_Mo_designGrammar_123 : decode prog_14_method_39_code 123 = .ok (.invokevirtual 259, 3) := by decide +kernel
theorem d_Mo_designGrammar_126 : decode prog_14_method_39_code 126 = .ok (.goto (-21), 3) := by decide +kernel
theorem d_Mo_designGrammar_129 : decode prog_14_method_39_code 129 = .ok (.aload_n 0, 1) := by decide +kernel
theorem d_Mo_designGrammar_130 : decode prog_14_method_39_code 130 = .ok (.sipush 301, 3) := by decide +kernel
theorem d_Mo_designGrammar_133 : decode prog_14_method_39_code 133 = .ok (.invokevirtual 209, 3) := by decide +kernel
theorem d_Mo_designGrammar_136 : decode prog_14_method_39_code 136 = .ok (.aload_n 0, 1) := by decide +kernel
theorem d_Mo_designGrammar_137 : decode prog_14_method_39_code 137 = .ok (.getfield 187, 3) := by decide +kernel
theorem d_Mo_designGrammar_140 : decode prog_14_method_39_code 140 = .ok (.ifCond .ne 17, 3) := by decide +kernel
theorem d_Mo_designGrammar_143 : decode prog_14_method_39_code 143 = .ok (.aload_n 0, 1) := by decide +kernel
theorem d_Mo_designGrammar_144 : decode prog_14_method_39_code 144 = .ok (.invokevirtual 216, 3) := by decide +kernel
theorem d_Mo_designGrammar_147 : decode prog_14_method_39_code 147 = .ok (.sipush 403, 3) := by decide +kernel
theorem d_Mo_designGrammar_150 : decode prog_14_method_39_code 150 = .ok (.if_icmp .eq 7, 3) := by decide +kernel
theorem d_Mo_designGrammar_153 : decode prog_14_method_39_code 153 = .ok (.iconst 1, 1) := by decide +kernel
theorem d_Mo_designGrammar_154 : decode prog_14_method_39_code 154 = .ok (.goto 4, 3) := by decide +kernel
theorem d_Mo_designGrammar_157 : decode prog_14_method_39_code 157 = .ok (.iconst 0, 1) := by decide +kernel
theorem d_Mo_designGrammar_158 : decode prog_14_method_39_code 158 = .ok (.istore_n 1, 1) := by decide +kernel
theorem d_Mo_designGrammar_159 : decode prog_14_method_39_code 159 = .ok (.goto (-147), 3) := by decide +kernel
theorem d_Mo_designGrammar_162 : decode prog_14_method_39_code 162 = .ok (.return_, 1) := by decide +kernel
theorem f_Mo_193 : cx_F "CircuitTextModel" 193 12 8 (.int) false := ⟨_, F_Mo, 58, t_Mo, k_Mo, by decide, rfl, rfl, Or.inl (in_6 (List.mem_of_getElem? (i := 103) rfl))⟩
theorem f_Mo_206 : cx_F "CircuitTextModel" 206 12 11 (.int) false := ⟨_, F_Mo, 58, t_Mo, k_Mo, by decide, rfl, rfl, Or.inl (in_6 (List.mem_of_getElem? (i := 106) rfl))⟩
abbrev m_Mo_take : cx_M := (⟨"CircuitTextModel", "take", "(I)V"⟩, prog_14_method_23_code, 2, (Option.none : Option Jvm.ClassFile.FieldType), [], [false, false])
theorem w_Mo_take : cx_W m_Mo_take := ⟨Or.inl ⟨(in_7 (List.mem_of_getElem? (i := 105) rfl)), rfl⟩, by decide +kernel, by decide, by decide, by decide +kernel⟩
theorem n_Mo_take : (parseMethodDescriptor m_Mo_take.1.desc).map (fun d => d.parameters.length) = some 1 := by decide +kernel
theorem d_Mo_take_0 : decode prog_14_method_23_code 0 = .ok (.aload_n 0, 1) := by decide +kernel
theorem d_Mo_take_1 : decode prog_14_method_23_code 1 = .ok (.getfield 187, 3) := by decide +kernel
theorem d_Mo_take_4 : decode prog_14_method_23_code 4 = .ok (.ifCond .ne 29, 3) := by decide +kernel
theorem d_Mo_take_7 : decode prog_14_method_23_code 7 = .ok (.aload_n 0, 1) := by decide +kernel
theorem d_Mo_take_8 : decode prog_14_method_23_code 8 = .ok (.getfield 15, 3) := by decide +kernel
theorem d_Mo_take_11 : decode prog_14_method_23_code 11 = .ok (.aload_n 0, 1) := by decide +kernel
theorem d_Mo_take_12 : decode prog_14_method_23_code 12 = .ok (.getfield 193, 3) := by decide +kernel
theorem d_Mo_take_15 : decode prog_14_method_23_code 15 = .ok (.iaload, 1) := by decide +kernel
theorem d_Mo_take_16 : decode prog_14_method_23_code 16 = .ok (.iload_n 1, 1) := by decide +kernel
theorem d_Mo_take_17 : decode prog_14_method_23_code 17 = .ok (.if_icmp .ne 16, 3) := by decide +kernel
theorem d_Mo_take_20 : decode prog_14_method_23_code 20 = .ok (.aload_n 0, 1) := by decide +kernel
theorem d_Mo_take_21 : decode prog_14_method_23_code 21 = .ok (.dup, 1) := by decide +kernel
theorem d_Mo_take_22 : decode prog_14_method_23_code 22 = .ok (.getfield 193, 3) := by decide +kernel
theorem d_Mo_take_25 : decode prog_14_method_23_code 25 = .ok (.iconst 1, 1) := by decide +kernel
theorem d_Mo_take_26 : decode prog_14_method_23_code 26 = .ok (.iadd, 1) := by decide +kernel
theorem d_Mo_take_27 : decode prog_14_method_23_code 27 = .ok (.putfield 193, 3) := by decide +kernel
theorem d_Mo_take_30 : decode prog_14_method_23_code 30 = .ok (.goto 7, 3) := by decide +kernel
theorem d_Mo_take_33 : decode prog_14_method_23_code 33 = .ok (.aload_n 0, 1) := by decide +kernel
theorem d_Mo_take_34 : decode prog_14_method_23_code 34 = .ok (.invokevirtual 200, 3) := by decide +kernel
theorem d_Mo_take_37 : decode prog_14_method_23_code 37 = .ok (.return_, 1) := by decide +kernel
abbrev m_Mo_no : cx_M := (⟨"CircuitTextModel", "no", "()V"⟩, prog_14_method_22_code, 1, (Option.none : Option Jvm.ClassFile.FieldType), [], [false])
theorem w_Mo_no : cx_W m_Mo_no := ⟨Or.inl ⟨(in_7 (List.mem_of_getElem? (i := 109) rfl)), rfl⟩, by decide +kernel, by decide, by decide, by decide +kernel⟩
theorem n_Mo_no : (parseMethodDescriptor m_Mo_no.1.desc).map (fun d => d.parameters.length) = some 0 := by decide +kernel
theorem d_Mo_no_0 : decode prog_14_method_22_code 0 = .ok (.aload_n 0, 1) := by decide +kernel
theorem d_Mo_no_1 : decode prog_14_method_22_code 1 = .ok (.aload_n 0, 1) := by decide +kernel
theorem d_Mo_no_2 : decode prog_14_method_22_code 2 = .ok (.getfield 15, 3) := by decide +kernel
theorem d_Mo_no_5 : decode prog_14_method_22_code 5 = .ok (.aload_n 0, 1) := by decide +kernel
theorem d_Mo_no_6 : decode prog_14_method_22_code 6 = .ok (.getfield 193, 3) := by decide +kernel
theorem d_Mo_no_9 : decode prog_14_method_22_code 9 = .ok (.iaload, 1) := by decide +kernel
theorem d_Mo_no_10 : decode prog_14_method_22_code 10 = .ok (.sipush 404, 3) := by decide +kernel
theorem d_Mo_no_13 : decode prog_14_method_22_code 13 = .ok (.if_icmp .ne 7, 3) := by decide +kernel
theorem d_Mo_no_16 : decode prog_14_method_22_code 16 = .ok (.iconst 1, 1) := by decide +kernel
theorem d_Mo_no_17 : decode prog_14_method_22_code 17 = .ok (.goto 4, 3) := by decide +kernel
theorem d_Mo_no_20 : decode prog_14_method_22_code 20 = .ok (.iconst 2, 1) := by decide +kernel
theorem d_Mo_no_21 : decode prog_14_method_22_code 21 = .ok (.aload_n 0, 1) := by decide +kernel
theorem d_Mo_no_22 : decode prog_14_method_22_code 22 = .ok (.getfield 19, 3) := by decide +kernel
theorem d_Mo_no_25 : decode prog_14_method_22_code 25 = .ok (.aload_n 0, 1) := by decide +kernel
theorem d_Mo_no_26 : decode prog_14_method_22_code 26 = .ok (.getfield 193, 3) := by decide +kernel
theorem d_Mo_no_29 : decode prog_14_method_22_code 29 = .ok (.iaload, 1) := by decide +kernel
theorem d_Mo_no_30 : decode prog_14_method_22_code 30 = .ok (.invokevirtual 196, 3) := by decide +kernel
theorem d_Mo_no_33 : decode prog_14_method_22_code 33 = .ok (.return_, 1) := by decide +kernel
abbrev m_Mo_fail : cx_M := (⟨"CircuitTextModel", "fail", "(II)V"⟩, prog_14_method_19_code, 3, (Option.none : Option Jvm.ClassFile.FieldType), [], [false, false, false])
theorem w_Mo_fail : cx_W m_Mo_fail := ⟨Or.inl ⟨(in_7 (List.mem_of_getElem? (i := 113) rfl)), rfl⟩, by decide +kernel, by decide, by decide, by decide +kernel⟩
theorem n_Mo_fail : (parseMethodDescriptor m_Mo_fail.1.desc).map (fun d => d.parameters.length) = some 2 := by decide +kernel
theorem d_Mo_fail_0 : decode prog_14_method_19_code 0 = .ok (.aload_n 0, 1) := by decide +kernel
theorem d_Mo_fail_1 : decode prog_14_method_19_code 1 = .ok (.getfield 187, 3) := by decide +kernel
theorem d_Mo_fail_4 : decode prog_14_method_19_code 4 = .ok (.ifCond .ne 13, 3) := by decide +kernel
theorem d_Mo_fail_7 : decode prog_14_method_19_code 7 = .ok (.aload_n 0, 1) := by decide +kernel
theorem d_Mo_fail_8 : decode prog_14_method_19_code 8 = .ok (.iload_n 1, 1) := by decide +kernel
theorem d_Mo_fail_9 : decode prog_14_method_19_code 9 = .ok (.putfield 187, 3) := by decide +kernel
theorem d_Mo_fail_12 : decode prog_14_method_19_code 12 = .ok (.aload_n 0, 1) := by decide +kernel
theorem d_Mo_fail_13 : decode prog_14_method_19_code 13 = .ok (.iload_n 2, 1) := by decide +kernel
theorem d_Mo_fail_14 : decode prog_14_method_19_code 14 = .ok (.putfield 190, 3) := by decide +kernel
theorem d_Mo_fail_17 : decode prog_14_method_19_code 17 = .ok (.return_, 1) := by decide +kernel
abbrev m_Mo_open : cx_M := (⟨"CircuitTextModel", "open", "(I)V"⟩, prog_14_method_24_code, 2, (Option.none : Option Jvm.ClassFile.FieldType), [], [false, false])
theorem w_Mo_open : cx_W m_Mo_open := ⟨Or.inl ⟨(in_7 (List.mem_of_getElem? (i := 117) rfl)), rfl⟩, by decide +kernel, by decide, by decide, by decide +kernel⟩
theorem n_Mo_open : (parseMethodDescriptor m_Mo_open.1.desc).map (fun d => d.parameters.length) = some 1 := by decide +kernel
theorem d_Mo_open_0 : decode prog_14_method_24_code 0 = .ok (.aload_n 0, 1) := by decide +kernel
theorem d_Mo_open_1 : decode prog_14_method_24_code 1 = .ok (.iload_n 1, 1) := by decide +kernel
theorem d_Mo_open_2 : decode prog_14_method_24_code 2 = .ok (.invokevirtual 203, 3) := by decide +kernel
theorem d_Mo_open_5 : decode prog_14_method_24_code 5 = .ok (.ifCond .eq 36, 3) := by decide +kernel
theorem d_Mo_open_8 : decode prog_14_method_24_code 8 = .ok (.aload_n 0, 1) := by decide +kernel
theorem d_Mo_open_9 : decode prog_14_method_24_code 9 = .ok (.dup, 1) := by decide +kernel
theorem d_Mo_open_10 : decode prog_14_method_24_code 10 = .ok (.getfield 206, 3) := by decide +kernel
theorem d_Mo_open_13 : decode prog_14_method_24_code 13 = .ok (.iconst 1, 1) := by decide +kernel
theorem d_Mo_open_14 : decode prog_14_method_24_code 14 = .ok (.iadd, 1) := by decide +kernel
theorem d_Mo_open_15 : decode prog_14_method_24_code 15 = .ok (.putfield 206, 3) := by decide +kernel
theorem d_Mo_open_18 : decode prog_14_method_24_code 18 = .ok (.aload_n 0, 1) := by decide +kernel
theorem d_Mo_open_19 : decode prog_14_method_24_code 19 = .ok (.getfield 206, 3) := by decide +kernel
theorem d_Mo_open_22 : decode prog_14_method_24_code 22 = .ok (.bipush 60, 2) := by decide +kernel
theorem d_Mo_open_24 : decode prog_14_method_24_code 24 = .ok (.if_icmp .le 17, 3) := by decide +kernel
theorem d_Mo_open_27 : decode prog_14_method_24_code 27 = .ok (.aload_n 0, 1) := by decide +kernel
theorem d_Mo_open_28 : decode prog_14_method_24_code 28 = .ok (.iconst 3, 1) := by decide +kernel
theorem d_Mo_open_29 : decode prog_14_method_24_code 29 = .ok (.aload_n 0, 1) := by decide +kernel
theorem d_Mo_open_30 : decode prog_14_method_24_code 30 = .ok (.getfield 19, 3) := by decide +kernel
theorem d_Mo_open_33 : decode prog_14_method_24_code 33 = .ok (.aload_n 0, 1) := by decide +kernel
theorem d_Mo_open_34 : decode prog_14_method_24_code 34 = .ok (.getfield 193, 3) := by decide +kernel
theorem d_Mo_open_37 : decode prog_14_method_24_code 37 = .ok (.iaload, 1) := by decide +kernel
theorem d_Mo_open_38 : decode prog_14_method_24_code 38 = .ok (.invokevirtual 196, 3) := by decide +kernel
theorem d_Mo_open_41 : decode prog_14_method_24_code 41 = .ok (.aload_n 0, 1) := by decide +kernel
theorem d_Mo_open_42 : decode prog_14_method_24_code 42 = .ok (.iload_n 1, 1) := by decide +kernel
theorem d_Mo_open_43 : decode prog_14_method_24_code 43 = .ok (.invokevirtual 209, 3) := by decide +kernel
theorem d_Mo_open_46 : decode prog_14_method_24_code 46 = .ok (.return_, 1) := by decide +kernel
abbrev m_Mo_is : cx_M := (⟨"CircuitTextModel", "is", "(I)Z"⟩, prog_14_method_21_code, 2, (Option.some Jvm.ClassFile.FieldType.boolean), [], [false, false])
theorem w_Mo_is : cx_W m_Mo_is := ⟨Or.inl ⟨(in_7 (List.mem_of_getElem? (i := 121) rfl)), rfl⟩, by decide +kernel, by decide, by decide, by decide +kernel⟩
theorem n_Mo_is : (parseMethodDescriptor m_Mo_is.1.desc).map (fun d => d.parameters.length) = some 1 := by decide +kernel
theorem d_Mo_is_0 : decode prog_14_method_21_code 0 = .ok (.aload_n 0, 1) := by decide +kernel
theorem d_Mo_is_1 : decode prog_14_method_21_code 1 = .ok (.getfield 187, 3) := by decide +kernel
theorem d_Mo_is_4 : decode prog_14_method_21_code 4 = .ok (.ifCond .ne 20, 3) := by decide +kernel
theorem d_Mo_is_7 : decode prog_14_method_21_code 7 = .ok (.aload_n 0, 1) := by decide +kernel
theorem d_Mo_is_8 : decode prog_14_method_21_code 8 = .ok (.getfield 15, 3) := by decide +kernel
theorem d_Mo_is_11 : decode prog_14_method_21_code 11 = .ok (.aload_n 0, 1) := by decide +kernel
theorem d_Mo_is_12 : decode prog_14_method_21_code 12 = .ok (.getfield 193, 3) := by decide +kernel
theorem d_Mo_is_15 : decode prog_14_method_21_code 15 = .ok (.iaload, 1) := by decide +kernel
theorem d_Mo_is_16 : decode prog_14_method_21_code 16 = .ok (.iload_n 1, 1) := by decide +kernel
theorem d_Mo_is_17 : decode prog_14_method_21_code 17 = .ok (.if_icmp .ne 7, 3) := by decide +kernel
theorem d_Mo_is_20 : decode prog_14_method_21_code 20 = .ok (.iconst 1, 1) := by decide +kernel
theorem d_Mo_is_21 : decode prog_14_method_21_code 21 = .ok (.goto 4, 3) := by decide +kernel
theorem d_Mo_is_24 : decode prog_14_method_21_code 24 = .ok (.iconst 0, 1) := by decide +kernel
theorem d_Mo_is_25 : decode prog_14_method_21_code 25 = .ok (.ireturn, 1) := by decide +kernel
abbrev m_Mo_portGrammar : cx_M := (⟨"CircuitTextModel", "portGrammar", "()V"⟩, prog_14_method_34_code, 1, (Option.none : Option Jvm.ClassFile.FieldType), [], [false])
theorem w_Mo_portGrammar : cx_W m_Mo_portGrammar := ⟨Or.inl ⟨(in_7 (List.mem_of_getElem? (i := 125) rfl)), rfl⟩, by decide +kernel, by decide, by decide, by decide +kernel⟩
theorem n_Mo_portGrammar : (parseMethodDescriptor m_Mo_portGrammar.1.desc).map (fun d => d.parameters.length) = some 0 := by decide +kernel
theorem d_Mo_portGrammar_0 : decode prog_14_method_34_code 0 = .ok (.aload_n 0, 1) := by decide +kernel
theorem d_Mo_portGrammar_1 : decode prog_14_method_34_code 1 = .ok (.sipush 302, 3) := by decide +kernel
theorem d_Mo_portGrammar_4 : decode prog_14_method_34_code 4 = .ok (.invokevirtual 203, 3) := by decide +kernel
theorem d_Mo_portGrammar_7 : decode prog_14_method_34_code 7 = .ok (.ifCond .eq 27, 3) := by decide +kernel
theorem d_Mo_portGrammar_10 : decode prog_14_method_34_code 10 = .ok (.aload_n 0, 1) := by decide +kernel
theorem d_Mo_portGrammar_11 : decode prog_14_method_34_code 11 = .ok (.dup, 1) := by decide +kernel
theorem d_Mo_portGrammar_12 : decode prog_14_method_34_code 12 = .ok (.getfield 193, 3) := by decide +kernel
theorem d_Mo_portGrammar_15 : decode prog_14_method_34_code 15 = .ok (.iconst 1, 1) := by decide +kernel
theorem d_Mo_portGrammar_16 : decode prog_14_method_34_code 16 = .ok (.iadd, 1) := by decide +kernel
theorem d_Mo_portGrammar_17 : decode prog_14_method_34_code 17 = .ok (.putfield 193, 3) := by decide +kernel
theorem d_Mo_portGrammar_20 : decode prog_14_method_34_code 20 = .ok (.aload_n 0, 1) := by decide +kernel
theorem d_Mo_portGrammar_21 : decode prog_14_method_34_code 21 = .ok (.invokevirtual 241, 3) := by decide +kernel
theorem d_Mo_portGrammar_24 : decode prog_14_method_34_code 24 = .ok (.aload_n 0, 1) := by decide +kernel
theorem d_Mo_portGrammar_25 : decode prog_14_method_34_code 25 = .ok (.sipush 400, 3) := by decide +kernel
theorem d_Mo_portGrammar_28 : decode prog_14_method_34_code 28 = .ok (.invokevirtual 209, 3) := by decide +kernel
theorem d_Mo_portGrammar_31 : decode prog_14_method_34_code 31 = .ok (.goto 59, 3) := by decide +kernel
theorem d_Mo_portGrammar_34 : decode prog_14_method_34_code 34 = .ok (.aload_n 0, 1) := by decide +kernel
theorem d_Mo_portGrammar_35 : decode prog_14_method_34_code 35 = .ok (.sipush 303, 3) := by decide +kernel
theorem d_Mo_portGrammar_38 : decode prog_14_method_34_code 38 = .ok (.invokevirtual 209, 3) := by decide +kernel
theorem d_Mo_portGrammar_41 : decode prog_14_method_34_code 41 = .ok (.aload_n 0, 1) := by decide +kernel
theorem d_Mo_portGrammar_42 : decode prog_14_method_34_code 42 = .ok (.sipush 305, 3) := by decide +kernel
theorem d_Mo_portGrammar_45 : decode prog_14_method_34_code 45 = .ok (.invokevirtual 203, 3) := by decide +kernel
theorem d_Mo_portGrammar_48 : decode prog_14_method_34_code 48 = .ok (.ifCond .eq 31, 3) := by decide +kernel
theorem d_Mo_portGrammar_51 : decode prog_14_method_34_code 51 = .ok (.aload_n 0, 1) := by decide +kernel
theorem d_Mo_portGrammar_52 : decode prog_14_method_34_code 52 = .ok (.dup, 1) := by decide +kernel
theorem d_Mo_portGrammar_53 : decode prog_14_method_34_code 53 = .ok (.getfield 193, 3) := by decide +kernel
theorem d_Mo_portGrammar_56 : decode prog_14_method_34_code 56 = .ok (.iconst 1, 1) := by decide +kernel
theorem d_Mo_portGrammar_57 : decode prog_14_method_34_code 57 = .ok (.iadd, 1) := by decide +kernel
theorem d_Mo_portGrammar_58 : decode prog_14_method_34_code 58 = .ok (.putfield 193, 3) := by decide +kernel
theorem d_Mo_portGrammar_61 : decode prog_14_method_34_code 61 = .ok (.aload_n 0, 1) := by decide +kernel
theorem d_Mo_portGrammar_62 : decode prog_14_method_34_code 62 = .ok (.invokevirtual 241, 3) := by decide +kernel
theorem d_Mo_portGrammar_65 : decode prog_14_method_34_code 65 = .ok (.aload_n 0, 1) := by decide +kernel
theorem d_Mo_portGrammar_66 : decode prog_14_method_34_code 66 = .ok (.sipush 400, 3) := by decide +kernel
theorem d_Mo_portGrammar_69 : decode prog_14_method_34_code 69 = .ok (.invokevirtual 209, 3) := by decide +kernel
theorem d_Mo_portGrammar_72 : decode prog_14_method_34_code 72 = .ok (.aload_n 0, 1) := by decide +kernel
theorem d_Mo_portGrammar_73 : decode prog_14_method_34_code 73 = .ok (.invokevirtual 244, 3) := by decide +kernel
theorem d_Mo_portGrammar_76 : decode prog_14_method_34_code 76 = .ok (.goto 14, 3) := by decide +kernel
theorem d_Mo_portGrammar_79 : decode prog_14_method_34_code 79 = .ok (.aload_n 0, 1) := by decide +kernel
theorem d_Mo_portGrammar_80 : decode prog_14_method_34_code 80 = .ok (.invokevirtual 241, 3) := by decide +kernel
theorem d_Mo_portGrammar_83 : decode prog_14_method_34_code 83 = .ok (.aload_n 0, 1) := by decide +kernel
theorem d_Mo_portGrammar_84 : decode prog_14_method_34_code 84 = .ok (.sipush 400, 3) := by decide +kernel
theorem d_Mo_portGrammar_87 : decode prog_14_method_34_code 87 = .ok (.invokevirtual 209, 3) := by decide +kernel
theorem d_Mo_portGrammar_90 : decode prog_14_method_34_code 90 = .ok (.return_, 1) := by decide +kernel
abbrev m_Mo_rangeGrammar : cx_M := (⟨"CircuitTextModel", "rangeGrammar", "()V"⟩, prog_14_method_32_code, 1, (Option.none : Option Jvm.ClassFile.FieldType), [], [false])
theorem w_Mo_rangeGrammar : cx_W m_Mo_rangeGrammar := ⟨Or.inl ⟨(in_7 (List.mem_of_getElem? (i := 129) rfl)), rfl⟩, by decide +kernel, by decide, by decide, by decide +kernel⟩
theorem n_Mo_rangeGrammar : (parseMethodDescriptor m_Mo_rangeGrammar.1.desc).map (fun d => d.parameters.length) = some 0 := by decide +kernel
theorem d_Mo_rangeGrammar_0 : decode prog_14_method_32_code 0 = .ok (.aload_n 0, 1) := by decide +kernel
theorem d_Mo_rangeGrammar_1 : decode prog_14_method_32_code 1 = .ok (.bipush 91, 2) := by decide +kernel
theorem d_Mo_rangeGrammar_3 : decode prog_14_method_32_code 3 = .ok (.invokevirtual 203, 3) := by decide +kernel
theorem d_Mo_rangeGrammar_6 : decode prog_14_method_32_code 6 = .ok (.ifCond .eq 35, 3) := by decide +kernel
theorem d_Mo_rangeGrammar_9 : decode prog_14_method_32_code 9 = .ok (.aload_n 0, 1) := by decide +kernel
theorem d_Mo_rangeGrammar_10 : decode prog_14_method_32_code 10 = .ok (.bipush 91, 2) := by decide +kernel
theorem d_Mo_rangeGrammar_12 : decode prog_14_method_32_code 12 = .ok (.invokevirtual 223, 3) := by decide +kernel
theorem d_Mo_rangeGrammar_15 : decode prog_14_method_32_code 15 = .ok (.aload_n 0, 1) := by decide +kernel
theorem d_Mo_rangeGrammar_16 : decode prog_14_method_32_code 16 = .ok (.sipush 401, 3) := by decide +kernel
theorem d_Mo_rangeGrammar_19 : decode prog_14_method_32_code 19 = .ok (.invokevirtual 209, 3) := by decide +kernel
theorem d_Mo_rangeGrammar_22 : decode prog_14_method_32_code 22 = .ok (.aload_n 0, 1) := by decide +kernel
theorem d_Mo_rangeGrammar_23 : decode prog_14_method_32_code 23 = .ok (.bipush 58, 2) := by decide +kernel
theorem d_Mo_rangeGrammar_25 : decode prog_14_method_32_code 25 = .ok (.invokevirtual 209, 3) := by decide +kernel
theorem d_Mo_rangeGrammar_28 : decode prog_14_method_32_code 28 = .ok (.aload_n 0, 1) := by decide +kernel
theorem d_Mo_rangeGrammar_29 : decode prog_14_method_32_code 29 = .ok (.sipush 401, 3) := by decide +kernel
theorem d_Mo_rangeGrammar_32 : decode prog_14_method_32_code 32 = .ok (.invokevirtual 209, 3) := by decide +kernel
theorem d_Mo_rangeGrammar_35 : decode prog_14_method_32_code 35 = .ok (.aload_n 0, 1) := by decide +kernel
theorem d_Mo_rangeGrammar_36 : decode prog_14_method_32_code 36 = .ok (.bipush 93, 2) := by decide +kernel
theorem d_Mo_rangeGrammar_38 : decode prog_14_method_32_code 38 = .ok (.invokevirtual 235, 3) := by decide +kernel
theorem d_Mo_rangeGrammar_41 : decode prog_14_method_32_code 41 = .ok (.return_, 1) := by decide +kernel
abbrev m_Mo_shut : cx_M := (⟨"CircuitTextModel", "shut", "(I)V"⟩, prog_14_method_25_code, 2, (Option.none : Option Jvm.ClassFile.FieldType), [], [false, false])
theorem w_Mo_shut : cx_W m_Mo_shut := ⟨Or.inl ⟨(in_7 (List.mem_of_getElem? (i := 133) rfl)), rfl⟩, by decide +kernel, by decide, by decide, by decide +kernel⟩
theorem n_Mo_shut : (parseMethodDescriptor m_Mo_shut.1.desc).map (fun d => d.parameters.length) = some 1 := by decide +kernel
theorem d_Mo_shut_0 : decode prog_14_method_25_code 0 = .ok (.aload_n 0, 1) := by decide +kernel
theorem d_Mo_shut_1 : decode prog_14_method_25_code 1 = .ok (.iload_n 1, 1) := by decide +kernel
theorem d_Mo_shut_2 : decode prog_14_method_25_code 2 = .ok (.invokevirtual 209, 3) := by decide +kernel
theorem d_Mo_shut_5 : decode prog_14_method_25_code 5 = .ok (.aload_n 0, 1) := by decide +kernel
theorem d_Mo_shut_6 : decode prog_14_method_25_code 6 = .ok (.dup, 1) := by decide +kernel
theorem d_Mo_shut_7 : decode prog_14_method_25_code 7 = .ok (.getfield 206, 3) := by decide +kernel
theorem d_Mo_shut_10 : decode prog_14_method_25_code 10 = .ok (.iconst 1, 1) := by decide +kernel
theorem d_Mo_shut_11 : decode prog_14_method_25_code 11 = .ok (.isub, 1) := by decide +kernel
theorem d_Mo_shut_12 : decode prog_14_method_25_code 12 = .ok (.putfield 206, 3) := by decide +kernel
theorem d_Mo_shut_15 : decode prog_14_method_25_code 15 = .ok (.return_, 1) := by decide +kernel
abbrev m_Mo_beginGrammar : cx_M := (⟨"CircuitTextModel", "beginGrammar", "()V"⟩, prog_14_method_33_code, 1, (Option.none : Option Jvm.ClassFile.FieldType), [], [false])
theorem w_Mo_beginGrammar : cx_W m_Mo_beginGrammar := ⟨Or.inl ⟨(in_7 (List.mem_of_getElem? (i := 137) rfl)), rfl⟩, by decide +kernel, by decide, by decide, by decide +kernel⟩
theorem n_Mo_beginGrammar : (parseMethodDescriptor m_Mo_beginGrammar.1.desc).map (fun d => d.parameters.length) = some 0 := by decide +kernel
theorem d_Mo_beginGrammar_0 : decode prog_14_method_33_code 0 = .ok (.aload_n 0, 1) := by decide +kernel
theorem d_Mo_beginGrammar_1 : decode prog_14_method_33_code 1 = .ok (.bipush 61, 2) := by decide +kernel
theorem d_Mo_beginGrammar_3 : decode prog_14_method_33_code 3 = .ok (.invokevirtual 203, 3) := by decide +kernel
theorem d_Mo_beginGrammar_6 : decode prog_14_method_33_code 6 = .ok (.ifCond .eq 20, 3) := by decide +kernel
theorem d_Mo_beginGrammar_9 : decode prog_14_method_33_code 9 = .ok (.aload_n 0, 1) := by decide +kernel
theorem d_Mo_beginGrammar_10 : decode prog_14_method_33_code 10 = .ok (.dup, 1) := by decide +kernel
theorem d_Mo_beginGrammar_11 : decode prog_14_method_33_code 11 = .ok (.getfield 193, 3) := by decide +kernel
theorem d_Mo_beginGrammar_14 : decode prog_14_method_33_code 14 = .ok (.iconst 1, 1) := by decide +kernel
theorem d_Mo_beginGrammar_15 : decode prog_14_method_33_code 15 = .ok (.iadd, 1) := by decide +kernel
theorem d_Mo_beginGrammar_16 : decode prog_14_method_33_code 16 = .ok (.putfield 193, 3) := by decide +kernel
theorem d_Mo_beginGrammar_19 : decode prog_14_method_33_code 19 = .ok (.aload_n 0, 1) := by decide +kernel
theorem d_Mo_beginGrammar_20 : decode prog_14_method_33_code 20 = .ok (.sipush 402, 3) := by decide +kernel
theorem d_Mo_beginGrammar_23 : decode prog_14_method_33_code 23 = .ok (.invokevirtual 209, 3) := by decide +kernel
theorem d_Mo_beginGrammar_26 : decode prog_14_method_33_code 26 = .ok (.return_, 1) := by decide +kernel
abbrev m_Mo_kind : cx_M := (⟨"CircuitTextModel", "kind", "()I"⟩, prog_14_method_20_code, 1, (Option.some Jvm.ClassFile.FieldType.int), [], [false])
theorem w_Mo_kind : cx_W m_Mo_kind := ⟨Or.inl ⟨(in_7 (List.mem_of_getElem? (i := 141) rfl)), rfl⟩, by decide +kernel, by decide, by decide, by decide +kernel⟩
theorem n_Mo_kind : (parseMethodDescriptor m_Mo_kind.1.desc).map (fun d => d.parameters.length) = some 0 := by decide +kernel
theorem d_Mo_kind_0 : decode prog_14_method_20_code 0 = .ok (.aload_n 0, 1) := by decide +kernel
theorem d_Mo_kind_1 : decode prog_14_method_20_code 1 = .ok (.getfield 15, 3) := by decide +kernel
theorem d_Mo_kind_4 : decode prog_14_method_20_code 4 = .ok (.aload_n 0, 1) := by decide +kernel
theorem d_Mo_kind_5 : decode prog_14_method_20_code 5 = .ok (.getfield 193, 3) := by decide +kernel
theorem d_Mo_kind_8 : decode prog_14_method_20_code 8 = .ok (.iaload, 1) := by decide +kernel
theorem d_Mo_kind_9 : decode prog_14_method_20_code 9 = .ok (.ireturn, 1) := by decide +kernel
abbrev m_Mo_itemGrammar : cx_M := (⟨"CircuitTextModel", "itemGrammar", "()V"⟩, prog_14_method_37_code, 2, (Option.none : Option Jvm.ClassFile.FieldType), [], [false])
theorem w_Mo_itemGrammar : cx_W m_Mo_itemGrammar := ⟨Or.inl ⟨(in_7 (List.mem_of_getElem? (i := 145) rfl)), rfl⟩, by decide +kernel, by decide, by decide, by decide +kernel⟩
theorem n_Mo_itemGrammar : (parseMethodDescriptor m_Mo_itemGrammar.1.desc).map (fun d => d.parameters.length) = some 0 := by decide +kernel
theorem d_Mo_itemGrammar_0 : decode prog_14_method_37_code 0 = .ok (.aload_n 0, 1) := by decide +kernel
theorem d_Mo_itemGrammar_1 : decode prog_14_method_37_code 1 = .ok (.sipush 304, 3) := by decide +kernel
theorem d_Mo_itemGrammar_4 : decode prog_14_method_37_code 4 = .ok (.invokevirtual 203, 3) := by decide +kernel
theorem d_Mo_itemGrammar_7 : decode prog_14_method_37_code 7 = .ok (.ifCond .ne 13, 3) := by decide +kernel
theorem d_Mo_itemGrammar_10 : decode prog_14_method_37_code 10 = .ok (.aload_n 0, 1) := by decide +kernel
theorem d_Mo_itemGrammar_11 : decode prog_14_method_37_code 11 = .ok (.sipush 305, 3) := by decide +kernel
theorem d_Mo_itemGrammar_14 : decode prog_14_method_37_code 14 = .ok (.invokevirtual 203, 3) := by decide +kernel
theorem d_Mo_itemGrammar_17 : decode prog_14_method_37_code 17 = .ok (.ifCond .eq 49, 3) := by decide +kernel
theorem d_Mo_itemGrammar_20 : decode prog_14_method_37_code 20 = .ok (.aload_n 0, 1) := by decide +kernel
theorem d_Mo_itemGrammar_21 : decode prog_14_method_37_code 21 = .ok (.sipush 305, 3) := by decide +kernel
theorem d_Mo_itemGrammar_24 : decode prog_14_method_37_code 24 = .ok (.invokevirtual 203, 3) := by decide +kernel
theorem d_Mo_itemGrammar_27 : decode prog_14_method_37_code 27 = .ok (.istore_n 1, 1) := by decide +kernel
theorem d_Mo_itemGrammar_28 : decode prog_14_method_37_code 28 = .ok (.aload_n 0, 1) := by decide +kernel
theorem d_Mo_itemGrammar_29 : decode prog_14_method_37_code 29 = .ok (.dup, 1) := by decide +kernel
theorem d_Mo_itemGrammar_30 : decode prog_14_method_37_code 30 = .ok (.getfield 193, 3) := by decide +kernel
theorem d_Mo_itemGrammar_33 : decode prog_14_method_37_code 33 = .ok (.iconst 1, 1) := by decide +kernel
theorem d_Mo_itemGrammar_34 : decode prog_14_method_37_code 34 = .ok (.iadd, 1) := by decide +kernel
theorem d_Mo_itemGrammar_35 : decode prog_14_method_37_code 35 = .ok (.putfield 193, 3) := by decide +kernel
theorem d_Mo_itemGrammar_38 : decode prog_14_method_37_code 38 = .ok (.aload_n 0, 1) := by decide +kernel
theorem d_Mo_itemGrammar_39 : decode prog_14_method_37_code 39 = .ok (.invokevirtual 241, 3) := by decide +kernel
theorem d_Mo_itemGrammar_42 : decode prog_14_method_37_code 42 = .ok (.aload_n 0, 1) := by decide +kernel
theorem d_Mo_itemGrammar_43 : decode prog_14_method_37_code 43 = .ok (.sipush 400, 3) := by decide +kernel
theorem d_Mo_itemGrammar_46 : decode prog_14_method_37_code 46 = .ok (.invokevirtual 209, 3) := by decide +kernel
theorem d_Mo_itemGrammar_49 : decode prog_14_method_37_code 49 = .ok (.iload_n 1, 1) := by decide +kernel
theorem d_Mo_itemGrammar_50 : decode prog_14_method_37_code 50 = .ok (.ifCond .eq 7, 3) := by decide +kernel
theorem d_Mo_itemGrammar_53 : decode prog_14_method_37_code 53 = .ok (.aload_n 0, 1) := by decide +kernel
theorem d_Mo_itemGrammar_54 : decode prog_14_method_37_code 54 = .ok (.invokevirtual 244, 3) := by decide +kernel
theorem d_Mo_itemGrammar_57 : decode prog_14_method_37_code 57 = .ok (.aload_n 0, 1) := by decide +kernel
theorem d_Mo_itemGrammar_58 : decode prog_14_method_37_code 58 = .ok (.bipush 59, 2) := by decide +kernel
theorem d_Mo_itemGrammar_60 : decode prog_14_method_37_code 60 = .ok (.invokevirtual 209, 3) := by decide +kernel
theorem d_Mo_itemGrammar_63 : decode prog_14_method_37_code 63 = .ok (.goto 224, 3) := by decide +kernel
theorem d_Mo_itemGrammar_66 : decode prog_14_method_37_code 66 = .ok (.aload_n 0, 1) := by decide +kernel
theorem d_Mo_itemGrammar_67 : decode prog_14_method_37_code 67 = .ok (.sipush 306, 3) := by decide +kernel
theorem d_Mo_itemGrammar_70 : decode prog_14_method_37_code 70 = .ok (.invokevirtual 203, 3) := by decide +kernel
theorem d_Mo_itemGrammar_73 : decode prog_14_method_37_code 73 = .ok (.ifCond .eq 39, 3) := by decide +kernel
theorem d_Mo_itemGrammar_76 : decode prog_14_method_37_code 76 = .ok (.aload_n 0, 1) := by decide +kernel
theorem d_Mo_itemGrammar_77 : decode prog_14_method_37_code 77 = .ok (.dup, 1) := by decide +kernel
theorem d_Mo_itemGrammar_78 : decode prog_14_method_37_code 78 = .ok (.getfield 193, 3) := by decide +kernel
theorem d_Mo_itemGrammar_81 : decode prog_14_method_37_code 81 = .ok (.iconst 1, 1) := by decide +kernel
theorem d_Mo_itemGrammar_82 : decode prog_14_method_37_code 82 = .ok (.iadd, 1) := by decide +kernel
theorem d_Mo_itemGrammar_83 : decode prog_14_method_37_code 83 = .ok (.putfield 193, 3) := by decide +kernel
theorem d_Mo_itemGrammar_86 : decode prog_14_method_37_code 86 = .ok (.aload_n 0, 1) := by decide +kernel
theorem d_Mo_itemGrammar_87 : decode prog_14_method_37_code 87 = .ok (.sipush 400, 3) := by decide +kernel
theorem d_Mo_itemGrammar_90 : decode prog_14_method_37_code 90 = .ok (.invokevirtual 209, 3) := by decide +kernel
theorem d_Mo_itemGrammar_93 : decode prog_14_method_37_code 93 = .ok (.aload_n 0, 1) := by decide +kernel
theorem d_Mo_itemGrammar_94 : decode prog_14_method_37_code 94 = .ok (.bipush 61, 2) := by decide +kernel
theorem d_Mo_itemGrammar_96 : decode prog_14_method_37_code 96 = .ok (.invokevirtual 209, 3) := by decide +kernel
theorem d_Mo_itemGrammar_99 : decode prog_14_method_37_code 99 = .ok (.aload_n 0, 1) := by decide +kernel
theorem d_Mo_itemGrammar_100 : decode prog_14_method_37_code 100 = .ok (.invokevirtual 226, 3) := by decide +kernel
theorem d_Mo_itemGrammar_103 : decode prog_14_method_37_code 103 = .ok (.aload_n 0, 1) := by decide +kernel
theorem d_Mo_itemGrammar_104 : decode prog_14_method_37_code 104 = .ok (.bipush 59, 2) := by decide +kernel
theorem d_Mo_itemGrammar_106 : decode prog_14_method_37_code 106 = .ok (.invokevirtual 209, 3) := by decide +kernel
theorem d_Mo_itemGrammar_109 : decode prog_14_method_37_code 109 = .ok (.goto 178, 3) := by decide +kernel
theorem d_Mo_itemGrammar_112 : decode prog_14_method_37_code 112 = .ok (.aload_n 0, 1) := by decide +kernel
theorem d_Mo_itemGrammar_113 : decode prog_14_method_37_code 113 = .ok (.sipush 307, 3) := by decide +kernel
theorem d_Mo_itemGrammar_116 : decode prog_14_method_37_code 116 = .ok (.invokevirtual 203, 3) := by decide +kernel
theorem d_Mo_itemGrammar_119 : decode prog_14_method_37_code 119 = .ok (.ifCond .eq 52, 3) := by decide +kernel
theorem d_Mo_itemGrammar_122 : decode prog_14_method_37_code 122 = .ok (.aload_n 0, 1) := by decide +kernel
theorem d_Mo_itemGrammar_123 : decode prog_14_method_37_code 123 = .ok (.dup, 1) := by decide +kernel
theorem d_Mo_itemGrammar_124 : decode prog_14_method_37_code 124 = .ok (.getfield 193, 3) := by decide +kernel
theorem d_Mo_itemGrammar_127 : decode prog_14_method_37_code 127 = .ok (.iconst 1, 1) := by decide +kernel
theorem d_Mo_itemGrammar_128 : decode prog_14_method_37_code 128 = .ok (.iadd, 1) := by decide +kernel
theorem d_Mo_itemGrammar_129 : decode prog_14_method_37_code 129 = .ok (.putfield 193, 3) := by decide +kernel
theorem d_Mo_itemGrammar_132 : decode prog_14_method_37_code 132 = .ok (.aload_n 0, 1) := by decide +kernel
theorem d_Mo_itemGrammar_133 : decode prog_14_method_37_code 133 = .ok (.bipush 64, 2) := by decide +kernel
theorem d_Mo_itemGrammar_135 : decode prog_14_method_37_code 135 = .ok (.invokevirtual 209, 3) := by decide +kernel
theorem d_Mo_itemGrammar_138 : decode prog_14_method_37_code 138 = .ok (.aload_n 0, 1) := by decide +kernel
theorem d_Mo_itemGrammar_139 : decode prog_14_method_37_code 139 = .ok (.bipush 40, 2) := by decide +kernel
theorem d_Mo_itemGrammar_141 : decode prog_14_method_37_code 141 = .ok (.invokevirtual 223, 3) := by decide +kernel
theorem d_Mo_itemGrammar_144 : decode prog_14_method_37_code 144 = .ok (.aload_n 0, 1) := by decide +kernel
theorem d_Mo_itemGrammar_145 : decode prog_14_method_37_code 145 = .ok (.sipush 308, 3) := by decide +kernel
theorem d_Mo_itemGrammar_148 : decode prog_14_method_37_code 148 = .ok (.invokevirtual 209, 3) := by decide +kernel
theorem d_Mo_itemGrammar_151 : decode prog_14_method_37_code 151 = .ok (.aload_n 0, 1) := by decide +kernel
theorem d_Mo_itemGrammar_152 : decode prog_14_method_37_code 152 = .ok (.sipush 309, 3) := by decide +kernel
theorem d_Mo_itemGrammar_155 : decode prog_14_method_37_code 155 = .ok (.invokevirtual 209, 3) := by decide +kernel
theorem d_Mo_itemGrammar_158 : decode prog_14_method_37_code 158 = .ok (.aload_n 0, 1) := by decide +kernel
theorem d_Mo_itemGrammar_159 : decode prog_14_method_37_code 159 = .ok (.bipush 41, 2) := by decide +kernel
theorem d_Mo_itemGrammar_161 : decode prog_14_method_37_code 161 = .ok (.invokevirtual 235, 3) := by decide +kernel
theorem d_Mo_itemGrammar_164 : decode prog_14_method_37_code 164 = .ok (.aload_n 0, 1) := by decide +kernel
theorem d_Mo_itemGrammar_165 : decode prog_14_method_37_code 165 = .ok (.invokevirtual 247, 3) := by decide +kernel
theorem d_Mo_itemGrammar_168 : decode prog_14_method_37_code 168 = .ok (.goto 119, 3) := by decide +kernel
theorem d_Mo_itemGrammar_171 : decode prog_14_method_37_code 171 = .ok (.aload_n 0, 1) := by decide +kernel
theorem d_Mo_itemGrammar_172 : decode prog_14_method_37_code 172 = .ok (.sipush 317, 3) := by decide +kernel
theorem d_Mo_itemGrammar_175 : decode prog_14_method_37_code 175 = .ok (.invokevirtual 203, 3) := by decide +kernel
theorem d_Mo_itemGrammar_178 : decode prog_14_method_37_code 178 = .ok (.ifCond .eq 38, 3) := by decide +kernel
theorem d_Mo_itemGrammar_181 : decode prog_14_method_37_code 181 = .ok (.aload_n 0, 1) := by decide +kernel
theorem d_Mo_itemGrammar_182 : decode prog_14_method_37_code 182 = .ok (.dup, 1) := by decide +kernel
theorem d_Mo_itemGrammar_183 : decode prog_14_method_37_code 183 = .ok (.getfield 193, 3) := by decide +kernel
theorem d_Mo_itemGrammar_186 : decode prog_14_method_37_code 186 = .ok (.iconst 1, 1) := by decide +kernel
theorem d_Mo_itemGrammar_187 : decode prog_14_method_37_code 187 = .ok (.iadd, 1) := by decide +kernel
theorem d_Mo_itemGrammar_188 : decode prog_14_method_37_code 188 = .ok (.putfield 193, 3) := by decide +kernel
theorem d_Mo_itemGrammar_191 : decode prog_14_method_37_code 191 = .ok (.aload_n 0, 1) := by decide +kernel
theorem d_Mo_itemGrammar_192 : decode prog_14_method_37_code 192 = .ok (.bipush 40, 2) := by decide +kernel
theorem d_Mo_itemGrammar_194 : decode prog_14_method_37_code 194 = .ok (.invokevirtual 223, 3) := by decide +kernel
theorem d_Mo_itemGrammar_197 : decode prog_14_method_37_code 197 = .ok (.aload_n 0, 1) := by decide +kernel
theorem d_Mo_itemGrammar_198 : decode prog_14_method_37_code 198 = .ok (.invokevirtual 226, 3) := by decide +kernel
theorem d_Mo_itemGrammar_201 : decode prog_14_method_37_code 201 = .ok (.aload_n 0, 1) := by decide +kernel
theorem d_Mo_itemGrammar_202 : decode prog_14_method_37_code 202 = .ok (.bipush 41, 2) := by decide +kernel
theorem d_Mo_itemGrammar_204 : decode prog_14_method_37_code 204 = .ok (.invokevirtual 235, 3) := by decide +kernel
theorem d_Mo_itemGrammar_207 : decode prog_14_method_37_code 207 = .ok (.aload_n 0, 1) := by decide +kernel
theorem d_Mo_itemGrammar_208 : decode prog_14_method_37_code 208 = .ok (.bipush 59, 2) := by decide +kernel
theorem d_Mo_itemGrammar_210 : decode prog_14_method_37_code 210 = .ok (.invokevirtual 209, 3) := by decide +kernel
theorem d_Mo_itemGrammar_213 : decode prog_14_method_37_code 213 = .ok (.goto 74, 3) := by decide +kernel
theorem d_Mo_itemGrammar_216 : decode prog_14_method_37_code 216 = .ok (.aload_n 0, 1) := by decide +kernel
theorem d_Mo_itemGrammar_217 : decode prog_14_method_37_code 217 = .ok (.sipush 400, 3) := by decide +kernel
theorem d_Mo_itemGrammar_220 : decode prog_14_method_37_code 220 = .ok (.invokevirtual 209, 3) := by decide +kernel
theorem d_Mo_itemGrammar_223 : decode prog_14_method_37_code 223 = .ok (.aload_n 0, 1) := by decide +kernel
theorem d_Mo_itemGrammar_224 : decode prog_14_method_37_code 224 = .ok (.sipush 400, 3) := by decide +kernel
theorem d_Mo_itemGrammar_227 : decode prog_14_method_37_code 227 = .ok (.invokevirtual 209, 3) := by decide +kernel
theorem d_Mo_itemGrammar_230 : decode prog_14_method_37_code 230 = .ok (.aload_n 0, 1) := by decide +kernel
theorem d_Mo_itemGrammar_231 : decode prog_14_method_37_code 231 = .ok (.bipush 40, 2) := by decide +kernel
theorem d_Mo_itemGrammar_233 : decode prog_14_method_37_code 233 = .ok (.invokevirtual 223, 3) := by decide +kernel
theorem d_Mo_itemGrammar_236 : decode prog_14_method_37_code 236 = .ok (.aload_n 0, 1) := by decide +kernel
theorem d_Mo_itemGrammar_237 : decode prog_14_method_37_code 237 = .ok (.bipush 46, 2) := by decide +kernel
theorem d_Mo_itemGrammar_239 : decode prog_14_method_37_code 239 = .ok (.invokevirtual 203, 3) := by decide +kernel
theorem d_Mo_itemGrammar_242 : decode prog_14_method_37_code 242 = .ok (.ifCond .eq 33, 3) := by decide +kernel
theorem d_Mo_itemGrammar_245 : decode prog_14_method_37_code 245 = .ok (.aload_n 0, 1) := by decide +kernel
theorem d_Mo_itemGrammar_246 : decode prog_14_method_37_code 246 = .ok (.invokevirtual 253, 3) := by decide +kernel
theorem d_Mo_itemGrammar_249 : decode prog_14_method_37_code 249 = .ok (.aload_n 0, 1) := by decide +kernel
theorem d_Mo_itemGrammar_250 : decode prog_14_method_37_code 250 = .ok (.bipush 44, 2) := by decide +kernel
theorem d_Mo_itemGrammar_252 : decode prog_14_method_37_code 252 = .ok (.invokevirtual 203, 3) := by decide +kernel
theorem d_Mo_itemGrammar_255 : decode prog_14_method_37_code 255 = .ok (.ifCond .eq 20, 3) := by decide +kernel
theorem d_Mo_itemGrammar_258 : decode prog_14_method_37_code 258 = .ok (.aload_n 0, 1) := by decide +kernel
theorem d_Mo_itemGrammar_259 : decode prog_14_method_37_code 259 = .ok (.dup, 1) := by decide +kernel
theorem d_Mo_itemGrammar_260 : decode prog_14_method_37_code 260 = .ok (.getfield 193, 3) := by decide +kernel
theorem d_Mo_itemGrammar_263 : decode prog_14_method_37_code 263 = .ok (.iconst 1, 1) := by decide +kernel
theorem d_Mo_itemGrammar_264 : decode prog_14_method_37_code 264 = .ok (.iadd, 1) := by decide +kernel
theorem d_Mo_itemGrammar_265 : decode prog_14_method_37_code 265 = .ok (.putfield 193, 3) := by decide +kernel
theorem d_Mo_itemGrammar_268 : decode prog_14_method_37_code 268 = .ok (.aload_n 0, 1) := by decide +kernel
theorem d_Mo_itemGrammar_269 : decode prog_14_method_37_code 269 = .ok (.invokevirtual 253, 3) := by decide +kernel
theorem d_Mo_itemGrammar_272 : decode prog_14_method_37_code 272 = .ok (.goto (-23), 3) := by decide +kernel
theorem d_Mo_itemGrammar_275 : decode prog_14_method_37_code 275 = .ok (.aload_n 0, 1) := by decide +kernel
theorem d_Mo_itemGrammar_276 : decode prog_14_method_37_code 276 = .ok (.bipush 41, 2) := by decide +kernel
theorem d_Mo_itemGrammar_278 : decode prog_14_method_37_code 278 = .ok (.invokevirtual 235, 3) := by decide +kernel
theorem d_Mo_itemGrammar_281 : decode prog_14_method_37_code 281 = .ok (.aload_n 0, 1) := by decide +kernel
theorem d_Mo_itemGrammar_282 : decode prog_14_method_37_code 282 = .ok (.bipush 59, 2) := by decide +kernel
theorem d_Mo_itemGrammar_284 : decode prog_14_method_37_code 284 = .ok (.invokevirtual 209, 3) := by decide +kernel
theorem d_Mo_itemGrammar_287 : decode prog_14_method_37_code 287 = .ok (.return_, 1) := by decide +kernel
abbrev m_Mo_expGrammar : cx_M := (⟨"CircuitTextModel", "expGrammar", "()V"⟩, prog_14_method_28_code, 1, (Option.none : Option Jvm.ClassFile.FieldType), [], [false])
theorem w_Mo_expGrammar : cx_W m_Mo_expGrammar := ⟨Or.inl ⟨(in_7 (List.mem_of_getElem? (i := 149) rfl)), rfl⟩, by decide +kernel, by decide, by decide, by decide +kernel⟩
theorem n_Mo_expGrammar : (parseMethodDescriptor m_Mo_expGrammar.1.desc).map (fun d => d.parameters.length) = some 0 := by decide +kernel
theorem d_Mo_expGrammar_0 : decode prog_14_method_28_code 0 = .ok (.aload_n 0, 1) := by decide +kernel
theorem d_Mo_expGrammar_1 : decode prog_14_method_28_code 1 = .ok (.invokevirtual 213, 3) := by decide +kernel
theorem d_Mo_expGrammar_4 : decode prog_14_method_28_code 4 = .ok (.aload_n 0, 1) := by decide +kernel
theorem d_Mo_expGrammar_5 : decode prog_14_method_28_code 5 = .ok (.getfield 187, 3) := by decide +kernel
theorem d_Mo_expGrammar_8 : decode prog_14_method_28_code 8 = .ok (.ifCond .ne 30, 3) := by decide +kernel
theorem d_Mo_expGrammar_11 : decode prog_14_method_28_code 11 = .ok (.aload_n 0, 1) := by decide +kernel
theorem d_Mo_expGrammar_12 : decode prog_14_method_28_code 12 = .ok (.invokevirtual 216, 3) := by decide +kernel
theorem d_Mo_expGrammar_15 : decode prog_14_method_28_code 15 = .ok (.invokestatic 220, 3) := by decide +kernel
theorem d_Mo_expGrammar_18 : decode prog_14_method_28_code 18 = .ok (.ifCond .le 20, 3) := by decide +kernel
theorem d_Mo_expGrammar_21 : decode prog_14_method_28_code 21 = .ok (.aload_n 0, 1) := by decide +kernel
theorem d_Mo_expGrammar_22 : decode prog_14_method_28_code 22 = .ok (.dup, 1) := by decide +kernel
theorem d_Mo_expGrammar_23 : decode prog_14_method_28_code 23 = .ok (.getfield 193, 3) := by decide +kernel
theorem d_Mo_expGrammar_26 : decode prog_14_method_28_code 26 = .ok (.iconst 1, 1) := by decide +kernel
theorem d_Mo_expGrammar_27 : decode prog_14_method_28_code 27 = .ok (.iadd, 1) := by decide +kernel
theorem d_Mo_expGrammar_28 : decode prog_14_method_28_code 28 = .ok (.putfield 193, 3) := by decide +kernel
theorem d_Mo_expGrammar_31 : decode prog_14_method_28_code 31 = .ok (.aload_n 0, 1) := by decide +kernel
theorem d_Mo_expGrammar_32 : decode prog_14_method_28_code 32 = .ok (.invokevirtual 213, 3) := by decide +kernel
theorem d_Mo_expGrammar_35 : decode prog_14_method_28_code 35 = .ok (.goto (-31), 3) := by decide +kernel
theorem d_Mo_expGrammar_38 : decode prog_14_method_28_code 38 = .ok (.aload_n 0, 1) := by decide +kernel
theorem d_Mo_expGrammar_39 : decode prog_14_method_28_code 39 = .ok (.bipush 63, 2) := by decide +kernel
theorem d_Mo_expGrammar_41 : decode prog_14_method_28_code 41 = .ok (.invokevirtual 203, 3) := by decide +kernel
theorem d_Mo_expGrammar_44 : decode prog_14_method_28_code 44 = .ok (.ifCond .eq 33, 3) := by decide +kernel
theorem d_Mo_expGrammar_47 : decode prog_14_method_28_code 47 = .ok (.aload_n 0, 1) := by decide +kernel
theorem d_Mo_expGrammar_48 : decode prog_14_method_28_code 48 = .ok (.bipush 63, 2) := by decide +kernel
theorem d_Mo_expGrammar_50 : decode prog_14_method_28_code 50 = .ok (.invokevirtual 223, 3) := by decide +kernel
theorem d_Mo_expGrammar_53 : decode prog_14_method_28_code 53 = .ok (.aload_n 0, 1) := by decide +kernel
theorem d_Mo_expGrammar_54 : decode prog_14_method_28_code 54 = .ok (.invokevirtual 226, 3) := by decide +kernel
theorem d_Mo_expGrammar_57 : decode prog_14_method_28_code 57 = .ok (.aload_n 0, 1) := by decide +kernel
theorem d_Mo_expGrammar_58 : decode prog_14_method_28_code 58 = .ok (.bipush 58, 2) := by decide +kernel
theorem d_Mo_expGrammar_60 : decode prog_14_method_28_code 60 = .ok (.invokevirtual 209, 3) := by decide +kernel
theorem d_Mo_expGrammar_63 : decode prog_14_method_28_code 63 = .ok (.aload_n 0, 1) := by decide +kernel
theorem d_Mo_expGrammar_64 : decode prog_14_method_28_code 64 = .ok (.invokevirtual 226, 3) := by decide +kernel
theorem d_Mo_expGrammar_67 : decode prog_14_method_28_code 67 = .ok (.aload_n 0, 1) := by decide +kernel
theorem d_Mo_expGrammar_68 : decode prog_14_method_28_code 68 = .ok (.dup, 1) := by decide +kernel
theorem d_Mo_expGrammar_69 : decode prog_14_method_28_code 69 = .ok (.getfield 206, 3) := by decide +kernel
theorem d_Mo_expGrammar_72 : decode prog_14_method_28_code 72 = .ok (.iconst 1, 1) := by decide +kernel
theorem d_Mo_expGrammar_73 : decode prog_14_method_28_code 73 = .ok (.isub, 1) := by decide +kernel
theorem d_Mo_expGrammar_74 : decode prog_14_method_28_code 74 = .ok (.putfield 206, 3) := by decide +kernel
theorem d_Mo_expGrammar_77 : decode prog_14_method_28_code 77 = .ok (.return_, 1) := by decide +kernel
abbrev m_Mo_operandGrammar : cx_M := (⟨"CircuitTextModel", "operandGrammar", "()V"⟩, prog_14_method_29_code, 1, (Option.none : Option Jvm.ClassFile.FieldType), [], [false])
theorem w_Mo_operandGrammar : cx_W m_Mo_operandGrammar := ⟨Or.inl ⟨(in_7 (List.mem_of_getElem? (i := 153) rfl)), rfl⟩, by decide +kernel, by decide, by decide, by decide +kernel⟩
theorem n_Mo_operandGrammar : (parseMethodDescriptor m_Mo_operandGrammar.1.desc).map (fun d => d.parameters.length) = some 0 := by decide +kernel
theorem d_Mo_operandGrammar_0 : decode prog_14_method_29_code 0 = .ok (.aload_n 0, 1) := by decide +kernel
theorem d_Mo_operandGrammar_1 : decode prog_14_method_29_code 1 = .ok (.getfield 187, 3) := by decide +kernel
theorem d_Mo_operandGrammar_4 : decode prog_14_method_29_code 4 = .ok (.ifCond .ne 26, 3) := by decide +kernel
theorem d_Mo_operandGrammar_7 : decode prog_14_method_29_code 7 = .ok (.aload_n 0, 1) := by decide +kernel
theorem d_Mo_operandGrammar_8 : decode prog_14_method_29_code 8 = .ok (.invokevirtual 216, 3) := by decide +kernel
theorem d_Mo_operandGrammar_11 : decode prog_14_method_29_code 11 = .ok (.invokestatic 229, 3) := by decide +kernel
theorem d_Mo_operandGrammar_14 : decode prog_14_method_29_code 14 = .ok (.ifCond .eq 16, 3) := by decide +kernel
theorem d_Mo_operandGrammar_17 : decode prog_14_method_29_code 17 = .ok (.aload_n 0, 1) := by decide +kernel
theorem d_Mo_operandGrammar_18 : decode prog_14_method_29_code 18 = .ok (.dup, 1) := by decide +kernel
theorem d_Mo_operandGrammar_19 : decode prog_14_method_29_code 19 = .ok (.getfield 193, 3) := by decide +kernel
theorem d_Mo_operandGrammar_22 : decode prog_14_method_29_code 22 = .ok (.iconst 1, 1) := by decide +kernel
theorem d_Mo_operandGrammar_23 : decode prog_14_method_29_code 23 = .ok (.iadd, 1) := by decide +kernel
theorem d_Mo_operandGrammar_24 : decode prog_14_method_29_code 24 = .ok (.putfield 193, 3) := by decide +kernel
theorem d_Mo_operandGrammar_27 : decode prog_14_method_29_code 27 = .ok (.goto (-27), 3) := by decide +kernel
theorem d_Mo_operandGrammar_30 : decode prog_14_method_29_code 30 = .ok (.aload_n 0, 1) := by decide +kernel
theorem d_Mo_operandGrammar_31 : decode prog_14_method_29_code 31 = .ok (.sipush 402, 3) := by decide +kernel
theorem d_Mo_operandGrammar_34 : decode prog_14_method_29_code 34 = .ok (.invokevirtual 203, 3) := by decide +kernel
theorem d_Mo_operandGrammar_37 : decode prog_14_method_29_code 37 = .ok (.ifCond .eq 16, 3) := by decide +kernel
theorem d_Mo_operandGrammar_40 : decode prog_14_method_29_code 40 = .ok (.aload_n 0, 1) := by decide +kernel
theorem d_Mo_operandGrammar_41 : decode prog_14_method_29_code 41 = .ok (.dup, 1) := by decide +kernel
theorem d_Mo_operandGrammar_42 : decode prog_14_method_29_code 42 = .ok (.getfield 193, 3) := by decide +kernel
theorem d_Mo_operandGrammar_45 : decode prog_14_method_29_code 45 = .ok (.iconst 1, 1) := by decide +kernel
theorem d_Mo_operandGrammar_46 : decode prog_14_method_29_code 46 = .ok (.iadd, 1) := by decide +kernel
theorem d_Mo_operandGrammar_47 : decode prog_14_method_29_code 47 = .ok (.putfield 193, 3) := by decide +kernel
theorem d_Mo_operandGrammar_50 : decode prog_14_method_29_code 50 = .ok (.goto 116, 3) := by decide +kernel
theorem d_Mo_operandGrammar_53 : decode prog_14_method_29_code 53 = .ok (.aload_n 0, 1) := by decide +kernel
theorem d_Mo_operandGrammar_54 : decode prog_14_method_29_code 54 = .ok (.sipush 400, 3) := by decide +kernel
theorem d_Mo_operandGrammar_57 : decode prog_14_method_29_code 57 = .ok (.invokevirtual 203, 3) := by decide +kernel
theorem d_Mo_operandGrammar_60 : decode prog_14_method_29_code 60 = .ok (.ifCond .eq 58, 3) := by decide +kernel
theorem d_Mo_operandGrammar_63 : decode prog_14_method_29_code 63 = .ok (.aload_n 0, 1) := by decide +kernel
theorem d_Mo_operandGrammar_64 : decode prog_14_method_29_code 64 = .ok (.dup, 1) := by decide +kernel
theorem d_Mo_operandGrammar_65 : decode prog_14_method_29_code 65 = .ok (.getfield 193, 3) := by decide +kernel
theorem d_Mo_operandGrammar_68 : decode prog_14_method_29_code 68 = .ok (.iconst 1, 1) := by decide +kernel
theorem d_Mo_operandGrammar_69 : decode prog_14_method_29_code 69 = .ok (.iadd, 1) := by decide +kernel
theorem d_Mo_operandGrammar_70 : decode prog_14_method_29_code 70 = .ok (.putfield 193, 3) := by decide +kernel
theorem d_Mo_operandGrammar_73 : decode prog_14_method_29_code 73 = .ok (.aload_n 0, 1) := by decide +kernel
theorem d_Mo_operandGrammar_74 : decode prog_14_method_29_code 74 = .ok (.bipush 91, 2) := by decide +kernel
theorem d_Mo_operandGrammar_76 : decode prog_14_method_29_code 76 = .ok (.invokevirtual 203, 3) := by decide +kernel
theorem d_Mo_operandGrammar_79 : decode prog_14_method_29_code 79 = .ok (.ifCond .eq 87, 3) := by decide +kernel
theorem d_Mo_operandGrammar_82 : decode prog_14_method_29_code 82 = .ok (.aload_n 0, 1) := by decide +kernel
theorem d_Mo_operandGrammar_83 : decode prog_14_method_29_code 83 = .ok (.bipush 91, 2) := by decide +kernel
theorem d_Mo_operandGrammar_85 : decode prog_14_method_29_code 85 = .ok (.invokevirtual 223, 3) := by decide +kernel
theorem d_Mo_operandGrammar_88 : decode prog_14_method_29_code 88 = .ok (.aload_n 0, 1) := by decide +kernel
theorem d_Mo_operandGrammar_89 : decode prog_14_method_29_code 89 = .ok (.sipush 401, 3) := by decide +kernel
theorem d_Mo_operandGrammar_92 : decode prog_14_method_29_code 92 = .ok (.invokevirtual 203, 3) := by decide +kernel
theorem d_Mo_operandGrammar_95 : decode prog_14_method_29_code 95 = .ok (.ifCond .eq 10, 3) := by decide +kernel
theorem d_Mo_operandGrammar_98 : decode prog_14_method_29_code 98 = .ok (.aload_n 0, 1) := by decide +kernel
theorem d_Mo_operandGrammar_99 : decode prog_14_method_29_code 99 = .ok (.invokevirtual 232, 3) := by decide +kernel
theorem d_Mo_operandGrammar_102 : decode prog_14_method_29_code 102 = .ok (.goto 7, 3) := by decide +kernel
theorem d_Mo_operandGrammar_105 : decode prog_14_method_29_code 105 = .ok (.aload_n 0, 1) := by decide +kernel
theorem d_Mo_operandGrammar_106 : decode prog_14_method_29_code 106 = .ok (.invokevirtual 226, 3) := by decide +kernel
theorem d_Mo_operandGrammar_109 : decode prog_14_method_29_code 109 = .ok (.aload_n 0, 1) := by decide +kernel
theorem d_Mo_operandGrammar_110 : decode prog_14_method_29_code 110 = .ok (.bipush 93, 2) := by decide +kernel
theorem d_Mo_operandGrammar_112 : decode prog_14_method_29_code 112 = .ok (.invokevirtual 235, 3) := by decide +kernel
theorem d_Mo_operandGrammar_115 : decode prog_14_method_29_code 115 = .ok (.goto 51, 3) := by decide +kernel
theorem d_Mo_operandGrammar_118 : decode prog_14_method_29_code 118 = .ok (.aload_n 0, 1) := by decide +kernel
theorem d_Mo_operandGrammar_119 : decode prog_14_method_29_code 119 = .ok (.bipush 40, 2) := by decide +kernel
theorem d_Mo_operandGrammar_121 : decode prog_14_method_29_code 121 = .ok (.invokevirtual 203, 3) := by decide +kernel
theorem d_Mo_operandGrammar_124 : decode prog_14_method_29_code 124 = .ok (.ifCond .eq 22, 3) := by decide +kernel
theorem d_Mo_operandGrammar_127 : decode prog_14_method_29_code 127 = .ok (.aload_n 0, 1) := by decide +kernel
theorem d_Mo_operandGrammar_128 : decode prog_14_method_29_code 128 = .ok (.bipush 40, 2) := by decide +kernel
theorem d_Mo_operandGrammar_130 : decode prog_14_method_29_code 130 = .ok (.invokevirtual 223, 3) := by decide +kernel
theorem d_Mo_operandGrammar_133 : decode prog_14_method_29_code 133 = .ok (.aload_n 0, 1) := by decide +kernel
theorem d_Mo_operandGrammar_134 : decode prog_14_method_29_code 134 = .ok (.invokevirtual 226, 3) := by decide +kernel
theorem d_Mo_operandGrammar_137 : decode prog_14_method_29_code 137 = .ok (.aload_n 0, 1) := by decide +kernel
theorem d_Mo_operandGrammar_138 : decode prog_14_method_29_code 138 = .ok (.bipush 41, 2) := by decide +kernel
theorem d_Mo_operandGrammar_140 : decode prog_14_method_29_code 140 = .ok (.invokevirtual 235, 3) := by decide +kernel
theorem d_Mo_operandGrammar_143 : decode prog_14_method_29_code 143 = .ok (.goto 23, 3) := by decide +kernel
theorem d_Mo_operandGrammar_146 : decode prog_14_method_29_code 146 = .ok (.aload_n 0, 1) := by decide +kernel
theorem d_Mo_operandGrammar_147 : decode prog_14_method_29_code 147 = .ok (.bipush 123, 2) := by decide +kernel
theorem d_Mo_operandGrammar_149 : decode prog_14_method_29_code 149 = .ok (.invokevirtual 203, 3) := by decide +kernel
theorem d_Mo_operandGrammar_152 : decode prog_14_method_29_code 152 = .ok (.ifCond .eq 10, 3) := by decide +kernel
theorem d_Mo_operandGrammar_155 : decode prog_14_method_29_code 155 = .ok (.aload_n 0, 1) := by decide +kernel
theorem d_Mo_operandGrammar_156 : decode prog_14_method_29_code 156 = .ok (.invokevirtual 238, 3) := by decide +kernel
theorem d_Mo_operandGrammar_159 : decode prog_14_method_29_code 159 = .ok (.goto 7, 3) := by decide +kernel
theorem d_Mo_operandGrammar_162 : decode prog_14_method_29_code 162 = .ok (.aload_n 0, 1) := by decide +kernel
theorem d_Mo_operandGrammar_163 : decode prog_14_method_29_code 163 = .ok (.invokevirtual 200, 3) := by decide +kernel
theorem d_Mo_operandGrammar_166 : decode prog_14_method_29_code 166 = .ok (.return_, 1) := by decide +kernel
abbrev m_Mo_isUnary : cx_M := (⟨"CircuitTextModel", "isUnary", "(I)Z"⟩, prog_14_method_26_code, 1, (Option.some Jvm.ClassFile.FieldType.boolean), [], [false])
theorem w_Mo_isUnary : cx_W m_Mo_isUnary := ⟨Or.inl ⟨(in_7 (List.mem_of_getElem? (i := 156) rfl)), rfl⟩, by decide +kernel, by decide, by decide, by decide +kernel⟩
theorem n_Mo_isUnary : (parseMethodDescriptor m_Mo_isUnary.1.desc).map (fun d => d.parameters.length) = some 1 := by decide +kernel
theorem d_Mo_isUnary_0 : decode prog_14_method_26_code 0 = .ok (.iload_n 0, 1) := by decide +kernel
theorem d_Mo_isUnary_1 : decode prog_14_method_26_code 1 = .ok (.bipush 126, 2) := by decide +kernel
theorem d_Mo_isUnary_3 : decode prog_14_method_26_code 3 = .ok (.if_icmp .eq 33, 3) := by decide +kernel
theorem d_Mo_isUnary_6 : decode prog_14_method_26_code 6 = .ok (.iload_n 0, 1) := by decide +kernel
theorem d_Mo_isUnary_7 : decode prog_14_method_26_code 7 = .ok (.bipush 33, 2) := by decide +kernel
theorem d_Mo_isUnary_9 : decode prog_14_method_26_code 9 = .ok (.if_icmp .eq 27, 3) := by decide +kernel
theorem d_Mo_isUnary_12 : decode prog_14_method_26_code 12 = .ok (.iload_n 0, 1) := by decide +kernel
theorem d_Mo_isUnary_13 : decode prog_14_method_26_code 13 = .ok (.bipush 45, 2) := by decide +kernel
theorem d_Mo_isUnary_15 : decode prog_14_method_26_code 15 = .ok (.if_icmp .eq 21, 3) := by decide +kernel
theorem d_Mo_isUnary_18 : decode prog_14_method_26_code 18 = .ok (.iload_n 0, 1) := by decide +kernel
theorem d_Mo_isUnary_19 : decode prog_14_method_26_code 19 = .ok (.bipush 38, 2) := by decide +kernel
theorem d_Mo_isUnary_21 : decode prog_14_method_26_code 21 = .ok (.if_icmp .eq 15, 3) := by decide +kernel
theorem d_Mo_isUnary_24 : decode prog_14_method_26_code 24 = .ok (.iload_n 0, 1) := by decide +kernel
theorem d_Mo_isUnary_25 : decode prog_14_method_26_code 25 = .ok (.bipush 124, 2) := by decide +kernel
theorem d_Mo_isUnary_27 : decode prog_14_method_26_code 27 = .ok (.if_icmp .eq 9, 3) := by decide +kernel
theorem d_Mo_isUnary_30 : decode prog_14_method_26_code 30 = .ok (.iload_n 0, 1) := by decide +kernel
theorem d_Mo_isUnary_31 : decode prog_14_method_26_code 31 = .ok (.bipush 94, 2) := by decide +kernel
theorem d_Mo_isUnary_33 : decode prog_14_method_26_code 33 = .ok (.if_icmp .ne 7, 3) := by decide +kernel
theorem d_Mo_isUnary_36 : decode prog_14_method_26_code 36 = .ok (.iconst 1, 1) := by decide +kernel
theorem d_Mo_isUnary_37 : decode prog_14_method_26_code 37 = .ok (.goto 4, 3) := by decide +kernel
theorem d_Mo_isUnary_40 : decode prog_14_method_26_code 40 = .ok (.iconst 0, 1) := by decide +kernel
theorem d_Mo_isUnary_41 : decode prog_14_method_26_code 41 = .ok (.ireturn, 1) := by decide +kernel
abbrev m_Mo_partGrammar : cx_M := (⟨"CircuitTextModel", "partGrammar", "()V"⟩, prog_14_method_30_code, 1, (Option.none : Option Jvm.ClassFile.FieldType), [], [false])
theorem w_Mo_partGrammar : cx_W m_Mo_partGrammar := ⟨Or.inl ⟨(in_7 (List.mem_of_getElem? (i := 160) rfl)), rfl⟩, by decide +kernel, by decide, by decide, by decide +kernel⟩
theorem n_Mo_partGrammar : (parseMethodDescriptor m_Mo_partGrammar.1.desc).map (fun d => d.parameters.length) = some 0 := by decide +kernel
theorem d_Mo_partGrammar_0 : decode prog_14_method_30_code 0 = .ok (.aload_n 0, 1) := by decide +kernel
theorem d_Mo_partGrammar_1 : decode prog_14_method_30_code 1 = .ok (.sipush 401, 3) := by decide +kernel
theorem d_Mo_partGrammar_4 : decode prog_14_method_30_code 4 = .ok (.invokevirtual 209, 3) := by decide +kernel
theorem d_Mo_partGrammar_7 : decode prog_14_method_30_code 7 = .ok (.aload_n 0, 1) := by decide +kernel
theorem d_Mo_partGrammar_8 : decode prog_14_method_30_code 8 = .ok (.bipush 58, 2) := by decide +kernel
theorem d_Mo_partGrammar_10 : decode prog_14_method_30_code 10 = .ok (.invokevirtual 203, 3) := by decide +kernel
theorem d_Mo_partGrammar_13 : decode prog_14_method_30_code 13 = .ok (.ifCond .eq 20, 3) := by decide +kernel
theorem d_Mo_partGrammar_16 : decode prog_14_method_30_code 16 = .ok (.aload_n 0, 1) := by decide +kernel
theorem d_Mo_partGrammar_17 : decode prog_14_method_30_code 17 = .ok (.dup, 1) := by decide +kernel
theorem d_Mo_partGrammar_18 : decode prog_14_method_30_code 18 = .ok (.getfield 193, 3) := by decide +kernel
theorem d_Mo_partGrammar_21 : decode prog_14_method_30_code 21 = .ok (.iconst 1, 1) := by decide +kernel
theorem d_Mo_partGrammar_22 : decode prog_14_method_30_code 22 = .ok (.iadd, 1) := by decide +kernel
theorem d_Mo_partGrammar_23 : decode prog_14_method_30_code 23 = .ok (.putfield 193, 3) := by decide +kernel
theorem d_Mo_partGrammar_26 : decode prog_14_method_30_code 26 = .ok (.aload_n 0, 1) := by decide +kernel
theorem d_Mo_partGrammar_27 : decode prog_14_method_30_code 27 = .ok (.sipush 401, 3) := by decide +kernel
theorem d_Mo_partGrammar_30 : decode prog_14_method_30_code 30 = .ok (.invokevirtual 209, 3) := by decide +kernel
theorem d_Mo_partGrammar_33 : decode prog_14_method_30_code 33 = .ok (.return_, 1) := by decide +kernel
abbrev m_Mo_bracesGrammar : cx_M := (⟨"CircuitTextModel", "bracesGrammar", "()V"⟩, prog_14_method_31_code, 1, (Option.none : Option Jvm.ClassFile.FieldType), [], [false])
theorem w_Mo_bracesGrammar : cx_W m_Mo_bracesGrammar := ⟨Or.inl ⟨(in_7 (List.mem_of_getElem? (i := 164) rfl)), rfl⟩, by decide +kernel, by decide, by decide, by decide +kernel⟩
theorem n_Mo_bracesGrammar : (parseMethodDescriptor m_Mo_bracesGrammar.1.desc).map (fun d => d.parameters.length) = some 0 := by decide +kernel
theorem d_Mo_bracesGrammar_0 : decode prog_14_method_31_code 0 = .ok (.aload_n 0, 1) := by decide +kernel
theorem d_Mo_bracesGrammar_1 : decode prog_14_method_31_code 1 = .ok (.bipush 123, 2) := by decide +kernel
theorem d_Mo_bracesGrammar_3 : decode prog_14_method_31_code 3 = .ok (.invokevirtual 223, 3) := by decide +kernel
theorem d_Mo_bracesGrammar_6 : decode prog_14_method_31_code 6 = .ok (.aload_n 0, 1) := by decide +kernel
theorem d_Mo_bracesGrammar_7 : decode prog_14_method_31_code 7 = .ok (.sipush 401, 3) := by decide +kernel
theorem d_Mo_bracesGrammar_10 : decode prog_14_method_31_code 10 = .ok (.invokevirtual 203, 3) := by decide +kernel
theorem d_Mo_bracesGrammar_13 : decode prog_14_method_31_code 13 = .ok (.ifCond .eq 32, 3) := by decide +kernel
theorem d_Mo_bracesGrammar_16 : decode prog_14_method_31_code 16 = .ok (.aload_n 0, 1) := by decide +kernel
theorem d_Mo_bracesGrammar_17 : decode prog_14_method_31_code 17 = .ok (.dup, 1) := by decide +kernel
theorem d_Mo_bracesGrammar_18 : decode prog_14_method_31_code 18 = .ok (.getfield 193, 3) := by decide +kernel
theorem d_Mo_bracesGrammar_21 : decode prog_14_method_31_code 21 = .ok (.iconst 1, 1) := by decide +kernel
theorem d_Mo_bracesGrammar_22 : decode prog_14_method_31_code 22 = .ok (.iadd, 1) := by decide +kernel
theorem d_Mo_bracesGrammar_23 : decode prog_14_method_31_code 23 = .ok (.putfield 193, 3) := by decide +kernel
theorem d_Mo_bracesGrammar_26 : decode prog_14_method_31_code 26 = .ok (.aload_n 0, 1) := by decide +kernel
theorem d_Mo_bracesGrammar_27 : decode prog_14_method_31_code 27 = .ok (.bipush 123, 2) := by decide +kernel
theorem d_Mo_bracesGrammar_29 : decode prog_14_method_31_code 29 = .ok (.invokevirtual 223, 3) := by decide +kernel
theorem d_Mo_bracesGrammar_32 : decode prog_14_method_31_code 32 = .ok (.aload_n 0, 1) := by decide +kernel
theorem d_Mo_bracesGrammar_33 : decode prog_14_method_31_code 33 = .ok (.invokevirtual 226, 3) := by decide +kernel
theorem d_Mo_bracesGrammar_36 : decode prog_14_method_31_code 36 = .ok (.aload_n 0, 1) := by decide +kernel
theorem d_Mo_bracesGrammar_37 : decode prog_14_method_31_code 37 = .ok (.bipush 125, 2) := by decide +kernel
theorem d_Mo_bracesGrammar_39 : decode prog_14_method_31_code 39 = .ok (.invokevirtual 235, 3) := by decide +kernel
theorem d_Mo_bracesGrammar_42 : decode prog_14_method_31_code 42 = .ok (.goto 33, 3) := by decide +kernel
theorem d_Mo_bracesGrammar_45 : decode prog_14_method_31_code 45 = .ok (.aload_n 0, 1) := by decide +kernel
theorem d_Mo_bracesGrammar_46 : decode prog_14_method_31_code 46 = .ok (.invokevirtual 226, 3) := by decide +kernel
theorem d_Mo_bracesGrammar_49 : decode prog_14_method_31_code 49 = .ok (.aload_n 0, 1) := by decide +kernel
theorem d_Mo_bracesGrammar_50 : decode prog_14_method_31_code 50 = .ok (.bipush 44, 2) := by decide +kernel
theorem d_Mo_bracesGrammar_52 : decode prog_14_method_31_code 52 = .ok (.invokevirtual 203, 3) := by decide +kernel
theorem d_Mo_bracesGrammar_55 : decode prog_14_method_31_code 55 = .ok (.ifCond .eq 20, 3) := by decide +kernel
theorem d_Mo_bracesGrammar_58 : decode prog_14_method_31_code 58 = .ok (.aload_n 0, 1) := by decide +kernel
theorem d_Mo_bracesGrammar_59 : decode prog_14_method_31_code 59 = .ok (.dup, 1) := by decide +kernel
theorem d_Mo_bracesGrammar_60 : decode prog_14_method_31_code 60 = .ok (.getfield 193, 3) := by decide +kernel
theorem d_Mo_bracesGrammar_63 : decode prog_14_method_31_code 63 = .ok (.iconst 1, 1) := by decide +kernel
theorem d_Mo_bracesGrammar_64 : decode prog_14_method_31_code 64 = .ok (.iadd, 1) := by decide +kernel
theorem d_Mo_bracesGrammar_65 : decode prog_14_method_31_code 65 = .ok (.putfield 193, 3) := by decide +kernel
theorem d_Mo_bracesGrammar_68 : decode prog_14_method_31_code 68 = .ok (.aload_n 0, 1) := by decide +kernel
theorem d_Mo_bracesGrammar_69 : decode prog_14_method_31_code 69 = .ok (.invokevirtual 226, 3) := by decide +kernel
theorem d_Mo_bracesGrammar_72 : decode prog_14_method_31_code 72 = .ok (.goto (-23), 3) := by decide +kernel
theorem d_Mo_bracesGrammar_75 : decode prog_14_method_31_code 75 = .ok (.aload_n 0, 1) := by decide +kernel
theorem d_Mo_bracesGrammar_76 : decode prog_14_method_31_code 76 = .ok (.bipush 125, 2) := by decide +kernel
theorem d_Mo_bracesGrammar_78 : decode prog_14_method_31_code 78 = .ok (.invokevirtual 235, 3) := by decide +kernel
theorem d_Mo_bracesGrammar_81 : decode prog_14_method_31_code 81 = .ok (.return_, 1) := by decide +kernel
abbrev m_Mo_rank : cx_M := (⟨"CircuitTextModel", "rank", "(I)I"⟩, prog_14_method_27_code, 1, (Option.some Jvm.ClassFile.FieldType.int), [], [false])
theorem w_Mo_rank : cx_W m_Mo_rank := ⟨Or.inl ⟨(in_7 (List.mem_of_getElem? (i := 167) rfl)), rfl⟩, by decide +kernel, by decide, by decide, by decide +kernel⟩
theorem n_Mo_rank : (parseMethodDescriptor m_Mo_rank.1.desc).map (fun d => d.parameters.length) = some 1 := by decide +kernel
theorem d_Mo_rank_0 : decode prog_14_method_27_code 0 = .ok (.iload_n 0, 1) := by decide +kernel
theorem d_Mo_rank_1 : decode prog_14_method_27_code 1 = .ok (.lookupswitch 164 #[(38, 147), (42, 161), (43, 158), (45, 158), (60, 152), (62, 152), (94, 145), (124, 143), (256, 141), (257, 139), (258, 149), (259, 149), (260, 152), (261, 152), (262, 155), (263, 155)], 139) := by decide +kernel
theorem d_Mo_rank_140 : decode prog_14_method_27_code 140 = .ok (.iconst 1, 1) := by decide +kernel
theorem d_Mo_rank_141 : decode prog_14_method_27_code 141 = .ok (.ireturn, 1) := by decide +kernel
theorem d_Mo_rank_142 : decode prog_14_method_27_code 142 = .ok (.iconst 2, 1) := by decide +kernel
theorem d_Mo_rank_143 : decode prog_14_method_27_code 143 = .ok (.ireturn, 1) := by decide +kernel
theorem d_Mo_rank_144 : decode prog_14_method_27_code 144 = .ok (.iconst 3, 1) := by decide +kernel
theorem d_Mo_rank_145 : decode prog_14_method_27_code 145 = .ok (.ireturn, 1) := by decide +kernel
theorem d_Mo_rank_146 : decode prog_14_method_27_code 146 = .ok (.iconst 4, 1) := by decide +kernel
theorem d_Mo_rank_147 : decode prog_14_method_27_code 147 = .ok (.ireturn, 1) := by decide +kernel
theorem d_Mo_rank_148 : decode prog_14_method_27_code 148 = .ok (.iconst 5, 1) := by decide +kernel
theorem d_Mo_rank_149 : decode prog_14_method_27_code 149 = .ok (.ireturn, 1) := by decide +kernel
theorem d_Mo_rank_150 : decode prog_14_method_27_code 150 = .ok (.bipush 6, 2) := by decide +kernel
theorem d_Mo_rank_152 : decode prog_14_method_27_code 152 = .ok (.ireturn, 1) := by decide +kernel
theorem d_Mo_rank_153 : decode prog_14_method_27_code 153 = .ok (.bipush 7, 2) := by decide +kernel
theorem d_Mo_rank_155 : decode prog_14_method_27_code 155 = .ok (.ireturn, 1) := by decide +kernel
theorem d_Mo_rank_156 : decode prog_14_method_27_code 156 = .ok (.bipush 8, 2) := by decide +kernel
theorem d_Mo_rank_158 : decode prog_14_method_27_code 158 = .ok (.ireturn, 1) := by decide +kernel
theorem d_Mo_rank_159 : decode prog_14_method_27_code 159 = .ok (.bipush 9, 2) := by decide +kernel
theorem d_Mo_rank_161 : decode prog_14_method_27_code 161 = .ok (.ireturn, 1) := by decide +kernel
theorem d_Mo_rank_162 : decode prog_14_method_27_code 162 = .ok (.bipush 10, 2) := by decide +kernel
theorem d_Mo_rank_164 : decode prog_14_method_27_code 164 = .ok (.ireturn, 1) := by decide +kernel
theorem d_Mo_rank_165 : decode prog_14_method_27_code 165 = .ok (.iconst 0, 1) := by decide +kernel
theorem d_Mo_rank_166 : decode prog_14_method_27_code 166 = .ok (.ireturn, 1) := by decide +kernel
abbrev m_Mo_statementGrammar : cx_M := (⟨"CircuitTextModel", "statementGrammar", "()V"⟩, prog_14_method_35_code, 1, (Option.none : Option Jvm.ClassFile.FieldType), [], [false])
theorem w_Mo_statementGrammar : cx_W m_Mo_statementGrammar := ⟨Or.inl ⟨(in_7 (List.mem_of_getElem? (i := 171) rfl)), rfl⟩, by decide +kernel, by decide, by decide, by decide +kernel⟩
theorem n_Mo_statementGrammar : (parseMethodDescriptor m_Mo_statementGrammar.1.desc).map (fun d => d.parameters.length) = some 0 := by decide +kernel
theorem d_Mo_statementGrammar_0 : decode prog_14_method_35_code 0 = .ok (.aload_n 0, 1) := by decide +kernel
theorem d_Mo_statementGrammar_1 : decode prog_14_method_35_code 1 = .ok (.sipush 310, 3) := by decide +kernel
theorem d_Mo_statementGrammar_4 : decode prog_14_method_35_code 4 = .ok (.invokevirtual 203, 3) := by decide +kernel
theorem d_Mo_statementGrammar_7 : decode prog_14_method_35_code 7 = .ok (.ifCond .eq 44, 3) := by decide +kernel
theorem d_Mo_statementGrammar_10 : decode prog_14_method_35_code 10 = .ok (.aload_n 0, 1) := by decide +kernel
theorem d_Mo_statementGrammar_11 : decode prog_14_method_35_code 11 = .ok (.sipush 310, 3) := by decide +kernel
theorem d_Mo_statementGrammar_14 : decode prog_14_method_35_code 14 = .ok (.invokevirtual 223, 3) := by decide +kernel
theorem d_Mo_statementGrammar_17 : decode prog_14_method_35_code 17 = .ok (.aload_n 0, 1) := by decide +kernel
theorem d_Mo_statementGrammar_18 : decode prog_14_method_35_code 18 = .ok (.getfield 187, 3) := by decide +kernel
theorem d_Mo_statementGrammar_21 : decode prog_14_method_35_code 21 = .ok (.ifCond .ne 20, 3) := by decide +kernel
theorem d_Mo_statementGrammar_24 : decode prog_14_method_35_code 24 = .ok (.aload_n 0, 1) := by decide +kernel
theorem d_Mo_statementGrammar_25 : decode prog_14_method_35_code 25 = .ok (.invokevirtual 216, 3) := by decide +kernel
theorem d_Mo_statementGrammar_28 : decode prog_14_method_35_code 28 = .ok (.sipush 311, 3) := by decide +kernel
theorem d_Mo_statementGrammar_31 : decode prog_14_method_35_code 31 = .ok (.if_icmp .eq 10, 3) := by decide +kernel
theorem d_Mo_statementGrammar_34 : decode prog_14_method_35_code 34 = .ok (.aload_n 0, 1) := by decide +kernel
theorem d_Mo_statementGrammar_35 : decode prog_14_method_35_code 35 = .ok (.invokevirtual 247, 3) := by decide +kernel
theorem d_Mo_statementGrammar_38 : decode prog_14_method_35_code 38 = .ok (.goto (-21), 3) := by decide +kernel
theorem d_Mo_statementGrammar_41 : decode prog_14_method_35_code 41 = .ok (.aload_n 0, 1) := by decide +kernel
theorem d_Mo_statementGrammar_42 : decode prog_14_method_35_code 42 = .ok (.sipush 311, 3) := by decide +kernel
theorem d_Mo_statementGrammar_45 : decode prog_14_method_35_code 45 = .ok (.invokevirtual 235, 3) := by decide +kernel
theorem d_Mo_statementGrammar_48 : decode prog_14_method_35_code 48 = .ok (.goto 143, 3) := by decide +kernel
theorem d_Mo_statementGrammar_51 : decode prog_14_method_35_code 51 = .ok (.aload_n 0, 1) := by decide +kernel
theorem d_Mo_statementGrammar_52 : decode prog_14_method_35_code 52 = .ok (.sipush 312, 3) := by decide +kernel
theorem d_Mo_statementGrammar_55 : decode prog_14_method_35_code 55 = .ok (.invokevirtual 203, 3) := by decide +kernel
theorem d_Mo_statementGrammar_58 : decode prog_14_method_35_code 58 = .ok (.ifCond .eq 67, 3) := by decide +kernel
theorem d_Mo_statementGrammar_61 : decode prog_14_method_35_code 61 = .ok (.aload_n 0, 1) := by decide +kernel
theorem d_Mo_statementGrammar_62 : decode prog_14_method_35_code 62 = .ok (.sipush 312, 3) := by decide +kernel
theorem d_Mo_statementGrammar_65 : decode prog_14_method_35_code 65 = .ok (.invokevirtual 223, 3) := by decide +kernel
theorem d_Mo_statementGrammar_68 : decode prog_14_method_35_code 68 = .ok (.aload_n 0, 1) := by decide +kernel
theorem d_Mo_statementGrammar_69 : decode prog_14_method_35_code 69 = .ok (.bipush 40, 2) := by decide +kernel
theorem d_Mo_statementGrammar_71 : decode prog_14_method_35_code 71 = .ok (.invokevirtual 223, 3) := by decide +kernel
theorem d_Mo_statementGrammar_74 : decode prog_14_method_35_code 74 = .ok (.aload_n 0, 1) := by decide +kernel
theorem d_Mo_statementGrammar_75 : decode prog_14_method_35_code 75 = .ok (.invokevirtual 226, 3) := by decide +kernel
theorem d_Mo_statementGrammar_78 : decode prog_14_method_35_code 78 = .ok (.aload_n 0, 1) := by decide +kernel
theorem d_Mo_statementGrammar_79 : decode prog_14_method_35_code 79 = .ok (.bipush 41, 2) := by decide +kernel
theorem d_Mo_statementGrammar_81 : decode prog_14_method_35_code 81 = .ok (.invokevirtual 235, 3) := by decide +kernel
theorem d_Mo_statementGrammar_84 : decode prog_14_method_35_code 84 = .ok (.aload_n 0, 1) := by decide +kernel
theorem d_Mo_statementGrammar_85 : decode prog_14_method_35_code 85 = .ok (.invokevirtual 247, 3) := by decide +kernel
theorem d_Mo_statementGrammar_88 : decode prog_14_method_35_code 88 = .ok (.aload_n 0, 1) := by decide +kernel
theorem d_Mo_statementGrammar_89 : decode prog_14_method_35_code 89 = .ok (.sipush 313, 3) := by decide +kernel
theorem d_Mo_statementGrammar_92 : decode prog_14_method_35_code 92 = .ok (.invokevirtual 203, 3) := by decide +kernel
theorem d_Mo_statementGrammar_95 : decode prog_14_method_35_code 95 = .ok (.ifCond .eq 17, 3) := by decide +kernel
theorem d_Mo_statementGrammar_98 : decode prog_14_method_35_code 98 = .ok (.aload_n 0, 1) := by decide +kernel
theorem d_Mo_statementGrammar_99 : decode prog_14_method_35_code 99 = .ok (.dup, 1) := by decide +kernel
theorem d_Mo_statementGrammar_100 : decode prog_14_method_35_code 100 = .ok (.getfield 193, 3) := by decide +kernel
theorem d_Mo_statementGrammar_103 : decode prog_14_method_35_code 103 = .ok (.iconst 1, 1) := by decide +kernel
theorem d_Mo_statementGrammar_104 : decode prog_14_method_35_code 104 = .ok (.iadd, 1) := by decide +kernel
theorem d_Mo_statementGrammar_105 : decode prog_14_method_35_code 105 = .ok (.putfield 193, 3) := by decide +kernel
theorem d_Mo_statementGrammar_108 : decode prog_14_method_35_code 108 = .ok (.aload_n 0, 1) := by decide +kernel
theorem d_Mo_statementGrammar_109 : decode prog_14_method_35_code 109 = .ok (.invokevirtual 247, 3) := by decide +kernel
theorem d_Mo_statementGrammar_112 : decode prog_14_method_35_code 112 = .ok (.aload_n 0, 1) := by decide +kernel
theorem d_Mo_statementGrammar_113 : decode prog_14_method_35_code 113 = .ok (.dup, 1) := by decide +kernel
theorem d_Mo_statementGrammar_114 : decode prog_14_method_35_code 114 = .ok (.getfield 206, 3) := by decide +kernel
theorem d_Mo_statementGrammar_117 : decode prog_14_method_35_code 117 = .ok (.iconst 1, 1) := by decide +kernel
theorem d_Mo_statementGrammar_118 : decode prog_14_method_35_code 118 = .ok (.isub, 1) := by decide +kernel
theorem d_Mo_statementGrammar_119 : decode prog_14_method_35_code 119 = .ok (.putfield 206, 3) := by decide +kernel
theorem d_Mo_statementGrammar_122 : decode prog_14_method_35_code 122 = .ok (.goto 69, 3) := by decide +kernel
theorem d_Mo_statementGrammar_125 : decode prog_14_method_35_code 125 = .ok (.aload_n 0, 1) := by decide +kernel
theorem d_Mo_statementGrammar_126 : decode prog_14_method_35_code 126 = .ok (.sipush 314, 3) := by decide +kernel
theorem d_Mo_statementGrammar_129 : decode prog_14_method_35_code 129 = .ok (.invokevirtual 203, 3) := by decide +kernel
theorem d_Mo_statementGrammar_132 : decode prog_14_method_35_code 132 = .ok (.ifCond .eq 10, 3) := by decide +kernel
theorem d_Mo_statementGrammar_135 : decode prog_14_method_35_code 135 = .ok (.aload_n 0, 1) := by decide +kernel
theorem d_Mo_statementGrammar_136 : decode prog_14_method_35_code 136 = .ok (.invokevirtual 250, 3) := by decide +kernel
theorem d_Mo_statementGrammar_139 : decode prog_14_method_35_code 139 = .ok (.goto 52, 3) := by decide +kernel
theorem d_Mo_statementGrammar_142 : decode prog_14_method_35_code 142 = .ok (.aload_n 0, 1) := by decide +kernel
theorem d_Mo_statementGrammar_143 : decode prog_14_method_35_code 143 = .ok (.sipush 400, 3) := by decide +kernel
theorem d_Mo_statementGrammar_146 : decode prog_14_method_35_code 146 = .ok (.invokevirtual 209, 3) := by decide +kernel
theorem d_Mo_statementGrammar_149 : decode prog_14_method_35_code 149 = .ok (.aload_n 0, 1) := by decide +kernel
theorem d_Mo_statementGrammar_150 : decode prog_14_method_35_code 150 = .ok (.bipush 91, 2) := by decide +kernel
theorem d_Mo_statementGrammar_152 : decode prog_14_method_35_code 152 = .ok (.invokevirtual 203, 3) := by decide +kernel
theorem d_Mo_statementGrammar_155 : decode prog_14_method_35_code 155 = .ok (.ifCond .eq 19, 3) := by decide +kernel
theorem d_Mo_statementGrammar_158 : decode prog_14_method_35_code 158 = .ok (.aload_n 0, 1) := by decide +kernel
theorem d_Mo_statementGrammar_159 : decode prog_14_method_35_code 159 = .ok (.bipush 91, 2) := by decide +kernel
theorem d_Mo_statementGrammar_161 : decode prog_14_method_35_code 161 = .ok (.invokevirtual 223, 3) := by decide +kernel
theorem d_Mo_statementGrammar_164 : decode prog_14_method_35_code 164 = .ok (.aload_n 0, 1) := by decide +kernel
theorem d_Mo_statementGrammar_165 : decode prog_14_method_35_code 165 = .ok (.invokevirtual 232, 3) := by decide +kernel
theorem d_Mo_statementGrammar_168 : decode prog_14_method_35_code 168 = .ok (.aload_n 0, 1) := by decide +kernel
theorem d_Mo_statementGrammar_169 : decode prog_14_method_35_code 169 = .ok (.bipush 93, 2) := by decide +kernel
theorem d_Mo_statementGrammar_171 : decode prog_14_method_35_code 171 = .ok (.invokevirtual 235, 3) := by decide +kernel
theorem d_Mo_statementGrammar_174 : decode prog_14_method_35_code 174 = .ok (.aload_n 0, 1) := by decide +kernel
theorem d_Mo_statementGrammar_175 : decode prog_14_method_35_code 175 = .ok (.sipush 260, 3) := by decide +kernel
theorem d_Mo_statementGrammar_178 : decode prog_14_method_35_code 178 = .ok (.invokevirtual 209, 3) := by decide +kernel
theorem d_Mo_statementGrammar_181 : decode prog_14_method_35_code 181 = .ok (.aload_n 0, 1) := by decide +kernel
theorem d_Mo_statementGrammar_182 : decode prog_14_method_35_code 182 = .ok (.invokevirtual 226, 3) := by decide +kernel
theorem d_Mo_statementGrammar_185 : decode prog_14_method_35_code 185 = .ok (.aload_n 0, 1) := by decide +kernel
theorem d_Mo_statementGrammar_186 : decode prog_14_method_35_code 186 = .ok (.bipush 59, 2) := by decide +kernel
theorem d_Mo_statementGrammar_188 : decode prog_14_method_35_code 188 = .ok (.invokevirtual 209, 3) := by decide +kernel
theorem d_Mo_statementGrammar_191 : decode prog_14_method_35_code 191 = .ok (.return_, 1) := by decide +kernel
abbrev m_Mo_caseGrammar : cx_M := (⟨"CircuitTextModel", "caseGrammar", "()V"⟩, prog_14_method_36_code, 1, (Option.none : Option Jvm.ClassFile.FieldType), [], [false])
theorem w_Mo_caseGrammar : cx_W m_Mo_caseGrammar := ⟨Or.inl ⟨(in_7 (List.mem_of_getElem? (i := 175) rfl)), rfl⟩, by decide +kernel, by decide, by decide, by decide +kernel⟩
theorem n_Mo_caseGrammar : (parseMethodDescriptor m_Mo_caseGrammar.1.desc).map (fun d => d.parameters.length) = some 0 := by decide +kernel
theorem d_Mo_caseGrammar_0 : decode prog_14_method_36_code 0 = .ok (.aload_n 0, 1) := by decide +kernel
theorem d_Mo_caseGrammar_1 : decode prog_14_method_36_code 1 = .ok (.sipush 314, 3) := by decide +kernel
theorem d_Mo_caseGrammar_4 : decode prog_14_method_36_code 4 = .ok (.invokevirtual 223, 3) := by decide +kernel
theorem d_Mo_caseGrammar_7 : decode prog_14_method_36_code 7 = .ok (.aload_n 0, 1) := by decide +kernel
theorem d_Mo_caseGrammar_8 : decode prog_14_method_36_code 8 = .ok (.bipush 40, 2) := by decide +kernel
theorem d_Mo_caseGrammar_10 : decode prog_14_method_36_code 10 = .ok (.invokevirtual 223, 3) := by decide +kernel
theorem d_Mo_caseGrammar_13 : decode prog_14_method_36_code 13 = .ok (.aload_n 0, 1) := by decide +kernel
theorem d_Mo_caseGrammar_14 : decode prog_14_method_36_code 14 = .ok (.invokevirtual 226, 3) := by decide +kernel
theorem d_Mo_caseGrammar_17 : decode prog_14_method_36_code 17 = .ok (.aload_n 0, 1) := by decide +kernel
theorem d_Mo_caseGrammar_18 : decode prog_14_method_36_code 18 = .ok (.bipush 41, 2) := by decide +kernel
theorem d_Mo_caseGrammar_20 : decode prog_14_method_36_code 20 = .ok (.invokevirtual 235, 3) := by decide +kernel
theorem d_Mo_caseGrammar_23 : decode prog_14_method_36_code 23 = .ok (.aload_n 0, 1) := by decide +kernel
theorem d_Mo_caseGrammar_24 : decode prog_14_method_36_code 24 = .ok (.sipush 402, 3) := by decide +kernel
theorem d_Mo_caseGrammar_27 : decode prog_14_method_36_code 27 = .ok (.invokevirtual 203, 3) := by decide +kernel
theorem d_Mo_caseGrammar_30 : decode prog_14_method_36_code 30 = .ok (.ifCond .eq 55, 3) := by decide +kernel
theorem d_Mo_caseGrammar_33 : decode prog_14_method_36_code 33 = .ok (.aload_n 0, 1) := by decide +kernel
theorem d_Mo_caseGrammar_34 : decode prog_14_method_36_code 34 = .ok (.dup, 1) := by decide +kernel
theorem d_Mo_caseGrammar_35 : decode prog_14_method_36_code 35 = .ok (.getfield 193, 3) := by decide +kernel
theorem d_Mo_caseGrammar_38 : decode prog_14_method_36_code 38 = .ok (.iconst 1, 1) := by decide +kernel
theorem d_Mo_caseGrammar_39 : decode prog_14_method_36_code 39 = .ok (.iadd, 1) := by decide +kernel
theorem d_Mo_caseGrammar_40 : decode prog_14_method_36_code 40 = .ok (.putfield 193, 3) := by decide +kernel
theorem d_Mo_caseGrammar_43 : decode prog_14_method_36_code 43 = .ok (.aload_n 0, 1) := by decide +kernel
theorem d_Mo_caseGrammar_44 : decode prog_14_method_36_code 44 = .ok (.bipush 44, 2) := by decide +kernel
theorem d_Mo_caseGrammar_46 : decode prog_14_method_36_code 46 = .ok (.invokevirtual 203, 3) := by decide +kernel
theorem d_Mo_caseGrammar_49 : decode prog_14_method_36_code 49 = .ok (.ifCond .eq 23, 3) := by decide +kernel
theorem d_Mo_caseGrammar_52 : decode prog_14_method_36_code 52 = .ok (.aload_n 0, 1) := by decide +kernel
theorem d_Mo_caseGrammar_53 : decode prog_14_method_36_code 53 = .ok (.dup, 1) := by decide +kernel
theorem d_Mo_caseGrammar_54 : decode prog_14_method_36_code 54 = .ok (.getfield 193, 3) := by decide +kernel
theorem d_Mo_caseGrammar_57 : decode prog_14_method_36_code 57 = .ok (.iconst 1, 1) := by decide +kernel
theorem d_Mo_caseGrammar_58 : decode prog_14_method_36_code 58 = .ok (.iadd, 1) := by decide +kernel
theorem d_Mo_caseGrammar_59 : decode prog_14_method_36_code 59 = .ok (.putfield 193, 3) := by decide +kernel
theorem d_Mo_caseGrammar_62 : decode prog_14_method_36_code 62 = .ok (.aload_n 0, 1) := by decide +kernel
theorem d_Mo_caseGrammar_63 : decode prog_14_method_36_code 63 = .ok (.sipush 402, 3) := by decide +kernel
theorem d_Mo_caseGrammar_66 : decode prog_14_method_36_code 66 = .ok (.invokevirtual 209, 3) := by decide +kernel
theorem d_Mo_caseGrammar_69 : decode prog_14_method_36_code 69 = .ok (.goto (-26), 3) := by decide +kernel
theorem d_Mo_caseGrammar_72 : decode prog_14_method_36_code 72 = .ok (.aload_n 0, 1) := by decide +kernel
theorem d_Mo_caseGrammar_73 : decode prog_14_method_36_code 73 = .ok (.bipush 58, 2) := by decide +kernel
theorem d_Mo_caseGrammar_75 : decode prog_14_method_36_code 75 = .ok (.invokevirtual 209, 3) := by decide +kernel
theorem d_Mo_caseGrammar_78 : decode prog_14_method_36_code 78 = .ok (.aload_n 0, 1) := by decide +kernel
theorem d_Mo_caseGrammar_79 : decode prog_14_method_36_code 79 = .ok (.invokevirtual 247, 3) := by decide +kernel
theorem d_Mo_caseGrammar_82 : decode prog_14_method_36_code 82 = .ok (.goto (-59), 3) := by decide +kernel
theorem d_Mo_caseGrammar_85 : decode prog_14_method_36_code 85 = .ok (.aload_n 0, 1) := by decide +kernel
theorem d_Mo_caseGrammar_86 : decode prog_14_method_36_code 86 = .ok (.sipush 316, 3) := by decide +kernel
theorem d_Mo_caseGrammar_89 : decode prog_14_method_36_code 89 = .ok (.invokevirtual 203, 3) := by decide +kernel
theorem d_Mo_caseGrammar_92 : decode prog_14_method_36_code 92 = .ok (.ifCond .eq 23, 3) := by decide +kernel
theorem d_Mo_caseGrammar_95 : decode prog_14_method_36_code 95 = .ok (.aload_n 0, 1) := by decide +kernel
theorem d_Mo_caseGrammar_96 : decode prog_14_method_36_code 96 = .ok (.dup, 1) := by decide +kernel
theorem d_Mo_caseGrammar_97 : decode prog_14_method_36_code 97 = .ok (.getfield 193, 3) := by decide +kernel
theorem d_Mo_caseGrammar_100 : decode prog_14_method_36_code 100 = .ok (.iconst 1, 1) := by decide +kernel
theorem d_Mo_caseGrammar_101 : decode prog_14_method_36_code 101 = .ok (.iadd, 1) := by decide +kernel
theorem d_Mo_caseGrammar_102 : decode prog_14_method_36_code 102 = .ok (.putfield 193, 3) := by decide +kernel
theorem d_Mo_caseGrammar_105 : decode prog_14_method_36_code 105 = .ok (.aload_n 0, 1) := by decide +kernel
theorem d_Mo_caseGrammar_106 : decode prog_14_method_36_code 106 = .ok (.bipush 58, 2) := by decide +kernel
theorem d_Mo_caseGrammar_108 : decode prog_14_method_36_code 108 = .ok (.invokevirtual 209, 3) := by decide +kernel
theorem d_Mo_caseGrammar_111 : decode prog_14_method_36_code 111 = .ok (.aload_n 0, 1) := by decide +kernel
theorem d_Mo_caseGrammar_112 : decode prog_14_method_36_code 112 = .ok (.invokevirtual 247, 3) := by decide +kernel
theorem d_Mo_caseGrammar_115 : decode prog_14_method_36_code 115 = .ok (.aload_n 0, 1) := by decide +kernel
theorem d_Mo_caseGrammar_116 : decode prog_14_method_36_code 116 = .ok (.sipush 315, 3) := by decide +kernel
theorem d_Mo_caseGrammar_119 : decode prog_14_method_36_code 119 = .ok (.invokevirtual 235, 3) := by decide +kernel
theorem d_Mo_caseGrammar_122 : decode prog_14_method_36_code 122 = .ok (.return_, 1) := by decide +kernel
abbrev m_Mo_linkGrammar : cx_M := (⟨"CircuitTextModel", "linkGrammar", "()V"⟩, prog_14_method_38_code, 1, (Option.none : Option Jvm.ClassFile.FieldType), [], [false])
theorem w_Mo_linkGrammar : cx_W m_Mo_linkGrammar := ⟨Or.inl ⟨(in_7 (List.mem_of_getElem? (i := 179) rfl)), rfl⟩, by decide +kernel, by decide, by decide, by decide +kernel⟩
theorem n_Mo_linkGrammar : (parseMethodDescriptor m_Mo_linkGrammar.1.desc).map (fun d => d.parameters.length) = some 0 := by decide +kernel
theorem d_Mo_linkGrammar_0 : decode prog_14_method_38_code 0 = .ok (.aload_n 0, 1) := by decide +kernel
theorem d_Mo_linkGrammar_1 : decode prog_14_method_38_code 1 = .ok (.bipush 46, 2) := by decide +kernel
theorem d_Mo_linkGrammar_3 : decode prog_14_method_38_code 3 = .ok (.invokevirtual 209, 3) := by decide +kernel
theorem d_Mo_linkGrammar_6 : decode prog_14_method_38_code 6 = .ok (.aload_n 0, 1) := by decide +kernel
theorem d_Mo_linkGrammar_7 : decode prog_14_method_38_code 7 = .ok (.sipush 400, 3) := by decide +kernel
theorem d_Mo_linkGrammar_10 : decode prog_14_method_38_code 10 = .ok (.invokevirtual 209, 3) := by decide +kernel
theorem d_Mo_linkGrammar_13 : decode prog_14_method_38_code 13 = .ok (.aload_n 0, 1) := by decide +kernel
theorem d_Mo_linkGrammar_14 : decode prog_14_method_38_code 14 = .ok (.bipush 40, 2) := by decide +kernel
theorem d_Mo_linkGrammar_16 : decode prog_14_method_38_code 16 = .ok (.invokevirtual 223, 3) := by decide +kernel
theorem d_Mo_linkGrammar_19 : decode prog_14_method_38_code 19 = .ok (.aload_n 0, 1) := by decide +kernel
theorem d_Mo_linkGrammar_20 : decode prog_14_method_38_code 20 = .ok (.invokevirtual 226, 3) := by decide +kernel
theorem d_Mo_linkGrammar_23 : decode prog_14_method_38_code 23 = .ok (.aload_n 0, 1) := by decide +kernel
theorem d_Mo_linkGrammar_24 : decode prog_14_method_38_code 24 = .ok (.bipush 41, 2) := by decide +kernel
theorem d_Mo_linkGrammar_26 : decode prog_14_method_38_code 26 = .ok (.invokevirtual 235, 3) := by decide +kernel
theorem d_Mo_linkGrammar_29 : decode prog_14_method_38_code 29 = .ok (.return_, 1) := by decide +kernel
abbrev m_Mo_design : cx_M := (⟨"CircuitTextModel", "design", "()V"⟩, prog_14_method_71_code, 1, (Option.none : Option Jvm.ClassFile.FieldType), [], [false])
theorem w_Mo_design : cx_W m_Mo_design := ⟨Or.inl ⟨(in_7 (List.mem_of_getElem? (i := 183) rfl)), rfl⟩, by decide +kernel, by decide, by decide, by decide +kernel⟩
theorem n_Mo_design : (parseMethodDescriptor m_Mo_design.1.desc).map (fun d => d.parameters.length) = some 0 := by decide +kernel
theorem d_Mo_design_0 : decode prog_14_method_71_code 0 = .ok (.aload_n 0, 1) := by decide +kernel
theorem d_Mo_design_1 : decode prog_14_method_71_code 1 = .ok (.iconst 0, 1) := by decide +kernel
theorem d_Mo_design_2 : decode prog_14_method_71_code 2 = .ok (.putfield 193, 3) := by decide +kernel
theorem d_Mo_design_5 : decode prog_14_method_71_code 5 = .ok (.aload_n 0, 1) := by decide +kernel
theorem d_Mo_design_6 : decode prog_14_method_71_code 6 = .ok (.iconst 0, 1) := by decide +kernel
theorem d_Mo_design_7 : decode prog_14_method_71_code 7 = .ok (.putfield 266, 3) := by decide +kernel
theorem d_Mo_design_10 : decode prog_14_method_71_code 10 = .ok (.aload_n 0, 1) := by decide +kernel
theorem d_Mo_design_11 : decode prog_14_method_71_code 11 = .ok (.iconst 0, 1) := by decide +kernel
theorem d_Mo_design_12 : decode prog_14_method_71_code 12 = .ok (.putfield 269, 3) := by decide +kernel
theorem d_Mo_design_15 : decode prog_14_method_71_code 15 = .ok (.aload_n 0, 1) := by decide +kernel
theorem d_Mo_design_16 : decode prog_14_method_71_code 16 = .ok (.iconst 0, 1) := by decide +kernel
theorem d_Mo_design_17 : decode prog_14_method_71_code 17 = .ok (.putfield 276, 3) := by decide +kernel
theorem d_Mo_design_20 : decode prog_14_method_71_code 20 = .ok (.aload_n 0, 1) := by decide +kernel
theorem d_Mo_design_21 : decode prog_14_method_71_code 21 = .ok (.iconst 0, 1) := by decide +kernel
theorem d_Mo_design_22 : decode prog_14_method_71_code 22 = .ok (.putfield 371, 3) := by decide +kernel
theorem d_Mo_design_25 : decode prog_14_method_71_code 25 = .ok (.aload_n 0, 1) := by decide +kernel
theorem d_Mo_design_26 : decode prog_14_method_71_code 26 = .ok (.iconst 0, 1) := by decide +kernel
theorem d_Mo_design_27 : decode prog_14_method_71_code 27 = .ok (.putfield 383, 3) := by decide +kernel
theorem d_Mo_design_30 : decode prog_14_method_71_code 30 = .ok (.aload_n 0, 1) := by decide +kernel
theorem d_Mo_design_31 : decode prog_14_method_71_code 31 = .ok (.iconst 0, 1) := by decide +kernel
theorem d_Mo_design_32 : decode prog_14_method_71_code 32 = .ok (.putfield 365, 3) := by decide +kernel
theorem d_Mo_design_35 : decode prog_14_method_71_code 35 = .ok (.aload_n 0, 1) := by decide +kernel
theorem d_Mo_design_36 : decode prog_14_method_71_code 36 = .ok (.iconst 0, 1) := by decide +kernel
theorem d_Mo_design_37 : decode prog_14_method_71_code 37 = .ok (.putfield 279, 3) := by decide +kernel
theorem d_Mo_design_40 : decode prog_14_method_71_code 40 = .ok (.aload_n 0, 1) := by decide +kernel
theorem d_Mo_design_41 : decode prog_14_method_71_code 41 = .ok (.iconst 0, 1) := by decide +kernel
theorem d_Mo_design_42 : decode prog_14_method_71_code 42 = .ok (.putfield 282, 3) := by decide +kernel
theorem d_Mo_design_45 : decode prog_14_method_71_code 45 = .ok (.aload_n 0, 1) := by decide +kernel
theorem d_Mo_design_46 : decode prog_14_method_71_code 46 = .ok (.iconst 0, 1) := by decide +kernel
theorem d_Mo_design_47 : decode prog_14_method_71_code 47 = .ok (.putfield 298, 3) := by decide +kernel
theorem d_Mo_design_50 : decode prog_14_method_71_code 50 = .ok (.aload_n 0, 1) := by decide +kernel
theorem d_Mo_design_51 : decode prog_14_method_71_code 51 = .ok (.iconst 0, 1) := by decide +kernel
theorem d_Mo_design_52 : decode prog_14_method_71_code 52 = .ok (.putfield 310, 3) := by decide +kernel
theorem d_Mo_design_55 : decode prog_14_method_71_code 55 = .ok (.aload_n 0, 1) := by decide +kernel
theorem d_Mo_design_56 : decode prog_14_method_71_code 56 = .ok (.getfield 71, 3) := by decide +kernel
theorem d_Mo_design_59 : decode prog_14_method_71_code 59 = .ok (.iconst 0, 1) := by decide +kernel
theorem d_Mo_design_60 : decode prog_14_method_71_code 60 = .ok (.iconst 0, 1) := by decide +kernel
theorem d_Mo_design_61 : decode prog_14_method_71_code 61 = .ok (.iastore, 1) := by decide +kernel
theorem d_Mo_design_62 : decode prog_14_method_71_code 62 = .ok (.aload_n 0, 1) := by decide +kernel
theorem d_Mo_design_63 : decode prog_14_method_71_code 63 = .ok (.getfield 187, 3) := by decide +kernel
theorem d_Mo_design_66 : decode prog_14_method_71_code 66 = .ok (.ifCond .ne 20, 3) := by decide +kernel
theorem d_Mo_design_69 : decode prog_14_method_71_code 69 = .ok (.aload_n 0, 1) := by decide +kernel
theorem d_Mo_design_70 : decode prog_14_method_71_code 70 = .ok (.invokevirtual 216, 3) := by decide +kernel
theorem d_Mo_design_73 : decode prog_14_method_71_code 73 = .ok (.sipush 403, 3) := by decide +kernel
theorem d_Mo_design_76 : decode prog_14_method_71_code 76 = .ok (.if_icmp .eq 10, 3) := by decide +kernel
theorem d_Mo_design_79 : decode prog_14_method_71_code 79 = .ok (.aload_n 0, 1) := by decide +kernel
theorem d_Mo_design_80 : decode prog_14_method_71_code 80 = .ok (.invokevirtual 395, 3) := by decide +kernel
theorem d_Mo_design_83 : decode prog_14_method_71_code 83 = .ok (.goto (-21), 3) := by decide +kernel
theorem d_Mo_design_86 : decode prog_14_method_71_code 86 = .ok (.return_, 1) := by decide +kernel
theorem f_Mo_266 : cx_F "CircuitTextModel" 266 12 12 (.int) false := ⟨_, F_Mo, 58, t_Mo, k_Mo, by decide, rfl, rfl, Or.inl (in_6 (List.mem_of_getElem? (i := 107) rfl))⟩
theorem f_Mo_269 : cx_F "CircuitTextModel" 269 12 18 (.int) false := ⟨_, F_Mo, 58, t_Mo, k_Mo, by decide, rfl, rfl, Or.inl (in_6 (List.mem_of_getElem? (i := 113) rfl))⟩
theorem f_Mo_276 : cx_F "CircuitTextModel" 276 12 27 (.int) false := ⟨_, F_Mo, 58, t_Mo, k_Mo, by decide, rfl, rfl, Or.inl (in_6 (List.mem_of_getElem? (i := 122) rfl))⟩
theorem f_Mo_371 : cx_F "CircuitTextModel" 371 12 31 (.int) false := ⟨_, F_Mo, 58, t_Mo, k_Mo, by decide, rfl, rfl, Or.inl (in_6 (List.mem_of_getElem? (i := 126) rfl))⟩
theorem f_Mo_383 : cx_F "CircuitTextModel" 383 12 35 (.int) false := ⟨_, F_Mo, 58, t_Mo, k_Mo, by decide, rfl, rfl, Or.inl (in_6 (List.mem_of_getElem? (i := 130) rfl))⟩
theorem f_Mo_365 : cx_F "CircuitTextModel" 365 12 38 (.int) false := ⟨_, F_Mo, 58, t_Mo, k_Mo, by decide, rfl, rfl, Or.inl (in_6 (List.mem_of_getElem? (i := 133) rfl))⟩
theorem f_Mo_279 : cx_F "CircuitTextModel" 279 12 42 (.int) false := ⟨_, F_Mo, 58, t_Mo, k_Mo, by decide, rfl, rfl, Or.inl (in_6 (List.mem_of_getElem? (i := 137) rfl))⟩
theorem f_Mo_282 : cx_F "CircuitTextModel" 282 12 44 (.int) false := ⟨_, F_Mo, 58, t_Mo, k_Mo, by decide, rfl, rfl, Or.inl (in_6 (List.mem_of_getElem? (i := 139) rfl))⟩
theorem f_Mo_298 : cx_F "CircuitTextModel" 298 12 48 (.int) false := ⟨_, F_Mo, 58, t_Mo, k_Mo, by decide, rfl, rfl, Or.inl (in_6 (List.mem_of_getElem? (i := 143) rfl))⟩
theorem f_Mo_310 : cx_F "CircuitTextModel" 310 12 50 (.int) false := ⟨_, F_Mo, 58, t_Mo, k_Mo, by decide, rfl, rfl, Or.inl (in_6 (List.mem_of_getElem? (i := 145) rfl))⟩
theorem f_Mo_71 : cx_F "CircuitTextModel" 71 12 30 (.array .int) true := ⟨_, F_Mo, 58, t_Mo, k_Mo, by decide, rfl, rfl, Or.inl (in_6 (List.mem_of_getElem? (i := 125) rfl))⟩
theorem ff_Mo_71 : cx_FF "CircuitTextModel" 71 12 30 (.array .int) := ⟨_, F_Mo, 58, t_Mo, k_Mo, by decide, rfl, rfl, rfl, (in_6 (List.mem_of_getElem? (i := 125) rfl))⟩
abbrev m_Mo_module1 : cx_M := (⟨"CircuitTextModel", "module", "()V"⟩, prog_14_method_70_code, 2, (Option.none : Option Jvm.ClassFile.FieldType), [], [false])
theorem w_Mo_module1 : cx_W m_Mo_module1 := ⟨Or.inl ⟨(in_7 (List.mem_of_getElem? (i := 187) rfl)), rfl⟩, by decide +kernel, by decide, by decide, by decide +kernel⟩
theorem n_Mo_module1 : (parseMethodDescriptor m_Mo_module1.1.desc).map (fun d => d.parameters.length) = some 0 := by decide +kernel
theorem d_Mo_module1_0 : decode prog_14_method_70_code 0 = .ok (.aload_n 0, 1) := by decide +kernel
theorem d_Mo_module1_1 : decode prog_14_method_70_code 1 = .ok (.dup, 1) := by decide +kernel
theorem d_Mo_module1_2 : decode prog_14_method_70_code 2 = .ok (.getfield 193, 3) := by decide +kernel
theorem d_Mo_module1_5 : decode prog_14_method_70_code 5 = .ok (.iconst 1, 1) := by decide +kernel
theorem d_Mo_module1_6 : decode prog_14_method_70_code 6 = .ok (.iadd, 1) := by decide +kernel
theorem d_Mo_module1_7 : decode prog_14_method_70_code 7 = .ok (.putfield 193, 3) := by decide +kernel
theorem d_Mo_module1_10 : decode prog_14_method_70_code 10 = .ok (.aload_n 0, 1) := by decide +kernel
theorem d_Mo_module1_11 : decode prog_14_method_70_code 11 = .ok (.aload_n 0, 1) := by decide +kernel
theorem d_Mo_module1_12 : decode prog_14_method_70_code 12 = .ok (.getfield 193, 3) := by decide +kernel
theorem d_Mo_module1_15 : decode prog_14_method_70_code 15 = .ok (.aload_n 0, 1) := by decide +kernel
theorem d_Mo_module1_16 : decode prog_14_method_70_code 16 = .ok (.getfield 266, 3) := by decide +kernel
theorem d_Mo_module1_19 : decode prog_14_method_70_code 19 = .ok (.invokevirtual 368, 3) := by decide +kernel
theorem d_Mo_module1_22 : decode prog_14_method_70_code 22 = .ok (.ifCond .lt 18, 3) := by decide +kernel
theorem d_Mo_module1_25 : decode prog_14_method_70_code 25 = .ok (.aload_n 0, 1) := by decide +kernel
theorem d_Mo_module1_26 : decode prog_14_method_70_code 26 = .ok (.bipush 20, 2) := by decide +kernel
theorem d_Mo_module1_28 : decode prog_14_method_70_code 28 = .ok (.aload_n 0, 1) := by decide +kernel
theorem d_Mo_module1_29 : decode prog_14_method_70_code 29 = .ok (.getfield 19, 3) := by decide +kernel
theorem d_Mo_module1_32 : decode prog_14_method_70_code 32 = .ok (.aload_n 0, 1) := by decide +kernel
theorem d_Mo_module1_33 : decode prog_14_method_70_code 33 = .ok (.getfield 193, 3) := by decide +kernel
theorem d_Mo_module1_36 : decode prog_14_method_70_code 36 = .ok (.iaload, 1) := by decide +kernel
theorem d_Mo_module1_37 : decode prog_14_method_70_code 37 = .ok (.invokevirtual 196, 3) := by decide +kernel
theorem d_Mo_module1_40 : decode prog_14_method_70_code 40 = .ok (.aload_n 0, 1) := by decide +kernel
theorem d_Mo_module1_41 : decode prog_14_method_70_code 41 = .ok (.getfield 25, 3) := by decide +kernel
theorem d_Mo_module1_44 : decode prog_14_method_70_code 44 = .ok (.aload_n 0, 1) := by decide +kernel
theorem d_Mo_module1_45 : decode prog_14_method_70_code 45 = .ok (.getfield 266, 3) := by decide +kernel
theorem d_Mo_module1_48 : decode prog_14_method_70_code 48 = .ok (.aload_n 0, 1) := by decide +kernel
theorem d_Mo_module1_49 : decode prog_14_method_70_code 49 = .ok (.getfield 193, 3) := by decide +kernel
theorem d_Mo_module1_52 : decode prog_14_method_70_code 52 = .ok (.iastore, 1) := by decide +kernel
theorem d_Mo_module1_53 : decode prog_14_method_70_code 53 = .ok (.aload_n 0, 1) := by decide +kernel
theorem d_Mo_module1_54 : decode prog_14_method_70_code 54 = .ok (.getfield 28, 3) := by decide +kernel
theorem d_Mo_module1_57 : decode prog_14_method_70_code 57 = .ok (.aload_n 0, 1) := by decide +kernel
theorem d_Mo_module1_58 : decode prog_14_method_70_code 58 = .ok (.getfield 266, 3) := by decide +kernel
theorem d_Mo_module1_61 : decode prog_14_method_70_code 61 = .ok (.aload_n 0, 1) := by decide +kernel
theorem d_Mo_module1_62 : decode prog_14_method_70_code 62 = .ok (.getfield 269, 3) := by decide +kernel
theorem d_Mo_module1_65 : decode prog_14_method_70_code 65 = .ok (.iastore, 1) := by decide +kernel
theorem d_Mo_module1_66 : decode prog_14_method_70_code 66 = .ok (.aload_n 0, 1) := by decide +kernel
theorem d_Mo_module1_67 : decode prog_14_method_70_code 67 = .ok (.getfield 31, 3) := by decide +kernel
theorem d_Mo_module1_70 : decode prog_14_method_70_code 70 = .ok (.aload_n 0, 1) := by decide +kernel
theorem d_Mo_module1_71 : decode prog_14_method_70_code 71 = .ok (.getfield 266, 3) := by decide +kernel
theorem d_Mo_module1_74 : decode prog_14_method_70_code 74 = .ok (.aload_n 0, 1) := by decide +kernel
theorem d_Mo_module1_75 : decode prog_14_method_70_code 75 = .ok (.getfield 276, 3) := by decide +kernel
theorem d_Mo_module1_78 : decode prog_14_method_70_code 78 = .ok (.iastore, 1) := by decide +kernel
theorem d_Mo_module1_79 : decode prog_14_method_70_code 79 = .ok (.aload_n 0, 1) := by decide +kernel
theorem d_Mo_module1_80 : decode prog_14_method_70_code 80 = .ok (.getfield 34, 3) := by decide +kernel
theorem d_Mo_module1_83 : decode prog_14_method_70_code 83 = .ok (.aload_n 0, 1) := by decide +kernel
theorem d_Mo_module1_84 : decode prog_14_method_70_code 84 = .ok (.getfield 266, 3) := by decide +kernel
theorem d_Mo_module1_87 : decode prog_14_method_70_code 87 = .ok (.aload_n 0, 1) := by decide +kernel
theorem d_Mo_module1_88 : decode prog_14_method_70_code 88 = .ok (.getfield 383, 3) := by decide +kernel
theorem d_Mo_module1_91 : decode prog_14_method_70_code 91 = .ok (.iastore, 1) := by decide +kernel
theorem d_Mo_module1_92 : decode prog_14_method_70_code 92 = .ok (.aload_n 0, 1) := by decide +kernel
theorem d_Mo_module1_93 : decode prog_14_method_70_code 93 = .ok (.getfield 37, 3) := by decide +kernel
theorem d_Mo_module1_96 : decode prog_14_method_70_code 96 = .ok (.aload_n 0, 1) := by decide +kernel
theorem d_Mo_module1_97 : decode prog_14_method_70_code 97 = .ok (.getfield 266, 3) := by decide +kernel
theorem d_Mo_module1_100 : decode prog_14_method_70_code 100 = .ok (.aload_n 0, 1) := by decide +kernel
theorem d_Mo_module1_101 : decode prog_14_method_70_code 101 = .ok (.getfield 365, 3) := by decide +kernel
theorem d_Mo_module1_104 : decode prog_14_method_70_code 104 = .ok (.iastore, 1) := by decide +kernel
theorem d_Mo_module1_105 : decode prog_14_method_70_code 105 = .ok (.aload_n 0, 1) := by decide +kernel
theorem d_Mo_module1_106 : decode prog_14_method_70_code 106 = .ok (.getfield 101, 3) := by decide +kernel
theorem d_Mo_module1_109 : decode prog_14_method_70_code 109 = .ok (.aload_n 0, 1) := by decide +kernel
theorem d_Mo_module1_110 : decode prog_14_method_70_code 110 = .ok (.getfield 266, 3) := by decide +kernel
theorem d_Mo_module1_113 : decode prog_14_method_70_code 113 = .ok (.lconst 0, 1) := by decide +kernel
theorem d_Mo_module1_114 : decode prog_14_method_70_code 114 = .ok (.lastore, 1) := by decide +kernel
theorem d_Mo_module1_115 : decode prog_14_method_70_code 115 = .ok (.aload_n 0, 1) := by decide +kernel
theorem d_Mo_module1_116 : decode prog_14_method_70_code 116 = .ok (.aload_n 0, 1) := by decide +kernel
theorem d_Mo_module1_117 : decode prog_14_method_70_code 117 = .ok (.getfield 193, 3) := by decide +kernel
theorem d_Mo_module1_120 : decode prog_14_method_70_code 120 = .ok (.iconst 2, 1) := by decide +kernel
theorem d_Mo_module1_121 : decode prog_14_method_70_code 121 = .ok (.iadd, 1) := by decide +kernel
theorem d_Mo_module1_122 : decode prog_14_method_70_code 122 = .ok (.putfield 193, 3) := by decide +kernel
theorem d_Mo_module1_125 : decode prog_14_method_70_code 125 = .ok (.aload_n 0, 1) := by decide +kernel
theorem d_Mo_module1_126 : decode prog_14_method_70_code 126 = .ok (.sipush 302, 3) := by decide +kernel
theorem d_Mo_module1_129 : decode prog_14_method_70_code 129 = .ok (.invokevirtual 203, 3) := by decide +kernel
theorem d_Mo_module1_132 : decode prog_14_method_70_code 132 = .ok (.ifCond .ne 13, 3) := by decide +kernel
theorem d_Mo_module1_135 : decode prog_14_method_70_code 135 = .ok (.aload_n 0, 1) := by decide +kernel
theorem d_Mo_module1_136 : decode prog_14_method_70_code 136 = .ok (.sipush 303, 3) := by decide +kernel
theorem d_Mo_module1_139 : decode prog_14_method_70_code 139 = .ok (.invokevirtual 203, 3) := by decide +kernel
theorem d_Mo_module1_142 : decode prog_14_method_70_code 142 = .ok (.ifCond .eq 36, 3) := by decide +kernel
theorem d_Mo_module1_145 : decode prog_14_method_70_code 145 = .ok (.aload_n 0, 1) := by decide +kernel
theorem d_Mo_module1_146 : decode prog_14_method_70_code 146 = .ok (.invokevirtual 389, 3) := by decide +kernel
theorem d_Mo_module1_149 : decode prog_14_method_70_code 149 = .ok (.aload_n 0, 1) := by decide +kernel
theorem d_Mo_module1_150 : decode prog_14_method_70_code 150 = .ok (.aload_n 0, 1) := by decide +kernel
theorem d_Mo_module1_151 : decode prog_14_method_70_code 151 = .ok (.invokevirtual 216, 3) := by decide +kernel
theorem d_Mo_module1_154 : decode prog_14_method_70_code 154 = .ok (.bipush 44, 2) := by decide +kernel
theorem d_Mo_module1_156 : decode prog_14_method_70_code 156 = .ok (.if_icmp .ne 12, 3) := by decide +kernel
theorem d_Mo_module1_159 : decode prog_14_method_70_code 159 = .ok (.aload_n 0, 1) := by decide +kernel
theorem d_Mo_module1_160 : decode prog_14_method_70_code 160 = .ok (.getfield 193, 3) := by decide +kernel
theorem d_Mo_module1_163 : decode prog_14_method_70_code 163 = .ok (.iconst 1, 1) := by decide +kernel
theorem d_Mo_module1_164 : decode prog_14_method_70_code 164 = .ok (.iadd, 1) := by decide +kernel
theorem d_Mo_module1_165 : decode prog_14_method_70_code 165 = .ok (.goto 7, 3) := by decide +kernel
theorem d_Mo_module1_168 : decode prog_14_method_70_code 168 = .ok (.aload_n 0, 1) := by decide +kernel
theorem d_Mo_module1_169 : decode prog_14_method_70_code 169 = .ok (.getfield 193, 3) := by decide +kernel
theorem d_Mo_module1_172 : decode prog_14_method_70_code 172 = .ok (.putfield 193, 3) := by decide +kernel
theorem d_Mo_module1_175 : decode prog_14_method_70_code 175 = .ok (.goto (-50), 3) := by decide +kernel
theorem d_Mo_module1_178 : decode prog_14_method_70_code 178 = .ok (.aload_n 0, 1) := by decide +kernel
theorem d_Mo_module1_179 : decode prog_14_method_70_code 179 = .ok (.aload_n 0, 1) := by decide +kernel
theorem d_Mo_module1_180 : decode prog_14_method_70_code 180 = .ok (.getfield 193, 3) := by decide +kernel
theorem d_Mo_module1_183 : decode prog_14_method_70_code 183 = .ok (.iconst 2, 1) := by decide +kernel
theorem d_Mo_module1_184 : decode prog_14_method_70_code 184 = .ok (.iadd, 1) := by decide +kernel
theorem d_Mo_module1_185 : decode prog_14_method_70_code 185 = .ok (.putfield 193, 3) := by decide +kernel
theorem d_Mo_module1_188 : decode prog_14_method_70_code 188 = .ok (.aload_n 0, 1) := by decide +kernel
theorem d_Mo_module1_189 : decode prog_14_method_70_code 189 = .ok (.getfield 187, 3) := by decide +kernel
theorem d_Mo_module1_192 : decode prog_14_method_70_code 192 = .ok (.ifCond .ne 20, 3) := by decide +kernel
theorem d_Mo_module1_195 : decode prog_14_method_70_code 195 = .ok (.aload_n 0, 1) := by decide +kernel
theorem d_Mo_module1_196 : decode prog_14_method_70_code 196 = .ok (.invokevirtual 216, 3) := by decide +kernel
theorem d_Mo_module1_199 : decode prog_14_method_70_code 199 = .ok (.sipush 301, 3) := by decide +kernel
theorem d_Mo_module1_202 : decode prog_14_method_70_code 202 = .ok (.if_icmp .eq 10, 3) := by decide +kernel
theorem d_Mo_module1_205 : decode prog_14_method_70_code 205 = .ok (.aload_n 0, 1) := by decide +kernel
theorem d_Mo_module1_206 : decode prog_14_method_70_code 206 = .ok (.invokevirtual 392, 3) := by decide +kernel
theorem d_Mo_module1_209 : decode prog_14_method_70_code 209 = .ok (.goto (-21), 3) := by decide +kernel
theorem d_Mo_module1_212 : decode prog_14_method_70_code 212 = .ok (.aload_n 0, 1) := by decide +kernel
theorem d_Mo_module1_213 : decode prog_14_method_70_code 213 = .ok (.getfield 28, 3) := by decide +kernel
theorem d_Mo_module1_216 : decode prog_14_method_70_code 216 = .ok (.aload_n 0, 1) := by decide +kernel
theorem d_Mo_module1_217 : decode prog_14_method_70_code 217 = .ok (.getfield 266, 3) := by decide +kernel
theorem d_Mo_module1_220 : decode prog_14_method_70_code 220 = .ok (.iaload, 1) := by decide +kernel
theorem d_Mo_module1_221 : decode prog_14_method_70_code 221 = .ok (.istore_n 1, 1) := by decide +kernel
theorem d_Mo_module1_222 : decode prog_14_method_70_code 222 = .ok (.iload_n 1, 1) := by decide +kernel
theorem d_Mo_module1_223 : decode prog_14_method_70_code 223 = .ok (.aload_n 0, 1) := by decide +kernel
theorem d_Mo_module1_224 : decode prog_14_method_70_code 224 = .ok (.getfield 269, 3) := by decide +kernel
theorem d_Mo_module1_227 : decode prog_14_method_70_code 227 = .ok (.if_icmp .ge 50, 3) := by decide +kernel
theorem d_Mo_module1_230 : decode prog_14_method_70_code 230 = .ok (.aload_n 0, 1) := by decide +kernel
theorem d_Mo_module1_231 : decode prog_14_method_70_code 231 = .ok (.getfield 187, 3) := by decide +kernel
theorem d_Mo_module1_234 : decode prog_14_method_70_code 234 = .ok (.ifCond .ne 43, 3) := by decide +kernel
theorem d_Mo_module1_237 : decode prog_14_method_70_code 237 = .ok (.aload_n 0, 1) := by decide +kernel
theorem d_Mo_module1_238 : decode prog_14_method_70_code 238 = .ok (.iload_n 1, 1) := by decide +kernel
theorem d_Mo_module1_239 : decode prog_14_method_70_code 239 = .ok (.invokevirtual 347, 3) := by decide +kernel
theorem d_Mo_module1_242 : decode prog_14_method_70_code 242 = .ok (.ifCond .eq 29, 3) := by decide +kernel
theorem d_Mo_module1_245 : decode prog_14_method_70_code 245 = .ok (.aload_n 0, 1) := by decide +kernel
theorem d_Mo_module1_246 : decode prog_14_method_70_code 246 = .ok (.getfield 53, 3) := by decide +kernel
theorem d_Mo_module1_249 : decode prog_14_method_70_code 249 = .ok (.iload_n 1, 1) := by decide +kernel
theorem d_Mo_module1_250 : decode prog_14_method_70_code 250 = .ok (.iaload, 1) := by decide +kernel
theorem d_Mo_module1_251 : decode prog_14_method_70_code 251 = .ok (.ifCond .ne 20, 3) := by decide +kernel
theorem d_Mo_module1_254 : decode prog_14_method_70_code 254 = .ok (.aload_n 0, 1) := by decide +kernel
theorem d_Mo_module1_255 : decode prog_14_method_70_code 255 = .ok (.bipush 33, 2) := by decide +kernel
theorem d_Mo_module1_257 : decode prog_14_method_70_code 257 = .ok (.aload_n 0, 1) := by decide +kernel
theorem d_Mo_module1_258 : decode prog_14_method_70_code 258 = .ok (.getfield 19, 3) := by decide +kernel
theorem d_Mo_module1_261 : decode prog_14_method_70_code 261 = .ok (.aload_n 0, 1) := by decide +kernel
theorem d_Mo_module1_262 : decode prog_14_method_70_code 262 = .ok (.getfield 40, 3) := by decide +kernel
theorem d_Mo_module1_265 : decode prog_14_method_70_code 265 = .ok (.iload_n 1, 1) := by decide +kernel
theorem d_Mo_module1_266 : decode prog_14_method_70_code 266 = .ok (.iaload, 1) := by decide +kernel
theorem d_Mo_module1_267 : decode prog_14_method_70_code 267 = .ok (.iaload, 1) := by decide +kernel
theorem d_Mo_module1_268 : decode prog_14_method_70_code 268 = .ok (.invokevirtual 196, 3) := by decide +kernel
theorem d_Mo_module1_271 : decode prog_14_method_70_code 271 = .ok (.iinc 1 1, 3) := by decide +kernel
theorem d_Mo_module1_274 : decode prog_14_method_70_code 274 = .ok (.goto (-52), 3) := by decide +kernel
theorem d_Mo_module1_277 : decode prog_14_method_70_code 277 = .ok (.aload_n 0, 1) := by decide +kernel
theorem d_Mo_module1_278 : decode prog_14_method_70_code 278 = .ok (.dup, 1) := by decide +kernel
theorem d_Mo_module1_279 : decode prog_14_method_70_code 279 = .ok (.getfield 193, 3) := by decide +kernel
theorem d_Mo_module1_282 : decode prog_14_method_70_code 282 = .ok (.iconst 1, 1) := by decide +kernel
theorem d_Mo_module1_283 : decode prog_14_method_70_code 283 = .ok (.iadd, 1) := by decide +kernel
theorem d_Mo_module1_284 : decode prog_14_method_70_code 284 = .ok (.putfield 193, 3) := by decide +kernel
theorem d_Mo_module1_287 : decode prog_14_method_70_code 287 = .ok (.aload_n 0, 1) := by decide +kernel
theorem d_Mo_module1_288 : decode prog_14_method_70_code 288 = .ok (.getfield 119, 3) := by decide +kernel
theorem d_Mo_module1_291 : decode prog_14_method_70_code 291 = .ok (.aload_n 0, 1) := by decide +kernel
theorem d_Mo_module1_292 : decode prog_14_method_70_code 292 = .ok (.getfield 266, 3) := by decide +kernel
theorem d_Mo_module1_295 : decode prog_14_method_70_code 295 = .ok (.aload_n 0, 1) := by decide +kernel
theorem d_Mo_module1_296 : decode prog_14_method_70_code 296 = .ok (.getfield 101, 3) := by decide +kernel
theorem d_Mo_module1_299 : decode prog_14_method_70_code 299 = .ok (.aload_n 0, 1) := by decide +kernel
theorem d_Mo_module1_300 : decode prog_14_method_70_code 300 = .ok (.getfield 266, 3) := by decide +kernel
theorem d_Mo_module1_303 : decode prog_14_method_70_code 303 = .ok (.laload, 1) := by decide +kernel
theorem d_Mo_module1_304 : decode prog_14_method_70_code 304 = .ok (.lastore, 1) := by decide +kernel
theorem d_Mo_module1_305 : decode prog_14_method_70_code 305 = .ok (.aload_n 0, 1) := by decide +kernel
theorem d_Mo_module1_306 : decode prog_14_method_70_code 306 = .ok (.dup, 1) := by decide +kernel
theorem d_Mo_module1_307 : decode prog_14_method_70_code 307 = .ok (.getfield 266, 3) := by decide +kernel
theorem d_Mo_module1_310 : decode prog_14_method_70_code 310 = .ok (.iconst 1, 1) := by decide +kernel
theorem d_Mo_module1_311 : decode prog_14_method_70_code 311 = .ok (.iadd, 1) := by decide +kernel
theorem d_Mo_module1_312 : decode prog_14_method_70_code 312 = .ok (.putfield 266, 3) := by decide +kernel
theorem d_Mo_module1_315 : decode prog_14_method_70_code 315 = .ok (.aload_n 0, 1) := by decide +kernel
theorem d_Mo_module1_316 : decode prog_14_method_70_code 316 = .ok (.getfield 28, 3) := by decide +kernel
theorem d_Mo_module1_319 : decode prog_14_method_70_code 319 = .ok (.aload_n 0, 1) := by decide +kernel
theorem d_Mo_module1_320 : decode prog_14_method_70_code 320 = .ok (.getfield 266, 3) := by decide +kernel
theorem d_Mo_module1_323 : decode prog_14_method_70_code 323 = .ok (.aload_n 0, 1) := by decide +kernel
theorem d_Mo_module1_324 : decode prog_14_method_70_code 324 = .ok (.getfield 269, 3) := by decide +kernel
theorem d_Mo_module1_327 : decode prog_14_method_70_code 327 = .ok (.iastore, 1) := by decide +kernel
theorem d_Mo_module1_328 : decode prog_14_method_70_code 328 = .ok (.aload_n 0, 1) := by decide +kernel
theorem d_Mo_module1_329 : decode prog_14_method_70_code 329 = .ok (.getfield 31, 3) := by decide +kernel
theorem d_Mo_module1_332 : decode prog_14_method_70_code 332 = .ok (.aload_n 0, 1) := by decide +kernel
theorem d_Mo_module1_333 : decode prog_14_method_70_code 333 = .ok (.getfield 266, 3) := by decide +kernel
theorem d_Mo_module1_336 : decode prog_14_method_70_code 336 = .ok (.aload_n 0, 1) := by decide +kernel
theorem d_Mo_module1_337 : decode prog_14_method_70_code 337 = .ok (.getfield 276, 3) := by decide +kernel
theorem d_Mo_module1_340 : decode prog_14_method_70_code 340 = .ok (.iastore, 1) := by decide +kernel
theorem d_Mo_module1_341 : decode prog_14_method_70_code 341 = .ok (.aload_n 0, 1) := by decide +kernel
theorem d_Mo_module1_342 : decode prog_14_method_70_code 342 = .ok (.getfield 34, 3) := by decide +kernel
theorem d_Mo_module1_345 : decode prog_14_method_70_code 345 = .ok (.aload_n 0, 1) := by decide +kernel
theorem d_Mo_module1_346 : decode prog_14_method_70_code 346 = .ok (.getfield 266, 3) := by decide +kernel
theorem d_Mo_module1_349 : decode prog_14_method_70_code 349 = .ok (.aload_n 0, 1) := by decide +kernel
theorem d_Mo_module1_350 : decode prog_14_method_70_code 350 = .ok (.getfield 383, 3) := by decide +kernel
theorem d_Mo_module1_353 : decode prog_14_method_70_code 353 = .ok (.iastore, 1) := by decide +kernel
theorem d_Mo_module1_354 : decode prog_14_method_70_code 354 = .ok (.aload_n 0, 1) := by decide +kernel
theorem d_Mo_module1_355 : decode prog_14_method_70_code 355 = .ok (.getfield 37, 3) := by decide +kernel
theorem d_Mo_module1_358 : decode prog_14_method_70_code 358 = .ok (.aload_n 0, 1) := by decide +kernel
theorem d_Mo_module1_359 : decode prog_14_method_70_code 359 = .ok (.getfield 266, 3) := by decide +kernel
theorem d_Mo_module1_362 : decode prog_14_method_70_code 362 = .ok (.aload_n 0, 1) := by decide +kernel
theorem d_Mo_module1_363 : decode prog_14_method_70_code 363 = .ok (.getfield 365, 3) := by decide +kernel
theorem d_Mo_module1_366 : decode prog_14_method_70_code 366 = .ok (.iastore, 1) := by decide +kernel
theorem d_Mo_module1_367 : decode prog_14_method_70_code 367 = .ok (.return_, 1) := by decide +kernel
theorem f_Mo_25 : cx_F "CircuitTextModel" 25 12 13 (.array .int) true := ⟨_, F_Mo, 58, t_Mo, k_Mo, by decide, rfl, rfl, Or.inl (in_6 (List.mem_of_getElem? (i := 108) rfl))⟩
theorem ff_Mo_25 : cx_FF "CircuitTextModel" 25 12 13 (.array .int) := ⟨_, F_Mo, 58, t_Mo, k_Mo, by decide, rfl, rfl, rfl, (in_6 (List.mem_of_getElem? (i := 108) rfl))⟩
theorem f_Mo_28 : cx_F "CircuitTextModel" 28 12 14 (.array .int) true := ⟨_, F_Mo, 58, t_Mo, k_Mo, by decide, rfl, rfl, Or.inl (in_6 (List.mem_of_getElem? (i := 109) rfl))⟩
theorem ff_Mo_28 : cx_FF "CircuitTextModel" 28 12 14 (.array .int) := ⟨_, F_Mo, 58, t_Mo, k_Mo, by decide, rfl, rfl, rfl, (in_6 (List.mem_of_getElem? (i := 109) rfl))⟩
theorem f_Mo_31 : cx_F "CircuitTextModel" 31 12 15 (.array .int) true := ⟨_, F_Mo, 58, t_Mo, k_Mo, by decide, rfl, rfl, Or.inl (in_6 (List.mem_of_getElem? (i := 110) rfl))⟩
theorem ff_Mo_31 : cx_FF "CircuitTextModel" 31 12 15 (.array .int) := ⟨_, F_Mo, 58, t_Mo, k_Mo, by decide, rfl, rfl, rfl, (in_6 (List.mem_of_getElem? (i := 110) rfl))⟩
theorem f_Mo_34 : cx_F "CircuitTextModel" 34 12 16 (.array .int) true := ⟨_, F_Mo, 58, t_Mo, k_Mo, by decide, rfl, rfl, Or.inl (in_6 (List.mem_of_getElem? (i := 111) rfl))⟩
theorem ff_Mo_34 : cx_FF "CircuitTextModel" 34 12 16 (.array .int) := ⟨_, F_Mo, 58, t_Mo, k_Mo, by decide, rfl, rfl, rfl, (in_6 (List.mem_of_getElem? (i := 111) rfl))⟩
theorem f_Mo_37 : cx_F "CircuitTextModel" 37 12 17 (.array .int) true := ⟨_, F_Mo, 58, t_Mo, k_Mo, by decide, rfl, rfl, Or.inl (in_6 (List.mem_of_getElem? (i := 112) rfl))⟩
theorem ff_Mo_37 : cx_FF "CircuitTextModel" 37 12 17 (.array .int) := ⟨_, F_Mo, 58, t_Mo, k_Mo, by decide, rfl, rfl, rfl, (in_6 (List.mem_of_getElem? (i := 112) rfl))⟩
theorem f_Mo_101 : cx_F "CircuitTextModel" 101 12 45 (.array .long) true := ⟨_, F_Mo, 58, t_Mo, k_Mo, by decide, rfl, rfl, Or.inl (in_6 (List.mem_of_getElem? (i := 140) rfl))⟩
theorem ff_Mo_101 : cx_FF "CircuitTextModel" 101 12 45 (.array .long) := ⟨_, F_Mo, 58, t_Mo, k_Mo, by decide, rfl, rfl, rfl, (in_6 (List.mem_of_getElem? (i := 140) rfl))⟩
theorem f_Mo_53 : cx_F "CircuitTextModel" 53 12 23 (.array .int) true := ⟨_, F_Mo, 58, t_Mo, k_Mo, by decide, rfl, rfl, Or.inl (in_6 (List.mem_of_getElem? (i := 118) rfl))⟩
theorem ff_Mo_53 : cx_FF "CircuitTextModel" 53 12 23 (.array .int) := ⟨_, F_Mo, 58, t_Mo, k_Mo, by decide, rfl, rfl, rfl, (in_6 (List.mem_of_getElem? (i := 118) rfl))⟩
theorem f_Mo_40 : cx_F "CircuitTextModel" 40 12 19 (.array .int) true := ⟨_, F_Mo, 58, t_Mo, k_Mo, by decide, rfl, rfl, Or.inl (in_6 (List.mem_of_getElem? (i := 114) rfl))⟩
theorem ff_Mo_40 : cx_FF "CircuitTextModel" 40 12 19 (.array .int) := ⟨_, F_Mo, 58, t_Mo, k_Mo, by decide, rfl, rfl, rfl, (in_6 (List.mem_of_getElem? (i := 114) rfl))⟩
theorem f_Mo_119 : cx_F "CircuitTextModel" 119 12 56 (.array .long) true := ⟨_, F_Mo, 58, t_Mo, k_Mo, by decide, rfl, rfl, Or.inl (in_6 (List.mem_of_getElem? (i := 151) rfl))⟩
theorem ff_Mo_119 : cx_FF "CircuitTextModel" 119 12 56 (.array .long) := ⟨_, F_Mo, 58, t_Mo, k_Mo, by decide, rfl, rfl, rfl, (in_6 (List.mem_of_getElem? (i := 151) rfl))⟩
abbrev m_Mo_moduleNamed : cx_M := (⟨"CircuitTextModel", "moduleNamed", "(II)I"⟩, prog_14_method_41_code, 4, (Option.some Jvm.ClassFile.FieldType.int), [], [false, false, false])
theorem w_Mo_moduleNamed : cx_W m_Mo_moduleNamed := ⟨Or.inl ⟨(in_7 (List.mem_of_getElem? (i := 191) rfl)), rfl⟩, by decide +kernel, by decide, by decide, by decide +kernel⟩
theorem n_Mo_moduleNamed : (parseMethodDescriptor m_Mo_moduleNamed.1.desc).map (fun d => d.parameters.length) = some 2 := by decide +kernel
theorem d_Mo_moduleNamed_0 : decode prog_14_method_41_code 0 = .ok (.iconst 0, 1) := by decide +kernel
theorem d_Mo_moduleNamed_1 : decode prog_14_method_41_code 1 = .ok (.istore_n 3, 1) := by decide +kernel
theorem d_Mo_moduleNamed_2 : decode prog_14_method_41_code 2 = .ok (.iload_n 3, 1) := by decide +kernel
theorem d_Mo_moduleNamed_3 : decode prog_14_method_41_code 3 = .ok (.iload_n 2, 1) := by decide +kernel
theorem d_Mo_moduleNamed_4 : decode prog_14_method_41_code 4 = .ok (.if_icmp .ge 25, 3) := by decide +kernel
theorem d_Mo_moduleNamed_7 : decode prog_14_method_41_code 7 = .ok (.aload_n 0, 1) := by decide +kernel
theorem d_Mo_moduleNamed_8 : decode prog_14_method_41_code 8 = .ok (.aload_n 0, 1) := by decide +kernel
theorem d_Mo_moduleNamed_9 : decode prog_14_method_41_code 9 = .ok (.getfield 25, 3) := by decide +kernel
theorem d_Mo_moduleNamed_12 : decode prog_14_method_41_code 12 = .ok (.iload_n 3, 1) := by decide +kernel
theorem d_Mo_moduleNamed_13 : decode prog_14_method_41_code 13 = .ok (.iaload, 1) := by decide +kernel
theorem d_Mo_moduleNamed_14 : decode prog_14_method_41_code 14 = .ok (.iload_n 1, 1) := by decide +kernel
theorem d_Mo_moduleNamed_15 : decode prog_14_method_41_code 15 = .ok (.invokevirtual 262, 3) := by decide +kernel
theorem d_Mo_moduleNamed_18 : decode prog_14_method_41_code 18 = .ok (.ifCond .eq 5, 3) := by decide +kernel
theorem d_Mo_moduleNamed_21 : decode prog_14_method_41_code 21 = .ok (.iload_n 3, 1) := by decide +kernel
theorem d_Mo_moduleNamed_22 : decode prog_14_method_41_code 22 = .ok (.ireturn, 1) := by decide +kernel
theorem d_Mo_moduleNamed_23 : decode prog_14_method_41_code 23 = .ok (.iinc 3 1, 3) := by decide +kernel
theorem d_Mo_moduleNamed_26 : decode prog_14_method_41_code 26 = .ok (.goto (-24), 3) := by decide +kernel
theorem d_Mo_moduleNamed_29 : decode prog_14_method_41_code 29 = .ok (.iconst (-1), 1) := by decide +kernel
theorem d_Mo_moduleNamed_30 : decode prog_14_method_41_code 30 = .ok (.ireturn, 1) := by decide +kernel
abbrev m_Mo_sameToken : cx_M := (⟨"CircuitTextModel", "sameToken", "(II)Z"⟩, prog_14_method_40_code, 5, (Option.some Jvm.ClassFile.FieldType.boolean), [], [false, false, false])
theorem w_Mo_sameToken : cx_W m_Mo_sameToken := ⟨Or.inl ⟨(in_7 (List.mem_of_getElem? (i := 195) rfl)), rfl⟩, by decide +kernel, by decide, by decide, by decide +kernel⟩
theorem n_Mo_sameToken : (parseMethodDescriptor m_Mo_sameToken.1.desc).map (fun d => d.parameters.length) = some 2 := by decide +kernel
theorem d_Mo_sameToken_0 : decode prog_14_method_40_code 0 = .ok (.aload_n 0, 1) := by decide +kernel
theorem d_Mo_sameToken_1 : decode prog_14_method_40_code 1 = .ok (.getfield 22, 3) := by decide +kernel
theorem d_Mo_sameToken_4 : decode prog_14_method_40_code 4 = .ok (.iload_n 1, 1) := by decide +kernel
theorem d_Mo_sameToken_5 : decode prog_14_method_40_code 5 = .ok (.iaload, 1) := by decide +kernel
theorem d_Mo_sameToken_6 : decode prog_14_method_40_code 6 = .ok (.aload_n 0, 1) := by decide +kernel
theorem d_Mo_sameToken_7 : decode prog_14_method_40_code 7 = .ok (.getfield 19, 3) := by decide +kernel
theorem d_Mo_sameToken_10 : decode prog_14_method_40_code 10 = .ok (.iload_n 1, 1) := by decide +kernel
theorem d_Mo_sameToken_11 : decode prog_14_method_40_code 11 = .ok (.iaload, 1) := by decide +kernel
theorem d_Mo_sameToken_12 : decode prog_14_method_40_code 12 = .ok (.isub, 1) := by decide +kernel
theorem d_Mo_sameToken_13 : decode prog_14_method_40_code 13 = .ok (.aload_n 0, 1) := by decide +kernel
theorem d_Mo_sameToken_14 : decode prog_14_method_40_code 14 = .ok (.getfield 22, 3) := by decide +kernel
theorem d_Mo_sameToken_17 : decode prog_14_method_40_code 17 = .ok (.iload_n 2, 1) := by decide +kernel
theorem d_Mo_sameToken_18 : decode prog_14_method_40_code 18 = .ok (.iaload, 1) := by decide +kernel
theorem d_Mo_sameToken_19 : decode prog_14_method_40_code 19 = .ok (.aload_n 0, 1) := by decide +kernel
theorem d_Mo_sameToken_20 : decode prog_14_method_40_code 20 = .ok (.getfield 19, 3) := by decide +kernel
theorem d_Mo_sameToken_23 : decode prog_14_method_40_code 23 = .ok (.iload_n 2, 1) := by decide +kernel
theorem d_Mo_sameToken_24 : decode prog_14_method_40_code 24 = .ok (.iaload, 1) := by decide +kernel
theorem d_Mo_sameToken_25 : decode prog_14_method_40_code 25 = .ok (.isub, 1) := by decide +kernel
theorem d_Mo_sameToken_26 : decode prog_14_method_40_code 26 = .ok (.if_icmp .ne 7, 3) := by decide +kernel
theorem d_Mo_sameToken_29 : decode prog_14_method_40_code 29 = .ok (.iconst 1, 1) := by decide +kernel
theorem d_Mo_sameToken_30 : decode prog_14_method_40_code 30 = .ok (.goto 4, 3) := by decide +kernel
theorem d_Mo_sameToken_33 : decode prog_14_method_40_code 33 = .ok (.iconst 0, 1) := by decide +kernel
theorem d_Mo_sameToken_34 : decode prog_14_method_40_code 34 = .ok (.istore_n 3, 1) := by decide +kernel
theorem d_Mo_sameToken_35 : decode prog_14_method_40_code 35 = .ok (.iconst 0, 1) := by decide +kernel
theorem d_Mo_sameToken_36 : decode prog_14_method_40_code 36 = .ok (.istore 4, 2) := by decide +kernel
theorem d_Mo_sameToken_38 : decode prog_14_method_40_code 38 = .ok (.iload_n 3, 1) := by decide +kernel
theorem d_Mo_sameToken_39 : decode prog_14_method_40_code 39 = .ok (.ifCond .eq 64, 3) := by decide +kernel
theorem d_Mo_sameToken_42 : decode prog_14_method_40_code 42 = .ok (.iload 4, 2) := by decide +kernel
theorem d_Mo_sameToken_44 : decode prog_14_method_40_code 44 = .ok (.aload_n 0, 1) := by decide +kernel
theorem d_Mo_sameToken_45 : decode prog_14_method_40_code 45 = .ok (.getfield 22, 3) := by decide +kernel
theorem d_Mo_sameToken_48 : decode prog_14_method_40_code 48 = .ok (.iload_n 1, 1) := by decide +kernel
theorem d_Mo_sameToken_49 : decode prog_14_method_40_code 49 = .ok (.iaload, 1) := by decide +kernel
theorem d_Mo_sameToken_50 : decode prog_14_method_40_code 50 = .ok (.aload_n 0, 1) := by decide +kernel
theorem d_Mo_sameToken_51 : decode prog_14_method_40_code 51 = .ok (.getfield 19, 3) := by decide +kernel
theorem d_Mo_sameToken_54 : decode prog_14_method_40_code 54 = .ok (.iload_n 1, 1) := by decide +kernel
theorem d_Mo_sameToken_55 : decode prog_14_method_40_code 55 = .ok (.iaload, 1) := by decide +kernel
theorem d_Mo_sameToken_56 : decode prog_14_method_40_code 56 = .ok (.isub, 1) := by decide +kernel
theorem d_Mo_sameToken_57 : decode prog_14_method_40_code 57 = .ok (.if_icmp .ge 46, 3) := by decide +kernel
theorem d_Mo_sameToken_60 : decode prog_14_method_40_code 60 = .ok (.aload_n 0, 1) := by decide +kernel
theorem d_Mo_sameToken_61 : decode prog_14_method_40_code 61 = .ok (.getfield 116, 3) := by decide +kernel
theorem d_Mo_sameToken_64 : decode prog_14_method_40_code 64 = .ok (.aload_n 0, 1) := by decide +kernel
theorem d_Mo_sameToken_65 : decode prog_14_method_40_code 65 = .ok (.getfield 19, 3) := by decide +kernel
theorem d_Mo_sameToken_68 : decode prog_14_method_40_code 68 = .ok (.iload_n 1, 1) := by decide +kernel
theorem d_Mo_sameToken_69 : decode prog_14_method_40_code 69 = .ok (.iaload, 1) := by decide +kernel
theorem d_Mo_sameToken_70 : decode prog_14_method_40_code 70 = .ok (.iload 4, 2) := by decide +kernel
theorem d_Mo_sameToken_72 : decode prog_14_method_40_code 72 = .ok (.iadd, 1) := by decide +kernel
theorem d_Mo_sameToken_73 : decode prog_14_method_40_code 73 = .ok (.baload, 1) := by decide +kernel
theorem d_Mo_sameToken_74 : decode prog_14_method_40_code 74 = .ok (.aload_n 0, 1) := by decide +kernel
theorem d_Mo_sameToken_75 : decode prog_14_method_40_code 75 = .ok (.getfield 116, 3) := by decide +kernel
theorem d_Mo_sameToken_78 : decode prog_14_method_40_code 78 = .ok (.aload_n 0, 1) := by decide +kernel
theorem d_Mo_sameToken_79 : decode prog_14_method_40_code 79 = .ok (.getfield 19, 3) := by decide +kernel
theorem d_Mo_sameToken_82 : decode prog_14_method_40_code 82 = .ok (.iload_n 2, 1) := by decide +kernel
theorem d_Mo_sameToken_83 : decode prog_14_method_40_code 83 = .ok (.iaload, 1) := by decide +kernel
theorem d_Mo_sameToken_84 : decode prog_14_method_40_code 84 = .ok (.iload 4, 2) := by decide +kernel
theorem d_Mo_sameToken_86 : decode prog_14_method_40_code 86 = .ok (.iadd, 1) := by decide +kernel
theorem d_Mo_sameToken_87 : decode prog_14_method_40_code 87 = .ok (.baload, 1) := by decide +kernel
theorem d_Mo_sameToken_88 : decode prog_14_method_40_code 88 = .ok (.if_icmp .ne 7, 3) := by decide +kernel
theorem d_Mo_sameToken_91 : decode prog_14_method_40_code 91 = .ok (.iconst 1, 1) := by decide +kernel
theorem d_Mo_sameToken_92 : decode prog_14_method_40_code 92 = .ok (.goto 4, 3) := by decide +kernel
theorem d_Mo_sameToken_95 : decode prog_14_method_40_code 95 = .ok (.iconst 0, 1) := by decide +kernel
theorem d_Mo_sameToken_96 : decode prog_14_method_40_code 96 = .ok (.istore_n 3, 1) := by decide +kernel
theorem d_Mo_sameToken_97 : decode prog_14_method_40_code 97 = .ok (.iinc 4 1, 3) := by decide +kernel
theorem d_Mo_sameToken_100 : decode prog_14_method_40_code 100 = .ok (.goto (-62), 3) := by decide +kernel
theorem d_Mo_sameToken_103 : decode prog_14_method_40_code 103 = .ok (.iload_n 3, 1) := by decide +kernel
theorem d_Mo_sameToken_104 : decode prog_14_method_40_code 104 = .ok (.ireturn, 1) := by decide +kernel
abbrev m_Mo_port : cx_M := (⟨"CircuitTextModel", "port", "()V"⟩, prog_14_method_58_code, 2, (Option.none : Option Jvm.ClassFile.FieldType), [], [false])
theorem w_Mo_port : cx_W m_Mo_port := ⟨Or.inl ⟨(in_7 (List.mem_of_getElem? (i := 199) rfl)), rfl⟩, by decide +kernel, by decide, by decide, by decide +kernel⟩
theorem n_Mo_port : (parseMethodDescriptor m_Mo_port.1.desc).map (fun d => d.parameters.length) = some 0 := by decide +kernel
theorem d_Mo_port_0 : decode prog_14_method_58_code 0 = .ok (.aload_n 0, 1) := by decide +kernel
theorem d_Mo_port_1 : decode prog_14_method_58_code 1 = .ok (.invokevirtual 216, 3) := by decide +kernel
theorem d_Mo_port_4 : decode prog_14_method_58_code 4 = .ok (.sipush 302, 3) := by decide +kernel
theorem d_Mo_port_7 : decode prog_14_method_58_code 7 = .ok (.if_icmp .ne 25, 3) := by decide +kernel
theorem d_Mo_port_10 : decode prog_14_method_58_code 10 = .ok (.aload_n 0, 1) := by decide +kernel
theorem d_Mo_port_11 : decode prog_14_method_58_code 11 = .ok (.dup, 1) := by decide +kernel
theorem d_Mo_port_12 : decode prog_14_method_58_code 12 = .ok (.getfield 193, 3) := by decide +kernel
theorem d_Mo_port_15 : decode prog_14_method_58_code 15 = .ok (.iconst 1, 1) := by decide +kernel
theorem d_Mo_port_16 : decode prog_14_method_58_code 16 = .ok (.iadd, 1) := by decide +kernel
theorem d_Mo_port_17 : decode prog_14_method_58_code 17 = .ok (.putfield 193, 3) := by decide +kernel
theorem d_Mo_port_20 : decode prog_14_method_58_code 20 = .ok (.aload_n 0, 1) := by decide +kernel
theorem d_Mo_port_21 : decode prog_14_method_58_code 21 = .ok (.iconst 0, 1) := by decide +kernel
theorem d_Mo_port_22 : decode prog_14_method_58_code 22 = .ok (.aload_n 0, 1) := by decide +kernel
theorem d_Mo_port_23 : decode prog_14_method_58_code 23 = .ok (.invokevirtual 341, 3) := by decide +kernel
theorem d_Mo_port_26 : decode prog_14_method_58_code 26 = .ok (.invokevirtual 344, 3) := by decide +kernel
theorem d_Mo_port_29 : decode prog_14_method_58_code 29 = .ok (.goto 67, 3) := by decide +kernel
theorem d_Mo_port_32 : decode prog_14_method_58_code 32 = .ok (.aload_n 0, 1) := by decide +kernel
theorem d_Mo_port_33 : decode prog_14_method_58_code 33 = .ok (.dup, 1) := by decide +kernel
theorem d_Mo_port_34 : decode prog_14_method_58_code 34 = .ok (.getfield 193, 3) := by decide +kernel
theorem d_Mo_port_37 : decode prog_14_method_58_code 37 = .ok (.iconst 1, 1) := by decide +kernel
theorem d_Mo_port_38 : decode prog_14_method_58_code 38 = .ok (.iadd, 1) := by decide +kernel
theorem d_Mo_port_39 : decode prog_14_method_58_code 39 = .ok (.putfield 193, 3) := by decide +kernel
theorem d_Mo_port_42 : decode prog_14_method_58_code 42 = .ok (.aload_n 0, 1) := by decide +kernel
theorem d_Mo_port_43 : decode prog_14_method_58_code 43 = .ok (.invokevirtual 216, 3) := by decide +kernel
theorem d_Mo_port_46 : decode prog_14_method_58_code 46 = .ok (.sipush 305, 3) := by decide +kernel
theorem d_Mo_port_49 : decode prog_14_method_58_code 49 = .ok (.if_icmp .ne 7, 3) := by decide +kernel
theorem d_Mo_port_52 : decode prog_14_method_58_code 52 = .ok (.iconst 1, 1) := by decide +kernel
theorem d_Mo_port_53 : decode prog_14_method_58_code 53 = .ok (.goto 4, 3) := by decide +kernel
theorem d_Mo_port_56 : decode prog_14_method_58_code 56 = .ok (.iconst 0, 1) := by decide +kernel
theorem d_Mo_port_57 : decode prog_14_method_58_code 57 = .ok (.istore_n 1, 1) := by decide +kernel
theorem d_Mo_port_58 : decode prog_14_method_58_code 58 = .ok (.aload_n 0, 1) := by decide +kernel
theorem d_Mo_port_59 : decode prog_14_method_58_code 59 = .ok (.iload_n 1, 1) := by decide +kernel
theorem d_Mo_port_60 : decode prog_14_method_58_code 60 = .ok (.ifCond .eq 12, 3) := by decide +kernel
theorem d_Mo_port_63 : decode prog_14_method_58_code 63 = .ok (.aload_n 0, 1) := by decide +kernel
theorem d_Mo_port_64 : decode prog_14_method_58_code 64 = .ok (.getfield 193, 3) := by decide +kernel
theorem d_Mo_port_67 : decode prog_14_method_58_code 67 = .ok (.iconst 1, 1) := by decide +kernel
theorem d_Mo_port_68 : decode prog_14_method_58_code 68 = .ok (.iadd, 1) := by decide +kernel
theorem d_Mo_port_69 : decode prog_14_method_58_code 69 = .ok (.goto 7, 3) := by decide +kernel
theorem d_Mo_port_72 : decode prog_14_method_58_code 72 = .ok (.aload_n 0, 1) := by decide +kernel
theorem d_Mo_port_73 : decode prog_14_method_58_code 73 = .ok (.getfield 193, 3) := by decide +kernel
theorem d_Mo_port_76 : decode prog_14_method_58_code 76 = .ok (.putfield 193, 3) := by decide +kernel
theorem d_Mo_port_79 : decode prog_14_method_58_code 79 = .ok (.aload_n 0, 1) := by decide +kernel
theorem d_Mo_port_80 : decode prog_14_method_58_code 80 = .ok (.iload_n 1, 1) := by decide +kernel
theorem d_Mo_port_81 : decode prog_14_method_58_code 81 = .ok (.ifCond .eq 7, 3) := by decide +kernel
theorem d_Mo_port_84 : decode prog_14_method_58_code 84 = .ok (.iconst 2, 1) := by decide +kernel
theorem d_Mo_port_85 : decode prog_14_method_58_code 85 = .ok (.goto 4, 3) := by decide +kernel
theorem d_Mo_port_88 : decode prog_14_method_58_code 88 = .ok (.iconst 1, 1) := by decide +kernel
theorem d_Mo_port_89 : decode prog_14_method_58_code 89 = .ok (.aload_n 0, 1) := by decide +kernel
theorem d_Mo_port_90 : decode prog_14_method_58_code 90 = .ok (.invokevirtual 341, 3) := by decide +kernel
theorem d_Mo_port_93 : decode prog_14_method_58_code 93 = .ok (.invokevirtual 344, 3) := by decide +kernel
theorem d_Mo_port_96 : decode prog_14_method_58_code 96 = .ok (.return_, 1) := by decide +kernel
abbrev m_Mo_range : cx_M := (⟨"CircuitTextModel", "range", "()I"⟩, prog_14_method_56_code, 5, (Option.some Jvm.ClassFile.FieldType.int), [], [false])
theorem w_Mo_range : cx_W m_Mo_range := ⟨Or.inl ⟨(in_7 (List.mem_of_getElem? (i := 203) rfl)), rfl⟩, by decide +kernel, by decide, by decide, by decide +kernel⟩
theorem n_Mo_range : (parseMethodDescriptor m_Mo_range.1.desc).map (fun d => d.parameters.length) = some 0 := by decide +kernel
theorem d_Mo_range_0 : decode prog_14_method_56_code 0 = .ok (.aload_n 0, 1) := by decide +kernel
theorem d_Mo_range_1 : decode prog_14_method_56_code 1 = .ok (.bipush 91, 2) := by decide +kernel
theorem d_Mo_range_3 : decode prog_14_method_56_code 3 = .ok (.invokevirtual 203, 3) := by decide +kernel
theorem d_Mo_range_6 : decode prog_14_method_56_code 6 = .ok (.ifCond .ne 5, 3) := by decide +kernel
theorem d_Mo_range_9 : decode prog_14_method_56_code 9 = .ok (.iconst 1, 1) := by decide +kernel
theorem d_Mo_range_10 : decode prog_14_method_56_code 10 = .ok (.ireturn, 1) := by decide +kernel
theorem d_Mo_range_11 : decode prog_14_method_56_code 11 = .ok (.aload_n 0, 1) := by decide +kernel
theorem d_Mo_range_12 : decode prog_14_method_56_code 12 = .ok (.aload_n 0, 1) := by decide +kernel
theorem d_Mo_range_13 : decode prog_14_method_56_code 13 = .ok (.getfield 193, 3) := by decide +kernel
theorem d_Mo_range_16 : decode prog_14_method_56_code 16 = .ok (.iconst 1, 1) := by decide +kernel
theorem d_Mo_range_17 : decode prog_14_method_56_code 17 = .ok (.iadd, 1) := by decide +kernel
theorem d_Mo_range_18 : decode prog_14_method_56_code 18 = .ok (.invokevirtual 316, 3) := by decide +kernel
theorem d_Mo_range_21 : decode prog_14_method_56_code 21 = .ok (.lstore_n 1, 1) := by decide +kernel
theorem d_Mo_range_22 : decode prog_14_method_56_code 22 = .ok (.aload_n 0, 1) := by decide +kernel
theorem d_Mo_range_23 : decode prog_14_method_56_code 23 = .ok (.aload_n 0, 1) := by decide +kernel
theorem d_Mo_range_24 : decode prog_14_method_56_code 24 = .ok (.getfield 193, 3) := by decide +kernel
theorem d_Mo_range_27 : decode prog_14_method_56_code 27 = .ok (.iconst 3, 1) := by decide +kernel
theorem d_Mo_range_28 : decode prog_14_method_56_code 28 = .ok (.iadd, 1) := by decide +kernel
theorem d_Mo_range_29 : decode prog_14_method_56_code 29 = .ok (.invokevirtual 316, 3) := by decide +kernel
theorem d_Mo_range_32 : decode prog_14_method_56_code 32 = .ok (.lstore_n 3, 1) := by decide +kernel
theorem d_Mo_range_33 : decode prog_14_method_56_code 33 = .ok (.lload_n 1, 1) := by decide +kernel
theorem d_Mo_range_34 : decode prog_14_method_56_code 34 = .ok (.ldc2_w 336, 3) := by decide +kernel
theorem d_Mo_range_37 : decode prog_14_method_56_code 37 = .ok (.lcmp, 1) := by decide +kernel
theorem d_Mo_range_38 : decode prog_14_method_56_code 38 = .ok (.ifCond .gt 9, 3) := by decide +kernel
theorem d_Mo_range_41 : decode prog_14_method_56_code 41 = .ok (.lload_n 3, 1) := by decide +kernel
theorem d_Mo_range_42 : decode prog_14_method_56_code 42 = .ok (.lconst 0, 1) := by decide +kernel
theorem d_Mo_range_43 : decode prog_14_method_56_code 43 = .ok (.lcmp, 1) := by decide +kernel
theorem d_Mo_range_44 : decode prog_14_method_56_code 44 = .ok (.ifCond .eq 18, 3) := by decide +kernel
theorem d_Mo_range_47 : decode prog_14_method_56_code 47 = .ok (.aload_n 0, 1) := by decide +kernel
theorem d_Mo_range_48 : decode prog_14_method_56_code 48 = .ok (.bipush 30, 2) := by decide +kernel
theorem d_Mo_range_50 : decode prog_14_method_56_code 50 = .ok (.aload_n 0, 1) := by decide +kernel
theorem d_Mo_range_51 : decode prog_14_method_56_code 51 = .ok (.getfield 19, 3) := by decide +kernel
theorem d_Mo_range_54 : decode prog_14_method_56_code 54 = .ok (.aload_n 0, 1) := by decide +kernel
theorem d_Mo_range_55 : decode prog_14_method_56_code 55 = .ok (.getfield 193, 3) := by decide +kernel
theorem d_Mo_range_58 : decode prog_14_method_56_code 58 = .ok (.iaload, 1) := by decide +kernel
theorem d_Mo_range_59 : decode prog_14_method_56_code 59 = .ok (.invokevirtual 196, 3) := by decide +kernel
theorem d_Mo_range_62 : decode prog_14_method_56_code 62 = .ok (.aload_n 0, 1) := by decide +kernel
theorem d_Mo_range_63 : decode prog_14_method_56_code 63 = .ok (.aload_n 0, 1) := by decide +kernel
theorem d_Mo_range_64 : decode prog_14_method_56_code 64 = .ok (.getfield 193, 3) := by decide +kernel
theorem d_Mo_range_67 : decode prog_14_method_56_code 67 = .ok (.iconst 5, 1) := by decide +kernel
theorem d_Mo_range_68 : decode prog_14_method_56_code 68 = .ok (.iadd, 1) := by decide +kernel
theorem d_Mo_range_69 : decode prog_14_method_56_code 69 = .ok (.putfield 193, 3) := by decide +kernel
theorem d_Mo_range_72 : decode prog_14_method_56_code 72 = .ok (.lload_n 1, 1) := by decide +kernel
theorem d_Mo_range_73 : decode prog_14_method_56_code 73 = .ok (.l2i, 1) := by decide +kernel
theorem d_Mo_range_74 : decode prog_14_method_56_code 74 = .ok (.iconst 1, 1) := by decide +kernel
theorem d_Mo_range_75 : decode prog_14_method_56_code 75 = .ok (.iadd, 1) := by decide +kernel
theorem d_Mo_range_76 : decode prog_14_method_56_code 76 = .ok (.ireturn, 1) := by decide +kernel
abbrev m_Mo_numberOf : cx_M := (⟨"CircuitTextModel", "numberOf", "(I)J"⟩, prog_14_method_17_code, 4, (Option.some Jvm.ClassFile.FieldType.long), [], [false, false])
theorem w_Mo_numberOf : cx_W m_Mo_numberOf := ⟨Or.inl ⟨(in_7 (List.mem_of_getElem? (i := 207) rfl)), rfl⟩, by decide +kernel, by decide, by decide, by decide +kernel⟩
theorem n_Mo_numberOf : (parseMethodDescriptor m_Mo_numberOf.1.desc).map (fun d => d.parameters.length) = some 1 := by decide +kernel
theorem d_Mo_numberOf_0 : decode prog_14_method_17_code 0 = .ok (.aload_n 0, 1) := by decide +kernel
theorem d_Mo_numberOf_1 : decode prog_14_method_17_code 1 = .ok (.getfield 19, 3) := by decide +kernel
theorem d_Mo_numberOf_4 : decode prog_14_method_17_code 4 = .ok (.iload_n 1, 1) := by decide +kernel
theorem d_Mo_numberOf_5 : decode prog_14_method_17_code 5 = .ok (.iaload, 1) := by decide +kernel
theorem d_Mo_numberOf_6 : decode prog_14_method_17_code 6 = .ok (.istore_n 2, 1) := by decide +kernel
theorem d_Mo_numberOf_7 : decode prog_14_method_17_code 7 = .ok (.aload_n 0, 1) := by decide +kernel
theorem d_Mo_numberOf_8 : decode prog_14_method_17_code 8 = .ok (.iload_n 2, 1) := by decide +kernel
theorem d_Mo_numberOf_9 : decode prog_14_method_17_code 9 = .ok (.invokevirtual 136, 3) := by decide +kernel
theorem d_Mo_numberOf_12 : decode prog_14_method_17_code 12 = .ok (.invokestatic 133, 3) := by decide +kernel
theorem d_Mo_numberOf_15 : decode prog_14_method_17_code 15 = .ok (.ifCond .eq 9, 3) := by decide +kernel
theorem d_Mo_numberOf_18 : decode prog_14_method_17_code 18 = .ok (.iinc 2 1, 3) := by decide +kernel
theorem d_Mo_numberOf_21 : decode prog_14_method_17_code 21 = .ok (.goto (-14), 3) := by decide +kernel
theorem d_Mo_numberOf_24 : decode prog_14_method_17_code 24 = .ok (.iload_n 2, 1) := by decide +kernel
theorem d_Mo_numberOf_25 : decode prog_14_method_17_code 25 = .ok (.aload_n 0, 1) := by decide +kernel
theorem d_Mo_numberOf_26 : decode prog_14_method_17_code 26 = .ok (.getfield 22, 3) := by decide +kernel
theorem d_Mo_numberOf_29 : decode prog_14_method_17_code 29 = .ok (.iload_n 1, 1) := by decide +kernel
theorem d_Mo_numberOf_30 : decode prog_14_method_17_code 30 = .ok (.iaload, 1) := by decide +kernel
theorem d_Mo_numberOf_31 : decode prog_14_method_17_code 31 = .ok (.if_icmp .ne 19, 3) := by decide +kernel
theorem d_Mo_numberOf_34 : decode prog_14_method_17_code 34 = .ok (.aload_n 0, 1) := by decide +kernel
theorem d_Mo_numberOf_35 : decode prog_14_method_17_code 35 = .ok (.aload_n 0, 1) := by decide +kernel
theorem d_Mo_numberOf_36 : decode prog_14_method_17_code 36 = .ok (.getfield 19, 3) := by decide +kernel
theorem d_Mo_numberOf_39 : decode prog_14_method_17_code 39 = .ok (.iload_n 1, 1) := by decide +kernel
theorem d_Mo_numberOf_40 : decode prog_14_method_17_code 40 = .ok (.iaload, 1) := by decide +kernel
theorem d_Mo_numberOf_41 : decode prog_14_method_17_code 41 = .ok (.iload_n 2, 1) := by decide +kernel
theorem d_Mo_numberOf_42 : decode prog_14_method_17_code 42 = .ok (.bipush 10, 2) := by decide +kernel
theorem d_Mo_numberOf_44 : decode prog_14_method_17_code 44 = .ok (.bipush 16, 2) := by decide +kernel
theorem d_Mo_numberOf_46 : decode prog_14_method_17_code 46 = .ok (.invokevirtual 152, 3) := by decide +kernel
theorem d_Mo_numberOf_49 : decode prog_14_method_17_code 49 = .ok (.lreturn, 1) := by decide +kernel
theorem d_Mo_numberOf_50 : decode prog_14_method_17_code 50 = .ok (.aload_n 0, 1) := by decide +kernel
theorem d_Mo_numberOf_51 : decode prog_14_method_17_code 51 = .ok (.iload_n 2, 1) := by decide +kernel
theorem d_Mo_numberOf_52 : decode prog_14_method_17_code 52 = .ok (.iconst 1, 1) := by decide +kernel
theorem d_Mo_numberOf_53 : decode prog_14_method_17_code 53 = .ok (.iadd, 1) := by decide +kernel
theorem d_Mo_numberOf_54 : decode prog_14_method_17_code 54 = .ok (.invokevirtual 136, 3) := by decide +kernel
theorem d_Mo_numberOf_57 : decode prog_14_method_17_code 57 = .ok (.istore_n 3, 1) := by decide +kernel
theorem d_Mo_numberOf_58 : decode prog_14_method_17_code 58 = .ok (.aload_n 0, 1) := by decide +kernel
theorem d_Mo_numberOf_59 : decode prog_14_method_17_code 59 = .ok (.iload_n 2, 1) := by decide +kernel
theorem d_Mo_numberOf_60 : decode prog_14_method_17_code 60 = .ok (.iconst 2, 1) := by decide +kernel
theorem d_Mo_numberOf_61 : decode prog_14_method_17_code 61 = .ok (.iadd, 1) := by decide +kernel
theorem d_Mo_numberOf_62 : decode prog_14_method_17_code 62 = .ok (.aload_n 0, 1) := by decide +kernel
theorem d_Mo_numberOf_63 : decode prog_14_method_17_code 63 = .ok (.getfield 22, 3) := by decide +kernel
theorem d_Mo_numberOf_66 : decode prog_14_method_17_code 66 = .ok (.iload_n 1, 1) := by decide +kernel
theorem d_Mo_numberOf_67 : decode prog_14_method_17_code 67 = .ok (.iaload, 1) := by decide +kernel
theorem d_Mo_numberOf_68 : decode prog_14_method_17_code 68 = .ok (.iload_n 3, 1) := by decide +kernel
theorem d_Mo_numberOf_69 : decode prog_14_method_17_code 69 = .ok (.bipush 98, 2) := by decide +kernel
theorem d_Mo_numberOf_71 : decode prog_14_method_17_code 71 = .ok (.if_icmp .ne 7, 3) := by decide +kernel
theorem d_Mo_numberOf_74 : decode prog_14_method_17_code 74 = .ok (.iconst 2, 1) := by decide +kernel
theorem d_Mo_numberOf_75 : decode prog_14_method_17_code 75 = .ok (.goto 27, 3) := by decide +kernel
theorem d_Mo_numberOf_78 : decode prog_14_method_17_code 78 = .ok (.iload_n 3, 1) := by decide +kernel
theorem d_Mo_numberOf_79 : decode prog_14_method_17_code 79 = .ok (.bipush 111, 2) := by decide +kernel
theorem d_Mo_numberOf_81 : decode prog_14_method_17_code 81 = .ok (.if_icmp .ne 8, 3) := by decide +kernel
theorem d_Mo_numberOf_84 : decode prog_14_method_17_code 84 = .ok (.bipush 8, 2) := by decide +kernel
theorem d_Mo_numberOf_86 : decode prog_14_method_17_code 86 = .ok (.goto 16, 3) := by decide +kernel
theorem d_Mo_numberOf_89 : decode prog_14_method_17_code 89 = .ok (.iload_n 3, 1) := by decide +kernel
theorem d_Mo_numberOf_90 : decode prog_14_method_17_code 90 = .ok (.bipush 100, 2) := by decide +kernel
theorem d_Mo_numberOf_92 : decode prog_14_method_17_code 92 = .ok (.if_icmp .ne 8, 3) := by decide +kernel
theorem d_Mo_numberOf_95 : decode prog_14_method_17_code 95 = .ok (.bipush 10, 2) := by decide +kernel
theorem d_Mo_numberOf_97 : decode prog_14_method_17_code 97 = .ok (.goto 5, 3) := by decide +kernel
theorem d_Mo_numberOf_100 : decode prog_14_method_17_code 100 = .ok (.bipush 16, 2) := by decide +kernel
theorem d_Mo_numberOf_102 : decode prog_14_method_17_code 102 = .ok (.bipush 64, 2) := by decide +kernel
theorem d_Mo_numberOf_104 : decode prog_14_method_17_code 104 = .ok (.invokevirtual 152, 3) := by decide +kernel
theorem d_Mo_numberOf_107 : decode prog_14_method_17_code 107 = .ok (.lreturn, 1) := by decide +kernel
abbrev m_Mo_declare : cx_M := (⟨"CircuitTextModel", "declare", "(II)V"⟩, prog_14_method_57_code, 3, (Option.none : Option Jvm.ClassFile.FieldType), [], [false, false, false])
theorem w_Mo_declare : cx_W m_Mo_declare := ⟨Or.inl ⟨(in_7 (List.mem_of_getElem? (i := 212) rfl)), rfl⟩, by decide +kernel, by decide, by decide, by decide +kernel⟩
theorem n_Mo_declare : (parseMethodDescriptor m_Mo_declare.1.desc).map (fun d => d.parameters.length) = some 2 := by decide +kernel
theorem d_Mo_declare_0 : decode prog_14_method_57_code 0 = .ok (.aload_n 0, 1) := by decide +kernel
theorem d_Mo_declare_1 : decode prog_14_method_57_code 1 = .ok (.getfield 187, 3) := by decide +kernel
theorem d_Mo_declare_4 : decode prog_14_method_57_code 4 = .ok (.ifCond .ne 40, 3) := by decide +kernel
theorem d_Mo_declare_7 : decode prog_14_method_57_code 7 = .ok (.aload_n 0, 1) := by decide +kernel
theorem d_Mo_declare_8 : decode prog_14_method_57_code 8 = .ok (.aload_n 0, 1) := by decide +kernel
theorem d_Mo_declare_9 : decode prog_14_method_57_code 9 = .ok (.getfield 193, 3) := by decide +kernel
theorem d_Mo_declare_12 : decode prog_14_method_57_code 12 = .ok (.invokevirtual 330, 3) := by decide +kernel
theorem d_Mo_declare_15 : decode prog_14_method_57_code 15 = .ok (.ifCond .ge 14, 3) := by decide +kernel
theorem d_Mo_declare_18 : decode prog_14_method_57_code 18 = .ok (.aload_n 0, 1) := by decide +kernel
theorem d_Mo_declare_19 : decode prog_14_method_57_code 19 = .ok (.aload_n 0, 1) := by decide +kernel
theorem d_Mo_declare_20 : decode prog_14_method_57_code 20 = .ok (.getfield 193, 3) := by decide +kernel
theorem d_Mo_declare_23 : decode prog_14_method_57_code 23 = .ok (.invokevirtual 338, 3) := by decide +kernel
theorem d_Mo_declare_26 : decode prog_14_method_57_code 26 = .ok (.ifCond .eq 18, 3) := by decide +kernel
theorem d_Mo_declare_29 : decode prog_14_method_57_code 29 = .ok (.aload_n 0, 1) := by decide +kernel
theorem d_Mo_declare_30 : decode prog_14_method_57_code 30 = .ok (.bipush 21, 2) := by decide +kernel
theorem d_Mo_declare_32 : decode prog_14_method_57_code 32 = .ok (.aload_n 0, 1) := by decide +kernel
theorem d_Mo_declare_33 : decode prog_14_method_57_code 33 = .ok (.getfield 19, 3) := by decide +kernel
theorem d_Mo_declare_36 : decode prog_14_method_57_code 36 = .ok (.aload_n 0, 1) := by decide +kernel
theorem d_Mo_declare_37 : decode prog_14_method_57_code 37 = .ok (.getfield 193, 3) := by decide +kernel
theorem d_Mo_declare_40 : decode prog_14_method_57_code 40 = .ok (.iaload, 1) := by decide +kernel
theorem d_Mo_declare_41 : decode prog_14_method_57_code 41 = .ok (.invokevirtual 196, 3) := by decide +kernel
theorem d_Mo_declare_44 : decode prog_14_method_57_code 44 = .ok (.aload_n 0, 1) := by decide +kernel
theorem d_Mo_declare_45 : decode prog_14_method_57_code 45 = .ok (.getfield 40, 3) := by decide +kernel
theorem d_Mo_declare_48 : decode prog_14_method_57_code 48 = .ok (.aload_n 0, 1) := by decide +kernel
theorem d_Mo_declare_49 : decode prog_14_method_57_code 49 = .ok (.getfield 269, 3) := by decide +kernel
theorem d_Mo_declare_52 : decode prog_14_method_57_code 52 = .ok (.aload_n 0, 1) := by decide +kernel
theorem d_Mo_declare_53 : decode prog_14_method_57_code 53 = .ok (.getfield 193, 3) := by decide +kernel
theorem d_Mo_declare_56 : decode prog_14_method_57_code 56 = .ok (.iastore, 1) := by decide +kernel
theorem d_Mo_declare_57 : decode prog_14_method_57_code 57 = .ok (.aload_n 0, 1) := by decide +kernel
theorem d_Mo_declare_58 : decode prog_14_method_57_code 58 = .ok (.getfield 43, 3) := by decide +kernel
theorem d_Mo_declare_61 : decode prog_14_method_57_code 61 = .ok (.aload_n 0, 1) := by decide +kernel
theorem d_Mo_declare_62 : decode prog_14_method_57_code 62 = .ok (.getfield 269, 3) := by decide +kernel
theorem d_Mo_declare_65 : decode prog_14_method_57_code 65 = .ok (.iload_n 2, 1) := by decide +kernel
theorem d_Mo_declare_66 : decode prog_14_method_57_code 66 = .ok (.iastore, 1) := by decide +kernel
theorem d_Mo_declare_67 : decode prog_14_method_57_code 67 = .ok (.aload_n 0, 1) := by decide +kernel
theorem d_Mo_declare_68 : decode prog_14_method_57_code 68 = .ok (.getfield 46, 3) := by decide +kernel
theorem d_Mo_declare_71 : decode prog_14_method_57_code 71 = .ok (.aload_n 0, 1) := by decide +kernel
theorem d_Mo_declare_72 : decode prog_14_method_57_code 72 = .ok (.getfield 269, 3) := by decide +kernel
theorem d_Mo_declare_75 : decode prog_14_method_57_code 75 = .ok (.iload_n 1, 1) := by decide +kernel
theorem d_Mo_declare_76 : decode prog_14_method_57_code 76 = .ok (.iastore, 1) := by decide +kernel
theorem d_Mo_declare_77 : decode prog_14_method_57_code 77 = .ok (.aload_n 0, 1) := by decide +kernel
theorem d_Mo_declare_78 : decode prog_14_method_57_code 78 = .ok (.getfield 49, 3) := by decide +kernel
theorem d_Mo_declare_81 : decode prog_14_method_57_code 81 = .ok (.aload_n 0, 1) := by decide +kernel
theorem d_Mo_declare_82 : decode prog_14_method_57_code 82 = .ok (.getfield 269, 3) := by decide +kernel
theorem d_Mo_declare_85 : decode prog_14_method_57_code 85 = .ok (.lconst 0, 1) := by decide +kernel
theorem d_Mo_declare_86 : decode prog_14_method_57_code 86 = .ok (.lastore, 1) := by decide +kernel
theorem d_Mo_declare_87 : decode prog_14_method_57_code 87 = .ok (.aload_n 0, 1) := by decide +kernel
theorem d_Mo_declare_88 : decode prog_14_method_57_code 88 = .ok (.getfield 53, 3) := by decide +kernel
theorem d_Mo_declare_91 : decode prog_14_method_57_code 91 = .ok (.aload_n 0, 1) := by decide +kernel
theorem d_Mo_declare_92 : decode prog_14_method_57_code 92 = .ok (.getfield 269, 3) := by decide +kernel
theorem d_Mo_declare_95 : decode prog_14_method_57_code 95 = .ok (.iconst 0, 1) := by decide +kernel
theorem d_Mo_declare_96 : decode prog_14_method_57_code 96 = .ok (.iastore, 1) := by decide +kernel
theorem d_Mo_declare_97 : decode prog_14_method_57_code 97 = .ok (.aload_n 0, 1) := by decide +kernel
theorem d_Mo_declare_98 : decode prog_14_method_57_code 98 = .ok (.getfield 62, 3) := by decide +kernel
theorem d_Mo_declare_101 : decode prog_14_method_57_code 101 = .ok (.aload_n 0, 1) := by decide +kernel
theorem d_Mo_declare_102 : decode prog_14_method_57_code 102 = .ok (.getfield 269, 3) := by decide +kernel
theorem d_Mo_declare_105 : decode prog_14_method_57_code 105 = .ok (.iconst 0, 1) := by decide +kernel
theorem d_Mo_declare_106 : decode prog_14_method_57_code 106 = .ok (.iastore, 1) := by decide +kernel
theorem d_Mo_declare_107 : decode prog_14_method_57_code 107 = .ok (.aload_n 0, 1) := by decide +kernel
theorem d_Mo_declare_108 : decode prog_14_method_57_code 108 = .ok (.dup, 1) := by decide +kernel
theorem d_Mo_declare_109 : decode prog_14_method_57_code 109 = .ok (.getfield 269, 3) := by decide +kernel
theorem d_Mo_declare_112 : decode prog_14_method_57_code 112 = .ok (.iconst 1, 1) := by decide +kernel
theorem d_Mo_declare_113 : decode prog_14_method_57_code 113 = .ok (.iadd, 1) := by decide +kernel
theorem d_Mo_declare_114 : decode prog_14_method_57_code 114 = .ok (.putfield 269, 3) := by decide +kernel
theorem d_Mo_declare_117 : decode prog_14_method_57_code 117 = .ok (.aload_n 0, 1) := by decide +kernel
theorem d_Mo_declare_118 : decode prog_14_method_57_code 118 = .ok (.dup, 1) := by decide +kernel
theorem d_Mo_declare_119 : decode prog_14_method_57_code 119 = .ok (.getfield 193, 3) := by decide +kernel
theorem d_Mo_declare_122 : decode prog_14_method_57_code 122 = .ok (.iconst 1, 1) := by decide +kernel
theorem d_Mo_declare_123 : decode prog_14_method_57_code 123 = .ok (.iadd, 1) := by decide +kernel
theorem d_Mo_declare_124 : decode prog_14_method_57_code 124 = .ok (.putfield 193, 3) := by decide +kernel
theorem d_Mo_declare_127 : decode prog_14_method_57_code 127 = .ok (.aload_n 0, 1) := by decide +kernel
theorem d_Mo_declare_128 : decode prog_14_method_57_code 128 = .ok (.bipush 61, 2) := by decide +kernel
theorem d_Mo_declare_130 : decode prog_14_method_57_code 130 = .ok (.invokevirtual 203, 3) := by decide +kernel
theorem d_Mo_declare_133 : decode prog_14_method_57_code 133 = .ok (.ifCond .eq 69, 3) := by decide +kernel
theorem d_Mo_declare_136 : decode prog_14_method_57_code 136 = .ok (.aload_n 0, 1) := by decide +kernel
theorem d_Mo_declare_137 : decode prog_14_method_57_code 137 = .ok (.dup, 1) := by decide +kernel
theorem d_Mo_declare_138 : decode prog_14_method_57_code 138 = .ok (.getfield 193, 3) := by decide +kernel
theorem d_Mo_declare_141 : decode prog_14_method_57_code 141 = .ok (.iconst 1, 1) := by decide +kernel
theorem d_Mo_declare_142 : decode prog_14_method_57_code 142 = .ok (.iadd, 1) := by decide +kernel
theorem d_Mo_declare_143 : decode prog_14_method_57_code 143 = .ok (.putfield 193, 3) := by decide +kernel
theorem d_Mo_declare_146 : decode prog_14_method_57_code 146 = .ok (.aload_n 0, 1) := by decide +kernel
theorem d_Mo_declare_147 : decode prog_14_method_57_code 147 = .ok (.aload_n 0, 1) := by decide +kernel
theorem d_Mo_declare_148 : decode prog_14_method_57_code 148 = .ok (.getfield 193, 3) := by decide +kernel
theorem d_Mo_declare_151 : decode prog_14_method_57_code 151 = .ok (.invokevirtual 324, 3) := by decide +kernel
theorem d_Mo_declare_154 : decode prog_14_method_57_code 154 = .ok (.iload_n 2, 1) := by decide +kernel
theorem d_Mo_declare_155 : decode prog_14_method_57_code 155 = .ok (.if_icmp .eq 18, 3) := by decide +kernel
theorem d_Mo_declare_158 : decode prog_14_method_57_code 158 = .ok (.aload_n 0, 1) := by decide +kernel
theorem d_Mo_declare_159 : decode prog_14_method_57_code 159 = .ok (.bipush 30, 2) := by decide +kernel
theorem d_Mo_declare_161 : decode prog_14_method_57_code 161 = .ok (.aload_n 0, 1) := by decide +kernel
theorem d_Mo_declare_162 : decode prog_14_method_57_code 162 = .ok (.getfield 19, 3) := by decide +kernel
theorem d_Mo_declare_165 : decode prog_14_method_57_code 165 = .ok (.aload_n 0, 1) := by decide +kernel
theorem d_Mo_declare_166 : decode prog_14_method_57_code 166 = .ok (.getfield 193, 3) := by decide +kernel
theorem d_Mo_declare_169 : decode prog_14_method_57_code 169 = .ok (.iaload, 1) := by decide +kernel
theorem d_Mo_declare_170 : decode prog_14_method_57_code 170 = .ok (.invokevirtual 196, 3) := by decide +kernel
theorem d_Mo_declare_173 : decode prog_14_method_57_code 173 = .ok (.aload_n 0, 1) := by decide +kernel
theorem d_Mo_declare_174 : decode prog_14_method_57_code 174 = .ok (.getfield 49, 3) := by decide +kernel
theorem d_Mo_declare_177 : decode prog_14_method_57_code 177 = .ok (.aload_n 0, 1) := by decide +kernel
theorem d_Mo_declare_178 : decode prog_14_method_57_code 178 = .ok (.getfield 269, 3) := by decide +kernel
theorem d_Mo_declare_181 : decode prog_14_method_57_code 181 = .ok (.iconst 1, 1) := by decide +kernel
theorem d_Mo_declare_182 : decode prog_14_method_57_code 182 = .ok (.isub, 1) := by decide +kernel
theorem d_Mo_declare_183 : decode prog_14_method_57_code 183 = .ok (.aload_n 0, 1) := by decide +kernel
theorem d_Mo_declare_184 : decode prog_14_method_57_code 184 = .ok (.aload_n 0, 1) := by decide +kernel
theorem d_Mo_declare_185 : decode prog_14_method_57_code 185 = .ok (.getfield 193, 3) := by decide +kernel
theorem d_Mo_declare_188 : decode prog_14_method_57_code 188 = .ok (.invokevirtual 316, 3) := by decide +kernel
theorem d_Mo_declare_191 : decode prog_14_method_57_code 191 = .ok (.lastore, 1) := by decide +kernel
theorem d_Mo_declare_192 : decode prog_14_method_57_code 192 = .ok (.aload_n 0, 1) := by decide +kernel
theorem d_Mo_declare_193 : decode prog_14_method_57_code 193 = .ok (.dup, 1) := by decide +kernel
theorem d_Mo_declare_194 : decode prog_14_method_57_code 194 = .ok (.getfield 193, 3) := by decide +kernel
theorem d_Mo_declare_197 : decode prog_14_method_57_code 197 = .ok (.iconst 1, 1) := by decide +kernel
theorem d_Mo_declare_198 : decode prog_14_method_57_code 198 = .ok (.iadd, 1) := by decide +kernel
theorem d_Mo_declare_199 : decode prog_14_method_57_code 199 = .ok (.putfield 193, 3) := by decide +kernel
theorem d_Mo_declare_202 : decode prog_14_method_57_code 202 = .ok (.return_, 1) := by decide +kernel
theorem f_Mo_43 : cx_F "CircuitTextModel" 43 12 20 (.array .int) true := ⟨_, F_Mo, 58, t_Mo, k_Mo, by decide, rfl, rfl, Or.inl (in_6 (List.mem_of_getElem? (i := 115) rfl))⟩
theorem ff_Mo_43 : cx_FF "CircuitTextModel" 43 12 20 (.array .int) := ⟨_, F_Mo, 58, t_Mo, k_Mo, by decide, rfl, rfl, rfl, (in_6 (List.mem_of_getElem? (i := 115) rfl))⟩
theorem f_Mo_46 : cx_F "CircuitTextModel" 46 12 21 (.array .int) true := ⟨_, F_Mo, 58, t_Mo, k_Mo, by decide, rfl, rfl, Or.inl (in_6 (List.mem_of_getElem? (i := 116) rfl))⟩
theorem ff_Mo_46 : cx_FF "CircuitTextModel" 46 12 21 (.array .int) := ⟨_, F_Mo, 58, t_Mo, k_Mo, by decide, rfl, rfl, rfl, (in_6 (List.mem_of_getElem? (i := 116) rfl))⟩
theorem f_Mo_49 : cx_F "CircuitTextModel" 49 12 22 (.array .long) true := ⟨_, F_Mo, 58, t_Mo, k_Mo, by decide, rfl, rfl, Or.inl (in_6 (List.mem_of_getElem? (i := 117) rfl))⟩
theorem ff_Mo_49 : cx_FF "CircuitTextModel" 49 12 22 (.array .long) := ⟨_, F_Mo, 58, t_Mo, k_Mo, by decide, rfl, rfl, rfl, (in_6 (List.mem_of_getElem? (i := 117) rfl))⟩
theorem f_Mo_62 : cx_F "CircuitTextModel" 62 12 26 (.array .int) true := ⟨_, F_Mo, 58, t_Mo, k_Mo, by decide, rfl, rfl, Or.inl (in_6 (List.mem_of_getElem? (i := 121) rfl))⟩
theorem ff_Mo_62 : cx_FF "CircuitTextModel" 62 12 26 (.array .int) := ⟨_, F_Mo, 58, t_Mo, k_Mo, by decide, rfl, rfl, rfl, (in_6 (List.mem_of_getElem? (i := 121) rfl))⟩
abbrev m_Mo_here : cx_M := (⟨"CircuitTextModel", "here", "(I)I"⟩, prog_14_method_43_code, 2, (Option.some Jvm.ClassFile.FieldType.int), [], [false, false])
theorem w_Mo_here : cx_W m_Mo_here := ⟨Or.inl ⟨(in_7 (List.mem_of_getElem? (i := 216) rfl)), rfl⟩, by decide +kernel, by decide, by decide, by decide +kernel⟩
theorem n_Mo_here : (parseMethodDescriptor m_Mo_here.1.desc).map (fun d => d.parameters.length) = some 1 := by decide +kernel
theorem d_Mo_here_0 : decode prog_14_method_43_code 0 = .ok (.aload_n 0, 1) := by decide +kernel
theorem d_Mo_here_1 : decode prog_14_method_43_code 1 = .ok (.iload_n 1, 1) := by decide +kernel
theorem d_Mo_here_2 : decode prog_14_method_43_code 2 = .ok (.aload_n 0, 1) := by decide +kernel
theorem d_Mo_here_3 : decode prog_14_method_43_code 3 = .ok (.getfield 28, 3) := by decide +kernel
theorem d_Mo_here_6 : decode prog_14_method_43_code 6 = .ok (.aload_n 0, 1) := by decide +kernel
theorem d_Mo_here_7 : decode prog_14_method_43_code 7 = .ok (.getfield 266, 3) := by decide +kernel
theorem d_Mo_here_10 : decode prog_14_method_43_code 10 = .ok (.iaload, 1) := by decide +kernel
theorem d_Mo_here_11 : decode prog_14_method_43_code 11 = .ok (.aload_n 0, 1) := by decide +kernel
theorem d_Mo_here_12 : decode prog_14_method_43_code 12 = .ok (.getfield 269, 3) := by decide +kernel
theorem d_Mo_here_15 : decode prog_14_method_43_code 15 = .ok (.invokevirtual 272, 3) := by decide +kernel
theorem d_Mo_here_18 : decode prog_14_method_43_code 18 = .ok (.ireturn, 1) := by decide +kernel
abbrev m_Mo_signalNamed : cx_M := (⟨"CircuitTextModel", "signalNamed", "(III)I"⟩, prog_14_method_42_code, 5, (Option.some Jvm.ClassFile.FieldType.int), [], [false, false, false, false])
theorem w_Mo_signalNamed : cx_W m_Mo_signalNamed := ⟨Or.inl ⟨(in_7 (List.mem_of_getElem? (i := 220) rfl)), rfl⟩, by decide +kernel, by decide, by decide, by decide +kernel⟩
theorem n_Mo_signalNamed : (parseMethodDescriptor m_Mo_signalNamed.1.desc).map (fun d => d.parameters.length) = some 3 := by decide +kernel
theorem d_Mo_signalNamed_0 : decode prog_14_method_42_code 0 = .ok (.iload_n 2, 1) := by decide +kernel
theorem d_Mo_signalNamed_1 : decode prog_14_method_42_code 1 = .ok (.istore 4, 2) := by decide +kernel
theorem d_Mo_signalNamed_3 : decode prog_14_method_42_code 3 = .ok (.iload 4, 2) := by decide +kernel
theorem d_Mo_signalNamed_5 : decode prog_14_method_42_code 5 = .ok (.iload_n 3, 1) := by decide +kernel
theorem d_Mo_signalNamed_6 : decode prog_14_method_42_code 6 = .ok (.if_icmp .ge 27, 3) := by decide +kernel
theorem d_Mo_signalNamed_9 : decode prog_14_method_42_code 9 = .ok (.aload_n 0, 1) := by decide +kernel
theorem d_Mo_signalNamed_10 : decode prog_14_method_42_code 10 = .ok (.aload_n 0, 1) := by decide +kernel
theorem d_Mo_signalNamed_11 : decode prog_14_method_42_code 11 = .ok (.getfield 40, 3) := by decide +kernel
theorem d_Mo_signalNamed_14 : decode prog_14_method_42_code 14 = .ok (.iload 4, 2) := by decide +kernel
theorem d_Mo_signalNamed_16 : decode prog_14_method_42_code 16 = .ok (.iaload, 1) := by decide +kernel
theorem d_Mo_signalNamed_17 : decode prog_14_method_42_code 17 = .ok (.iload_n 1, 1) := by decide +kernel
theorem d_Mo_signalNamed_18 : decode prog_14_method_42_code 18 = .ok (.invokevirtual 262, 3) := by decide +kernel
theorem d_Mo_signalNamed_21 : decode prog_14_method_42_code 21 = .ok (.ifCond .eq 6, 3) := by decide +kernel
theorem d_Mo_signalNamed_24 : decode prog_14_method_42_code 24 = .ok (.iload 4, 2) := by decide +kernel
theorem d_Mo_signalNamed_26 : decode prog_14_method_42_code 26 = .ok (.ireturn, 1) := by decide +kernel
theorem d_Mo_signalNamed_27 : decode prog_14_method_42_code 27 = .ok (.iinc 4 1, 3) := by decide +kernel
theorem d_Mo_signalNamed_30 : decode prog_14_method_42_code 30 = .ok (.goto (-27), 3) := by decide +kernel
theorem d_Mo_signalNamed_33 : decode prog_14_method_42_code 33 = .ok (.iconst (-1), 1) := by decide +kernel
theorem d_Mo_signalNamed_34 : decode prog_14_method_42_code 34 = .ok (.ireturn, 1) := by decide +kernel
abbrev m_Mo_isInstanceName : cx_M := (⟨"CircuitTextModel", "isInstanceName", "(I)Z"⟩, prog_14_method_44_code, 4, (Option.some Jvm.ClassFile.FieldType.boolean), [], [false, false])
theorem w_Mo_isInstanceName : cx_W m_Mo_isInstanceName := ⟨Or.inl ⟨(in_7 (List.mem_of_getElem? (i := 224) rfl)), rfl⟩, by decide +kernel, by decide, by decide, by decide +kernel⟩
theorem n_Mo_isInstanceName : (parseMethodDescriptor m_Mo_isInstanceName.1.desc).map (fun d => d.parameters.length) = some 1 := by decide +kernel
theorem d_Mo_isInstanceName_0 : decode prog_14_method_44_code 0 = .ok (.iconst 0, 1) := by decide +kernel
theorem d_Mo_isInstanceName_1 : decode prog_14_method_44_code 1 = .ok (.istore_n 2, 1) := by decide +kernel
theorem d_Mo_isInstanceName_2 : decode prog_14_method_44_code 2 = .ok (.aload_n 0, 1) := by decide +kernel
theorem d_Mo_isInstanceName_3 : decode prog_14_method_44_code 3 = .ok (.getfield 31, 3) := by decide +kernel
theorem d_Mo_isInstanceName_6 : decode prog_14_method_44_code 6 = .ok (.aload_n 0, 1) := by decide +kernel
theorem d_Mo_isInstanceName_7 : decode prog_14_method_44_code 7 = .ok (.getfield 266, 3) := by decide +kernel
theorem d_Mo_isInstanceName_10 : decode prog_14_method_44_code 10 = .ok (.iaload, 1) := by decide +kernel
theorem d_Mo_isInstanceName_11 : decode prog_14_method_44_code 11 = .ok (.istore_n 3, 1) := by decide +kernel
theorem d_Mo_isInstanceName_12 : decode prog_14_method_44_code 12 = .ok (.iload_n 3, 1) := by decide +kernel
theorem d_Mo_isInstanceName_13 : decode prog_14_method_44_code 13 = .ok (.aload_n 0, 1) := by decide +kernel
theorem d_Mo_isInstanceName_14 : decode prog_14_method_44_code 14 = .ok (.getfield 276, 3) := by decide +kernel
theorem d_Mo_isInstanceName_17 : decode prog_14_method_44_code 17 = .ok (.if_icmp .ge 33, 3) := by decide +kernel
theorem d_Mo_isInstanceName_20 : decode prog_14_method_44_code 20 = .ok (.iload_n 2, 1) := by decide +kernel
theorem d_Mo_isInstanceName_21 : decode prog_14_method_44_code 21 = .ok (.ifCond .ne 17, 3) := by decide +kernel
theorem d_Mo_isInstanceName_24 : decode prog_14_method_44_code 24 = .ok (.aload_n 0, 1) := by decide +kernel
theorem d_Mo_isInstanceName_25 : decode prog_14_method_44_code 25 = .ok (.aload_n 0, 1) := by decide +kernel
theorem d_Mo_isInstanceName_26 : decode prog_14_method_44_code 26 = .ok (.getfield 68, 3) := by decide +kernel
theorem d_Mo_isInstanceName_29 : decode prog_14_method_44_code 29 = .ok (.iload_n 3, 1) := by decide +kernel
theorem d_Mo_isInstanceName_30 : decode prog_14_method_44_code 30 = .ok (.iaload, 1) := by decide +kernel
theorem d_Mo_isInstanceName_31 : decode prog_14_method_44_code 31 = .ok (.iload_n 1, 1) := by decide +kernel
theorem d_Mo_isInstanceName_32 : decode prog_14_method_44_code 32 = .ok (.invokevirtual 262, 3) := by decide +kernel
theorem d_Mo_isInstanceName_35 : decode prog_14_method_44_code 35 = .ok (.ifCond .eq 7, 3) := by decide +kernel
theorem d_Mo_isInstanceName_38 : decode prog_14_method_44_code 38 = .ok (.iconst 1, 1) := by decide +kernel
theorem d_Mo_isInstanceName_39 : decode prog_14_method_44_code 39 = .ok (.goto 4, 3) := by decide +kernel
theorem d_Mo_isInstanceName_42 : decode prog_14_method_44_code 42 = .ok (.iconst 0, 1) := by decide +kernel
theorem d_Mo_isInstanceName_43 : decode prog_14_method_44_code 43 = .ok (.istore_n 2, 1) := by decide +kernel
theorem d_Mo_isInstanceName_44 : decode prog_14_method_44_code 44 = .ok (.iinc 3 1, 3) := by decide +kernel
theorem d_Mo_isInstanceName_47 : decode prog_14_method_44_code 47 = .ok (.goto (-35), 3) := by decide +kernel
theorem d_Mo_isInstanceName_50 : decode prog_14_method_44_code 50 = .ok (.iload_n 2, 1) := by decide +kernel
theorem d_Mo_isInstanceName_51 : decode prog_14_method_44_code 51 = .ok (.ireturn, 1) := by decide +kernel
theorem f_Mo_68 : cx_F "CircuitTextModel" 68 12 29 (.array .int) true := ⟨_, F_Mo, 58, t_Mo, k_Mo, by decide, rfl, rfl, Or.inl (in_6 (List.mem_of_getElem? (i := 124) rfl))⟩
theorem ff_Mo_68 : cx_FF "CircuitTextModel" 68 12 29 (.array .int) := ⟨_, F_Mo, 58, t_Mo, k_Mo, by decide, rfl, rfl, rfl, (in_6 (List.mem_of_getElem? (i := 124) rfl))⟩
abbrev m_Mo_widthOfNumber : cx_M := (⟨"CircuitTextModel", "widthOfNumber", "(I)I"⟩, prog_14_method_18_code, 4, (Option.some Jvm.ClassFile.FieldType.int), [], [false, false])
theorem w_Mo_widthOfNumber : cx_W m_Mo_widthOfNumber := ⟨Or.inl ⟨(in_7 (List.mem_of_getElem? (i := 228) rfl)), rfl⟩, by decide +kernel, by decide, by decide, by decide +kernel⟩
theorem n_Mo_widthOfNumber : (parseMethodDescriptor m_Mo_widthOfNumber.1.desc).map (fun d => d.parameters.length) = some 1 := by decide +kernel
theorem d_Mo_widthOfNumber_0 : decode prog_14_method_18_code 0 = .ok (.aload_n 0, 1) := by decide +kernel
theorem d_Mo_widthOfNumber_1 : decode prog_14_method_18_code 1 = .ok (.getfield 19, 3) := by decide +kernel
theorem d_Mo_widthOfNumber_4 : decode prog_14_method_18_code 4 = .ok (.iload_n 1, 1) := by decide +kernel
theorem d_Mo_widthOfNumber_5 : decode prog_14_method_18_code 5 = .ok (.iaload, 1) := by decide +kernel
theorem d_Mo_widthOfNumber_6 : decode prog_14_method_18_code 6 = .ok (.istore_n 2, 1) := by decide +kernel
theorem d_Mo_widthOfNumber_7 : decode prog_14_method_18_code 7 = .ok (.iconst 0, 1) := by decide +kernel
theorem d_Mo_widthOfNumber_8 : decode prog_14_method_18_code 8 = .ok (.istore_n 3, 1) := by decide +kernel
theorem d_Mo_widthOfNumber_9 : decode prog_14_method_18_code 9 = .ok (.aload_n 0, 1) := by decide +kernel
theorem d_Mo_widthOfNumber_10 : decode prog_14_method_18_code 10 = .ok (.iload_n 2, 1) := by decide +kernel
theorem d_Mo_widthOfNumber_11 : decode prog_14_method_18_code 11 = .ok (.invokevirtual 136, 3) := by decide +kernel
theorem d_Mo_widthOfNumber_14 : decode prog_14_method_18_code 14 = .ok (.invokestatic 133, 3) := by decide +kernel
theorem d_Mo_widthOfNumber_17 : decode prog_14_method_18_code 17 = .ok (.ifCond .eq 23, 3) := by decide +kernel
theorem d_Mo_widthOfNumber_20 : decode prog_14_method_18_code 20 = .ok (.iload_n 3, 1) := by decide +kernel
theorem d_Mo_widthOfNumber_21 : decode prog_14_method_18_code 21 = .ok (.bipush 10, 2) := by decide +kernel
theorem d_Mo_widthOfNumber_23 : decode prog_14_method_18_code 23 = .ok (.imul, 1) := by decide +kernel
theorem d_Mo_widthOfNumber_24 : decode prog_14_method_18_code 24 = .ok (.aload_n 0, 1) := by decide +kernel
theorem d_Mo_widthOfNumber_25 : decode prog_14_method_18_code 25 = .ok (.iload_n 2, 1) := by decide +kernel
theorem d_Mo_widthOfNumber_26 : decode prog_14_method_18_code 26 = .ok (.invokevirtual 136, 3) := by decide +kernel
theorem d_Mo_widthOfNumber_29 : decode prog_14_method_18_code 29 = .ok (.iadd, 1) := by decide +kernel
theorem d_Mo_widthOfNumber_30 : decode prog_14_method_18_code 30 = .ok (.bipush 48, 2) := by decide +kernel
theorem d_Mo_widthOfNumber_32 : decode prog_14_method_18_code 32 = .ok (.isub, 1) := by decide +kernel
theorem d_Mo_widthOfNumber_33 : decode prog_14_method_18_code 33 = .ok (.istore_n 3, 1) := by decide +kernel
theorem d_Mo_widthOfNumber_34 : decode prog_14_method_18_code 34 = .ok (.iinc 2 1, 3) := by decide +kernel
theorem d_Mo_widthOfNumber_37 : decode prog_14_method_18_code 37 = .ok (.goto (-28), 3) := by decide +kernel
theorem d_Mo_widthOfNumber_40 : decode prog_14_method_18_code 40 = .ok (.iload_n 3, 1) := by decide +kernel
theorem d_Mo_widthOfNumber_41 : decode prog_14_method_18_code 41 = .ok (.ireturn, 1) := by decide +kernel
abbrev m_Mo_item : cx_M := (⟨"CircuitTextModel", "item", "()V"⟩, prog_14_method_69_code, 2, (Option.none : Option Jvm.ClassFile.FieldType), [], [false])
theorem w_Mo_item : cx_W m_Mo_item := ⟨Or.inl ⟨(in_7 (List.mem_of_getElem? (i := 232) rfl)), rfl⟩, by decide +kernel, by decide, by decide, by decide +kernel⟩
theorem n_Mo_item : (parseMethodDescriptor m_Mo_item.1.desc).map (fun d => d.parameters.length) = some 0 := by decide +kernel
theorem d_Mo_item_0 : decode prog_14_method_69_code 0 = .ok (.aload_n 0, 1) := by decide +kernel
theorem d_Mo_item_1 : decode prog_14_method_69_code 1 = .ok (.invokevirtual 216, 3) := by decide +kernel
theorem d_Mo_item_4 : decode prog_14_method_69_code 4 = .ok (.sipush 304, 3) := by decide +kernel
theorem d_Mo_item_7 : decode prog_14_method_69_code 7 = .ok (.if_icmp .eq 13, 3) := by decide +kernel
theorem d_Mo_item_10 : decode prog_14_method_69_code 10 = .ok (.aload_n 0, 1) := by decide +kernel
theorem d_Mo_item_11 : decode prog_14_method_69_code 11 = .ok (.invokevirtual 216, 3) := by decide +kernel
theorem d_Mo_item_14 : decode prog_14_method_69_code 14 = .ok (.sipush 305, 3) := by decide +kernel
theorem d_Mo_item_17 : decode prog_14_method_69_code 17 = .ok (.if_icmp .ne 59, 3) := by decide +kernel
theorem d_Mo_item_20 : decode prog_14_method_69_code 20 = .ok (.aload_n 0, 1) := by decide +kernel
theorem d_Mo_item_21 : decode prog_14_method_69_code 21 = .ok (.invokevirtual 216, 3) := by decide +kernel
theorem d_Mo_item_24 : decode prog_14_method_69_code 24 = .ok (.sipush 305, 3) := by decide +kernel
theorem d_Mo_item_27 : decode prog_14_method_69_code 27 = .ok (.if_icmp .ne 7, 3) := by decide +kernel
theorem d_Mo_item_30 : decode prog_14_method_69_code 30 = .ok (.iconst 1, 1) := by decide +kernel
theorem d_Mo_item_31 : decode prog_14_method_69_code 31 = .ok (.goto 4, 3) := by decide +kernel
theorem d_Mo_item_34 : decode prog_14_method_69_code 34 = .ok (.iconst 0, 1) := by decide +kernel
theorem d_Mo_item_35 : decode prog_14_method_69_code 35 = .ok (.istore_n 1, 1) := by decide +kernel
theorem d_Mo_item_36 : decode prog_14_method_69_code 36 = .ok (.aload_n 0, 1) := by decide +kernel
theorem d_Mo_item_37 : decode prog_14_method_69_code 37 = .ok (.dup, 1) := by decide +kernel
theorem d_Mo_item_38 : decode prog_14_method_69_code 38 = .ok (.getfield 193, 3) := by decide +kernel
theorem d_Mo_item_41 : decode prog_14_method_69_code 41 = .ok (.iconst 1, 1) := by decide +kernel
theorem d_Mo_item_42 : decode prog_14_method_69_code 42 = .ok (.iadd, 1) := by decide +kernel
theorem d_Mo_item_43 : decode prog_14_method_69_code 43 = .ok (.putfield 193, 3) := by decide +kernel
theorem d_Mo_item_46 : decode prog_14_method_69_code 46 = .ok (.aload_n 0, 1) := by decide +kernel
theorem d_Mo_item_47 : decode prog_14_method_69_code 47 = .ok (.iload_n 1, 1) := by decide +kernel
theorem d_Mo_item_48 : decode prog_14_method_69_code 48 = .ok (.ifCond .eq 7, 3) := by decide +kernel
theorem d_Mo_item_51 : decode prog_14_method_69_code 51 = .ok (.iconst 4, 1) := by decide +kernel
theorem d_Mo_item_52 : decode prog_14_method_69_code 52 = .ok (.goto 4, 3) := by decide +kernel
theorem d_Mo_item_55 : decode prog_14_method_69_code 55 = .ok (.iconst 3, 1) := by decide +kernel
theorem d_Mo_item_56 : decode prog_14_method_69_code 56 = .ok (.aload_n 0, 1) := by decide +kernel
theorem d_Mo_item_57 : decode prog_14_method_69_code 57 = .ok (.invokevirtual 341, 3) := by decide +kernel
theorem d_Mo_item_60 : decode prog_14_method_69_code 60 = .ok (.invokevirtual 344, 3) := by decide +kernel
theorem d_Mo_item_63 : decode prog_14_method_69_code 63 = .ok (.aload_n 0, 1) := by decide +kernel
theorem d_Mo_item_64 : decode prog_14_method_69_code 64 = .ok (.dup, 1) := by decide +kernel
theorem d_Mo_item_65 : decode prog_14_method_69_code 65 = .ok (.getfield 193, 3) := by decide +kernel
theorem d_Mo_item_68 : decode prog_14_method_69_code 68 = .ok (.iconst 1, 1) := by decide +kernel
theorem d_Mo_item_69 : decode prog_14_method_69_code 69 = .ok (.iadd, 1) := by decide +kernel
theorem d_Mo_item_70 : decode prog_14_method_69_code 70 = .ok (.putfield 193, 3) := by decide +kernel
theorem d_Mo_item_73 : decode prog_14_method_69_code 73 = .ok (.goto 166, 3) := by decide +kernel
theorem d_Mo_item_76 : decode prog_14_method_69_code 76 = .ok (.aload_n 0, 1) := by decide +kernel
theorem d_Mo_item_77 : decode prog_14_method_69_code 77 = .ok (.invokevirtual 216, 3) := by decide +kernel
theorem d_Mo_item_80 : decode prog_14_method_69_code 80 = .ok (.sipush 306, 3) := by decide +kernel
theorem d_Mo_item_83 : decode prog_14_method_69_code 83 = .ok (.if_icmp .ne 10, 3) := by decide +kernel
theorem d_Mo_item_86 : decode prog_14_method_69_code 86 = .ok (.aload_n 0, 1) := by decide +kernel
theorem d_Mo_item_87 : decode prog_14_method_69_code 87 = .ok (.invokevirtual 380, 3) := by decide +kernel
theorem d_Mo_item_90 : decode prog_14_method_69_code 90 = .ok (.goto 149, 3) := by decide +kernel
theorem d_Mo_item_93 : decode prog_14_method_69_code 93 = .ok (.aload_n 0, 1) := by decide +kernel
theorem d_Mo_item_94 : decode prog_14_method_69_code 94 = .ok (.invokevirtual 216, 3) := by decide +kernel
theorem d_Mo_item_97 : decode prog_14_method_69_code 97 = .ok (.sipush 307, 3) := by decide +kernel
theorem d_Mo_item_100 : decode prog_14_method_69_code 100 = .ok (.if_icmp .ne 57, 3) := by decide +kernel
theorem d_Mo_item_103 : decode prog_14_method_69_code 103 = .ok (.aload_n 0, 1) := by decide +kernel
theorem d_Mo_item_104 : decode prog_14_method_69_code 104 = .ok (.aload_n 0, 1) := by decide +kernel
theorem d_Mo_item_105 : decode prog_14_method_69_code 105 = .ok (.getfield 193, 3) := by decide +kernel
theorem d_Mo_item_108 : decode prog_14_method_69_code 108 = .ok (.bipush 6, 2) := by decide +kernel
theorem d_Mo_item_110 : decode prog_14_method_69_code 110 = .ok (.iadd, 1) := by decide +kernel
theorem d_Mo_item_111 : decode prog_14_method_69_code 111 = .ok (.putfield 193, 3) := by decide +kernel
theorem d_Mo_item_114 : decode prog_14_method_69_code 114 = .ok (.aload_n 0, 1) := by decide +kernel
theorem d_Mo_item_115 : decode prog_14_method_69_code 115 = .ok (.getfield 89, 3) := by decide +kernel
theorem d_Mo_item_118 : decode prog_14_method_69_code 118 = .ok (.aload_n 0, 1) := by decide +kernel
theorem d_Mo_item_119 : decode prog_14_method_69_code 119 = .ok (.getfield 365, 3) := by decide +kernel
theorem d_Mo_item_122 : decode prog_14_method_69_code 122 = .ok (.aload_n 0, 1) := by decide +kernel
theorem d_Mo_item_123 : decode prog_14_method_69_code 123 = .ok (.getfield 279, 3) := by decide +kernel
theorem d_Mo_item_126 : decode prog_14_method_69_code 126 = .ok (.iastore, 1) := by decide +kernel
theorem d_Mo_item_127 : decode prog_14_method_69_code 127 = .ok (.aload_n 0, 1) := by decide +kernel
theorem d_Mo_item_128 : decode prog_14_method_69_code 128 = .ok (.invokevirtual 350, 3) := by decide +kernel
theorem d_Mo_item_131 : decode prog_14_method_69_code 131 = .ok (.aload_n 0, 1) := by decide +kernel
theorem d_Mo_item_132 : decode prog_14_method_69_code 132 = .ok (.getfield 92, 3) := by decide +kernel
theorem d_Mo_item_135 : decode prog_14_method_69_code 135 = .ok (.aload_n 0, 1) := by decide +kernel
theorem d_Mo_item_136 : decode prog_14_method_69_code 136 = .ok (.getfield 365, 3) := by decide +kernel
theorem d_Mo_item_139 : decode prog_14_method_69_code 139 = .ok (.aload_n 0, 1) := by decide +kernel
theorem d_Mo_item_140 : decode prog_14_method_69_code 140 = .ok (.getfield 279, 3) := by decide +kernel
theorem d_Mo_item_143 : decode prog_14_method_69_code 143 = .ok (.iastore, 1) := by decide +kernel
theorem d_Mo_item_144 : decode prog_14_method_69_code 144 = .ok (.aload_n 0, 1) := by decide +kernel
theorem d_Mo_item_145 : decode prog_14_method_69_code 145 = .ok (.dup, 1) := by decide +kernel
theorem d_Mo_item_146 : decode prog_14_method_69_code 146 = .ok (.getfield 365, 3) := by decide +kernel
theorem d_Mo_item_149 : decode prog_14_method_69_code 149 = .ok (.iconst 1, 1) := by decide +kernel
theorem d_Mo_item_150 : decode prog_14_method_69_code 150 = .ok (.iadd, 1) := by decide +kernel
theorem d_Mo_item_151 : decode prog_14_method_69_code 151 = .ok (.putfield 365, 3) := by decide +kernel
theorem d_Mo_item_154 : decode prog_14_method_69_code 154 = .ok (.goto 85, 3) := by decide +kernel
theorem d_Mo_item_157 : decode prog_14_method_69_code 157 = .ok (.aload_n 0, 1) := by decide +kernel
theorem d_Mo_item_158 : decode prog_14_method_69_code 158 = .ok (.invokevirtual 216, 3) := by decide +kernel
theorem d_Mo_item_161 : decode prog_14_method_69_code 161 = .ok (.sipush 317, 3) := by decide +kernel
theorem d_Mo_item_164 : decode prog_14_method_69_code 164 = .ok (.if_icmp .ne 71, 3) := by decide +kernel
theorem d_Mo_item_167 : decode prog_14_method_69_code 167 = .ok (.aload_n 0, 1) := by decide +kernel
theorem d_Mo_item_168 : decode prog_14_method_69_code 168 = .ok (.aload_n 0, 1) := by decide +kernel
theorem d_Mo_item_169 : decode prog_14_method_69_code 169 = .ok (.getfield 193, 3) := by decide +kernel
theorem d_Mo_item_172 : decode prog_14_method_69_code 172 = .ok (.iconst 2, 1) := by decide +kernel
theorem d_Mo_item_173 : decode prog_14_method_69_code 173 = .ok (.iadd, 1) := by decide +kernel
theorem d_Mo_item_174 : decode prog_14_method_69_code 174 = .ok (.putfield 193, 3) := by decide +kernel
theorem d_Mo_item_177 : decode prog_14_method_69_code 177 = .ok (.aload_n 0, 1) := by decide +kernel
theorem d_Mo_item_178 : decode prog_14_method_69_code 178 = .ok (.getfield 83, 3) := by decide +kernel
theorem d_Mo_item_181 : decode prog_14_method_69_code 181 = .ok (.aload_n 0, 1) := by decide +kernel
theorem d_Mo_item_182 : decode prog_14_method_69_code 182 = .ok (.getfield 383, 3) := by decide +kernel
theorem d_Mo_item_185 : decode prog_14_method_69_code 185 = .ok (.aload_n 0, 1) := by decide +kernel
theorem d_Mo_item_186 : decode prog_14_method_69_code 186 = .ok (.getfield 279, 3) := by decide +kernel
theorem d_Mo_item_189 : decode prog_14_method_69_code 189 = .ok (.iastore, 1) := by decide +kernel
theorem d_Mo_item_190 : decode prog_14_method_69_code 190 = .ok (.aload_n 0, 1) := by decide +kernel
theorem d_Mo_item_191 : decode prog_14_method_69_code 191 = .ok (.aload_n 0, 1) := by decide +kernel
theorem d_Mo_item_192 : decode prog_14_method_69_code 192 = .ok (.invokevirtual 288, 3) := by decide +kernel
theorem d_Mo_item_195 : decode prog_14_method_69_code 195 = .ok (.i2l, 1) := by decide +kernel
theorem d_Mo_item_196 : decode prog_14_method_69_code 196 = .ok (.invokevirtual 291, 3) := by decide +kernel
theorem d_Mo_item_199 : decode prog_14_method_69_code 199 = .ok (.aload_n 0, 1) := by decide +kernel
theorem d_Mo_item_200 : decode prog_14_method_69_code 200 = .ok (.getfield 86, 3) := by decide +kernel
theorem d_Mo_item_203 : decode prog_14_method_69_code 203 = .ok (.aload_n 0, 1) := by decide +kernel
theorem d_Mo_item_204 : decode prog_14_method_69_code 204 = .ok (.getfield 383, 3) := by decide +kernel
theorem d_Mo_item_207 : decode prog_14_method_69_code 207 = .ok (.aload_n 0, 1) := by decide +kernel
theorem d_Mo_item_208 : decode prog_14_method_69_code 208 = .ok (.getfield 279, 3) := by decide +kernel
theorem d_Mo_item_211 : decode prog_14_method_69_code 211 = .ok (.iastore, 1) := by decide +kernel
theorem d_Mo_item_212 : decode prog_14_method_69_code 212 = .ok (.aload_n 0, 1) := by decide +kernel
theorem d_Mo_item_213 : decode prog_14_method_69_code 213 = .ok (.dup, 1) := by decide +kernel
theorem d_Mo_item_214 : decode prog_14_method_69_code 214 = .ok (.getfield 383, 3) := by decide +kernel
theorem d_Mo_item_217 : decode prog_14_method_69_code 217 = .ok (.iconst 1, 1) := by decide +kernel
theorem d_Mo_item_218 : decode prog_14_method_69_code 218 = .ok (.iadd, 1) := by decide +kernel
theorem d_Mo_item_219 : decode prog_14_method_69_code 219 = .ok (.putfield 383, 3) := by decide +kernel
theorem d_Mo_item_222 : decode prog_14_method_69_code 222 = .ok (.aload_n 0, 1) := by decide +kernel
theorem d_Mo_item_223 : decode prog_14_method_69_code 223 = .ok (.aload_n 0, 1) := by decide +kernel
theorem d_Mo_item_224 : decode prog_14_method_69_code 224 = .ok (.getfield 193, 3) := by decide +kernel
theorem d_Mo_item_227 : decode prog_14_method_69_code 227 = .ok (.iconst 2, 1) := by decide +kernel
theorem d_Mo_item_228 : decode prog_14_method_69_code 228 = .ok (.iadd, 1) := by decide +kernel
theorem d_Mo_item_229 : decode prog_14_method_69_code 229 = .ok (.putfield 193, 3) := by decide +kernel
theorem d_Mo_item_232 : decode prog_14_method_69_code 232 = .ok (.goto 7, 3) := by decide +kernel
theorem d_Mo_item_235 : decode prog_14_method_69_code 235 = .ok (.aload_n 0, 1) := by decide +kernel
theorem d_Mo_item_236 : decode prog_14_method_69_code 236 = .ok (.invokevirtual 386, 3) := by decide +kernel
theorem d_Mo_item_239 : decode prog_14_method_69_code 239 = .ok (.return_, 1) := by decide +kernel
theorem f_Mo_89 : cx_F "CircuitTextModel" 89 12 39 (.array .int) true := ⟨_, F_Mo, 58, t_Mo, k_Mo, by decide, rfl, rfl, Or.inl (in_6 (List.mem_of_getElem? (i := 134) rfl))⟩
theorem ff_Mo_89 : cx_FF "CircuitTextModel" 89 12 39 (.array .int) := ⟨_, F_Mo, 58, t_Mo, k_Mo, by decide, rfl, rfl, rfl, (in_6 (List.mem_of_getElem? (i := 134) rfl))⟩
theorem f_Mo_92 : cx_F "CircuitTextModel" 92 12 40 (.array .int) true := ⟨_, F_Mo, 58, t_Mo, k_Mo, by decide, rfl, rfl, Or.inl (in_6 (List.mem_of_getElem? (i := 135) rfl))⟩
theorem ff_Mo_92 : cx_FF "CircuitTextModel" 92 12 40 (.array .int) := ⟨_, F_Mo, 58, t_Mo, k_Mo, by decide, rfl, rfl, rfl, (in_6 (List.mem_of_getElem? (i := 135) rfl))⟩
theorem f_Mo_83 : cx_F "CircuitTextModel" 83 12 36 (.array .int) true := ⟨_, F_Mo, 58, t_Mo, k_Mo, by decide, rfl, rfl, Or.inl (in_6 (List.mem_of_getElem? (i := 131) rfl))⟩
theorem ff_Mo_83 : cx_FF "CircuitTextModel" 83 12 36 (.array .int) := ⟨_, F_Mo, 58, t_Mo, k_Mo, by decide, rfl, rfl, rfl, (in_6 (List.mem_of_getElem? (i := 131) rfl))⟩
theorem f_Mo_86 : cx_F "CircuitTextModel" 86 12 37 (.array .int) true := ⟨_, F_Mo, 58, t_Mo, k_Mo, by decide, rfl, rfl, Or.inl (in_6 (List.mem_of_getElem? (i := 132) rfl))⟩
theorem ff_Mo_86 : cx_FF "CircuitTextModel" 86 12 37 (.array .int) := ⟨_, F_Mo, 58, t_Mo, k_Mo, by decide, rfl, rfl, rfl, (in_6 (List.mem_of_getElem? (i := 132) rfl))⟩
abbrev m_Mo_assign : cx_M := (⟨"CircuitTextModel", "assign", "()V"⟩, prog_14_method_61_code, 5, (Option.none : Option Jvm.ClassFile.FieldType), [], [false])
theorem w_Mo_assign : cx_W m_Mo_assign := ⟨Or.inl ⟨(in_7 (List.mem_of_getElem? (i := 236) rfl)), rfl⟩, by decide +kernel, by decide, by decide, by decide +kernel⟩
theorem n_Mo_assign : (parseMethodDescriptor m_Mo_assign.1.desc).map (fun d => d.parameters.length) = some 0 := by decide +kernel
theorem d_Mo_assign_0 : decode prog_14_method_61_code 0 = .ok (.aload_n 0, 1) := by decide +kernel
theorem d_Mo_assign_1 : decode prog_14_method_61_code 1 = .ok (.dup, 1) := by decide +kernel
theorem d_Mo_assign_2 : decode prog_14_method_61_code 2 = .ok (.getfield 193, 3) := by decide +kernel
theorem d_Mo_assign_5 : decode prog_14_method_61_code 5 = .ok (.iconst 1, 1) := by decide +kernel
theorem d_Mo_assign_6 : decode prog_14_method_61_code 6 = .ok (.iadd, 1) := by decide +kernel
theorem d_Mo_assign_7 : decode prog_14_method_61_code 7 = .ok (.putfield 193, 3) := by decide +kernel
theorem d_Mo_assign_10 : decode prog_14_method_61_code 10 = .ok (.aload_n 0, 1) := by decide +kernel
theorem d_Mo_assign_11 : decode prog_14_method_61_code 11 = .ok (.aload_n 0, 1) := by decide +kernel
theorem d_Mo_assign_12 : decode prog_14_method_61_code 12 = .ok (.getfield 193, 3) := by decide +kernel
theorem d_Mo_assign_15 : decode prog_14_method_61_code 15 = .ok (.invokevirtual 330, 3) := by decide +kernel
theorem d_Mo_assign_18 : decode prog_14_method_61_code 18 = .ok (.istore_n 1, 1) := by decide +kernel
theorem d_Mo_assign_19 : decode prog_14_method_61_code 19 = .ok (.iload_n 1, 1) := by decide +kernel
theorem d_Mo_assign_20 : decode prog_14_method_61_code 20 = .ok (.ifCond .lt 11, 3) := by decide +kernel
theorem d_Mo_assign_23 : decode prog_14_method_61_code 23 = .ok (.aload_n 0, 1) := by decide +kernel
theorem d_Mo_assign_24 : decode prog_14_method_61_code 24 = .ok (.iload_n 1, 1) := by decide +kernel
theorem d_Mo_assign_25 : decode prog_14_method_61_code 25 = .ok (.invokevirtual 347, 3) := by decide +kernel
theorem d_Mo_assign_28 : decode prog_14_method_61_code 28 = .ok (.ifCond .ne 19, 3) := by decide +kernel
theorem d_Mo_assign_31 : decode prog_14_method_61_code 31 = .ok (.aload_n 0, 1) := by decide +kernel
theorem d_Mo_assign_32 : decode prog_14_method_61_code 32 = .ok (.bipush 22, 2) := by decide +kernel
theorem d_Mo_assign_34 : decode prog_14_method_61_code 34 = .ok (.aload_n 0, 1) := by decide +kernel
theorem d_Mo_assign_35 : decode prog_14_method_61_code 35 = .ok (.getfield 19, 3) := by decide +kernel
theorem d_Mo_assign_38 : decode prog_14_method_61_code 38 = .ok (.aload_n 0, 1) := by decide +kernel
theorem d_Mo_assign_39 : decode prog_14_method_61_code 39 = .ok (.getfield 193, 3) := by decide +kernel
theorem d_Mo_assign_42 : decode prog_14_method_61_code 42 = .ok (.iaload, 1) := by decide +kernel
theorem d_Mo_assign_43 : decode prog_14_method_61_code 43 = .ok (.invokevirtual 196, 3) := by decide +kernel
theorem d_Mo_assign_46 : decode prog_14_method_61_code 46 = .ok (.return_, 1) := by decide +kernel
theorem d_Mo_assign_47 : decode prog_14_method_61_code 47 = .ok (.aload_n 0, 1) := by decide +kernel
theorem d_Mo_assign_48 : decode prog_14_method_61_code 48 = .ok (.getfield 53, 3) := by decide +kernel
theorem d_Mo_assign_51 : decode prog_14_method_61_code 51 = .ok (.iload_n 1, 1) := by decide +kernel
theorem d_Mo_assign_52 : decode prog_14_method_61_code 52 = .ok (.iaload, 1) := by decide +kernel
theorem d_Mo_assign_53 : decode prog_14_method_61_code 53 = .ok (.ifCond .eq 18, 3) := by decide +kernel
theorem d_Mo_assign_56 : decode prog_14_method_61_code 56 = .ok (.aload_n 0, 1) := by decide +kernel
theorem d_Mo_assign_57 : decode prog_14_method_61_code 57 = .ok (.bipush 31, 2) := by decide +kernel
theorem d_Mo_assign_59 : decode prog_14_method_61_code 59 = .ok (.aload_n 0, 1) := by decide +kernel
theorem d_Mo_assign_60 : decode prog_14_method_61_code 60 = .ok (.getfield 19, 3) := by decide +kernel
theorem d_Mo_assign_63 : decode prog_14_method_61_code 63 = .ok (.aload_n 0, 1) := by decide +kernel
theorem d_Mo_assign_64 : decode prog_14_method_61_code 64 = .ok (.getfield 193, 3) := by decide +kernel
theorem d_Mo_assign_67 : decode prog_14_method_61_code 67 = .ok (.iaload, 1) := by decide +kernel
theorem d_Mo_assign_68 : decode prog_14_method_61_code 68 = .ok (.invokevirtual 196, 3) := by decide +kernel
theorem d_Mo_assign_71 : decode prog_14_method_61_code 71 = .ok (.aload_n 0, 1) := by decide +kernel
theorem d_Mo_assign_72 : decode prog_14_method_61_code 72 = .ok (.dup, 1) := by decide +kernel
theorem d_Mo_assign_73 : decode prog_14_method_61_code 73 = .ok (.getfield 193, 3) := by decide +kernel
theorem d_Mo_assign_76 : decode prog_14_method_61_code 76 = .ok (.iconst 1, 1) := by decide +kernel
theorem d_Mo_assign_77 : decode prog_14_method_61_code 77 = .ok (.iadd, 1) := by decide +kernel
theorem d_Mo_assign_78 : decode prog_14_method_61_code 78 = .ok (.putfield 193, 3) := by decide +kernel
theorem d_Mo_assign_81 : decode prog_14_method_61_code 81 = .ok (.aload_n 0, 1) := by decide +kernel
theorem d_Mo_assign_82 : decode prog_14_method_61_code 82 = .ok (.getfield 19, 3) := by decide +kernel
theorem d_Mo_assign_85 : decode prog_14_method_61_code 85 = .ok (.aload_n 0, 1) := by decide +kernel
theorem d_Mo_assign_86 : decode prog_14_method_61_code 86 = .ok (.getfield 193, 3) := by decide +kernel
theorem d_Mo_assign_89 : decode prog_14_method_61_code 89 = .ok (.iaload, 1) := by decide +kernel
theorem d_Mo_assign_90 : decode prog_14_method_61_code 90 = .ok (.istore_n 2, 1) := by decide +kernel
theorem d_Mo_assign_91 : decode prog_14_method_61_code 91 = .ok (.aload_n 0, 1) := by decide +kernel
theorem d_Mo_assign_92 : decode prog_14_method_61_code 92 = .ok (.dup, 1) := by decide +kernel
theorem d_Mo_assign_93 : decode prog_14_method_61_code 93 = .ok (.getfield 193, 3) := by decide +kernel
theorem d_Mo_assign_96 : decode prog_14_method_61_code 96 = .ok (.iconst 1, 1) := by decide +kernel
theorem d_Mo_assign_97 : decode prog_14_method_61_code 97 = .ok (.iadd, 1) := by decide +kernel
theorem d_Mo_assign_98 : decode prog_14_method_61_code 98 = .ok (.putfield 193, 3) := by decide +kernel
theorem d_Mo_assign_101 : decode prog_14_method_61_code 101 = .ok (.aload_n 0, 1) := by decide +kernel
theorem d_Mo_assign_102 : decode prog_14_method_61_code 102 = .ok (.getfield 279, 3) := by decide +kernel
theorem d_Mo_assign_105 : decode prog_14_method_61_code 105 = .ok (.istore_n 3, 1) := by decide +kernel
theorem d_Mo_assign_106 : decode prog_14_method_61_code 106 = .ok (.aload_n 0, 1) := by decide +kernel
theorem d_Mo_assign_107 : decode prog_14_method_61_code 107 = .ok (.invokevirtual 288, 3) := by decide +kernel
theorem d_Mo_assign_110 : decode prog_14_method_61_code 110 = .ok (.istore 4, 2) := by decide +kernel
theorem d_Mo_assign_112 : decode prog_14_method_61_code 112 = .ok (.aload_n 0, 1) := by decide +kernel
theorem d_Mo_assign_113 : decode prog_14_method_61_code 113 = .ok (.getfield 187, 3) := by decide +kernel
theorem d_Mo_assign_116 : decode prog_14_method_61_code 116 = .ok (.ifCond .ne 21, 3) := by decide +kernel
theorem d_Mo_assign_119 : decode prog_14_method_61_code 119 = .ok (.iload 4, 2) := by decide +kernel
theorem d_Mo_assign_121 : decode prog_14_method_61_code 121 = .ok (.aload_n 0, 1) := by decide +kernel
theorem d_Mo_assign_122 : decode prog_14_method_61_code 122 = .ok (.getfield 43, 3) := by decide +kernel
theorem d_Mo_assign_125 : decode prog_14_method_61_code 125 = .ok (.iload_n 1, 1) := by decide +kernel
theorem d_Mo_assign_126 : decode prog_14_method_61_code 126 = .ok (.iaload, 1) := by decide +kernel
theorem d_Mo_assign_127 : decode prog_14_method_61_code 127 = .ok (.if_icmp .eq 10, 3) := by decide +kernel
theorem d_Mo_assign_130 : decode prog_14_method_61_code 130 = .ok (.aload_n 0, 1) := by decide +kernel
theorem d_Mo_assign_131 : decode prog_14_method_61_code 131 = .ok (.bipush 30, 2) := by decide +kernel
theorem d_Mo_assign_133 : decode prog_14_method_61_code 133 = .ok (.iload_n 2, 1) := by decide +kernel
theorem d_Mo_assign_134 : decode prog_14_method_61_code 134 = .ok (.invokevirtual 196, 3) := by decide +kernel
theorem d_Mo_assign_137 : decode prog_14_method_61_code 137 = .ok (.aload_n 0, 1) := by decide +kernel
theorem d_Mo_assign_138 : decode prog_14_method_61_code 138 = .ok (.getfield 53, 3) := by decide +kernel
theorem d_Mo_assign_141 : decode prog_14_method_61_code 141 = .ok (.iload_n 1, 1) := by decide +kernel
theorem d_Mo_assign_142 : decode prog_14_method_61_code 142 = .ok (.iconst 1, 1) := by decide +kernel
theorem d_Mo_assign_143 : decode prog_14_method_61_code 143 = .ok (.iastore, 1) := by decide +kernel
theorem d_Mo_assign_144 : decode prog_14_method_61_code 144 = .ok (.aload_n 0, 1) := by decide +kernel
theorem d_Mo_assign_145 : decode prog_14_method_61_code 145 = .ok (.getfield 56, 3) := by decide +kernel
theorem d_Mo_assign_148 : decode prog_14_method_61_code 148 = .ok (.iload_n 1, 1) := by decide +kernel
theorem d_Mo_assign_149 : decode prog_14_method_61_code 149 = .ok (.iload_n 3, 1) := by decide +kernel
theorem d_Mo_assign_150 : decode prog_14_method_61_code 150 = .ok (.iastore, 1) := by decide +kernel
theorem d_Mo_assign_151 : decode prog_14_method_61_code 151 = .ok (.aload_n 0, 1) := by decide +kernel
theorem d_Mo_assign_152 : decode prog_14_method_61_code 152 = .ok (.getfield 59, 3) := by decide +kernel
theorem d_Mo_assign_155 : decode prog_14_method_61_code 155 = .ok (.iload_n 1, 1) := by decide +kernel
theorem d_Mo_assign_156 : decode prog_14_method_61_code 156 = .ok (.aload_n 0, 1) := by decide +kernel
theorem d_Mo_assign_157 : decode prog_14_method_61_code 157 = .ok (.getfield 279, 3) := by decide +kernel
theorem d_Mo_assign_160 : decode prog_14_method_61_code 160 = .ok (.iastore, 1) := by decide +kernel
theorem d_Mo_assign_161 : decode prog_14_method_61_code 161 = .ok (.aload_n 0, 1) := by decide +kernel
theorem d_Mo_assign_162 : decode prog_14_method_61_code 162 = .ok (.dup, 1) := by decide +kernel
theorem d_Mo_assign_163 : decode prog_14_method_61_code 163 = .ok (.getfield 193, 3) := by decide +kernel
theorem d_Mo_assign_166 : decode prog_14_method_61_code 166 = .ok (.iconst 1, 1) := by decide +kernel
theorem d_Mo_assign_167 : decode prog_14_method_61_code 167 = .ok (.iadd, 1) := by decide +kernel
theorem d_Mo_assign_168 : decode prog_14_method_61_code 168 = .ok (.putfield 193, 3) := by decide +kernel
theorem d_Mo_assign_171 : decode prog_14_method_61_code 171 = .ok (.return_, 1) := by decide +kernel
theorem f_Mo_56 : cx_F "CircuitTextModel" 56 12 24 (.array .int) true := ⟨_, F_Mo, 58, t_Mo, k_Mo, by decide, rfl, rfl, Or.inl (in_6 (List.mem_of_getElem? (i := 119) rfl))⟩
theorem ff_Mo_56 : cx_FF "CircuitTextModel" 56 12 24 (.array .int) := ⟨_, F_Mo, 58, t_Mo, k_Mo, by decide, rfl, rfl, rfl, (in_6 (List.mem_of_getElem? (i := 119) rfl))⟩
theorem f_Mo_59 : cx_F "CircuitTextModel" 59 12 25 (.array .int) true := ⟨_, F_Mo, 58, t_Mo, k_Mo, by decide, rfl, rfl, Or.inl (in_6 (List.mem_of_getElem? (i := 120) rfl))⟩
theorem ff_Mo_59 : cx_FF "CircuitTextModel" 59 12 25 (.array .int) := ⟨_, F_Mo, 58, t_Mo, k_Mo, by decide, rfl, rfl, rfl, (in_6 (List.mem_of_getElem? (i := 120) rfl))⟩
abbrev m_Mo_isDriven : cx_M := (⟨"CircuitTextModel", "isDriven", "(I)Z"⟩, prog_14_method_59_code, 2, (Option.some Jvm.ClassFile.FieldType.boolean), [], [false, false])
theorem w_Mo_isDriven : cx_W m_Mo_isDriven := ⟨Or.inl ⟨(in_8 (List.mem_of_getElem? (i := 0) rfl)), rfl⟩, by decide +kernel, by decide, by decide, by decide +kernel⟩
theorem n_Mo_isDriven : (parseMethodDescriptor m_Mo_isDriven.1.desc).map (fun d => d.parameters.length) = some 1 := by decide +kernel
theorem d_Mo_isDriven_0 : decode prog_14_method_59_code 0 = .ok (.aload_n 0, 1) := by decide +kernel
theorem d_Mo_isDriven_1 : decode prog_14_method_59_code 1 = .ok (.getfield 46, 3) := by decide +kernel
theorem d_Mo_isDriven_4 : decode prog_14_method_59_code 4 = .ok (.iload_n 1, 1) := by decide +kernel
theorem d_Mo_isDriven_5 : decode prog_14_method_59_code 5 = .ok (.iaload, 1) := by decide +kernel
theorem d_Mo_isDriven_6 : decode prog_14_method_59_code 6 = .ok (.iconst 1, 1) := by decide +kernel
theorem d_Mo_isDriven_7 : decode prog_14_method_59_code 7 = .ok (.if_icmp .eq 13, 3) := by decide +kernel
theorem d_Mo_isDriven_10 : decode prog_14_method_59_code 10 = .ok (.aload_n 0, 1) := by decide +kernel
theorem d_Mo_isDriven_11 : decode prog_14_method_59_code 11 = .ok (.getfield 46, 3) := by decide +kernel
theorem d_Mo_isDriven_14 : decode prog_14_method_59_code 14 = .ok (.iload_n 1, 1) := by decide +kernel
theorem d_Mo_isDriven_15 : decode prog_14_method_59_code 15 = .ok (.iaload, 1) := by decide +kernel
theorem d_Mo_isDriven_16 : decode prog_14_method_59_code 16 = .ok (.iconst 3, 1) := by decide +kernel
theorem d_Mo_isDriven_17 : decode prog_14_method_59_code 17 = .ok (.if_icmp .ne 7, 3) := by decide +kernel
theorem d_Mo_isDriven_20 : decode prog_14_method_59_code 20 = .ok (.iconst 1, 1) := by decide +kernel
theorem d_Mo_isDriven_21 : decode prog_14_method_59_code 21 = .ok (.goto 4, 3) := by decide +kernel
theorem d_Mo_isDriven_24 : decode prog_14_method_59_code 24 = .ok (.iconst 0, 1) := by decide +kernel
theorem d_Mo_isDriven_25 : decode prog_14_method_59_code 25 = .ok (.ireturn, 1) := by decide +kernel
abbrev m_Mo_exp : cx_M := (⟨"CircuitTextModel", "exp", "()I"⟩, prog_14_method_48_code, 5, (Option.some Jvm.ClassFile.FieldType.int), [], [false])
theorem w_Mo_exp : cx_W m_Mo_exp := ⟨Or.inl ⟨(in_8 (List.mem_of_getElem? (i := 4) rfl)), rfl⟩, by decide +kernel, by decide, by decide, by decide +kernel⟩
theorem n_Mo_exp : (parseMethodDescriptor m_Mo_exp.1.desc).map (fun d => d.parameters.length) = some 0 := by decide +kernel
theorem d_Mo_exp_0 : decode prog_14_method_48_code 0 = .ok (.aload_n 0, 1) := by decide +kernel
theorem d_Mo_exp_1 : decode prog_14_method_48_code 1 = .ok (.invokevirtual 285, 3) := by decide +kernel
theorem d_Mo_exp_4 : decode prog_14_method_48_code 4 = .ok (.istore_n 1, 1) := by decide +kernel
theorem d_Mo_exp_5 : decode prog_14_method_48_code 5 = .ok (.aload_n 0, 1) := by decide +kernel
theorem d_Mo_exp_6 : decode prog_14_method_48_code 6 = .ok (.bipush 63, 2) := by decide +kernel
theorem d_Mo_exp_8 : decode prog_14_method_48_code 8 = .ok (.invokevirtual 203, 3) := by decide +kernel
theorem d_Mo_exp_11 : decode prog_14_method_48_code 11 = .ok (.ifCond .ne 5, 3) := by decide +kernel
theorem d_Mo_exp_14 : decode prog_14_method_48_code 14 = .ok (.iload_n 1, 1) := by decide +kernel
theorem d_Mo_exp_15 : decode prog_14_method_48_code 15 = .ok (.ireturn, 1) := by decide +kernel
theorem d_Mo_exp_16 : decode prog_14_method_48_code 16 = .ok (.aload_n 0, 1) := by decide +kernel
theorem d_Mo_exp_17 : decode prog_14_method_48_code 17 = .ok (.getfield 19, 3) := by decide +kernel
theorem d_Mo_exp_20 : decode prog_14_method_48_code 20 = .ok (.aload_n 0, 1) := by decide +kernel
theorem d_Mo_exp_21 : decode prog_14_method_48_code 21 = .ok (.getfield 193, 3) := by decide +kernel
theorem d_Mo_exp_24 : decode prog_14_method_48_code 24 = .ok (.iaload, 1) := by decide +kernel
theorem d_Mo_exp_25 : decode prog_14_method_48_code 25 = .ok (.istore_n 2, 1) := by decide +kernel
theorem d_Mo_exp_26 : decode prog_14_method_48_code 26 = .ok (.aload_n 0, 1) := by decide +kernel
theorem d_Mo_exp_27 : decode prog_14_method_48_code 27 = .ok (.dup, 1) := by decide +kernel
theorem d_Mo_exp_28 : decode prog_14_method_48_code 28 = .ok (.getfield 193, 3) := by decide +kernel
theorem d_Mo_exp_31 : decode prog_14_method_48_code 31 = .ok (.iconst 1, 1) := by decide +kernel
theorem d_Mo_exp_32 : decode prog_14_method_48_code 32 = .ok (.iadd, 1) := by decide +kernel
theorem d_Mo_exp_33 : decode prog_14_method_48_code 33 = .ok (.putfield 193, 3) := by decide +kernel
theorem d_Mo_exp_36 : decode prog_14_method_48_code 36 = .ok (.aload_n 0, 1) := by decide +kernel
theorem d_Mo_exp_37 : decode prog_14_method_48_code 37 = .ok (.invokevirtual 288, 3) := by decide +kernel
theorem d_Mo_exp_40 : decode prog_14_method_48_code 40 = .ok (.istore_n 3, 1) := by decide +kernel
theorem d_Mo_exp_41 : decode prog_14_method_48_code 41 = .ok (.aload_n 0, 1) := by decide +kernel
theorem d_Mo_exp_42 : decode prog_14_method_48_code 42 = .ok (.dup, 1) := by decide +kernel
theorem d_Mo_exp_43 : decode prog_14_method_48_code 43 = .ok (.getfield 193, 3) := by decide +kernel
theorem d_Mo_exp_46 : decode prog_14_method_48_code 46 = .ok (.iconst 1, 1) := by decide +kernel
theorem d_Mo_exp_47 : decode prog_14_method_48_code 47 = .ok (.iadd, 1) := by decide +kernel
theorem d_Mo_exp_48 : decode prog_14_method_48_code 48 = .ok (.putfield 193, 3) := by decide +kernel
theorem d_Mo_exp_51 : decode prog_14_method_48_code 51 = .ok (.aload_n 0, 1) := by decide +kernel
theorem d_Mo_exp_52 : decode prog_14_method_48_code 52 = .ok (.invokevirtual 288, 3) := by decide +kernel
theorem d_Mo_exp_55 : decode prog_14_method_48_code 55 = .ok (.istore 4, 2) := by decide +kernel
theorem d_Mo_exp_57 : decode prog_14_method_48_code 57 = .ok (.aload_n 0, 1) := by decide +kernel
theorem d_Mo_exp_58 : decode prog_14_method_48_code 58 = .ok (.getfield 187, 3) := by decide +kernel
theorem d_Mo_exp_61 : decode prog_14_method_48_code 61 = .ok (.ifCond .ne 16, 3) := by decide +kernel
theorem d_Mo_exp_64 : decode prog_14_method_48_code 64 = .ok (.iload_n 3, 1) := by decide +kernel
theorem d_Mo_exp_65 : decode prog_14_method_48_code 65 = .ok (.iload 4, 2) := by decide +kernel
theorem d_Mo_exp_67 : decode prog_14_method_48_code 67 = .ok (.if_icmp .eq 10, 3) := by decide +kernel
theorem d_Mo_exp_70 : decode prog_14_method_48_code 70 = .ok (.aload_n 0, 1) := by decide +kernel
theorem d_Mo_exp_71 : decode prog_14_method_48_code 71 = .ok (.bipush 30, 2) := by decide +kernel
theorem d_Mo_exp_73 : decode prog_14_method_48_code 73 = .ok (.iload_n 2, 1) := by decide +kernel
theorem d_Mo_exp_74 : decode prog_14_method_48_code 74 = .ok (.invokevirtual 196, 3) := by decide +kernel
theorem d_Mo_exp_77 : decode prog_14_method_48_code 77 = .ok (.aload_n 0, 1) := by decide +kernel
theorem d_Mo_exp_78 : decode prog_14_method_48_code 78 = .ok (.iload_n 3, 1) := by decide +kernel
theorem d_Mo_exp_79 : decode prog_14_method_48_code 79 = .ok (.iload_n 1, 1) := by decide +kernel
theorem d_Mo_exp_80 : decode prog_14_method_48_code 80 = .ok (.if_icmp .le 8, 3) := by decide +kernel
theorem d_Mo_exp_83 : decode prog_14_method_48_code 83 = .ok (.iload_n 3, 1) := by decide +kernel
theorem d_Mo_exp_84 : decode prog_14_method_48_code 84 = .ok (.i2l, 1) := by decide +kernel
theorem d_Mo_exp_85 : decode prog_14_method_48_code 85 = .ok (.goto 5, 3) := by decide +kernel
theorem d_Mo_exp_88 : decode prog_14_method_48_code 88 = .ok (.iload_n 1, 1) := by decide +kernel
theorem d_Mo_exp_89 : decode prog_14_method_48_code 89 = .ok (.i2l, 1) := by decide +kernel
theorem d_Mo_exp_90 : decode prog_14_method_48_code 90 = .ok (.invokevirtual 291, 3) := by decide +kernel
theorem d_Mo_exp_93 : decode prog_14_method_48_code 93 = .ok (.aload_n 0, 1) := by decide +kernel
theorem d_Mo_exp_94 : decode prog_14_method_48_code 94 = .ok (.bipush 6, 2) := by decide +kernel
theorem d_Mo_exp_96 : decode prog_14_method_48_code 96 = .ok (.iconst 0, 1) := by decide +kernel
theorem d_Mo_exp_97 : decode prog_14_method_48_code 97 = .ok (.iconst 0, 1) := by decide +kernel
theorem d_Mo_exp_98 : decode prog_14_method_48_code 98 = .ok (.invokevirtual 295, 3) := by decide +kernel
theorem d_Mo_exp_101 : decode prog_14_method_48_code 101 = .ok (.iload_n 3, 1) := by decide +kernel
theorem d_Mo_exp_102 : decode prog_14_method_48_code 102 = .ok (.ireturn, 1) := by decide +kernel
abbrev m_Mo_binary : cx_M := (⟨"CircuitTextModel", "binary", "()I"⟩, prog_14_method_49_code, 3, (Option.some Jvm.ClassFile.FieldType.int), [], [false])
theorem w_Mo_binary : cx_W m_Mo_binary := ⟨Or.inl ⟨(in_8 (List.mem_of_getElem? (i := 8) rfl)), rfl⟩, by decide +kernel, by decide, by decide, by decide +kernel⟩
theorem n_Mo_binary : (parseMethodDescriptor m_Mo_binary.1.desc).map (fun d => d.parameters.length) = some 0 := by decide +kernel
theorem d_Mo_binary_0 : decode prog_14_method_49_code 0 = .ok (.aload_n 0, 1) := by decide +kernel
theorem d_Mo_binary_1 : decode prog_14_method_49_code 1 = .ok (.getfield 298, 3) := by decide +kernel
theorem d_Mo_binary_4 : decode prog_14_method_49_code 4 = .ok (.istore_n 1, 1) := by decide +kernel
theorem d_Mo_binary_5 : decode prog_14_method_49_code 5 = .ok (.aload_n 0, 1) := by decide +kernel
theorem d_Mo_binary_6 : decode prog_14_method_49_code 6 = .ok (.aload_n 0, 1) := by decide +kernel
theorem d_Mo_binary_7 : decode prog_14_method_49_code 7 = .ok (.invokevirtual 301, 3) := by decide +kernel
theorem d_Mo_binary_10 : decode prog_14_method_49_code 10 = .ok (.invokevirtual 304, 3) := by decide +kernel
theorem d_Mo_binary_13 : decode prog_14_method_49_code 13 = .ok (.aload_n 0, 1) := by decide +kernel
theorem d_Mo_binary_14 : decode prog_14_method_49_code 14 = .ok (.getfield 187, 3) := by decide +kernel
theorem d_Mo_binary_17 : decode prog_14_method_49_code 17 = .ok (.ifCond .ne 116, 3) := by decide +kernel
theorem d_Mo_binary_20 : decode prog_14_method_49_code 20 = .ok (.aload_n 0, 1) := by decide +kernel
theorem d_Mo_binary_21 : decode prog_14_method_49_code 21 = .ok (.invokevirtual 216, 3) := by decide +kernel
theorem d_Mo_binary_24 : decode prog_14_method_49_code 24 = .ok (.invokestatic 220, 3) := by decide +kernel
theorem d_Mo_binary_27 : decode prog_14_method_49_code 27 = .ok (.ifCond .le 106, 3) := by decide +kernel
theorem d_Mo_binary_30 : decode prog_14_method_49_code 30 = .ok (.aload_n 0, 1) := by decide +kernel
theorem d_Mo_binary_31 : decode prog_14_method_49_code 31 = .ok (.invokevirtual 216, 3) := by decide +kernel
theorem d_Mo_binary_34 : decode prog_14_method_49_code 34 = .ok (.invokestatic 220, 3) := by decide +kernel
theorem d_Mo_binary_37 : decode prog_14_method_49_code 37 = .ok (.istore_n 2, 1) := by decide +kernel
theorem d_Mo_binary_38 : decode prog_14_method_49_code 38 = .ok (.aload_n 0, 1) := by decide +kernel
theorem d_Mo_binary_39 : decode prog_14_method_49_code 39 = .ok (.getfield 298, 3) := by decide +kernel
theorem d_Mo_binary_42 : decode prog_14_method_49_code 42 = .ok (.iload_n 1, 1) := by decide +kernel
theorem d_Mo_binary_43 : decode prog_14_method_49_code 43 = .ok (.if_icmp .le 28, 3) := by decide +kernel
theorem d_Mo_binary_46 : decode prog_14_method_49_code 46 = .ok (.aload_n 0, 1) := by decide +kernel
theorem d_Mo_binary_47 : decode prog_14_method_49_code 47 = .ok (.getfield 104, 3) := by decide +kernel
theorem d_Mo_binary_50 : decode prog_14_method_49_code 50 = .ok (.aload_n 0, 1) := by decide +kernel
theorem d_Mo_binary_51 : decode prog_14_method_49_code 51 = .ok (.getfield 298, 3) := by decide +kernel
theorem d_Mo_binary_54 : decode prog_14_method_49_code 54 = .ok (.iconst 1, 1) := by decide +kernel
theorem d_Mo_binary_55 : decode prog_14_method_49_code 55 = .ok (.isub, 1) := by decide +kernel
theorem d_Mo_binary_56 : decode prog_14_method_49_code 56 = .ok (.iaload, 1) := by decide +kernel
theorem d_Mo_binary_57 : decode prog_14_method_49_code 57 = .ok (.invokestatic 220, 3) := by decide +kernel
theorem d_Mo_binary_60 : decode prog_14_method_49_code 60 = .ok (.iload_n 2, 1) := by decide +kernel
theorem d_Mo_binary_61 : decode prog_14_method_49_code 61 = .ok (.if_icmp .lt 10, 3) := by decide +kernel
theorem d_Mo_binary_64 : decode prog_14_method_49_code 64 = .ok (.aload_n 0, 1) := by decide +kernel
theorem d_Mo_binary_65 : decode prog_14_method_49_code 65 = .ok (.invokevirtual 307, 3) := by decide +kernel
theorem d_Mo_binary_68 : decode prog_14_method_49_code 68 = .ok (.goto (-30), 3) := by decide +kernel
theorem d_Mo_binary_71 : decode prog_14_method_49_code 71 = .ok (.aload_n 0, 1) := by decide +kernel
theorem d_Mo_binary_72 : decode prog_14_method_49_code 72 = .ok (.getfield 104, 3) := by decide +kernel
theorem d_Mo_binary_75 : decode prog_14_method_49_code 75 = .ok (.aload_n 0, 1) := by decide +kernel
theorem d_Mo_binary_76 : decode prog_14_method_49_code 76 = .ok (.getfield 298, 3) := by decide +kernel
theorem d_Mo_binary_79 : decode prog_14_method_49_code 79 = .ok (.aload_n 0, 1) := by decide +kernel
theorem d_Mo_binary_80 : decode prog_14_method_49_code 80 = .ok (.invokevirtual 216, 3) := by decide +kernel
theorem d_Mo_binary_83 : decode prog_14_method_49_code 83 = .ok (.iastore, 1) := by decide +kernel
theorem d_Mo_binary_84 : decode prog_14_method_49_code 84 = .ok (.aload_n 0, 1) := by decide +kernel
theorem d_Mo_binary_85 : decode prog_14_method_49_code 85 = .ok (.getfield 107, 3) := by decide +kernel
theorem d_Mo_binary_88 : decode prog_14_method_49_code 88 = .ok (.aload_n 0, 1) := by decide +kernel
theorem d_Mo_binary_89 : decode prog_14_method_49_code 89 = .ok (.getfield 298, 3) := by decide +kernel
theorem d_Mo_binary_92 : decode prog_14_method_49_code 92 = .ok (.aload_n 0, 1) := by decide +kernel
theorem d_Mo_binary_93 : decode prog_14_method_49_code 93 = .ok (.getfield 19, 3) := by decide +kernel
theorem d_Mo_binary_96 : decode prog_14_method_49_code 96 = .ok (.aload_n 0, 1) := by decide +kernel
theorem d_Mo_binary_97 : decode prog_14_method_49_code 97 = .ok (.getfield 193, 3) := by decide +kernel
theorem d_Mo_binary_100 : decode prog_14_method_49_code 100 = .ok (.iaload, 1) := by decide +kernel
theorem d_Mo_binary_101 : decode prog_14_method_49_code 101 = .ok (.iastore, 1) := by decide +kernel
theorem d_Mo_binary_102 : decode prog_14_method_49_code 102 = .ok (.aload_n 0, 1) := by decide +kernel
theorem d_Mo_binary_103 : decode prog_14_method_49_code 103 = .ok (.dup, 1) := by decide +kernel
theorem d_Mo_binary_104 : decode prog_14_method_49_code 104 = .ok (.getfield 298, 3) := by decide +kernel
theorem d_Mo_binary_107 : decode prog_14_method_49_code 107 = .ok (.iconst 1, 1) := by decide +kernel
theorem d_Mo_binary_108 : decode prog_14_method_49_code 108 = .ok (.iadd, 1) := by decide +kernel
theorem d_Mo_binary_109 : decode prog_14_method_49_code 109 = .ok (.putfield 298, 3) := by decide +kernel
theorem d_Mo_binary_112 : decode prog_14_method_49_code 112 = .ok (.aload_n 0, 1) := by decide +kernel
theorem d_Mo_binary_113 : decode prog_14_method_49_code 113 = .ok (.dup, 1) := by decide +kernel
theorem d_Mo_binary_114 : decode prog_14_method_49_code 114 = .ok (.getfield 193, 3) := by decide +kernel
theorem d_Mo_binary_117 : decode prog_14_method_49_code 117 = .ok (.iconst 1, 1) := by decide +kernel
theorem d_Mo_binary_118 : decode prog_14_method_49_code 118 = .ok (.iadd, 1) := by decide +kernel
theorem d_Mo_binary_119 : decode prog_14_method_49_code 119 = .ok (.putfield 193, 3) := by decide +kernel
theorem d_Mo_binary_122 : decode prog_14_method_49_code 122 = .ok (.aload_n 0, 1) := by decide +kernel
theorem d_Mo_binary_123 : decode prog_14_method_49_code 123 = .ok (.aload_n 0, 1) := by decide +kernel
theorem d_Mo_binary_124 : decode prog_14_method_49_code 124 = .ok (.invokevirtual 301, 3) := by decide +kernel
theorem d_Mo_binary_127 : decode prog_14_method_49_code 127 = .ok (.invokevirtual 304, 3) := by decide +kernel
theorem d_Mo_binary_130 : decode prog_14_method_49_code 130 = .ok (.goto (-117), 3) := by decide +kernel
theorem d_Mo_binary_133 : decode prog_14_method_49_code 133 = .ok (.aload_n 0, 1) := by decide +kernel
theorem d_Mo_binary_134 : decode prog_14_method_49_code 134 = .ok (.getfield 298, 3) := by decide +kernel
theorem d_Mo_binary_137 : decode prog_14_method_49_code 137 = .ok (.iload_n 1, 1) := by decide +kernel
theorem d_Mo_binary_138 : decode prog_14_method_49_code 138 = .ok (.if_icmp .le 10, 3) := by decide +kernel
theorem d_Mo_binary_141 : decode prog_14_method_49_code 141 = .ok (.aload_n 0, 1) := by decide +kernel
theorem d_Mo_binary_142 : decode prog_14_method_49_code 142 = .ok (.invokevirtual 307, 3) := by decide +kernel
theorem d_Mo_binary_145 : decode prog_14_method_49_code 145 = .ok (.goto (-12), 3) := by decide +kernel
theorem d_Mo_binary_148 : decode prog_14_method_49_code 148 = .ok (.aload_n 0, 1) := by decide +kernel
theorem d_Mo_binary_149 : decode prog_14_method_49_code 149 = .ok (.dup, 1) := by decide +kernel
theorem d_Mo_binary_150 : decode prog_14_method_49_code 150 = .ok (.getfield 310, 3) := by decide +kernel
theorem d_Mo_binary_153 : decode prog_14_method_49_code 153 = .ok (.iconst 1, 1) := by decide +kernel
theorem d_Mo_binary_154 : decode prog_14_method_49_code 154 = .ok (.isub, 1) := by decide +kernel
theorem d_Mo_binary_155 : decode prog_14_method_49_code 155 = .ok (.putfield 310, 3) := by decide +kernel
theorem d_Mo_binary_158 : decode prog_14_method_49_code 158 = .ok (.aload_n 0, 1) := by decide +kernel
theorem d_Mo_binary_159 : decode prog_14_method_49_code 159 = .ok (.getfield 110, 3) := by decide +kernel
theorem d_Mo_binary_162 : decode prog_14_method_49_code 162 = .ok (.aload_n 0, 1) := by decide +kernel
theorem d_Mo_binary_163 : decode prog_14_method_49_code 163 = .ok (.getfield 310, 3) := by decide +kernel
theorem d_Mo_binary_166 : decode prog_14_method_49_code 166 = .ok (.iaload, 1) := by decide +kernel
theorem d_Mo_binary_167 : decode prog_14_method_49_code 167 = .ok (.ireturn, 1) := by decide +kernel
theorem f_Mo_104 : cx_F "CircuitTextModel" 104 12 46 (.array .int) true := ⟨_, F_Mo, 58, t_Mo, k_Mo, by decide, rfl, rfl, Or.inl (in_6 (List.mem_of_getElem? (i := 141) rfl))⟩
theorem ff_Mo_104 : cx_FF "CircuitTextModel" 104 12 46 (.array .int) := ⟨_, F_Mo, 58, t_Mo, k_Mo, by decide, rfl, rfl, rfl, (in_6 (List.mem_of_getElem? (i := 141) rfl))⟩
theorem f_Mo_107 : cx_F "CircuitTextModel" 107 12 47 (.array .int) true := ⟨_, F_Mo, 58, t_Mo, k_Mo, by decide, rfl, rfl, Or.inl (in_6 (List.mem_of_getElem? (i := 142) rfl))⟩
theorem ff_Mo_107 : cx_FF "CircuitTextModel" 107 12 47 (.array .int) := ⟨_, F_Mo, 58, t_Mo, k_Mo, by decide, rfl, rfl, rfl, (in_6 (List.mem_of_getElem? (i := 142) rfl))⟩
theorem f_Mo_110 : cx_F "CircuitTextModel" 110 12 49 (.array .int) true := ⟨_, F_Mo, 58, t_Mo, k_Mo, by decide, rfl, rfl, Or.inl (in_6 (List.mem_of_getElem? (i := 144) rfl))⟩
theorem ff_Mo_110 : cx_FF "CircuitTextModel" 110 12 49 (.array .int) := ⟨_, F_Mo, 58, t_Mo, k_Mo, by decide, rfl, rfl, rfl, (in_6 (List.mem_of_getElem? (i := 144) rfl))⟩
abbrev m_Mo_operand : cx_M := (⟨"CircuitTextModel", "operand", "()I"⟩, prog_14_method_52_code, 5, (Option.some Jvm.ClassFile.FieldType.int), [], [false])
theorem w_Mo_operand : cx_W m_Mo_operand := ⟨Or.inl ⟨(in_8 (List.mem_of_getElem? (i := 12) rfl)), rfl⟩, by decide +kernel, by decide, by decide, by decide +kernel⟩
theorem n_Mo_operand : (parseMethodDescriptor m_Mo_operand.1.desc).map (fun d => d.parameters.length) = some 0 := by decide +kernel
theorem d_Mo_operand_0 : decode prog_14_method_52_code 0 = .ok (.aload_n 0, 1) := by decide +kernel
theorem d_Mo_operand_1 : decode prog_14_method_52_code 1 = .ok (.getfield 193, 3) := by decide +kernel
theorem d_Mo_operand_4 : decode prog_14_method_52_code 4 = .ok (.istore_n 1, 1) := by decide +kernel
theorem d_Mo_operand_5 : decode prog_14_method_52_code 5 = .ok (.aload_n 0, 1) := by decide +kernel
theorem d_Mo_operand_6 : decode prog_14_method_52_code 6 = .ok (.invokevirtual 216, 3) := by decide +kernel
theorem d_Mo_operand_9 : decode prog_14_method_52_code 9 = .ok (.invokestatic 229, 3) := by decide +kernel
theorem d_Mo_operand_12 : decode prog_14_method_52_code 12 = .ok (.ifCond .eq 16, 3) := by decide +kernel
theorem d_Mo_operand_15 : decode prog_14_method_52_code 15 = .ok (.aload_n 0, 1) := by decide +kernel
theorem d_Mo_operand_16 : decode prog_14_method_52_code 16 = .ok (.dup, 1) := by decide +kernel
theorem d_Mo_operand_17 : decode prog_14_method_52_code 17 = .ok (.getfield 193, 3) := by decide +kernel
theorem d_Mo_operand_20 : decode prog_14_method_52_code 20 = .ok (.iconst 1, 1) := by decide +kernel
theorem d_Mo_operand_21 : decode prog_14_method_52_code 21 = .ok (.iadd, 1) := by decide +kernel
theorem d_Mo_operand_22 : decode prog_14_method_52_code 22 = .ok (.putfield 193, 3) := by decide +kernel
theorem d_Mo_operand_25 : decode prog_14_method_52_code 25 = .ok (.goto (-20), 3) := by decide +kernel
theorem d_Mo_operand_28 : decode prog_14_method_52_code 28 = .ok (.aload_n 0, 1) := by decide +kernel
theorem d_Mo_operand_29 : decode prog_14_method_52_code 29 = .ok (.getfield 193, 3) := by decide +kernel
theorem d_Mo_operand_32 : decode prog_14_method_52_code 32 = .ok (.istore_n 2, 1) := by decide +kernel
theorem d_Mo_operand_33 : decode prog_14_method_52_code 33 = .ok (.aload_n 0, 1) := by decide +kernel
theorem d_Mo_operand_34 : decode prog_14_method_52_code 34 = .ok (.invokevirtual 313, 3) := by decide +kernel
theorem d_Mo_operand_37 : decode prog_14_method_52_code 37 = .ok (.istore_n 3, 1) := by decide +kernel
theorem d_Mo_operand_38 : decode prog_14_method_52_code 38 = .ok (.iload_n 2, 1) := by decide +kernel
theorem d_Mo_operand_39 : decode prog_14_method_52_code 39 = .ok (.iconst 1, 1) := by decide +kernel
theorem d_Mo_operand_40 : decode prog_14_method_52_code 40 = .ok (.isub, 1) := by decide +kernel
theorem d_Mo_operand_41 : decode prog_14_method_52_code 41 = .ok (.istore 4, 2) := by decide +kernel
theorem d_Mo_operand_43 : decode prog_14_method_52_code 43 = .ok (.iload 4, 2) := by decide +kernel
theorem d_Mo_operand_45 : decode prog_14_method_52_code 45 = .ok (.iload_n 1, 1) := by decide +kernel
theorem d_Mo_operand_46 : decode prog_14_method_52_code 46 = .ok (.if_icmp .lt 65, 3) := by decide +kernel
theorem d_Mo_operand_49 : decode prog_14_method_52_code 49 = .ok (.aload_n 0, 1) := by decide +kernel
theorem d_Mo_operand_50 : decode prog_14_method_52_code 50 = .ok (.getfield 187, 3) := by decide +kernel
theorem d_Mo_operand_53 : decode prog_14_method_52_code 53 = .ok (.ifCond .ne 58, 3) := by decide +kernel
theorem d_Mo_operand_56 : decode prog_14_method_52_code 56 = .ok (.aload_n 0, 1) := by decide +kernel
theorem d_Mo_operand_57 : decode prog_14_method_52_code 57 = .ok (.iload_n 3, 1) := by decide +kernel
theorem d_Mo_operand_58 : decode prog_14_method_52_code 58 = .ok (.i2l, 1) := by decide +kernel
theorem d_Mo_operand_59 : decode prog_14_method_52_code 59 = .ok (.invokevirtual 291, 3) := by decide +kernel
theorem d_Mo_operand_62 : decode prog_14_method_52_code 62 = .ok (.aload_n 0, 1) := by decide +kernel
theorem d_Mo_operand_63 : decode prog_14_method_52_code 63 = .ok (.iconst 4, 1) := by decide +kernel
theorem d_Mo_operand_64 : decode prog_14_method_52_code 64 = .ok (.aload_n 0, 1) := by decide +kernel
theorem d_Mo_operand_65 : decode prog_14_method_52_code 65 = .ok (.getfield 15, 3) := by decide +kernel
theorem d_Mo_operand_68 : decode prog_14_method_52_code 68 = .ok (.iload 4, 2) := by decide +kernel
theorem d_Mo_operand_70 : decode prog_14_method_52_code 70 = .ok (.iaload, 1) := by decide +kernel
theorem d_Mo_operand_71 : decode prog_14_method_52_code 71 = .ok (.iload_n 3, 1) := by decide +kernel
theorem d_Mo_operand_72 : decode prog_14_method_52_code 72 = .ok (.invokevirtual 295, 3) := by decide +kernel
theorem d_Mo_operand_75 : decode prog_14_method_52_code 75 = .ok (.aload_n 0, 1) := by decide +kernel
theorem d_Mo_operand_76 : decode prog_14_method_52_code 76 = .ok (.getfield 15, 3) := by decide +kernel
theorem d_Mo_operand_79 : decode prog_14_method_52_code 79 = .ok (.iload 4, 2) := by decide +kernel
theorem d_Mo_operand_81 : decode prog_14_method_52_code 81 = .ok (.iaload, 1) := by decide +kernel
theorem d_Mo_operand_82 : decode prog_14_method_52_code 82 = .ok (.bipush 126, 2) := by decide +kernel
theorem d_Mo_operand_84 : decode prog_14_method_52_code 84 = .ok (.if_icmp .eq 15, 3) := by decide +kernel
theorem d_Mo_operand_87 : decode prog_14_method_52_code 87 = .ok (.aload_n 0, 1) := by decide +kernel
theorem d_Mo_operand_88 : decode prog_14_method_52_code 88 = .ok (.getfield 15, 3) := by decide +kernel
theorem d_Mo_operand_91 : decode prog_14_method_52_code 91 = .ok (.iload 4, 2) := by decide +kernel
theorem d_Mo_operand_93 : decode prog_14_method_52_code 93 = .ok (.iaload, 1) := by decide +kernel
theorem d_Mo_operand_94 : decode prog_14_method_52_code 94 = .ok (.bipush 45, 2) := by decide +kernel
theorem d_Mo_operand_96 : decode prog_14_method_52_code 96 = .ok (.if_icmp .ne 7, 3) := by decide +kernel
theorem d_Mo_operand_99 : decode prog_14_method_52_code 99 = .ok (.iload_n 3, 1) := by decide +kernel
theorem d_Mo_operand_100 : decode prog_14_method_52_code 100 = .ok (.goto 4, 3) := by decide +kernel
theorem d_Mo_operand_103 : decode prog_14_method_52_code 103 = .ok (.iconst 1, 1) := by decide +kernel
theorem d_Mo_operand_104 : decode prog_14_method_52_code 104 = .ok (.istore_n 3, 1) := by decide +kernel
theorem d_Mo_operand_105 : decode prog_14_method_52_code 105 = .ok (.iinc 4 (-1), 3) := by decide +kernel
theorem d_Mo_operand_108 : decode prog_14_method_52_code 108 = .ok (.goto (-65), 3) := by decide +kernel
theorem d_Mo_operand_111 : decode prog_14_method_52_code 111 = .ok (.iload_n 3, 1) := by decide +kernel
theorem d_Mo_operand_112 : decode prog_14_method_52_code 112 = .ok (.ireturn, 1) := by decide +kernel
abbrev m_Mo_primary : cx_M := (⟨"CircuitTextModel", "primary", "()I"⟩, prog_14_method_53_code, 4, (Option.some Jvm.ClassFile.FieldType.int), [], [false])
theorem w_Mo_primary : cx_W m_Mo_primary := ⟨Or.inl ⟨(in_8 (List.mem_of_getElem? (i := 16) rfl)), rfl⟩, by decide +kernel, by decide, by decide, by decide +kernel⟩
theorem n_Mo_primary : (parseMethodDescriptor m_Mo_primary.1.desc).map (fun d => d.parameters.length) = some 0 := by decide +kernel
theorem d_Mo_primary_0 : decode prog_14_method_53_code 0 = .ok (.aload_n 0, 1) := by decide +kernel
theorem d_Mo_primary_1 : decode prog_14_method_53_code 1 = .ok (.getfield 187, 3) := by decide +kernel
theorem d_Mo_primary_4 : decode prog_14_method_53_code 4 = .ok (.ifCond .eq 5, 3) := by decide +kernel
theorem d_Mo_primary_7 : decode prog_14_method_53_code 7 = .ok (.iconst 1, 1) := by decide +kernel
theorem d_Mo_primary_8 : decode prog_14_method_53_code 8 = .ok (.ireturn, 1) := by decide +kernel
theorem d_Mo_primary_9 : decode prog_14_method_53_code 9 = .ok (.aload_n 0, 1) := by decide +kernel
theorem d_Mo_primary_10 : decode prog_14_method_53_code 10 = .ok (.getfield 193, 3) := by decide +kernel
theorem d_Mo_primary_13 : decode prog_14_method_53_code 13 = .ok (.istore_n 1, 1) := by decide +kernel
theorem d_Mo_primary_14 : decode prog_14_method_53_code 14 = .ok (.aload_n 0, 1) := by decide +kernel
theorem d_Mo_primary_15 : decode prog_14_method_53_code 15 = .ok (.dup, 1) := by decide +kernel
theorem d_Mo_primary_16 : decode prog_14_method_53_code 16 = .ok (.getfield 193, 3) := by decide +kernel
theorem d_Mo_primary_19 : decode prog_14_method_53_code 19 = .ok (.iconst 1, 1) := by decide +kernel
theorem d_Mo_primary_20 : decode prog_14_method_53_code 20 = .ok (.iadd, 1) := by decide +kernel
theorem d_Mo_primary_21 : decode prog_14_method_53_code 21 = .ok (.putfield 193, 3) := by decide +kernel
theorem d_Mo_primary_24 : decode prog_14_method_53_code 24 = .ok (.aload_n 0, 1) := by decide +kernel
theorem d_Mo_primary_25 : decode prog_14_method_53_code 25 = .ok (.getfield 15, 3) := by decide +kernel
theorem d_Mo_primary_28 : decode prog_14_method_53_code 28 = .ok (.iload_n 1, 1) := by decide +kernel
theorem d_Mo_primary_29 : decode prog_14_method_53_code 29 = .ok (.iaload, 1) := by decide +kernel
theorem d_Mo_primary_30 : decode prog_14_method_53_code 30 = .ok (.sipush 402, 3) := by decide +kernel
theorem d_Mo_primary_33 : decode prog_14_method_53_code 33 = .ok (.if_icmp .ne 24, 3) := by decide +kernel
theorem d_Mo_primary_36 : decode prog_14_method_53_code 36 = .ok (.aload_n 0, 1) := by decide +kernel
theorem d_Mo_primary_37 : decode prog_14_method_53_code 37 = .ok (.iconst 0, 1) := by decide +kernel
theorem d_Mo_primary_38 : decode prog_14_method_53_code 38 = .ok (.aload_n 0, 1) := by decide +kernel
theorem d_Mo_primary_39 : decode prog_14_method_53_code 39 = .ok (.aload_n 0, 1) := by decide +kernel
theorem d_Mo_primary_40 : decode prog_14_method_53_code 40 = .ok (.iload_n 1, 1) := by decide +kernel
theorem d_Mo_primary_41 : decode prog_14_method_53_code 41 = .ok (.invokevirtual 316, 3) := by decide +kernel
theorem d_Mo_primary_44 : decode prog_14_method_53_code 44 = .ok (.invokevirtual 320, 3) := by decide +kernel
theorem d_Mo_primary_47 : decode prog_14_method_53_code 47 = .ok (.iconst 0, 1) := by decide +kernel
theorem d_Mo_primary_48 : decode prog_14_method_53_code 48 = .ok (.invokevirtual 295, 3) := by decide +kernel
theorem d_Mo_primary_51 : decode prog_14_method_53_code 51 = .ok (.aload_n 0, 1) := by decide +kernel
theorem d_Mo_primary_52 : decode prog_14_method_53_code 52 = .ok (.iload_n 1, 1) := by decide +kernel
theorem d_Mo_primary_53 : decode prog_14_method_53_code 53 = .ok (.invokevirtual 324, 3) := by decide +kernel
theorem d_Mo_primary_56 : decode prog_14_method_53_code 56 = .ok (.ireturn, 1) := by decide +kernel
theorem d_Mo_primary_57 : decode prog_14_method_53_code 57 = .ok (.aload_n 0, 1) := by decide +kernel
theorem d_Mo_primary_58 : decode prog_14_method_53_code 58 = .ok (.getfield 15, 3) := by decide +kernel
theorem d_Mo_primary_61 : decode prog_14_method_53_code 61 = .ok (.iload_n 1, 1) := by decide +kernel
theorem d_Mo_primary_62 : decode prog_14_method_53_code 62 = .ok (.iaload, 1) := by decide +kernel
theorem d_Mo_primary_63 : decode prog_14_method_53_code 63 = .ok (.bipush 40, 2) := by decide +kernel
theorem d_Mo_primary_65 : decode prog_14_method_53_code 65 = .ok (.if_icmp .ne 20, 3) := by decide +kernel
theorem d_Mo_primary_68 : decode prog_14_method_53_code 68 = .ok (.aload_n 0, 1) := by decide +kernel
theorem d_Mo_primary_69 : decode prog_14_method_53_code 69 = .ok (.invokevirtual 288, 3) := by decide +kernel
theorem d_Mo_primary_72 : decode prog_14_method_53_code 72 = .ok (.istore_n 2, 1) := by decide +kernel
theorem d_Mo_primary_73 : decode prog_14_method_53_code 73 = .ok (.aload_n 0, 1) := by decide +kernel
theorem d_Mo_primary_74 : decode prog_14_method_53_code 74 = .ok (.dup, 1) := by decide +kernel
theorem d_Mo_primary_75 : decode prog_14_method_53_code 75 = .ok (.getfield 193, 3) := by decide +kernel
theorem d_Mo_primary_78 : decode prog_14_method_53_code 78 = .ok (.iconst 1, 1) := by decide +kernel
theorem d_Mo_primary_79 : decode prog_14_method_53_code 79 = .ok (.iadd, 1) := by decide +kernel
theorem d_Mo_primary_80 : decode prog_14_method_53_code 80 = .ok (.putfield 193, 3) := by decide +kernel
theorem d_Mo_primary_83 : decode prog_14_method_53_code 83 = .ok (.iload_n 2, 1) := by decide +kernel
theorem d_Mo_primary_84 : decode prog_14_method_53_code 84 = .ok (.ireturn, 1) := by decide +kernel
theorem d_Mo_primary_85 : decode prog_14_method_53_code 85 = .ok (.aload_n 0, 1) := by decide +kernel
theorem d_Mo_primary_86 : decode prog_14_method_53_code 86 = .ok (.getfield 15, 3) := by decide +kernel
theorem d_Mo_primary_89 : decode prog_14_method_53_code 89 = .ok (.iload_n 1, 1) := by decide +kernel
theorem d_Mo_primary_90 : decode prog_14_method_53_code 90 = .ok (.iaload, 1) := by decide +kernel
theorem d_Mo_primary_91 : decode prog_14_method_53_code 91 = .ok (.bipush 123, 2) := by decide +kernel
theorem d_Mo_primary_93 : decode prog_14_method_53_code 93 = .ok (.if_icmp .ne 14, 3) := by decide +kernel
theorem d_Mo_primary_96 : decode prog_14_method_53_code 96 = .ok (.aload_n 0, 1) := by decide +kernel
theorem d_Mo_primary_97 : decode prog_14_method_53_code 97 = .ok (.aload_n 0, 1) := by decide +kernel
theorem d_Mo_primary_98 : decode prog_14_method_53_code 98 = .ok (.getfield 19, 3) := by decide +kernel
theorem d_Mo_primary_101 : decode prog_14_method_53_code 101 = .ok (.iload_n 1, 1) := by decide +kernel
theorem d_Mo_primary_102 : decode prog_14_method_53_code 102 = .ok (.iaload, 1) := by decide +kernel
theorem d_Mo_primary_103 : decode prog_14_method_53_code 103 = .ok (.invokevirtual 327, 3) := by decide +kernel
theorem d_Mo_primary_106 : decode prog_14_method_53_code 106 = .ok (.ireturn, 1) := by decide +kernel
theorem d_Mo_primary_107 : decode prog_14_method_53_code 107 = .ok (.aload_n 0, 1) := by decide +kernel
theorem d_Mo_primary_108 : decode prog_14_method_53_code 108 = .ok (.iload_n 1, 1) := by decide +kernel
theorem d_Mo_primary_109 : decode prog_14_method_53_code 109 = .ok (.invokevirtual 330, 3) := by decide +kernel
theorem d_Mo_primary_112 : decode prog_14_method_53_code 112 = .ok (.istore_n 2, 1) := by decide +kernel
theorem d_Mo_primary_113 : decode prog_14_method_53_code 113 = .ok (.iload_n 2, 1) := by decide +kernel
theorem d_Mo_primary_114 : decode prog_14_method_53_code 114 = .ok (.ifCond .ge 17, 3) := by decide +kernel
theorem d_Mo_primary_117 : decode prog_14_method_53_code 117 = .ok (.aload_n 0, 1) := by decide +kernel
theorem d_Mo_primary_118 : decode prog_14_method_53_code 118 = .ok (.bipush 22, 2) := by decide +kernel
theorem d_Mo_primary_120 : decode prog_14_method_53_code 120 = .ok (.aload_n 0, 1) := by decide +kernel
theorem d_Mo_primary_121 : decode prog_14_method_53_code 121 = .ok (.getfield 19, 3) := by decide +kernel
theorem d_Mo_primary_124 : decode prog_14_method_53_code 124 = .ok (.iload_n 1, 1) := by decide +kernel
theorem d_Mo_primary_125 : decode prog_14_method_53_code 125 = .ok (.iaload, 1) := by decide +kernel
theorem d_Mo_primary_126 : decode prog_14_method_53_code 126 = .ok (.invokevirtual 196, 3) := by decide +kernel
theorem d_Mo_primary_129 : decode prog_14_method_53_code 129 = .ok (.iconst 1, 1) := by decide +kernel
theorem d_Mo_primary_130 : decode prog_14_method_53_code 130 = .ok (.ireturn, 1) := by decide +kernel
theorem d_Mo_primary_131 : decode prog_14_method_53_code 131 = .ok (.aload_n 0, 1) := by decide +kernel
theorem d_Mo_primary_132 : decode prog_14_method_53_code 132 = .ok (.iconst 1, 1) := by decide +kernel
theorem d_Mo_primary_133 : decode prog_14_method_53_code 133 = .ok (.iload_n 2, 1) := by decide +kernel
theorem d_Mo_primary_134 : decode prog_14_method_53_code 134 = .ok (.iconst 0, 1) := by decide +kernel
theorem d_Mo_primary_135 : decode prog_14_method_53_code 135 = .ok (.invokevirtual 295, 3) := by decide +kernel
theorem d_Mo_primary_138 : decode prog_14_method_53_code 138 = .ok (.aload_n 0, 1) := by decide +kernel
theorem d_Mo_primary_139 : decode prog_14_method_53_code 139 = .ok (.invokevirtual 216, 3) := by decide +kernel
theorem d_Mo_primary_142 : decode prog_14_method_53_code 142 = .ok (.bipush 91, 2) := by decide +kernel
theorem d_Mo_primary_144 : decode prog_14_method_53_code 144 = .ok (.if_icmp .eq 10, 3) := by decide +kernel
theorem d_Mo_primary_147 : decode prog_14_method_53_code 147 = .ok (.aload_n 0, 1) := by decide +kernel
theorem d_Mo_primary_148 : decode prog_14_method_53_code 148 = .ok (.getfield 43, 3) := by decide +kernel
theorem d_Mo_primary_151 : decode prog_14_method_53_code 151 = .ok (.iload_n 2, 1) := by decide +kernel
theorem d_Mo_primary_152 : decode prog_14_method_53_code 152 = .ok (.iaload, 1) := by decide +kernel
theorem d_Mo_primary_153 : decode prog_14_method_53_code 153 = .ok (.ireturn, 1) := by decide +kernel
theorem d_Mo_primary_154 : decode prog_14_method_53_code 154 = .ok (.aload_n 0, 1) := by decide +kernel
theorem d_Mo_primary_155 : decode prog_14_method_53_code 155 = .ok (.getfield 15, 3) := by decide +kernel
theorem d_Mo_primary_158 : decode prog_14_method_53_code 158 = .ok (.aload_n 0, 1) := by decide +kernel
theorem d_Mo_primary_159 : decode prog_14_method_53_code 159 = .ok (.getfield 193, 3) := by decide +kernel
theorem d_Mo_primary_162 : decode prog_14_method_53_code 162 = .ok (.iconst 1, 1) := by decide +kernel
theorem d_Mo_primary_163 : decode prog_14_method_53_code 163 = .ok (.iadd, 1) := by decide +kernel
theorem d_Mo_primary_164 : decode prog_14_method_53_code 164 = .ok (.iaload, 1) := by decide +kernel
theorem d_Mo_primary_165 : decode prog_14_method_53_code 165 = .ok (.sipush 401, 3) := by decide +kernel
theorem d_Mo_primary_168 : decode prog_14_method_53_code 168 = .ok (.if_icmp .ne 38, 3) := by decide +kernel
theorem d_Mo_primary_171 : decode prog_14_method_53_code 171 = .ok (.aload_n 0, 1) := by decide +kernel
theorem d_Mo_primary_172 : decode prog_14_method_53_code 172 = .ok (.iload_n 2, 1) := by decide +kernel
theorem d_Mo_primary_173 : decode prog_14_method_53_code 173 = .ok (.invokevirtual 333, 3) := by decide +kernel
theorem d_Mo_primary_176 : decode prog_14_method_53_code 176 = .ok (.istore_n 3, 1) := by decide +kernel
theorem d_Mo_primary_177 : decode prog_14_method_53_code 177 = .ok (.aload_n 0, 1) := by decide +kernel
theorem d_Mo_primary_178 : decode prog_14_method_53_code 178 = .ok (.iconst 2, 1) := by decide +kernel
theorem d_Mo_primary_179 : decode prog_14_method_53_code 179 = .ok (.iload_n 3, 1) := by decide +kernel
theorem d_Mo_primary_180 : decode prog_14_method_53_code 180 = .ok (.sipush 256, 3) := by decide +kernel
theorem d_Mo_primary_183 : decode prog_14_method_53_code 183 = .ok (.idiv, 1) := by decide +kernel
theorem d_Mo_primary_184 : decode prog_14_method_53_code 184 = .ok (.iload_n 3, 1) := by decide +kernel
theorem d_Mo_primary_185 : decode prog_14_method_53_code 185 = .ok (.sipush 256, 3) := by decide +kernel
theorem d_Mo_primary_188 : decode prog_14_method_53_code 188 = .ok (.irem, 1) := by decide +kernel
theorem d_Mo_primary_189 : decode prog_14_method_53_code 189 = .ok (.invokevirtual 295, 3) := by decide +kernel
theorem d_Mo_primary_192 : decode prog_14_method_53_code 192 = .ok (.iload_n 3, 1) := by decide +kernel
theorem d_Mo_primary_193 : decode prog_14_method_53_code 193 = .ok (.sipush 256, 3) := by decide +kernel
theorem d_Mo_primary_196 : decode prog_14_method_53_code 196 = .ok (.idiv, 1) := by decide +kernel
theorem d_Mo_primary_197 : decode prog_14_method_53_code 197 = .ok (.iload_n 3, 1) := by decide +kernel
theorem d_Mo_primary_198 : decode prog_14_method_53_code 198 = .ok (.sipush 256, 3) := by decide +kernel
theorem d_Mo_primary_201 : decode prog_14_method_53_code 201 = .ok (.irem, 1) := by decide +kernel
theorem d_Mo_primary_202 : decode prog_14_method_53_code 202 = .ok (.isub, 1) := by decide +kernel
theorem d_Mo_primary_203 : decode prog_14_method_53_code 203 = .ok (.iconst 1, 1) := by decide +kernel
theorem d_Mo_primary_204 : decode prog_14_method_53_code 204 = .ok (.iadd, 1) := by decide +kernel
theorem d_Mo_primary_205 : decode prog_14_method_53_code 205 = .ok (.ireturn, 1) := by decide +kernel
theorem d_Mo_primary_206 : decode prog_14_method_53_code 206 = .ok (.aload_n 0, 1) := by decide +kernel
theorem d_Mo_primary_207 : decode prog_14_method_53_code 207 = .ok (.dup, 1) := by decide +kernel
theorem d_Mo_primary_208 : decode prog_14_method_53_code 208 = .ok (.getfield 193, 3) := by decide +kernel
theorem d_Mo_primary_211 : decode prog_14_method_53_code 211 = .ok (.iconst 1, 1) := by decide +kernel
theorem d_Mo_primary_212 : decode prog_14_method_53_code 212 = .ok (.iadd, 1) := by decide +kernel
theorem d_Mo_primary_213 : decode prog_14_method_53_code 213 = .ok (.putfield 193, 3) := by decide +kernel
theorem d_Mo_primary_216 : decode prog_14_method_53_code 216 = .ok (.aload_n 0, 1) := by decide +kernel
theorem d_Mo_primary_217 : decode prog_14_method_53_code 217 = .ok (.invokevirtual 288, 3) := by decide +kernel
theorem d_Mo_primary_220 : decode prog_14_method_53_code 220 = .ok (.istore_n 3, 1) := by decide +kernel
theorem d_Mo_primary_221 : decode prog_14_method_53_code 221 = .ok (.aload_n 0, 1) := by decide +kernel
theorem d_Mo_primary_222 : decode prog_14_method_53_code 222 = .ok (.dup, 1) := by decide +kernel
theorem d_Mo_primary_223 : decode prog_14_method_53_code 223 = .ok (.getfield 193, 3) := by decide +kernel
theorem d_Mo_primary_226 : decode prog_14_method_53_code 226 = .ok (.iconst 1, 1) := by decide +kernel
theorem d_Mo_primary_227 : decode prog_14_method_53_code 227 = .ok (.iadd, 1) := by decide +kernel
theorem d_Mo_primary_228 : decode prog_14_method_53_code 228 = .ok (.putfield 193, 3) := by decide +kernel
theorem d_Mo_primary_231 : decode prog_14_method_53_code 231 = .ok (.aload_n 0, 1) := by decide +kernel
theorem d_Mo_primary_232 : decode prog_14_method_53_code 232 = .ok (.iload_n 3, 1) := by decide +kernel
theorem d_Mo_primary_233 : decode prog_14_method_53_code 233 = .ok (.aload_n 0, 1) := by decide +kernel
theorem d_Mo_primary_234 : decode prog_14_method_53_code 234 = .ok (.getfield 43, 3) := by decide +kernel
theorem d_Mo_primary_237 : decode prog_14_method_53_code 237 = .ok (.iload_n 2, 1) := by decide +kernel
theorem d_Mo_primary_238 : decode prog_14_method_53_code 238 = .ok (.iaload, 1) := by decide +kernel
theorem d_Mo_primary_239 : decode prog_14_method_53_code 239 = .ok (.if_icmp .le 8, 3) := by decide +kernel
theorem d_Mo_primary_242 : decode prog_14_method_53_code 242 = .ok (.iload_n 3, 1) := by decide +kernel
theorem d_Mo_primary_243 : decode prog_14_method_53_code 243 = .ok (.i2l, 1) := by decide +kernel
theorem d_Mo_primary_244 : decode prog_14_method_53_code 244 = .ok (.goto 10, 3) := by decide +kernel
theorem d_Mo_primary_247 : decode prog_14_method_53_code 247 = .ok (.aload_n 0, 1) := by decide +kernel
theorem d_Mo_primary_248 : decode prog_14_method_53_code 248 = .ok (.getfield 43, 3) := by decide +kernel
theorem d_Mo_primary_251 : decode prog_14_method_53_code 251 = .ok (.iload_n 2, 1) := by decide +kernel
theorem d_Mo_primary_252 : decode prog_14_method_53_code 252 = .ok (.iaload, 1) := by decide +kernel
theorem d_Mo_primary_253 : decode prog_14_method_53_code 253 = .ok (.i2l, 1) := by decide +kernel
theorem d_Mo_primary_254 : decode prog_14_method_53_code 254 = .ok (.invokevirtual 291, 3) := by decide +kernel
theorem d_Mo_primary_257 : decode prog_14_method_53_code 257 = .ok (.aload_n 0, 1) := by decide +kernel
theorem d_Mo_primary_258 : decode prog_14_method_53_code 258 = .ok (.iconst 3, 1) := by decide +kernel
theorem d_Mo_primary_259 : decode prog_14_method_53_code 259 = .ok (.aload_n 0, 1) := by decide +kernel
theorem d_Mo_primary_260 : decode prog_14_method_53_code 260 = .ok (.getfield 43, 3) := by decide +kernel
theorem d_Mo_primary_263 : decode prog_14_method_53_code 263 = .ok (.iload_n 2, 1) := by decide +kernel
theorem d_Mo_primary_264 : decode prog_14_method_53_code 264 = .ok (.iaload, 1) := by decide +kernel
theorem d_Mo_primary_265 : decode prog_14_method_53_code 265 = .ok (.iconst 0, 1) := by decide +kernel
theorem d_Mo_primary_266 : decode prog_14_method_53_code 266 = .ok (.invokevirtual 295, 3) := by decide +kernel
theorem d_Mo_primary_269 : decode prog_14_method_53_code 269 = .ok (.iconst 1, 1) := by decide +kernel
theorem d_Mo_primary_270 : decode prog_14_method_53_code 270 = .ok (.ireturn, 1) := by decide +kernel
abbrev m_Mo_keepNumber : cx_M := (⟨"CircuitTextModel", "keepNumber", "(J)I"⟩, prog_14_method_47_code, 5, (Option.some Jvm.ClassFile.FieldType.int), [], [false, true])
theorem w_Mo_keepNumber : cx_W m_Mo_keepNumber := ⟨Or.inl ⟨(in_8 (List.mem_of_getElem? (i := 20) rfl)), rfl⟩, by decide +kernel, by decide, by decide, by decide +kernel⟩
theorem n_Mo_keepNumber : (parseMethodDescriptor m_Mo_keepNumber.1.desc).map (fun d => d.parameters.length) = some 1 := by decide +kernel
theorem d_Mo_keepNumber_0 : decode prog_14_method_47_code 0 = .ok (.aload_n 0, 1) := by decide +kernel
theorem d_Mo_keepNumber_1 : decode prog_14_method_47_code 1 = .ok (.getfield 282, 3) := by decide +kernel
theorem d_Mo_keepNumber_4 : decode prog_14_method_47_code 4 = .ok (.aload_n 0, 1) := by decide +kernel
theorem d_Mo_keepNumber_5 : decode prog_14_method_47_code 5 = .ok (.getfield 98, 3) := by decide +kernel
theorem d_Mo_keepNumber_8 : decode prog_14_method_47_code 8 = .ok (.arraylength, 1) := by decide +kernel
theorem d_Mo_keepNumber_9 : decode prog_14_method_47_code 9 = .ok (.if_icmp .ne 46, 3) := by decide +kernel
theorem d_Mo_keepNumber_12 : decode prog_14_method_47_code 12 = .ok (.iconst 2, 1) := by decide +kernel
theorem d_Mo_keepNumber_13 : decode prog_14_method_47_code 13 = .ok (.aload_n 0, 1) := by decide +kernel
theorem d_Mo_keepNumber_14 : decode prog_14_method_47_code 14 = .ok (.getfield 282, 3) := by decide +kernel
theorem d_Mo_keepNumber_17 : decode prog_14_method_47_code 17 = .ok (.imul, 1) := by decide +kernel
theorem d_Mo_keepNumber_18 : decode prog_14_method_47_code 18 = .ok (.newarray .long, 2) := by decide +kernel
theorem d_Mo_keepNumber_20 : decode prog_14_method_47_code 20 = .ok (.astore_n 3, 1) := by decide +kernel
theorem d_Mo_keepNumber_21 : decode prog_14_method_47_code 21 = .ok (.iconst 0, 1) := by decide +kernel
theorem d_Mo_keepNumber_22 : decode prog_14_method_47_code 22 = .ok (.istore 4, 2) := by decide +kernel
theorem d_Mo_keepNumber_24 : decode prog_14_method_47_code 24 = .ok (.iload 4, 2) := by decide +kernel
theorem d_Mo_keepNumber_26 : decode prog_14_method_47_code 26 = .ok (.aload_n 0, 1) := by decide +kernel
theorem d_Mo_keepNumber_27 : decode prog_14_method_47_code 27 = .ok (.getfield 282, 3) := by decide +kernel
theorem d_Mo_keepNumber_30 : decode prog_14_method_47_code 30 = .ok (.if_icmp .ge 20, 3) := by decide +kernel
theorem d_Mo_keepNumber_33 : decode prog_14_method_47_code 33 = .ok (.aload_n 3, 1) := by decide +kernel
theorem d_Mo_keepNumber_34 : decode prog_14_method_47_code 34 = .ok (.iload 4, 2) := by decide +kernel
theorem d_Mo_keepNumber_36 : decode prog_14_method_47_code 36 = .ok (.aload_n 0, 1) := by decide +kernel
theorem d_Mo_keepNumber_37 : decode prog_14_method_47_code 37 = .ok (.getfield 98, 3) := by decide +kernel
theorem d_Mo_keepNumber_40 : decode prog_14_method_47_code 40 = .ok (.iload 4, 2) := by decide +kernel
theorem d_Mo_keepNumber_42 : decode prog_14_method_47_code 42 = .ok (.laload, 1) := by decide +kernel
theorem d_Mo_keepNumber_43 : decode prog_14_method_47_code 43 = .ok (.lastore, 1) := by decide +kernel
theorem d_Mo_keepNumber_44 : decode prog_14_method_47_code 44 = .ok (.iinc 4 1, 3) := by decide +kernel
theorem d_Mo_keepNumber_47 : decode prog_14_method_47_code 47 = .ok (.goto (-23), 3) := by decide +kernel
theorem d_Mo_keepNumber_50 : decode prog_14_method_47_code 50 = .ok (.aload_n 0, 1) := by decide +kernel
theorem d_Mo_keepNumber_51 : decode prog_14_method_47_code 51 = .ok (.aload_n 3, 1) := by decide +kernel
theorem d_Mo_keepNumber_52 : decode prog_14_method_47_code 52 = .ok (.putfield 98, 3) := by decide +kernel
theorem d_Mo_keepNumber_55 : decode prog_14_method_47_code 55 = .ok (.aload_n 0, 1) := by decide +kernel
theorem d_Mo_keepNumber_56 : decode prog_14_method_47_code 56 = .ok (.getfield 98, 3) := by decide +kernel
theorem d_Mo_keepNumber_59 : decode prog_14_method_47_code 59 = .ok (.aload_n 0, 1) := by decide +kernel
theorem d_Mo_keepNumber_60 : decode prog_14_method_47_code 60 = .ok (.getfield 282, 3) := by decide +kernel
theorem d_Mo_keepNumber_63 : decode prog_14_method_47_code 63 = .ok (.lload_n 1, 1) := by decide +kernel
theorem d_Mo_keepNumber_64 : decode prog_14_method_47_code 64 = .ok (.lastore, 1) := by decide +kernel
theorem d_Mo_keepNumber_65 : decode prog_14_method_47_code 65 = .ok (.aload_n 0, 1) := by decide +kernel
theorem d_Mo_keepNumber_66 : decode prog_14_method_47_code 66 = .ok (.dup, 1) := by decide +kernel
theorem d_Mo_keepNumber_67 : decode prog_14_method_47_code 67 = .ok (.getfield 282, 3) := by decide +kernel
theorem d_Mo_keepNumber_70 : decode prog_14_method_47_code 70 = .ok (.iconst 1, 1) := by decide +kernel
theorem d_Mo_keepNumber_71 : decode prog_14_method_47_code 71 = .ok (.iadd, 1) := by decide +kernel
theorem d_Mo_keepNumber_72 : decode prog_14_method_47_code 72 = .ok (.putfield 282, 3) := by decide +kernel
theorem d_Mo_keepNumber_75 : decode prog_14_method_47_code 75 = .ok (.aload_n 0, 1) := by decide +kernel
theorem d_Mo_keepNumber_76 : decode prog_14_method_47_code 76 = .ok (.getfield 282, 3) := by decide +kernel
theorem d_Mo_keepNumber_79 : decode prog_14_method_47_code 79 = .ok (.iconst 1, 1) := by decide +kernel
theorem d_Mo_keepNumber_80 : decode prog_14_method_47_code 80 = .ok (.isub, 1) := by decide +kernel
theorem d_Mo_keepNumber_81 : decode prog_14_method_47_code 81 = .ok (.ireturn, 1) := by decide +kernel
theorem f_Mo_98 : cx_F "CircuitTextModel" 98 12 43 (.array .long) false := ⟨_, F_Mo, 58, t_Mo, k_Mo, by decide, rfl, rfl, Or.inl (in_6 (List.mem_of_getElem? (i := 138) rfl))⟩
abbrev m_Mo_lay : cx_M := (⟨"CircuitTextModel", "lay", "(III)V"⟩, prog_14_method_46_code, 6, (Option.none : Option Jvm.ClassFile.FieldType), [], [false, false, false, false])
theorem w_Mo_lay : cx_W m_Mo_lay := ⟨Or.inl ⟨(in_8 (List.mem_of_getElem? (i := 24) rfl)), rfl⟩, by decide +kernel, by decide, by decide, by decide +kernel⟩
theorem n_Mo_lay : (parseMethodDescriptor m_Mo_lay.1.desc).map (fun d => d.parameters.length) = some 3 := by decide +kernel
theorem d_Mo_lay_0 : decode prog_14_method_46_code 0 = .ok (.aload_n 0, 1) := by decide +kernel
theorem d_Mo_lay_1 : decode prog_14_method_46_code 1 = .ok (.getfield 279, 3) := by decide +kernel
theorem d_Mo_lay_4 : decode prog_14_method_46_code 4 = .ok (.iconst 3, 1) := by decide +kernel
theorem d_Mo_lay_5 : decode prog_14_method_46_code 5 = .ok (.iadd, 1) := by decide +kernel
theorem d_Mo_lay_6 : decode prog_14_method_46_code 6 = .ok (.aload_n 0, 1) := by decide +kernel
theorem d_Mo_lay_7 : decode prog_14_method_46_code 7 = .ok (.getfield 95, 3) := by decide +kernel
theorem d_Mo_lay_10 : decode prog_14_method_46_code 10 = .ok (.arraylength, 1) := by decide +kernel
theorem d_Mo_lay_11 : decode prog_14_method_46_code 11 = .ok (.if_icmp .le 50, 3) := by decide +kernel
theorem d_Mo_lay_14 : decode prog_14_method_46_code 14 = .ok (.iconst 2, 1) := by decide +kernel
theorem d_Mo_lay_15 : decode prog_14_method_46_code 15 = .ok (.aload_n 0, 1) := by decide +kernel
theorem d_Mo_lay_16 : decode prog_14_method_46_code 16 = .ok (.getfield 95, 3) := by decide +kernel
theorem d_Mo_lay_19 : decode prog_14_method_46_code 19 = .ok (.arraylength, 1) := by decide +kernel
theorem d_Mo_lay_20 : decode prog_14_method_46_code 20 = .ok (.imul, 1) := by decide +kernel
theorem d_Mo_lay_21 : decode prog_14_method_46_code 21 = .ok (.newarray .int, 2) := by decide +kernel
theorem d_Mo_lay_23 : decode prog_14_method_46_code 23 = .ok (.astore 4, 2) := by decide +kernel
theorem d_Mo_lay_25 : decode prog_14_method_46_code 25 = .ok (.iconst 0, 1) := by decide +kernel
theorem d_Mo_lay_26 : decode prog_14_method_46_code 26 = .ok (.istore 5, 2) := by decide +kernel
theorem d_Mo_lay_28 : decode prog_14_method_46_code 28 = .ok (.iload 5, 2) := by decide +kernel
theorem d_Mo_lay_30 : decode prog_14_method_46_code 30 = .ok (.aload_n 0, 1) := by decide +kernel
theorem d_Mo_lay_31 : decode prog_14_method_46_code 31 = .ok (.getfield 279, 3) := by decide +kernel
theorem d_Mo_lay_34 : decode prog_14_method_46_code 34 = .ok (.if_icmp .ge 21, 3) := by decide +kernel
theorem d_Mo_lay_37 : decode prog_14_method_46_code 37 = .ok (.aload 4, 2) := by decide +kernel
theorem d_Mo_lay_39 : decode prog_14_method_46_code 39 = .ok (.iload 5, 2) := by decide +kernel
theorem d_Mo_lay_41 : decode prog_14_method_46_code 41 = .ok (.aload_n 0, 1) := by decide +kernel
theorem d_Mo_lay_42 : decode prog_14_method_46_code 42 = .ok (.getfield 95, 3) := by decide +kernel
theorem d_Mo_lay_45 : decode prog_14_method_46_code 45 = .ok (.iload 5, 2) := by decide +kernel
theorem d_Mo_lay_47 : decode prog_14_method_46_code 47 = .ok (.iaload, 1) := by decide +kernel
theorem d_Mo_lay_48 : decode prog_14_method_46_code 48 = .ok (.iastore, 1) := by decide +kernel
theorem d_Mo_lay_49 : decode prog_14_method_46_code 49 = .ok (.iinc 5 1, 3) := by decide +kernel
theorem d_Mo_lay_52 : decode prog_14_method_46_code 52 = .ok (.goto (-24), 3) := by decide +kernel
theorem d_Mo_lay_55 : decode prog_14_method_46_code 55 = .ok (.aload_n 0, 1) := by decide +kernel
theorem d_Mo_lay_56 : decode prog_14_method_46_code 56 = .ok (.aload 4, 2) := by decide +kernel
theorem d_Mo_lay_58 : decode prog_14_method_46_code 58 = .ok (.putfield 95, 3) := by decide +kernel
theorem d_Mo_lay_61 : decode prog_14_method_46_code 61 = .ok (.aload_n 0, 1) := by decide +kernel
theorem d_Mo_lay_62 : decode prog_14_method_46_code 62 = .ok (.getfield 95, 3) := by decide +kernel
theorem d_Mo_lay_65 : decode prog_14_method_46_code 65 = .ok (.aload_n 0, 1) := by decide +kernel
theorem d_Mo_lay_66 : decode prog_14_method_46_code 66 = .ok (.getfield 279, 3) := by decide +kernel
theorem d_Mo_lay_69 : decode prog_14_method_46_code 69 = .ok (.iload_n 1, 1) := by decide +kernel
theorem d_Mo_lay_70 : decode prog_14_method_46_code 70 = .ok (.iastore, 1) := by decide +kernel
theorem d_Mo_lay_71 : decode prog_14_method_46_code 71 = .ok (.aload_n 0, 1) := by decide +kernel
theorem d_Mo_lay_72 : decode prog_14_method_46_code 72 = .ok (.getfield 95, 3) := by decide +kernel
theorem d_Mo_lay_75 : decode prog_14_method_46_code 75 = .ok (.aload_n 0, 1) := by decide +kernel
theorem d_Mo_lay_76 : decode prog_14_method_46_code 76 = .ok (.getfield 279, 3) := by decide +kernel
theorem d_Mo_lay_79 : decode prog_14_method_46_code 79 = .ok (.iconst 1, 1) := by decide +kernel
theorem d_Mo_lay_80 : decode prog_14_method_46_code 80 = .ok (.iadd, 1) := by decide +kernel
theorem d_Mo_lay_81 : decode prog_14_method_46_code 81 = .ok (.iload_n 2, 1) := by decide +kernel
theorem d_Mo_lay_82 : decode prog_14_method_46_code 82 = .ok (.iastore, 1) := by decide +kernel
theorem d_Mo_lay_83 : decode prog_14_method_46_code 83 = .ok (.aload_n 0, 1) := by decide +kernel
theorem d_Mo_lay_84 : decode prog_14_method_46_code 84 = .ok (.getfield 95, 3) := by decide +kernel
theorem d_Mo_lay_87 : decode prog_14_method_46_code 87 = .ok (.aload_n 0, 1) := by decide +kernel
theorem d_Mo_lay_88 : decode prog_14_method_46_code 88 = .ok (.getfield 279, 3) := by decide +kernel
theorem d_Mo_lay_91 : decode prog_14_method_46_code 91 = .ok (.iconst 2, 1) := by decide +kernel
theorem d_Mo_lay_92 : decode prog_14_method_46_code 92 = .ok (.iadd, 1) := by decide +kernel
theorem d_Mo_lay_93 : decode prog_14_method_46_code 93 = .ok (.iload_n 3, 1) := by decide +kernel
theorem d_Mo_lay_94 : decode prog_14_method_46_code 94 = .ok (.iastore, 1) := by decide +kernel
theorem d_Mo_lay_95 : decode prog_14_method_46_code 95 = .ok (.aload_n 0, 1) := by decide +kernel
theorem d_Mo_lay_96 : decode prog_14_method_46_code 96 = .ok (.aload_n 0, 1) := by decide +kernel
theorem d_Mo_lay_97 : decode prog_14_method_46_code 97 = .ok (.getfield 279, 3) := by decide +kernel
theorem d_Mo_lay_100 : decode prog_14_method_46_code 100 = .ok (.iconst 3, 1) := by decide +kernel
theorem d_Mo_lay_101 : decode prog_14_method_46_code 101 = .ok (.iadd, 1) := by decide +kernel
theorem d_Mo_lay_102 : decode prog_14_method_46_code 102 = .ok (.putfield 279, 3) := by decide +kernel
theorem d_Mo_lay_105 : decode prog_14_method_46_code 105 = .ok (.return_, 1) := by decide +kernel
theorem f_Mo_95 : cx_F "CircuitTextModel" 95 12 41 (.array .int) false := ⟨_, F_Mo, 58, t_Mo, k_Mo, by decide, rfl, rfl, Or.inl (in_6 (List.mem_of_getElem? (i := 136) rfl))⟩
abbrev m_Mo_braces : cx_M := (⟨"CircuitTextModel", "braces", "(I)I"⟩, prog_14_method_55_code, 5, (Option.some Jvm.ClassFile.FieldType.int), [], [false, false])
theorem w_Mo_braces : cx_W m_Mo_braces := ⟨Or.inl ⟨(in_8 (List.mem_of_getElem? (i := 28) rfl)), rfl⟩, by decide +kernel, by decide, by decide, by decide +kernel⟩
theorem n_Mo_braces : (parseMethodDescriptor m_Mo_braces.1.desc).map (fun d => d.parameters.length) = some 1 := by decide +kernel
theorem d_Mo_braces_0 : decode prog_14_method_55_code 0 = .ok (.aload_n 0, 1) := by decide +kernel
theorem d_Mo_braces_1 : decode prog_14_method_55_code 1 = .ok (.invokevirtual 216, 3) := by decide +kernel
theorem d_Mo_braces_4 : decode prog_14_method_55_code 4 = .ok (.sipush 401, 3) := by decide +kernel
theorem d_Mo_braces_7 : decode prog_14_method_55_code 7 = .ok (.if_icmp .ne 97, 3) := by decide +kernel
theorem d_Mo_braces_10 : decode prog_14_method_55_code 10 = .ok (.aload_n 0, 1) := by decide +kernel
theorem d_Mo_braces_11 : decode prog_14_method_55_code 11 = .ok (.aload_n 0, 1) := by decide +kernel
theorem d_Mo_braces_12 : decode prog_14_method_55_code 12 = .ok (.getfield 193, 3) := by decide +kernel
theorem d_Mo_braces_15 : decode prog_14_method_55_code 15 = .ok (.invokevirtual 316, 3) := by decide +kernel
theorem d_Mo_braces_18 : decode prog_14_method_55_code 18 = .ok (.lstore_n 2, 1) := by decide +kernel
theorem d_Mo_braces_19 : decode prog_14_method_55_code 19 = .ok (.aload_n 0, 1) := by decide +kernel
theorem d_Mo_braces_20 : decode prog_14_method_55_code 20 = .ok (.aload_n 0, 1) := by decide +kernel
theorem d_Mo_braces_21 : decode prog_14_method_55_code 21 = .ok (.getfield 193, 3) := by decide +kernel
theorem d_Mo_braces_24 : decode prog_14_method_55_code 24 = .ok (.iconst 2, 1) := by decide +kernel
theorem d_Mo_braces_25 : decode prog_14_method_55_code 25 = .ok (.iadd, 1) := by decide +kernel
theorem d_Mo_braces_26 : decode prog_14_method_55_code 26 = .ok (.putfield 193, 3) := by decide +kernel
theorem d_Mo_braces_29 : decode prog_14_method_55_code 29 = .ok (.aload_n 0, 1) := by decide +kernel
theorem d_Mo_braces_30 : decode prog_14_method_55_code 30 = .ok (.invokevirtual 288, 3) := by decide +kernel
theorem d_Mo_braces_33 : decode prog_14_method_55_code 33 = .ok (.istore 4, 2) := by decide +kernel
theorem d_Mo_braces_35 : decode prog_14_method_55_code 35 = .ok (.aload_n 0, 1) := by decide +kernel
theorem d_Mo_braces_36 : decode prog_14_method_55_code 36 = .ok (.aload_n 0, 1) := by decide +kernel
theorem d_Mo_braces_37 : decode prog_14_method_55_code 37 = .ok (.getfield 193, 3) := by decide +kernel
theorem d_Mo_braces_40 : decode prog_14_method_55_code 40 = .ok (.iconst 2, 1) := by decide +kernel
theorem d_Mo_braces_41 : decode prog_14_method_55_code 41 = .ok (.iadd, 1) := by decide +kernel
theorem d_Mo_braces_42 : decode prog_14_method_55_code 42 = .ok (.putfield 193, 3) := by decide +kernel
theorem d_Mo_braces_45 : decode prog_14_method_55_code 45 = .ok (.aload_n 0, 1) := by decide +kernel
theorem d_Mo_braces_46 : decode prog_14_method_55_code 46 = .ok (.getfield 187, 3) := by decide +kernel
theorem d_Mo_braces_49 : decode prog_14_method_55_code 49 = .ok (.ifCond .ne 28, 3) := by decide +kernel
theorem d_Mo_braces_52 : decode prog_14_method_55_code 52 = .ok (.lload_n 2, 1) := by decide +kernel
theorem d_Mo_braces_53 : decode prog_14_method_55_code 53 = .ok (.lconst 0, 1) := by decide +kernel
theorem d_Mo_braces_54 : decode prog_14_method_55_code 54 = .ok (.lcmp, 1) := by decide +kernel
theorem d_Mo_braces_55 : decode prog_14_method_55_code 55 = .ok (.ifCond .eq 15, 3) := by decide +kernel
theorem d_Mo_braces_58 : decode prog_14_method_55_code 58 = .ok (.lload_n 2, 1) := by decide +kernel
theorem d_Mo_braces_59 : decode prog_14_method_55_code 59 = .ok (.iload 4, 2) := by decide +kernel
theorem d_Mo_braces_61 : decode prog_14_method_55_code 61 = .ok (.i2l, 1) := by decide +kernel
theorem d_Mo_braces_62 : decode prog_14_method_55_code 62 = .ok (.lmul, 1) := by decide +kernel
theorem d_Mo_braces_63 : decode prog_14_method_55_code 63 = .ok (.ldc2_w 156, 3) := by decide +kernel
theorem d_Mo_braces_66 : decode prog_14_method_55_code 66 = .ok (.lcmp, 1) := by decide +kernel
theorem d_Mo_braces_67 : decode prog_14_method_55_code 67 = .ok (.ifCond .le 10, 3) := by decide +kernel
theorem d_Mo_braces_70 : decode prog_14_method_55_code 70 = .ok (.aload_n 0, 1) := by decide +kernel
theorem d_Mo_braces_71 : decode prog_14_method_55_code 71 = .ok (.bipush 30, 2) := by decide +kernel
theorem d_Mo_braces_73 : decode prog_14_method_55_code 73 = .ok (.iload_n 1, 1) := by decide +kernel
theorem d_Mo_braces_74 : decode prog_14_method_55_code 74 = .ok (.invokevirtual 196, 3) := by decide +kernel
theorem d_Mo_braces_77 : decode prog_14_method_55_code 77 = .ok (.aload_n 0, 1) := by decide +kernel
theorem d_Mo_braces_78 : decode prog_14_method_55_code 78 = .ok (.bipush 8, 2) := by decide +kernel
theorem d_Mo_braces_80 : decode prog_14_method_55_code 80 = .ok (.lload_n 2, 1) := by decide +kernel
theorem d_Mo_braces_81 : decode prog_14_method_55_code 81 = .ok (.l2i, 1) := by decide +kernel
theorem d_Mo_braces_82 : decode prog_14_method_55_code 82 = .ok (.iload 4, 2) := by decide +kernel
theorem d_Mo_braces_84 : decode prog_14_method_55_code 84 = .ok (.invokevirtual 295, 3) := by decide +kernel
theorem d_Mo_braces_87 : decode prog_14_method_55_code 87 = .ok (.aload_n 0, 1) := by decide +kernel
theorem d_Mo_braces_88 : decode prog_14_method_55_code 88 = .ok (.getfield 187, 3) := by decide +kernel
theorem d_Mo_braces_91 : decode prog_14_method_55_code 91 = .ok (.ifCond .ne 11, 3) := by decide +kernel
theorem d_Mo_braces_94 : decode prog_14_method_55_code 94 = .ok (.lload_n 2, 1) := by decide +kernel
theorem d_Mo_braces_95 : decode prog_14_method_55_code 95 = .ok (.l2i, 1) := by decide +kernel
theorem d_Mo_braces_96 : decode prog_14_method_55_code 96 = .ok (.iload 4, 2) := by decide +kernel
theorem d_Mo_braces_98 : decode prog_14_method_55_code 98 = .ok (.imul, 1) := by decide +kernel
theorem d_Mo_braces_99 : decode prog_14_method_55_code 99 = .ok (.goto 4, 3) := by decide +kernel
theorem d_Mo_braces_102 : decode prog_14_method_55_code 102 = .ok (.iconst 1, 1) := by decide +kernel
theorem d_Mo_braces_103 : decode prog_14_method_55_code 103 = .ok (.ireturn, 1) := by decide +kernel
theorem d_Mo_braces_104 : decode prog_14_method_55_code 104 = .ok (.aload_n 0, 1) := by decide +kernel
theorem d_Mo_braces_105 : decode prog_14_method_55_code 105 = .ok (.invokevirtual 288, 3) := by decide +kernel
theorem d_Mo_braces_108 : decode prog_14_method_55_code 108 = .ok (.i2l, 1) := by decide +kernel
theorem d_Mo_braces_109 : decode prog_14_method_55_code 109 = .ok (.lstore_n 2, 1) := by decide +kernel
theorem d_Mo_braces_110 : decode prog_14_method_55_code 110 = .ok (.aload_n 0, 1) := by decide +kernel
theorem d_Mo_braces_111 : decode prog_14_method_55_code 111 = .ok (.bipush 44, 2) := by decide +kernel
theorem d_Mo_braces_113 : decode prog_14_method_55_code 113 = .ok (.invokevirtual 203, 3) := by decide +kernel
theorem d_Mo_braces_116 : decode prog_14_method_55_code 116 = .ok (.ifCond .eq 37, 3) := by decide +kernel
theorem d_Mo_braces_119 : decode prog_14_method_55_code 119 = .ok (.aload_n 0, 1) := by decide +kernel
theorem d_Mo_braces_120 : decode prog_14_method_55_code 120 = .ok (.dup, 1) := by decide +kernel
theorem d_Mo_braces_121 : decode prog_14_method_55_code 121 = .ok (.getfield 193, 3) := by decide +kernel
theorem d_Mo_braces_124 : decode prog_14_method_55_code 124 = .ok (.iconst 1, 1) := by decide +kernel
theorem d_Mo_braces_125 : decode prog_14_method_55_code 125 = .ok (.iadd, 1) := by decide +kernel
theorem d_Mo_braces_126 : decode prog_14_method_55_code 126 = .ok (.putfield 193, 3) := by decide +kernel
theorem d_Mo_braces_129 : decode prog_14_method_55_code 129 = .ok (.aload_n 0, 1) := by decide +kernel
theorem d_Mo_braces_130 : decode prog_14_method_55_code 130 = .ok (.invokevirtual 288, 3) := by decide +kernel
theorem d_Mo_braces_133 : decode prog_14_method_55_code 133 = .ok (.istore 4, 2) := by decide +kernel
theorem d_Mo_braces_135 : decode prog_14_method_55_code 135 = .ok (.aload_n 0, 1) := by decide +kernel
theorem d_Mo_braces_136 : decode prog_14_method_55_code 136 = .ok (.bipush 7, 2) := by decide +kernel
theorem d_Mo_braces_138 : decode prog_14_method_55_code 138 = .ok (.iload 4, 2) := by decide +kernel
theorem d_Mo_braces_140 : decode prog_14_method_55_code 140 = .ok (.iconst 0, 1) := by decide +kernel
theorem d_Mo_braces_141 : decode prog_14_method_55_code 141 = .ok (.invokevirtual 295, 3) := by decide +kernel
theorem d_Mo_braces_144 : decode prog_14_method_55_code 144 = .ok (.lload_n 2, 1) := by decide +kernel
theorem d_Mo_braces_145 : decode prog_14_method_55_code 145 = .ok (.iload 4, 2) := by decide +kernel
theorem d_Mo_braces_147 : decode prog_14_method_55_code 147 = .ok (.i2l, 1) := by decide +kernel
theorem d_Mo_braces_148 : decode prog_14_method_55_code 148 = .ok (.ladd, 1) := by decide +kernel
theorem d_Mo_braces_149 : decode prog_14_method_55_code 149 = .ok (.lstore_n 2, 1) := by decide +kernel
theorem d_Mo_braces_150 : decode prog_14_method_55_code 150 = .ok (.goto (-40), 3) := by decide +kernel
theorem d_Mo_braces_153 : decode prog_14_method_55_code 153 = .ok (.aload_n 0, 1) := by decide +kernel
theorem d_Mo_braces_154 : decode prog_14_method_55_code 154 = .ok (.dup, 1) := by decide +kernel
theorem d_Mo_braces_155 : decode prog_14_method_55_code 155 = .ok (.getfield 193, 3) := by decide +kernel
theorem d_Mo_braces_158 : decode prog_14_method_55_code 158 = .ok (.iconst 1, 1) := by decide +kernel
theorem d_Mo_braces_159 : decode prog_14_method_55_code 159 = .ok (.iadd, 1) := by decide +kernel
theorem d_Mo_braces_160 : decode prog_14_method_55_code 160 = .ok (.putfield 193, 3) := by decide +kernel
theorem d_Mo_braces_163 : decode prog_14_method_55_code 163 = .ok (.aload_n 0, 1) := by decide +kernel
theorem d_Mo_braces_164 : decode prog_14_method_55_code 164 = .ok (.getfield 187, 3) := by decide +kernel
theorem d_Mo_braces_167 : decode prog_14_method_55_code 167 = .ok (.ifCond .ne 18, 3) := by decide +kernel
theorem d_Mo_braces_170 : decode prog_14_method_55_code 170 = .ok (.lload_n 2, 1) := by decide +kernel
theorem d_Mo_braces_171 : decode prog_14_method_55_code 171 = .ok (.ldc2_w 156, 3) := by decide +kernel
theorem d_Mo_braces_174 : decode prog_14_method_55_code 174 = .ok (.lcmp, 1) := by decide +kernel
theorem d_Mo_braces_175 : decode prog_14_method_55_code 175 = .ok (.ifCond .le 10, 3) := by decide +kernel
theorem d_Mo_braces_178 : decode prog_14_method_55_code 178 = .ok (.aload_n 0, 1) := by decide +kernel
theorem d_Mo_braces_179 : decode prog_14_method_55_code 179 = .ok (.bipush 30, 2) := by decide +kernel
theorem d_Mo_braces_181 : decode prog_14_method_55_code 181 = .ok (.iload_n 1, 1) := by decide +kernel
theorem d_Mo_braces_182 : decode prog_14_method_55_code 182 = .ok (.invokevirtual 196, 3) := by decide +kernel
theorem d_Mo_braces_185 : decode prog_14_method_55_code 185 = .ok (.aload_n 0, 1) := by decide +kernel
theorem d_Mo_braces_186 : decode prog_14_method_55_code 186 = .ok (.getfield 187, 3) := by decide +kernel
theorem d_Mo_braces_189 : decode prog_14_method_55_code 189 = .ok (.ifCond .ne 8, 3) := by decide +kernel
theorem d_Mo_braces_192 : decode prog_14_method_55_code 192 = .ok (.lload_n 2, 1) := by decide +kernel
theorem d_Mo_braces_193 : decode prog_14_method_55_code 193 = .ok (.l2i, 1) := by decide +kernel
theorem d_Mo_braces_194 : decode prog_14_method_55_code 194 = .ok (.goto 4, 3) := by decide +kernel
theorem d_Mo_braces_197 : decode prog_14_method_55_code 197 = .ok (.iconst 1, 1) := by decide +kernel
theorem d_Mo_braces_198 : decode prog_14_method_55_code 198 = .ok (.ireturn, 1) := by decide +kernel
abbrev m_Mo_part : cx_M := (⟨"CircuitTextModel", "part", "(I)I"⟩, prog_14_method_54_code, 5, (Option.some Jvm.ClassFile.FieldType.int), [], [false, false])
theorem w_Mo_part : cx_W m_Mo_part := ⟨Or.inl ⟨(in_8 (List.mem_of_getElem? (i := 32) rfl)), rfl⟩, by decide +kernel, by decide, by decide, by decide +kernel⟩
theorem n_Mo_part : (parseMethodDescriptor m_Mo_part.1.desc).map (fun d => d.parameters.length) = some 1 := by decide +kernel
theorem d_Mo_part_0 : decode prog_14_method_54_code 0 = .ok (.aload_n 0, 1) := by decide +kernel
theorem d_Mo_part_1 : decode prog_14_method_54_code 1 = .ok (.getfield 19, 3) := by decide +kernel
theorem d_Mo_part_4 : decode prog_14_method_54_code 4 = .ok (.aload_n 0, 1) := by decide +kernel
theorem d_Mo_part_5 : decode prog_14_method_54_code 5 = .ok (.getfield 193, 3) := by decide +kernel
theorem d_Mo_part_8 : decode prog_14_method_54_code 8 = .ok (.iaload, 1) := by decide +kernel
theorem d_Mo_part_9 : decode prog_14_method_54_code 9 = .ok (.istore_n 2, 1) := by decide +kernel
theorem d_Mo_part_10 : decode prog_14_method_54_code 10 = .ok (.aload_n 0, 1) := by decide +kernel
theorem d_Mo_part_11 : decode prog_14_method_54_code 11 = .ok (.aload_n 0, 1) := by decide +kernel
theorem d_Mo_part_12 : decode prog_14_method_54_code 12 = .ok (.getfield 193, 3) := by decide +kernel
theorem d_Mo_part_15 : decode prog_14_method_54_code 15 = .ok (.iconst 1, 1) := by decide +kernel
theorem d_Mo_part_16 : decode prog_14_method_54_code 16 = .ok (.iadd, 1) := by decide +kernel
theorem d_Mo_part_17 : decode prog_14_method_54_code 17 = .ok (.invokevirtual 316, 3) := by decide +kernel
theorem d_Mo_part_20 : decode prog_14_method_54_code 20 = .ok (.l2i, 1) := by decide +kernel
theorem d_Mo_part_21 : decode prog_14_method_54_code 21 = .ok (.istore_n 3, 1) := by decide +kernel
theorem d_Mo_part_22 : decode prog_14_method_54_code 22 = .ok (.iload_n 3, 1) := by decide +kernel
theorem d_Mo_part_23 : decode prog_14_method_54_code 23 = .ok (.istore 4, 2) := by decide +kernel
theorem d_Mo_part_25 : decode prog_14_method_54_code 25 = .ok (.aload_n 0, 1) := by decide +kernel
theorem d_Mo_part_26 : decode prog_14_method_54_code 26 = .ok (.aload_n 0, 1) := by decide +kernel
theorem d_Mo_part_27 : decode prog_14_method_54_code 27 = .ok (.getfield 193, 3) := by decide +kernel
theorem d_Mo_part_30 : decode prog_14_method_54_code 30 = .ok (.iconst 2, 1) := by decide +kernel
theorem d_Mo_part_31 : decode prog_14_method_54_code 31 = .ok (.iadd, 1) := by decide +kernel
theorem d_Mo_part_32 : decode prog_14_method_54_code 32 = .ok (.putfield 193, 3) := by decide +kernel
theorem d_Mo_part_35 : decode prog_14_method_54_code 35 = .ok (.aload_n 0, 1) := by decide +kernel
theorem d_Mo_part_36 : decode prog_14_method_54_code 36 = .ok (.invokevirtual 216, 3) := by decide +kernel
theorem d_Mo_part_39 : decode prog_14_method_54_code 39 = .ok (.bipush 58, 2) := by decide +kernel
theorem d_Mo_part_41 : decode prog_14_method_54_code 41 = .ok (.if_icmp .ne 26, 3) := by decide +kernel
theorem d_Mo_part_44 : decode prog_14_method_54_code 44 = .ok (.aload_n 0, 1) := by decide +kernel
theorem d_Mo_part_45 : decode prog_14_method_54_code 45 = .ok (.aload_n 0, 1) := by decide +kernel
theorem d_Mo_part_46 : decode prog_14_method_54_code 46 = .ok (.getfield 193, 3) := by decide +kernel
theorem d_Mo_part_49 : decode prog_14_method_54_code 49 = .ok (.iconst 1, 1) := by decide +kernel
theorem d_Mo_part_50 : decode prog_14_method_54_code 50 = .ok (.iadd, 1) := by decide +kernel
theorem d_Mo_part_51 : decode prog_14_method_54_code 51 = .ok (.invokevirtual 316, 3) := by decide +kernel
theorem d_Mo_part_54 : decode prog_14_method_54_code 54 = .ok (.l2i, 1) := by decide +kernel
theorem d_Mo_part_55 : decode prog_14_method_54_code 55 = .ok (.istore 4, 2) := by decide +kernel
theorem d_Mo_part_57 : decode prog_14_method_54_code 57 = .ok (.aload_n 0, 1) := by decide +kernel
theorem d_Mo_part_58 : decode prog_14_method_54_code 58 = .ok (.aload_n 0, 1) := by decide +kernel
theorem d_Mo_part_59 : decode prog_14_method_54_code 59 = .ok (.getfield 193, 3) := by decide +kernel
theorem d_Mo_part_62 : decode prog_14_method_54_code 62 = .ok (.iconst 2, 1) := by decide +kernel
theorem d_Mo_part_63 : decode prog_14_method_54_code 63 = .ok (.iadd, 1) := by decide +kernel
theorem d_Mo_part_64 : decode prog_14_method_54_code 64 = .ok (.putfield 193, 3) := by decide +kernel
theorem d_Mo_part_67 : decode prog_14_method_54_code 67 = .ok (.aload_n 0, 1) := by decide +kernel
theorem d_Mo_part_68 : decode prog_14_method_54_code 68 = .ok (.dup, 1) := by decide +kernel
theorem d_Mo_part_69 : decode prog_14_method_54_code 69 = .ok (.getfield 193, 3) := by decide +kernel
theorem d_Mo_part_72 : decode prog_14_method_54_code 72 = .ok (.iconst 1, 1) := by decide +kernel
theorem d_Mo_part_73 : decode prog_14_method_54_code 73 = .ok (.iadd, 1) := by decide +kernel
theorem d_Mo_part_74 : decode prog_14_method_54_code 74 = .ok (.putfield 193, 3) := by decide +kernel
theorem d_Mo_part_77 : decode prog_14_method_54_code 77 = .ok (.iload_n 3, 1) := by decide +kernel
theorem d_Mo_part_78 : decode prog_14_method_54_code 78 = .ok (.iload 4, 2) := by decide +kernel
theorem d_Mo_part_80 : decode prog_14_method_54_code 80 = .ok (.if_icmp .lt 13, 3) := by decide +kernel
theorem d_Mo_part_83 : decode prog_14_method_54_code 83 = .ok (.iload_n 3, 1) := by decide +kernel
theorem d_Mo_part_84 : decode prog_14_method_54_code 84 = .ok (.aload_n 0, 1) := by decide +kernel
theorem d_Mo_part_85 : decode prog_14_method_54_code 85 = .ok (.getfield 43, 3) := by decide +kernel
theorem d_Mo_part_88 : decode prog_14_method_54_code 88 = .ok (.iload_n 1, 1) := by decide +kernel
theorem d_Mo_part_89 : decode prog_14_method_54_code 89 = .ok (.iaload, 1) := by decide +kernel
theorem d_Mo_part_90 : decode prog_14_method_54_code 90 = .ok (.if_icmp .lt 12, 3) := by decide +kernel
theorem d_Mo_part_93 : decode prog_14_method_54_code 93 = .ok (.aload_n 0, 1) := by decide +kernel
theorem d_Mo_part_94 : decode prog_14_method_54_code 94 = .ok (.bipush 30, 2) := by decide +kernel
theorem d_Mo_part_96 : decode prog_14_method_54_code 96 = .ok (.iload_n 2, 1) := by decide +kernel
theorem d_Mo_part_97 : decode prog_14_method_54_code 97 = .ok (.invokevirtual 196, 3) := by decide +kernel
theorem d_Mo_part_100 : decode prog_14_method_54_code 100 = .ok (.iconst 0, 1) := by decide +kernel
theorem d_Mo_part_101 : decode prog_14_method_54_code 101 = .ok (.ireturn, 1) := by decide +kernel
theorem d_Mo_part_102 : decode prog_14_method_54_code 102 = .ok (.sipush 256, 3) := by decide +kernel
theorem d_Mo_part_105 : decode prog_14_method_54_code 105 = .ok (.iload_n 3, 1) := by decide +kernel
theorem d_Mo_part_106 : decode prog_14_method_54_code 106 = .ok (.imul, 1) := by decide +kernel
theorem d_Mo_part_107 : decode prog_14_method_54_code 107 = .ok (.iload 4, 2) := by decide +kernel
theorem d_Mo_part_109 : decode prog_14_method_54_code 109 = .ok (.iadd, 1) := by decide +kernel
theorem d_Mo_part_110 : decode prog_14_method_54_code 110 = .ok (.ireturn, 1) := by decide +kernel
abbrev m_Mo_cost : cx_M := (⟨"CircuitTextModel", "cost", "(J)V"⟩, prog_14_method_45_code, 3, (Option.none : Option Jvm.ClassFile.FieldType), [], [false, true])
theorem w_Mo_cost : cx_W m_Mo_cost := ⟨Or.inl ⟨(in_8 (List.mem_of_getElem? (i := 36) rfl)), rfl⟩, by decide +kernel, by decide, by decide, by decide +kernel⟩
theorem n_Mo_cost : (parseMethodDescriptor m_Mo_cost.1.desc).map (fun d => d.parameters.length) = some 1 := by decide +kernel
theorem d_Mo_cost_0 : decode prog_14_method_45_code 0 = .ok (.aload_n 0, 1) := by decide +kernel
theorem d_Mo_cost_1 : decode prog_14_method_45_code 1 = .ok (.getfield 101, 3) := by decide +kernel
theorem d_Mo_cost_4 : decode prog_14_method_45_code 4 = .ok (.aload_n 0, 1) := by decide +kernel
theorem d_Mo_cost_5 : decode prog_14_method_45_code 5 = .ok (.getfield 266, 3) := by decide +kernel
theorem d_Mo_cost_8 : decode prog_14_method_45_code 8 = .ok (.aload_n 0, 1) := by decide +kernel
theorem d_Mo_cost_9 : decode prog_14_method_45_code 9 = .ok (.getfield 101, 3) := by decide +kernel
theorem d_Mo_cost_12 : decode prog_14_method_45_code 12 = .ok (.aload_n 0, 1) := by decide +kernel
theorem d_Mo_cost_13 : decode prog_14_method_45_code 13 = .ok (.getfield 266, 3) := by decide +kernel
theorem d_Mo_cost_16 : decode prog_14_method_45_code 16 = .ok (.laload, 1) := by decide +kernel
theorem d_Mo_cost_17 : decode prog_14_method_45_code 17 = .ok (.lload_n 1, 1) := by decide +kernel
theorem d_Mo_cost_18 : decode prog_14_method_45_code 18 = .ok (.ladd, 1) := by decide +kernel
theorem d_Mo_cost_19 : decode prog_14_method_45_code 19 = .ok (.lastore, 1) := by decide +kernel
theorem d_Mo_cost_20 : decode prog_14_method_45_code 20 = .ok (.return_, 1) := by decide +kernel
abbrev m_Mo_pushWidth : cx_M := (⟨"CircuitTextModel", "pushWidth", "(I)V"⟩, prog_14_method_50_code, 2, (Option.none : Option Jvm.ClassFile.FieldType), [], [false, false])
theorem w_Mo_pushWidth : cx_W m_Mo_pushWidth := ⟨Or.inl ⟨(in_8 (List.mem_of_getElem? (i := 40) rfl)), rfl⟩, by decide +kernel, by decide, by decide, by decide +kernel⟩
theorem n_Mo_pushWidth : (parseMethodDescriptor m_Mo_pushWidth.1.desc).map (fun d => d.parameters.length) = some 1 := by decide +kernel
theorem d_Mo_pushWidth_0 : decode prog_14_method_50_code 0 = .ok (.aload_n 0, 1) := by decide +kernel
theorem d_Mo_pushWidth_1 : decode prog_14_method_50_code 1 = .ok (.getfield 110, 3) := by decide +kernel
theorem d_Mo_pushWidth_4 : decode prog_14_method_50_code 4 = .ok (.aload_n 0, 1) := by decide +kernel
theorem d_Mo_pushWidth_5 : decode prog_14_method_50_code 5 = .ok (.getfield 310, 3) := by decide +kernel
theorem d_Mo_pushWidth_8 : decode prog_14_method_50_code 8 = .ok (.iload_n 1, 1) := by decide +kernel
theorem d_Mo_pushWidth_9 : decode prog_14_method_50_code 9 = .ok (.iastore, 1) := by decide +kernel
theorem d_Mo_pushWidth_10 : decode prog_14_method_50_code 10 = .ok (.aload_n 0, 1) := by decide +kernel
theorem d_Mo_pushWidth_11 : decode prog_14_method_50_code 11 = .ok (.dup, 1) := by decide +kernel
theorem d_Mo_pushWidth_12 : decode prog_14_method_50_code 12 = .ok (.getfield 310, 3) := by decide +kernel
theorem d_Mo_pushWidth_15 : decode prog_14_method_50_code 15 = .ok (.iconst 1, 1) := by decide +kernel
theorem d_Mo_pushWidth_16 : decode prog_14_method_50_code 16 = .ok (.iadd, 1) := by decide +kernel
theorem d_Mo_pushWidth_17 : decode prog_14_method_50_code 17 = .ok (.putfield 310, 3) := by decide +kernel
theorem d_Mo_pushWidth_20 : decode prog_14_method_50_code 20 = .ok (.return_, 1) := by decide +kernel
abbrev m_Mo_reckon : cx_M := (⟨"CircuitTextModel", "reckon", "()V"⟩, prog_14_method_51_code, 8, (Option.none : Option Jvm.ClassFile.FieldType), [], [false])
theorem w_Mo_reckon : cx_W m_Mo_reckon := ⟨Or.inl ⟨(in_8 (List.mem_of_getElem? (i := 44) rfl)), rfl⟩, by decide +kernel, by decide, by decide, by decide +kernel⟩
theorem n_Mo_reckon : (parseMethodDescriptor m_Mo_reckon.1.desc).map (fun d => d.parameters.length) = some 0 := by decide +kernel
theorem d_Mo_reckon_0 : decode prog_14_method_51_code 0 = .ok (.aload_n 0, 1) := by decide +kernel
theorem d_Mo_reckon_1 : decode prog_14_method_51_code 1 = .ok (.dup, 1) := by decide +kernel
theorem d_Mo_reckon_2 : decode prog_14_method_51_code 2 = .ok (.getfield 298, 3) := by decide +kernel
theorem d_Mo_reckon_5 : decode prog_14_method_51_code 5 = .ok (.iconst 1, 1) := by decide +kernel
theorem d_Mo_reckon_6 : decode prog_14_method_51_code 6 = .ok (.isub, 1) := by decide +kernel
theorem d_Mo_reckon_7 : decode prog_14_method_51_code 7 = .ok (.putfield 298, 3) := by decide +kernel
theorem d_Mo_reckon_10 : decode prog_14_method_51_code 10 = .ok (.aload_n 0, 1) := by decide +kernel
theorem d_Mo_reckon_11 : decode prog_14_method_51_code 11 = .ok (.getfield 104, 3) := by decide +kernel
theorem d_Mo_reckon_14 : decode prog_14_method_51_code 14 = .ok (.aload_n 0, 1) := by decide +kernel
theorem d_Mo_reckon_15 : decode prog_14_method_51_code 15 = .ok (.getfield 298, 3) := by decide +kernel
theorem d_Mo_reckon_18 : decode prog_14_method_51_code 18 = .ok (.iaload, 1) := by decide +kernel
theorem d_Mo_reckon_19 : decode prog_14_method_51_code 19 = .ok (.istore_n 1, 1) := by decide +kernel
theorem d_Mo_reckon_20 : decode prog_14_method_51_code 20 = .ok (.aload_n 0, 1) := by decide +kernel
theorem d_Mo_reckon_21 : decode prog_14_method_51_code 21 = .ok (.dup, 1) := by decide +kernel
theorem d_Mo_reckon_22 : decode prog_14_method_51_code 22 = .ok (.getfield 310, 3) := by decide +kernel
theorem d_Mo_reckon_25 : decode prog_14_method_51_code 25 = .ok (.iconst 1, 1) := by decide +kernel
theorem d_Mo_reckon_26 : decode prog_14_method_51_code 26 = .ok (.isub, 1) := by decide +kernel
theorem d_Mo_reckon_27 : decode prog_14_method_51_code 27 = .ok (.putfield 310, 3) := by decide +kernel
theorem d_Mo_reckon_30 : decode prog_14_method_51_code 30 = .ok (.aload_n 0, 1) := by decide +kernel
theorem d_Mo_reckon_31 : decode prog_14_method_51_code 31 = .ok (.getfield 110, 3) := by decide +kernel
theorem d_Mo_reckon_34 : decode prog_14_method_51_code 34 = .ok (.aload_n 0, 1) := by decide +kernel
theorem d_Mo_reckon_35 : decode prog_14_method_51_code 35 = .ok (.getfield 310, 3) := by decide +kernel
theorem d_Mo_reckon_38 : decode prog_14_method_51_code 38 = .ok (.iaload, 1) := by decide +kernel
theorem d_Mo_reckon_39 : decode prog_14_method_51_code 39 = .ok (.istore_n 2, 1) := by decide +kernel
theorem d_Mo_reckon_40 : decode prog_14_method_51_code 40 = .ok (.aload_n 0, 1) := by decide +kernel
theorem d_Mo_reckon_41 : decode prog_14_method_51_code 41 = .ok (.getfield 110, 3) := by decide +kernel
theorem d_Mo_reckon_44 : decode prog_14_method_51_code 44 = .ok (.aload_n 0, 1) := by decide +kernel
theorem d_Mo_reckon_45 : decode prog_14_method_51_code 45 = .ok (.getfield 310, 3) := by decide +kernel
theorem d_Mo_reckon_48 : decode prog_14_method_51_code 48 = .ok (.iconst 1, 1) := by decide +kernel
theorem d_Mo_reckon_49 : decode prog_14_method_51_code 49 = .ok (.isub, 1) := by decide +kernel
theorem d_Mo_reckon_50 : decode prog_14_method_51_code 50 = .ok (.iaload, 1) := by decide +kernel
theorem d_Mo_reckon_51 : decode prog_14_method_51_code 51 = .ok (.istore_n 3, 1) := by decide +kernel
theorem d_Mo_reckon_52 : decode prog_14_method_51_code 52 = .ok (.iload_n 1, 1) := by decide +kernel
theorem d_Mo_reckon_53 : decode prog_14_method_51_code 53 = .ok (.invokestatic 220, 3) := by decide +kernel
theorem d_Mo_reckon_56 : decode prog_14_method_51_code 56 = .ok (.istore 4, 2) := by decide +kernel
theorem d_Mo_reckon_58 : decode prog_14_method_51_code 58 = .ok (.iload 4, 2) := by decide +kernel
theorem d_Mo_reckon_60 : decode prog_14_method_51_code 60 = .ok (.iconst 3, 1) := by decide +kernel
theorem d_Mo_reckon_61 : decode prog_14_method_51_code 61 = .ok (.if_icmp .lt 10, 3) := by decide +kernel
theorem d_Mo_reckon_64 : decode prog_14_method_51_code 64 = .ok (.iload 4, 2) := by decide +kernel
theorem d_Mo_reckon_66 : decode prog_14_method_51_code 66 = .ok (.bipush 8, 2) := by decide +kernel
theorem d_Mo_reckon_68 : decode prog_14_method_51_code 68 = .ok (.if_icmp .ne 7, 3) := by decide +kernel
theorem d_Mo_reckon_71 : decode prog_14_method_51_code 71 = .ok (.iconst 1, 1) := by decide +kernel
theorem d_Mo_reckon_72 : decode prog_14_method_51_code 72 = .ok (.goto 4, 3) := by decide +kernel
theorem d_Mo_reckon_75 : decode prog_14_method_51_code 75 = .ok (.iconst 0, 1) := by decide +kernel
theorem d_Mo_reckon_76 : decode prog_14_method_51_code 76 = .ok (.istore 5, 2) := by decide +kernel
theorem d_Mo_reckon_78 : decode prog_14_method_51_code 78 = .ok (.aload_n 0, 1) := by decide +kernel
theorem d_Mo_reckon_79 : decode prog_14_method_51_code 79 = .ok (.getfield 187, 3) := by decide +kernel
theorem d_Mo_reckon_82 : decode prog_14_method_51_code 82 = .ok (.ifCond .ne 28, 3) := by decide +kernel
theorem d_Mo_reckon_85 : decode prog_14_method_51_code 85 = .ok (.iload 5, 2) := by decide +kernel
theorem d_Mo_reckon_87 : decode prog_14_method_51_code 87 = .ok (.ifCond .ne 23, 3) := by decide +kernel
theorem d_Mo_reckon_90 : decode prog_14_method_51_code 90 = .ok (.iload_n 3, 1) := by decide +kernel
theorem d_Mo_reckon_91 : decode prog_14_method_51_code 91 = .ok (.iload_n 2, 1) := by decide +kernel
theorem d_Mo_reckon_92 : decode prog_14_method_51_code 92 = .ok (.if_icmp .eq 18, 3) := by decide +kernel
theorem d_Mo_reckon_95 : decode prog_14_method_51_code 95 = .ok (.aload_n 0, 1) := by decide +kernel
theorem d_Mo_reckon_96 : decode prog_14_method_51_code 96 = .ok (.bipush 30, 2) := by decide +kernel
theorem d_Mo_reckon_98 : decode prog_14_method_51_code 98 = .ok (.aload_n 0, 1) := by decide +kernel
theorem d_Mo_reckon_99 : decode prog_14_method_51_code 99 = .ok (.getfield 107, 3) := by decide +kernel
theorem d_Mo_reckon_102 : decode prog_14_method_51_code 102 = .ok (.aload_n 0, 1) := by decide +kernel
theorem d_Mo_reckon_103 : decode prog_14_method_51_code 103 = .ok (.getfield 298, 3) := by decide +kernel
theorem d_Mo_reckon_106 : decode prog_14_method_51_code 106 = .ok (.iaload, 1) := by decide +kernel
theorem d_Mo_reckon_107 : decode prog_14_method_51_code 107 = .ok (.invokevirtual 196, 3) := by decide +kernel
theorem d_Mo_reckon_110 : decode prog_14_method_51_code 110 = .ok (.iload_n 3, 1) := by decide +kernel
theorem d_Mo_reckon_111 : decode prog_14_method_51_code 111 = .ok (.iload_n 2, 1) := by decide +kernel
theorem d_Mo_reckon_112 : decode prog_14_method_51_code 112 = .ok (.if_icmp .le 7, 3) := by decide +kernel
theorem d_Mo_reckon_115 : decode prog_14_method_51_code 115 = .ok (.iload_n 3, 1) := by decide +kernel
theorem d_Mo_reckon_116 : decode prog_14_method_51_code 116 = .ok (.goto 4, 3) := by decide +kernel
theorem d_Mo_reckon_119 : decode prog_14_method_51_code 119 = .ok (.iload_n 2, 1) := by decide +kernel
theorem d_Mo_reckon_120 : decode prog_14_method_51_code 120 = .ok (.istore 6, 2) := by decide +kernel
theorem d_Mo_reckon_122 : decode prog_14_method_51_code 122 = .ok (.aload_n 0, 1) := by decide +kernel
theorem d_Mo_reckon_123 : decode prog_14_method_51_code 123 = .ok (.iload 4, 2) := by decide +kernel
theorem d_Mo_reckon_125 : decode prog_14_method_51_code 125 = .ok (.bipush 8, 2) := by decide +kernel
theorem d_Mo_reckon_127 : decode prog_14_method_51_code 127 = .ok (.if_icmp .ne 12, 3) := by decide +kernel
theorem d_Mo_reckon_130 : decode prog_14_method_51_code 130 = .ok (.iconst 3, 1) := by decide +kernel
theorem d_Mo_reckon_131 : decode prog_14_method_51_code 131 = .ok (.iload_n 3, 1) := by decide +kernel
theorem d_Mo_reckon_132 : decode prog_14_method_51_code 132 = .ok (.imul, 1) := by decide +kernel
theorem d_Mo_reckon_133 : decode prog_14_method_51_code 133 = .ok (.iload_n 2, 1) := by decide +kernel
theorem d_Mo_reckon_134 : decode prog_14_method_51_code 134 = .ok (.iadd, 1) := by decide +kernel
theorem d_Mo_reckon_135 : decode prog_14_method_51_code 135 = .ok (.i2l, 1) := by decide +kernel
theorem d_Mo_reckon_136 : decode prog_14_method_51_code 136 = .ok (.goto 19, 3) := by decide +kernel
theorem d_Mo_reckon_139 : decode prog_14_method_51_code 139 = .ok (.iload_n 1, 1) := by decide +kernel
theorem d_Mo_reckon_140 : decode prog_14_method_51_code 140 = .ok (.bipush 42, 2) := by decide +kernel
theorem d_Mo_reckon_142 : decode prog_14_method_51_code 142 = .ok (.if_icmp .ne 10, 3) := by decide +kernel
theorem d_Mo_reckon_145 : decode prog_14_method_51_code 145 = .ok (.iload_n 3, 1) := by decide +kernel
theorem d_Mo_reckon_146 : decode prog_14_method_51_code 146 = .ok (.iload_n 3, 1) := by decide +kernel
theorem d_Mo_reckon_147 : decode prog_14_method_51_code 147 = .ok (.imul, 1) := by decide +kernel
theorem d_Mo_reckon_148 : decode prog_14_method_51_code 148 = .ok (.i2l, 1) := by decide +kernel
theorem d_Mo_reckon_149 : decode prog_14_method_51_code 149 = .ok (.goto 6, 3) := by decide +kernel
theorem d_Mo_reckon_152 : decode prog_14_method_51_code 152 = .ok (.iload 6, 2) := by decide +kernel
theorem d_Mo_reckon_154 : decode prog_14_method_51_code 154 = .ok (.i2l, 1) := by decide +kernel
theorem d_Mo_reckon_155 : decode prog_14_method_51_code 155 = .ok (.invokevirtual 291, 3) := by decide +kernel
theorem d_Mo_reckon_158 : decode prog_14_method_51_code 158 = .ok (.iload 4, 2) := by decide +kernel
theorem d_Mo_reckon_160 : decode prog_14_method_51_code 160 = .ok (.iconst 3, 1) := by decide +kernel
theorem d_Mo_reckon_161 : decode prog_14_method_51_code 161 = .ok (.if_icmp .lt 17, 3) := by decide +kernel
theorem d_Mo_reckon_164 : decode prog_14_method_51_code 164 = .ok (.iload 4, 2) := by decide +kernel
theorem d_Mo_reckon_166 : decode prog_14_method_51_code 166 = .ok (.bipush 6, 2) := by decide +kernel
theorem d_Mo_reckon_168 : decode prog_14_method_51_code 168 = .ok (.if_icmp .eq 10, 3) := by decide +kernel
theorem d_Mo_reckon_171 : decode prog_14_method_51_code 171 = .ok (.iload 4, 2) := by decide +kernel
theorem d_Mo_reckon_173 : decode prog_14_method_51_code 173 = .ok (.bipush 7, 2) := by decide +kernel
theorem d_Mo_reckon_175 : decode prog_14_method_51_code 175 = .ok (.if_icmp .ne 7, 3) := by decide +kernel
theorem d_Mo_reckon_178 : decode prog_14_method_51_code 178 = .ok (.iconst 1, 1) := by decide +kernel
theorem d_Mo_reckon_179 : decode prog_14_method_51_code 179 = .ok (.goto 4, 3) := by decide +kernel
theorem d_Mo_reckon_182 : decode prog_14_method_51_code 182 = .ok (.iload_n 3, 1) := by decide +kernel
theorem d_Mo_reckon_183 : decode prog_14_method_51_code 183 = .ok (.istore 7, 2) := by decide +kernel
theorem d_Mo_reckon_185 : decode prog_14_method_51_code 185 = .ok (.aload_n 0, 1) := by decide +kernel
theorem d_Mo_reckon_186 : decode prog_14_method_51_code 186 = .ok (.getfield 110, 3) := by decide +kernel
theorem d_Mo_reckon_189 : decode prog_14_method_51_code 189 = .ok (.aload_n 0, 1) := by decide +kernel
theorem d_Mo_reckon_190 : decode prog_14_method_51_code 190 = .ok (.getfield 310, 3) := by decide +kernel
theorem d_Mo_reckon_193 : decode prog_14_method_51_code 193 = .ok (.iconst 1, 1) := by decide +kernel
theorem d_Mo_reckon_194 : decode prog_14_method_51_code 194 = .ok (.isub, 1) := by decide +kernel
theorem d_Mo_reckon_195 : decode prog_14_method_51_code 195 = .ok (.iload 7, 2) := by decide +kernel
theorem d_Mo_reckon_197 : decode prog_14_method_51_code 197 = .ok (.iastore, 1) := by decide +kernel
theorem d_Mo_reckon_198 : decode prog_14_method_51_code 198 = .ok (.aload_n 0, 1) := by decide +kernel
theorem d_Mo_reckon_199 : decode prog_14_method_51_code 199 = .ok (.iconst 5, 1) := by decide +kernel
theorem d_Mo_reckon_200 : decode prog_14_method_51_code 200 = .ok (.iload_n 1, 1) := by decide +kernel
theorem d_Mo_reckon_201 : decode prog_14_method_51_code 201 = .ok (.iload 7, 2) := by decide +kernel
theorem d_Mo_reckon_203 : decode prog_14_method_51_code 203 = .ok (.invokevirtual 295, 3) := by decide +kernel
theorem d_Mo_reckon_206 : decode prog_14_method_51_code 206 = .ok (.return_, 1) := by decide +kernel
abbrev m_Mo_statement : cx_M := (⟨"CircuitTextModel", "statement", "()V"⟩, prog_14_method_62_code, 3, (Option.none : Option Jvm.ClassFile.FieldType), [], [false])
theorem w_Mo_statement : cx_W m_Mo_statement := ⟨Or.inl ⟨(in_8 (List.mem_of_getElem? (i := 48) rfl)), rfl⟩, by decide +kernel, by decide, by decide, by decide +kernel⟩
theorem n_Mo_statement : (parseMethodDescriptor m_Mo_statement.1.desc).map (fun d => d.parameters.length) = some 0 := by decide +kernel
theorem d_Mo_statement_0 : decode prog_14_method_62_code 0 = .ok (.aload_n 0, 1) := by decide +kernel
theorem d_Mo_statement_1 : decode prog_14_method_62_code 1 = .ok (.getfield 187, 3) := by decide +kernel
theorem d_Mo_statement_4 : decode prog_14_method_62_code 4 = .ok (.ifCond .eq 4, 3) := by decide +kernel
theorem d_Mo_statement_7 : decode prog_14_method_62_code 7 = .ok (.return_, 1) := by decide +kernel
theorem d_Mo_statement_8 : decode prog_14_method_62_code 8 = .ok (.aload_n 0, 1) := by decide +kernel
theorem d_Mo_statement_9 : decode prog_14_method_62_code 9 = .ok (.invokevirtual 216, 3) := by decide +kernel
theorem d_Mo_statement_12 : decode prog_14_method_62_code 12 = .ok (.sipush 310, 3) := by decide +kernel
theorem d_Mo_statement_15 : decode prog_14_method_62_code 15 = .ok (.if_icmp .ne 50, 3) := by decide +kernel
theorem d_Mo_statement_18 : decode prog_14_method_62_code 18 = .ok (.aload_n 0, 1) := by decide +kernel
theorem d_Mo_statement_19 : decode prog_14_method_62_code 19 = .ok (.dup, 1) := by decide +kernel
theorem d_Mo_statement_20 : decode prog_14_method_62_code 20 = .ok (.getfield 193, 3) := by decide +kernel
theorem d_Mo_statement_23 : decode prog_14_method_62_code 23 = .ok (.iconst 1, 1) := by decide +kernel
theorem d_Mo_statement_24 : decode prog_14_method_62_code 24 = .ok (.iadd, 1) := by decide +kernel
theorem d_Mo_statement_25 : decode prog_14_method_62_code 25 = .ok (.putfield 193, 3) := by decide +kernel
theorem d_Mo_statement_28 : decode prog_14_method_62_code 28 = .ok (.aload_n 0, 1) := by decide +kernel
theorem d_Mo_statement_29 : decode prog_14_method_62_code 29 = .ok (.getfield 187, 3) := by decide +kernel
theorem d_Mo_statement_32 : decode prog_14_method_62_code 32 = .ok (.ifCond .ne 20, 3) := by decide +kernel
theorem d_Mo_statement_35 : decode prog_14_method_62_code 35 = .ok (.aload_n 0, 1) := by decide +kernel
theorem d_Mo_statement_36 : decode prog_14_method_62_code 36 = .ok (.invokevirtual 216, 3) := by decide +kernel
theorem d_Mo_statement_39 : decode prog_14_method_62_code 39 = .ok (.sipush 311, 3) := by decide +kernel
theorem d_Mo_statement_42 : decode prog_14_method_62_code 42 = .ok (.if_icmp .eq 10, 3) := by decide +kernel
theorem d_Mo_statement_45 : decode prog_14_method_62_code 45 = .ok (.aload_n 0, 1) := by decide +kernel
theorem d_Mo_statement_46 : decode prog_14_method_62_code 46 = .ok (.invokevirtual 350, 3) := by decide +kernel
theorem d_Mo_statement_49 : decode prog_14_method_62_code 49 = .ok (.goto (-21), 3) := by decide +kernel
theorem d_Mo_statement_52 : decode prog_14_method_62_code 52 = .ok (.aload_n 0, 1) := by decide +kernel
theorem d_Mo_statement_53 : decode prog_14_method_62_code 53 = .ok (.dup, 1) := by decide +kernel
theorem d_Mo_statement_54 : decode prog_14_method_62_code 54 = .ok (.getfield 193, 3) := by decide +kernel
theorem d_Mo_statement_57 : decode prog_14_method_62_code 57 = .ok (.iconst 1, 1) := by decide +kernel
theorem d_Mo_statement_58 : decode prog_14_method_62_code 58 = .ok (.iadd, 1) := by decide +kernel
theorem d_Mo_statement_59 : decode prog_14_method_62_code 59 = .ok (.putfield 193, 3) := by decide +kernel
theorem d_Mo_statement_62 : decode prog_14_method_62_code 62 = .ok (.goto 159, 3) := by decide +kernel
theorem d_Mo_statement_65 : decode prog_14_method_62_code 65 = .ok (.aload_n 0, 1) := by decide +kernel
theorem d_Mo_statement_66 : decode prog_14_method_62_code 66 = .ok (.invokevirtual 216, 3) := by decide +kernel
theorem d_Mo_statement_69 : decode prog_14_method_62_code 69 = .ok (.sipush 312, 3) := by decide +kernel
theorem d_Mo_statement_72 : decode prog_14_method_62_code 72 = .ok (.if_icmp .ne 128, 3) := by decide +kernel
theorem d_Mo_statement_75 : decode prog_14_method_62_code 75 = .ok (.aload_n 0, 1) := by decide +kernel
theorem d_Mo_statement_76 : decode prog_14_method_62_code 76 = .ok (.aload_n 0, 1) := by decide +kernel
theorem d_Mo_statement_77 : decode prog_14_method_62_code 77 = .ok (.getfield 193, 3) := by decide +kernel
theorem d_Mo_statement_80 : decode prog_14_method_62_code 80 = .ok (.iconst 2, 1) := by decide +kernel
theorem d_Mo_statement_81 : decode prog_14_method_62_code 81 = .ok (.iadd, 1) := by decide +kernel
theorem d_Mo_statement_82 : decode prog_14_method_62_code 82 = .ok (.putfield 193, 3) := by decide +kernel
theorem d_Mo_statement_85 : decode prog_14_method_62_code 85 = .ok (.aload_n 0, 1) := by decide +kernel
theorem d_Mo_statement_86 : decode prog_14_method_62_code 86 = .ok (.aload_n 0, 1) := by decide +kernel
theorem d_Mo_statement_87 : decode prog_14_method_62_code 87 = .ok (.invokevirtual 288, 3) := by decide +kernel
theorem d_Mo_statement_90 : decode prog_14_method_62_code 90 = .ok (.i2l, 1) := by decide +kernel
theorem d_Mo_statement_91 : decode prog_14_method_62_code 91 = .ok (.invokevirtual 291, 3) := by decide +kernel
theorem d_Mo_statement_94 : decode prog_14_method_62_code 94 = .ok (.aload_n 0, 1) := by decide +kernel
theorem d_Mo_statement_95 : decode prog_14_method_62_code 95 = .ok (.dup, 1) := by decide +kernel
theorem d_Mo_statement_96 : decode prog_14_method_62_code 96 = .ok (.getfield 193, 3) := by decide +kernel
theorem d_Mo_statement_99 : decode prog_14_method_62_code 99 = .ok (.iconst 1, 1) := by decide +kernel
theorem d_Mo_statement_100 : decode prog_14_method_62_code 100 = .ok (.iadd, 1) := by decide +kernel
theorem d_Mo_statement_101 : decode prog_14_method_62_code 101 = .ok (.putfield 193, 3) := by decide +kernel
theorem d_Mo_statement_104 : decode prog_14_method_62_code 104 = .ok (.aload_n 0, 1) := by decide +kernel
theorem d_Mo_statement_105 : decode prog_14_method_62_code 105 = .ok (.getfield 279, 3) := by decide +kernel
theorem d_Mo_statement_108 : decode prog_14_method_62_code 108 = .ok (.istore_n 1, 1) := by decide +kernel
theorem d_Mo_statement_109 : decode prog_14_method_62_code 109 = .ok (.aload_n 0, 1) := by decide +kernel
theorem d_Mo_statement_110 : decode prog_14_method_62_code 110 = .ok (.bipush 10, 2) := by decide +kernel
theorem d_Mo_statement_112 : decode prog_14_method_62_code 112 = .ok (.iconst 0, 1) := by decide +kernel
theorem d_Mo_statement_113 : decode prog_14_method_62_code 113 = .ok (.iconst 0, 1) := by decide +kernel
theorem d_Mo_statement_114 : decode prog_14_method_62_code 114 = .ok (.invokevirtual 295, 3) := by decide +kernel
theorem d_Mo_statement_117 : decode prog_14_method_62_code 117 = .ok (.aload_n 0, 1) := by decide +kernel
theorem d_Mo_statement_118 : decode prog_14_method_62_code 118 = .ok (.invokevirtual 350, 3) := by decide +kernel
theorem d_Mo_statement_121 : decode prog_14_method_62_code 121 = .ok (.aload_n 0, 1) := by decide +kernel
theorem d_Mo_statement_122 : decode prog_14_method_62_code 122 = .ok (.sipush 313, 3) := by decide +kernel
theorem d_Mo_statement_125 : decode prog_14_method_62_code 125 = .ok (.invokevirtual 203, 3) := by decide +kernel
theorem d_Mo_statement_128 : decode prog_14_method_62_code 128 = .ok (.ifCond .eq 57, 3) := by decide +kernel
theorem d_Mo_statement_131 : decode prog_14_method_62_code 131 = .ok (.aload_n 0, 1) := by decide +kernel
theorem d_Mo_statement_132 : decode prog_14_method_62_code 132 = .ok (.dup, 1) := by decide +kernel
theorem d_Mo_statement_133 : decode prog_14_method_62_code 133 = .ok (.getfield 193, 3) := by decide +kernel
theorem d_Mo_statement_136 : decode prog_14_method_62_code 136 = .ok (.iconst 1, 1) := by decide +kernel
theorem d_Mo_statement_137 : decode prog_14_method_62_code 137 = .ok (.iadd, 1) := by decide +kernel
theorem d_Mo_statement_138 : decode prog_14_method_62_code 138 = .ok (.putfield 193, 3) := by decide +kernel
theorem d_Mo_statement_141 : decode prog_14_method_62_code 141 = .ok (.aload_n 0, 1) := by decide +kernel
theorem d_Mo_statement_142 : decode prog_14_method_62_code 142 = .ok (.getfield 279, 3) := by decide +kernel
theorem d_Mo_statement_145 : decode prog_14_method_62_code 145 = .ok (.istore_n 2, 1) := by decide +kernel
theorem d_Mo_statement_146 : decode prog_14_method_62_code 146 = .ok (.aload_n 0, 1) := by decide +kernel
theorem d_Mo_statement_147 : decode prog_14_method_62_code 147 = .ok (.bipush 11, 2) := by decide +kernel
theorem d_Mo_statement_149 : decode prog_14_method_62_code 149 = .ok (.iconst 0, 1) := by decide +kernel
theorem d_Mo_statement_150 : decode prog_14_method_62_code 150 = .ok (.iconst 0, 1) := by decide +kernel
theorem d_Mo_statement_151 : decode prog_14_method_62_code 151 = .ok (.invokevirtual 295, 3) := by decide +kernel
theorem d_Mo_statement_154 : decode prog_14_method_62_code 154 = .ok (.aload_n 0, 1) := by decide +kernel
theorem d_Mo_statement_155 : decode prog_14_method_62_code 155 = .ok (.getfield 95, 3) := by decide +kernel
theorem d_Mo_statement_158 : decode prog_14_method_62_code 158 = .ok (.iload_n 1, 1) := by decide +kernel
theorem d_Mo_statement_159 : decode prog_14_method_62_code 159 = .ok (.iconst 1, 1) := by decide +kernel
theorem d_Mo_statement_160 : decode prog_14_method_62_code 160 = .ok (.iadd, 1) := by decide +kernel
theorem d_Mo_statement_161 : decode prog_14_method_62_code 161 = .ok (.aload_n 0, 1) := by decide +kernel
theorem d_Mo_statement_162 : decode prog_14_method_62_code 162 = .ok (.getfield 279, 3) := by decide +kernel
theorem d_Mo_statement_165 : decode prog_14_method_62_code 165 = .ok (.iastore, 1) := by decide +kernel
theorem d_Mo_statement_166 : decode prog_14_method_62_code 166 = .ok (.aload_n 0, 1) := by decide +kernel
theorem d_Mo_statement_167 : decode prog_14_method_62_code 167 = .ok (.invokevirtual 350, 3) := by decide +kernel
theorem d_Mo_statement_170 : decode prog_14_method_62_code 170 = .ok (.aload_n 0, 1) := by decide +kernel
theorem d_Mo_statement_171 : decode prog_14_method_62_code 171 = .ok (.getfield 95, 3) := by decide +kernel
theorem d_Mo_statement_174 : decode prog_14_method_62_code 174 = .ok (.iload_n 2, 1) := by decide +kernel
theorem d_Mo_statement_175 : decode prog_14_method_62_code 175 = .ok (.iconst 1, 1) := by decide +kernel
theorem d_Mo_statement_176 : decode prog_14_method_62_code 176 = .ok (.iadd, 1) := by decide +kernel
theorem d_Mo_statement_177 : decode prog_14_method_62_code 177 = .ok (.aload_n 0, 1) := by decide +kernel
theorem d_Mo_statement_178 : decode prog_14_method_62_code 178 = .ok (.getfield 279, 3) := by decide +kernel
theorem d_Mo_statement_181 : decode prog_14_method_62_code 181 = .ok (.iastore, 1) := by decide +kernel
theorem d_Mo_statement_182 : decode prog_14_method_62_code 182 = .ok (.goto 15, 3) := by decide +kernel
theorem d_Mo_statement_185 : decode prog_14_method_62_code 185 = .ok (.aload_n 0, 1) := by decide +kernel
theorem d_Mo_statement_186 : decode prog_14_method_62_code 186 = .ok (.getfield 95, 3) := by decide +kernel
theorem d_Mo_statement_189 : decode prog_14_method_62_code 189 = .ok (.iload_n 1, 1) := by decide +kernel
theorem d_Mo_statement_190 : decode prog_14_method_62_code 190 = .ok (.iconst 1, 1) := by decide +kernel
theorem d_Mo_statement_191 : decode prog_14_method_62_code 191 = .ok (.iadd, 1) := by decide +kernel
theorem d_Mo_statement_192 : decode prog_14_method_62_code 192 = .ok (.aload_n 0, 1) := by decide +kernel
theorem d_Mo_statement_193 : decode prog_14_method_62_code 193 = .ok (.getfield 279, 3) := by decide +kernel
theorem d_Mo_statement_196 : decode prog_14_method_62_code 196 = .ok (.iastore, 1) := by decide +kernel
theorem d_Mo_statement_197 : decode prog_14_method_62_code 197 = .ok (.goto 24, 3) := by decide +kernel
theorem d_Mo_statement_200 : decode prog_14_method_62_code 200 = .ok (.aload_n 0, 1) := by decide +kernel
theorem d_Mo_statement_201 : decode prog_14_method_62_code 201 = .ok (.invokevirtual 216, 3) := by decide +kernel
theorem d_Mo_statement_204 : decode prog_14_method_62_code 204 = .ok (.sipush 314, 3) := by decide +kernel
theorem d_Mo_statement_207 : decode prog_14_method_62_code 207 = .ok (.if_icmp .ne 10, 3) := by decide +kernel
theorem d_Mo_statement_210 : decode prog_14_method_62_code 210 = .ok (.aload_n 0, 1) := by decide +kernel
theorem d_Mo_statement_211 : decode prog_14_method_62_code 211 = .ok (.invokevirtual 353, 3) := by decide +kernel
theorem d_Mo_statement_214 : decode prog_14_method_62_code 214 = .ok (.goto 7, 3) := by decide +kernel
theorem d_Mo_statement_217 : decode prog_14_method_62_code 217 = .ok (.aload_n 0, 1) := by decide +kernel
theorem d_Mo_statement_218 : decode prog_14_method_62_code 218 = .ok (.invokevirtual 356, 3) := by decide +kernel
theorem d_Mo_statement_221 : decode prog_14_method_62_code 221 = .ok (.return_, 1) := by decide +kernel
abbrev m_Mo_caseOf : cx_M := (⟨"CircuitTextModel", "caseOf", "()V"⟩, prog_14_method_63_code, 6, (Option.none : Option Jvm.ClassFile.FieldType), [], [false])
theorem w_Mo_caseOf : cx_W m_Mo_caseOf := ⟨Or.inl ⟨(in_8 (List.mem_of_getElem? (i := 52) rfl)), rfl⟩, by decide +kernel, by decide, by decide, by decide +kernel⟩
theorem n_Mo_caseOf : (parseMethodDescriptor m_Mo_caseOf.1.desc).map (fun d => d.parameters.length) = some 0 := by decide +kernel
theorem d_Mo_caseOf_0 : decode prog_14_method_63_code 0 = .ok (.aload_n 0, 1) := by decide +kernel
theorem d_Mo_caseOf_1 : decode prog_14_method_63_code 1 = .ok (.aload_n 0, 1) := by decide +kernel
theorem d_Mo_caseOf_2 : decode prog_14_method_63_code 2 = .ok (.getfield 193, 3) := by decide +kernel
theorem d_Mo_caseOf_5 : decode prog_14_method_63_code 5 = .ok (.iconst 2, 1) := by decide +kernel
theorem d_Mo_caseOf_6 : decode prog_14_method_63_code 6 = .ok (.iadd, 1) := by decide +kernel
theorem d_Mo_caseOf_7 : decode prog_14_method_63_code 7 = .ok (.putfield 193, 3) := by decide +kernel
theorem d_Mo_caseOf_10 : decode prog_14_method_63_code 10 = .ok (.aload_n 0, 1) := by decide +kernel
theorem d_Mo_caseOf_11 : decode prog_14_method_63_code 11 = .ok (.invokevirtual 288, 3) := by decide +kernel
theorem d_Mo_caseOf_14 : decode prog_14_method_63_code 14 = .ok (.istore_n 1, 1) := by decide +kernel
theorem d_Mo_caseOf_15 : decode prog_14_method_63_code 15 = .ok (.aload_n 0, 1) := by decide +kernel
theorem d_Mo_caseOf_16 : decode prog_14_method_63_code 16 = .ok (.dup, 1) := by decide +kernel
theorem d_Mo_caseOf_17 : decode prog_14_method_63_code 17 = .ok (.getfield 193, 3) := by decide +kernel
theorem d_Mo_caseOf_20 : decode prog_14_method_63_code 20 = .ok (.iconst 1, 1) := by decide +kernel
theorem d_Mo_caseOf_21 : decode prog_14_method_63_code 21 = .ok (.iadd, 1) := by decide +kernel
theorem d_Mo_caseOf_22 : decode prog_14_method_63_code 22 = .ok (.putfield 193, 3) := by decide +kernel
theorem d_Mo_caseOf_25 : decode prog_14_method_63_code 25 = .ok (.iconst (-1), 1) := by decide +kernel
theorem d_Mo_caseOf_26 : decode prog_14_method_63_code 26 = .ok (.istore_n 2, 1) := by decide +kernel
theorem d_Mo_caseOf_27 : decode prog_14_method_63_code 27 = .ok (.aload_n 0, 1) := by decide +kernel
theorem d_Mo_caseOf_28 : decode prog_14_method_63_code 28 = .ok (.sipush 402, 3) := by decide +kernel
theorem d_Mo_caseOf_31 : decode prog_14_method_63_code 31 = .ok (.invokevirtual 203, 3) := by decide +kernel
theorem d_Mo_caseOf_34 : decode prog_14_method_63_code 34 = .ok (.ifCond .eq 180, 3) := by decide +kernel
theorem d_Mo_caseOf_37 : decode prog_14_method_63_code 37 = .ok (.iconst (-1), 1) := by decide +kernel
theorem d_Mo_caseOf_38 : decode prog_14_method_63_code 38 = .ok (.istore_n 3, 1) := by decide +kernel
theorem d_Mo_caseOf_39 : decode prog_14_method_63_code 39 = .ok (.iconst 1, 1) := by decide +kernel
theorem d_Mo_caseOf_40 : decode prog_14_method_63_code 40 = .ok (.istore 4, 2) := by decide +kernel
theorem d_Mo_caseOf_42 : decode prog_14_method_63_code 42 = .ok (.iload 4, 2) := by decide +kernel
theorem d_Mo_caseOf_44 : decode prog_14_method_63_code 44 = .ok (.ifCond .eq 108, 3) := by decide +kernel
theorem d_Mo_caseOf_47 : decode prog_14_method_63_code 47 = .ok (.aload_n 0, 1) := by decide +kernel
theorem d_Mo_caseOf_48 : decode prog_14_method_63_code 48 = .ok (.getfield 187, 3) := by decide +kernel
theorem d_Mo_caseOf_51 : decode prog_14_method_63_code 51 = .ok (.ifCond .ne 101, 3) := by decide +kernel
theorem d_Mo_caseOf_54 : decode prog_14_method_63_code 54 = .ok (.aload_n 0, 1) := by decide +kernel
theorem d_Mo_caseOf_55 : decode prog_14_method_63_code 55 = .ok (.aload_n 0, 1) := by decide +kernel
theorem d_Mo_caseOf_56 : decode prog_14_method_63_code 56 = .ok (.getfield 193, 3) := by decide +kernel
theorem d_Mo_caseOf_59 : decode prog_14_method_63_code 59 = .ok (.invokevirtual 324, 3) := by decide +kernel
theorem d_Mo_caseOf_62 : decode prog_14_method_63_code 62 = .ok (.iload_n 1, 1) := by decide +kernel
theorem d_Mo_caseOf_63 : decode prog_14_method_63_code 63 = .ok (.if_icmp .eq 18, 3) := by decide +kernel
theorem d_Mo_caseOf_66 : decode prog_14_method_63_code 66 = .ok (.aload_n 0, 1) := by decide +kernel
theorem d_Mo_caseOf_67 : decode prog_14_method_63_code 67 = .ok (.bipush 30, 2) := by decide +kernel
theorem d_Mo_caseOf_69 : decode prog_14_method_63_code 69 = .ok (.aload_n 0, 1) := by decide +kernel
theorem d_Mo_caseOf_70 : decode prog_14_method_63_code 70 = .ok (.getfield 19, 3) := by decide +kernel
theorem d_Mo_caseOf_73 : decode prog_14_method_63_code 73 = .ok (.aload_n 0, 1) := by decide +kernel
theorem d_Mo_caseOf_74 : decode prog_14_method_63_code 74 = .ok (.getfield 193, 3) := by decide +kernel
theorem d_Mo_caseOf_77 : decode prog_14_method_63_code 77 = .ok (.iaload, 1) := by decide +kernel
theorem d_Mo_caseOf_78 : decode prog_14_method_63_code 78 = .ok (.invokevirtual 196, 3) := by decide +kernel
theorem d_Mo_caseOf_81 : decode prog_14_method_63_code 81 = .ok (.aload_n 0, 1) := by decide +kernel
theorem d_Mo_caseOf_82 : decode prog_14_method_63_code 82 = .ok (.iload_n 1, 1) := by decide +kernel
theorem d_Mo_caseOf_83 : decode prog_14_method_63_code 83 = .ok (.i2l, 1) := by decide +kernel
theorem d_Mo_caseOf_84 : decode prog_14_method_63_code 84 = .ok (.invokevirtual 291, 3) := by decide +kernel
theorem d_Mo_caseOf_87 : decode prog_14_method_63_code 87 = .ok (.aload_n 0, 1) := by decide +kernel
theorem d_Mo_caseOf_88 : decode prog_14_method_63_code 88 = .ok (.bipush 12, 2) := by decide +kernel
theorem d_Mo_caseOf_90 : decode prog_14_method_63_code 90 = .ok (.iload_n 3, 1) := by decide +kernel
theorem d_Mo_caseOf_91 : decode prog_14_method_63_code 91 = .ok (.aload_n 0, 1) := by decide +kernel
theorem d_Mo_caseOf_92 : decode prog_14_method_63_code 92 = .ok (.aload_n 0, 1) := by decide +kernel
theorem d_Mo_caseOf_93 : decode prog_14_method_63_code 93 = .ok (.aload_n 0, 1) := by decide +kernel
theorem d_Mo_caseOf_94 : decode prog_14_method_63_code 94 = .ok (.getfield 193, 3) := by decide +kernel
theorem d_Mo_caseOf_97 : decode prog_14_method_63_code 97 = .ok (.invokevirtual 316, 3) := by decide +kernel
theorem d_Mo_caseOf_100 : decode prog_14_method_63_code 100 = .ok (.invokevirtual 320, 3) := by decide +kernel
theorem d_Mo_caseOf_103 : decode prog_14_method_63_code 103 = .ok (.invokevirtual 295, 3) := by decide +kernel
theorem d_Mo_caseOf_106 : decode prog_14_method_63_code 106 = .ok (.aload_n 0, 1) := by decide +kernel
theorem d_Mo_caseOf_107 : decode prog_14_method_63_code 107 = .ok (.getfield 279, 3) := by decide +kernel
theorem d_Mo_caseOf_110 : decode prog_14_method_63_code 110 = .ok (.iconst 3, 1) := by decide +kernel
theorem d_Mo_caseOf_111 : decode prog_14_method_63_code 111 = .ok (.isub, 1) := by decide +kernel
theorem d_Mo_caseOf_112 : decode prog_14_method_63_code 112 = .ok (.istore_n 3, 1) := by decide +kernel
theorem d_Mo_caseOf_113 : decode prog_14_method_63_code 113 = .ok (.aload_n 0, 1) := by decide +kernel
theorem d_Mo_caseOf_114 : decode prog_14_method_63_code 114 = .ok (.dup, 1) := by decide +kernel
theorem d_Mo_caseOf_115 : decode prog_14_method_63_code 115 = .ok (.getfield 193, 3) := by decide +kernel
theorem d_Mo_caseOf_118 : decode prog_14_method_63_code 118 = .ok (.iconst 1, 1) := by decide +kernel
theorem d_Mo_caseOf_119 : decode prog_14_method_63_code 119 = .ok (.iadd, 1) := by decide +kernel
theorem d_Mo_caseOf_120 : decode prog_14_method_63_code 120 = .ok (.putfield 193, 3) := by decide +kernel
theorem d_Mo_caseOf_123 : decode prog_14_method_63_code 123 = .ok (.aload_n 0, 1) := by decide +kernel
theorem d_Mo_caseOf_124 : decode prog_14_method_63_code 124 = .ok (.invokevirtual 216, 3) := by decide +kernel
theorem d_Mo_caseOf_127 : decode prog_14_method_63_code 127 = .ok (.bipush 44, 2) := by decide +kernel
theorem d_Mo_caseOf_129 : decode prog_14_method_63_code 129 = .ok (.if_icmp .ne 7, 3) := by decide +kernel
theorem d_Mo_caseOf_132 : decode prog_14_method_63_code 132 = .ok (.iconst 1, 1) := by decide +kernel
theorem d_Mo_caseOf_133 : decode prog_14_method_63_code 133 = .ok (.goto 4, 3) := by decide +kernel
theorem d_Mo_caseOf_136 : decode prog_14_method_63_code 136 = .ok (.iconst 0, 1) := by decide +kernel
theorem d_Mo_caseOf_137 : decode prog_14_method_63_code 137 = .ok (.istore 4, 2) := by decide +kernel
theorem d_Mo_caseOf_139 : decode prog_14_method_63_code 139 = .ok (.aload_n 0, 1) := by decide +kernel
theorem d_Mo_caseOf_140 : decode prog_14_method_63_code 140 = .ok (.dup, 1) := by decide +kernel
theorem d_Mo_caseOf_141 : decode prog_14_method_63_code 141 = .ok (.getfield 193, 3) := by decide +kernel
theorem d_Mo_caseOf_144 : decode prog_14_method_63_code 144 = .ok (.iconst 1, 1) := by decide +kernel
theorem d_Mo_caseOf_145 : decode prog_14_method_63_code 145 = .ok (.iadd, 1) := by decide +kernel
theorem d_Mo_caseOf_146 : decode prog_14_method_63_code 146 = .ok (.putfield 193, 3) := by decide +kernel
theorem d_Mo_caseOf_149 : decode prog_14_method_63_code 149 = .ok (.goto (-107), 3) := by decide +kernel
theorem d_Mo_caseOf_152 : decode prog_14_method_63_code 152 = .ok (.aload_n 0, 1) := by decide +kernel
theorem d_Mo_caseOf_153 : decode prog_14_method_63_code 153 = .ok (.getfield 279, 3) := by decide +kernel
theorem d_Mo_caseOf_156 : decode prog_14_method_63_code 156 = .ok (.istore 5, 2) := by decide +kernel
theorem d_Mo_caseOf_158 : decode prog_14_method_63_code 158 = .ok (.aload_n 0, 1) := by decide +kernel
theorem d_Mo_caseOf_159 : decode prog_14_method_63_code 159 = .ok (.bipush 11, 2) := by decide +kernel
theorem d_Mo_caseOf_161 : decode prog_14_method_63_code 161 = .ok (.iconst 0, 1) := by decide +kernel
theorem d_Mo_caseOf_162 : decode prog_14_method_63_code 162 = .ok (.iconst 0, 1) := by decide +kernel
theorem d_Mo_caseOf_163 : decode prog_14_method_63_code 163 = .ok (.invokevirtual 295, 3) := by decide +kernel
theorem d_Mo_caseOf_166 : decode prog_14_method_63_code 166 = .ok (.aload_n 0, 1) := by decide +kernel
theorem d_Mo_caseOf_167 : decode prog_14_method_63_code 167 = .ok (.iload_n 3, 1) := by decide +kernel
theorem d_Mo_caseOf_168 : decode prog_14_method_63_code 168 = .ok (.invokevirtual 359, 3) := by decide +kernel
theorem d_Mo_caseOf_171 : decode prog_14_method_63_code 171 = .ok (.aload_n 0, 1) := by decide +kernel
theorem d_Mo_caseOf_172 : decode prog_14_method_63_code 172 = .ok (.bipush 13, 2) := by decide +kernel
theorem d_Mo_caseOf_174 : decode prog_14_method_63_code 174 = .ok (.iconst 0, 1) := by decide +kernel
theorem d_Mo_caseOf_175 : decode prog_14_method_63_code 175 = .ok (.iconst 0, 1) := by decide +kernel
theorem d_Mo_caseOf_176 : decode prog_14_method_63_code 176 = .ok (.invokevirtual 295, 3) := by decide +kernel
theorem d_Mo_caseOf_179 : decode prog_14_method_63_code 179 = .ok (.aload_n 0, 1) := by decide +kernel
theorem d_Mo_caseOf_180 : decode prog_14_method_63_code 180 = .ok (.invokevirtual 350, 3) := by decide +kernel
theorem d_Mo_caseOf_183 : decode prog_14_method_63_code 183 = .ok (.aload_n 0, 1) := by decide +kernel
theorem d_Mo_caseOf_184 : decode prog_14_method_63_code 184 = .ok (.bipush 11, 2) := by decide +kernel
theorem d_Mo_caseOf_186 : decode prog_14_method_63_code 186 = .ok (.iload_n 2, 1) := by decide +kernel
theorem d_Mo_caseOf_187 : decode prog_14_method_63_code 187 = .ok (.iconst 0, 1) := by decide +kernel
theorem d_Mo_caseOf_188 : decode prog_14_method_63_code 188 = .ok (.invokevirtual 295, 3) := by decide +kernel
theorem d_Mo_caseOf_191 : decode prog_14_method_63_code 191 = .ok (.aload_n 0, 1) := by decide +kernel
theorem d_Mo_caseOf_192 : decode prog_14_method_63_code 192 = .ok (.getfield 279, 3) := by decide +kernel
theorem d_Mo_caseOf_195 : decode prog_14_method_63_code 195 = .ok (.iconst 3, 1) := by decide +kernel
theorem d_Mo_caseOf_196 : decode prog_14_method_63_code 196 = .ok (.isub, 1) := by decide +kernel
theorem d_Mo_caseOf_197 : decode prog_14_method_63_code 197 = .ok (.istore_n 2, 1) := by decide +kernel
theorem d_Mo_caseOf_198 : decode prog_14_method_63_code 198 = .ok (.aload_n 0, 1) := by decide +kernel
theorem d_Mo_caseOf_199 : decode prog_14_method_63_code 199 = .ok (.getfield 95, 3) := by decide +kernel
theorem d_Mo_caseOf_202 : decode prog_14_method_63_code 202 = .ok (.iload 5, 2) := by decide +kernel
theorem d_Mo_caseOf_204 : decode prog_14_method_63_code 204 = .ok (.iconst 1, 1) := by decide +kernel
theorem d_Mo_caseOf_205 : decode prog_14_method_63_code 205 = .ok (.iadd, 1) := by decide +kernel
theorem d_Mo_caseOf_206 : decode prog_14_method_63_code 206 = .ok (.aload_n 0, 1) := by decide +kernel
theorem d_Mo_caseOf_207 : decode prog_14_method_63_code 207 = .ok (.getfield 279, 3) := by decide +kernel
theorem d_Mo_caseOf_210 : decode prog_14_method_63_code 210 = .ok (.iastore, 1) := by decide +kernel
theorem d_Mo_caseOf_211 : decode prog_14_method_63_code 211 = .ok (.goto (-184), 3) := by decide +kernel
theorem d_Mo_caseOf_214 : decode prog_14_method_63_code 214 = .ok (.aload_n 0, 1) := by decide +kernel
theorem d_Mo_caseOf_215 : decode prog_14_method_63_code 215 = .ok (.bipush 13, 2) := by decide +kernel
theorem d_Mo_caseOf_217 : decode prog_14_method_63_code 217 = .ok (.iconst 0, 1) := by decide +kernel
theorem d_Mo_caseOf_218 : decode prog_14_method_63_code 218 = .ok (.iconst 0, 1) := by decide +kernel
theorem d_Mo_caseOf_219 : decode prog_14_method_63_code 219 = .ok (.invokevirtual 295, 3) := by decide +kernel
theorem d_Mo_caseOf_222 : decode prog_14_method_63_code 222 = .ok (.aload_n 0, 1) := by decide +kernel
theorem d_Mo_caseOf_223 : decode prog_14_method_63_code 223 = .ok (.sipush 316, 3) := by decide +kernel
theorem d_Mo_caseOf_226 : decode prog_14_method_63_code 226 = .ok (.invokevirtual 203, 3) := by decide +kernel
theorem d_Mo_caseOf_229 : decode prog_14_method_63_code 229 = .ok (.ifCond .eq 17, 3) := by decide +kernel
theorem d_Mo_caseOf_232 : decode prog_14_method_63_code 232 = .ok (.aload_n 0, 1) := by decide +kernel
theorem d_Mo_caseOf_233 : decode prog_14_method_63_code 233 = .ok (.aload_n 0, 1) := by decide +kernel
theorem d_Mo_caseOf_234 : decode prog_14_method_63_code 234 = .ok (.getfield 193, 3) := by decide +kernel
theorem d_Mo_caseOf_237 : decode prog_14_method_63_code 237 = .ok (.iconst 2, 1) := by decide +kernel
theorem d_Mo_caseOf_238 : decode prog_14_method_63_code 238 = .ok (.iadd, 1) := by decide +kernel
theorem d_Mo_caseOf_239 : decode prog_14_method_63_code 239 = .ok (.putfield 193, 3) := by decide +kernel
theorem d_Mo_caseOf_242 : decode prog_14_method_63_code 242 = .ok (.aload_n 0, 1) := by decide +kernel
theorem d_Mo_caseOf_243 : decode prog_14_method_63_code 243 = .ok (.invokevirtual 350, 3) := by decide +kernel
theorem d_Mo_caseOf_246 : decode prog_14_method_63_code 246 = .ok (.aload_n 0, 1) := by decide +kernel
theorem d_Mo_caseOf_247 : decode prog_14_method_63_code 247 = .ok (.iload_n 2, 1) := by decide +kernel
theorem d_Mo_caseOf_248 : decode prog_14_method_63_code 248 = .ok (.invokevirtual 359, 3) := by decide +kernel
theorem d_Mo_caseOf_251 : decode prog_14_method_63_code 251 = .ok (.aload_n 0, 1) := by decide +kernel
theorem d_Mo_caseOf_252 : decode prog_14_method_63_code 252 = .ok (.dup, 1) := by decide +kernel
theorem d_Mo_caseOf_253 : decode prog_14_method_63_code 253 = .ok (.getfield 193, 3) := by decide +kernel
theorem d_Mo_caseOf_256 : decode prog_14_method_63_code 256 = .ok (.iconst 1, 1) := by decide +kernel
theorem d_Mo_caseOf_257 : decode prog_14_method_63_code 257 = .ok (.iadd, 1) := by decide +kernel
theorem d_Mo_caseOf_258 : decode prog_14_method_63_code 258 = .ok (.putfield 193, 3) := by decide +kernel
theorem d_Mo_caseOf_261 : decode prog_14_method_63_code 261 = .ok (.return_, 1) := by decide +kernel
abbrev m_Mo_patch : cx_M := (⟨"CircuitTextModel", "patch", "(I)V"⟩, prog_14_method_64_code, 4, (Option.none : Option Jvm.ClassFile.FieldType), [], [false, false])
theorem w_Mo_patch : cx_W m_Mo_patch := ⟨Or.inl ⟨(in_8 (List.mem_of_getElem? (i := 56) rfl)), rfl⟩, by decide +kernel, by decide, by decide, by decide +kernel⟩
theorem n_Mo_patch : (parseMethodDescriptor m_Mo_patch.1.desc).map (fun d => d.parameters.length) = some 1 := by decide +kernel
theorem d_Mo_patch_0 : decode prog_14_method_64_code 0 = .ok (.iload_n 1, 1) := by decide +kernel
theorem d_Mo_patch_1 : decode prog_14_method_64_code 1 = .ok (.istore_n 2, 1) := by decide +kernel
theorem d_Mo_patch_2 : decode prog_14_method_64_code 2 = .ok (.iload_n 2, 1) := by decide +kernel
theorem d_Mo_patch_3 : decode prog_14_method_64_code 3 = .ok (.ifCond .lt 29, 3) := by decide +kernel
theorem d_Mo_patch_6 : decode prog_14_method_64_code 6 = .ok (.aload_n 0, 1) := by decide +kernel
theorem d_Mo_patch_7 : decode prog_14_method_64_code 7 = .ok (.getfield 95, 3) := by decide +kernel
theorem d_Mo_patch_10 : decode prog_14_method_64_code 10 = .ok (.iload_n 2, 1) := by decide +kernel
theorem d_Mo_patch_11 : decode prog_14_method_64_code 11 = .ok (.iconst 1, 1) := by decide +kernel
theorem d_Mo_patch_12 : decode prog_14_method_64_code 12 = .ok (.iadd, 1) := by decide +kernel
theorem d_Mo_patch_13 : decode prog_14_method_64_code 13 = .ok (.iaload, 1) := by decide +kernel
theorem d_Mo_patch_14 : decode prog_14_method_64_code 14 = .ok (.istore_n 3, 1) := by decide +kernel
theorem d_Mo_patch_15 : decode prog_14_method_64_code 15 = .ok (.aload_n 0, 1) := by decide +kernel
theorem d_Mo_patch_16 : decode prog_14_method_64_code 16 = .ok (.getfield 95, 3) := by decide +kernel
theorem d_Mo_patch_19 : decode prog_14_method_64_code 19 = .ok (.iload_n 2, 1) := by decide +kernel
theorem d_Mo_patch_20 : decode prog_14_method_64_code 20 = .ok (.iconst 1, 1) := by decide +kernel
theorem d_Mo_patch_21 : decode prog_14_method_64_code 21 = .ok (.iadd, 1) := by decide +kernel
theorem d_Mo_patch_22 : decode prog_14_method_64_code 22 = .ok (.aload_n 0, 1) := by decide +kernel
theorem d_Mo_patch_23 : decode prog_14_method_64_code 23 = .ok (.getfield 279, 3) := by decide +kernel
theorem d_Mo_patch_26 : decode prog_14_method_64_code 26 = .ok (.iastore, 1) := by decide +kernel
theorem d_Mo_patch_27 : decode prog_14_method_64_code 27 = .ok (.iload_n 3, 1) := by decide +kernel
theorem d_Mo_patch_28 : decode prog_14_method_64_code 28 = .ok (.istore_n 2, 1) := by decide +kernel
theorem d_Mo_patch_29 : decode prog_14_method_64_code 29 = .ok (.goto (-27), 3) := by decide +kernel
theorem d_Mo_patch_32 : decode prog_14_method_64_code 32 = .ok (.return_, 1) := by decide +kernel
abbrev m_Mo_setting : cx_M := (⟨"CircuitTextModel", "setting", "()V"⟩, prog_14_method_65_code, 6, (Option.none : Option Jvm.ClassFile.FieldType), [], [false])
theorem w_Mo_setting : cx_W m_Mo_setting := ⟨Or.inl ⟨(in_8 (List.mem_of_getElem? (i := 60) rfl)), rfl⟩, by decide +kernel, by decide, by decide, by decide +kernel⟩
theorem n_Mo_setting : (parseMethodDescriptor m_Mo_setting.1.desc).map (fun d => d.parameters.length) = some 0 := by decide +kernel
theorem d_Mo_setting_0 : decode prog_14_method_65_code 0 = .ok (.aload_n 0, 1) := by decide +kernel
theorem d_Mo_setting_1 : decode prog_14_method_65_code 1 = .ok (.aload_n 0, 1) := by decide +kernel
theorem d_Mo_setting_2 : decode prog_14_method_65_code 2 = .ok (.getfield 193, 3) := by decide +kernel
theorem d_Mo_setting_5 : decode prog_14_method_65_code 5 = .ok (.invokevirtual 330, 3) := by decide +kernel
theorem d_Mo_setting_8 : decode prog_14_method_65_code 8 = .ok (.istore_n 1, 1) := by decide +kernel
theorem d_Mo_setting_9 : decode prog_14_method_65_code 9 = .ok (.iload_n 1, 1) := by decide +kernel
theorem d_Mo_setting_10 : decode prog_14_method_65_code 10 = .ok (.ifCond .lt 11, 3) := by decide +kernel
theorem d_Mo_setting_13 : decode prog_14_method_65_code 13 = .ok (.aload_n 0, 1) := by decide +kernel
theorem d_Mo_setting_14 : decode prog_14_method_65_code 14 = .ok (.iload_n 1, 1) := by decide +kernel
theorem d_Mo_setting_15 : decode prog_14_method_65_code 15 = .ok (.invokevirtual 362, 3) := by decide +kernel
theorem d_Mo_setting_18 : decode prog_14_method_65_code 18 = .ok (.ifCond .ne 19, 3) := by decide +kernel
theorem d_Mo_setting_21 : decode prog_14_method_65_code 21 = .ok (.aload_n 0, 1) := by decide +kernel
theorem d_Mo_setting_22 : decode prog_14_method_65_code 22 = .ok (.bipush 22, 2) := by decide +kernel
theorem d_Mo_setting_24 : decode prog_14_method_65_code 24 = .ok (.aload_n 0, 1) := by decide +kernel
theorem d_Mo_setting_25 : decode prog_14_method_65_code 25 = .ok (.getfield 19, 3) := by decide +kernel
theorem d_Mo_setting_28 : decode prog_14_method_65_code 28 = .ok (.aload_n 0, 1) := by decide +kernel
theorem d_Mo_setting_29 : decode prog_14_method_65_code 29 = .ok (.getfield 193, 3) := by decide +kernel
theorem d_Mo_setting_32 : decode prog_14_method_65_code 32 = .ok (.iaload, 1) := by decide +kernel
theorem d_Mo_setting_33 : decode prog_14_method_65_code 33 = .ok (.invokevirtual 196, 3) := by decide +kernel
theorem d_Mo_setting_36 : decode prog_14_method_65_code 36 = .ok (.return_, 1) := by decide +kernel
theorem d_Mo_setting_37 : decode prog_14_method_65_code 37 = .ok (.aload_n 0, 1) := by decide +kernel
theorem d_Mo_setting_38 : decode prog_14_method_65_code 38 = .ok (.getfield 62, 3) := by decide +kernel
theorem d_Mo_setting_41 : decode prog_14_method_65_code 41 = .ok (.iload_n 1, 1) := by decide +kernel
theorem d_Mo_setting_42 : decode prog_14_method_65_code 42 = .ok (.iaload, 1) := by decide +kernel
theorem d_Mo_setting_43 : decode prog_14_method_65_code 43 = .ok (.ifCond .eq 33, 3) := by decide +kernel
theorem d_Mo_setting_46 : decode prog_14_method_65_code 46 = .ok (.aload_n 0, 1) := by decide +kernel
theorem d_Mo_setting_47 : decode prog_14_method_65_code 47 = .ok (.getfield 62, 3) := by decide +kernel
theorem d_Mo_setting_50 : decode prog_14_method_65_code 50 = .ok (.iload_n 1, 1) := by decide +kernel
theorem d_Mo_setting_51 : decode prog_14_method_65_code 51 = .ok (.iaload, 1) := by decide +kernel
theorem d_Mo_setting_52 : decode prog_14_method_65_code 52 = .ok (.aload_n 0, 1) := by decide +kernel
theorem d_Mo_setting_53 : decode prog_14_method_65_code 53 = .ok (.getfield 365, 3) := by decide +kernel
theorem d_Mo_setting_56 : decode prog_14_method_65_code 56 = .ok (.iconst 1, 1) := by decide +kernel
theorem d_Mo_setting_57 : decode prog_14_method_65_code 57 = .ok (.iadd, 1) := by decide +kernel
theorem d_Mo_setting_58 : decode prog_14_method_65_code 58 = .ok (.if_icmp .eq 18, 3) := by decide +kernel
theorem d_Mo_setting_61 : decode prog_14_method_65_code 61 = .ok (.aload_n 0, 1) := by decide +kernel
theorem d_Mo_setting_62 : decode prog_14_method_65_code 62 = .ok (.bipush 32, 2) := by decide +kernel
theorem d_Mo_setting_64 : decode prog_14_method_65_code 64 = .ok (.aload_n 0, 1) := by decide +kernel
theorem d_Mo_setting_65 : decode prog_14_method_65_code 65 = .ok (.getfield 19, 3) := by decide +kernel
theorem d_Mo_setting_68 : decode prog_14_method_65_code 68 = .ok (.aload_n 0, 1) := by decide +kernel
theorem d_Mo_setting_69 : decode prog_14_method_65_code 69 = .ok (.getfield 193, 3) := by decide +kernel
theorem d_Mo_setting_72 : decode prog_14_method_65_code 72 = .ok (.iaload, 1) := by decide +kernel
theorem d_Mo_setting_73 : decode prog_14_method_65_code 73 = .ok (.invokevirtual 196, 3) := by decide +kernel
theorem d_Mo_setting_76 : decode prog_14_method_65_code 76 = .ok (.aload_n 0, 1) := by decide +kernel
theorem d_Mo_setting_77 : decode prog_14_method_65_code 77 = .ok (.getfield 62, 3) := by decide +kernel
theorem d_Mo_setting_80 : decode prog_14_method_65_code 80 = .ok (.iload_n 1, 1) := by decide +kernel
theorem d_Mo_setting_81 : decode prog_14_method_65_code 81 = .ok (.aload_n 0, 1) := by decide +kernel
theorem d_Mo_setting_82 : decode prog_14_method_65_code 82 = .ok (.getfield 365, 3) := by decide +kernel
theorem d_Mo_setting_85 : decode prog_14_method_65_code 85 = .ok (.iconst 1, 1) := by decide +kernel
theorem d_Mo_setting_86 : decode prog_14_method_65_code 86 = .ok (.iadd, 1) := by decide +kernel
theorem d_Mo_setting_87 : decode prog_14_method_65_code 87 = .ok (.iastore, 1) := by decide +kernel
theorem d_Mo_setting_88 : decode prog_14_method_65_code 88 = .ok (.aload_n 0, 1) := by decide +kernel
theorem d_Mo_setting_89 : decode prog_14_method_65_code 89 = .ok (.dup, 1) := by decide +kernel
theorem d_Mo_setting_90 : decode prog_14_method_65_code 90 = .ok (.getfield 193, 3) := by decide +kernel
theorem d_Mo_setting_93 : decode prog_14_method_65_code 93 = .ok (.iconst 1, 1) := by decide +kernel
theorem d_Mo_setting_94 : decode prog_14_method_65_code 94 = .ok (.iadd, 1) := by decide +kernel
theorem d_Mo_setting_95 : decode prog_14_method_65_code 95 = .ok (.putfield 193, 3) := by decide +kernel
theorem d_Mo_setting_98 : decode prog_14_method_65_code 98 = .ok (.sipush 256, 3) := by decide +kernel
theorem d_Mo_setting_101 : decode prog_14_method_65_code 101 = .ok (.aload_n 0, 1) := by decide +kernel
theorem d_Mo_setting_102 : decode prog_14_method_65_code 102 = .ok (.getfield 43, 3) := by decide +kernel
theorem d_Mo_setting_105 : decode prog_14_method_65_code 105 = .ok (.iload_n 1, 1) := by decide +kernel
theorem d_Mo_setting_106 : decode prog_14_method_65_code 106 = .ok (.iaload, 1) := by decide +kernel
theorem d_Mo_setting_107 : decode prog_14_method_65_code 107 = .ok (.iconst 1, 1) := by decide +kernel
theorem d_Mo_setting_108 : decode prog_14_method_65_code 108 = .ok (.isub, 1) := by decide +kernel
theorem d_Mo_setting_109 : decode prog_14_method_65_code 109 = .ok (.imul, 1) := by decide +kernel
theorem d_Mo_setting_110 : decode prog_14_method_65_code 110 = .ok (.istore_n 2, 1) := by decide +kernel
theorem d_Mo_setting_111 : decode prog_14_method_65_code 111 = .ok (.aload_n 0, 1) := by decide +kernel
theorem d_Mo_setting_112 : decode prog_14_method_65_code 112 = .ok (.invokevirtual 216, 3) := by decide +kernel
theorem d_Mo_setting_115 : decode prog_14_method_65_code 115 = .ok (.bipush 91, 2) := by decide +kernel
theorem d_Mo_setting_117 : decode prog_14_method_65_code 117 = .ok (.if_icmp .ne 9, 3) := by decide +kernel
theorem d_Mo_setting_120 : decode prog_14_method_65_code 120 = .ok (.aload_n 0, 1) := by decide +kernel
theorem d_Mo_setting_121 : decode prog_14_method_65_code 121 = .ok (.iload_n 1, 1) := by decide +kernel
theorem d_Mo_setting_122 : decode prog_14_method_65_code 122 = .ok (.invokevirtual 333, 3) := by decide +kernel
theorem d_Mo_setting_125 : decode prog_14_method_65_code 125 = .ok (.istore_n 2, 1) := by decide +kernel
theorem d_Mo_setting_126 : decode prog_14_method_65_code 126 = .ok (.aload_n 0, 1) := by decide +kernel
theorem d_Mo_setting_127 : decode prog_14_method_65_code 127 = .ok (.getfield 19, 3) := by decide +kernel
theorem d_Mo_setting_130 : decode prog_14_method_65_code 130 = .ok (.aload_n 0, 1) := by decide +kernel
theorem d_Mo_setting_131 : decode prog_14_method_65_code 131 = .ok (.getfield 193, 3) := by decide +kernel
theorem d_Mo_setting_134 : decode prog_14_method_65_code 134 = .ok (.iaload, 1) := by decide +kernel
theorem d_Mo_setting_135 : decode prog_14_method_65_code 135 = .ok (.istore_n 3, 1) := by decide +kernel
theorem d_Mo_setting_136 : decode prog_14_method_65_code 136 = .ok (.aload_n 0, 1) := by decide +kernel
theorem d_Mo_setting_137 : decode prog_14_method_65_code 137 = .ok (.dup, 1) := by decide +kernel
theorem d_Mo_setting_138 : decode prog_14_method_65_code 138 = .ok (.getfield 193, 3) := by decide +kernel
theorem d_Mo_setting_141 : decode prog_14_method_65_code 141 = .ok (.iconst 1, 1) := by decide +kernel
theorem d_Mo_setting_142 : decode prog_14_method_65_code 142 = .ok (.iadd, 1) := by decide +kernel
theorem d_Mo_setting_143 : decode prog_14_method_65_code 143 = .ok (.putfield 193, 3) := by decide +kernel
theorem d_Mo_setting_146 : decode prog_14_method_65_code 146 = .ok (.aload_n 0, 1) := by decide +kernel
theorem d_Mo_setting_147 : decode prog_14_method_65_code 147 = .ok (.invokevirtual 288, 3) := by decide +kernel
theorem d_Mo_setting_150 : decode prog_14_method_65_code 150 = .ok (.istore 4, 2) := by decide +kernel
theorem d_Mo_setting_152 : decode prog_14_method_65_code 152 = .ok (.iload_n 2, 1) := by decide +kernel
theorem d_Mo_setting_153 : decode prog_14_method_65_code 153 = .ok (.sipush 256, 3) := by decide +kernel
theorem d_Mo_setting_156 : decode prog_14_method_65_code 156 = .ok (.idiv, 1) := by decide +kernel
theorem d_Mo_setting_157 : decode prog_14_method_65_code 157 = .ok (.iload_n 2, 1) := by decide +kernel
theorem d_Mo_setting_158 : decode prog_14_method_65_code 158 = .ok (.sipush 256, 3) := by decide +kernel
theorem d_Mo_setting_161 : decode prog_14_method_65_code 161 = .ok (.irem, 1) := by decide +kernel
theorem d_Mo_setting_162 : decode prog_14_method_65_code 162 = .ok (.isub, 1) := by decide +kernel
theorem d_Mo_setting_163 : decode prog_14_method_65_code 163 = .ok (.iconst 1, 1) := by decide +kernel
theorem d_Mo_setting_164 : decode prog_14_method_65_code 164 = .ok (.iadd, 1) := by decide +kernel
theorem d_Mo_setting_165 : decode prog_14_method_65_code 165 = .ok (.istore 5, 2) := by decide +kernel
theorem d_Mo_setting_167 : decode prog_14_method_65_code 167 = .ok (.aload_n 0, 1) := by decide +kernel
theorem d_Mo_setting_168 : decode prog_14_method_65_code 168 = .ok (.getfield 187, 3) := by decide +kernel
theorem d_Mo_setting_171 : decode prog_14_method_65_code 171 = .ok (.ifCond .ne 17, 3) := by decide +kernel
theorem d_Mo_setting_174 : decode prog_14_method_65_code 174 = .ok (.iload 4, 2) := by decide +kernel
theorem d_Mo_setting_176 : decode prog_14_method_65_code 176 = .ok (.iload 5, 2) := by decide +kernel
theorem d_Mo_setting_178 : decode prog_14_method_65_code 178 = .ok (.if_icmp .eq 10, 3) := by decide +kernel
theorem d_Mo_setting_181 : decode prog_14_method_65_code 181 = .ok (.aload_n 0, 1) := by decide +kernel
theorem d_Mo_setting_182 : decode prog_14_method_65_code 182 = .ok (.bipush 30, 2) := by decide +kernel
theorem d_Mo_setting_184 : decode prog_14_method_65_code 184 = .ok (.iload_n 3, 1) := by decide +kernel
theorem d_Mo_setting_185 : decode prog_14_method_65_code 185 = .ok (.invokevirtual 196, 3) := by decide +kernel
theorem d_Mo_setting_188 : decode prog_14_method_65_code 188 = .ok (.aload_n 0, 1) := by decide +kernel
theorem d_Mo_setting_189 : decode prog_14_method_65_code 189 = .ok (.iload 5, 2) := by decide +kernel
theorem d_Mo_setting_191 : decode prog_14_method_65_code 191 = .ok (.i2l, 1) := by decide +kernel
theorem d_Mo_setting_192 : decode prog_14_method_65_code 192 = .ok (.invokevirtual 291, 3) := by decide +kernel
theorem d_Mo_setting_195 : decode prog_14_method_65_code 195 = .ok (.aload_n 0, 1) := by decide +kernel
theorem d_Mo_setting_196 : decode prog_14_method_65_code 196 = .ok (.bipush 9, 2) := by decide +kernel
theorem d_Mo_setting_198 : decode prog_14_method_65_code 198 = .ok (.iload_n 1, 1) := by decide +kernel
theorem d_Mo_setting_199 : decode prog_14_method_65_code 199 = .ok (.iload_n 2, 1) := by decide +kernel
theorem d_Mo_setting_200 : decode prog_14_method_65_code 200 = .ok (.invokevirtual 295, 3) := by decide +kernel
theorem d_Mo_setting_203 : decode prog_14_method_65_code 203 = .ok (.aload_n 0, 1) := by decide +kernel
theorem d_Mo_setting_204 : decode prog_14_method_65_code 204 = .ok (.dup, 1) := by decide +kernel
theorem d_Mo_setting_205 : decode prog_14_method_65_code 205 = .ok (.getfield 193, 3) := by decide +kernel
theorem d_Mo_setting_208 : decode prog_14_method_65_code 208 = .ok (.iconst 1, 1) := by decide +kernel
theorem d_Mo_setting_209 : decode prog_14_method_65_code 209 = .ok (.iadd, 1) := by decide +kernel
theorem d_Mo_setting_210 : decode prog_14_method_65_code 210 = .ok (.putfield 193, 3) := by decide +kernel
theorem d_Mo_setting_213 : decode prog_14_method_65_code 213 = .ok (.return_, 1) := by decide +kernel
abbrev m_Mo_isRegister : cx_M := (⟨"CircuitTextModel", "isRegister", "(I)Z"⟩, prog_14_method_60_code, 2, (Option.some Jvm.ClassFile.FieldType.boolean), [], [false, false])
theorem w_Mo_isRegister : cx_W m_Mo_isRegister := ⟨Or.inl ⟨(in_8 (List.mem_of_getElem? (i := 64) rfl)), rfl⟩, by decide +kernel, by decide, by decide, by decide +kernel⟩
theorem n_Mo_isRegister : (parseMethodDescriptor m_Mo_isRegister.1.desc).map (fun d => d.parameters.length) = some 1 := by decide +kernel
theorem d_Mo_isRegister_0 : decode prog_14_method_60_code 0 = .ok (.aload_n 0, 1) := by decide +kernel
theorem d_Mo_isRegister_1 : decode prog_14_method_60_code 1 = .ok (.getfield 46, 3) := by decide +kernel
theorem d_Mo_isRegister_4 : decode prog_14_method_60_code 4 = .ok (.iload_n 1, 1) := by decide +kernel
theorem d_Mo_isRegister_5 : decode prog_14_method_60_code 5 = .ok (.iaload, 1) := by decide +kernel
theorem d_Mo_isRegister_6 : decode prog_14_method_60_code 6 = .ok (.iconst 2, 1) := by decide +kernel
theorem d_Mo_isRegister_7 : decode prog_14_method_60_code 7 = .ok (.if_icmp .eq 13, 3) := by decide +kernel
theorem d_Mo_isRegister_10 : decode prog_14_method_60_code 10 = .ok (.aload_n 0, 1) := by decide +kernel
theorem d_Mo_isRegister_11 : decode prog_14_method_60_code 11 = .ok (.getfield 46, 3) := by decide +kernel
theorem d_Mo_isRegister_14 : decode prog_14_method_60_code 14 = .ok (.iload_n 1, 1) := by decide +kernel
theorem d_Mo_isRegister_15 : decode prog_14_method_60_code 15 = .ok (.iaload, 1) := by decide +kernel
theorem d_Mo_isRegister_16 : decode prog_14_method_60_code 16 = .ok (.iconst 4, 1) := by decide +kernel
theorem d_Mo_isRegister_17 : decode prog_14_method_60_code 17 = .ok (.if_icmp .ne 7, 3) := by decide +kernel
theorem d_Mo_isRegister_20 : decode prog_14_method_60_code 20 = .ok (.iconst 1, 1) := by decide +kernel
theorem d_Mo_isRegister_21 : decode prog_14_method_60_code 21 = .ok (.goto 4, 3) := by decide +kernel
theorem d_Mo_isRegister_24 : decode prog_14_method_60_code 24 = .ok (.iconst 0, 1) := by decide +kernel
theorem d_Mo_isRegister_25 : decode prog_14_method_60_code 25 = .ok (.ireturn, 1) := by decide +kernel
abbrev m_Mo_instance : cx_M := (⟨"CircuitTextModel", "instance", "()V"⟩, prog_14_method_66_code, 4, (Option.none : Option Jvm.ClassFile.FieldType), [], [false])
theorem w_Mo_instance : cx_W m_Mo_instance := ⟨Or.inl ⟨(in_8 (List.mem_of_getElem? (i := 68) rfl)), rfl⟩, by decide +kernel, by decide, by decide, by decide +kernel⟩
theorem n_Mo_instance : (parseMethodDescriptor m_Mo_instance.1.desc).map (fun d => d.parameters.length) = some 0 := by decide +kernel
theorem d_Mo_instance_0 : decode prog_14_method_66_code 0 = .ok (.aload_n 0, 1) := by decide +kernel
theorem d_Mo_instance_1 : decode prog_14_method_66_code 1 = .ok (.aload_n 0, 1) := by decide +kernel
theorem d_Mo_instance_2 : decode prog_14_method_66_code 2 = .ok (.getfield 193, 3) := by decide +kernel
theorem d_Mo_instance_5 : decode prog_14_method_66_code 5 = .ok (.aload_n 0, 1) := by decide +kernel
theorem d_Mo_instance_6 : decode prog_14_method_66_code 6 = .ok (.getfield 266, 3) := by decide +kernel
theorem d_Mo_instance_9 : decode prog_14_method_66_code 9 = .ok (.invokevirtual 368, 3) := by decide +kernel
theorem d_Mo_instance_12 : decode prog_14_method_66_code 12 = .ok (.istore_n 1, 1) := by decide +kernel
theorem d_Mo_instance_13 : decode prog_14_method_66_code 13 = .ok (.iload_n 1, 1) := by decide +kernel
theorem d_Mo_instance_14 : decode prog_14_method_66_code 14 = .ok (.ifCond .ge 19, 3) := by decide +kernel
theorem d_Mo_instance_17 : decode prog_14_method_66_code 17 = .ok (.aload_n 0, 1) := by decide +kernel
theorem d_Mo_instance_18 : decode prog_14_method_66_code 18 = .ok (.bipush 22, 2) := by decide +kernel
theorem d_Mo_instance_20 : decode prog_14_method_66_code 20 = .ok (.aload_n 0, 1) := by decide +kernel
theorem d_Mo_instance_21 : decode prog_14_method_66_code 21 = .ok (.getfield 19, 3) := by decide +kernel
theorem d_Mo_instance_24 : decode prog_14_method_66_code 24 = .ok (.aload_n 0, 1) := by decide +kernel
theorem d_Mo_instance_25 : decode prog_14_method_66_code 25 = .ok (.getfield 193, 3) := by decide +kernel
theorem d_Mo_instance_28 : decode prog_14_method_66_code 28 = .ok (.iaload, 1) := by decide +kernel
theorem d_Mo_instance_29 : decode prog_14_method_66_code 29 = .ok (.invokevirtual 196, 3) := by decide +kernel
theorem d_Mo_instance_32 : decode prog_14_method_66_code 32 = .ok (.return_, 1) := by decide +kernel
theorem d_Mo_instance_33 : decode prog_14_method_66_code 33 = .ok (.aload_n 0, 1) := by decide +kernel
theorem d_Mo_instance_34 : decode prog_14_method_66_code 34 = .ok (.dup, 1) := by decide +kernel
theorem d_Mo_instance_35 : decode prog_14_method_66_code 35 = .ok (.getfield 193, 3) := by decide +kernel
theorem d_Mo_instance_38 : decode prog_14_method_66_code 38 = .ok (.iconst 1, 1) := by decide +kernel
theorem d_Mo_instance_39 : decode prog_14_method_66_code 39 = .ok (.iadd, 1) := by decide +kernel
theorem d_Mo_instance_40 : decode prog_14_method_66_code 40 = .ok (.putfield 193, 3) := by decide +kernel
theorem d_Mo_instance_43 : decode prog_14_method_66_code 43 = .ok (.aload_n 0, 1) := by decide +kernel
theorem d_Mo_instance_44 : decode prog_14_method_66_code 44 = .ok (.getfield 193, 3) := by decide +kernel
theorem d_Mo_instance_47 : decode prog_14_method_66_code 47 = .ok (.istore_n 2, 1) := by decide +kernel
theorem d_Mo_instance_48 : decode prog_14_method_66_code 48 = .ok (.aload_n 0, 1) := by decide +kernel
theorem d_Mo_instance_49 : decode prog_14_method_66_code 49 = .ok (.aload_n 0, 1) := by decide +kernel
theorem d_Mo_instance_50 : decode prog_14_method_66_code 50 = .ok (.getfield 193, 3) := by decide +kernel
theorem d_Mo_instance_53 : decode prog_14_method_66_code 53 = .ok (.invokevirtual 330, 3) := by decide +kernel
theorem d_Mo_instance_56 : decode prog_14_method_66_code 56 = .ok (.ifCond .ge 14, 3) := by decide +kernel
theorem d_Mo_instance_59 : decode prog_14_method_66_code 59 = .ok (.aload_n 0, 1) := by decide +kernel
theorem d_Mo_instance_60 : decode prog_14_method_66_code 60 = .ok (.aload_n 0, 1) := by decide +kernel
theorem d_Mo_instance_61 : decode prog_14_method_66_code 61 = .ok (.getfield 193, 3) := by decide +kernel
theorem d_Mo_instance_64 : decode prog_14_method_66_code 64 = .ok (.invokevirtual 338, 3) := by decide +kernel
theorem d_Mo_instance_67 : decode prog_14_method_66_code 67 = .ok (.ifCond .eq 18, 3) := by decide +kernel
theorem d_Mo_instance_70 : decode prog_14_method_66_code 70 = .ok (.aload_n 0, 1) := by decide +kernel
theorem d_Mo_instance_71 : decode prog_14_method_66_code 71 = .ok (.bipush 21, 2) := by decide +kernel
theorem d_Mo_instance_73 : decode prog_14_method_66_code 73 = .ok (.aload_n 0, 1) := by decide +kernel
theorem d_Mo_instance_74 : decode prog_14_method_66_code 74 = .ok (.getfield 19, 3) := by decide +kernel
theorem d_Mo_instance_77 : decode prog_14_method_66_code 77 = .ok (.aload_n 0, 1) := by decide +kernel
theorem d_Mo_instance_78 : decode prog_14_method_66_code 78 = .ok (.getfield 193, 3) := by decide +kernel
theorem d_Mo_instance_81 : decode prog_14_method_66_code 81 = .ok (.iaload, 1) := by decide +kernel
theorem d_Mo_instance_82 : decode prog_14_method_66_code 82 = .ok (.invokevirtual 196, 3) := by decide +kernel
theorem d_Mo_instance_85 : decode prog_14_method_66_code 85 = .ok (.aload_n 0, 1) := by decide +kernel
theorem d_Mo_instance_86 : decode prog_14_method_66_code 86 = .ok (.getfield 65, 3) := by decide +kernel
theorem d_Mo_instance_89 : decode prog_14_method_66_code 89 = .ok (.aload_n 0, 1) := by decide +kernel
theorem d_Mo_instance_90 : decode prog_14_method_66_code 90 = .ok (.getfield 276, 3) := by decide +kernel
theorem d_Mo_instance_93 : decode prog_14_method_66_code 93 = .ok (.iload_n 1, 1) := by decide +kernel
theorem d_Mo_instance_94 : decode prog_14_method_66_code 94 = .ok (.iastore, 1) := by decide +kernel
theorem d_Mo_instance_95 : decode prog_14_method_66_code 95 = .ok (.aload_n 0, 1) := by decide +kernel
theorem d_Mo_instance_96 : decode prog_14_method_66_code 96 = .ok (.getfield 68, 3) := by decide +kernel
theorem d_Mo_instance_99 : decode prog_14_method_66_code 99 = .ok (.aload_n 0, 1) := by decide +kernel
theorem d_Mo_instance_100 : decode prog_14_method_66_code 100 = .ok (.getfield 276, 3) := by decide +kernel
theorem d_Mo_instance_103 : decode prog_14_method_66_code 103 = .ok (.aload_n 0, 1) := by decide +kernel
theorem d_Mo_instance_104 : decode prog_14_method_66_code 104 = .ok (.getfield 193, 3) := by decide +kernel
theorem d_Mo_instance_107 : decode prog_14_method_66_code 107 = .ok (.iastore, 1) := by decide +kernel
theorem d_Mo_instance_108 : decode prog_14_method_66_code 108 = .ok (.aload_n 0, 1) := by decide +kernel
theorem d_Mo_instance_109 : decode prog_14_method_66_code 109 = .ok (.getfield 71, 3) := by decide +kernel
theorem d_Mo_instance_112 : decode prog_14_method_66_code 112 = .ok (.aload_n 0, 1) := by decide +kernel
theorem d_Mo_instance_113 : decode prog_14_method_66_code 113 = .ok (.getfield 276, 3) := by decide +kernel
theorem d_Mo_instance_116 : decode prog_14_method_66_code 116 = .ok (.aload_n 0, 1) := by decide +kernel
theorem d_Mo_instance_117 : decode prog_14_method_66_code 117 = .ok (.getfield 371, 3) := by decide +kernel
theorem d_Mo_instance_120 : decode prog_14_method_66_code 120 = .ok (.iastore, 1) := by decide +kernel
theorem d_Mo_instance_121 : decode prog_14_method_66_code 121 = .ok (.aload_n 0, 1) := by decide +kernel
theorem d_Mo_instance_122 : decode prog_14_method_66_code 122 = .ok (.aload_n 0, 1) := by decide +kernel
theorem d_Mo_instance_123 : decode prog_14_method_66_code 123 = .ok (.getfield 193, 3) := by decide +kernel
theorem d_Mo_instance_126 : decode prog_14_method_66_code 126 = .ok (.iconst 2, 1) := by decide +kernel
theorem d_Mo_instance_127 : decode prog_14_method_66_code 127 = .ok (.iadd, 1) := by decide +kernel
theorem d_Mo_instance_128 : decode prog_14_method_66_code 128 = .ok (.putfield 193, 3) := by decide +kernel
theorem d_Mo_instance_131 : decode prog_14_method_66_code 131 = .ok (.aload_n 0, 1) := by decide +kernel
theorem d_Mo_instance_132 : decode prog_14_method_66_code 132 = .ok (.bipush 46, 2) := by decide +kernel
theorem d_Mo_instance_134 : decode prog_14_method_66_code 134 = .ok (.invokevirtual 203, 3) := by decide +kernel
theorem d_Mo_instance_137 : decode prog_14_method_66_code 137 = .ok (.ifCond .eq 37, 3) := by decide +kernel
theorem d_Mo_instance_140 : decode prog_14_method_66_code 140 = .ok (.aload_n 0, 1) := by decide +kernel
theorem d_Mo_instance_141 : decode prog_14_method_66_code 141 = .ok (.iload_n 1, 1) := by decide +kernel
theorem d_Mo_instance_142 : decode prog_14_method_66_code 142 = .ok (.invokevirtual 374, 3) := by decide +kernel
theorem d_Mo_instance_145 : decode prog_14_method_66_code 145 = .ok (.aload_n 0, 1) := by decide +kernel
theorem d_Mo_instance_146 : decode prog_14_method_66_code 146 = .ok (.aload_n 0, 1) := by decide +kernel
theorem d_Mo_instance_147 : decode prog_14_method_66_code 147 = .ok (.invokevirtual 216, 3) := by decide +kernel
theorem d_Mo_instance_150 : decode prog_14_method_66_code 150 = .ok (.bipush 44, 2) := by decide +kernel
theorem d_Mo_instance_152 : decode prog_14_method_66_code 152 = .ok (.if_icmp .ne 12, 3) := by decide +kernel
theorem d_Mo_instance_155 : decode prog_14_method_66_code 155 = .ok (.aload_n 0, 1) := by decide +kernel
theorem d_Mo_instance_156 : decode prog_14_method_66_code 156 = .ok (.getfield 193, 3) := by decide +kernel
theorem d_Mo_instance_159 : decode prog_14_method_66_code 159 = .ok (.iconst 1, 1) := by decide +kernel
theorem d_Mo_instance_160 : decode prog_14_method_66_code 160 = .ok (.iadd, 1) := by decide +kernel
theorem d_Mo_instance_161 : decode prog_14_method_66_code 161 = .ok (.goto 7, 3) := by decide +kernel
theorem d_Mo_instance_164 : decode prog_14_method_66_code 164 = .ok (.aload_n 0, 1) := by decide +kernel
theorem d_Mo_instance_165 : decode prog_14_method_66_code 165 = .ok (.getfield 193, 3) := by decide +kernel
theorem d_Mo_instance_168 : decode prog_14_method_66_code 168 = .ok (.putfield 193, 3) := by decide +kernel
theorem d_Mo_instance_171 : decode prog_14_method_66_code 171 = .ok (.goto (-40), 3) := by decide +kernel
theorem d_Mo_instance_174 : decode prog_14_method_66_code 174 = .ok (.aload_n 0, 1) := by decide +kernel
theorem d_Mo_instance_175 : decode prog_14_method_66_code 175 = .ok (.dup, 1) := by decide +kernel
theorem d_Mo_instance_176 : decode prog_14_method_66_code 176 = .ok (.getfield 193, 3) := by decide +kernel
theorem d_Mo_instance_179 : decode prog_14_method_66_code 179 = .ok (.iconst 1, 1) := by decide +kernel
theorem d_Mo_instance_180 : decode prog_14_method_66_code 180 = .ok (.iadd, 1) := by decide +kernel
theorem d_Mo_instance_181 : decode prog_14_method_66_code 181 = .ok (.putfield 193, 3) := by decide +kernel
theorem d_Mo_instance_184 : decode prog_14_method_66_code 184 = .ok (.aload_n 0, 1) := by decide +kernel
theorem d_Mo_instance_185 : decode prog_14_method_66_code 185 = .ok (.getfield 28, 3) := by decide +kernel
theorem d_Mo_instance_188 : decode prog_14_method_66_code 188 = .ok (.iload_n 1, 1) := by decide +kernel
theorem d_Mo_instance_189 : decode prog_14_method_66_code 189 = .ok (.iaload, 1) := by decide +kernel
theorem d_Mo_instance_190 : decode prog_14_method_66_code 190 = .ok (.istore_n 3, 1) := by decide +kernel
theorem d_Mo_instance_191 : decode prog_14_method_66_code 191 = .ok (.iload_n 3, 1) := by decide +kernel
theorem d_Mo_instance_192 : decode prog_14_method_66_code 192 = .ok (.aload_n 0, 1) := by decide +kernel
theorem d_Mo_instance_193 : decode prog_14_method_66_code 193 = .ok (.getfield 28, 3) := by decide +kernel
theorem d_Mo_instance_196 : decode prog_14_method_66_code 196 = .ok (.iload_n 1, 1) := by decide +kernel
theorem d_Mo_instance_197 : decode prog_14_method_66_code 197 = .ok (.iconst 1, 1) := by decide +kernel
theorem d_Mo_instance_198 : decode prog_14_method_66_code 198 = .ok (.iadd, 1) := by decide +kernel
theorem d_Mo_instance_199 : decode prog_14_method_66_code 199 = .ok (.iaload, 1) := by decide +kernel
theorem d_Mo_instance_200 : decode prog_14_method_66_code 200 = .ok (.if_icmp .ge 54, 3) := by decide +kernel
theorem d_Mo_instance_203 : decode prog_14_method_66_code 203 = .ok (.aload_n 0, 1) := by decide +kernel
theorem d_Mo_instance_204 : decode prog_14_method_66_code 204 = .ok (.getfield 187, 3) := by decide +kernel
theorem d_Mo_instance_207 : decode prog_14_method_66_code 207 = .ok (.ifCond .ne 47, 3) := by decide +kernel
theorem d_Mo_instance_210 : decode prog_14_method_66_code 210 = .ok (.aload_n 0, 1) := by decide +kernel
theorem d_Mo_instance_211 : decode prog_14_method_66_code 211 = .ok (.getfield 46, 3) := by decide +kernel
theorem d_Mo_instance_214 : decode prog_14_method_66_code 214 = .ok (.iload_n 3, 1) := by decide +kernel
theorem d_Mo_instance_215 : decode prog_14_method_66_code 215 = .ok (.iaload, 1) := by decide +kernel
theorem d_Mo_instance_216 : decode prog_14_method_66_code 216 = .ok (.iconst 3, 1) := by decide +kernel
theorem d_Mo_instance_217 : decode prog_14_method_66_code 217 = .ok (.if_icmp .ge 31, 3) := by decide +kernel
theorem d_Mo_instance_220 : decode prog_14_method_66_code 220 = .ok (.aload_n 0, 1) := by decide +kernel
theorem d_Mo_instance_221 : decode prog_14_method_66_code 221 = .ok (.aload_n 0, 1) := by decide +kernel
theorem d_Mo_instance_222 : decode prog_14_method_66_code 222 = .ok (.getfield 276, 3) := by decide +kernel
theorem d_Mo_instance_225 : decode prog_14_method_66_code 225 = .ok (.aload_n 0, 1) := by decide +kernel
theorem d_Mo_instance_226 : decode prog_14_method_66_code 226 = .ok (.getfield 371, 3) := by decide +kernel
theorem d_Mo_instance_229 : decode prog_14_method_66_code 229 = .ok (.iload_n 3, 1) := by decide +kernel
theorem d_Mo_instance_230 : decode prog_14_method_66_code 230 = .ok (.invokevirtual 377, 3) := by decide +kernel
theorem d_Mo_instance_233 : decode prog_14_method_66_code 233 = .ok (.ifCond .ge 15, 3) := by decide +kernel
theorem d_Mo_instance_236 : decode prog_14_method_66_code 236 = .ok (.aload_n 0, 1) := by decide +kernel
theorem d_Mo_instance_237 : decode prog_14_method_66_code 237 = .ok (.bipush 24, 2) := by decide +kernel
theorem d_Mo_instance_239 : decode prog_14_method_66_code 239 = .ok (.aload_n 0, 1) := by decide +kernel
theorem d_Mo_instance_240 : decode prog_14_method_66_code 240 = .ok (.getfield 19, 3) := by decide +kernel
theorem d_Mo_instance_243 : decode prog_14_method_66_code 243 = .ok (.iload_n 2, 1) := by decide +kernel
theorem d_Mo_instance_244 : decode prog_14_method_66_code 244 = .ok (.iaload, 1) := by decide +kernel
theorem d_Mo_instance_245 : decode prog_14_method_66_code 245 = .ok (.invokevirtual 196, 3) := by decide +kernel
theorem d_Mo_instance_248 : decode prog_14_method_66_code 248 = .ok (.iinc 3 1, 3) := by decide +kernel
theorem d_Mo_instance_251 : decode prog_14_method_66_code 251 = .ok (.goto (-60), 3) := by decide +kernel
theorem d_Mo_instance_254 : decode prog_14_method_66_code 254 = .ok (.aload_n 0, 1) := by decide +kernel
theorem d_Mo_instance_255 : decode prog_14_method_66_code 255 = .ok (.dup, 1) := by decide +kernel
theorem d_Mo_instance_256 : decode prog_14_method_66_code 256 = .ok (.getfield 193, 3) := by decide +kernel
theorem d_Mo_instance_259 : decode prog_14_method_66_code 259 = .ok (.iconst 1, 1) := by decide +kernel
theorem d_Mo_instance_260 : decode prog_14_method_66_code 260 = .ok (.iadd, 1) := by decide +kernel
theorem d_Mo_instance_261 : decode prog_14_method_66_code 261 = .ok (.putfield 193, 3) := by decide +kernel
theorem d_Mo_instance_264 : decode prog_14_method_66_code 264 = .ok (.aload_n 0, 1) := by decide +kernel
theorem d_Mo_instance_265 : decode prog_14_method_66_code 265 = .ok (.dup, 1) := by decide +kernel
theorem d_Mo_instance_266 : decode prog_14_method_66_code 266 = .ok (.getfield 276, 3) := by decide +kernel
theorem d_Mo_instance_269 : decode prog_14_method_66_code 269 = .ok (.iconst 1, 1) := by decide +kernel
theorem d_Mo_instance_270 : decode prog_14_method_66_code 270 = .ok (.iadd, 1) := by decide +kernel
theorem d_Mo_instance_271 : decode prog_14_method_66_code 271 = .ok (.putfield 276, 3) := by decide +kernel
theorem d_Mo_instance_274 : decode prog_14_method_66_code 274 = .ok (.aload_n 0, 1) := by decide +kernel
theorem d_Mo_instance_275 : decode prog_14_method_66_code 275 = .ok (.getfield 71, 3) := by decide +kernel
theorem d_Mo_instance_278 : decode prog_14_method_66_code 278 = .ok (.aload_n 0, 1) := by decide +kernel
theorem d_Mo_instance_279 : decode prog_14_method_66_code 279 = .ok (.getfield 276, 3) := by decide +kernel
theorem d_Mo_instance_282 : decode prog_14_method_66_code 282 = .ok (.aload_n 0, 1) := by decide +kernel
theorem d_Mo_instance_283 : decode prog_14_method_66_code 283 = .ok (.getfield 371, 3) := by decide +kernel
theorem d_Mo_instance_286 : decode prog_14_method_66_code 286 = .ok (.iastore, 1) := by decide +kernel
theorem d_Mo_instance_287 : decode prog_14_method_66_code 287 = .ok (.return_, 1) := by decide +kernel
theorem f_Mo_65 : cx_F "CircuitTextModel" 65 12 28 (.array .int) true := ⟨_, F_Mo, 58, t_Mo, k_Mo, by decide, rfl, rfl, Or.inl (in_6 (List.mem_of_getElem? (i := 123) rfl))⟩
theorem ff_Mo_65 : cx_FF "CircuitTextModel" 65 12 28 (.array .int) := ⟨_, F_Mo, 58, t_Mo, k_Mo, by decide, rfl, rfl, rfl, (in_6 (List.mem_of_getElem? (i := 123) rfl))⟩
abbrev m_Mo_link : cx_M := (⟨"CircuitTextModel", "link", "(I)V"⟩, prog_14_method_68_code, 9, (Option.none : Option Jvm.ClassFile.FieldType), [], [false, false])
theorem w_Mo_link : cx_W m_Mo_link := ⟨Or.inl ⟨(in_8 (List.mem_of_getElem? (i := 72) rfl)), rfl⟩, by decide +kernel, by decide, by decide, by decide +kernel⟩
theorem n_Mo_link : (parseMethodDescriptor m_Mo_link.1.desc).map (fun d => d.parameters.length) = some 1 := by decide +kernel
theorem d_Mo_link_0 : decode prog_14_method_68_code 0 = .ok (.aload_n 0, 1) := by decide +kernel
theorem d_Mo_link_1 : decode prog_14_method_68_code 1 = .ok (.getfield 19, 3) := by decide +kernel
theorem d_Mo_link_4 : decode prog_14_method_68_code 4 = .ok (.aload_n 0, 1) := by decide +kernel
theorem d_Mo_link_5 : decode prog_14_method_68_code 5 = .ok (.getfield 193, 3) := by decide +kernel
theorem d_Mo_link_8 : decode prog_14_method_68_code 8 = .ok (.iaload, 1) := by decide +kernel
theorem d_Mo_link_9 : decode prog_14_method_68_code 9 = .ok (.istore_n 2, 1) := by decide +kernel
theorem d_Mo_link_10 : decode prog_14_method_68_code 10 = .ok (.aload_n 0, 1) := by decide +kernel
theorem d_Mo_link_11 : decode prog_14_method_68_code 11 = .ok (.dup, 1) := by decide +kernel
theorem d_Mo_link_12 : decode prog_14_method_68_code 12 = .ok (.getfield 193, 3) := by decide +kernel
theorem d_Mo_link_15 : decode prog_14_method_68_code 15 = .ok (.iconst 1, 1) := by decide +kernel
theorem d_Mo_link_16 : decode prog_14_method_68_code 16 = .ok (.iadd, 1) := by decide +kernel
theorem d_Mo_link_17 : decode prog_14_method_68_code 17 = .ok (.putfield 193, 3) := by decide +kernel
theorem d_Mo_link_20 : decode prog_14_method_68_code 20 = .ok (.aload_n 0, 1) := by decide +kernel
theorem d_Mo_link_21 : decode prog_14_method_68_code 21 = .ok (.aload_n 0, 1) := by decide +kernel
theorem d_Mo_link_22 : decode prog_14_method_68_code 22 = .ok (.getfield 193, 3) := by decide +kernel
theorem d_Mo_link_25 : decode prog_14_method_68_code 25 = .ok (.aload_n 0, 1) := by decide +kernel
theorem d_Mo_link_26 : decode prog_14_method_68_code 26 = .ok (.getfield 28, 3) := by decide +kernel
theorem d_Mo_link_29 : decode prog_14_method_68_code 29 = .ok (.iload_n 1, 1) := by decide +kernel
theorem d_Mo_link_30 : decode prog_14_method_68_code 30 = .ok (.iaload, 1) := by decide +kernel
theorem d_Mo_link_31 : decode prog_14_method_68_code 31 = .ok (.aload_n 0, 1) := by decide +kernel
theorem d_Mo_link_32 : decode prog_14_method_68_code 32 = .ok (.getfield 28, 3) := by decide +kernel
theorem d_Mo_link_35 : decode prog_14_method_68_code 35 = .ok (.iload_n 1, 1) := by decide +kernel
theorem d_Mo_link_36 : decode prog_14_method_68_code 36 = .ok (.iconst 1, 1) := by decide +kernel
theorem d_Mo_link_37 : decode prog_14_method_68_code 37 = .ok (.iadd, 1) := by decide +kernel
theorem d_Mo_link_38 : decode prog_14_method_68_code 38 = .ok (.iaload, 1) := by decide +kernel
theorem d_Mo_link_39 : decode prog_14_method_68_code 39 = .ok (.invokevirtual 272, 3) := by decide +kernel
theorem d_Mo_link_42 : decode prog_14_method_68_code 42 = .ok (.istore_n 3, 1) := by decide +kernel
theorem d_Mo_link_43 : decode prog_14_method_68_code 43 = .ok (.iload_n 3, 1) := by decide +kernel
theorem d_Mo_link_44 : decode prog_14_method_68_code 44 = .ok (.ifCond .lt 29, 3) := by decide +kernel
theorem d_Mo_link_47 : decode prog_14_method_68_code 47 = .ok (.aload_n 0, 1) := by decide +kernel
theorem d_Mo_link_48 : decode prog_14_method_68_code 48 = .ok (.getfield 46, 3) := by decide +kernel
theorem d_Mo_link_51 : decode prog_14_method_68_code 51 = .ok (.iload_n 3, 1) := by decide +kernel
theorem d_Mo_link_52 : decode prog_14_method_68_code 52 = .ok (.iaload, 1) := by decide +kernel
theorem d_Mo_link_53 : decode prog_14_method_68_code 53 = .ok (.iconst 2, 1) := by decide +kernel
theorem d_Mo_link_54 : decode prog_14_method_68_code 54 = .ok (.if_icmp .gt 19, 3) := by decide +kernel
theorem d_Mo_link_57 : decode prog_14_method_68_code 57 = .ok (.aload_n 0, 1) := by decide +kernel
theorem d_Mo_link_58 : decode prog_14_method_68_code 58 = .ok (.aload_n 0, 1) := by decide +kernel
theorem d_Mo_link_59 : decode prog_14_method_68_code 59 = .ok (.getfield 276, 3) := by decide +kernel
theorem d_Mo_link_62 : decode prog_14_method_68_code 62 = .ok (.aload_n 0, 1) := by decide +kernel
theorem d_Mo_link_63 : decode prog_14_method_68_code 63 = .ok (.getfield 371, 3) := by decide +kernel
theorem d_Mo_link_66 : decode prog_14_method_68_code 66 = .ok (.iload_n 3, 1) := by decide +kernel
theorem d_Mo_link_67 : decode prog_14_method_68_code 67 = .ok (.invokevirtual 377, 3) := by decide +kernel
theorem d_Mo_link_70 : decode prog_14_method_68_code 70 = .ok (.ifCond .lt 19, 3) := by decide +kernel
theorem d_Mo_link_73 : decode prog_14_method_68_code 73 = .ok (.aload_n 0, 1) := by decide +kernel
theorem d_Mo_link_74 : decode prog_14_method_68_code 74 = .ok (.bipush 23, 2) := by decide +kernel
theorem d_Mo_link_76 : decode prog_14_method_68_code 76 = .ok (.aload_n 0, 1) := by decide +kernel
theorem d_Mo_link_77 : decode prog_14_method_68_code 77 = .ok (.getfield 19, 3) := by decide +kernel
theorem d_Mo_link_80 : decode prog_14_method_68_code 80 = .ok (.aload_n 0, 1) := by decide +kernel
theorem d_Mo_link_81 : decode prog_14_method_68_code 81 = .ok (.getfield 193, 3) := by decide +kernel
theorem d_Mo_link_84 : decode prog_14_method_68_code 84 = .ok (.iaload, 1) := by decide +kernel
theorem d_Mo_link_85 : decode prog_14_method_68_code 85 = .ok (.invokevirtual 196, 3) := by decide +kernel
theorem d_Mo_link_88 : decode prog_14_method_68_code 88 = .ok (.return_, 1) := by decide +kernel
theorem d_Mo_link_89 : decode prog_14_method_68_code 89 = .ok (.aload_n 0, 1) := by decide +kernel
theorem d_Mo_link_90 : decode prog_14_method_68_code 90 = .ok (.aload_n 0, 1) := by decide +kernel
theorem d_Mo_link_91 : decode prog_14_method_68_code 91 = .ok (.getfield 193, 3) := by decide +kernel
theorem d_Mo_link_94 : decode prog_14_method_68_code 94 = .ok (.iconst 2, 1) := by decide +kernel
theorem d_Mo_link_95 : decode prog_14_method_68_code 95 = .ok (.iadd, 1) := by decide +kernel
theorem d_Mo_link_96 : decode prog_14_method_68_code 96 = .ok (.putfield 193, 3) := by decide +kernel
theorem d_Mo_link_99 : decode prog_14_method_68_code 99 = .ok (.aload_n 0, 1) := by decide +kernel
theorem d_Mo_link_100 : decode prog_14_method_68_code 100 = .ok (.getfield 193, 3) := by decide +kernel
theorem d_Mo_link_103 : decode prog_14_method_68_code 103 = .ok (.istore 4, 2) := by decide +kernel
theorem d_Mo_link_105 : decode prog_14_method_68_code 105 = .ok (.aload_n 0, 1) := by decide +kernel
theorem d_Mo_link_106 : decode prog_14_method_68_code 106 = .ok (.getfield 279, 3) := by decide +kernel
theorem d_Mo_link_109 : decode prog_14_method_68_code 109 = .ok (.istore 5, 2) := by decide +kernel
theorem d_Mo_link_111 : decode prog_14_method_68_code 111 = .ok (.aload_n 0, 1) := by decide +kernel
theorem d_Mo_link_112 : decode prog_14_method_68_code 112 = .ok (.invokevirtual 288, 3) := by decide +kernel
theorem d_Mo_link_115 : decode prog_14_method_68_code 115 = .ok (.istore 6, 2) := by decide +kernel
theorem d_Mo_link_117 : decode prog_14_method_68_code 117 = .ok (.aload_n 0, 1) := by decide +kernel
theorem d_Mo_link_118 : decode prog_14_method_68_code 118 = .ok (.getfield 187, 3) := by decide +kernel
theorem d_Mo_link_121 : decode prog_14_method_68_code 121 = .ok (.ifCond .eq 4, 3) := by decide +kernel
theorem d_Mo_link_124 : decode prog_14_method_68_code 124 = .ok (.return_, 1) := by decide +kernel
theorem d_Mo_link_125 : decode prog_14_method_68_code 125 = .ok (.aload_n 0, 1) := by decide +kernel
theorem d_Mo_link_126 : decode prog_14_method_68_code 126 = .ok (.getfield 46, 3) := by decide +kernel
theorem d_Mo_link_129 : decode prog_14_method_68_code 129 = .ok (.iload_n 3, 1) := by decide +kernel
theorem d_Mo_link_130 : decode prog_14_method_68_code 130 = .ok (.iaload, 1) := by decide +kernel
theorem d_Mo_link_131 : decode prog_14_method_68_code 131 = .ok (.ifCond .eq 7, 3) := by decide +kernel
theorem d_Mo_link_134 : decode prog_14_method_68_code 134 = .ok (.iconst 1, 1) := by decide +kernel
theorem d_Mo_link_135 : decode prog_14_method_68_code 135 = .ok (.goto 4, 3) := by decide +kernel
theorem d_Mo_link_138 : decode prog_14_method_68_code 138 = .ok (.iconst 0, 1) := by decide +kernel
theorem d_Mo_link_139 : decode prog_14_method_68_code 139 = .ok (.istore 7, 2) := by decide +kernel
theorem d_Mo_link_141 : decode prog_14_method_68_code 141 = .ok (.iload 7, 2) := by decide +kernel
theorem d_Mo_link_143 : decode prog_14_method_68_code 143 = .ok (.ifCond .eq 36, 3) := by decide +kernel
theorem d_Mo_link_146 : decode prog_14_method_68_code 146 = .ok (.aload_n 0, 1) := by decide +kernel
theorem d_Mo_link_147 : decode prog_14_method_68_code 147 = .ok (.getfield 15, 3) := by decide +kernel
theorem d_Mo_link_150 : decode prog_14_method_68_code 150 = .ok (.iload 4, 2) := by decide +kernel
theorem d_Mo_link_152 : decode prog_14_method_68_code 152 = .ok (.iaload, 1) := by decide +kernel
theorem d_Mo_link_153 : decode prog_14_method_68_code 153 = .ok (.sipush 400, 3) := by decide +kernel
theorem d_Mo_link_156 : decode prog_14_method_68_code 156 = .ok (.if_icmp .ne 23, 3) := by decide +kernel
theorem d_Mo_link_159 : decode prog_14_method_68_code 159 = .ok (.aload_n 0, 1) := by decide +kernel
theorem d_Mo_link_160 : decode prog_14_method_68_code 160 = .ok (.getfield 193, 3) := by decide +kernel
theorem d_Mo_link_163 : decode prog_14_method_68_code 163 = .ok (.iload 4, 2) := by decide +kernel
theorem d_Mo_link_165 : decode prog_14_method_68_code 165 = .ok (.iconst 1, 1) := by decide +kernel
theorem d_Mo_link_166 : decode prog_14_method_68_code 166 = .ok (.iadd, 1) := by decide +kernel
theorem d_Mo_link_167 : decode prog_14_method_68_code 167 = .ok (.if_icmp .ne 12, 3) := by decide +kernel
theorem d_Mo_link_170 : decode prog_14_method_68_code 170 = .ok (.aload_n 0, 1) := by decide +kernel
theorem d_Mo_link_171 : decode prog_14_method_68_code 171 = .ok (.iload 4, 2) := by decide +kernel
theorem d_Mo_link_173 : decode prog_14_method_68_code 173 = .ok (.invokevirtual 330, 3) := by decide +kernel
theorem d_Mo_link_176 : decode prog_14_method_68_code 176 = .ok (.goto 4, 3) := by decide +kernel
theorem d_Mo_link_179 : decode prog_14_method_68_code 179 = .ok (.iconst (-1), 1) := by decide +kernel
theorem d_Mo_link_180 : decode prog_14_method_68_code 180 = .ok (.istore 8, 2) := by decide +kernel
theorem d_Mo_link_182 : decode prog_14_method_68_code 182 = .ok (.iload 7, 2) := by decide +kernel
theorem d_Mo_link_184 : decode prog_14_method_68_code 184 = .ok (.ifCond .eq 31, 3) := by decide +kernel
theorem d_Mo_link_187 : decode prog_14_method_68_code 187 = .ok (.iload 8, 2) := by decide +kernel
theorem d_Mo_link_189 : decode prog_14_method_68_code 189 = .ok (.ifCond .lt 12, 3) := by decide +kernel
theorem d_Mo_link_192 : decode prog_14_method_68_code 192 = .ok (.aload_n 0, 1) := by decide +kernel
theorem d_Mo_link_193 : decode prog_14_method_68_code 193 = .ok (.iload 8, 2) := by decide +kernel
theorem d_Mo_link_195 : decode prog_14_method_68_code 195 = .ok (.invokevirtual 347, 3) := by decide +kernel
theorem d_Mo_link_198 : decode prog_14_method_68_code 198 = .ok (.ifCond .ne 17, 3) := by decide +kernel
theorem d_Mo_link_201 : decode prog_14_method_68_code 201 = .ok (.aload_n 0, 1) := by decide +kernel
theorem d_Mo_link_202 : decode prog_14_method_68_code 202 = .ok (.bipush 25, 2) := by decide +kernel
theorem d_Mo_link_204 : decode prog_14_method_68_code 204 = .ok (.aload_n 0, 1) := by decide +kernel
theorem d_Mo_link_205 : decode prog_14_method_68_code 205 = .ok (.getfield 19, 3) := by decide +kernel
theorem d_Mo_link_208 : decode prog_14_method_68_code 208 = .ok (.iload 4, 2) := by decide +kernel
theorem d_Mo_link_210 : decode prog_14_method_68_code 210 = .ok (.iaload, 1) := by decide +kernel
theorem d_Mo_link_211 : decode prog_14_method_68_code 211 = .ok (.invokevirtual 196, 3) := by decide +kernel
theorem d_Mo_link_214 : decode prog_14_method_68_code 214 = .ok (.return_, 1) := by decide +kernel
theorem d_Mo_link_215 : decode prog_14_method_68_code 215 = .ok (.iload 6, 2) := by decide +kernel
theorem d_Mo_link_217 : decode prog_14_method_68_code 217 = .ok (.aload_n 0, 1) := by decide +kernel
theorem d_Mo_link_218 : decode prog_14_method_68_code 218 = .ok (.getfield 43, 3) := by decide +kernel
theorem d_Mo_link_221 : decode prog_14_method_68_code 221 = .ok (.iload_n 3, 1) := by decide +kernel
theorem d_Mo_link_222 : decode prog_14_method_68_code 222 = .ok (.iaload, 1) := by decide +kernel
theorem d_Mo_link_223 : decode prog_14_method_68_code 223 = .ok (.if_icmp .eq 10, 3) := by decide +kernel
theorem d_Mo_link_226 : decode prog_14_method_68_code 226 = .ok (.aload_n 0, 1) := by decide +kernel
theorem d_Mo_link_227 : decode prog_14_method_68_code 227 = .ok (.bipush 30, 2) := by decide +kernel
theorem d_Mo_link_229 : decode prog_14_method_68_code 229 = .ok (.iload_n 2, 1) := by decide +kernel
theorem d_Mo_link_230 : decode prog_14_method_68_code 230 = .ok (.invokevirtual 196, 3) := by decide +kernel
theorem d_Mo_link_233 : decode prog_14_method_68_code 233 = .ok (.iload 7, 2) := by decide +kernel
theorem d_Mo_link_235 : decode prog_14_method_68_code 235 = .ok (.ifCond .eq 26, 3) := by decide +kernel
theorem d_Mo_link_238 : decode prog_14_method_68_code 238 = .ok (.aload_n 0, 1) := by decide +kernel
theorem d_Mo_link_239 : decode prog_14_method_68_code 239 = .ok (.getfield 53, 3) := by decide +kernel
theorem d_Mo_link_242 : decode prog_14_method_68_code 242 = .ok (.iload 8, 2) := by decide +kernel
theorem d_Mo_link_244 : decode prog_14_method_68_code 244 = .ok (.iaload, 1) := by decide +kernel
theorem d_Mo_link_245 : decode prog_14_method_68_code 245 = .ok (.ifCond .eq 16, 3) := by decide +kernel
theorem d_Mo_link_248 : decode prog_14_method_68_code 248 = .ok (.aload_n 0, 1) := by decide +kernel
theorem d_Mo_link_249 : decode prog_14_method_68_code 249 = .ok (.bipush 31, 2) := by decide +kernel
theorem d_Mo_link_251 : decode prog_14_method_68_code 251 = .ok (.aload_n 0, 1) := by decide +kernel
theorem d_Mo_link_252 : decode prog_14_method_68_code 252 = .ok (.getfield 19, 3) := by decide +kernel
theorem d_Mo_link_255 : decode prog_14_method_68_code 255 = .ok (.iload 4, 2) := by decide +kernel
theorem d_Mo_link_257 : decode prog_14_method_68_code 257 = .ok (.iaload, 1) := by decide +kernel
theorem d_Mo_link_258 : decode prog_14_method_68_code 258 = .ok (.invokevirtual 196, 3) := by decide +kernel
theorem d_Mo_link_261 : decode prog_14_method_68_code 261 = .ok (.aload_n 0, 1) := by decide +kernel
theorem d_Mo_link_262 : decode prog_14_method_68_code 262 = .ok (.getfield 74, 3) := by decide +kernel
theorem d_Mo_link_265 : decode prog_14_method_68_code 265 = .ok (.aload_n 0, 1) := by decide +kernel
theorem d_Mo_link_266 : decode prog_14_method_68_code 266 = .ok (.getfield 371, 3) := by decide +kernel
theorem d_Mo_link_269 : decode prog_14_method_68_code 269 = .ok (.iload_n 3, 1) := by decide +kernel
theorem d_Mo_link_270 : decode prog_14_method_68_code 270 = .ok (.iastore, 1) := by decide +kernel
theorem d_Mo_link_271 : decode prog_14_method_68_code 271 = .ok (.aload_n 0, 1) := by decide +kernel
theorem d_Mo_link_272 : decode prog_14_method_68_code 272 = .ok (.getfield 77, 3) := by decide +kernel
theorem d_Mo_link_275 : decode prog_14_method_68_code 275 = .ok (.aload_n 0, 1) := by decide +kernel
theorem d_Mo_link_276 : decode prog_14_method_68_code 276 = .ok (.getfield 371, 3) := by decide +kernel
theorem d_Mo_link_279 : decode prog_14_method_68_code 279 = .ok (.iload 5, 2) := by decide +kernel
theorem d_Mo_link_281 : decode prog_14_method_68_code 281 = .ok (.iastore, 1) := by decide +kernel
theorem d_Mo_link_282 : decode prog_14_method_68_code 282 = .ok (.aload_n 0, 1) := by decide +kernel
theorem d_Mo_link_283 : decode prog_14_method_68_code 283 = .ok (.getfield 80, 3) := by decide +kernel
theorem d_Mo_link_286 : decode prog_14_method_68_code 286 = .ok (.aload_n 0, 1) := by decide +kernel
theorem d_Mo_link_287 : decode prog_14_method_68_code 287 = .ok (.getfield 371, 3) := by decide +kernel
theorem d_Mo_link_290 : decode prog_14_method_68_code 290 = .ok (.aload_n 0, 1) := by decide +kernel
theorem d_Mo_link_291 : decode prog_14_method_68_code 291 = .ok (.getfield 279, 3) := by decide +kernel
theorem d_Mo_link_294 : decode prog_14_method_68_code 294 = .ok (.iastore, 1) := by decide +kernel
theorem d_Mo_link_295 : decode prog_14_method_68_code 295 = .ok (.aload_n 0, 1) := by decide +kernel
theorem d_Mo_link_296 : decode prog_14_method_68_code 296 = .ok (.dup, 1) := by decide +kernel
theorem d_Mo_link_297 : decode prog_14_method_68_code 297 = .ok (.getfield 371, 3) := by decide +kernel
theorem d_Mo_link_300 : decode prog_14_method_68_code 300 = .ok (.iconst 1, 1) := by decide +kernel
theorem d_Mo_link_301 : decode prog_14_method_68_code 301 = .ok (.iadd, 1) := by decide +kernel
theorem d_Mo_link_302 : decode prog_14_method_68_code 302 = .ok (.putfield 371, 3) := by decide +kernel
theorem d_Mo_link_305 : decode prog_14_method_68_code 305 = .ok (.iload 7, 2) := by decide +kernel
theorem d_Mo_link_307 : decode prog_14_method_68_code 307 = .ok (.ifCond .eq 30, 3) := by decide +kernel
theorem d_Mo_link_310 : decode prog_14_method_68_code 310 = .ok (.aload_n 0, 1) := by decide +kernel
theorem d_Mo_link_311 : decode prog_14_method_68_code 311 = .ok (.getfield 53, 3) := by decide +kernel
theorem d_Mo_link_314 : decode prog_14_method_68_code 314 = .ok (.iload 8, 2) := by decide +kernel
theorem d_Mo_link_316 : decode prog_14_method_68_code 316 = .ok (.iconst 2, 1) := by decide +kernel
theorem d_Mo_link_317 : decode prog_14_method_68_code 317 = .ok (.iastore, 1) := by decide +kernel
theorem d_Mo_link_318 : decode prog_14_method_68_code 318 = .ok (.aload_n 0, 1) := by decide +kernel
theorem d_Mo_link_319 : decode prog_14_method_68_code 319 = .ok (.getfield 56, 3) := by decide +kernel
theorem d_Mo_link_322 : decode prog_14_method_68_code 322 = .ok (.iload 8, 2) := by decide +kernel
theorem d_Mo_link_324 : decode prog_14_method_68_code 324 = .ok (.aload_n 0, 1) := by decide +kernel
theorem d_Mo_link_325 : decode prog_14_method_68_code 325 = .ok (.getfield 276, 3) := by decide +kernel
theorem d_Mo_link_328 : decode prog_14_method_68_code 328 = .ok (.iastore, 1) := by decide +kernel
theorem d_Mo_link_329 : decode prog_14_method_68_code 329 = .ok (.aload_n 0, 1) := by decide +kernel
theorem d_Mo_link_330 : decode prog_14_method_68_code 330 = .ok (.getfield 59, 3) := by decide +kernel
theorem d_Mo_link_333 : decode prog_14_method_68_code 333 = .ok (.iload 8, 2) := by decide +kernel
theorem d_Mo_link_335 : decode prog_14_method_68_code 335 = .ok (.iload_n 3, 1) := by decide +kernel
theorem d_Mo_link_336 : decode prog_14_method_68_code 336 = .ok (.iastore, 1) := by decide +kernel
theorem d_Mo_link_337 : decode prog_14_method_68_code 337 = .ok (.aload_n 0, 1) := by decide +kernel
theorem d_Mo_link_338 : decode prog_14_method_68_code 338 = .ok (.dup, 1) := by decide +kernel
theorem d_Mo_link_339 : decode prog_14_method_68_code 339 = .ok (.getfield 193, 3) := by decide +kernel
theorem d_Mo_link_342 : decode prog_14_method_68_code 342 = .ok (.iconst 1, 1) := by decide +kernel
theorem d_Mo_link_343 : decode prog_14_method_68_code 343 = .ok (.iadd, 1) := by decide +kernel
theorem d_Mo_link_344 : decode prog_14_method_68_code 344 = .ok (.putfield 193, 3) := by decide +kernel
theorem d_Mo_link_347 : decode prog_14_method_68_code 347 = .ok (.return_, 1) := by decide +kernel
theorem f_Mo_74 : cx_F "CircuitTextModel" 74 12 32 (.array .int) true := ⟨_, F_Mo, 58, t_Mo, k_Mo, by decide, rfl, rfl, Or.inl (in_6 (List.mem_of_getElem? (i := 127) rfl))⟩
theorem ff_Mo_74 : cx_FF "CircuitTextModel" 74 12 32 (.array .int) := ⟨_, F_Mo, 58, t_Mo, k_Mo, by decide, rfl, rfl, rfl, (in_6 (List.mem_of_getElem? (i := 127) rfl))⟩
theorem f_Mo_77 : cx_F "CircuitTextModel" 77 12 33 (.array .int) true := ⟨_, F_Mo, 58, t_Mo, k_Mo, by decide, rfl, rfl, Or.inl (in_6 (List.mem_of_getElem? (i := 128) rfl))⟩
theorem ff_Mo_77 : cx_FF "CircuitTextModel" 77 12 33 (.array .int) := ⟨_, F_Mo, 58, t_Mo, k_Mo, by decide, rfl, rfl, rfl, (in_6 (List.mem_of_getElem? (i := 128) rfl))⟩
theorem f_Mo_80 : cx_F "CircuitTextModel" 80 12 34 (.array .int) true := ⟨_, F_Mo, 58, t_Mo, k_Mo, by decide, rfl, rfl, Or.inl (in_6 (List.mem_of_getElem? (i := 129) rfl))⟩
theorem ff_Mo_80 : cx_FF "CircuitTextModel" 80 12 34 (.array .int) := ⟨_, F_Mo, 58, t_Mo, k_Mo, by decide, rfl, rfl, rfl, (in_6 (List.mem_of_getElem? (i := 129) rfl))⟩
abbrev m_Mo_linkOf : cx_M := (⟨"CircuitTextModel", "linkOf", "(III)I"⟩, prog_14_method_67_code, 5, (Option.some Jvm.ClassFile.FieldType.int), [], [false, false, false, false])
theorem w_Mo_linkOf : cx_W m_Mo_linkOf := ⟨Or.inl ⟨(in_8 (List.mem_of_getElem? (i := 76) rfl)), rfl⟩, by decide +kernel, by decide, by decide, by decide +kernel⟩
theorem n_Mo_linkOf : (parseMethodDescriptor m_Mo_linkOf.1.desc).map (fun d => d.parameters.length) = some 3 := by decide +kernel
theorem d_Mo_linkOf_0 : decode prog_14_method_67_code 0 = .ok (.aload_n 0, 1) := by decide +kernel
theorem d_Mo_linkOf_1 : decode prog_14_method_67_code 1 = .ok (.getfield 71, 3) := by decide +kernel
theorem d_Mo_linkOf_4 : decode prog_14_method_67_code 4 = .ok (.iload_n 1, 1) := by decide +kernel
theorem d_Mo_linkOf_5 : decode prog_14_method_67_code 5 = .ok (.iaload, 1) := by decide +kernel
theorem d_Mo_linkOf_6 : decode prog_14_method_67_code 6 = .ok (.istore 4, 2) := by decide +kernel
theorem d_Mo_linkOf_8 : decode prog_14_method_67_code 8 = .ok (.iload 4, 2) := by decide +kernel
theorem d_Mo_linkOf_10 : decode prog_14_method_67_code 10 = .ok (.iload_n 2, 1) := by decide +kernel
theorem d_Mo_linkOf_11 : decode prog_14_method_67_code 11 = .ok (.if_icmp .ge 23, 3) := by decide +kernel
theorem d_Mo_linkOf_14 : decode prog_14_method_67_code 14 = .ok (.aload_n 0, 1) := by decide +kernel
theorem d_Mo_linkOf_15 : decode prog_14_method_67_code 15 = .ok (.getfield 74, 3) := by decide +kernel
theorem d_Mo_linkOf_18 : decode prog_14_method_67_code 18 = .ok (.iload 4, 2) := by decide +kernel
theorem d_Mo_linkOf_20 : decode prog_14_method_67_code 20 = .ok (.iaload, 1) := by decide +kernel
theorem d_Mo_linkOf_21 : decode prog_14_method_67_code 21 = .ok (.iload_n 3, 1) := by decide +kernel
theorem d_Mo_linkOf_22 : decode prog_14_method_67_code 22 = .ok (.if_icmp .ne 6, 3) := by decide +kernel
theorem d_Mo_linkOf_25 : decode prog_14_method_67_code 25 = .ok (.iload 4, 2) := by decide +kernel
theorem d_Mo_linkOf_27 : decode prog_14_method_67_code 27 = .ok (.ireturn, 1) := by decide +kernel
theorem d_Mo_linkOf_28 : decode prog_14_method_67_code 28 = .ok (.iinc 4 1, 3) := by decide +kernel
theorem d_Mo_linkOf_31 : decode prog_14_method_67_code 31 = .ok (.goto (-23), 3) := by decide +kernel
theorem d_Mo_linkOf_34 : decode prog_14_method_67_code 34 = .ok (.iconst (-1), 1) := by decide +kernel
theorem d_Mo_linkOf_35 : decode prog_14_method_67_code 35 = .ok (.ireturn, 1) := by decide +kernel
abbrev m_Mo_feed : cx_M := (⟨"CircuitTextModel", "feed", "(IIIII)I"⟩, prog_14_method_74_code, 8, (Option.some Jvm.ClassFile.FieldType.int), [], [false, false, false, false, false, false])
theorem w_Mo_feed : cx_W m_Mo_feed := ⟨Or.inl ⟨(in_8 (List.mem_of_getElem? (i := 80) rfl)), rfl⟩, by decide +kernel, by decide, by decide, by decide +kernel⟩
theorem n_Mo_feed : (parseMethodDescriptor m_Mo_feed.1.desc).map (fun d => d.parameters.length) = some 5 := by decide +kernel
theorem d_Mo_feed_0 : decode prog_14_method_74_code 0 = .ok (.aload_n 0, 1) := by decide +kernel
theorem d_Mo_feed_1 : decode prog_14_method_74_code 1 = .ok (.aload_n 0, 1) := by decide +kernel
theorem d_Mo_feed_2 : decode prog_14_method_74_code 2 = .ok (.getfield 407, 3) := by decide +kernel
theorem d_Mo_feed_5 : decode prog_14_method_74_code 5 = .ok (.bipush 20, 2) := by decide +kernel
theorem d_Mo_feed_7 : decode prog_14_method_74_code 7 = .ok (.iadd, 1) := by decide +kernel
theorem d_Mo_feed_8 : decode prog_14_method_74_code 8 = .ok (.aload_n 0, 1) := by decide +kernel
theorem d_Mo_feed_9 : decode prog_14_method_74_code 9 = .ok (.getfield 8, 3) := by decide +kernel
theorem d_Mo_feed_12 : decode prog_14_method_74_code 12 = .ok (.arraylength, 1) := by decide +kernel
theorem d_Mo_feed_13 : decode prog_14_method_74_code 13 = .ok (.if_icmp .le 7, 3) := by decide +kernel
theorem d_Mo_feed_16 : decode prog_14_method_74_code 16 = .ok (.iconst 1, 1) := by decide +kernel
theorem d_Mo_feed_17 : decode prog_14_method_74_code 17 = .ok (.goto 4, 3) := by decide +kernel
theorem d_Mo_feed_20 : decode prog_14_method_74_code 20 = .ok (.iconst 0, 1) := by decide +kernel
theorem d_Mo_feed_21 : decode prog_14_method_74_code 21 = .ok (.putfield 122, 3) := by decide +kernel
theorem d_Mo_feed_24 : decode prog_14_method_74_code 24 = .ok (.aload_n 0, 1) := by decide +kernel
theorem d_Mo_feed_25 : decode prog_14_method_74_code 25 = .ok (.getfield 122, 3) := by decide +kernel
theorem d_Mo_feed_28 : decode prog_14_method_74_code 28 = .ok (.ifCond .le 5, 3) := by decide +kernel
theorem d_Mo_feed_31 : decode prog_14_method_74_code 31 = .ok (.iconst 0, 1) := by decide +kernel
theorem d_Mo_feed_32 : decode prog_14_method_74_code 32 = .ok (.ireturn, 1) := by decide +kernel
theorem d_Mo_feed_33 : decode prog_14_method_74_code 33 = .ok (.iconst 0, 1) := by decide +kernel
theorem d_Mo_feed_34 : decode prog_14_method_74_code 34 = .ok (.istore 6, 2) := by decide +kernel
theorem d_Mo_feed_36 : decode prog_14_method_74_code 36 = .ok (.iload 6, 2) := by decide +kernel
theorem d_Mo_feed_38 : decode prog_14_method_74_code 38 = .ok (.bipush 20, 2) := by decide +kernel
theorem d_Mo_feed_40 : decode prog_14_method_74_code 40 = .ok (.if_icmp .ge 83, 3) := by decide +kernel
theorem d_Mo_feed_43 : decode prog_14_method_74_code 43 = .ok (.iload 6, 2) := by decide +kernel
theorem d_Mo_feed_45 : decode prog_14_method_74_code 45 = .ok (.iconst 4, 1) := by decide +kernel
theorem d_Mo_feed_46 : decode prog_14_method_74_code 46 = .ok (.if_icmp .ge 7, 3) := by decide +kernel
theorem d_Mo_feed_49 : decode prog_14_method_74_code 49 = .ok (.iload_n 1, 1) := by decide +kernel
theorem d_Mo_feed_50 : decode prog_14_method_74_code 50 = .ok (.goto 39, 3) := by decide +kernel
theorem d_Mo_feed_53 : decode prog_14_method_74_code 53 = .ok (.iload 6, 2) := by decide +kernel
theorem d_Mo_feed_55 : decode prog_14_method_74_code 55 = .ok (.bipush 8, 2) := by decide +kernel
theorem d_Mo_feed_57 : decode prog_14_method_74_code 57 = .ok (.if_icmp .ge 7, 3) := by decide +kernel
theorem d_Mo_feed_60 : decode prog_14_method_74_code 60 = .ok (.iload_n 2, 1) := by decide +kernel
theorem d_Mo_feed_61 : decode prog_14_method_74_code 61 = .ok (.goto 28, 3) := by decide +kernel
theorem d_Mo_feed_64 : decode prog_14_method_74_code 64 = .ok (.iload 6, 2) := by decide +kernel
theorem d_Mo_feed_66 : decode prog_14_method_74_code 66 = .ok (.bipush 12, 2) := by decide +kernel
theorem d_Mo_feed_68 : decode prog_14_method_74_code 68 = .ok (.if_icmp .ge 7, 3) := by decide +kernel
theorem d_Mo_feed_71 : decode prog_14_method_74_code 71 = .ok (.iload_n 3, 1) := by decide +kernel
theorem d_Mo_feed_72 : decode prog_14_method_74_code 72 = .ok (.goto 17, 3) := by decide +kernel
theorem d_Mo_feed_75 : decode prog_14_method_74_code 75 = .ok (.iload 6, 2) := by decide +kernel
theorem d_Mo_feed_77 : decode prog_14_method_74_code 77 = .ok (.bipush 16, 2) := by decide +kernel
theorem d_Mo_feed_79 : decode prog_14_method_74_code 79 = .ok (.if_icmp .ge 8, 3) := by decide +kernel
theorem d_Mo_feed_82 : decode prog_14_method_74_code 82 = .ok (.iload 4, 2) := by decide +kernel
theorem d_Mo_feed_84 : decode prog_14_method_74_code 84 = .ok (.goto 5, 3) := by decide +kernel
theorem d_Mo_feed_87 : decode prog_14_method_74_code 87 = .ok (.iload 5, 2) := by decide +kernel
theorem d_Mo_feed_89 : decode prog_14_method_74_code 89 = .ok (.istore 7, 2) := by decide +kernel
theorem d_Mo_feed_91 : decode prog_14_method_74_code 91 = .ok (.aload_n 0, 1) := by decide +kernel
theorem d_Mo_feed_92 : decode prog_14_method_74_code 92 = .ok (.getfield 8, 3) := by decide +kernel
theorem d_Mo_feed_95 : decode prog_14_method_74_code 95 = .ok (.aload_n 0, 1) := by decide +kernel
theorem d_Mo_feed_96 : decode prog_14_method_74_code 96 = .ok (.getfield 407, 3) := by decide +kernel
theorem d_Mo_feed_99 : decode prog_14_method_74_code 99 = .ok (.iload 6, 2) := by decide +kernel
theorem d_Mo_feed_101 : decode prog_14_method_74_code 101 = .ok (.iadd, 1) := by decide +kernel
theorem d_Mo_feed_102 : decode prog_14_method_74_code 102 = .ok (.iload 7, 2) := by decide +kernel
theorem d_Mo_feed_104 : decode prog_14_method_74_code 104 = .ok (.bipush 24, 2) := by decide +kernel
theorem d_Mo_feed_106 : decode prog_14_method_74_code 106 = .ok (.bipush 8, 2) := by decide +kernel
theorem d_Mo_feed_108 : decode prog_14_method_74_code 108 = .ok (.iload 6, 2) := by decide +kernel
theorem d_Mo_feed_110 : decode prog_14_method_74_code 110 = .ok (.iconst 4, 1) := by decide +kernel
theorem d_Mo_feed_111 : decode prog_14_method_74_code 111 = .ok (.irem, 1) := by decide +kernel
theorem d_Mo_feed_112 : decode prog_14_method_74_code 112 = .ok (.imul, 1) := by decide +kernel
theorem d_Mo_feed_113 : decode prog_14_method_74_code 113 = .ok (.isub, 1) := by decide +kernel
theorem d_Mo_feed_114 : decode prog_14_method_74_code 114 = .ok (.ishr, 1) := by decide +kernel
theorem d_Mo_feed_115 : decode prog_14_method_74_code 115 = .ok (.i2b, 1) := by decide +kernel
theorem d_Mo_feed_116 : decode prog_14_method_74_code 116 = .ok (.bastore, 1) := by decide +kernel
theorem d_Mo_feed_117 : decode prog_14_method_74_code 117 = .ok (.iinc 6 1, 3) := by decide +kernel
theorem d_Mo_feed_120 : decode prog_14_method_74_code 120 = .ok (.goto (-84), 3) := by decide +kernel
theorem d_Mo_feed_123 : decode prog_14_method_74_code 123 = .ok (.aload_n 0, 1) := by decide +kernel
theorem d_Mo_feed_124 : decode prog_14_method_74_code 124 = .ok (.aload_n 0, 1) := by decide +kernel
theorem d_Mo_feed_125 : decode prog_14_method_74_code 125 = .ok (.getfield 407, 3) := by decide +kernel
theorem d_Mo_feed_128 : decode prog_14_method_74_code 128 = .ok (.bipush 20, 2) := by decide +kernel
theorem d_Mo_feed_130 : decode prog_14_method_74_code 130 = .ok (.iadd, 1) := by decide +kernel
theorem d_Mo_feed_131 : decode prog_14_method_74_code 131 = .ok (.putfield 407, 3) := by decide +kernel
theorem d_Mo_feed_134 : decode prog_14_method_74_code 134 = .ok (.aload_n 0, 1) := by decide +kernel
theorem d_Mo_feed_135 : decode prog_14_method_74_code 135 = .ok (.getfield 407, 3) := by decide +kernel
theorem d_Mo_feed_138 : decode prog_14_method_74_code 138 = .ok (.ireturn, 1) := by decide +kernel
abbrev m_Mo_end : cx_M := (⟨"CircuitTextModel", "end", "(I)V"⟩, prog_14_method_75_code, 2, (Option.none : Option Jvm.ClassFile.FieldType), [], [false, false])
theorem w_Mo_end : cx_W m_Mo_end := ⟨Or.inl ⟨(in_8 (List.mem_of_getElem? (i := 84) rfl)), rfl⟩, by decide +kernel, by decide, by decide, by decide +kernel⟩
theorem n_Mo_end : (parseMethodDescriptor m_Mo_end.1.desc).map (fun d => d.parameters.length) = some 1 := by decide +kernel
theorem d_Mo_end_0 : decode prog_14_method_75_code 0 = .ok (.aload_n 0, 1) := by decide +kernel
theorem d_Mo_end_1 : decode prog_14_method_75_code 1 = .ok (.iload_n 1, 1) := by decide +kernel
theorem d_Mo_end_2 : decode prog_14_method_75_code 2 = .ok (.ifCond .lt 11, 3) := by decide +kernel
theorem d_Mo_end_5 : decode prog_14_method_75_code 5 = .ok (.iload_n 1, 1) := by decide +kernel
theorem d_Mo_end_6 : decode prog_14_method_75_code 6 = .ok (.aload_n 0, 1) := by decide +kernel
theorem d_Mo_end_7 : decode prog_14_method_75_code 7 = .ok (.getfield 407, 3) := by decide +kernel
theorem d_Mo_end_10 : decode prog_14_method_75_code 10 = .ok (.if_icmp .le 7, 3) := by decide +kernel
theorem d_Mo_end_13 : decode prog_14_method_75_code 13 = .ok (.iconst 1, 1) := by decide +kernel
theorem d_Mo_end_14 : decode prog_14_method_75_code 14 = .ok (.goto 4, 3) := by decide +kernel
theorem d_Mo_end_17 : decode prog_14_method_75_code 17 = .ok (.iconst 0, 1) := by decide +kernel
theorem d_Mo_end_18 : decode prog_14_method_75_code 18 = .ok (.putfield 122, 3) := by decide +kernel
theorem d_Mo_end_21 : decode prog_14_method_75_code 21 = .ok (.aload_n 0, 1) := by decide +kernel
theorem d_Mo_end_22 : decode prog_14_method_75_code 22 = .ok (.aload_n 0, 1) := by decide +kernel
theorem d_Mo_end_23 : decode prog_14_method_75_code 23 = .ok (.getfield 122, 3) := by decide +kernel
theorem d_Mo_end_26 : decode prog_14_method_75_code 26 = .ok (.ifCond .le 10, 3) := by decide +kernel
theorem d_Mo_end_29 : decode prog_14_method_75_code 29 = .ok (.aload_n 0, 1) := by decide +kernel
theorem d_Mo_end_30 : decode prog_14_method_75_code 30 = .ok (.getfield 407, 3) := by decide +kernel
theorem d_Mo_end_33 : decode prog_14_method_75_code 33 = .ok (.goto 4, 3) := by decide +kernel
theorem d_Mo_end_36 : decode prog_14_method_75_code 36 = .ok (.iload_n 1, 1) := by decide +kernel
theorem d_Mo_end_37 : decode prog_14_method_75_code 37 = .ok (.putfield 407, 3) := by decide +kernel
theorem d_Mo_end_40 : decode prog_14_method_75_code 40 = .ok (.return_, 1) := by decide +kernel
abbrev m_Mo_fault : cx_M := (⟨"CircuitTextModel", "fault", "()I"⟩, prog_14_method_76_code, 1, (Option.some Jvm.ClassFile.FieldType.int), [], [false])
theorem w_Mo_fault : cx_W m_Mo_fault := ⟨Or.inl ⟨(in_8 (List.mem_of_getElem? (i := 88) rfl)), rfl⟩, by decide +kernel, by decide, by decide, by decide +kernel⟩
theorem n_Mo_fault : (parseMethodDescriptor m_Mo_fault.1.desc).map (fun d => d.parameters.length) = some 0 := by decide +kernel
theorem d_Mo_fault_0 : decode prog_14_method_76_code 0 = .ok (.aload_n 0, 1) := by decide +kernel
theorem d_Mo_fault_1 : decode prog_14_method_76_code 1 = .ok (.iconst 0, 1) := by decide +kernel
theorem d_Mo_fault_2 : decode prog_14_method_76_code 2 = .ok (.putfield 122, 3) := by decide +kernel
theorem d_Mo_fault_5 : decode prog_14_method_76_code 5 = .ok (.aload_n 0, 1) := by decide +kernel
theorem d_Mo_fault_6 : decode prog_14_method_76_code 6 = .ok (.getfield 413, 3) := by decide +kernel
theorem d_Mo_fault_9 : decode prog_14_method_76_code 9 = .ok (.ireturn, 1) := by decide +kernel
abbrev m_Mo_count : cx_M := (⟨"CircuitTextModel", "count", "()I"⟩, prog_14_method_77_code, 1, (Option.some Jvm.ClassFile.FieldType.int), [], [false])
theorem w_Mo_count : cx_W m_Mo_count := ⟨Or.inl ⟨(in_8 (List.mem_of_getElem? (i := 92) rfl)), rfl⟩, by decide +kernel, by decide, by decide, by decide +kernel⟩
theorem n_Mo_count : (parseMethodDescriptor m_Mo_count.1.desc).map (fun d => d.parameters.length) = some 0 := by decide +kernel
theorem d_Mo_count_0 : decode prog_14_method_77_code 0 = .ok (.aload_n 0, 1) := by decide +kernel
theorem d_Mo_count_1 : decode prog_14_method_77_code 1 = .ok (.iconst 0, 1) := by decide +kernel
theorem d_Mo_count_2 : decode prog_14_method_77_code 2 = .ok (.putfield 122, 3) := by decide +kernel
theorem d_Mo_count_5 : decode prog_14_method_77_code 5 = .ok (.aload_n 0, 1) := by decide +kernel
theorem d_Mo_count_6 : decode prog_14_method_77_code 6 = .ok (.getfield 419, 3) := by decide +kernel
theorem d_Mo_count_9 : decode prog_14_method_77_code 9 = .ok (.ifCond .eq 10, 3) := by decide +kernel
theorem d_Mo_count_12 : decode prog_14_method_77_code 12 = .ok (.aload_n 0, 1) := by decide +kernel
theorem d_Mo_count_13 : decode prog_14_method_77_code 13 = .ok (.getfield 266, 3) := by decide +kernel
theorem d_Mo_count_16 : decode prog_14_method_77_code 16 = .ok (.goto 4, 3) := by decide +kernel
theorem d_Mo_count_19 : decode prog_14_method_77_code 19 = .ok (.iconst 0, 1) := by decide +kernel
theorem d_Mo_count_20 : decode prog_14_method_77_code 20 = .ok (.ireturn, 1) := by decide +kernel
abbrev m_Mo_module2 : cx_M := (⟨"CircuitTextModel", "module", "(II)I"⟩, prog_14_method_80_code, 6, (Option.some Jvm.ClassFile.FieldType.int), [], [false, false, false])
theorem w_Mo_module2 : cx_W m_Mo_module2 := ⟨Or.inl ⟨(in_8 (List.mem_of_getElem? (i := 96) rfl)), rfl⟩, by decide +kernel, by decide, by decide, by decide +kernel⟩
theorem n_Mo_module2 : (parseMethodDescriptor m_Mo_module2.1.desc).map (fun d => d.parameters.length) = some 2 := by decide +kernel
theorem d_Mo_module2_0 : decode prog_14_method_80_code 0 = .ok (.aload_n 0, 1) := by decide +kernel
theorem d_Mo_module2_1 : decode prog_14_method_80_code 1 = .ok (.aload_n 0, 1) := by decide +kernel
theorem d_Mo_module2_2 : decode prog_14_method_80_code 2 = .ok (.iload_n 1, 1) := by decide +kernel
theorem d_Mo_module2_3 : decode prog_14_method_80_code 3 = .ok (.invokevirtual 422, 3) := by decide +kernel
theorem d_Mo_module2_6 : decode prog_14_method_80_code 6 = .ok (.ifCond .ne 7, 3) := by decide +kernel
theorem d_Mo_module2_9 : decode prog_14_method_80_code 9 = .ok (.iconst 1, 1) := by decide +kernel
theorem d_Mo_module2_10 : decode prog_14_method_80_code 10 = .ok (.goto 18, 3) := by decide +kernel
theorem d_Mo_module2_13 : decode prog_14_method_80_code 13 = .ok (.iload_n 2, 1) := by decide +kernel
theorem d_Mo_module2_14 : decode prog_14_method_80_code 14 = .ok (.ifCond .lt 9, 3) := by decide +kernel
theorem d_Mo_module2_17 : decode prog_14_method_80_code 17 = .ok (.iload_n 2, 1) := by decide +kernel
theorem d_Mo_module2_18 : decode prog_14_method_80_code 18 = .ok (.bipush 7, 2) := by decide +kernel
theorem d_Mo_module2_20 : decode prog_14_method_80_code 20 = .ok (.if_icmp .le 7, 3) := by decide +kernel
theorem d_Mo_module2_23 : decode prog_14_method_80_code 23 = .ok (.iconst 2, 1) := by decide +kernel
theorem d_Mo_module2_24 : decode prog_14_method_80_code 24 = .ok (.goto 4, 3) := by decide +kernel
theorem d_Mo_module2_27 : decode prog_14_method_80_code 27 = .ok (.iconst 0, 1) := by decide +kernel
theorem d_Mo_module2_28 : decode prog_14_method_80_code 28 = .ok (.putfield 122, 3) := by decide +kernel
theorem d_Mo_module2_31 : decode prog_14_method_80_code 31 = .ok (.aload_n 0, 1) := by decide +kernel
theorem d_Mo_module2_32 : decode prog_14_method_80_code 32 = .ok (.getfield 122, 3) := by decide +kernel
theorem d_Mo_module2_35 : decode prog_14_method_80_code 35 = .ok (.ifCond .le 5, 3) := by decide +kernel
theorem d_Mo_module2_38 : decode prog_14_method_80_code 38 = .ok (.iconst 0, 1) := by decide +kernel
theorem d_Mo_module2_39 : decode prog_14_method_80_code 39 = .ok (.ireturn, 1) := by decide +kernel
theorem d_Mo_module2_40 : decode prog_14_method_80_code 40 = .ok (.iconst 0, 1) := by decide +kernel
theorem d_Mo_module2_41 : decode prog_14_method_80_code 41 = .ok (.istore_n 3, 1) := by decide +kernel
theorem d_Mo_module2_42 : decode prog_14_method_80_code 42 = .ok (.iconst 0, 1) := by decide +kernel
theorem d_Mo_module2_43 : decode prog_14_method_80_code 43 = .ok (.istore 4, 2) := by decide +kernel
theorem d_Mo_module2_45 : decode prog_14_method_80_code 45 = .ok (.aload_n 0, 1) := by decide +kernel
theorem d_Mo_module2_46 : decode prog_14_method_80_code 46 = .ok (.getfield 28, 3) := by decide +kernel
theorem d_Mo_module2_49 : decode prog_14_method_80_code 49 = .ok (.iload_n 1, 1) := by decide +kernel
theorem d_Mo_module2_50 : decode prog_14_method_80_code 50 = .ok (.iaload, 1) := by decide +kernel
theorem d_Mo_module2_51 : decode prog_14_method_80_code 51 = .ok (.istore 5, 2) := by decide +kernel
theorem d_Mo_module2_53 : decode prog_14_method_80_code 53 = .ok (.iload 5, 2) := by decide +kernel
theorem d_Mo_module2_55 : decode prog_14_method_80_code 55 = .ok (.aload_n 0, 1) := by decide +kernel
theorem d_Mo_module2_56 : decode prog_14_method_80_code 56 = .ok (.getfield 28, 3) := by decide +kernel
theorem d_Mo_module2_59 : decode prog_14_method_80_code 59 = .ok (.iload_n 1, 1) := by decide +kernel
theorem d_Mo_module2_60 : decode prog_14_method_80_code 60 = .ok (.iconst 1, 1) := by decide +kernel
theorem d_Mo_module2_61 : decode prog_14_method_80_code 61 = .ok (.iadd, 1) := by decide +kernel
theorem d_Mo_module2_62 : decode prog_14_method_80_code 62 = .ok (.iaload, 1) := by decide +kernel
theorem d_Mo_module2_63 : decode prog_14_method_80_code 63 = .ok (.if_icmp .ge 50, 3) := by decide +kernel
theorem d_Mo_module2_66 : decode prog_14_method_80_code 66 = .ok (.aload_n 0, 1) := by decide +kernel
theorem d_Mo_module2_67 : decode prog_14_method_80_code 67 = .ok (.getfield 46, 3) := by decide +kernel
theorem d_Mo_module2_70 : decode prog_14_method_80_code 70 = .ok (.iload 5, 2) := by decide +kernel
theorem d_Mo_module2_72 : decode prog_14_method_80_code 72 = .ok (.iaload, 1) := by decide +kernel
theorem d_Mo_module2_73 : decode prog_14_method_80_code 73 = .ok (.iconst 3, 1) := by decide +kernel
theorem d_Mo_module2_74 : decode prog_14_method_80_code 74 = .ok (.if_icmp .ge 9, 3) := by decide +kernel
theorem d_Mo_module2_77 : decode prog_14_method_80_code 77 = .ok (.iload_n 3, 1) := by decide +kernel
theorem d_Mo_module2_78 : decode prog_14_method_80_code 78 = .ok (.iconst 1, 1) := by decide +kernel
theorem d_Mo_module2_79 : decode prog_14_method_80_code 79 = .ok (.iadd, 1) := by decide +kernel
theorem d_Mo_module2_80 : decode prog_14_method_80_code 80 = .ok (.goto 4, 3) := by decide +kernel
theorem d_Mo_module2_83 : decode prog_14_method_80_code 83 = .ok (.iload_n 3, 1) := by decide +kernel
theorem d_Mo_module2_84 : decode prog_14_method_80_code 84 = .ok (.istore_n 3, 1) := by decide +kernel
theorem d_Mo_module2_85 : decode prog_14_method_80_code 85 = .ok (.aload_n 0, 1) := by decide +kernel
theorem d_Mo_module2_86 : decode prog_14_method_80_code 86 = .ok (.getfield 53, 3) := by decide +kernel
theorem d_Mo_module2_89 : decode prog_14_method_80_code 89 = .ok (.iload 5, 2) := by decide +kernel
theorem d_Mo_module2_91 : decode prog_14_method_80_code 91 = .ok (.iaload, 1) := by decide +kernel
theorem d_Mo_module2_92 : decode prog_14_method_80_code 92 = .ok (.iconst 1, 1) := by decide +kernel
theorem d_Mo_module2_93 : decode prog_14_method_80_code 93 = .ok (.if_icmp .ne 10, 3) := by decide +kernel
theorem d_Mo_module2_96 : decode prog_14_method_80_code 96 = .ok (.iload 4, 2) := by decide +kernel
theorem d_Mo_module2_98 : decode prog_14_method_80_code 98 = .ok (.iconst 1, 1) := by decide +kernel
theorem d_Mo_module2_99 : decode prog_14_method_80_code 99 = .ok (.iadd, 1) := by decide +kernel
theorem d_Mo_module2_100 : decode prog_14_method_80_code 100 = .ok (.goto 5, 3) := by decide +kernel
theorem d_Mo_module2_103 : decode prog_14_method_80_code 103 = .ok (.iload 4, 2) := by decide +kernel
theorem d_Mo_module2_105 : decode prog_14_method_80_code 105 = .ok (.istore 4, 2) := by decide +kernel
theorem d_Mo_module2_107 : decode prog_14_method_80_code 107 = .ok (.iinc 5 1, 3) := by decide +kernel
theorem d_Mo_module2_110 : decode prog_14_method_80_code 110 = .ok (.goto (-57), 3) := by decide +kernel
theorem d_Mo_module2_113 : decode prog_14_method_80_code 113 = .ok (.iload_n 2, 1) := by decide +kernel
theorem d_Mo_module2_114 : decode prog_14_method_80_code 114 = .ok (.tableswitch 128 0 6 #[42, 44, 50, 53, 69, 85, 101], 42) := by decide +kernel
theorem d_Mo_module2_156 : decode prog_14_method_80_code 156 = .ok (.iload_n 3, 1) := by decide +kernel
theorem d_Mo_module2_157 : decode prog_14_method_80_code 157 = .ok (.ireturn, 1) := by decide +kernel
theorem d_Mo_module2_158 : decode prog_14_method_80_code 158 = .ok (.aload_n 0, 1) := by decide +kernel
theorem d_Mo_module2_159 : decode prog_14_method_80_code 159 = .ok (.iload_n 1, 1) := by decide +kernel
theorem d_Mo_module2_160 : decode prog_14_method_80_code 160 = .ok (.invokevirtual 425, 3) := by decide +kernel
theorem d_Mo_module2_163 : decode prog_14_method_80_code 163 = .ok (.ireturn, 1) := by decide +kernel
theorem d_Mo_module2_164 : decode prog_14_method_80_code 164 = .ok (.iload 4, 2) := by decide +kernel
theorem d_Mo_module2_166 : decode prog_14_method_80_code 166 = .ok (.ireturn, 1) := by decide +kernel
theorem d_Mo_module2_167 : decode prog_14_method_80_code 167 = .ok (.aload_n 0, 1) := by decide +kernel
theorem d_Mo_module2_168 : decode prog_14_method_80_code 168 = .ok (.getfield 37, 3) := by decide +kernel
theorem d_Mo_module2_171 : decode prog_14_method_80_code 171 = .ok (.iload_n 1, 1) := by decide +kernel
theorem d_Mo_module2_172 : decode prog_14_method_80_code 172 = .ok (.iconst 1, 1) := by decide +kernel
theorem d_Mo_module2_173 : decode prog_14_method_80_code 173 = .ok (.iadd, 1) := by decide +kernel
theorem d_Mo_module2_174 : decode prog_14_method_80_code 174 = .ok (.iaload, 1) := by decide +kernel
theorem d_Mo_module2_175 : decode prog_14_method_80_code 175 = .ok (.aload_n 0, 1) := by decide +kernel
theorem d_Mo_module2_176 : decode prog_14_method_80_code 176 = .ok (.getfield 37, 3) := by decide +kernel
theorem d_Mo_module2_179 : decode prog_14_method_80_code 179 = .ok (.iload_n 1, 1) := by decide +kernel
theorem d_Mo_module2_180 : decode prog_14_method_80_code 180 = .ok (.iaload, 1) := by decide +kernel
theorem d_Mo_module2_181 : decode prog_14_method_80_code 181 = .ok (.isub, 1) := by decide +kernel
theorem d_Mo_module2_182 : decode prog_14_method_80_code 182 = .ok (.ireturn, 1) := by decide +kernel
theorem d_Mo_module2_183 : decode prog_14_method_80_code 183 = .ok (.aload_n 0, 1) := by decide +kernel
theorem d_Mo_module2_184 : decode prog_14_method_80_code 184 = .ok (.getfield 31, 3) := by decide +kernel
theorem d_Mo_module2_187 : decode prog_14_method_80_code 187 = .ok (.iload_n 1, 1) := by decide +kernel
theorem d_Mo_module2_188 : decode prog_14_method_80_code 188 = .ok (.iconst 1, 1) := by decide +kernel
theorem d_Mo_module2_189 : decode prog_14_method_80_code 189 = .ok (.iadd, 1) := by decide +kernel
theorem d_Mo_module2_190 : decode prog_14_method_80_code 190 = .ok (.iaload, 1) := by decide +kernel
theorem d_Mo_module2_191 : decode prog_14_method_80_code 191 = .ok (.aload_n 0, 1) := by decide +kernel
theorem d_Mo_module2_192 : decode prog_14_method_80_code 192 = .ok (.getfield 31, 3) := by decide +kernel
theorem d_Mo_module2_195 : decode prog_14_method_80_code 195 = .ok (.iload_n 1, 1) := by decide +kernel
theorem d_Mo_module2_196 : decode prog_14_method_80_code 196 = .ok (.iaload, 1) := by decide +kernel
theorem d_Mo_module2_197 : decode prog_14_method_80_code 197 = .ok (.isub, 1) := by decide +kernel
theorem d_Mo_module2_198 : decode prog_14_method_80_code 198 = .ok (.ireturn, 1) := by decide +kernel
theorem d_Mo_module2_199 : decode prog_14_method_80_code 199 = .ok (.aload_n 0, 1) := by decide +kernel
theorem d_Mo_module2_200 : decode prog_14_method_80_code 200 = .ok (.getfield 34, 3) := by decide +kernel
theorem d_Mo_module2_203 : decode prog_14_method_80_code 203 = .ok (.iload_n 1, 1) := by decide +kernel
theorem d_Mo_module2_204 : decode prog_14_method_80_code 204 = .ok (.iconst 1, 1) := by decide +kernel
theorem d_Mo_module2_205 : decode prog_14_method_80_code 205 = .ok (.iadd, 1) := by decide +kernel
theorem d_Mo_module2_206 : decode prog_14_method_80_code 206 = .ok (.iaload, 1) := by decide +kernel
theorem d_Mo_module2_207 : decode prog_14_method_80_code 207 = .ok (.aload_n 0, 1) := by decide +kernel
theorem d_Mo_module2_208 : decode prog_14_method_80_code 208 = .ok (.getfield 34, 3) := by decide +kernel
theorem d_Mo_module2_211 : decode prog_14_method_80_code 211 = .ok (.iload_n 1, 1) := by decide +kernel
theorem d_Mo_module2_212 : decode prog_14_method_80_code 212 = .ok (.iaload, 1) := by decide +kernel
theorem d_Mo_module2_213 : decode prog_14_method_80_code 213 = .ok (.isub, 1) := by decide +kernel
theorem d_Mo_module2_214 : decode prog_14_method_80_code 214 = .ok (.ireturn, 1) := by decide +kernel
theorem d_Mo_module2_215 : decode prog_14_method_80_code 215 = .ok (.aload_n 0, 1) := by decide +kernel
theorem d_Mo_module2_216 : decode prog_14_method_80_code 216 = .ok (.getfield 119, 3) := by decide +kernel
theorem d_Mo_module2_219 : decode prog_14_method_80_code 219 = .ok (.iload_n 1, 1) := by decide +kernel
theorem d_Mo_module2_220 : decode prog_14_method_80_code 220 = .ok (.laload, 1) := by decide +kernel
theorem d_Mo_module2_221 : decode prog_14_method_80_code 221 = .ok (.ldc2_w 428, 3) := by decide +kernel
theorem d_Mo_module2_224 : decode prog_14_method_80_code 224 = .ok (.lcmp, 1) := by decide +kernel
theorem d_Mo_module2_225 : decode prog_14_method_80_code 225 = .ok (.ifCond .le 9, 3) := by decide +kernel
theorem d_Mo_module2_228 : decode prog_14_method_80_code 228 = .ok (.sipush 1501, 3) := by decide +kernel
theorem d_Mo_module2_231 : decode prog_14_method_80_code 231 = .ok (.goto 10, 3) := by decide +kernel
theorem d_Mo_module2_234 : decode prog_14_method_80_code 234 = .ok (.aload_n 0, 1) := by decide +kernel
theorem d_Mo_module2_235 : decode prog_14_method_80_code 235 = .ok (.getfield 119, 3) := by decide +kernel
theorem d_Mo_module2_238 : decode prog_14_method_80_code 238 = .ok (.iload_n 1, 1) := by decide +kernel
theorem d_Mo_module2_239 : decode prog_14_method_80_code 239 = .ok (.laload, 1) := by decide +kernel
theorem d_Mo_module2_240 : decode prog_14_method_80_code 240 = .ok (.l2i, 1) := by decide +kernel
theorem d_Mo_module2_241 : decode prog_14_method_80_code 241 = .ok (.ireturn, 1) := by decide +kernel
theorem d_Mo_module2_242 : decode prog_14_method_80_code 242 = .ok (.aload_n 0, 1) := by decide +kernel
theorem d_Mo_module2_243 : decode prog_14_method_80_code 243 = .ok (.getfield 19, 3) := by decide +kernel
theorem d_Mo_module2_246 : decode prog_14_method_80_code 246 = .ok (.aload_n 0, 1) := by decide +kernel
theorem d_Mo_module2_247 : decode prog_14_method_80_code 247 = .ok (.getfield 25, 3) := by decide +kernel
theorem d_Mo_module2_250 : decode prog_14_method_80_code 250 = .ok (.iload_n 1, 1) := by decide +kernel
theorem d_Mo_module2_251 : decode prog_14_method_80_code 251 = .ok (.iaload, 1) := by decide +kernel
theorem d_Mo_module2_252 : decode prog_14_method_80_code 252 = .ok (.iaload, 1) := by decide +kernel
theorem d_Mo_module2_253 : decode prog_14_method_80_code 253 = .ok (.ireturn, 1) := by decide +kernel
abbrev m_Mo_isModule : cx_M := (⟨"CircuitTextModel", "isModule", "(I)Z"⟩, prog_14_method_78_code, 2, (Option.some Jvm.ClassFile.FieldType.boolean), [], [false, false])
theorem w_Mo_isModule : cx_W m_Mo_isModule := ⟨Or.inl ⟨(in_8 (List.mem_of_getElem? (i := 100) rfl)), rfl⟩, by decide +kernel, by decide, by decide, by decide +kernel⟩
theorem n_Mo_isModule : (parseMethodDescriptor m_Mo_isModule.1.desc).map (fun d => d.parameters.length) = some 1 := by decide +kernel
theorem d_Mo_isModule_0 : decode prog_14_method_78_code 0 = .ok (.aload_n 0, 1) := by decide +kernel
theorem d_Mo_isModule_1 : decode prog_14_method_78_code 1 = .ok (.getfield 419, 3) := by decide +kernel
theorem d_Mo_isModule_4 : decode prog_14_method_78_code 4 = .ok (.ifCond .eq 19, 3) := by decide +kernel
theorem d_Mo_isModule_7 : decode prog_14_method_78_code 7 = .ok (.iload_n 1, 1) := by decide +kernel
theorem d_Mo_isModule_8 : decode prog_14_method_78_code 8 = .ok (.ifCond .lt 15, 3) := by decide +kernel
theorem d_Mo_isModule_11 : decode prog_14_method_78_code 11 = .ok (.iload_n 1, 1) := by decide +kernel
theorem d_Mo_isModule_12 : decode prog_14_method_78_code 12 = .ok (.aload_n 0, 1) := by decide +kernel
theorem d_Mo_isModule_13 : decode prog_14_method_78_code 13 = .ok (.getfield 266, 3) := by decide +kernel
theorem d_Mo_isModule_16 : decode prog_14_method_78_code 16 = .ok (.if_icmp .ge 7, 3) := by decide +kernel
theorem d_Mo_isModule_19 : decode prog_14_method_78_code 19 = .ok (.iconst 1, 1) := by decide +kernel
theorem d_Mo_isModule_20 : decode prog_14_method_78_code 20 = .ok (.goto 4, 3) := by decide +kernel
theorem d_Mo_isModule_23 : decode prog_14_method_78_code 23 = .ok (.iconst 0, 1) := by decide +kernel
theorem d_Mo_isModule_24 : decode prog_14_method_78_code 24 = .ok (.ireturn, 1) := by decide +kernel
abbrev m_Mo_names : cx_M := (⟨"CircuitTextModel", "names", "(I)I"⟩, prog_14_method_79_code, 2, (Option.some Jvm.ClassFile.FieldType.int), [], [false, false])
theorem w_Mo_names : cx_W m_Mo_names := ⟨Or.inl ⟨(in_8 (List.mem_of_getElem? (i := 104) rfl)), rfl⟩, by decide +kernel, by decide, by decide, by decide +kernel⟩
theorem n_Mo_names : (parseMethodDescriptor m_Mo_names.1.desc).map (fun d => d.parameters.length) = some 1 := by decide +kernel
theorem d_Mo_names_0 : decode prog_14_method_79_code 0 = .ok (.aload_n 0, 1) := by decide +kernel
theorem d_Mo_names_1 : decode prog_14_method_79_code 1 = .ok (.getfield 28, 3) := by decide +kernel
theorem d_Mo_names_4 : decode prog_14_method_79_code 4 = .ok (.iload_n 1, 1) := by decide +kernel
theorem d_Mo_names_5 : decode prog_14_method_79_code 5 = .ok (.iconst 1, 1) := by decide +kernel
theorem d_Mo_names_6 : decode prog_14_method_79_code 6 = .ok (.iadd, 1) := by decide +kernel
theorem d_Mo_names_7 : decode prog_14_method_79_code 7 = .ok (.iaload, 1) := by decide +kernel
theorem d_Mo_names_8 : decode prog_14_method_79_code 8 = .ok (.aload_n 0, 1) := by decide +kernel
theorem d_Mo_names_9 : decode prog_14_method_79_code 9 = .ok (.getfield 28, 3) := by decide +kernel
theorem d_Mo_names_12 : decode prog_14_method_79_code 12 = .ok (.iload_n 1, 1) := by decide +kernel
theorem d_Mo_names_13 : decode prog_14_method_79_code 13 = .ok (.iaload, 1) := by decide +kernel
theorem d_Mo_names_14 : decode prog_14_method_79_code 14 = .ok (.isub, 1) := by decide +kernel
theorem d_Mo_names_15 : decode prog_14_method_79_code 15 = .ok (.aload_n 0, 1) := by decide +kernel
theorem d_Mo_names_16 : decode prog_14_method_79_code 16 = .ok (.getfield 31, 3) := by decide +kernel
theorem d_Mo_names_19 : decode prog_14_method_79_code 19 = .ok (.iload_n 1, 1) := by decide +kernel
theorem d_Mo_names_20 : decode prog_14_method_79_code 20 = .ok (.iconst 1, 1) := by decide +kernel
theorem d_Mo_names_21 : decode prog_14_method_79_code 21 = .ok (.iadd, 1) := by decide +kernel
theorem d_Mo_names_22 : decode prog_14_method_79_code 22 = .ok (.iaload, 1) := by decide +kernel
theorem d_Mo_names_23 : decode prog_14_method_79_code 23 = .ok (.iadd, 1) := by decide +kernel
theorem d_Mo_names_24 : decode prog_14_method_79_code 24 = .ok (.aload_n 0, 1) := by decide +kernel
theorem d_Mo_names_25 : decode prog_14_method_79_code 25 = .ok (.getfield 31, 3) := by decide +kernel
theorem d_Mo_names_28 : decode prog_14_method_79_code 28 = .ok (.iload_n 1, 1) := by decide +kernel
theorem d_Mo_names_29 : decode prog_14_method_79_code 29 = .ok (.iaload, 1) := by decide +kernel
theorem d_Mo_names_30 : decode prog_14_method_79_code 30 = .ok (.isub, 1) := by decide +kernel
theorem d_Mo_names_31 : decode prog_14_method_79_code 31 = .ok (.ireturn, 1) := by decide +kernel
abbrev m_Mo_declared : cx_M := (⟨"CircuitTextModel", "declared", "(III)I"⟩, prog_14_method_82_code, 6, (Option.some Jvm.ClassFile.FieldType.int), [], [false, false, false, false])
theorem w_Mo_declared : cx_W m_Mo_declared := ⟨Or.inl ⟨(in_8 (List.mem_of_getElem? (i := 109) rfl)), rfl⟩, by decide +kernel, by decide, by decide, by decide +kernel⟩
theorem n_Mo_declared : (parseMethodDescriptor m_Mo_declared.1.desc).map (fun d => d.parameters.length) = some 3 := by decide +kernel
theorem d_Mo_declared_0 : decode prog_14_method_82_code 0 = .ok (.aload_n 0, 1) := by decide +kernel
theorem d_Mo_declared_1 : decode prog_14_method_82_code 1 = .ok (.aload_n 0, 1) := by decide +kernel
theorem d_Mo_declared_2 : decode prog_14_method_82_code 2 = .ok (.iload_n 1, 1) := by decide +kernel
theorem d_Mo_declared_3 : decode prog_14_method_82_code 3 = .ok (.invokevirtual 422, 3) := by decide +kernel
theorem d_Mo_declared_6 : decode prog_14_method_82_code 6 = .ok (.ifCond .eq 16, 3) := by decide +kernel
theorem d_Mo_declared_9 : decode prog_14_method_82_code 9 = .ok (.iload_n 2, 1) := by decide +kernel
theorem d_Mo_declared_10 : decode prog_14_method_82_code 10 = .ok (.ifCond .lt 12, 3) := by decide +kernel
theorem d_Mo_declared_13 : decode prog_14_method_82_code 13 = .ok (.iload_n 2, 1) := by decide +kernel
theorem d_Mo_declared_14 : decode prog_14_method_82_code 14 = .ok (.aload_n 0, 1) := by decide +kernel
theorem d_Mo_declared_15 : decode prog_14_method_82_code 15 = .ok (.iload_n 1, 1) := by decide +kernel
theorem d_Mo_declared_16 : decode prog_14_method_82_code 16 = .ok (.invokevirtual 425, 3) := by decide +kernel
theorem d_Mo_declared_19 : decode prog_14_method_82_code 19 = .ok (.if_icmp .lt 7, 3) := by decide +kernel
theorem d_Mo_declared_22 : decode prog_14_method_82_code 22 = .ok (.iconst 1, 1) := by decide +kernel
theorem d_Mo_declared_23 : decode prog_14_method_82_code 23 = .ok (.goto 17, 3) := by decide +kernel
theorem d_Mo_declared_26 : decode prog_14_method_82_code 26 = .ok (.iload_n 3, 1) := by decide +kernel
theorem d_Mo_declared_27 : decode prog_14_method_82_code 27 = .ok (.ifCond .lt 8, 3) := by decide +kernel
theorem d_Mo_declared_30 : decode prog_14_method_82_code 30 = .ok (.iload_n 3, 1) := by decide +kernel
theorem d_Mo_declared_31 : decode prog_14_method_82_code 31 = .ok (.iconst 3, 1) := by decide +kernel
theorem d_Mo_declared_32 : decode prog_14_method_82_code 32 = .ok (.if_icmp .le 7, 3) := by decide +kernel
theorem d_Mo_declared_35 : decode prog_14_method_82_code 35 = .ok (.iconst 2, 1) := by decide +kernel
theorem d_Mo_declared_36 : decode prog_14_method_82_code 36 = .ok (.goto 4, 3) := by decide +kernel
theorem d_Mo_declared_39 : decode prog_14_method_82_code 39 = .ok (.iconst 0, 1) := by decide +kernel
theorem d_Mo_declared_40 : decode prog_14_method_82_code 40 = .ok (.putfield 122, 3) := by decide +kernel
theorem d_Mo_declared_43 : decode prog_14_method_82_code 43 = .ok (.aload_n 0, 1) := by decide +kernel
theorem d_Mo_declared_44 : decode prog_14_method_82_code 44 = .ok (.getfield 122, 3) := by decide +kernel
theorem d_Mo_declared_47 : decode prog_14_method_82_code 47 = .ok (.ifCond .le 5, 3) := by decide +kernel
theorem d_Mo_declared_50 : decode prog_14_method_82_code 50 = .ok (.iconst 0, 1) := by decide +kernel
theorem d_Mo_declared_51 : decode prog_14_method_82_code 51 = .ok (.ireturn, 1) := by decide +kernel
theorem d_Mo_declared_52 : decode prog_14_method_82_code 52 = .ok (.aload_n 0, 1) := by decide +kernel
theorem d_Mo_declared_53 : decode prog_14_method_82_code 53 = .ok (.iload_n 1, 1) := by decide +kernel
theorem d_Mo_declared_54 : decode prog_14_method_82_code 54 = .ok (.iload_n 2, 1) := by decide +kernel
theorem d_Mo_declared_55 : decode prog_14_method_82_code 55 = .ok (.invokevirtual 430, 3) := by decide +kernel
theorem d_Mo_declared_58 : decode prog_14_method_82_code 58 = .ok (.istore 4, 2) := by decide +kernel
theorem d_Mo_declared_60 : decode prog_14_method_82_code 60 = .ok (.iload 4, 2) := by decide +kernel
theorem d_Mo_declared_62 : decode prog_14_method_82_code 62 = .ok (.ifCond .ge 54, 3) := by decide +kernel
theorem d_Mo_declared_65 : decode prog_14_method_82_code 65 = .ok (.iconst (-1), 1) := by decide +kernel
theorem d_Mo_declared_66 : decode prog_14_method_82_code 66 = .ok (.iload 4, 2) := by decide +kernel
theorem d_Mo_declared_68 : decode prog_14_method_82_code 68 = .ok (.isub, 1) := by decide +kernel
theorem d_Mo_declared_69 : decode prog_14_method_82_code 69 = .ok (.istore 5, 2) := by decide +kernel
theorem d_Mo_declared_71 : decode prog_14_method_82_code 71 = .ok (.iload_n 3, 1) := by decide +kernel
theorem d_Mo_declared_72 : decode prog_14_method_82_code 72 = .ok (.ifCond .ne 7, 3) := by decide +kernel
theorem d_Mo_declared_75 : decode prog_14_method_82_code 75 = .ok (.iconst 5, 1) := by decide +kernel
theorem d_Mo_declared_76 : decode prog_14_method_82_code 76 = .ok (.goto 39, 3) := by decide +kernel
theorem d_Mo_declared_79 : decode prog_14_method_82_code 79 = .ok (.iload_n 3, 1) := by decide +kernel
theorem d_Mo_declared_80 : decode prog_14_method_82_code 80 = .ok (.iconst 1, 1) := by decide +kernel
theorem d_Mo_declared_81 : decode prog_14_method_82_code 81 = .ok (.if_icmp .ne 7, 3) := by decide +kernel
theorem d_Mo_declared_84 : decode prog_14_method_82_code 84 = .ok (.iconst 0, 1) := by decide +kernel
theorem d_Mo_declared_85 : decode prog_14_method_82_code 85 = .ok (.goto 30, 3) := by decide +kernel
theorem d_Mo_declared_88 : decode prog_14_method_82_code 88 = .ok (.iload_n 3, 1) := by decide +kernel
theorem d_Mo_declared_89 : decode prog_14_method_82_code 89 = .ok (.iconst 2, 1) := by decide +kernel
theorem d_Mo_declared_90 : decode prog_14_method_82_code 90 = .ok (.if_icmp .ne 18, 3) := by decide +kernel
theorem d_Mo_declared_93 : decode prog_14_method_82_code 93 = .ok (.aload_n 0, 1) := by decide +kernel
theorem d_Mo_declared_94 : decode prog_14_method_82_code 94 = .ok (.getfield 19, 3) := by decide +kernel
theorem d_Mo_declared_97 : decode prog_14_method_82_code 97 = .ok (.aload_n 0, 1) := by decide +kernel
theorem d_Mo_declared_98 : decode prog_14_method_82_code 98 = .ok (.getfield 68, 3) := by decide +kernel
theorem d_Mo_declared_101 : decode prog_14_method_82_code 101 = .ok (.iload 5, 2) := by decide +kernel
theorem d_Mo_declared_103 : decode prog_14_method_82_code 103 = .ok (.iaload, 1) := by decide +kernel
theorem d_Mo_declared_104 : decode prog_14_method_82_code 104 = .ok (.iaload, 1) := by decide +kernel
theorem d_Mo_declared_105 : decode prog_14_method_82_code 105 = .ok (.goto 10, 3) := by decide +kernel
theorem d_Mo_declared_108 : decode prog_14_method_82_code 108 = .ok (.aload_n 0, 1) := by decide +kernel
theorem d_Mo_declared_109 : decode prog_14_method_82_code 109 = .ok (.getfield 65, 3) := by decide +kernel
theorem d_Mo_declared_112 : decode prog_14_method_82_code 112 = .ok (.iload 5, 2) := by decide +kernel
theorem d_Mo_declared_114 : decode prog_14_method_82_code 114 = .ok (.iaload, 1) := by decide +kernel
theorem d_Mo_declared_115 : decode prog_14_method_82_code 115 = .ok (.ireturn, 1) := by decide +kernel
theorem d_Mo_declared_116 : decode prog_14_method_82_code 116 = .ok (.iload_n 3, 1) := by decide +kernel
theorem d_Mo_declared_117 : decode prog_14_method_82_code 117 = .ok (.ifCond .ne 13, 3) := by decide +kernel
theorem d_Mo_declared_120 : decode prog_14_method_82_code 120 = .ok (.aload_n 0, 1) := by decide +kernel
theorem d_Mo_declared_121 : decode prog_14_method_82_code 121 = .ok (.getfield 46, 3) := by decide +kernel
theorem d_Mo_declared_124 : decode prog_14_method_82_code 124 = .ok (.iload 4, 2) := by decide +kernel
theorem d_Mo_declared_126 : decode prog_14_method_82_code 126 = .ok (.iaload, 1) := by decide +kernel
theorem d_Mo_declared_127 : decode prog_14_method_82_code 127 = .ok (.goto 39, 3) := by decide +kernel
theorem d_Mo_declared_130 : decode prog_14_method_82_code 130 = .ok (.iload_n 3, 1) := by decide +kernel
theorem d_Mo_declared_131 : decode prog_14_method_82_code 131 = .ok (.iconst 1, 1) := by decide +kernel
theorem d_Mo_declared_132 : decode prog_14_method_82_code 132 = .ok (.if_icmp .ne 13, 3) := by decide +kernel
theorem d_Mo_declared_135 : decode prog_14_method_82_code 135 = .ok (.aload_n 0, 1) := by decide +kernel
theorem d_Mo_declared_136 : decode prog_14_method_82_code 136 = .ok (.getfield 43, 3) := by decide +kernel
theorem d_Mo_declared_139 : decode prog_14_method_82_code 139 = .ok (.iload 4, 2) := by decide +kernel
theorem d_Mo_declared_141 : decode prog_14_method_82_code 141 = .ok (.iaload, 1) := by decide +kernel
theorem d_Mo_declared_142 : decode prog_14_method_82_code 142 = .ok (.goto 24, 3) := by decide +kernel
theorem d_Mo_declared_145 : decode prog_14_method_82_code 145 = .ok (.iload_n 3, 1) := by decide +kernel
theorem d_Mo_declared_146 : decode prog_14_method_82_code 146 = .ok (.iconst 2, 1) := by decide +kernel
theorem d_Mo_declared_147 : decode prog_14_method_82_code 147 = .ok (.if_icmp .ne 18, 3) := by decide +kernel
theorem d_Mo_declared_150 : decode prog_14_method_82_code 150 = .ok (.aload_n 0, 1) := by decide +kernel
theorem d_Mo_declared_151 : decode prog_14_method_82_code 151 = .ok (.getfield 19, 3) := by decide +kernel
theorem d_Mo_declared_154 : decode prog_14_method_82_code 154 = .ok (.aload_n 0, 1) := by decide +kernel
theorem d_Mo_declared_155 : decode prog_14_method_82_code 155 = .ok (.getfield 40, 3) := by decide +kernel
theorem d_Mo_declared_158 : decode prog_14_method_82_code 158 = .ok (.iload 4, 2) := by decide +kernel
theorem d_Mo_declared_160 : decode prog_14_method_82_code 160 = .ok (.iaload, 1) := by decide +kernel
theorem d_Mo_declared_161 : decode prog_14_method_82_code 161 = .ok (.iaload, 1) := by decide +kernel
theorem d_Mo_declared_162 : decode prog_14_method_82_code 162 = .ok (.goto 4, 3) := by decide +kernel
theorem d_Mo_declared_165 : decode prog_14_method_82_code 165 = .ok (.iconst (-1), 1) := by decide +kernel
theorem d_Mo_declared_166 : decode prog_14_method_82_code 166 = .ok (.ireturn, 1) := by decide +kernel
abbrev m_Mo_nameAt : cx_M := (⟨"CircuitTextModel", "nameAt", "(II)I"⟩, prog_14_method_81_code, 8, (Option.some Jvm.ClassFile.FieldType.int), [], [false, false, false])
theorem w_Mo_nameAt : cx_W m_Mo_nameAt := ⟨Or.inl ⟨(in_8 (List.mem_of_getElem? (i := 113) rfl)), rfl⟩, by decide +kernel, by decide, by decide, by decide +kernel⟩
theorem n_Mo_nameAt : (parseMethodDescriptor m_Mo_nameAt.1.desc).map (fun d => d.parameters.length) = some 2 := by decide +kernel
theorem d_Mo_nameAt_0 : decode prog_14_method_81_code 0 = .ok (.aload_n 0, 1) := by decide +kernel
theorem d_Mo_nameAt_1 : decode prog_14_method_81_code 1 = .ok (.getfield 28, 3) := by decide +kernel
theorem d_Mo_nameAt_4 : decode prog_14_method_81_code 4 = .ok (.iload_n 1, 1) := by decide +kernel
theorem d_Mo_nameAt_5 : decode prog_14_method_81_code 5 = .ok (.iaload, 1) := by decide +kernel
theorem d_Mo_nameAt_6 : decode prog_14_method_81_code 6 = .ok (.istore_n 3, 1) := by decide +kernel
theorem d_Mo_nameAt_7 : decode prog_14_method_81_code 7 = .ok (.aload_n 0, 1) := by decide +kernel
theorem d_Mo_nameAt_8 : decode prog_14_method_81_code 8 = .ok (.getfield 31, 3) := by decide +kernel
theorem d_Mo_nameAt_11 : decode prog_14_method_81_code 11 = .ok (.iload_n 1, 1) := by decide +kernel
theorem d_Mo_nameAt_12 : decode prog_14_method_81_code 12 = .ok (.iaload, 1) := by decide +kernel
theorem d_Mo_nameAt_13 : decode prog_14_method_81_code 13 = .ok (.istore 4, 2) := by decide +kernel
theorem d_Mo_nameAt_15 : decode prog_14_method_81_code 15 = .ok (.iconst 0, 1) := by decide +kernel
theorem d_Mo_nameAt_16 : decode prog_14_method_81_code 16 = .ok (.istore 5, 2) := by decide +kernel
theorem d_Mo_nameAt_18 : decode prog_14_method_81_code 18 = .ok (.iconst 0, 1) := by decide +kernel
theorem d_Mo_nameAt_19 : decode prog_14_method_81_code 19 = .ok (.istore 6, 2) := by decide +kernel
theorem d_Mo_nameAt_21 : decode prog_14_method_81_code 21 = .ok (.iload 6, 2) := by decide +kernel
theorem d_Mo_nameAt_23 : decode prog_14_method_81_code 23 = .ok (.iload_n 2, 1) := by decide +kernel
theorem d_Mo_nameAt_24 : decode prog_14_method_81_code 24 = .ok (.if_icmp .gt 101, 3) := by decide +kernel
theorem d_Mo_nameAt_27 : decode prog_14_method_81_code 27 = .ok (.iload 4, 2) := by decide +kernel
theorem d_Mo_nameAt_29 : decode prog_14_method_81_code 29 = .ok (.aload_n 0, 1) := by decide +kernel
theorem d_Mo_nameAt_30 : decode prog_14_method_81_code 30 = .ok (.getfield 31, 3) := by decide +kernel
theorem d_Mo_nameAt_33 : decode prog_14_method_81_code 33 = .ok (.iload_n 1, 1) := by decide +kernel
theorem d_Mo_nameAt_34 : decode prog_14_method_81_code 34 = .ok (.iconst 1, 1) := by decide +kernel
theorem d_Mo_nameAt_35 : decode prog_14_method_81_code 35 = .ok (.iadd, 1) := by decide +kernel
theorem d_Mo_nameAt_36 : decode prog_14_method_81_code 36 = .ok (.iaload, 1) := by decide +kernel
theorem d_Mo_nameAt_37 : decode prog_14_method_81_code 37 = .ok (.if_icmp .eq 31, 3) := by decide +kernel
theorem d_Mo_nameAt_40 : decode prog_14_method_81_code 40 = .ok (.iload_n 3, 1) := by decide +kernel
theorem d_Mo_nameAt_41 : decode prog_14_method_81_code 41 = .ok (.aload_n 0, 1) := by decide +kernel
theorem d_Mo_nameAt_42 : decode prog_14_method_81_code 42 = .ok (.getfield 28, 3) := by decide +kernel
theorem d_Mo_nameAt_45 : decode prog_14_method_81_code 45 = .ok (.iload_n 1, 1) := by decide +kernel
theorem d_Mo_nameAt_46 : decode prog_14_method_81_code 46 = .ok (.iconst 1, 1) := by decide +kernel
theorem d_Mo_nameAt_47 : decode prog_14_method_81_code 47 = .ok (.iadd, 1) := by decide +kernel
theorem d_Mo_nameAt_48 : decode prog_14_method_81_code 48 = .ok (.iaload, 1) := by decide +kernel
theorem d_Mo_nameAt_49 : decode prog_14_method_81_code 49 = .ok (.if_icmp .ge 23, 3) := by decide +kernel
theorem d_Mo_nameAt_52 : decode prog_14_method_81_code 52 = .ok (.aload_n 0, 1) := by decide +kernel
theorem d_Mo_nameAt_53 : decode prog_14_method_81_code 53 = .ok (.getfield 40, 3) := by decide +kernel
theorem d_Mo_nameAt_56 : decode prog_14_method_81_code 56 = .ok (.iload_n 3, 1) := by decide +kernel
theorem d_Mo_nameAt_57 : decode prog_14_method_81_code 57 = .ok (.iaload, 1) := by decide +kernel
theorem d_Mo_nameAt_58 : decode prog_14_method_81_code 58 = .ok (.aload_n 0, 1) := by decide +kernel
theorem d_Mo_nameAt_59 : decode prog_14_method_81_code 59 = .ok (.getfield 68, 3) := by decide +kernel
theorem d_Mo_nameAt_62 : decode prog_14_method_81_code 62 = .ok (.iload 4, 2) := by decide +kernel
theorem d_Mo_nameAt_64 : decode prog_14_method_81_code 64 = .ok (.iaload, 1) := by decide +kernel
theorem d_Mo_nameAt_65 : decode prog_14_method_81_code 65 = .ok (.if_icmp .ge 7, 3) := by decide +kernel
theorem d_Mo_nameAt_68 : decode prog_14_method_81_code 68 = .ok (.iconst 1, 1) := by decide +kernel
theorem d_Mo_nameAt_69 : decode prog_14_method_81_code 69 = .ok (.goto 4, 3) := by decide +kernel
theorem d_Mo_nameAt_72 : decode prog_14_method_81_code 72 = .ok (.iconst 0, 1) := by decide +kernel
theorem d_Mo_nameAt_73 : decode prog_14_method_81_code 73 = .ok (.istore 7, 2) := by decide +kernel
theorem d_Mo_nameAt_75 : decode prog_14_method_81_code 75 = .ok (.iload 7, 2) := by decide +kernel
theorem d_Mo_nameAt_77 : decode prog_14_method_81_code 77 = .ok (.ifCond .eq 7, 3) := by decide +kernel
theorem d_Mo_nameAt_80 : decode prog_14_method_81_code 80 = .ok (.iload_n 3, 1) := by decide +kernel
theorem d_Mo_nameAt_81 : decode prog_14_method_81_code 81 = .ok (.goto 7, 3) := by decide +kernel
theorem d_Mo_nameAt_84 : decode prog_14_method_81_code 84 = .ok (.iconst (-1), 1) := by decide +kernel
theorem d_Mo_nameAt_85 : decode prog_14_method_81_code 85 = .ok (.iload 4, 2) := by decide +kernel
theorem d_Mo_nameAt_87 : decode prog_14_method_81_code 87 = .ok (.isub, 1) := by decide +kernel
theorem d_Mo_nameAt_88 : decode prog_14_method_81_code 88 = .ok (.istore 5, 2) := by decide +kernel
theorem d_Mo_nameAt_90 : decode prog_14_method_81_code 90 = .ok (.iload 7, 2) := by decide +kernel
theorem d_Mo_nameAt_92 : decode prog_14_method_81_code 92 = .ok (.ifCond .eq 9, 3) := by decide +kernel
theorem d_Mo_nameAt_95 : decode prog_14_method_81_code 95 = .ok (.iload_n 3, 1) := by decide +kernel
theorem d_Mo_nameAt_96 : decode prog_14_method_81_code 96 = .ok (.iconst 1, 1) := by decide +kernel
theorem d_Mo_nameAt_97 : decode prog_14_method_81_code 97 = .ok (.iadd, 1) := by decide +kernel
theorem d_Mo_nameAt_98 : decode prog_14_method_81_code 98 = .ok (.goto 4, 3) := by decide +kernel
theorem d_Mo_nameAt_101 : decode prog_14_method_81_code 101 = .ok (.iload_n 3, 1) := by decide +kernel
theorem d_Mo_nameAt_102 : decode prog_14_method_81_code 102 = .ok (.istore_n 3, 1) := by decide +kernel
theorem d_Mo_nameAt_103 : decode prog_14_method_81_code 103 = .ok (.iload 7, 2) := by decide +kernel
theorem d_Mo_nameAt_105 : decode prog_14_method_81_code 105 = .ok (.ifCond .eq 8, 3) := by decide +kernel
theorem d_Mo_nameAt_108 : decode prog_14_method_81_code 108 = .ok (.iload 4, 2) := by decide +kernel
theorem d_Mo_nameAt_110 : decode prog_14_method_81_code 110 = .ok (.goto 7, 3) := by decide +kernel
theorem d_Mo_nameAt_113 : decode prog_14_method_81_code 113 = .ok (.iload 4, 2) := by decide +kernel
theorem d_Mo_nameAt_115 : decode prog_14_method_81_code 115 = .ok (.iconst 1, 1) := by decide +kernel
theorem d_Mo_nameAt_116 : decode prog_14_method_81_code 116 = .ok (.iadd, 1) := by decide +kernel
theorem d_Mo_nameAt_117 : decode prog_14_method_81_code 117 = .ok (.istore 4, 2) := by decide +kernel
theorem d_Mo_nameAt_119 : decode prog_14_method_81_code 119 = .ok (.iinc 6 1, 3) := by decide +kernel
theorem d_Mo_nameAt_122 : decode prog_14_method_81_code 122 = .ok (.goto (-101), 3) := by decide +kernel
theorem d_Mo_nameAt_125 : decode prog_14_method_81_code 125 = .ok (.iload 5, 2) := by decide +kernel
theorem d_Mo_nameAt_127 : decode prog_14_method_81_code 127 = .ok (.ireturn, 1) := by decide +kernel
abbrev m_Mo_beginning : cx_M := (⟨"CircuitTextModel", "beginning", "(II)J"⟩, prog_14_method_83_code, 4, (Option.some Jvm.ClassFile.FieldType.long), [], [false, false, false])
theorem w_Mo_beginning : cx_W m_Mo_beginning := ⟨Or.inl ⟨(in_8 (List.mem_of_getElem? (i := 117) rfl)), rfl⟩, by decide +kernel, by decide, by decide, by decide +kernel⟩
theorem n_Mo_beginning : (parseMethodDescriptor m_Mo_beginning.1.desc).map (fun d => d.parameters.length) = some 2 := by decide +kernel
theorem d_Mo_beginning_0 : decode prog_14_method_83_code 0 = .ok (.aload_n 0, 1) := by decide +kernel
theorem d_Mo_beginning_1 : decode prog_14_method_83_code 1 = .ok (.aload_n 0, 1) := by decide +kernel
theorem d_Mo_beginning_2 : decode prog_14_method_83_code 2 = .ok (.iload_n 1, 1) := by decide +kernel
theorem d_Mo_beginning_3 : decode prog_14_method_83_code 3 = .ok (.invokevirtual 422, 3) := by decide +kernel
theorem d_Mo_beginning_6 : decode prog_14_method_83_code 6 = .ok (.ifCond .eq 16, 3) := by decide +kernel
theorem d_Mo_beginning_9 : decode prog_14_method_83_code 9 = .ok (.iload_n 2, 1) := by decide +kernel
theorem d_Mo_beginning_10 : decode prog_14_method_83_code 10 = .ok (.ifCond .lt 12, 3) := by decide +kernel
theorem d_Mo_beginning_13 : decode prog_14_method_83_code 13 = .ok (.iload_n 2, 1) := by decide +kernel
theorem d_Mo_beginning_14 : decode prog_14_method_83_code 14 = .ok (.aload_n 0, 1) := by decide +kernel
theorem d_Mo_beginning_15 : decode prog_14_method_83_code 15 = .ok (.iload_n 1, 1) := by decide +kernel
theorem d_Mo_beginning_16 : decode prog_14_method_83_code 16 = .ok (.invokevirtual 425, 3) := by decide +kernel
theorem d_Mo_beginning_19 : decode prog_14_method_83_code 19 = .ok (.if_icmp .lt 7, 3) := by decide +kernel
theorem d_Mo_beginning_22 : decode prog_14_method_83_code 22 = .ok (.iconst 1, 1) := by decide +kernel
theorem d_Mo_beginning_23 : decode prog_14_method_83_code 23 = .ok (.goto 4, 3) := by decide +kernel
theorem d_Mo_beginning_26 : decode prog_14_method_83_code 26 = .ok (.iconst 0, 1) := by decide +kernel
theorem d_Mo_beginning_27 : decode prog_14_method_83_code 27 = .ok (.putfield 122, 3) := by decide +kernel
theorem d_Mo_beginning_30 : decode prog_14_method_83_code 30 = .ok (.aload_n 0, 1) := by decide +kernel
theorem d_Mo_beginning_31 : decode prog_14_method_83_code 31 = .ok (.getfield 122, 3) := by decide +kernel
theorem d_Mo_beginning_34 : decode prog_14_method_83_code 34 = .ok (.ifCond .le 5, 3) := by decide +kernel
theorem d_Mo_beginning_37 : decode prog_14_method_83_code 37 = .ok (.lconst 0, 1) := by decide +kernel
theorem d_Mo_beginning_38 : decode prog_14_method_83_code 38 = .ok (.lreturn, 1) := by decide +kernel
theorem d_Mo_beginning_39 : decode prog_14_method_83_code 39 = .ok (.aload_n 0, 1) := by decide +kernel
theorem d_Mo_beginning_40 : decode prog_14_method_83_code 40 = .ok (.iload_n 1, 1) := by decide +kernel
theorem d_Mo_beginning_41 : decode prog_14_method_83_code 41 = .ok (.iload_n 2, 1) := by decide +kernel
theorem d_Mo_beginning_42 : decode prog_14_method_83_code 42 = .ok (.invokevirtual 430, 3) := by decide +kernel
theorem d_Mo_beginning_45 : decode prog_14_method_83_code 45 = .ok (.istore_n 3, 1) := by decide +kernel
theorem d_Mo_beginning_46 : decode prog_14_method_83_code 46 = .ok (.iload_n 3, 1) := by decide +kernel
theorem d_Mo_beginning_47 : decode prog_14_method_83_code 47 = .ok (.ifCond .ge 7, 3) := by decide +kernel
theorem d_Mo_beginning_50 : decode prog_14_method_83_code 50 = .ok (.lconst 0, 1) := by decide +kernel
theorem d_Mo_beginning_51 : decode prog_14_method_83_code 51 = .ok (.goto 9, 3) := by decide +kernel
theorem d_Mo_beginning_54 : decode prog_14_method_83_code 54 = .ok (.aload_n 0, 1) := by decide +kernel
theorem d_Mo_beginning_55 : decode prog_14_method_83_code 55 = .ok (.getfield 49, 3) := by decide +kernel
theorem d_Mo_beginning_58 : decode prog_14_method_83_code 58 = .ok (.iload_n 3, 1) := by decide +kernel
theorem d_Mo_beginning_59 : decode prog_14_method_83_code 59 = .ok (.laload, 1) := by decide +kernel
theorem d_Mo_beginning_60 : decode prog_14_method_83_code 60 = .ok (.lreturn, 1) := by decide +kernel
abbrev m_Mo_find : cx_M := (⟨"CircuitTextModel", "find", "(I)I"⟩, prog_14_method_85_code, 5, (Option.some Jvm.ClassFile.FieldType.int), [], [false, false])
theorem w_Mo_find : cx_W m_Mo_find := ⟨Or.inl ⟨(in_8 (List.mem_of_getElem? (i := 121) rfl)), rfl⟩, by decide +kernel, by decide, by decide, by decide +kernel⟩
theorem n_Mo_find : (parseMethodDescriptor m_Mo_find.1.desc).map (fun d => d.parameters.length) = some 1 := by decide +kernel
theorem d_Mo_find_0 : decode prog_14_method_85_code 0 = .ok (.aload_n 0, 1) := by decide +kernel
theorem d_Mo_find_1 : decode prog_14_method_85_code 1 = .ok (.aload_n 0, 1) := by decide +kernel
theorem d_Mo_find_2 : decode prog_14_method_85_code 2 = .ok (.iload_n 1, 1) := by decide +kernel
theorem d_Mo_find_3 : decode prog_14_method_85_code 3 = .ok (.invokevirtual 422, 3) := by decide +kernel
theorem d_Mo_find_6 : decode prog_14_method_85_code 6 = .ok (.ifCond .eq 7, 3) := by decide +kernel
theorem d_Mo_find_9 : decode prog_14_method_85_code 9 = .ok (.iconst 0, 1) := by decide +kernel
theorem d_Mo_find_10 : decode prog_14_method_85_code 10 = .ok (.goto 4, 3) := by decide +kernel
theorem d_Mo_find_13 : decode prog_14_method_85_code 13 = .ok (.iconst 1, 1) := by decide +kernel
theorem d_Mo_find_14 : decode prog_14_method_85_code 14 = .ok (.putfield 122, 3) := by decide +kernel
theorem d_Mo_find_17 : decode prog_14_method_85_code 17 = .ok (.aload_n 0, 1) := by decide +kernel
theorem d_Mo_find_18 : decode prog_14_method_85_code 18 = .ok (.getfield 122, 3) := by decide +kernel
theorem d_Mo_find_21 : decode prog_14_method_85_code 21 = .ok (.ifCond .le 5, 3) := by decide +kernel
theorem d_Mo_find_24 : decode prog_14_method_85_code 24 = .ok (.iconst 0, 1) := by decide +kernel
theorem d_Mo_find_25 : decode prog_14_method_85_code 25 = .ok (.ireturn, 1) := by decide +kernel
theorem d_Mo_find_26 : decode prog_14_method_85_code 26 = .ok (.iconst (-1), 1) := by decide +kernel
theorem d_Mo_find_27 : decode prog_14_method_85_code 27 = .ok (.istore_n 2, 1) := by decide +kernel
theorem d_Mo_find_28 : decode prog_14_method_85_code 28 = .ok (.aload_n 0, 1) := by decide +kernel
theorem d_Mo_find_29 : decode prog_14_method_85_code 29 = .ok (.iload_n 1, 1) := by decide +kernel
theorem d_Mo_find_30 : decode prog_14_method_85_code 30 = .ok (.invokevirtual 425, 3) := by decide +kernel
theorem d_Mo_find_33 : decode prog_14_method_85_code 33 = .ok (.iconst 1, 1) := by decide +kernel
theorem d_Mo_find_34 : decode prog_14_method_85_code 34 = .ok (.isub, 1) := by decide +kernel
theorem d_Mo_find_35 : decode prog_14_method_85_code 35 = .ok (.istore_n 3, 1) := by decide +kernel
theorem d_Mo_find_36 : decode prog_14_method_85_code 36 = .ok (.iload_n 3, 1) := by decide +kernel
theorem d_Mo_find_37 : decode prog_14_method_85_code 37 = .ok (.ifCond .lt 54, 3) := by decide +kernel
theorem d_Mo_find_40 : decode prog_14_method_85_code 40 = .ok (.aload_n 0, 1) := by decide +kernel
theorem d_Mo_find_41 : decode prog_14_method_85_code 41 = .ok (.iload_n 1, 1) := by decide +kernel
theorem d_Mo_find_42 : decode prog_14_method_85_code 42 = .ok (.iload_n 3, 1) := by decide +kernel
theorem d_Mo_find_43 : decode prog_14_method_85_code 43 = .ok (.invokevirtual 430, 3) := by decide +kernel
theorem d_Mo_find_46 : decode prog_14_method_85_code 46 = .ok (.istore 4, 2) := by decide +kernel
theorem d_Mo_find_48 : decode prog_14_method_85_code 48 = .ok (.aload_n 0, 1) := by decide +kernel
theorem d_Mo_find_49 : decode prog_14_method_85_code 49 = .ok (.iload 4, 2) := by decide +kernel
theorem d_Mo_find_51 : decode prog_14_method_85_code 51 = .ok (.ifCond .ge 15, 3) := by decide +kernel
theorem d_Mo_find_54 : decode prog_14_method_85_code 54 = .ok (.aload_n 0, 1) := by decide +kernel
theorem d_Mo_find_55 : decode prog_14_method_85_code 55 = .ok (.getfield 68, 3) := by decide +kernel
theorem d_Mo_find_58 : decode prog_14_method_85_code 58 = .ok (.iconst (-1), 1) := by decide +kernel
theorem d_Mo_find_59 : decode prog_14_method_85_code 59 = .ok (.iload 4, 2) := by decide +kernel
theorem d_Mo_find_61 : decode prog_14_method_85_code 61 = .ok (.isub, 1) := by decide +kernel
theorem d_Mo_find_62 : decode prog_14_method_85_code 62 = .ok (.iaload, 1) := by decide +kernel
theorem d_Mo_find_63 : decode prog_14_method_85_code 63 = .ok (.goto 10, 3) := by decide +kernel
theorem d_Mo_find_66 : decode prog_14_method_85_code 66 = .ok (.aload_n 0, 1) := by decide +kernel
theorem d_Mo_find_67 : decode prog_14_method_85_code 67 = .ok (.getfield 40, 3) := by decide +kernel
theorem d_Mo_find_70 : decode prog_14_method_85_code 70 = .ok (.iload 4, 2) := by decide +kernel
theorem d_Mo_find_72 : decode prog_14_method_85_code 72 = .ok (.iaload, 1) := by decide +kernel
theorem d_Mo_find_73 : decode prog_14_method_85_code 73 = .ok (.invokevirtual 433, 3) := by decide +kernel
theorem d_Mo_find_76 : decode prog_14_method_85_code 76 = .ok (.ifCond .eq 7, 3) := by decide +kernel
theorem d_Mo_find_79 : decode prog_14_method_85_code 79 = .ok (.iload_n 3, 1) := by decide +kernel
theorem d_Mo_find_80 : decode prog_14_method_85_code 80 = .ok (.goto 4, 3) := by decide +kernel
theorem d_Mo_find_83 : decode prog_14_method_85_code 83 = .ok (.iload_n 2, 1) := by decide +kernel
theorem d_Mo_find_84 : decode prog_14_method_85_code 84 = .ok (.istore_n 2, 1) := by decide +kernel
theorem d_Mo_find_85 : decode prog_14_method_85_code 85 = .ok (.iinc 3 (-1), 3) := by decide +kernel
theorem d_Mo_find_88 : decode prog_14_method_85_code 88 = .ok (.goto (-52), 3) := by decide +kernel
theorem d_Mo_find_91 : decode prog_14_method_85_code 91 = .ok (.aload_n 0, 1) := by decide +kernel
theorem d_Mo_find_92 : decode prog_14_method_85_code 92 = .ok (.iconst 0, 1) := by decide +kernel
theorem d_Mo_find_93 : decode prog_14_method_85_code 93 = .ok (.putfield 407, 3) := by decide +kernel
theorem d_Mo_find_96 : decode prog_14_method_85_code 96 = .ok (.iload_n 2, 1) := by decide +kernel
theorem d_Mo_find_97 : decode prog_14_method_85_code 97 = .ok (.ireturn, 1) := by decide +kernel
abbrev m_Mo_isTape : cx_M := (⟨"CircuitTextModel", "isTape", "(I)Z"⟩, prog_14_method_84_code, 4, (Option.some Jvm.ClassFile.FieldType.boolean), [], [false, false])
theorem w_Mo_isTape : cx_W m_Mo_isTape := ⟨Or.inl ⟨(in_8 (List.mem_of_getElem? (i := 125) rfl)), rfl⟩, by decide +kernel, by decide, by decide, by decide +kernel⟩
theorem n_Mo_isTape : (parseMethodDescriptor m_Mo_isTape.1.desc).map (fun d => d.parameters.length) = some 1 := by decide +kernel
theorem d_Mo_isTape_0 : decode prog_14_method_84_code 0 = .ok (.aload_n 0, 1) := by decide +kernel
theorem d_Mo_isTape_1 : decode prog_14_method_84_code 1 = .ok (.getfield 22, 3) := by decide +kernel
theorem d_Mo_isTape_4 : decode prog_14_method_84_code 4 = .ok (.iload_n 1, 1) := by decide +kernel
theorem d_Mo_isTape_5 : decode prog_14_method_84_code 5 = .ok (.iaload, 1) := by decide +kernel
theorem d_Mo_isTape_6 : decode prog_14_method_84_code 6 = .ok (.aload_n 0, 1) := by decide +kernel
theorem d_Mo_isTape_7 : decode prog_14_method_84_code 7 = .ok (.getfield 19, 3) := by decide +kernel
theorem d_Mo_isTape_10 : decode prog_14_method_84_code 10 = .ok (.iload_n 1, 1) := by decide +kernel
theorem d_Mo_isTape_11 : decode prog_14_method_84_code 11 = .ok (.iaload, 1) := by decide +kernel
theorem d_Mo_isTape_12 : decode prog_14_method_84_code 12 = .ok (.isub, 1) := by decide +kernel
theorem d_Mo_isTape_13 : decode prog_14_method_84_code 13 = .ok (.aload_n 0, 1) := by decide +kernel
theorem d_Mo_isTape_14 : decode prog_14_method_84_code 14 = .ok (.getfield 407, 3) := by decide +kernel
theorem d_Mo_isTape_17 : decode prog_14_method_84_code 17 = .ok (.if_icmp .ne 7, 3) := by decide +kernel
theorem d_Mo_isTape_20 : decode prog_14_method_84_code 20 = .ok (.iconst 1, 1) := by decide +kernel
theorem d_Mo_isTape_21 : decode prog_14_method_84_code 21 = .ok (.goto 4, 3) := by decide +kernel
theorem d_Mo_isTape_24 : decode prog_14_method_84_code 24 = .ok (.iconst 0, 1) := by decide +kernel
theorem d_Mo_isTape_25 : decode prog_14_method_84_code 25 = .ok (.istore_n 2, 1) := by decide +kernel
theorem d_Mo_isTape_26 : decode prog_14_method_84_code 26 = .ok (.iconst 0, 1) := by decide +kernel
theorem d_Mo_isTape_27 : decode prog_14_method_84_code 27 = .ok (.istore_n 3, 1) := by decide +kernel
theorem d_Mo_isTape_28 : decode prog_14_method_84_code 28 = .ok (.iload_n 2, 1) := by decide +kernel
theorem d_Mo_isTape_29 : decode prog_14_method_84_code 29 = .ok (.ifCond .eq 45, 3) := by decide +kernel
theorem d_Mo_isTape_32 : decode prog_14_method_84_code 32 = .ok (.iload_n 3, 1) := by decide +kernel
theorem d_Mo_isTape_33 : decode prog_14_method_84_code 33 = .ok (.aload_n 0, 1) := by decide +kernel
theorem d_Mo_isTape_34 : decode prog_14_method_84_code 34 = .ok (.getfield 407, 3) := by decide +kernel
theorem d_Mo_isTape_37 : decode prog_14_method_84_code 37 = .ok (.if_icmp .ge 37, 3) := by decide +kernel
theorem d_Mo_isTape_40 : decode prog_14_method_84_code 40 = .ok (.aload_n 0, 1) := by decide +kernel
theorem d_Mo_isTape_41 : decode prog_14_method_84_code 41 = .ok (.getfield 8, 3) := by decide +kernel
theorem d_Mo_isTape_44 : decode prog_14_method_84_code 44 = .ok (.iload_n 3, 1) := by decide +kernel
theorem d_Mo_isTape_45 : decode prog_14_method_84_code 45 = .ok (.baload, 1) := by decide +kernel
theorem d_Mo_isTape_46 : decode prog_14_method_84_code 46 = .ok (.aload_n 0, 1) := by decide +kernel
theorem d_Mo_isTape_47 : decode prog_14_method_84_code 47 = .ok (.getfield 116, 3) := by decide +kernel
theorem d_Mo_isTape_50 : decode prog_14_method_84_code 50 = .ok (.aload_n 0, 1) := by decide +kernel
theorem d_Mo_isTape_51 : decode prog_14_method_84_code 51 = .ok (.getfield 19, 3) := by decide +kernel
theorem d_Mo_isTape_54 : decode prog_14_method_84_code 54 = .ok (.iload_n 1, 1) := by decide +kernel
theorem d_Mo_isTape_55 : decode prog_14_method_84_code 55 = .ok (.iaload, 1) := by decide +kernel
theorem d_Mo_isTape_56 : decode prog_14_method_84_code 56 = .ok (.iload_n 3, 1) := by decide +kernel
theorem d_Mo_isTape_57 : decode prog_14_method_84_code 57 = .ok (.iadd, 1) := by decide +kernel
theorem d_Mo_isTape_58 : decode prog_14_method_84_code 58 = .ok (.baload, 1) := by decide +kernel
theorem d_Mo_isTape_59 : decode prog_14_method_84_code 59 = .ok (.if_icmp .ne 7, 3) := by decide +kernel
theorem d_Mo_isTape_62 : decode prog_14_method_84_code 62 = .ok (.iconst 1, 1) := by decide +kernel
theorem d_Mo_isTape_63 : decode prog_14_method_84_code 63 = .ok (.goto 4, 3) := by decide +kernel
theorem d_Mo_isTape_66 : decode prog_14_method_84_code 66 = .ok (.iconst 0, 1) := by decide +kernel
theorem d_Mo_isTape_67 : decode prog_14_method_84_code 67 = .ok (.istore_n 2, 1) := by decide +kernel
theorem d_Mo_isTape_68 : decode prog_14_method_84_code 68 = .ok (.iinc 3 1, 3) := by decide +kernel
theorem d_Mo_isTape_71 : decode prog_14_method_84_code 71 = .ok (.goto (-43), 3) := by decide +kernel
theorem d_Mo_isTape_74 : decode prog_14_method_84_code 74 = .ok (.iload_n 2, 1) := by decide +kernel
theorem d_Mo_isTape_75 : decode prog_14_method_84_code 75 = .ok (.ireturn, 1) := by decide +kernel
theorem l_Mo_410 : cx_LV "CircuitTextModel" 410 12 m_Mo_readSource := ⟨Or.inl (in_7 (List.mem_of_getElem? (i := 40) rfl)), w_Mo_readSource, (in_7 (List.mem_of_getElem? (i := 42) rfl)), _, rfl, (List.mem_append_left _ (List.mem_of_getElem? (i := 43) rfl))⟩
theorem l_Mo_398 : cx_LV "CircuitTextModel" 398 12 m_Mo_cutTokens := ⟨Or.inl (in_7 (List.mem_of_getElem? (i := 44) rfl)), w_Mo_cutTokens, (in_7 (List.mem_of_getElem? (i := 46) rfl)), _, rfl, (List.mem_append_left _ (List.mem_of_getElem? (i := 44) rfl))⟩
theorem l_Mo_401 : cx_LV "CircuitTextModel" 401 12 m_Mo_designGrammar := ⟨Or.inl (in_7 (List.mem_of_getElem? (i := 98) rfl)), w_Mo_designGrammar, (in_7 (List.mem_of_getElem? (i := 100) rfl)), _, rfl, (List.mem_append_left _ (List.mem_of_getElem? (i := 52) rfl))⟩
theorem l_Mo_404 : cx_LV "CircuitTextModel" 404 12 m_Mo_design := ⟨Or.inl (in_7 (List.mem_of_getElem? (i := 180) rfl)), w_Mo_design, (in_7 (List.mem_of_getElem? (i := 182) rfl)), _, rfl, (List.mem_append_left _ (List.mem_of_getElem? (i := 71) rfl))⟩
theorem l_Mo_164 : cx_LV "CircuitTextModel" 164 12 m_Mo_skip := ⟨Or.inl (in_7 (List.mem_of_getElem? (i := 48) rfl)), w_Mo_skip, (in_7 (List.mem_of_getElem? (i := 50) rfl)), _, rfl, (List.mem_append_left _ (List.mem_of_getElem? (i := 45) rfl))⟩
theorem l_Mo_167 : cx_LV "CircuitTextModel" 167 12 m_Mo_token := ⟨Or.inl (in_7 (List.mem_of_getElem? (i := 56) rfl)), w_Mo_token, (in_7 (List.mem_of_getElem? (i := 58) rfl)), _, rfl, (List.mem_append_left _ (List.mem_of_getElem? (i := 47) rfl))⟩
theorem l_Mo_136 : cx_LV "CircuitTextModel" 136 12 m_Mo_at := ⟨Or.inl (in_7 (List.mem_of_getElem? (i := 52) rfl)), w_Mo_at, (in_7 (List.mem_of_getElem? (i := 54) rfl)), _, rfl, (List.mem_append_left _ (List.mem_of_getElem? (i := 46) rfl))⟩
theorem l_Mo_129 : cx_LS "CircuitTextModel" 129 m_Mo_isLetter := ⟨Or.inl (in_7 (List.mem_of_getElem? (i := 60) rfl)), w_Mo_isLetter, (in_7 (List.mem_of_getElem? (i := 61) rfl)), (in_1 (List.mem_of_getElem? (i := 6) rfl))⟩
theorem l_Mo_158 : cx_LS "CircuitTextModel" 158 m_Mo_isIn := ⟨Or.inl (in_7 (List.mem_of_getElem? (i := 63) rfl)), w_Mo_isIn, (in_7 (List.mem_of_getElem? (i := 64) rfl)), (in_1 (List.mem_of_getElem? (i := 6) rfl))⟩
theorem l_Mo_171 : cx_LV "CircuitTextModel" 171 12 m_Mo_wordKind := ⟨Or.inl (in_7 (List.mem_of_getElem? (i := 69) rfl)), w_Mo_wordKind, (in_7 (List.mem_of_getElem? (i := 71) rfl)), _, rfl, (List.mem_append_left _ (List.mem_of_getElem? (i := 48) rfl))⟩
theorem l_Mo_133 : cx_LS "CircuitTextModel" 133 m_Mo_isDigit := ⟨Or.inl (in_7 (List.mem_of_getElem? (i := 66) rfl)), w_Mo_isDigit, (in_7 (List.mem_of_getElem? (i := 67) rfl)), (in_1 (List.mem_of_getElem? (i := 6) rfl))⟩
theorem l_Mo_175 : cx_LV "CircuitTextModel" 175 12 m_Mo_numberEnd := ⟨Or.inl (in_7 (List.mem_of_getElem? (i := 75) rfl)), w_Mo_numberEnd, (in_7 (List.mem_of_getElem? (i := 77) rfl)), _, rfl, (List.mem_append_left _ (List.mem_of_getElem? (i := 49) rfl))⟩
theorem l_Mo_178 : cx_LV "CircuitTextModel" 178 12 m_Mo_numberKind := ⟨Or.inl (in_7 (List.mem_of_getElem? (i := 79) rfl)), w_Mo_numberKind, (in_7 (List.mem_of_getElem? (i := 81) rfl)), _, rfl, (List.mem_append_left _ (List.mem_of_getElem? (i := 50) rfl))⟩
theorem l_Mo_181 : cx_LS "CircuitTextModel" 181 m_Mo_pair := ⟨Or.inl (in_7 (List.mem_of_getElem? (i := 92) rfl)), w_Mo_pair, (in_7 (List.mem_of_getElem? (i := 93) rfl)), (in_1 (List.mem_of_getElem? (i := 6) rfl))⟩
theorem l_Mo_184 : cx_LS "CircuitTextModel" 184 m_Mo_isSign := ⟨Or.inl (in_7 (List.mem_of_getElem? (i := 95) rfl)), w_Mo_isSign, (in_7 (List.mem_of_getElem? (i := 96) rfl)), (in_1 (List.mem_of_getElem? (i := 6) rfl))⟩
theorem l_Mo_152 : cx_LV "CircuitTextModel" 152 12 m_Mo_read2 := ⟨Or.inl (in_7 (List.mem_of_getElem? (i := 83) rfl)), w_Mo_read2, (in_7 (List.mem_of_getElem? (i := 85) rfl)), _, rfl, (List.mem_append_left _ (List.mem_of_getElem? (i := 51) rfl))⟩
theorem l_Mo_143 : cx_LS "CircuitTextModel" 143 m_Mo_digit := ⟨Or.inl (in_7 (List.mem_of_getElem? (i := 87) rfl)), w_Mo_digit, (in_7 (List.mem_of_getElem? (i := 88) rfl)), (in_1 (List.mem_of_getElem? (i := 6) rfl))⟩
theorem l_Mo_209 : cx_LV "CircuitTextModel" 209 12 m_Mo_take := ⟨Or.inl (in_7 (List.mem_of_getElem? (i := 102) rfl)), w_Mo_take, (in_7 (List.mem_of_getElem? (i := 104) rfl)), _, rfl, (List.mem_append_left _ (List.mem_of_getElem? (i := 53) rfl))⟩
theorem l_Mo_223 : cx_LV "CircuitTextModel" 223 12 m_Mo_open := ⟨Or.inl (in_7 (List.mem_of_getElem? (i := 114) rfl)), w_Mo_open, (in_7 (List.mem_of_getElem? (i := 116) rfl)), _, rfl, (List.mem_append_left _ (List.mem_of_getElem? (i := 56) rfl))⟩
theorem l_Mo_203 : cx_LV "CircuitTextModel" 203 12 m_Mo_is := ⟨Or.inl (in_7 (List.mem_of_getElem? (i := 118) rfl)), w_Mo_is, (in_7 (List.mem_of_getElem? (i := 120) rfl)), _, rfl, (List.mem_append_left _ (List.mem_of_getElem? (i := 57) rfl))⟩
theorem l_Mo_256 : cx_LV "CircuitTextModel" 256 12 m_Mo_portGrammar := ⟨Or.inl (in_7 (List.mem_of_getElem? (i := 122) rfl)), w_Mo_portGrammar, (in_7 (List.mem_of_getElem? (i := 124) rfl)), _, rfl, (List.mem_append_left _ (List.mem_of_getElem? (i := 58) rfl))⟩
theorem l_Mo_235 : cx_LV "CircuitTextModel" 235 12 m_Mo_shut := ⟨Or.inl (in_7 (List.mem_of_getElem? (i := 130) rfl)), w_Mo_shut, (in_7 (List.mem_of_getElem? (i := 132) rfl)), _, rfl, (List.mem_append_left _ (List.mem_of_getElem? (i := 60) rfl))⟩
theorem l_Mo_216 : cx_LV "CircuitTextModel" 216 12 m_Mo_kind := ⟨Or.inl (in_7 (List.mem_of_getElem? (i := 138) rfl)), w_Mo_kind, (in_7 (List.mem_of_getElem? (i := 140) rfl)), _, rfl, (List.mem_append_left _ (List.mem_of_getElem? (i := 62) rfl))⟩
theorem l_Mo_259 : cx_LV "CircuitTextModel" 259 12 m_Mo_itemGrammar := ⟨Or.inl (in_7 (List.mem_of_getElem? (i := 142) rfl)), w_Mo_itemGrammar, (in_7 (List.mem_of_getElem? (i := 144) rfl)), _, rfl, (List.mem_append_left _ (List.mem_of_getElem? (i := 63) rfl))⟩
theorem l_Mo_200 : cx_LV "CircuitTextModel" 200 12 m_Mo_no := ⟨Or.inl (in_7 (List.mem_of_getElem? (i := 106) rfl)), w_Mo_no, (in_7 (List.mem_of_getElem? (i := 108) rfl)), _, rfl, (List.mem_append_left _ (List.mem_of_getElem? (i := 54) rfl))⟩
theorem l_Mo_196 : cx_LV "CircuitTextModel" 196 12 m_Mo_fail := ⟨Or.inl (in_7 (List.mem_of_getElem? (i := 110) rfl)), w_Mo_fail, (in_7 (List.mem_of_getElem? (i := 112) rfl)), _, rfl, (List.mem_append_left _ (List.mem_of_getElem? (i := 55) rfl))⟩
theorem l_Mo_241 : cx_LV "CircuitTextModel" 241 12 m_Mo_rangeGrammar := ⟨Or.inl (in_7 (List.mem_of_getElem? (i := 126) rfl)), w_Mo_rangeGrammar, (in_7 (List.mem_of_getElem? (i := 128) rfl)), _, rfl, (List.mem_append_left _ (List.mem_of_getElem? (i := 59) rfl))⟩
theorem l_Mo_244 : cx_LV "CircuitTextModel" 244 12 m_Mo_beginGrammar := ⟨Or.inl (in_7 (List.mem_of_getElem? (i := 134) rfl)), w_Mo_beginGrammar, (in_7 (List.mem_of_getElem? (i := 136) rfl)), _, rfl, (List.mem_append_left _ (List.mem_of_getElem? (i := 61) rfl))⟩
theorem l_Mo_226 : cx_LV "CircuitTextModel" 226 12 m_Mo_expGrammar := ⟨Or.inl (in_7 (List.mem_of_getElem? (i := 146) rfl)), w_Mo_expGrammar, (in_7 (List.mem_of_getElem? (i := 148) rfl)), _, rfl, (List.mem_append_left _ (List.mem_of_getElem? (i := 64) rfl))⟩
theorem l_Mo_247 : cx_LV "CircuitTextModel" 247 12 m_Mo_statementGrammar := ⟨Or.inl (in_7 (List.mem_of_getElem? (i := 168) rfl)), w_Mo_statementGrammar, (in_7 (List.mem_of_getElem? (i := 170) rfl)), _, rfl, (List.mem_append_left _ (List.mem_of_getElem? (i := 68) rfl))⟩
theorem l_Mo_253 : cx_LV "CircuitTextModel" 253 12 m_Mo_linkGrammar := ⟨Or.inl (in_7 (List.mem_of_getElem? (i := 176) rfl)), w_Mo_linkGrammar, (in_7 (List.mem_of_getElem? (i := 178) rfl)), _, rfl, (List.mem_append_left _ (List.mem_of_getElem? (i := 70) rfl))⟩
theorem l_Mo_213 : cx_LV "CircuitTextModel" 213 12 m_Mo_operandGrammar := ⟨Or.inl (in_7 (List.mem_of_getElem? (i := 150) rfl)), w_Mo_operandGrammar, (in_7 (List.mem_of_getElem? (i := 152) rfl)), _, rfl, (List.mem_append_left _ (List.mem_of_getElem? (i := 65) rfl))⟩
theorem l_Mo_220 : cx_LS "CircuitTextModel" 220 m_Mo_rank := ⟨Or.inl (in_7 (List.mem_of_getElem? (i := 165) rfl)), w_Mo_rank, (in_7 (List.mem_of_getElem? (i := 166) rfl)), (in_1 (List.mem_of_getElem? (i := 6) rfl))⟩
theorem l_Mo_229 : cx_LS "CircuitTextModel" 229 m_Mo_isUnary := ⟨Or.inl (in_7 (List.mem_of_getElem? (i := 154) rfl)), w_Mo_isUnary, (in_7 (List.mem_of_getElem? (i := 155) rfl)), (in_1 (List.mem_of_getElem? (i := 6) rfl))⟩
theorem l_Mo_232 : cx_LV "CircuitTextModel" 232 12 m_Mo_partGrammar := ⟨Or.inl (in_7 (List.mem_of_getElem? (i := 157) rfl)), w_Mo_partGrammar, (in_7 (List.mem_of_getElem? (i := 159) rfl)), _, rfl, (List.mem_append_left _ (List.mem_of_getElem? (i := 66) rfl))⟩
theorem l_Mo_238 : cx_LV "CircuitTextModel" 238 12 m_Mo_bracesGrammar := ⟨Or.inl (in_7 (List.mem_of_getElem? (i := 161) rfl)), w_Mo_bracesGrammar, (in_7 (List.mem_of_getElem? (i := 163) rfl)), _, rfl, (List.mem_append_left _ (List.mem_of_getElem? (i := 67) rfl))⟩
theorem l_Mo_250 : cx_LV "CircuitTextModel" 250 12 m_Mo_caseGrammar := ⟨Or.inl (in_7 (List.mem_of_getElem? (i := 172) rfl)), w_Mo_caseGrammar, (in_7 (List.mem_of_getElem? (i := 174) rfl)), _, rfl, (List.mem_append_left _ (List.mem_of_getElem? (i := 69) rfl))⟩
theorem l_Mo_395 : cx_LV "CircuitTextModel" 395 12 m_Mo_module1 := ⟨Or.inl (in_7 (List.mem_of_getElem? (i := 184) rfl)), w_Mo_module1, (in_7 (List.mem_of_getElem? (i := 186) rfl)), _, rfl, (List.mem_append_left _ (List.mem_of_getElem? (i := 72) rfl))⟩
theorem l_Mo_368 : cx_LV "CircuitTextModel" 368 12 m_Mo_moduleNamed := ⟨Or.inl (in_7 (List.mem_of_getElem? (i := 188) rfl)), w_Mo_moduleNamed, (in_7 (List.mem_of_getElem? (i := 190) rfl)), _, rfl, (List.mem_append_left _ (List.mem_of_getElem? (i := 73) rfl))⟩
theorem l_Mo_389 : cx_LV "CircuitTextModel" 389 12 m_Mo_port := ⟨Or.inl (in_7 (List.mem_of_getElem? (i := 196) rfl)), w_Mo_port, (in_7 (List.mem_of_getElem? (i := 198) rfl)), _, rfl, (List.mem_append_left _ (List.mem_of_getElem? (i := 75) rfl))⟩
theorem l_Mo_392 : cx_LV "CircuitTextModel" 392 12 m_Mo_item := ⟨Or.inl (in_7 (List.mem_of_getElem? (i := 229) rfl)), w_Mo_item, (in_7 (List.mem_of_getElem? (i := 231) rfl)), _, rfl, (List.mem_append_left _ (List.mem_of_getElem? (i := 83) rfl))⟩
theorem l_Mo_347 : cx_LV "CircuitTextModel" 347 12 m_Mo_isDriven := ⟨Or.inl (in_7 (List.mem_of_getElem? (i := 237) rfl)), w_Mo_isDriven, (in_7 (List.mem_of_getElem? (i := 239) rfl)), _, rfl, (List.mem_append_left _ (List.mem_of_getElem? (i := 85) rfl))⟩
theorem l_Mo_262 : cx_LV "CircuitTextModel" 262 12 m_Mo_sameToken := ⟨Or.inl (in_7 (List.mem_of_getElem? (i := 192) rfl)), w_Mo_sameToken, (in_7 (List.mem_of_getElem? (i := 194) rfl)), _, rfl, (List.mem_append_left _ (List.mem_of_getElem? (i := 74) rfl))⟩
theorem l_Mo_341 : cx_LV "CircuitTextModel" 341 12 m_Mo_range := ⟨Or.inl (in_7 (List.mem_of_getElem? (i := 200) rfl)), w_Mo_range, (in_7 (List.mem_of_getElem? (i := 202) rfl)), _, rfl, (List.mem_append_left _ (List.mem_of_getElem? (i := 76) rfl))⟩
theorem l_Mo_344 : cx_LV "CircuitTextModel" 344 12 m_Mo_declare := ⟨Or.inl (in_7 (List.mem_of_getElem? (i := 209) rfl)), w_Mo_declare, (in_7 (List.mem_of_getElem? (i := 211) rfl)), _, rfl, (List.mem_append_left _ (List.mem_of_getElem? (i := 78) rfl))⟩
theorem l_Mo_316 : cx_LV "CircuitTextModel" 316 12 m_Mo_numberOf := ⟨Or.inl (in_7 (List.mem_of_getElem? (i := 204) rfl)), w_Mo_numberOf, (in_7 (List.mem_of_getElem? (i := 206) rfl)), _, rfl, (List.mem_append_left _ (List.mem_of_getElem? (i := 77) rfl))⟩
theorem l_Mo_330 : cx_LV "CircuitTextModel" 330 12 m_Mo_here := ⟨Or.inl (in_7 (List.mem_of_getElem? (i := 213) rfl)), w_Mo_here, (in_7 (List.mem_of_getElem? (i := 215) rfl)), _, rfl, (List.mem_append_left _ (List.mem_of_getElem? (i := 79) rfl))⟩
theorem l_Mo_338 : cx_LV "CircuitTextModel" 338 12 m_Mo_isInstanceName := ⟨Or.inl (in_7 (List.mem_of_getElem? (i := 221) rfl)), w_Mo_isInstanceName, (in_7 (List.mem_of_getElem? (i := 223) rfl)), _, rfl, (List.mem_append_left _ (List.mem_of_getElem? (i := 81) rfl))⟩
theorem l_Mo_324 : cx_LV "CircuitTextModel" 324 12 m_Mo_widthOfNumber := ⟨Or.inl (in_7 (List.mem_of_getElem? (i := 225) rfl)), w_Mo_widthOfNumber, (in_7 (List.mem_of_getElem? (i := 227) rfl)), _, rfl, (List.mem_append_left _ (List.mem_of_getElem? (i := 82) rfl))⟩
theorem l_Mo_272 : cx_LV "CircuitTextModel" 272 12 m_Mo_signalNamed := ⟨Or.inl (in_7 (List.mem_of_getElem? (i := 217) rfl)), w_Mo_signalNamed, (in_7 (List.mem_of_getElem? (i := 219) rfl)), _, rfl, (List.mem_append_left _ (List.mem_of_getElem? (i := 80) rfl))⟩
theorem l_Mo_380 : cx_LV "CircuitTextModel" 380 12 m_Mo_assign := ⟨Or.inl (in_7 (List.mem_of_getElem? (i := 233) rfl)), w_Mo_assign, (in_7 (List.mem_of_getElem? (i := 235) rfl)), _, rfl, (List.mem_append_left _ (List.mem_of_getElem? (i := 84) rfl))⟩
theorem l_Mo_350 : cx_LV "CircuitTextModel" 350 12 m_Mo_statement := ⟨Or.inl (in_8 (List.mem_of_getElem? (i := 45) rfl)), w_Mo_statement, (in_8 (List.mem_of_getElem? (i := 47) rfl)), _, rfl, (List.mem_append_left _ (List.mem_of_getElem? (i := 97) rfl))⟩
theorem l_Mo_288 : cx_LV "CircuitTextModel" 288 12 m_Mo_exp := ⟨Or.inl (in_8 (List.mem_of_getElem? (i := 1) rfl)), w_Mo_exp, (in_8 (List.mem_of_getElem? (i := 3) rfl)), _, rfl, (List.mem_append_left _ (List.mem_of_getElem? (i := 86) rfl))⟩
theorem l_Mo_291 : cx_LV "CircuitTextModel" 291 12 m_Mo_cost := ⟨Or.inl (in_8 (List.mem_of_getElem? (i := 33) rfl)), w_Mo_cost, (in_8 (List.mem_of_getElem? (i := 35) rfl)), _, rfl, (List.mem_append_left _ (List.mem_of_getElem? (i := 94) rfl))⟩
theorem l_Mo_386 : cx_LV "CircuitTextModel" 386 12 m_Mo_instance := ⟨Or.inl (in_8 (List.mem_of_getElem? (i := 65) rfl)), w_Mo_instance, (in_8 (List.mem_of_getElem? (i := 67) rfl)), _, rfl, (List.mem_append_left _ (List.mem_of_getElem? (i := 102) rfl))⟩
theorem l_Mo_285 : cx_LV "CircuitTextModel" 285 12 m_Mo_binary := ⟨Or.inl (in_8 (List.mem_of_getElem? (i := 5) rfl)), w_Mo_binary, (in_8 (List.mem_of_getElem? (i := 7) rfl)), _, rfl, (List.mem_append_left _ (List.mem_of_getElem? (i := 87) rfl))⟩
theorem l_Mo_295 : cx_LV "CircuitTextModel" 295 12 m_Mo_lay := ⟨Or.inl (in_8 (List.mem_of_getElem? (i := 21) rfl)), w_Mo_lay, (in_8 (List.mem_of_getElem? (i := 23) rfl)), _, rfl, (List.mem_append_left _ (List.mem_of_getElem? (i := 91) rfl))⟩
theorem l_Mo_301 : cx_LV "CircuitTextModel" 301 12 m_Mo_operand := ⟨Or.inl (in_8 (List.mem_of_getElem? (i := 9) rfl)), w_Mo_operand, (in_8 (List.mem_of_getElem? (i := 11) rfl)), _, rfl, (List.mem_append_left _ (List.mem_of_getElem? (i := 88) rfl))⟩
theorem l_Mo_304 : cx_LV "CircuitTextModel" 304 12 m_Mo_pushWidth := ⟨Or.inl (in_8 (List.mem_of_getElem? (i := 37) rfl)), w_Mo_pushWidth, (in_8 (List.mem_of_getElem? (i := 39) rfl)), _, rfl, (List.mem_append_left _ (List.mem_of_getElem? (i := 95) rfl))⟩
theorem l_Mo_307 : cx_LV "CircuitTextModel" 307 12 m_Mo_reckon := ⟨Or.inl (in_8 (List.mem_of_getElem? (i := 41) rfl)), w_Mo_reckon, (in_8 (List.mem_of_getElem? (i := 43) rfl)), _, rfl, (List.mem_append_left _ (List.mem_of_getElem? (i := 96) rfl))⟩
theorem l_Mo_313 : cx_LV "CircuitTextModel" 313 12 m_Mo_primary := ⟨Or.inl (in_8 (List.mem_of_getElem? (i := 13) rfl)), w_Mo_primary, (in_8 (List.mem_of_getElem? (i := 15) rfl)), _, rfl, (List.mem_append_left _ (List.mem_of_getElem? (i := 89) rfl))⟩
theorem l_Mo_320 : cx_LV "CircuitTextModel" 320 12 m_Mo_keepNumber := ⟨Or.inl (in_8 (List.mem_of_getElem? (i := 17) rfl)), w_Mo_keepNumber, (in_8 (List.mem_of_getElem? (i := 19) rfl)), _, rfl, (List.mem_append_left _ (List.mem_of_getElem? (i := 90) rfl))⟩
theorem l_Mo_327 : cx_LV "CircuitTextModel" 327 12 m_Mo_braces := ⟨Or.inl (in_8 (List.mem_of_getElem? (i := 25) rfl)), w_Mo_braces, (in_8 (List.mem_of_getElem? (i := 27) rfl)), _, rfl, (List.mem_append_left _ (List.mem_of_getElem? (i := 92) rfl))⟩
theorem l_Mo_333 : cx_LV "CircuitTextModel" 333 12 m_Mo_part := ⟨Or.inl (in_8 (List.mem_of_getElem? (i := 29) rfl)), w_Mo_part, (in_8 (List.mem_of_getElem? (i := 31) rfl)), _, rfl, (List.mem_append_left _ (List.mem_of_getElem? (i := 93) rfl))⟩
theorem l_Mo_353 : cx_LV "CircuitTextModel" 353 12 m_Mo_caseOf := ⟨Or.inl (in_8 (List.mem_of_getElem? (i := 49) rfl)), w_Mo_caseOf, (in_8 (List.mem_of_getElem? (i := 51) rfl)), _, rfl, (List.mem_append_left _ (List.mem_of_getElem? (i := 98) rfl))⟩
theorem l_Mo_356 : cx_LV "CircuitTextModel" 356 12 m_Mo_setting := ⟨Or.inl (in_8 (List.mem_of_getElem? (i := 57) rfl)), w_Mo_setting, (in_8 (List.mem_of_getElem? (i := 59) rfl)), _, rfl, (List.mem_append_left _ (List.mem_of_getElem? (i := 100) rfl))⟩
theorem l_Mo_359 : cx_LV "CircuitTextModel" 359 12 m_Mo_patch := ⟨Or.inl (in_8 (List.mem_of_getElem? (i := 53) rfl)), w_Mo_patch, (in_8 (List.mem_of_getElem? (i := 55) rfl)), _, rfl, (List.mem_append_left _ (List.mem_of_getElem? (i := 99) rfl))⟩
theorem l_Mo_362 : cx_LV "CircuitTextModel" 362 12 m_Mo_isRegister := ⟨Or.inl (in_8 (List.mem_of_getElem? (i := 61) rfl)), w_Mo_isRegister, (in_8 (List.mem_of_getElem? (i := 63) rfl)), _, rfl, (List.mem_append_left _ (List.mem_of_getElem? (i := 101) rfl))⟩
theorem l_Mo_374 : cx_LV "CircuitTextModel" 374 12 m_Mo_link := ⟨Or.inl (in_8 (List.mem_of_getElem? (i := 69) rfl)), w_Mo_link, (in_8 (List.mem_of_getElem? (i := 71) rfl)), _, rfl, (List.mem_append_left _ (List.mem_of_getElem? (i := 103) rfl))⟩
theorem l_Mo_377 : cx_LV "CircuitTextModel" 377 12 m_Mo_linkOf := ⟨Or.inl (in_8 (List.mem_of_getElem? (i := 73) rfl)), w_Mo_linkOf, (in_8 (List.mem_of_getElem? (i := 75) rfl)), _, rfl, (List.mem_append_left _ (List.mem_of_getElem? (i := 104) rfl))⟩
theorem l_Mo_422 : cx_LV "CircuitTextModel" 422 12 m_Mo_isModule := ⟨Or.inl (in_8 (List.mem_of_getElem? (i := 97) rfl)), w_Mo_isModule, (in_8 (List.mem_of_getElem? (i := 99) rfl)), _, rfl, (List.mem_append_left _ (List.mem_of_getElem? (i := 105) rfl))⟩
theorem l_Mo_425 : cx_LV "CircuitTextModel" 425 12 m_Mo_names := ⟨Or.inl (in_8 (List.mem_of_getElem? (i := 101) rfl)), w_Mo_names, (in_8 (List.mem_of_getElem? (i := 103) rfl)), _, rfl, (List.mem_append_left _ (List.mem_of_getElem? (i := 106) rfl))⟩
theorem l_Mo_430 : cx_LV "CircuitTextModel" 430 12 m_Mo_nameAt := ⟨Or.inl (in_8 (List.mem_of_getElem? (i := 110) rfl)), w_Mo_nameAt, (in_8 (List.mem_of_getElem? (i := 112) rfl)), _, rfl, (List.mem_append_left _ (List.mem_of_getElem? (i := 107) rfl))⟩
theorem l_Mo_433 : cx_LV "CircuitTextModel" 433 12 m_Mo_isTape := ⟨Or.inl (in_8 (List.mem_of_getElem? (i := 122) rfl)), w_Mo_isTape, (in_8 (List.mem_of_getElem? (i := 124) rfl)), _, rfl, (List.mem_append_left _ (List.mem_of_getElem? (i := 108) rfl))⟩

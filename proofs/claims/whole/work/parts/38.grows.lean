/-! GRAMMAR: the rows of its methods. -/
abbrev m_Gr_init : cx_M := (⟨"CircuitText$Grammar", "<init>", "(LCircuitText$Token;LCircuitText$Meaning;LCircuitText$Verdict;)V"⟩, prog_2_method_1_code, 4, (Option.none : Option Jvm.ClassFile.FieldType), [], [false, false, false, false])
theorem w_Gr_init : cx_W m_Gr_init := ⟨Or.inl ⟨(in_4 (List.mem_of_getElem? (i := 49) rfl)), rfl⟩, by decide +kernel, by decide, by decide, by decide +kernel⟩
theorem n_Gr_init : (parseMethodDescriptor m_Gr_init.1.desc).map (fun d => d.parameters.length) = some 3 := by decide +kernel
theorem d_Gr_init_0 : decode prog_2_method_1_code 0 = .ok (.aload_n 0, 1) := by decide +kernel
theorem d_Gr_init_1 : decode prog_2_method_1_code 1 = .ok (.invokespecial 3, 3) := by decide +kernel
theorem d_Gr_init_4 : decode prog_2_method_1_code 4 = .ok (.aload_n 0, 1) := by decide +kernel
theorem d_Gr_init_5 : decode prog_2_method_1_code 5 = .ok (.iconst 0, 1) := by decide +kernel
theorem d_Gr_init_6 : decode prog_2_method_1_code 6 = .ok (.putfield 9, 3) := by decide +kernel
theorem d_Gr_init_9 : decode prog_2_method_1_code 9 = .ok (.aload_n 0, 1) := by decide +kernel
theorem d_Gr_init_10 : decode prog_2_method_1_code 10 = .ok (.aload_n 1, 1) := by decide +kernel
theorem d_Gr_init_11 : decode prog_2_method_1_code 11 = .ok (.putfield 15, 3) := by decide +kernel
theorem d_Gr_init_14 : decode prog_2_method_1_code 14 = .ok (.aload_n 0, 1) := by decide +kernel
theorem d_Gr_init_15 : decode prog_2_method_1_code 15 = .ok (.aload_n 2, 1) := by decide +kernel
theorem d_Gr_init_16 : decode prog_2_method_1_code 16 = .ok (.putfield 19, 3) := by decide +kernel
theorem d_Gr_init_19 : decode prog_2_method_1_code 19 = .ok (.aload_n 0, 1) := by decide +kernel
theorem d_Gr_init_20 : decode prog_2_method_1_code 20 = .ok (.aload_n 3, 1) := by decide +kernel
theorem d_Gr_init_21 : decode prog_2_method_1_code 21 = .ok (.putfield 23, 3) := by decide +kernel
theorem d_Gr_init_24 : decode prog_2_method_1_code 24 = .ok (.return_, 1) := by decide +kernel
theorem f_Gr_9 : cx_F "CircuitText$Grammar" 9 1 3 (.int) false := ⟨_, F_Gr, 4, t_Gr, k_Gr, by decide, rfl, rfl, Or.inl (in_4 (List.mem_of_getElem? (i := 54) rfl))⟩
theorem f_Gr_15 : cx_F "CircuitText$Grammar" 15 1 2 (.object "CircuitText$Token") false := ⟨_, F_Gr, 4, t_Gr, k_Gr, by decide, rfl, rfl, Or.inl (in_4 (List.mem_of_getElem? (i := 53) rfl))⟩
theorem f_Gr_19 : cx_F "CircuitText$Grammar" 19 1 0 (.object "CircuitText$Meaning") true := ⟨_, F_Gr, 4, t_Gr, k_Gr, by decide, rfl, rfl, Or.inl (in_4 (List.mem_of_getElem? (i := 51) rfl))⟩
theorem ff_Gr_19 : cx_FF "CircuitText$Grammar" 19 1 0 (.object "CircuitText$Meaning") := ⟨_, F_Gr, 4, t_Gr, k_Gr, by decide, rfl, rfl, rfl, (in_4 (List.mem_of_getElem? (i := 51) rfl))⟩
theorem f_Gr_23 : cx_F "CircuitText$Grammar" 23 1 1 (.object "CircuitText$Verdict") true := ⟨_, F_Gr, 4, t_Gr, k_Gr, by decide, rfl, rfl, Or.inl (in_4 (List.mem_of_getElem? (i := 52) rfl))⟩
theorem ff_Gr_23 : cx_FF "CircuitText$Grammar" 23 1 1 (.object "CircuitText$Verdict") := ⟨_, F_Gr, 4, t_Gr, k_Gr, by decide, rfl, rfl, rfl, (in_4 (List.mem_of_getElem? (i := 52) rfl))⟩
abbrev m_Gr_design : cx_M := (⟨"CircuitText$Grammar", "design", "()V"⟩, prog_2_method_2_code, 2, (Option.none : Option Jvm.ClassFile.FieldType), [], [false])
theorem w_Gr_design : cx_W m_Gr_design := ⟨Or.inl ⟨(in_4 (List.mem_of_getElem? (i := 67) rfl)), rfl⟩, by decide +kernel, by decide, by decide, by decide +kernel⟩
theorem n_Gr_design : (parseMethodDescriptor m_Gr_design.1.desc).map (fun d => d.parameters.length) = some 0 := by decide +kernel
theorem d_Gr_design_0 : decode prog_2_method_2_code 0 = .ok (.aload_n 0, 1) := by decide +kernel
theorem d_Gr_design_1 : decode prog_2_method_2_code 1 = .ok (.invokevirtual 27, 3) := by decide +kernel
theorem d_Gr_design_4 : decode prog_2_method_2_code 4 = .ok (.iconst 0, 1) := by decide +kernel
theorem d_Gr_design_5 : decode prog_2_method_2_code 5 = .ok (.istore_n 1, 1) := by decide +kernel
theorem d_Gr_design_6 : decode prog_2_method_2_code 6 = .ok (.iload_n 1, 1) := by decide +kernel
theorem d_Gr_design_7 : decode prog_2_method_2_code 7 = .ok (.ldc 30, 2) := by decide +kernel
theorem d_Gr_design_9 : decode prog_2_method_2_code 9 = .ok (.if_icmp .ge 25, 3) := by decide +kernel
theorem d_Gr_design_12 : decode prog_2_method_2_code 12 = .ok (.aload_n 0, 1) := by decide +kernel
theorem d_Gr_design_13 : decode prog_2_method_2_code 13 = .ok (.getfield 15, 3) := by decide +kernel
theorem d_Gr_design_16 : decode prog_2_method_2_code 16 = .ok (.getfield 31, 3) := by decide +kernel
theorem d_Gr_design_19 : decode prog_2_method_2_code 19 = .ok (.bipush 22, 2) := by decide +kernel
theorem d_Gr_design_21 : decode prog_2_method_2_code 21 = .ok (.if_icmp .eq 13, 3) := by decide +kernel
theorem d_Gr_design_24 : decode prog_2_method_2_code 24 = .ok (.aload_n 0, 1) := by decide +kernel
theorem d_Gr_design_25 : decode prog_2_method_2_code 25 = .ok (.invokevirtual 27, 3) := by decide +kernel
theorem d_Gr_design_28 : decode prog_2_method_2_code 28 = .ok (.iinc 1 1, 3) := by decide +kernel
theorem d_Gr_design_31 : decode prog_2_method_2_code 31 = .ok (.goto (-25), 3) := by decide +kernel
theorem d_Gr_design_34 : decode prog_2_method_2_code 34 = .ok (.return_, 1) := by decide +kernel
theorem f_Gr_31 : cx_F "CircuitText$Grammar" 31 7 0 (.int) true := ⟨_, F_To, 7, t_To, k_To, by decide, rfl, rfl, Or.inr ⟨"CircuitText", (in_1 (List.mem_of_getElem? (i := 136) rfl))⟩⟩
abbrev m_Gr_unitText : cx_M := (⟨"CircuitText$Grammar", "unitText", "()V"⟩, prog_2_method_4_code, 2, (Option.none : Option Jvm.ClassFile.FieldType), [], [false])
theorem w_Gr_unitText : cx_W m_Gr_unitText := ⟨Or.inl ⟨(in_4 (List.mem_of_getElem? (i := 71) rfl)), rfl⟩, by decide +kernel, by decide, by decide, by decide +kernel⟩
theorem n_Gr_unitText : (parseMethodDescriptor m_Gr_unitText.1.desc).map (fun d => d.parameters.length) = some 0 := by decide +kernel
theorem d_Gr_unitText_0 : decode prog_2_method_4_code 0 = .ok (.aload_n 0, 1) := by decide +kernel
theorem d_Gr_unitText_1 : decode prog_2_method_4_code 1 = .ok (.iconst 1, 1) := by decide +kernel
theorem d_Gr_unitText_2 : decode prog_2_method_4_code 2 = .ok (.invokevirtual 55, 3) := by decide +kernel
theorem d_Gr_unitText_5 : decode prog_2_method_4_code 5 = .ok (.pop, 1) := by decide +kernel
theorem d_Gr_unitText_6 : decode prog_2_method_4_code 6 = .ok (.aload_n 0, 1) := by decide +kernel
theorem d_Gr_unitText_7 : decode prog_2_method_4_code 7 = .ok (.getfield 19, 3) := by decide +kernel
theorem d_Gr_unitText_10 : decode prog_2_method_4_code 10 = .ok (.aload_n 0, 1) := by decide +kernel
theorem d_Gr_unitText_11 : decode prog_2_method_4_code 11 = .ok (.bipush 19, 2) := by decide +kernel
theorem d_Gr_unitText_13 : decode prog_2_method_4_code 13 = .ok (.invokevirtual 55, 3) := by decide +kernel
theorem d_Gr_unitText_16 : decode prog_2_method_4_code 16 = .ok (.invokevirtual 59, 3) := by decide +kernel
theorem d_Gr_unitText_19 : decode prog_2_method_4_code 19 = .ok (.aload_n 0, 1) := by decide +kernel
theorem d_Gr_unitText_20 : decode prog_2_method_4_code 20 = .ok (.bipush 40, 2) := by decide +kernel
theorem d_Gr_unitText_22 : decode prog_2_method_4_code 22 = .ok (.invokevirtual 55, 3) := by decide +kernel
theorem d_Gr_unitText_25 : decode prog_2_method_4_code 25 = .ok (.pop, 1) := by decide +kernel
theorem d_Gr_unitText_26 : decode prog_2_method_4_code 26 = .ok (.aload_n 0, 1) := by decide +kernel
theorem d_Gr_unitText_27 : decode prog_2_method_4_code 27 = .ok (.getfield 15, 3) := by decide +kernel
theorem d_Gr_unitText_30 : decode prog_2_method_4_code 30 = .ok (.getfield 31, 3) := by decide +kernel
theorem d_Gr_unitText_33 : decode prog_2_method_4_code 33 = .ok (.bipush 41, 2) := by decide +kernel
theorem d_Gr_unitText_35 : decode prog_2_method_4_code 35 = .ok (.if_icmp .eq 7, 3) := by decide +kernel
theorem d_Gr_unitText_38 : decode prog_2_method_4_code 38 = .ok (.aload_n 0, 1) := by decide +kernel
theorem d_Gr_unitText_39 : decode prog_2_method_4_code 39 = .ok (.invokevirtual 65, 3) := by decide +kernel
theorem d_Gr_unitText_42 : decode prog_2_method_4_code 42 = .ok (.iconst 0, 1) := by decide +kernel
theorem d_Gr_unitText_43 : decode prog_2_method_4_code 43 = .ok (.istore_n 1, 1) := by decide +kernel
theorem d_Gr_unitText_44 : decode prog_2_method_4_code 44 = .ok (.iload_n 1, 1) := by decide +kernel
theorem d_Gr_unitText_45 : decode prog_2_method_4_code 45 = .ok (.ldc 30, 2) := by decide +kernel
theorem d_Gr_unitText_47 : decode prog_2_method_4_code 47 = .ok (.if_icmp .ge 32, 3) := by decide +kernel
theorem d_Gr_unitText_50 : decode prog_2_method_4_code 50 = .ok (.aload_n 0, 1) := by decide +kernel
theorem d_Gr_unitText_51 : decode prog_2_method_4_code 51 = .ok (.getfield 15, 3) := by decide +kernel
theorem d_Gr_unitText_54 : decode prog_2_method_4_code 54 = .ok (.getfield 31, 3) := by decide +kernel
theorem d_Gr_unitText_57 : decode prog_2_method_4_code 57 = .ok (.bipush 41, 2) := by decide +kernel
theorem d_Gr_unitText_59 : decode prog_2_method_4_code 59 = .ok (.if_icmp .eq 20, 3) := by decide +kernel
theorem d_Gr_unitText_62 : decode prog_2_method_4_code 62 = .ok (.aload_n 0, 1) := by decide +kernel
theorem d_Gr_unitText_63 : decode prog_2_method_4_code 63 = .ok (.bipush 44, 2) := by decide +kernel
theorem d_Gr_unitText_65 : decode prog_2_method_4_code 65 = .ok (.invokevirtual 55, 3) := by decide +kernel
theorem d_Gr_unitText_68 : decode prog_2_method_4_code 68 = .ok (.pop, 1) := by decide +kernel
theorem d_Gr_unitText_69 : decode prog_2_method_4_code 69 = .ok (.aload_n 0, 1) := by decide +kernel
theorem d_Gr_unitText_70 : decode prog_2_method_4_code 70 = .ok (.invokevirtual 65, 3) := by decide +kernel
theorem d_Gr_unitText_73 : decode prog_2_method_4_code 73 = .ok (.iinc 1 1, 3) := by decide +kernel
theorem d_Gr_unitText_76 : decode prog_2_method_4_code 76 = .ok (.goto (-32), 3) := by decide +kernel
theorem d_Gr_unitText_79 : decode prog_2_method_4_code 79 = .ok (.aload_n 0, 1) := by decide +kernel
theorem d_Gr_unitText_80 : decode prog_2_method_4_code 80 = .ok (.bipush 41, 2) := by decide +kernel
theorem d_Gr_unitText_82 : decode prog_2_method_4_code 82 = .ok (.invokevirtual 55, 3) := by decide +kernel
theorem d_Gr_unitText_85 : decode prog_2_method_4_code 85 = .ok (.pop, 1) := by decide +kernel
theorem d_Gr_unitText_86 : decode prog_2_method_4_code 86 = .ok (.aload_n 0, 1) := by decide +kernel
theorem d_Gr_unitText_87 : decode prog_2_method_4_code 87 = .ok (.bipush 59, 2) := by decide +kernel
theorem d_Gr_unitText_89 : decode prog_2_method_4_code 89 = .ok (.invokevirtual 55, 3) := by decide +kernel
theorem d_Gr_unitText_92 : decode prog_2_method_4_code 92 = .ok (.pop, 1) := by decide +kernel
theorem d_Gr_unitText_93 : decode prog_2_method_4_code 93 = .ok (.iconst 0, 1) := by decide +kernel
theorem d_Gr_unitText_94 : decode prog_2_method_4_code 94 = .ok (.istore_n 1, 1) := by decide +kernel
theorem d_Gr_unitText_95 : decode prog_2_method_4_code 95 = .ok (.iload_n 1, 1) := by decide +kernel
theorem d_Gr_unitText_96 : decode prog_2_method_4_code 96 = .ok (.ldc 30, 2) := by decide +kernel
theorem d_Gr_unitText_98 : decode prog_2_method_4_code 98 = .ok (.if_icmp .ge 147, 3) := by decide +kernel
theorem d_Gr_unitText_101 : decode prog_2_method_4_code 101 = .ok (.aload_n 0, 1) := by decide +kernel
theorem d_Gr_unitText_102 : decode prog_2_method_4_code 102 = .ok (.getfield 15, 3) := by decide +kernel
theorem d_Gr_unitText_105 : decode prog_2_method_4_code 105 = .ok (.getfield 31, 3) := by decide +kernel
theorem d_Gr_unitText_108 : decode prog_2_method_4_code 108 = .ok (.iconst 2, 1) := by decide +kernel
theorem d_Gr_unitText_109 : decode prog_2_method_4_code 109 = .ok (.if_icmp .eq 136, 3) := by decide +kernel
theorem d_Gr_unitText_112 : decode prog_2_method_4_code 112 = .ok (.aload_n 0, 1) := by decide +kernel
theorem d_Gr_unitText_113 : decode prog_2_method_4_code 113 = .ok (.getfield 15, 3) := by decide +kernel
theorem d_Gr_unitText_116 : decode prog_2_method_4_code 116 = .ok (.getfield 31, 3) := by decide +kernel
theorem d_Gr_unitText_119 : decode prog_2_method_4_code 119 = .ok (.tableswitch 116 5 18 #[69, 76, 91, 98, 116, 116, 116, 116, 116, 116, 116, 116, 116, 109], 69) := by decide +kernel
theorem d_Gr_unitText_188 : decode prog_2_method_4_code 188 = .ok (.aload_n 0, 1) := by decide +kernel
theorem d_Gr_unitText_189 : decode prog_2_method_4_code 189 = .ok (.invokevirtual 68, 3) := by decide +kernel
theorem d_Gr_unitText_192 : decode prog_2_method_4_code 192 = .ok (.goto 47, 3) := by decide +kernel
theorem d_Gr_unitText_195 : decode prog_2_method_4_code 195 = .ok (.aload_n 0, 1) := by decide +kernel
theorem d_Gr_unitText_196 : decode prog_2_method_4_code 196 = .ok (.iconst 4, 1) := by decide +kernel
theorem d_Gr_unitText_197 : decode prog_2_method_4_code 197 = .ok (.invokevirtual 71, 3) := by decide +kernel
theorem d_Gr_unitText_200 : decode prog_2_method_4_code 200 = .ok (.aload_n 0, 1) := by decide +kernel
theorem d_Gr_unitText_201 : decode prog_2_method_4_code 201 = .ok (.bipush 59, 2) := by decide +kernel
theorem d_Gr_unitText_203 : decode prog_2_method_4_code 203 = .ok (.invokevirtual 55, 3) := by decide +kernel
theorem d_Gr_unitText_206 : decode prog_2_method_4_code 206 = .ok (.pop, 1) := by decide +kernel
theorem d_Gr_unitText_207 : decode prog_2_method_4_code 207 = .ok (.goto 32, 3) := by decide +kernel
theorem d_Gr_unitText_210 : decode prog_2_method_4_code 210 = .ok (.aload_n 0, 1) := by decide +kernel
theorem d_Gr_unitText_211 : decode prog_2_method_4_code 211 = .ok (.invokevirtual 75, 3) := by decide +kernel
theorem d_Gr_unitText_214 : decode prog_2_method_4_code 214 = .ok (.goto 25, 3) := by decide +kernel
theorem d_Gr_unitText_217 : decode prog_2_method_4_code 217 = .ok (.aload_n 0, 1) := by decide +kernel
theorem d_Gr_unitText_218 : decode prog_2_method_4_code 218 = .ok (.invokevirtual 78, 3) := by decide +kernel
theorem d_Gr_unitText_221 : decode prog_2_method_4_code 221 = .ok (.aload_n 0, 1) := by decide +kernel
theorem d_Gr_unitText_222 : decode prog_2_method_4_code 222 = .ok (.invokevirtual 81, 3) := by decide +kernel
theorem d_Gr_unitText_225 : decode prog_2_method_4_code 225 = .ok (.goto 14, 3) := by decide +kernel
theorem d_Gr_unitText_228 : decode prog_2_method_4_code 228 = .ok (.aload_n 0, 1) := by decide +kernel
theorem d_Gr_unitText_229 : decode prog_2_method_4_code 229 = .ok (.invokevirtual 84, 3) := by decide +kernel
theorem d_Gr_unitText_232 : decode prog_2_method_4_code 232 = .ok (.goto 7, 3) := by decide +kernel
theorem d_Gr_unitText_235 : decode prog_2_method_4_code 235 = .ok (.aload_n 0, 1) := by decide +kernel
theorem d_Gr_unitText_236 : decode prog_2_method_4_code 236 = .ok (.invokevirtual 87, 3) := by decide +kernel
theorem d_Gr_unitText_239 : decode prog_2_method_4_code 239 = .ok (.iinc 1 1, 3) := by decide +kernel
theorem d_Gr_unitText_242 : decode prog_2_method_4_code 242 = .ok (.goto (-147), 3) := by decide +kernel
theorem d_Gr_unitText_245 : decode prog_2_method_4_code 245 = .ok (.aload_n 0, 1) := by decide +kernel
theorem d_Gr_unitText_246 : decode prog_2_method_4_code 246 = .ok (.iconst 2, 1) := by decide +kernel
theorem d_Gr_unitText_247 : decode prog_2_method_4_code 247 = .ok (.invokevirtual 55, 3) := by decide +kernel
theorem d_Gr_unitText_250 : decode prog_2_method_4_code 250 = .ok (.pop, 1) := by decide +kernel
theorem d_Gr_unitText_251 : decode prog_2_method_4_code 251 = .ok (.aload_n 0, 1) := by decide +kernel
theorem d_Gr_unitText_252 : decode prog_2_method_4_code 252 = .ok (.getfield 19, 3) := by decide +kernel
theorem d_Gr_unitText_255 : decode prog_2_method_4_code 255 = .ok (.invokevirtual 90, 3) := by decide +kernel
theorem d_Gr_unitText_258 : decode prog_2_method_4_code 258 = .ok (.return_, 1) := by decide +kernel
abbrev m_Gr_take : cx_M := (⟨"CircuitText$Grammar", "take", "(I)LCircuitText$Token;"⟩, prog_2_method_3_code, 3, (Option.some (Jvm.ClassFile.FieldType.object "CircuitText$Token")), [], [false, false])
theorem w_Gr_take : cx_W m_Gr_take := ⟨Or.inl ⟨(in_4 (List.mem_of_getElem? (i := 75) rfl)), rfl⟩, by decide +kernel, by decide, by decide, by decide +kernel⟩
theorem n_Gr_take : (parseMethodDescriptor m_Gr_take.1.desc).map (fun d => d.parameters.length) = some 1 := by decide +kernel
theorem d_Gr_take_0 : decode prog_2_method_3_code 0 = .ok (.aload_n 0, 1) := by decide +kernel
theorem d_Gr_take_1 : decode prog_2_method_3_code 1 = .ok (.getfield 15, 3) := by decide +kernel
theorem d_Gr_take_4 : decode prog_2_method_3_code 4 = .ok (.astore_n 2, 1) := by decide +kernel
theorem d_Gr_take_5 : decode prog_2_method_3_code 5 = .ok (.iload_n 1, 1) := by decide +kernel
theorem d_Gr_take_6 : decode prog_2_method_3_code 6 = .ok (.lookupswitch 132 #[(11, 106), (12, 119), (13, 106), (15, 106), (16, 119), (40, 106), (41, 119), (63, 106), (91, 106), (93, 119), (123, 106), (125, 119)], 106) := by decide +kernel
theorem d_Gr_take_112 : decode prog_2_method_3_code 112 = .ok (.aload_n 0, 1) := by decide +kernel
theorem d_Gr_take_113 : decode prog_2_method_3_code 113 = .ok (.dup, 1) := by decide +kernel
theorem d_Gr_take_114 : decode prog_2_method_3_code 114 = .ok (.getfield 9, 3) := by decide +kernel
theorem d_Gr_take_117 : decode prog_2_method_3_code 117 = .ok (.iconst 1, 1) := by decide +kernel
theorem d_Gr_take_118 : decode prog_2_method_3_code 118 = .ok (.iadd, 1) := by decide +kernel
theorem d_Gr_take_119 : decode prog_2_method_3_code 119 = .ok (.putfield 9, 3) := by decide +kernel
theorem d_Gr_take_122 : decode prog_2_method_3_code 122 = .ok (.goto 16, 3) := by decide +kernel
theorem d_Gr_take_125 : decode prog_2_method_3_code 125 = .ok (.aload_n 0, 1) := by decide +kernel
theorem d_Gr_take_126 : decode prog_2_method_3_code 126 = .ok (.dup, 1) := by decide +kernel
theorem d_Gr_take_127 : decode prog_2_method_3_code 127 = .ok (.getfield 9, 3) := by decide +kernel
theorem d_Gr_take_130 : decode prog_2_method_3_code 130 = .ok (.iconst 1, 1) := by decide +kernel
theorem d_Gr_take_131 : decode prog_2_method_3_code 131 = .ok (.isub, 1) := by decide +kernel
theorem d_Gr_take_132 : decode prog_2_method_3_code 132 = .ok (.putfield 9, 3) := by decide +kernel
theorem d_Gr_take_135 : decode prog_2_method_3_code 135 = .ok (.goto 3, 3) := by decide +kernel
theorem d_Gr_take_138 : decode prog_2_method_3_code 138 = .ok (.aload_n 2, 1) := by decide +kernel
theorem d_Gr_take_139 : decode prog_2_method_3_code 139 = .ok (.getfield 31, 3) := by decide +kernel
theorem d_Gr_take_142 : decode prog_2_method_3_code 142 = .ok (.iload_n 1, 1) := by decide +kernel
theorem d_Gr_take_143 : decode prog_2_method_3_code 143 = .ok (.if_icmp .ne 12, 3) := by decide +kernel
theorem d_Gr_take_146 : decode prog_2_method_3_code 146 = .ok (.aload_n 0, 1) := by decide +kernel
theorem d_Gr_take_147 : decode prog_2_method_3_code 147 = .ok (.getfield 9, 3) := by decide +kernel
theorem d_Gr_take_150 : decode prog_2_method_3_code 150 = .ok (.bipush 60, 2) := by decide +kernel
theorem d_Gr_take_152 : decode prog_2_method_3_code 152 = .ok (.if_icmp .le 57, 3) := by decide +kernel
theorem d_Gr_take_155 : decode prog_2_method_3_code 155 = .ok (.aload_n 0, 1) := by decide +kernel
theorem d_Gr_take_156 : decode prog_2_method_3_code 156 = .ok (.getfield 23, 3) := by decide +kernel
theorem d_Gr_take_159 : decode prog_2_method_3_code 159 = .ok (.aload_n 2, 1) := by decide +kernel
theorem d_Gr_take_160 : decode prog_2_method_3_code 160 = .ok (.getfield 31, 3) := by decide +kernel
theorem d_Gr_take_163 : decode prog_2_method_3_code 163 = .ok (.bipush 23, 2) := by decide +kernel
theorem d_Gr_take_165 : decode prog_2_method_3_code 165 = .ok (.if_icmp .ne 7, 3) := by decide +kernel
theorem d_Gr_take_168 : decode prog_2_method_3_code 168 = .ok (.iconst 1, 1) := by decide +kernel
theorem d_Gr_take_169 : decode prog_2_method_3_code 169 = .ok (.goto 16, 3) := by decide +kernel
theorem d_Gr_take_172 : decode prog_2_method_3_code 172 = .ok (.aload_n 2, 1) := by decide +kernel
theorem d_Gr_take_173 : decode prog_2_method_3_code 173 = .ok (.getfield 31, 3) := by decide +kernel
theorem d_Gr_take_176 : decode prog_2_method_3_code 176 = .ok (.iload_n 1, 1) := by decide +kernel
theorem d_Gr_take_177 : decode prog_2_method_3_code 177 = .ok (.if_icmp .eq 7, 3) := by decide +kernel
theorem d_Gr_take_180 : decode prog_2_method_3_code 180 = .ok (.iconst 2, 1) := by decide +kernel
theorem d_Gr_take_181 : decode prog_2_method_3_code 181 = .ok (.goto 4, 3) := by decide +kernel
theorem d_Gr_take_184 : decode prog_2_method_3_code 184 = .ok (.iconst 3, 1) := by decide +kernel
theorem d_Gr_take_185 : decode prog_2_method_3_code 185 = .ok (.putfield 36, 3) := by decide +kernel
theorem d_Gr_take_188 : decode prog_2_method_3_code 188 = .ok (.aload_n 0, 1) := by decide +kernel
theorem d_Gr_take_189 : decode prog_2_method_3_code 189 = .ok (.getfield 23, 3) := by decide +kernel
theorem d_Gr_take_192 : decode prog_2_method_3_code 192 = .ok (.aload_n 2, 1) := by decide +kernel
theorem d_Gr_take_193 : decode prog_2_method_3_code 193 = .ok (.getfield 41, 3) := by decide +kernel
theorem d_Gr_take_196 : decode prog_2_method_3_code 196 = .ok (.putfield 44, 3) := by decide +kernel
theorem d_Gr_take_199 : decode prog_2_method_3_code 199 = .ok (.new 45, 3) := by decide +kernel
theorem d_Gr_take_202 : decode prog_2_method_3_code 202 = .ok (.dup, 1) := by decide +kernel
theorem d_Gr_take_203 : decode prog_2_method_3_code 203 = .ok (.ldc 47, 2) := by decide +kernel
theorem d_Gr_take_205 : decode prog_2_method_3_code 205 = .ok (.invokespecial 49, 3) := by decide +kernel
theorem d_Gr_take_208 : decode prog_2_method_3_code 208 = .ok (.athrow, 1) := by decide +kernel
theorem d_Gr_take_209 : decode prog_2_method_3_code 209 = .ok (.aload_n 2, 1) := by decide +kernel
theorem d_Gr_take_210 : decode prog_2_method_3_code 210 = .ok (.getfield 52, 3) := by decide +kernel
theorem d_Gr_take_213 : decode prog_2_method_3_code 213 = .ok (.ifnull 11, 3) := by decide +kernel
theorem d_Gr_take_216 : decode prog_2_method_3_code 216 = .ok (.aload_n 0, 1) := by decide +kernel
theorem d_Gr_take_217 : decode prog_2_method_3_code 217 = .ok (.aload_n 2, 1) := by decide +kernel
theorem d_Gr_take_218 : decode prog_2_method_3_code 218 = .ok (.getfield 52, 3) := by decide +kernel
theorem d_Gr_take_221 : decode prog_2_method_3_code 221 = .ok (.putfield 15, 3) := by decide +kernel
theorem d_Gr_take_224 : decode prog_2_method_3_code 224 = .ok (.aload_n 2, 1) := by decide +kernel
theorem d_Gr_take_225 : decode prog_2_method_3_code 225 = .ok (.areturn, 1) := by decide +kernel
theorem f_Gr_36 : cx_F "CircuitText$Grammar" 36 9 0 (.int) false := ⟨_, F_Ve, 2, t_Ve, k_Ve, by decide, rfl, rfl, Or.inr ⟨"CircuitText", (in_1 (List.mem_of_getElem? (i := 109) rfl))⟩⟩
theorem f_Gr_41 : cx_F "CircuitText$Grammar" 41 7 1 (.int) true := ⟨_, F_To, 7, t_To, k_To, by decide, rfl, rfl, Or.inr ⟨"CircuitText", (in_1 (List.mem_of_getElem? (i := 143) rfl))⟩⟩
theorem f_Gr_44 : cx_F "CircuitText$Grammar" 44 9 1 (.int) false := ⟨_, F_Ve, 2, t_Ve, k_Ve, by decide, rfl, rfl, Or.inr ⟨"CircuitText", (in_1 (List.mem_of_getElem? (i := 112) rfl))⟩⟩
theorem z_Gr_45 : cx_N "CircuitText$Grammar" 45 14 [.null, .null, .null, .null, .null, .int 0] := ⟨_, F_ISE, t_ISE, k_ISE, (in_4 (List.mem_of_getElem? (i := 76) rfl)), (in_4 (List.mem_of_getElem? (i := 77) rfl)), (in_1 (List.mem_of_getElem? (i := 32) rfl)), fun j hj => by rcases (show j = 0 ∨ j = 1 ∨ j = 2 ∨ j = 3 ∨ j = 4 ∨ j = 5 by have : j < 6 := hj; omega) with rfl | rfl | rfl | rfl | rfl | rfl <;> rfl⟩
theorem f_Gr_52 : cx_F "CircuitText$Grammar" 52 7 3 (.object "CircuitText$Token") false := ⟨_, F_To, 7, t_To, k_To, by decide, rfl, rfl, Or.inr ⟨"CircuitText", (in_1 (List.mem_of_getElem? (i := 148) rfl))⟩⟩
abbrev m_Gr_port : cx_M := (⟨"CircuitText$Grammar", "port", "()V"⟩, prog_2_method_5_code, 1, (Option.none : Option Jvm.ClassFile.FieldType), [], [false])
theorem w_Gr_port : cx_W m_Gr_port := ⟨Or.inl ⟨(in_4 (List.mem_of_getElem? (i := 110) rfl)), rfl⟩, by decide +kernel, by decide, by decide, by decide +kernel⟩
theorem n_Gr_port : (parseMethodDescriptor m_Gr_port.1.desc).map (fun d => d.parameters.length) = some 0 := by decide +kernel
theorem d_Gr_port_0 : decode prog_2_method_5_code 0 = .ok (.aload_n 0, 1) := by decide +kernel
theorem d_Gr_port_1 : decode prog_2_method_5_code 1 = .ok (.getfield 15, 3) := by decide +kernel
theorem d_Gr_port_4 : decode prog_2_method_5_code 4 = .ok (.getfield 31, 3) := by decide +kernel
theorem d_Gr_port_7 : decode prog_2_method_5_code 7 = .ok (.iconst 3, 1) := by decide +kernel
theorem d_Gr_port_8 : decode prog_2_method_5_code 8 = .ok (.if_icmp .ne 17, 3) := by decide +kernel
theorem d_Gr_port_11 : decode prog_2_method_5_code 11 = .ok (.aload_n 0, 1) := by decide +kernel
theorem d_Gr_port_12 : decode prog_2_method_5_code 12 = .ok (.iconst 3, 1) := by decide +kernel
theorem d_Gr_port_13 : decode prog_2_method_5_code 13 = .ok (.invokevirtual 55, 3) := by decide +kernel
theorem d_Gr_port_16 : decode prog_2_method_5_code 16 = .ok (.pop, 1) := by decide +kernel
theorem d_Gr_port_17 : decode prog_2_method_5_code 17 = .ok (.aload_n 0, 1) := by decide +kernel
theorem d_Gr_port_18 : decode prog_2_method_5_code 18 = .ok (.iconst 0, 1) := by decide +kernel
theorem d_Gr_port_19 : decode prog_2_method_5_code 19 = .ok (.invokevirtual 93, 3) := by decide +kernel
theorem d_Gr_port_22 : decode prog_2_method_5_code 22 = .ok (.goto 34, 3) := by decide +kernel
theorem d_Gr_port_25 : decode prog_2_method_5_code 25 = .ok (.aload_n 0, 1) := by decide +kernel
theorem d_Gr_port_26 : decode prog_2_method_5_code 26 = .ok (.iconst 4, 1) := by decide +kernel
theorem d_Gr_port_27 : decode prog_2_method_5_code 27 = .ok (.invokevirtual 55, 3) := by decide +kernel
theorem d_Gr_port_30 : decode prog_2_method_5_code 30 = .ok (.pop, 1) := by decide +kernel
theorem d_Gr_port_31 : decode prog_2_method_5_code 31 = .ok (.aload_n 0, 1) := by decide +kernel
theorem d_Gr_port_32 : decode prog_2_method_5_code 32 = .ok (.getfield 15, 3) := by decide +kernel
theorem d_Gr_port_35 : decode prog_2_method_5_code 35 = .ok (.getfield 31, 3) := by decide +kernel
theorem d_Gr_port_38 : decode prog_2_method_5_code 38 = .ok (.bipush 6, 2) := by decide +kernel
theorem d_Gr_port_40 : decode prog_2_method_5_code 40 = .ok (.if_icmp .ne 11, 3) := by decide +kernel
theorem d_Gr_port_43 : decode prog_2_method_5_code 43 = .ok (.aload_n 0, 1) := by decide +kernel
theorem d_Gr_port_44 : decode prog_2_method_5_code 44 = .ok (.iconst 2, 1) := by decide +kernel
theorem d_Gr_port_45 : decode prog_2_method_5_code 45 = .ok (.invokevirtual 71, 3) := by decide +kernel
theorem d_Gr_port_48 : decode prog_2_method_5_code 48 = .ok (.goto 8, 3) := by decide +kernel
theorem d_Gr_port_51 : decode prog_2_method_5_code 51 = .ok (.aload_n 0, 1) := by decide +kernel
theorem d_Gr_port_52 : decode prog_2_method_5_code 52 = .ok (.iconst 1, 1) := by decide +kernel
theorem d_Gr_port_53 : decode prog_2_method_5_code 53 = .ok (.invokevirtual 93, 3) := by decide +kernel
theorem d_Gr_port_56 : decode prog_2_method_5_code 56 = .ok (.aload_n 0, 1) := by decide +kernel
theorem d_Gr_port_57 : decode prog_2_method_5_code 57 = .ok (.getfield 19, 3) := by decide +kernel
theorem d_Gr_port_60 : decode prog_2_method_5_code 60 = .ok (.invokevirtual 96, 3) := by decide +kernel
theorem d_Gr_port_63 : decode prog_2_method_5_code 63 = .ok (.dup, 1) := by decide +kernel
theorem d_Gr_port_64 : decode prog_2_method_5_code 64 = .ok (.getfield 100, 3) := by decide +kernel
theorem d_Gr_port_67 : decode prog_2_method_5_code 67 = .ok (.iconst 1, 1) := by decide +kernel
theorem d_Gr_port_68 : decode prog_2_method_5_code 68 = .ok (.iadd, 1) := by decide +kernel
theorem d_Gr_port_69 : decode prog_2_method_5_code 69 = .ok (.putfield 100, 3) := by decide +kernel
theorem d_Gr_port_72 : decode prog_2_method_5_code 72 = .ok (.return_, 1) := by decide +kernel
theorem f_Gr_100 : cx_F "CircuitText$Grammar" 100 8 4 (.int) false := ⟨_, F_Un, 10, t_Un, k_Un, by decide, rfl, rfl, Or.inr ⟨"CircuitText", (in_1 (List.mem_of_getElem? (i := 192) rfl))⟩⟩
abbrev m_Gr_plainName : cx_M := (⟨"CircuitText$Grammar", "plainName", "(I)V"⟩, prog_2_method_7_code, 3, (Option.none : Option Jvm.ClassFile.FieldType), [], [false, false])
theorem w_Gr_plainName : cx_W m_Gr_plainName := ⟨Or.inl ⟨(in_4 (List.mem_of_getElem? (i := 114) rfl)), rfl⟩, by decide +kernel, by decide, by decide, by decide +kernel⟩
theorem n_Gr_plainName : (parseMethodDescriptor m_Gr_plainName.1.desc).map (fun d => d.parameters.length) = some 1 := by decide +kernel
theorem d_Gr_plainName_0 : decode prog_2_method_7_code 0 = .ok (.aload_n 0, 1) := by decide +kernel
theorem d_Gr_plainName_1 : decode prog_2_method_7_code 1 = .ok (.invokevirtual 105, 3) := by decide +kernel
theorem d_Gr_plainName_4 : decode prog_2_method_7_code 4 = .ok (.istore_n 2, 1) := by decide +kernel
theorem d_Gr_plainName_5 : decode prog_2_method_7_code 5 = .ok (.aload_n 0, 1) := by decide +kernel
theorem d_Gr_plainName_6 : decode prog_2_method_7_code 6 = .ok (.getfield 19, 3) := by decide +kernel
theorem d_Gr_plainName_9 : decode prog_2_method_7_code 9 = .ok (.aload_n 0, 1) := by decide +kernel
theorem d_Gr_plainName_10 : decode prog_2_method_7_code 10 = .ok (.bipush 19, 2) := by decide +kernel
theorem d_Gr_plainName_12 : decode prog_2_method_7_code 12 = .ok (.invokevirtual 55, 3) := by decide +kernel
theorem d_Gr_plainName_15 : decode prog_2_method_7_code 15 = .ok (.iload_n 1, 1) := by decide +kernel
theorem d_Gr_plainName_16 : decode prog_2_method_7_code 16 = .ok (.iload_n 2, 1) := by decide +kernel
theorem d_Gr_plainName_17 : decode prog_2_method_7_code 17 = .ok (.invokevirtual 109, 3) := by decide +kernel
theorem d_Gr_plainName_20 : decode prog_2_method_7_code 20 = .ok (.pop, 1) := by decide +kernel
theorem d_Gr_plainName_21 : decode prog_2_method_7_code 21 = .ok (.return_, 1) := by decide +kernel
abbrev m_Gr_range : cx_M := (⟨"CircuitText$Grammar", "range", "()I"⟩, prog_2_method_9_code, 4, (Option.some Jvm.ClassFile.FieldType.int), [], [false])
theorem w_Gr_range : cx_W m_Gr_range := ⟨Or.inl ⟨(in_4 (List.mem_of_getElem? (i := 118) rfl)), rfl⟩, by decide +kernel, by decide, by decide, by decide +kernel⟩
theorem n_Gr_range : (parseMethodDescriptor m_Gr_range.1.desc).map (fun d => d.parameters.length) = some 0 := by decide +kernel
theorem d_Gr_range_0 : decode prog_2_method_9_code 0 = .ok (.aload_n 0, 1) := by decide +kernel
theorem d_Gr_range_1 : decode prog_2_method_9_code 1 = .ok (.getfield 15, 3) := by decide +kernel
theorem d_Gr_range_4 : decode prog_2_method_9_code 4 = .ok (.getfield 31, 3) := by decide +kernel
theorem d_Gr_range_7 : decode prog_2_method_9_code 7 = .ok (.bipush 91, 2) := by decide +kernel
theorem d_Gr_range_9 : decode prog_2_method_9_code 9 = .ok (.if_icmp .eq 5, 3) := by decide +kernel
theorem d_Gr_range_12 : decode prog_2_method_9_code 12 = .ok (.iconst 1, 1) := by decide +kernel
theorem d_Gr_range_13 : decode prog_2_method_9_code 13 = .ok (.ireturn, 1) := by decide +kernel
theorem d_Gr_range_14 : decode prog_2_method_9_code 14 = .ok (.aload_n 0, 1) := by decide +kernel
theorem d_Gr_range_15 : decode prog_2_method_9_code 15 = .ok (.bipush 91, 2) := by decide +kernel
theorem d_Gr_range_17 : decode prog_2_method_9_code 17 = .ok (.invokevirtual 55, 3) := by decide +kernel
theorem d_Gr_range_20 : decode prog_2_method_9_code 20 = .ok (.astore_n 1, 1) := by decide +kernel
theorem d_Gr_range_21 : decode prog_2_method_9_code 21 = .ok (.aload_n 0, 1) := by decide +kernel
theorem d_Gr_range_22 : decode prog_2_method_9_code 22 = .ok (.bipush 20, 2) := by decide +kernel
theorem d_Gr_range_24 : decode prog_2_method_9_code 24 = .ok (.invokevirtual 55, 3) := by decide +kernel
theorem d_Gr_range_27 : decode prog_2_method_9_code 27 = .ok (.invokevirtual 117, 3) := by decide +kernel
theorem d_Gr_range_30 : decode prog_2_method_9_code 30 = .ok (.istore_n 2, 1) := by decide +kernel
theorem d_Gr_range_31 : decode prog_2_method_9_code 31 = .ok (.aload_n 0, 1) := by decide +kernel
theorem d_Gr_range_32 : decode prog_2_method_9_code 32 = .ok (.bipush 58, 2) := by decide +kernel
theorem d_Gr_range_34 : decode prog_2_method_9_code 34 = .ok (.invokevirtual 55, 3) := by decide +kernel
theorem d_Gr_range_37 : decode prog_2_method_9_code 37 = .ok (.pop, 1) := by decide +kernel
theorem d_Gr_range_38 : decode prog_2_method_9_code 38 = .ok (.aload_n 0, 1) := by decide +kernel
theorem d_Gr_range_39 : decode prog_2_method_9_code 39 = .ok (.bipush 20, 2) := by decide +kernel
theorem d_Gr_range_41 : decode prog_2_method_9_code 41 = .ok (.invokevirtual 55, 3) := by decide +kernel
theorem d_Gr_range_44 : decode prog_2_method_9_code 44 = .ok (.invokevirtual 117, 3) := by decide +kernel
theorem d_Gr_range_47 : decode prog_2_method_9_code 47 = .ok (.istore_n 3, 1) := by decide +kernel
theorem d_Gr_range_48 : decode prog_2_method_9_code 48 = .ok (.aload_n 0, 1) := by decide +kernel
theorem d_Gr_range_49 : decode prog_2_method_9_code 49 = .ok (.bipush 93, 2) := by decide +kernel
theorem d_Gr_range_51 : decode prog_2_method_9_code 51 = .ok (.invokevirtual 55, 3) := by decide +kernel
theorem d_Gr_range_54 : decode prog_2_method_9_code 54 = .ok (.pop, 1) := by decide +kernel
theorem d_Gr_range_55 : decode prog_2_method_9_code 55 = .ok (.aload_n 0, 1) := by decide +kernel
theorem d_Gr_range_56 : decode prog_2_method_9_code 56 = .ok (.getfield 19, 3) := by decide +kernel
theorem d_Gr_range_59 : decode prog_2_method_9_code 59 = .ok (.aload_n 1, 1) := by decide +kernel
theorem d_Gr_range_60 : decode prog_2_method_9_code 60 = .ok (.iload_n 2, 1) := by decide +kernel
theorem d_Gr_range_61 : decode prog_2_method_9_code 61 = .ok (.iload_n 3, 1) := by decide +kernel
theorem d_Gr_range_62 : decode prog_2_method_9_code 62 = .ok (.invokevirtual 120, 3) := by decide +kernel
theorem d_Gr_range_65 : decode prog_2_method_9_code 65 = .ok (.ireturn, 1) := by decide +kernel
abbrev m_Gr_register : cx_M := (⟨"CircuitText$Grammar", "register", "(I)V"⟩, prog_2_method_8_code, 4, (Option.none : Option Jvm.ClassFile.FieldType), [], [false, false])
theorem w_Gr_register : cx_W m_Gr_register := ⟨Or.inl ⟨(in_5 (List.mem_of_getElem? (i := 7) rfl)), rfl⟩, by decide +kernel, by decide, by decide, by decide +kernel⟩
theorem n_Gr_register : (parseMethodDescriptor m_Gr_register.1.desc).map (fun d => d.parameters.length) = some 1 := by decide +kernel
theorem d_Gr_register_0 : decode prog_2_method_8_code 0 = .ok (.aload_n 0, 1) := by decide +kernel
theorem d_Gr_register_1 : decode prog_2_method_8_code 1 = .ok (.bipush 6, 2) := by decide +kernel
theorem d_Gr_register_3 : decode prog_2_method_8_code 3 = .ok (.invokevirtual 55, 3) := by decide +kernel
theorem d_Gr_register_6 : decode prog_2_method_8_code 6 = .ok (.pop, 1) := by decide +kernel
theorem d_Gr_register_7 : decode prog_2_method_8_code 7 = .ok (.aload_n 0, 1) := by decide +kernel
theorem d_Gr_register_8 : decode prog_2_method_8_code 8 = .ok (.invokevirtual 105, 3) := by decide +kernel
theorem d_Gr_register_11 : decode prog_2_method_8_code 11 = .ok (.istore_n 2, 1) := by decide +kernel
theorem d_Gr_register_12 : decode prog_2_method_8_code 12 = .ok (.aload_n 0, 1) := by decide +kernel
theorem d_Gr_register_13 : decode prog_2_method_8_code 13 = .ok (.getfield 19, 3) := by decide +kernel
theorem d_Gr_register_16 : decode prog_2_method_8_code 16 = .ok (.aload_n 0, 1) := by decide +kernel
theorem d_Gr_register_17 : decode prog_2_method_8_code 17 = .ok (.bipush 19, 2) := by decide +kernel
theorem d_Gr_register_19 : decode prog_2_method_8_code 19 = .ok (.invokevirtual 55, 3) := by decide +kernel
theorem d_Gr_register_22 : decode prog_2_method_8_code 22 = .ok (.iload_n 1, 1) := by decide +kernel
theorem d_Gr_register_23 : decode prog_2_method_8_code 23 = .ok (.iload_n 2, 1) := by decide +kernel
theorem d_Gr_register_24 : decode prog_2_method_8_code 24 = .ok (.invokevirtual 109, 3) := by decide +kernel
theorem d_Gr_register_27 : decode prog_2_method_8_code 27 = .ok (.astore_n 3, 1) := by decide +kernel
theorem d_Gr_register_28 : decode prog_2_method_8_code 28 = .ok (.aload_n 0, 1) := by decide +kernel
theorem d_Gr_register_29 : decode prog_2_method_8_code 29 = .ok (.getfield 15, 3) := by decide +kernel
theorem d_Gr_register_32 : decode prog_2_method_8_code 32 = .ok (.getfield 31, 3) := by decide +kernel
theorem d_Gr_register_35 : decode prog_2_method_8_code 35 = .ok (.bipush 61, 2) := by decide +kernel
theorem d_Gr_register_37 : decode prog_2_method_8_code 37 = .ok (.if_icmp .ne 24, 3) := by decide +kernel
theorem d_Gr_register_40 : decode prog_2_method_8_code 40 = .ok (.aload_n 0, 1) := by decide +kernel
theorem d_Gr_register_41 : decode prog_2_method_8_code 41 = .ok (.bipush 61, 2) := by decide +kernel
theorem d_Gr_register_43 : decode prog_2_method_8_code 43 = .ok (.invokevirtual 55, 3) := by decide +kernel
theorem d_Gr_register_46 : decode prog_2_method_8_code 46 = .ok (.pop, 1) := by decide +kernel
theorem d_Gr_register_47 : decode prog_2_method_8_code 47 = .ok (.aload_n 0, 1) := by decide +kernel
theorem d_Gr_register_48 : decode prog_2_method_8_code 48 = .ok (.getfield 19, 3) := by decide +kernel
theorem d_Gr_register_51 : decode prog_2_method_8_code 51 = .ok (.aload_n 3, 1) := by decide +kernel
theorem d_Gr_register_52 : decode prog_2_method_8_code 52 = .ok (.aload_n 0, 1) := by decide +kernel
theorem d_Gr_register_53 : decode prog_2_method_8_code 53 = .ok (.bipush 21, 2) := by decide +kernel
theorem d_Gr_register_55 : decode prog_2_method_8_code 55 = .ok (.invokevirtual 55, 3) := by decide +kernel
theorem d_Gr_register_58 : decode prog_2_method_8_code 58 = .ok (.invokevirtual 113, 3) := by decide +kernel
theorem d_Gr_register_61 : decode prog_2_method_8_code 61 = .ok (.return_, 1) := by decide +kernel
abbrev m_Gr_wire : cx_M := (⟨"CircuitText$Grammar", "wire", "()V"⟩, prog_2_method_6_code, 1, (Option.none : Option Jvm.ClassFile.FieldType), [], [false])
theorem w_Gr_wire : cx_W m_Gr_wire := ⟨Or.inl ⟨(in_5 (List.mem_of_getElem? (i := 20) rfl)), rfl⟩, by decide +kernel, by decide, by decide, by decide +kernel⟩
theorem n_Gr_wire : (parseMethodDescriptor m_Gr_wire.1.desc).map (fun d => d.parameters.length) = some 0 := by decide +kernel
theorem d_Gr_wire_0 : decode prog_2_method_6_code 0 = .ok (.aload_n 0, 1) := by decide +kernel
theorem d_Gr_wire_1 : decode prog_2_method_6_code 1 = .ok (.iconst 5, 1) := by decide +kernel
theorem d_Gr_wire_2 : decode prog_2_method_6_code 2 = .ok (.invokevirtual 55, 3) := by decide +kernel
theorem d_Gr_wire_5 : decode prog_2_method_6_code 5 = .ok (.pop, 1) := by decide +kernel
theorem d_Gr_wire_6 : decode prog_2_method_6_code 6 = .ok (.aload_n 0, 1) := by decide +kernel
theorem d_Gr_wire_7 : decode prog_2_method_6_code 7 = .ok (.iconst 3, 1) := by decide +kernel
theorem d_Gr_wire_8 : decode prog_2_method_6_code 8 = .ok (.invokevirtual 93, 3) := by decide +kernel
theorem d_Gr_wire_11 : decode prog_2_method_6_code 11 = .ok (.aload_n 0, 1) := by decide +kernel
theorem d_Gr_wire_12 : decode prog_2_method_6_code 12 = .ok (.bipush 59, 2) := by decide +kernel
theorem d_Gr_wire_14 : decode prog_2_method_6_code 14 = .ok (.invokevirtual 55, 3) := by decide +kernel
theorem d_Gr_wire_17 : decode prog_2_method_6_code 17 = .ok (.pop, 1) := by decide +kernel
theorem d_Gr_wire_18 : decode prog_2_method_6_code 18 = .ok (.return_, 1) := by decide +kernel
abbrev m_Gr_assign : cx_M := (⟨"CircuitText$Grammar", "assign", "()V"⟩, prog_2_method_10_code, 3, (Option.none : Option Jvm.ClassFile.FieldType), [], [false])
theorem w_Gr_assign : cx_W m_Gr_assign := ⟨Or.inl ⟨(in_5 (List.mem_of_getElem? (i := 24) rfl)), rfl⟩, by decide +kernel, by decide, by decide, by decide +kernel⟩
theorem n_Gr_assign : (parseMethodDescriptor m_Gr_assign.1.desc).map (fun d => d.parameters.length) = some 0 := by decide +kernel
theorem d_Gr_assign_0 : decode prog_2_method_10_code 0 = .ok (.aload_n 0, 1) := by decide +kernel
theorem d_Gr_assign_1 : decode prog_2_method_10_code 1 = .ok (.bipush 7, 2) := by decide +kernel
theorem d_Gr_assign_3 : decode prog_2_method_10_code 3 = .ok (.invokevirtual 55, 3) := by decide +kernel
theorem d_Gr_assign_6 : decode prog_2_method_10_code 6 = .ok (.pop, 1) := by decide +kernel
theorem d_Gr_assign_7 : decode prog_2_method_10_code 7 = .ok (.aload_n 0, 1) := by decide +kernel
theorem d_Gr_assign_8 : decode prog_2_method_10_code 8 = .ok (.getfield 19, 3) := by decide +kernel
theorem d_Gr_assign_11 : decode prog_2_method_10_code 11 = .ok (.invokevirtual 96, 3) := by decide +kernel
theorem d_Gr_assign_14 : decode prog_2_method_10_code 14 = .ok (.dup, 1) := by decide +kernel
theorem d_Gr_assign_15 : decode prog_2_method_10_code 15 = .ok (.getfield 124, 3) := by decide +kernel
theorem d_Gr_assign_18 : decode prog_2_method_10_code 18 = .ok (.iconst 1, 1) := by decide +kernel
theorem d_Gr_assign_19 : decode prog_2_method_10_code 19 = .ok (.iadd, 1) := by decide +kernel
theorem d_Gr_assign_20 : decode prog_2_method_10_code 20 = .ok (.putfield 124, 3) := by decide +kernel
theorem d_Gr_assign_23 : decode prog_2_method_10_code 23 = .ok (.aload_n 0, 1) := by decide +kernel
theorem d_Gr_assign_24 : decode prog_2_method_10_code 24 = .ok (.getfield 19, 3) := by decide +kernel
theorem d_Gr_assign_27 : decode prog_2_method_10_code 27 = .ok (.aload_n 0, 1) := by decide +kernel
theorem d_Gr_assign_28 : decode prog_2_method_10_code 28 = .ok (.getfield 19, 3) := by decide +kernel
theorem d_Gr_assign_31 : decode prog_2_method_10_code 31 = .ok (.aload_n 0, 1) := by decide +kernel
theorem d_Gr_assign_32 : decode prog_2_method_10_code 32 = .ok (.bipush 19, 2) := by decide +kernel
theorem d_Gr_assign_34 : decode prog_2_method_10_code 34 = .ok (.invokevirtual 55, 3) := by decide +kernel
theorem d_Gr_assign_37 : decode prog_2_method_10_code 37 = .ok (.invokevirtual 127, 3) := by decide +kernel
theorem d_Gr_assign_40 : decode prog_2_method_10_code 40 = .ok (.invokevirtual 131, 3) := by decide +kernel
theorem d_Gr_assign_43 : decode prog_2_method_10_code 43 = .ok (.istore_n 1, 1) := by decide +kernel
theorem d_Gr_assign_44 : decode prog_2_method_10_code 44 = .ok (.aload_n 0, 1) := by decide +kernel
theorem d_Gr_assign_45 : decode prog_2_method_10_code 45 = .ok (.bipush 61, 2) := by decide +kernel
theorem d_Gr_assign_47 : decode prog_2_method_10_code 47 = .ok (.invokevirtual 55, 3) := by decide +kernel
theorem d_Gr_assign_50 : decode prog_2_method_10_code 50 = .ok (.astore_n 2, 1) := by decide +kernel
theorem d_Gr_assign_51 : decode prog_2_method_10_code 51 = .ok (.aload_n 0, 1) := by decide +kernel
theorem d_Gr_assign_52 : decode prog_2_method_10_code 52 = .ok (.getfield 23, 3) := by decide +kernel
theorem d_Gr_assign_55 : decode prog_2_method_10_code 55 = .ok (.iload_n 1, 1) := by decide +kernel
theorem d_Gr_assign_56 : decode prog_2_method_10_code 56 = .ok (.aload_n 0, 1) := by decide +kernel
theorem d_Gr_assign_57 : decode prog_2_method_10_code 57 = .ok (.invokevirtual 135, 3) := by decide +kernel
theorem d_Gr_assign_60 : decode prog_2_method_10_code 60 = .ok (.if_icmp .ne 7, 3) := by decide +kernel
theorem d_Gr_assign_63 : decode prog_2_method_10_code 63 = .ok (.iconst 1, 1) := by decide +kernel
theorem d_Gr_assign_64 : decode prog_2_method_10_code 64 = .ok (.goto 4, 3) := by decide +kernel
theorem d_Gr_assign_67 : decode prog_2_method_10_code 67 = .ok (.iconst 0, 1) := by decide +kernel
theorem d_Gr_assign_68 : decode prog_2_method_10_code 68 = .ok (.bipush 30, 2) := by decide +kernel
theorem d_Gr_assign_70 : decode prog_2_method_10_code 70 = .ok (.aload_n 2, 1) := by decide +kernel
theorem d_Gr_assign_71 : decode prog_2_method_10_code 71 = .ok (.getfield 41, 3) := by decide +kernel
theorem d_Gr_assign_74 : decode prog_2_method_10_code 74 = .ok (.invokevirtual 138, 3) := by decide +kernel
theorem d_Gr_assign_77 : decode prog_2_method_10_code 77 = .ok (.aload_n 0, 1) := by decide +kernel
theorem d_Gr_assign_78 : decode prog_2_method_10_code 78 = .ok (.bipush 59, 2) := by decide +kernel
theorem d_Gr_assign_80 : decode prog_2_method_10_code 80 = .ok (.invokevirtual 55, 3) := by decide +kernel
theorem d_Gr_assign_83 : decode prog_2_method_10_code 83 = .ok (.pop, 1) := by decide +kernel
theorem d_Gr_assign_84 : decode prog_2_method_10_code 84 = .ok (.return_, 1) := by decide +kernel
theorem f_Gr_124 : cx_F "CircuitText$Grammar" 124 8 5 (.int) false := ⟨_, F_Un, 10, t_Un, k_Un, by decide, rfl, rfl, Or.inr ⟨"CircuitText", (in_1 (List.mem_of_getElem? (i := 197) rfl))⟩⟩
abbrev m_Gr_expression : cx_M := (⟨"CircuitText$Grammar", "expression", "()I"⟩, prog_2_method_21_code, 5, (Option.some Jvm.ClassFile.FieldType.int), [], [false])
theorem w_Gr_expression : cx_W m_Gr_expression := ⟨Or.inl ⟨(in_5 (List.mem_of_getElem? (i := 44) rfl)), rfl⟩, by decide +kernel, by decide, by decide, by decide +kernel⟩
theorem n_Gr_expression : (parseMethodDescriptor m_Gr_expression.1.desc).map (fun d => d.parameters.length) = some 0 := by decide +kernel
theorem d_Gr_expression_0 : decode prog_2_method_21_code 0 = .ok (.aconst_null, 1) := by decide +kernel
theorem d_Gr_expression_1 : decode prog_2_method_21_code 1 = .ok (.astore_n 1, 1) := by decide +kernel
theorem d_Gr_expression_2 : decode prog_2_method_21_code 2 = .ok (.aload_n 0, 1) := by decide +kernel
theorem d_Gr_expression_3 : decode prog_2_method_21_code 3 = .ok (.invokevirtual 196, 3) := by decide +kernel
theorem d_Gr_expression_6 : decode prog_2_method_21_code 6 = .ok (.istore_n 2, 1) := by decide +kernel
theorem d_Gr_expression_7 : decode prog_2_method_21_code 7 = .ok (.iconst 0, 1) := by decide +kernel
theorem d_Gr_expression_8 : decode prog_2_method_21_code 8 = .ok (.istore_n 3, 1) := by decide +kernel
theorem d_Gr_expression_9 : decode prog_2_method_21_code 9 = .ok (.iload_n 3, 1) := by decide +kernel
theorem d_Gr_expression_10 : decode prog_2_method_21_code 10 = .ok (.ldc 30, 2) := by decide +kernel
theorem d_Gr_expression_12 : decode prog_2_method_21_code 12 = .ok (.if_icmp .ge 99, 3) := by decide +kernel
theorem d_Gr_expression_15 : decode prog_2_method_21_code 15 = .ok (.aload_n 0, 1) := by decide +kernel
theorem d_Gr_expression_16 : decode prog_2_method_21_code 16 = .ok (.getfield 15, 3) := by decide +kernel
theorem d_Gr_expression_19 : decode prog_2_method_21_code 19 = .ok (.getfield 31, 3) := by decide +kernel
theorem d_Gr_expression_22 : decode prog_2_method_21_code 22 = .ok (.invokestatic 199, 3) := by decide +kernel
theorem d_Gr_expression_25 : decode prog_2_method_21_code 25 = .ok (.istore 4, 2) := by decide +kernel
theorem d_Gr_expression_27 : decode prog_2_method_21_code 27 = .ok (.aload_n 1, 1) := by decide +kernel
theorem d_Gr_expression_28 : decode prog_2_method_21_code 28 = .ok (.ifnull 43, 3) := by decide +kernel
theorem d_Gr_expression_31 : decode prog_2_method_21_code 31 = .ok (.aload_n 1, 1) := by decide +kernel
theorem d_Gr_expression_32 : decode prog_2_method_21_code 32 = .ok (.getfield 203, 3) := by decide +kernel
theorem d_Gr_expression_35 : decode prog_2_method_21_code 35 = .ok (.getfield 31, 3) := by decide +kernel
theorem d_Gr_expression_38 : decode prog_2_method_21_code 38 = .ok (.invokestatic 199, 3) := by decide +kernel
theorem d_Gr_expression_41 : decode prog_2_method_21_code 41 = .ok (.iload 4, 2) := by decide +kernel
theorem d_Gr_expression_43 : decode prog_2_method_21_code 43 = .ok (.if_icmp .lt 28, 3) := by decide +kernel
theorem d_Gr_expression_46 : decode prog_2_method_21_code 46 = .ok (.aload_n 0, 1) := by decide +kernel
theorem d_Gr_expression_47 : decode prog_2_method_21_code 47 = .ok (.getfield 19, 3) := by decide +kernel
theorem d_Gr_expression_50 : decode prog_2_method_21_code 50 = .ok (.aload_n 1, 1) := by decide +kernel
theorem d_Gr_expression_51 : decode prog_2_method_21_code 51 = .ok (.getfield 203, 3) := by decide +kernel
theorem d_Gr_expression_54 : decode prog_2_method_21_code 54 = .ok (.aload_n 1, 1) := by decide +kernel
theorem d_Gr_expression_55 : decode prog_2_method_21_code 55 = .ok (.getfield 208, 3) := by decide +kernel
theorem d_Gr_expression_58 : decode prog_2_method_21_code 58 = .ok (.iload_n 2, 1) := by decide +kernel
theorem d_Gr_expression_59 : decode prog_2_method_21_code 59 = .ok (.invokevirtual 211, 3) := by decide +kernel
theorem d_Gr_expression_62 : decode prog_2_method_21_code 62 = .ok (.istore_n 2, 1) := by decide +kernel
theorem d_Gr_expression_63 : decode prog_2_method_21_code 63 = .ok (.aload_n 1, 1) := by decide +kernel
theorem d_Gr_expression_64 : decode prog_2_method_21_code 64 = .ok (.getfield 214, 3) := by decide +kernel
theorem d_Gr_expression_67 : decode prog_2_method_21_code 67 = .ok (.astore_n 1, 1) := by decide +kernel
theorem d_Gr_expression_68 : decode prog_2_method_21_code 68 = .ok (.goto (-41), 3) := by decide +kernel
theorem d_Gr_expression_71 : decode prog_2_method_21_code 71 = .ok (.iload 4, 2) := by decide +kernel
theorem d_Gr_expression_73 : decode prog_2_method_21_code 73 = .ok (.ifCond .ne 6, 3) := by decide +kernel
theorem d_Gr_expression_76 : decode prog_2_method_21_code 76 = .ok (.goto 35, 3) := by decide +kernel
theorem d_Gr_expression_79 : decode prog_2_method_21_code 79 = .ok (.new 204, 3) := by decide +kernel
theorem d_Gr_expression_82 : decode prog_2_method_21_code 82 = .ok (.dup, 1) := by decide +kernel
theorem d_Gr_expression_83 : decode prog_2_method_21_code 83 = .ok (.aload_n 0, 1) := by decide +kernel
theorem d_Gr_expression_84 : decode prog_2_method_21_code 84 = .ok (.aload_n 0, 1) := by decide +kernel
theorem d_Gr_expression_85 : decode prog_2_method_21_code 85 = .ok (.getfield 15, 3) := by decide +kernel
theorem d_Gr_expression_88 : decode prog_2_method_21_code 88 = .ok (.getfield 31, 3) := by decide +kernel
theorem d_Gr_expression_91 : decode prog_2_method_21_code 91 = .ok (.invokevirtual 55, 3) := by decide +kernel
theorem d_Gr_expression_94 : decode prog_2_method_21_code 94 = .ok (.iload_n 2, 1) := by decide +kernel
theorem d_Gr_expression_95 : decode prog_2_method_21_code 95 = .ok (.aload_n 1, 1) := by decide +kernel
theorem d_Gr_expression_96 : decode prog_2_method_21_code 96 = .ok (.invokespecial 218, 3) := by decide +kernel
theorem d_Gr_expression_99 : decode prog_2_method_21_code 99 = .ok (.astore_n 1, 1) := by decide +kernel
theorem d_Gr_expression_100 : decode prog_2_method_21_code 100 = .ok (.aload_n 0, 1) := by decide +kernel
theorem d_Gr_expression_101 : decode prog_2_method_21_code 101 = .ok (.invokevirtual 196, 3) := by decide +kernel
theorem d_Gr_expression_104 : decode prog_2_method_21_code 104 = .ok (.istore_n 2, 1) := by decide +kernel
theorem d_Gr_expression_105 : decode prog_2_method_21_code 105 = .ok (.iinc 3 1, 3) := by decide +kernel
theorem d_Gr_expression_108 : decode prog_2_method_21_code 108 = .ok (.goto (-99), 3) := by decide +kernel
theorem d_Gr_expression_111 : decode prog_2_method_21_code 111 = .ok (.aload_n 0, 1) := by decide +kernel
theorem d_Gr_expression_112 : decode prog_2_method_21_code 112 = .ok (.getfield 15, 3) := by decide +kernel
theorem d_Gr_expression_115 : decode prog_2_method_21_code 115 = .ok (.getfield 31, 3) := by decide +kernel
theorem d_Gr_expression_118 : decode prog_2_method_21_code 118 = .ok (.bipush 63, 2) := by decide +kernel
theorem d_Gr_expression_120 : decode prog_2_method_21_code 120 = .ok (.if_icmp .ne 11, 3) := by decide +kernel
theorem d_Gr_expression_123 : decode prog_2_method_21_code 123 = .ok (.aload_n 0, 1) := by decide +kernel
theorem d_Gr_expression_124 : decode prog_2_method_21_code 124 = .ok (.iload_n 2, 1) := by decide +kernel
theorem d_Gr_expression_125 : decode prog_2_method_21_code 125 = .ok (.invokevirtual 221, 3) := by decide +kernel
theorem d_Gr_expression_128 : decode prog_2_method_21_code 128 = .ok (.goto 4, 3) := by decide +kernel
theorem d_Gr_expression_131 : decode prog_2_method_21_code 131 = .ok (.iload_n 2, 1) := by decide +kernel
theorem d_Gr_expression_132 : decode prog_2_method_21_code 132 = .ok (.ireturn, 1) := by decide +kernel
theorem f_Gr_203 : cx_F "CircuitText$Grammar" 203 5 0 (.object "CircuitText$Token") true := ⟨_, F_Pe, 3, t_Pe, k_Pe, by decide, rfl, rfl, Or.inr ⟨"CircuitText", (in_5 (List.mem_of_getElem? (i := 97) rfl))⟩⟩
theorem f_Gr_208 : cx_F "CircuitText$Grammar" 208 5 1 (.int) true := ⟨_, F_Pe, 3, t_Pe, k_Pe, by decide, rfl, rfl, Or.inr ⟨"CircuitText", (in_5 (List.mem_of_getElem? (i := 99) rfl))⟩⟩
theorem f_Gr_214 : cx_F "CircuitText$Grammar" 214 5 2 (.object "CircuitText$Pending") true := ⟨_, F_Pe, 3, t_Pe, k_Pe, by decide, rfl, rfl, Or.inr ⟨"CircuitText", (in_5 (List.mem_of_getElem? (i := 101) rfl))⟩⟩
theorem z_Gr_204 : cx_N "CircuitText$Grammar" 204 5 [.null, .int 0, .null] := ⟨_, F_Pe, t_Pe, k_Pe, (in_5 (List.mem_of_getElem? (i := 90) rfl)), (in_5 (List.mem_of_getElem? (i := 91) rfl)), (in_1 (List.mem_of_getElem? (i := 34) rfl)), fun j hj => by rcases (show j = 0 ∨ j = 1 ∨ j = 2 by have : j < 3 := hj; omega) with rfl | rfl | rfl <;> rfl⟩
abbrev m_Gr_operand : cx_M := (⟨"CircuitText$Grammar", "operand", "()I"⟩, prog_2_method_24_code, 5, (Option.some Jvm.ClassFile.FieldType.int), [], [false])
theorem w_Gr_operand : cx_W m_Gr_operand := ⟨Or.inl ⟨(in_5 (List.mem_of_getElem? (i := 48) rfl)), rfl⟩, by decide +kernel, by decide, by decide, by decide +kernel⟩
theorem n_Gr_operand : (parseMethodDescriptor m_Gr_operand.1.desc).map (fun d => d.parameters.length) = some 0 := by decide +kernel
theorem d_Gr_operand_0 : decode prog_2_method_24_code 0 = .ok (.iconst 0, 1) := by decide +kernel
theorem d_Gr_operand_1 : decode prog_2_method_24_code 1 = .ok (.istore_n 1, 1) := by decide +kernel
theorem d_Gr_operand_2 : decode prog_2_method_24_code 2 = .ok (.iconst 0, 1) := by decide +kernel
theorem d_Gr_operand_3 : decode prog_2_method_24_code 3 = .ok (.istore_n 2, 1) := by decide +kernel
theorem d_Gr_operand_4 : decode prog_2_method_24_code 4 = .ok (.iconst 0, 1) := by decide +kernel
theorem d_Gr_operand_5 : decode prog_2_method_24_code 5 = .ok (.istore_n 3, 1) := by decide +kernel
theorem d_Gr_operand_6 : decode prog_2_method_24_code 6 = .ok (.iconst 0, 1) := by decide +kernel
theorem d_Gr_operand_7 : decode prog_2_method_24_code 7 = .ok (.istore 4, 2) := by decide +kernel
theorem d_Gr_operand_9 : decode prog_2_method_24_code 9 = .ok (.iload 4, 2) := by decide +kernel
theorem d_Gr_operand_11 : decode prog_2_method_24_code 11 = .ok (.ldc 30, 2) := by decide +kernel
theorem d_Gr_operand_13 : decode prog_2_method_24_code 13 = .ok (.if_icmp .ge 58, 3) := by decide +kernel
theorem d_Gr_operand_16 : decode prog_2_method_24_code 16 = .ok (.aload_n 0, 1) := by decide +kernel
theorem d_Gr_operand_17 : decode prog_2_method_24_code 17 = .ok (.getfield 15, 3) := by decide +kernel
theorem d_Gr_operand_20 : decode prog_2_method_24_code 20 = .ok (.getfield 31, 3) := by decide +kernel
theorem d_Gr_operand_23 : decode prog_2_method_24_code 23 = .ok (.invokestatic 227, 3) := by decide +kernel
theorem d_Gr_operand_26 : decode prog_2_method_24_code 26 = .ok (.ifCond .eq 45, 3) := by decide +kernel
theorem d_Gr_operand_29 : decode prog_2_method_24_code 29 = .ok (.aload_n 0, 1) := by decide +kernel
theorem d_Gr_operand_30 : decode prog_2_method_24_code 30 = .ok (.getfield 15, 3) := by decide +kernel
theorem d_Gr_operand_33 : decode prog_2_method_24_code 33 = .ok (.getfield 31, 3) := by decide +kernel
theorem d_Gr_operand_36 : decode prog_2_method_24_code 36 = .ok (.invokestatic 231, 3) := by decide +kernel
theorem d_Gr_operand_39 : decode prog_2_method_24_code 39 = .ok (.ifCond .eq 11, 3) := by decide +kernel
theorem d_Gr_operand_42 : decode prog_2_method_24_code 42 = .ok (.iload_n 1, 1) := by decide +kernel
theorem d_Gr_operand_43 : decode prog_2_method_24_code 43 = .ok (.iload_n 2, 1) := by decide +kernel
theorem d_Gr_operand_44 : decode prog_2_method_24_code 44 = .ok (.iadd, 1) := by decide +kernel
theorem d_Gr_operand_45 : decode prog_2_method_24_code 45 = .ok (.istore_n 1, 1) := by decide +kernel
theorem d_Gr_operand_46 : decode prog_2_method_24_code 46 = .ok (.iconst 0, 1) := by decide +kernel
theorem d_Gr_operand_47 : decode prog_2_method_24_code 47 = .ok (.istore_n 2, 1) := by decide +kernel
theorem d_Gr_operand_48 : decode prog_2_method_24_code 48 = .ok (.iconst 1, 1) := by decide +kernel
theorem d_Gr_operand_49 : decode prog_2_method_24_code 49 = .ok (.istore_n 3, 1) := by decide +kernel
theorem d_Gr_operand_50 : decode prog_2_method_24_code 50 = .ok (.iinc 2 1, 3) := by decide +kernel
theorem d_Gr_operand_53 : decode prog_2_method_24_code 53 = .ok (.aload_n 0, 1) := by decide +kernel
theorem d_Gr_operand_54 : decode prog_2_method_24_code 54 = .ok (.aload_n 0, 1) := by decide +kernel
theorem d_Gr_operand_55 : decode prog_2_method_24_code 55 = .ok (.getfield 15, 3) := by decide +kernel
theorem d_Gr_operand_58 : decode prog_2_method_24_code 58 = .ok (.getfield 31, 3) := by decide +kernel
theorem d_Gr_operand_61 : decode prog_2_method_24_code 61 = .ok (.invokevirtual 55, 3) := by decide +kernel
theorem d_Gr_operand_64 : decode prog_2_method_24_code 64 = .ok (.pop, 1) := by decide +kernel
theorem d_Gr_operand_65 : decode prog_2_method_24_code 65 = .ok (.iinc 4 1, 3) := by decide +kernel
theorem d_Gr_operand_68 : decode prog_2_method_24_code 68 = .ok (.goto (-59), 3) := by decide +kernel
theorem d_Gr_operand_71 : decode prog_2_method_24_code 71 = .ok (.iconst 1, 1) := by decide +kernel
theorem d_Gr_operand_72 : decode prog_2_method_24_code 72 = .ok (.istore 4, 2) := by decide +kernel
theorem d_Gr_operand_74 : decode prog_2_method_24_code 74 = .ok (.aload_n 0, 1) := by decide +kernel
theorem d_Gr_operand_75 : decode prog_2_method_24_code 75 = .ok (.getfield 15, 3) := by decide +kernel
theorem d_Gr_operand_78 : decode prog_2_method_24_code 78 = .ok (.getfield 31, 3) := by decide +kernel
theorem d_Gr_operand_81 : decode prog_2_method_24_code 81 = .ok (.lookupswitch 81 #[(21, 35), (40, 49), (123, 72)], 35) := by decide +kernel
theorem d_Gr_operand_116 : decode prog_2_method_24_code 116 = .ok (.aload_n 0, 1) := by decide +kernel
theorem d_Gr_operand_117 : decode prog_2_method_24_code 117 = .ok (.bipush 21, 2) := by decide +kernel
theorem d_Gr_operand_119 : decode prog_2_method_24_code 119 = .ok (.invokevirtual 55, 3) := by decide +kernel
theorem d_Gr_operand_122 : decode prog_2_method_24_code 122 = .ok (.getfield 234, 3) := by decide +kernel
theorem d_Gr_operand_125 : decode prog_2_method_24_code 125 = .ok (.istore 4, 2) := by decide +kernel
theorem d_Gr_operand_127 : decode prog_2_method_24_code 127 = .ok (.goto 41, 3) := by decide +kernel
theorem d_Gr_operand_130 : decode prog_2_method_24_code 130 = .ok (.aload_n 0, 1) := by decide +kernel
theorem d_Gr_operand_131 : decode prog_2_method_24_code 131 = .ok (.bipush 40, 2) := by decide +kernel
theorem d_Gr_operand_133 : decode prog_2_method_24_code 133 = .ok (.invokevirtual 55, 3) := by decide +kernel
theorem d_Gr_operand_136 : decode prog_2_method_24_code 136 = .ok (.pop, 1) := by decide +kernel
theorem d_Gr_operand_137 : decode prog_2_method_24_code 137 = .ok (.aload_n 0, 1) := by decide +kernel
theorem d_Gr_operand_138 : decode prog_2_method_24_code 138 = .ok (.invokevirtual 135, 3) := by decide +kernel
theorem d_Gr_operand_141 : decode prog_2_method_24_code 141 = .ok (.istore 4, 2) := by decide +kernel
theorem d_Gr_operand_143 : decode prog_2_method_24_code 143 = .ok (.aload_n 0, 1) := by decide +kernel
theorem d_Gr_operand_144 : decode prog_2_method_24_code 144 = .ok (.bipush 41, 2) := by decide +kernel
theorem d_Gr_operand_146 : decode prog_2_method_24_code 146 = .ok (.invokevirtual 55, 3) := by decide +kernel
theorem d_Gr_operand_149 : decode prog_2_method_24_code 149 = .ok (.pop, 1) := by decide +kernel
theorem d_Gr_operand_150 : decode prog_2_method_24_code 150 = .ok (.goto 18, 3) := by decide +kernel
theorem d_Gr_operand_153 : decode prog_2_method_24_code 153 = .ok (.aload_n 0, 1) := by decide +kernel
theorem d_Gr_operand_154 : decode prog_2_method_24_code 154 = .ok (.invokevirtual 235, 3) := by decide +kernel
theorem d_Gr_operand_157 : decode prog_2_method_24_code 157 = .ok (.istore 4, 2) := by decide +kernel
theorem d_Gr_operand_159 : decode prog_2_method_24_code 159 = .ok (.goto 9, 3) := by decide +kernel
theorem d_Gr_operand_162 : decode prog_2_method_24_code 162 = .ok (.aload_n 0, 1) := by decide +kernel
theorem d_Gr_operand_163 : decode prog_2_method_24_code 163 = .ok (.invokevirtual 238, 3) := by decide +kernel
theorem d_Gr_operand_166 : decode prog_2_method_24_code 166 = .ok (.istore 4, 2) := by decide +kernel
theorem d_Gr_operand_168 : decode prog_2_method_24_code 168 = .ok (.aload_n 0, 1) := by decide +kernel
theorem d_Gr_operand_169 : decode prog_2_method_24_code 169 = .ok (.getfield 19, 3) := by decide +kernel
theorem d_Gr_operand_172 : decode prog_2_method_24_code 172 = .ok (.iload_n 2, 1) := by decide +kernel
theorem d_Gr_operand_173 : decode prog_2_method_24_code 173 = .ok (.iload 4, 2) := by decide +kernel
theorem d_Gr_operand_175 : decode prog_2_method_24_code 175 = .ok (.imul, 1) := by decide +kernel
theorem d_Gr_operand_176 : decode prog_2_method_24_code 176 = .ok (.iload_n 1, 1) := by decide +kernel
theorem d_Gr_operand_177 : decode prog_2_method_24_code 177 = .ok (.iadd, 1) := by decide +kernel
theorem d_Gr_operand_178 : decode prog_2_method_24_code 178 = .ok (.invokevirtual 148, 3) := by decide +kernel
theorem d_Gr_operand_181 : decode prog_2_method_24_code 181 = .ok (.iload_n 3, 1) := by decide +kernel
theorem d_Gr_operand_182 : decode prog_2_method_24_code 182 = .ok (.ifCond .eq 7, 3) := by decide +kernel
theorem d_Gr_operand_185 : decode prog_2_method_24_code 185 = .ok (.iconst 1, 1) := by decide +kernel
theorem d_Gr_operand_186 : decode prog_2_method_24_code 186 = .ok (.goto 5, 3) := by decide +kernel
theorem d_Gr_operand_189 : decode prog_2_method_24_code 189 = .ok (.iload 4, 2) := by decide +kernel
theorem d_Gr_operand_191 : decode prog_2_method_24_code 191 = .ok (.ireturn, 1) := by decide +kernel
theorem f_Gr_234 : cx_F "CircuitText$Grammar" 234 7 5 (.int) false := ⟨_, F_To, 7, t_To, k_To, by decide, rfl, rfl, Or.inr ⟨"CircuitText", (in_1 (List.mem_of_getElem? (i := 157) rfl))⟩⟩
abbrev m_Gr_isUnary : cx_M := (⟨"CircuitText$Grammar", "isUnary", "(I)Z"⟩, prog_2_method_25_code, 1, (Option.some Jvm.ClassFile.FieldType.boolean), [], [false])
theorem w_Gr_isUnary : cx_W m_Gr_isUnary := ⟨Or.inl ⟨(in_5 (List.mem_of_getElem? (i := 51) rfl)), rfl⟩, by decide +kernel, by decide, by decide, by decide +kernel⟩
theorem n_Gr_isUnary : (parseMethodDescriptor m_Gr_isUnary.1.desc).map (fun d => d.parameters.length) = some 1 := by decide +kernel
theorem d_Gr_isUnary_0 : decode prog_2_method_25_code 0 = .ok (.iload_n 0, 1) := by decide +kernel
theorem d_Gr_isUnary_1 : decode prog_2_method_25_code 1 = .ok (.bipush 126, 2) := by decide +kernel
theorem d_Gr_isUnary_3 : decode prog_2_method_25_code 3 = .ok (.if_icmp .eq 16, 3) := by decide +kernel
theorem d_Gr_isUnary_6 : decode prog_2_method_25_code 6 = .ok (.iload_n 0, 1) := by decide +kernel
theorem d_Gr_isUnary_7 : decode prog_2_method_25_code 7 = .ok (.bipush 45, 2) := by decide +kernel
theorem d_Gr_isUnary_9 : decode prog_2_method_25_code 9 = .ok (.if_icmp .eq 10, 3) := by decide +kernel
theorem d_Gr_isUnary_12 : decode prog_2_method_25_code 12 = .ok (.iload_n 0, 1) := by decide +kernel
theorem d_Gr_isUnary_13 : decode prog_2_method_25_code 13 = .ok (.invokestatic 231, 3) := by decide +kernel
theorem d_Gr_isUnary_16 : decode prog_2_method_25_code 16 = .ok (.ifCond .eq 7, 3) := by decide +kernel
theorem d_Gr_isUnary_19 : decode prog_2_method_25_code 19 = .ok (.iconst 1, 1) := by decide +kernel
theorem d_Gr_isUnary_20 : decode prog_2_method_25_code 20 = .ok (.goto 4, 3) := by decide +kernel
theorem d_Gr_isUnary_23 : decode prog_2_method_25_code 23 = .ok (.iconst 0, 1) := by decide +kernel
theorem d_Gr_isUnary_24 : decode prog_2_method_25_code 24 = .ok (.ireturn, 1) := by decide +kernel
abbrev m_Gr_isReducing : cx_M := (⟨"CircuitText$Grammar", "isReducing", "(I)Z"⟩, prog_2_method_26_code, 1, (Option.some Jvm.ClassFile.FieldType.boolean), [], [false])
theorem w_Gr_isReducing : cx_W m_Gr_isReducing := ⟨Or.inl ⟨(in_5 (List.mem_of_getElem? (i := 54) rfl)), rfl⟩, by decide +kernel, by decide, by decide, by decide +kernel⟩
theorem n_Gr_isReducing : (parseMethodDescriptor m_Gr_isReducing.1.desc).map (fun d => d.parameters.length) = some 1 := by decide +kernel
theorem d_Gr_isReducing_0 : decode prog_2_method_26_code 0 = .ok (.iload_n 0, 1) := by decide +kernel
theorem d_Gr_isReducing_1 : decode prog_2_method_26_code 1 = .ok (.bipush 33, 2) := by decide +kernel
theorem d_Gr_isReducing_3 : decode prog_2_method_26_code 3 = .ok (.if_icmp .eq 21, 3) := by decide +kernel
theorem d_Gr_isReducing_6 : decode prog_2_method_26_code 6 = .ok (.iload_n 0, 1) := by decide +kernel
theorem d_Gr_isReducing_7 : decode prog_2_method_26_code 7 = .ok (.bipush 38, 2) := by decide +kernel
theorem d_Gr_isReducing_9 : decode prog_2_method_26_code 9 = .ok (.if_icmp .eq 15, 3) := by decide +kernel
theorem d_Gr_isReducing_12 : decode prog_2_method_26_code 12 = .ok (.iload_n 0, 1) := by decide +kernel
theorem d_Gr_isReducing_13 : decode prog_2_method_26_code 13 = .ok (.bipush 124, 2) := by decide +kernel
theorem d_Gr_isReducing_15 : decode prog_2_method_26_code 15 = .ok (.if_icmp .eq 9, 3) := by decide +kernel
theorem d_Gr_isReducing_18 : decode prog_2_method_26_code 18 = .ok (.iload_n 0, 1) := by decide +kernel
theorem d_Gr_isReducing_19 : decode prog_2_method_26_code 19 = .ok (.bipush 94, 2) := by decide +kernel
theorem d_Gr_isReducing_21 : decode prog_2_method_26_code 21 = .ok (.if_icmp .ne 7, 3) := by decide +kernel
theorem d_Gr_isReducing_24 : decode prog_2_method_26_code 24 = .ok (.iconst 1, 1) := by decide +kernel
theorem d_Gr_isReducing_25 : decode prog_2_method_26_code 25 = .ok (.goto 4, 3) := by decide +kernel
theorem d_Gr_isReducing_28 : decode prog_2_method_26_code 28 = .ok (.iconst 0, 1) := by decide +kernel
theorem d_Gr_isReducing_29 : decode prog_2_method_26_code 29 = .ok (.ireturn, 1) := by decide +kernel
abbrev m_Gr_braces : cx_M := (⟨"CircuitText$Grammar", "braces", "()I"⟩, prog_2_method_28_code, 4, (Option.some Jvm.ClassFile.FieldType.int), [], [false])
theorem w_Gr_braces : cx_W m_Gr_braces := ⟨Or.inl ⟨(in_5 (List.mem_of_getElem? (i := 58) rfl)), rfl⟩, by decide +kernel, by decide, by decide, by decide +kernel⟩
theorem n_Gr_braces : (parseMethodDescriptor m_Gr_braces.1.desc).map (fun d => d.parameters.length) = some 0 := by decide +kernel
theorem d_Gr_braces_0 : decode prog_2_method_28_code 0 = .ok (.aload_n 0, 1) := by decide +kernel
theorem d_Gr_braces_1 : decode prog_2_method_28_code 1 = .ok (.bipush 123, 2) := by decide +kernel
theorem d_Gr_braces_3 : decode prog_2_method_28_code 3 = .ok (.invokevirtual 55, 3) := by decide +kernel
theorem d_Gr_braces_6 : decode prog_2_method_28_code 6 = .ok (.astore_n 1, 1) := by decide +kernel
theorem d_Gr_braces_7 : decode prog_2_method_28_code 7 = .ok (.iconst 0, 1) := by decide +kernel
theorem d_Gr_braces_8 : decode prog_2_method_28_code 8 = .ok (.istore_n 2, 1) := by decide +kernel
theorem d_Gr_braces_9 : decode prog_2_method_28_code 9 = .ok (.aload_n 0, 1) := by decide +kernel
theorem d_Gr_braces_10 : decode prog_2_method_28_code 10 = .ok (.getfield 15, 3) := by decide +kernel
theorem d_Gr_braces_13 : decode prog_2_method_28_code 13 = .ok (.getfield 31, 3) := by decide +kernel
theorem d_Gr_braces_16 : decode prog_2_method_28_code 16 = .ok (.bipush 20, 2) := by decide +kernel
theorem d_Gr_braces_18 : decode prog_2_method_28_code 18 = .ok (.if_icmp .ne 37, 3) := by decide +kernel
theorem d_Gr_braces_21 : decode prog_2_method_28_code 21 = .ok (.aload_n 0, 1) := by decide +kernel
theorem d_Gr_braces_22 : decode prog_2_method_28_code 22 = .ok (.bipush 20, 2) := by decide +kernel
theorem d_Gr_braces_24 : decode prog_2_method_28_code 24 = .ok (.invokevirtual 55, 3) := by decide +kernel
theorem d_Gr_braces_27 : decode prog_2_method_28_code 27 = .ok (.invokevirtual 117, 3) := by decide +kernel
theorem d_Gr_braces_30 : decode prog_2_method_28_code 30 = .ok (.istore_n 3, 1) := by decide +kernel
theorem d_Gr_braces_31 : decode prog_2_method_28_code 31 = .ok (.aload_n 0, 1) := by decide +kernel
theorem d_Gr_braces_32 : decode prog_2_method_28_code 32 = .ok (.bipush 123, 2) := by decide +kernel
theorem d_Gr_braces_34 : decode prog_2_method_28_code 34 = .ok (.invokevirtual 55, 3) := by decide +kernel
theorem d_Gr_braces_37 : decode prog_2_method_28_code 37 = .ok (.pop, 1) := by decide +kernel
theorem d_Gr_braces_38 : decode prog_2_method_28_code 38 = .ok (.iload_n 3, 1) := by decide +kernel
theorem d_Gr_braces_39 : decode prog_2_method_28_code 39 = .ok (.aload_n 0, 1) := by decide +kernel
theorem d_Gr_braces_40 : decode prog_2_method_28_code 40 = .ok (.invokevirtual 135, 3) := by decide +kernel
theorem d_Gr_braces_43 : decode prog_2_method_28_code 43 = .ok (.imul, 1) := by decide +kernel
theorem d_Gr_braces_44 : decode prog_2_method_28_code 44 = .ok (.istore_n 2, 1) := by decide +kernel
theorem d_Gr_braces_45 : decode prog_2_method_28_code 45 = .ok (.aload_n 0, 1) := by decide +kernel
theorem d_Gr_braces_46 : decode prog_2_method_28_code 46 = .ok (.bipush 125, 2) := by decide +kernel
theorem d_Gr_braces_48 : decode prog_2_method_28_code 48 = .ok (.invokevirtual 55, 3) := by decide +kernel
theorem d_Gr_braces_51 : decode prog_2_method_28_code 51 = .ok (.pop, 1) := by decide +kernel
theorem d_Gr_braces_52 : decode prog_2_method_28_code 52 = .ok (.goto 48, 3) := by decide +kernel
theorem d_Gr_braces_55 : decode prog_2_method_28_code 55 = .ok (.aload_n 0, 1) := by decide +kernel
theorem d_Gr_braces_56 : decode prog_2_method_28_code 56 = .ok (.invokevirtual 135, 3) := by decide +kernel
theorem d_Gr_braces_59 : decode prog_2_method_28_code 59 = .ok (.istore_n 2, 1) := by decide +kernel
theorem d_Gr_braces_60 : decode prog_2_method_28_code 60 = .ok (.iconst 0, 1) := by decide +kernel
theorem d_Gr_braces_61 : decode prog_2_method_28_code 61 = .ok (.istore_n 3, 1) := by decide +kernel
theorem d_Gr_braces_62 : decode prog_2_method_28_code 62 = .ok (.iload_n 3, 1) := by decide +kernel
theorem d_Gr_braces_63 : decode prog_2_method_28_code 63 = .ok (.ldc 30, 2) := by decide +kernel
theorem d_Gr_braces_65 : decode prog_2_method_28_code 65 = .ok (.if_icmp .ge 35, 3) := by decide +kernel
theorem d_Gr_braces_68 : decode prog_2_method_28_code 68 = .ok (.aload_n 0, 1) := by decide +kernel
theorem d_Gr_braces_69 : decode prog_2_method_28_code 69 = .ok (.getfield 15, 3) := by decide +kernel
theorem d_Gr_braces_72 : decode prog_2_method_28_code 72 = .ok (.getfield 31, 3) := by decide +kernel
theorem d_Gr_braces_75 : decode prog_2_method_28_code 75 = .ok (.bipush 44, 2) := by decide +kernel
theorem d_Gr_braces_77 : decode prog_2_method_28_code 77 = .ok (.if_icmp .ne 23, 3) := by decide +kernel
theorem d_Gr_braces_80 : decode prog_2_method_28_code 80 = .ok (.aload_n 0, 1) := by decide +kernel
theorem d_Gr_braces_81 : decode prog_2_method_28_code 81 = .ok (.bipush 44, 2) := by decide +kernel
theorem d_Gr_braces_83 : decode prog_2_method_28_code 83 = .ok (.invokevirtual 55, 3) := by decide +kernel
theorem d_Gr_braces_86 : decode prog_2_method_28_code 86 = .ok (.pop, 1) := by decide +kernel
theorem d_Gr_braces_87 : decode prog_2_method_28_code 87 = .ok (.iload_n 2, 1) := by decide +kernel
theorem d_Gr_braces_88 : decode prog_2_method_28_code 88 = .ok (.aload_n 0, 1) := by decide +kernel
theorem d_Gr_braces_89 : decode prog_2_method_28_code 89 = .ok (.invokevirtual 135, 3) := by decide +kernel
theorem d_Gr_braces_92 : decode prog_2_method_28_code 92 = .ok (.iadd, 1) := by decide +kernel
theorem d_Gr_braces_93 : decode prog_2_method_28_code 93 = .ok (.istore_n 2, 1) := by decide +kernel
theorem d_Gr_braces_94 : decode prog_2_method_28_code 94 = .ok (.iinc 3 1, 3) := by decide +kernel
theorem d_Gr_braces_97 : decode prog_2_method_28_code 97 = .ok (.goto (-35), 3) := by decide +kernel
theorem d_Gr_braces_100 : decode prog_2_method_28_code 100 = .ok (.aload_n 0, 1) := by decide +kernel
theorem d_Gr_braces_101 : decode prog_2_method_28_code 101 = .ok (.bipush 125, 2) := by decide +kernel
theorem d_Gr_braces_103 : decode prog_2_method_28_code 103 = .ok (.invokevirtual 55, 3) := by decide +kernel
theorem d_Gr_braces_106 : decode prog_2_method_28_code 106 = .ok (.pop, 1) := by decide +kernel
theorem d_Gr_braces_107 : decode prog_2_method_28_code 107 = .ok (.aload_n 0, 1) := by decide +kernel
theorem d_Gr_braces_108 : decode prog_2_method_28_code 108 = .ok (.getfield 19, 3) := by decide +kernel
theorem d_Gr_braces_111 : decode prog_2_method_28_code 111 = .ok (.aload_n 1, 1) := by decide +kernel
theorem d_Gr_braces_112 : decode prog_2_method_28_code 112 = .ok (.iload_n 2, 1) := by decide +kernel
theorem d_Gr_braces_113 : decode prog_2_method_28_code 113 = .ok (.invokevirtual 250, 3) := by decide +kernel
theorem d_Gr_braces_116 : decode prog_2_method_28_code 116 = .ok (.ireturn, 1) := by decide +kernel
abbrev m_Gr_named : cx_M := (⟨"CircuitText$Grammar", "named", "()I"⟩, prog_2_method_27_code, 3, (Option.some Jvm.ClassFile.FieldType.int), [], [false])
theorem w_Gr_named : cx_W m_Gr_named := ⟨Or.inl ⟨(in_5 (List.mem_of_getElem? (i := 66) rfl)), rfl⟩, by decide +kernel, by decide, by decide, by decide +kernel⟩
theorem n_Gr_named : (parseMethodDescriptor m_Gr_named.1.desc).map (fun d => d.parameters.length) = some 0 := by decide +kernel
theorem d_Gr_named_0 : decode prog_2_method_27_code 0 = .ok (.aload_n 0, 1) := by decide +kernel
theorem d_Gr_named_1 : decode prog_2_method_27_code 1 = .ok (.getfield 19, 3) := by decide +kernel
theorem d_Gr_named_4 : decode prog_2_method_27_code 4 = .ok (.aload_n 0, 1) := by decide +kernel
theorem d_Gr_named_5 : decode prog_2_method_27_code 5 = .ok (.getfield 19, 3) := by decide +kernel
theorem d_Gr_named_8 : decode prog_2_method_27_code 8 = .ok (.aload_n 0, 1) := by decide +kernel
theorem d_Gr_named_9 : decode prog_2_method_27_code 9 = .ok (.bipush 19, 2) := by decide +kernel
theorem d_Gr_named_11 : decode prog_2_method_27_code 11 = .ok (.invokevirtual 55, 3) := by decide +kernel
theorem d_Gr_named_14 : decode prog_2_method_27_code 14 = .ok (.invokevirtual 241, 3) := by decide +kernel
theorem d_Gr_named_17 : decode prog_2_method_27_code 17 = .ok (.invokevirtual 131, 3) := by decide +kernel
theorem d_Gr_named_20 : decode prog_2_method_27_code 20 = .ok (.istore_n 1, 1) := by decide +kernel
theorem d_Gr_named_21 : decode prog_2_method_27_code 21 = .ok (.aload_n 0, 1) := by decide +kernel
theorem d_Gr_named_22 : decode prog_2_method_27_code 22 = .ok (.getfield 15, 3) := by decide +kernel
theorem d_Gr_named_25 : decode prog_2_method_27_code 25 = .ok (.getfield 31, 3) := by decide +kernel
theorem d_Gr_named_28 : decode prog_2_method_27_code 28 = .ok (.bipush 91, 2) := by decide +kernel
theorem d_Gr_named_30 : decode prog_2_method_27_code 30 = .ok (.if_icmp .eq 5, 3) := by decide +kernel
theorem d_Gr_named_33 : decode prog_2_method_27_code 33 = .ok (.iload_n 1, 1) := by decide +kernel
theorem d_Gr_named_34 : decode prog_2_method_27_code 34 = .ok (.ireturn, 1) := by decide +kernel
theorem d_Gr_named_35 : decode prog_2_method_27_code 35 = .ok (.aload_n 0, 1) := by decide +kernel
theorem d_Gr_named_36 : decode prog_2_method_27_code 36 = .ok (.bipush 91, 2) := by decide +kernel
theorem d_Gr_named_38 : decode prog_2_method_27_code 38 = .ok (.invokevirtual 55, 3) := by decide +kernel
theorem d_Gr_named_41 : decode prog_2_method_27_code 41 = .ok (.astore_n 2, 1) := by decide +kernel
theorem d_Gr_named_42 : decode prog_2_method_27_code 42 = .ok (.aload_n 0, 1) := by decide +kernel
theorem d_Gr_named_43 : decode prog_2_method_27_code 43 = .ok (.getfield 15, 3) := by decide +kernel
theorem d_Gr_named_46 : decode prog_2_method_27_code 46 = .ok (.getfield 31, 3) := by decide +kernel
theorem d_Gr_named_49 : decode prog_2_method_27_code 49 = .ok (.bipush 20, 2) := by decide +kernel
theorem d_Gr_named_51 : decode prog_2_method_27_code 51 = .ok (.if_icmp .ne 10, 3) := by decide +kernel
theorem d_Gr_named_54 : decode prog_2_method_27_code 54 = .ok (.aload_n 0, 1) := by decide +kernel
theorem d_Gr_named_55 : decode prog_2_method_27_code 55 = .ok (.aload_n 2, 1) := by decide +kernel
theorem d_Gr_named_56 : decode prog_2_method_27_code 56 = .ok (.iload_n 1, 1) := by decide +kernel
theorem d_Gr_named_57 : decode prog_2_method_27_code 57 = .ok (.invokevirtual 192, 3) := by decide +kernel
theorem d_Gr_named_60 : decode prog_2_method_27_code 60 = .ok (.ireturn, 1) := by decide +kernel
theorem d_Gr_named_61 : decode prog_2_method_27_code 61 = .ok (.aload_n 0, 1) := by decide +kernel
theorem d_Gr_named_62 : decode prog_2_method_27_code 62 = .ok (.getfield 19, 3) := by decide +kernel
theorem d_Gr_named_65 : decode prog_2_method_27_code 65 = .ok (.iload_n 1, 1) := by decide +kernel
theorem d_Gr_named_66 : decode prog_2_method_27_code 66 = .ok (.aload_n 0, 1) := by decide +kernel
theorem d_Gr_named_67 : decode prog_2_method_27_code 67 = .ok (.invokevirtual 135, 3) := by decide +kernel
theorem d_Gr_named_70 : decode prog_2_method_27_code 70 = .ok (.invokestatic 244, 3) := by decide +kernel
theorem d_Gr_named_73 : decode prog_2_method_27_code 73 = .ok (.invokevirtual 148, 3) := by decide +kernel
theorem d_Gr_named_76 : decode prog_2_method_27_code 76 = .ok (.aload_n 0, 1) := by decide +kernel
theorem d_Gr_named_77 : decode prog_2_method_27_code 77 = .ok (.bipush 93, 2) := by decide +kernel
theorem d_Gr_named_79 : decode prog_2_method_27_code 79 = .ok (.invokevirtual 55, 3) := by decide +kernel
theorem d_Gr_named_82 : decode prog_2_method_27_code 82 = .ok (.pop, 1) := by decide +kernel
theorem d_Gr_named_83 : decode prog_2_method_27_code 83 = .ok (.iconst 1, 1) := by decide +kernel
theorem d_Gr_named_84 : decode prog_2_method_27_code 84 = .ok (.ireturn, 1) := by decide +kernel
abbrev m_Gr_part : cx_M := (⟨"CircuitText$Grammar", "part", "(LCircuitText$Token;I)I"⟩, prog_2_method_20_code, 6, (Option.some Jvm.ClassFile.FieldType.int), [], [false, false, false])
theorem w_Gr_part : cx_W m_Gr_part := ⟨Or.inl ⟨(in_5 (List.mem_of_getElem? (i := 74) rfl)), rfl⟩, by decide +kernel, by decide, by decide, by decide +kernel⟩
theorem n_Gr_part : (parseMethodDescriptor m_Gr_part.1.desc).map (fun d => d.parameters.length) = some 2 := by decide +kernel
theorem d_Gr_part_0 : decode prog_2_method_20_code 0 = .ok (.aload_n 0, 1) := by decide +kernel
theorem d_Gr_part_1 : decode prog_2_method_20_code 1 = .ok (.bipush 20, 2) := by decide +kernel
theorem d_Gr_part_3 : decode prog_2_method_20_code 3 = .ok (.invokevirtual 55, 3) := by decide +kernel
theorem d_Gr_part_6 : decode prog_2_method_20_code 6 = .ok (.invokevirtual 117, 3) := by decide +kernel
theorem d_Gr_part_9 : decode prog_2_method_20_code 9 = .ok (.istore_n 3, 1) := by decide +kernel
theorem d_Gr_part_10 : decode prog_2_method_20_code 10 = .ok (.iload_n 3, 1) := by decide +kernel
theorem d_Gr_part_11 : decode prog_2_method_20_code 11 = .ok (.istore 4, 2) := by decide +kernel
theorem d_Gr_part_13 : decode prog_2_method_20_code 13 = .ok (.aload_n 0, 1) := by decide +kernel
theorem d_Gr_part_14 : decode prog_2_method_20_code 14 = .ok (.getfield 15, 3) := by decide +kernel
theorem d_Gr_part_17 : decode prog_2_method_20_code 17 = .ok (.getfield 31, 3) := by decide +kernel
theorem d_Gr_part_20 : decode prog_2_method_20_code 20 = .ok (.bipush 58, 2) := by decide +kernel
theorem d_Gr_part_22 : decode prog_2_method_20_code 22 = .ok (.if_icmp .ne 21, 3) := by decide +kernel
theorem d_Gr_part_25 : decode prog_2_method_20_code 25 = .ok (.aload_n 0, 1) := by decide +kernel
theorem d_Gr_part_26 : decode prog_2_method_20_code 26 = .ok (.bipush 58, 2) := by decide +kernel
theorem d_Gr_part_28 : decode prog_2_method_20_code 28 = .ok (.invokevirtual 55, 3) := by decide +kernel
theorem d_Gr_part_31 : decode prog_2_method_20_code 31 = .ok (.pop, 1) := by decide +kernel
theorem d_Gr_part_32 : decode prog_2_method_20_code 32 = .ok (.aload_n 0, 1) := by decide +kernel
theorem d_Gr_part_33 : decode prog_2_method_20_code 33 = .ok (.bipush 20, 2) := by decide +kernel
theorem d_Gr_part_35 : decode prog_2_method_20_code 35 = .ok (.invokevirtual 55, 3) := by decide +kernel
theorem d_Gr_part_38 : decode prog_2_method_20_code 38 = .ok (.invokevirtual 117, 3) := by decide +kernel
theorem d_Gr_part_41 : decode prog_2_method_20_code 41 = .ok (.istore 4, 2) := by decide +kernel
theorem d_Gr_part_43 : decode prog_2_method_20_code 43 = .ok (.aload_n 0, 1) := by decide +kernel
theorem d_Gr_part_44 : decode prog_2_method_20_code 44 = .ok (.bipush 93, 2) := by decide +kernel
theorem d_Gr_part_46 : decode prog_2_method_20_code 46 = .ok (.invokevirtual 55, 3) := by decide +kernel
theorem d_Gr_part_49 : decode prog_2_method_20_code 49 = .ok (.pop, 1) := by decide +kernel
theorem d_Gr_part_50 : decode prog_2_method_20_code 50 = .ok (.iload 4, 2) := by decide +kernel
theorem d_Gr_part_52 : decode prog_2_method_20_code 52 = .ok (.iload_n 3, 1) := by decide +kernel
theorem d_Gr_part_53 : decode prog_2_method_20_code 53 = .ok (.if_icmp .gt 12, 3) := by decide +kernel
theorem d_Gr_part_56 : decode prog_2_method_20_code 56 = .ok (.iload_n 3, 1) := by decide +kernel
theorem d_Gr_part_57 : decode prog_2_method_20_code 57 = .ok (.iload_n 2, 1) := by decide +kernel
theorem d_Gr_part_58 : decode prog_2_method_20_code 58 = .ok (.if_icmp .ge 7, 3) := by decide +kernel
theorem d_Gr_part_61 : decode prog_2_method_20_code 61 = .ok (.iconst 1, 1) := by decide +kernel
theorem d_Gr_part_62 : decode prog_2_method_20_code 62 = .ok (.goto 4, 3) := by decide +kernel
theorem d_Gr_part_65 : decode prog_2_method_20_code 65 = .ok (.iconst 0, 1) := by decide +kernel
theorem d_Gr_part_66 : decode prog_2_method_20_code 66 = .ok (.istore 5, 2) := by decide +kernel
theorem d_Gr_part_68 : decode prog_2_method_20_code 68 = .ok (.aload_n 0, 1) := by decide +kernel
theorem d_Gr_part_69 : decode prog_2_method_20_code 69 = .ok (.getfield 23, 3) := by decide +kernel
theorem d_Gr_part_72 : decode prog_2_method_20_code 72 = .ok (.iload 5, 2) := by decide +kernel
theorem d_Gr_part_74 : decode prog_2_method_20_code 74 = .ok (.bipush 30, 2) := by decide +kernel
theorem d_Gr_part_76 : decode prog_2_method_20_code 76 = .ok (.aload_n 1, 1) := by decide +kernel
theorem d_Gr_part_77 : decode prog_2_method_20_code 77 = .ok (.getfield 41, 3) := by decide +kernel
theorem d_Gr_part_80 : decode prog_2_method_20_code 80 = .ok (.invokevirtual 138, 3) := by decide +kernel
theorem d_Gr_part_83 : decode prog_2_method_20_code 83 = .ok (.iload 5, 2) := by decide +kernel
theorem d_Gr_part_85 : decode prog_2_method_20_code 85 = .ok (.ifCond .eq 12, 3) := by decide +kernel
theorem d_Gr_part_88 : decode prog_2_method_20_code 88 = .ok (.iload_n 3, 1) := by decide +kernel
theorem d_Gr_part_89 : decode prog_2_method_20_code 89 = .ok (.iload 4, 2) := by decide +kernel
theorem d_Gr_part_91 : decode prog_2_method_20_code 91 = .ok (.isub, 1) := by decide +kernel
theorem d_Gr_part_92 : decode prog_2_method_20_code 92 = .ok (.iconst 1, 1) := by decide +kernel
theorem d_Gr_part_93 : decode prog_2_method_20_code 93 = .ok (.iadd, 1) := by decide +kernel
theorem d_Gr_part_94 : decode prog_2_method_20_code 94 = .ok (.goto 4, 3) := by decide +kernel
theorem d_Gr_part_97 : decode prog_2_method_20_code 97 = .ok (.iconst 1, 1) := by decide +kernel
theorem d_Gr_part_98 : decode prog_2_method_20_code 98 = .ok (.ireturn, 1) := by decide +kernel
abbrev m_Gr_rankOf : cx_M := (⟨"CircuitText$Grammar", "rankOf", "(I)I"⟩, prog_2_method_22_code, 1, (Option.some Jvm.ClassFile.FieldType.int), [], [false])
theorem w_Gr_rankOf : cx_W m_Gr_rankOf := ⟨Or.inl ⟨(in_5 (List.mem_of_getElem? (i := 83) rfl)), rfl⟩, by decide +kernel, by decide, by decide, by decide +kernel⟩
theorem n_Gr_rankOf : (parseMethodDescriptor m_Gr_rankOf.1.desc).map (fun d => d.parameters.length) = some 1 := by decide +kernel
theorem d_Gr_rankOf_0 : decode prog_2_method_22_code 0 = .ok (.iload_n 0, 1) := by decide +kernel
theorem d_Gr_rankOf_1 : decode prog_2_method_22_code 1 = .ok (.lookupswitch 164 #[(38, 147), (42, 161), (43, 158), (45, 158), (60, 152), (62, 152), (94, 145), (124, 143), (8509, 149), (9766, 141), (15420, 155), (15421, 152), (15677, 149), (15933, 152), (15934, 155), (31868, 139)], 139) := by decide +kernel
theorem d_Gr_rankOf_140 : decode prog_2_method_22_code 140 = .ok (.iconst 1, 1) := by decide +kernel
theorem d_Gr_rankOf_141 : decode prog_2_method_22_code 141 = .ok (.ireturn, 1) := by decide +kernel
theorem d_Gr_rankOf_142 : decode prog_2_method_22_code 142 = .ok (.iconst 2, 1) := by decide +kernel
theorem d_Gr_rankOf_143 : decode prog_2_method_22_code 143 = .ok (.ireturn, 1) := by decide +kernel
theorem d_Gr_rankOf_144 : decode prog_2_method_22_code 144 = .ok (.iconst 3, 1) := by decide +kernel
theorem d_Gr_rankOf_145 : decode prog_2_method_22_code 145 = .ok (.ireturn, 1) := by decide +kernel
theorem d_Gr_rankOf_146 : decode prog_2_method_22_code 146 = .ok (.iconst 4, 1) := by decide +kernel
theorem d_Gr_rankOf_147 : decode prog_2_method_22_code 147 = .ok (.ireturn, 1) := by decide +kernel
theorem d_Gr_rankOf_148 : decode prog_2_method_22_code 148 = .ok (.iconst 5, 1) := by decide +kernel
theorem d_Gr_rankOf_149 : decode prog_2_method_22_code 149 = .ok (.ireturn, 1) := by decide +kernel
theorem d_Gr_rankOf_150 : decode prog_2_method_22_code 150 = .ok (.bipush 6, 2) := by decide +kernel
theorem d_Gr_rankOf_152 : decode prog_2_method_22_code 152 = .ok (.ireturn, 1) := by decide +kernel
theorem d_Gr_rankOf_153 : decode prog_2_method_22_code 153 = .ok (.bipush 7, 2) := by decide +kernel
theorem d_Gr_rankOf_155 : decode prog_2_method_22_code 155 = .ok (.ireturn, 1) := by decide +kernel
theorem d_Gr_rankOf_156 : decode prog_2_method_22_code 156 = .ok (.bipush 8, 2) := by decide +kernel
theorem d_Gr_rankOf_158 : decode prog_2_method_22_code 158 = .ok (.ireturn, 1) := by decide +kernel
theorem d_Gr_rankOf_159 : decode prog_2_method_22_code 159 = .ok (.bipush 9, 2) := by decide +kernel
theorem d_Gr_rankOf_161 : decode prog_2_method_22_code 161 = .ok (.ireturn, 1) := by decide +kernel
theorem d_Gr_rankOf_162 : decode prog_2_method_22_code 162 = .ok (.bipush 10, 2) := by decide +kernel
theorem d_Gr_rankOf_164 : decode prog_2_method_22_code 164 = .ok (.ireturn, 1) := by decide +kernel
theorem d_Gr_rankOf_165 : decode prog_2_method_22_code 165 = .ok (.iconst 0, 1) := by decide +kernel
theorem d_Gr_rankOf_166 : decode prog_2_method_22_code 166 = .ok (.ireturn, 1) := by decide +kernel
abbrev m_Pe_init : cx_M := (⟨"CircuitText$Pending", "<init>", "(LCircuitText$Token;ILCircuitText$Pending;)V"⟩, prog_6_method_1_code, 4, (Option.none : Option Jvm.ClassFile.FieldType), [], [false, false, false, false])
theorem w_Pe_init : cx_W m_Pe_init := ⟨Or.inl ⟨(in_5 (List.mem_of_getElem? (i := 94) rfl)), rfl⟩, by decide +kernel, by decide, by decide, by decide +kernel⟩
theorem n_Pe_init : (parseMethodDescriptor m_Pe_init.1.desc).map (fun d => d.parameters.length) = some 3 := by decide +kernel
theorem d_Pe_init_0 : decode prog_6_method_1_code 0 = .ok (.aload_n 0, 1) := by decide +kernel
theorem d_Pe_init_1 : decode prog_6_method_1_code 1 = .ok (.invokespecial 1, 3) := by decide +kernel
theorem d_Pe_init_4 : decode prog_6_method_1_code 4 = .ok (.aload_n 0, 1) := by decide +kernel
theorem d_Pe_init_5 : decode prog_6_method_1_code 5 = .ok (.aload_n 1, 1) := by decide +kernel
theorem d_Pe_init_6 : decode prog_6_method_1_code 6 = .ok (.putfield 7, 3) := by decide +kernel
theorem d_Pe_init_9 : decode prog_6_method_1_code 9 = .ok (.aload_n 0, 1) := by decide +kernel
theorem d_Pe_init_10 : decode prog_6_method_1_code 10 = .ok (.iload_n 2, 1) := by decide +kernel
theorem d_Pe_init_11 : decode prog_6_method_1_code 11 = .ok (.putfield 13, 3) := by decide +kernel
theorem d_Pe_init_14 : decode prog_6_method_1_code 14 = .ok (.aload_n 0, 1) := by decide +kernel
theorem d_Pe_init_15 : decode prog_6_method_1_code 15 = .ok (.aload_n 3, 1) := by decide +kernel
theorem d_Pe_init_16 : decode prog_6_method_1_code 16 = .ok (.putfield 17, 3) := by decide +kernel
theorem d_Pe_init_19 : decode prog_6_method_1_code 19 = .ok (.return_, 1) := by decide +kernel
theorem f_Pe_7 : cx_F "CircuitText$Pending" 7 5 0 (.object "CircuitText$Token") true := ⟨_, F_Pe, 3, t_Pe, k_Pe, by decide, rfl, rfl, Or.inl (in_5 (List.mem_of_getElem? (i := 96) rfl))⟩
theorem ff_Pe_7 : cx_FF "CircuitText$Pending" 7 5 0 (.object "CircuitText$Token") := ⟨_, F_Pe, 3, t_Pe, k_Pe, by decide, rfl, rfl, rfl, (in_5 (List.mem_of_getElem? (i := 96) rfl))⟩
theorem f_Pe_13 : cx_F "CircuitText$Pending" 13 5 1 (.int) true := ⟨_, F_Pe, 3, t_Pe, k_Pe, by decide, rfl, rfl, Or.inl (in_5 (List.mem_of_getElem? (i := 98) rfl))⟩
theorem ff_Pe_13 : cx_FF "CircuitText$Pending" 13 5 1 (.int) := ⟨_, F_Pe, 3, t_Pe, k_Pe, by decide, rfl, rfl, rfl, (in_5 (List.mem_of_getElem? (i := 98) rfl))⟩
theorem f_Pe_17 : cx_F "CircuitText$Pending" 17 5 2 (.object "CircuitText$Pending") true := ⟨_, F_Pe, 3, t_Pe, k_Pe, by decide, rfl, rfl, Or.inl (in_5 (List.mem_of_getElem? (i := 100) rfl))⟩
theorem ff_Pe_17 : cx_FF "CircuitText$Pending" 17 5 2 (.object "CircuitText$Pending") := ⟨_, F_Pe, 3, t_Pe, k_Pe, by decide, rfl, rfl, rfl, (in_5 (List.mem_of_getElem? (i := 100) rfl))⟩
abbrev m_Gr_conditional : cx_M := (⟨"CircuitText$Grammar", "conditional", "(I)I"⟩, prog_2_method_23_code, 5, (Option.some Jvm.ClassFile.FieldType.int), [], [false, false])
theorem w_Gr_conditional : cx_W m_Gr_conditional := ⟨Or.inl ⟨(in_5 (List.mem_of_getElem? (i := 112) rfl)), rfl⟩, by decide +kernel, by decide, by decide, by decide +kernel⟩
theorem n_Gr_conditional : (parseMethodDescriptor m_Gr_conditional.1.desc).map (fun d => d.parameters.length) = some 1 := by decide +kernel
theorem d_Gr_conditional_0 : decode prog_2_method_23_code 0 = .ok (.aload_n 0, 1) := by decide +kernel
theorem d_Gr_conditional_1 : decode prog_2_method_23_code 1 = .ok (.bipush 63, 2) := by decide +kernel
theorem d_Gr_conditional_3 : decode prog_2_method_23_code 3 = .ok (.invokevirtual 55, 3) := by decide +kernel
theorem d_Gr_conditional_6 : decode prog_2_method_23_code 6 = .ok (.astore_n 2, 1) := by decide +kernel
theorem d_Gr_conditional_7 : decode prog_2_method_23_code 7 = .ok (.aload_n 0, 1) := by decide +kernel
theorem d_Gr_conditional_8 : decode prog_2_method_23_code 8 = .ok (.invokevirtual 135, 3) := by decide +kernel
theorem d_Gr_conditional_11 : decode prog_2_method_23_code 11 = .ok (.istore_n 3, 1) := by decide +kernel
theorem d_Gr_conditional_12 : decode prog_2_method_23_code 12 = .ok (.aload_n 0, 1) := by decide +kernel
theorem d_Gr_conditional_13 : decode prog_2_method_23_code 13 = .ok (.bipush 58, 2) := by decide +kernel
theorem d_Gr_conditional_15 : decode prog_2_method_23_code 15 = .ok (.invokevirtual 55, 3) := by decide +kernel
theorem d_Gr_conditional_18 : decode prog_2_method_23_code 18 = .ok (.pop, 1) := by decide +kernel
theorem d_Gr_conditional_19 : decode prog_2_method_23_code 19 = .ok (.aload_n 0, 1) := by decide +kernel
theorem d_Gr_conditional_20 : decode prog_2_method_23_code 20 = .ok (.invokevirtual 135, 3) := by decide +kernel
theorem d_Gr_conditional_23 : decode prog_2_method_23_code 23 = .ok (.istore 4, 2) := by decide +kernel
theorem d_Gr_conditional_25 : decode prog_2_method_23_code 25 = .ok (.aload_n 0, 1) := by decide +kernel
theorem d_Gr_conditional_26 : decode prog_2_method_23_code 26 = .ok (.dup, 1) := by decide +kernel
theorem d_Gr_conditional_27 : decode prog_2_method_23_code 27 = .ok (.getfield 9, 3) := by decide +kernel
theorem d_Gr_conditional_30 : decode prog_2_method_23_code 30 = .ok (.iconst 1, 1) := by decide +kernel
theorem d_Gr_conditional_31 : decode prog_2_method_23_code 31 = .ok (.isub, 1) := by decide +kernel
theorem d_Gr_conditional_32 : decode prog_2_method_23_code 32 = .ok (.putfield 9, 3) := by decide +kernel
theorem d_Gr_conditional_35 : decode prog_2_method_23_code 35 = .ok (.aload_n 0, 1) := by decide +kernel
theorem d_Gr_conditional_36 : decode prog_2_method_23_code 36 = .ok (.getfield 19, 3) := by decide +kernel
theorem d_Gr_conditional_39 : decode prog_2_method_23_code 39 = .ok (.aload_n 2, 1) := by decide +kernel
theorem d_Gr_conditional_40 : decode prog_2_method_23_code 40 = .ok (.iload_n 1, 1) := by decide +kernel
theorem d_Gr_conditional_41 : decode prog_2_method_23_code 41 = .ok (.iload_n 3, 1) := by decide +kernel
theorem d_Gr_conditional_42 : decode prog_2_method_23_code 42 = .ok (.iload 4, 2) := by decide +kernel
theorem d_Gr_conditional_44 : decode prog_2_method_23_code 44 = .ok (.invokevirtual 224, 3) := by decide +kernel
theorem d_Gr_conditional_47 : decode prog_2_method_23_code 47 = .ok (.ireturn, 1) := by decide +kernel
abbrev m_Gr_alwaysHead : cx_M := (⟨"CircuitText$Grammar", "alwaysHead", "()V"⟩, prog_2_method_11_code, 1, (Option.none : Option Jvm.ClassFile.FieldType), [], [false])
theorem w_Gr_alwaysHead : cx_W m_Gr_alwaysHead := ⟨Or.inl ⟨(in_5 (List.mem_of_getElem? (i := 120) rfl)), rfl⟩, by decide +kernel, by decide, by decide, by decide +kernel⟩
theorem n_Gr_alwaysHead : (parseMethodDescriptor m_Gr_alwaysHead.1.desc).map (fun d => d.parameters.length) = some 0 := by decide +kernel
theorem d_Gr_alwaysHead_0 : decode prog_2_method_11_code 0 = .ok (.aload_n 0, 1) := by decide +kernel
theorem d_Gr_alwaysHead_1 : decode prog_2_method_11_code 1 = .ok (.bipush 8, 2) := by decide +kernel
theorem d_Gr_alwaysHead_3 : decode prog_2_method_11_code 3 = .ok (.invokevirtual 55, 3) := by decide +kernel
theorem d_Gr_alwaysHead_6 : decode prog_2_method_11_code 6 = .ok (.pop, 1) := by decide +kernel
theorem d_Gr_alwaysHead_7 : decode prog_2_method_11_code 7 = .ok (.aload_n 0, 1) := by decide +kernel
theorem d_Gr_alwaysHead_8 : decode prog_2_method_11_code 8 = .ok (.bipush 64, 2) := by decide +kernel
theorem d_Gr_alwaysHead_10 : decode prog_2_method_11_code 10 = .ok (.invokevirtual 55, 3) := by decide +kernel
theorem d_Gr_alwaysHead_13 : decode prog_2_method_11_code 13 = .ok (.pop, 1) := by decide +kernel
theorem d_Gr_alwaysHead_14 : decode prog_2_method_11_code 14 = .ok (.aload_n 0, 1) := by decide +kernel
theorem d_Gr_alwaysHead_15 : decode prog_2_method_11_code 15 = .ok (.bipush 40, 2) := by decide +kernel
theorem d_Gr_alwaysHead_17 : decode prog_2_method_11_code 17 = .ok (.invokevirtual 55, 3) := by decide +kernel
theorem d_Gr_alwaysHead_20 : decode prog_2_method_11_code 20 = .ok (.pop, 1) := by decide +kernel
theorem d_Gr_alwaysHead_21 : decode prog_2_method_11_code 21 = .ok (.aload_n 0, 1) := by decide +kernel
theorem d_Gr_alwaysHead_22 : decode prog_2_method_11_code 22 = .ok (.bipush 9, 2) := by decide +kernel
theorem d_Gr_alwaysHead_24 : decode prog_2_method_11_code 24 = .ok (.invokevirtual 55, 3) := by decide +kernel
theorem d_Gr_alwaysHead_27 : decode prog_2_method_11_code 27 = .ok (.pop, 1) := by decide +kernel
theorem d_Gr_alwaysHead_28 : decode prog_2_method_11_code 28 = .ok (.aload_n 0, 1) := by decide +kernel
theorem d_Gr_alwaysHead_29 : decode prog_2_method_11_code 29 = .ok (.bipush 10, 2) := by decide +kernel
theorem d_Gr_alwaysHead_31 : decode prog_2_method_11_code 31 = .ok (.invokevirtual 55, 3) := by decide +kernel
theorem d_Gr_alwaysHead_34 : decode prog_2_method_11_code 34 = .ok (.pop, 1) := by decide +kernel
theorem d_Gr_alwaysHead_35 : decode prog_2_method_11_code 35 = .ok (.aload_n 0, 1) := by decide +kernel
theorem d_Gr_alwaysHead_36 : decode prog_2_method_11_code 36 = .ok (.bipush 41, 2) := by decide +kernel
theorem d_Gr_alwaysHead_38 : decode prog_2_method_11_code 38 = .ok (.invokevirtual 55, 3) := by decide +kernel
theorem d_Gr_alwaysHead_41 : decode prog_2_method_11_code 41 = .ok (.pop, 1) := by decide +kernel
theorem d_Gr_alwaysHead_42 : decode prog_2_method_11_code 42 = .ok (.aload_n 0, 1) := by decide +kernel
theorem d_Gr_alwaysHead_43 : decode prog_2_method_11_code 43 = .ok (.getfield 19, 3) := by decide +kernel
theorem d_Gr_alwaysHead_46 : decode prog_2_method_11_code 46 = .ok (.invokevirtual 96, 3) := by decide +kernel
theorem d_Gr_alwaysHead_49 : decode prog_2_method_11_code 49 = .ok (.dup, 1) := by decide +kernel
theorem d_Gr_alwaysHead_50 : decode prog_2_method_11_code 50 = .ok (.getfield 142, 3) := by decide +kernel
theorem d_Gr_alwaysHead_53 : decode prog_2_method_11_code 53 = .ok (.iconst 1, 1) := by decide +kernel
theorem d_Gr_alwaysHead_54 : decode prog_2_method_11_code 54 = .ok (.iadd, 1) := by decide +kernel
theorem d_Gr_alwaysHead_55 : decode prog_2_method_11_code 55 = .ok (.putfield 142, 3) := by decide +kernel
theorem d_Gr_alwaysHead_58 : decode prog_2_method_11_code 58 = .ok (.return_, 1) := by decide +kernel
theorem f_Gr_142 : cx_F "CircuitText$Grammar" 142 8 6 (.int) false := ⟨_, F_Un, 10, t_Un, k_Un, by decide, rfl, rfl, Or.inr ⟨"CircuitText", (in_1 (List.mem_of_getElem? (i := 200) rfl))⟩⟩
abbrev m_Gr_statement : cx_M := (⟨"CircuitText$Grammar", "statement", "()V"⟩, prog_2_method_15_code, 1, (Option.none : Option Jvm.ClassFile.FieldType), [], [false])
theorem w_Gr_statement : cx_W m_Gr_statement := ⟨Or.inl ⟨(in_5 (List.mem_of_getElem? (i := 124) rfl)), rfl⟩, by decide +kernel, by decide, by decide, by decide +kernel⟩
theorem n_Gr_statement : (parseMethodDescriptor m_Gr_statement.1.desc).map (fun d => d.parameters.length) = some 0 := by decide +kernel
theorem d_Gr_statement_0 : decode prog_2_method_15_code 0 = .ok (.aload_n 0, 1) := by decide +kernel
theorem d_Gr_statement_1 : decode prog_2_method_15_code 1 = .ok (.getfield 15, 3) := by decide +kernel
theorem d_Gr_statement_4 : decode prog_2_method_15_code 4 = .ok (.getfield 31, 3) := by decide +kernel
theorem d_Gr_statement_7 : decode prog_2_method_15_code 7 = .ok (.tableswitch 54 11 15 #[33, 54, 40, 54, 47], 33) := by decide +kernel
theorem d_Gr_statement_40 : decode prog_2_method_15_code 40 = .ok (.aload_n 0, 1) := by decide +kernel
theorem d_Gr_statement_41 : decode prog_2_method_15_code 41 = .ok (.invokevirtual 173, 3) := by decide +kernel
theorem d_Gr_statement_44 : decode prog_2_method_15_code 44 = .ok (.goto 21, 3) := by decide +kernel
theorem d_Gr_statement_47 : decode prog_2_method_15_code 47 = .ok (.aload_n 0, 1) := by decide +kernel
theorem d_Gr_statement_48 : decode prog_2_method_15_code 48 = .ok (.invokevirtual 176, 3) := by decide +kernel
theorem d_Gr_statement_51 : decode prog_2_method_15_code 51 = .ok (.goto 14, 3) := by decide +kernel
theorem d_Gr_statement_54 : decode prog_2_method_15_code 54 = .ok (.aload_n 0, 1) := by decide +kernel
theorem d_Gr_statement_55 : decode prog_2_method_15_code 55 = .ok (.invokevirtual 179, 3) := by decide +kernel
theorem d_Gr_statement_58 : decode prog_2_method_15_code 58 = .ok (.goto 7, 3) := by decide +kernel
theorem d_Gr_statement_61 : decode prog_2_method_15_code 61 = .ok (.aload_n 0, 1) := by decide +kernel
theorem d_Gr_statement_62 : decode prog_2_method_15_code 62 = .ok (.invokevirtual 182, 3) := by decide +kernel
theorem d_Gr_statement_65 : decode prog_2_method_15_code 65 = .ok (.return_, 1) := by decide +kernel
abbrev m_Gr_block : cx_M := (⟨"CircuitText$Grammar", "block", "()V"⟩, prog_2_method_16_code, 2, (Option.none : Option Jvm.ClassFile.FieldType), [], [false])
theorem w_Gr_block : cx_W m_Gr_block := ⟨Or.inl ⟨(in_5 (List.mem_of_getElem? (i := 128) rfl)), rfl⟩, by decide +kernel, by decide, by decide, by decide +kernel⟩
theorem n_Gr_block : (parseMethodDescriptor m_Gr_block.1.desc).map (fun d => d.parameters.length) = some 0 := by decide +kernel
theorem d_Gr_block_0 : decode prog_2_method_16_code 0 = .ok (.aload_n 0, 1) := by decide +kernel
theorem d_Gr_block_1 : decode prog_2_method_16_code 1 = .ok (.bipush 11, 2) := by decide +kernel
theorem d_Gr_block_3 : decode prog_2_method_16_code 3 = .ok (.invokevirtual 55, 3) := by decide +kernel
theorem d_Gr_block_6 : decode prog_2_method_16_code 6 = .ok (.pop, 1) := by decide +kernel
theorem d_Gr_block_7 : decode prog_2_method_16_code 7 = .ok (.iconst 0, 1) := by decide +kernel
theorem d_Gr_block_8 : decode prog_2_method_16_code 8 = .ok (.istore_n 1, 1) := by decide +kernel
theorem d_Gr_block_9 : decode prog_2_method_16_code 9 = .ok (.iload_n 1, 1) := by decide +kernel
theorem d_Gr_block_10 : decode prog_2_method_16_code 10 = .ok (.ldc 30, 2) := by decide +kernel
theorem d_Gr_block_12 : decode prog_2_method_16_code 12 = .ok (.if_icmp .ge 25, 3) := by decide +kernel
theorem d_Gr_block_15 : decode prog_2_method_16_code 15 = .ok (.aload_n 0, 1) := by decide +kernel
theorem d_Gr_block_16 : decode prog_2_method_16_code 16 = .ok (.getfield 15, 3) := by decide +kernel
theorem d_Gr_block_19 : decode prog_2_method_16_code 19 = .ok (.getfield 31, 3) := by decide +kernel
theorem d_Gr_block_22 : decode prog_2_method_16_code 22 = .ok (.bipush 12, 2) := by decide +kernel
theorem d_Gr_block_24 : decode prog_2_method_16_code 24 = .ok (.if_icmp .eq 13, 3) := by decide +kernel
theorem d_Gr_block_27 : decode prog_2_method_16_code 27 = .ok (.aload_n 0, 1) := by decide +kernel
theorem d_Gr_block_28 : decode prog_2_method_16_code 28 = .ok (.invokevirtual 81, 3) := by decide +kernel
theorem d_Gr_block_31 : decode prog_2_method_16_code 31 = .ok (.iinc 1 1, 3) := by decide +kernel
theorem d_Gr_block_34 : decode prog_2_method_16_code 34 = .ok (.goto (-25), 3) := by decide +kernel
theorem d_Gr_block_37 : decode prog_2_method_16_code 37 = .ok (.aload_n 0, 1) := by decide +kernel
theorem d_Gr_block_38 : decode prog_2_method_16_code 38 = .ok (.bipush 12, 2) := by decide +kernel
theorem d_Gr_block_40 : decode prog_2_method_16_code 40 = .ok (.invokevirtual 55, 3) := by decide +kernel
theorem d_Gr_block_43 : decode prog_2_method_16_code 43 = .ok (.pop, 1) := by decide +kernel
theorem d_Gr_block_44 : decode prog_2_method_16_code 44 = .ok (.return_, 1) := by decide +kernel
abbrev m_Gr_choice : cx_M := (⟨"CircuitText$Grammar", "choice", "()V"⟩, prog_2_method_17_code, 1, (Option.none : Option Jvm.ClassFile.FieldType), [], [false])
theorem w_Gr_choice : cx_W m_Gr_choice := ⟨Or.inl ⟨(in_5 (List.mem_of_getElem? (i := 132) rfl)), rfl⟩, by decide +kernel, by decide, by decide, by decide +kernel⟩
theorem n_Gr_choice : (parseMethodDescriptor m_Gr_choice.1.desc).map (fun d => d.parameters.length) = some 0 := by decide +kernel
theorem d_Gr_choice_0 : decode prog_2_method_17_code 0 = .ok (.aload_n 0, 1) := by decide +kernel
theorem d_Gr_choice_1 : decode prog_2_method_17_code 1 = .ok (.bipush 13, 2) := by decide +kernel
theorem d_Gr_choice_3 : decode prog_2_method_17_code 3 = .ok (.invokevirtual 55, 3) := by decide +kernel
theorem d_Gr_choice_6 : decode prog_2_method_17_code 6 = .ok (.pop, 1) := by decide +kernel
theorem d_Gr_choice_7 : decode prog_2_method_17_code 7 = .ok (.aload_n 0, 1) := by decide +kernel
theorem d_Gr_choice_8 : decode prog_2_method_17_code 8 = .ok (.bipush 40, 2) := by decide +kernel
theorem d_Gr_choice_10 : decode prog_2_method_17_code 10 = .ok (.invokevirtual 55, 3) := by decide +kernel
theorem d_Gr_choice_13 : decode prog_2_method_17_code 13 = .ok (.pop, 1) := by decide +kernel
theorem d_Gr_choice_14 : decode prog_2_method_17_code 14 = .ok (.aload_n 0, 1) := by decide +kernel
theorem d_Gr_choice_15 : decode prog_2_method_17_code 15 = .ok (.getfield 19, 3) := by decide +kernel
theorem d_Gr_choice_18 : decode prog_2_method_17_code 18 = .ok (.aload_n 0, 1) := by decide +kernel
theorem d_Gr_choice_19 : decode prog_2_method_17_code 19 = .ok (.invokevirtual 135, 3) := by decide +kernel
theorem d_Gr_choice_22 : decode prog_2_method_17_code 22 = .ok (.invokevirtual 148, 3) := by decide +kernel
theorem d_Gr_choice_25 : decode prog_2_method_17_code 25 = .ok (.aload_n 0, 1) := by decide +kernel
theorem d_Gr_choice_26 : decode prog_2_method_17_code 26 = .ok (.bipush 41, 2) := by decide +kernel
theorem d_Gr_choice_28 : decode prog_2_method_17_code 28 = .ok (.invokevirtual 55, 3) := by decide +kernel
theorem d_Gr_choice_31 : decode prog_2_method_17_code 31 = .ok (.pop, 1) := by decide +kernel
theorem d_Gr_choice_32 : decode prog_2_method_17_code 32 = .ok (.aload_n 0, 1) := by decide +kernel
theorem d_Gr_choice_33 : decode prog_2_method_17_code 33 = .ok (.invokevirtual 81, 3) := by decide +kernel
theorem d_Gr_choice_36 : decode prog_2_method_17_code 36 = .ok (.aload_n 0, 1) := by decide +kernel
theorem d_Gr_choice_37 : decode prog_2_method_17_code 37 = .ok (.getfield 15, 3) := by decide +kernel
theorem d_Gr_choice_40 : decode prog_2_method_17_code 40 = .ok (.getfield 31, 3) := by decide +kernel
theorem d_Gr_choice_43 : decode prog_2_method_17_code 43 = .ok (.bipush 14, 2) := by decide +kernel
theorem d_Gr_choice_45 : decode prog_2_method_17_code 45 = .ok (.if_icmp .ne 14, 3) := by decide +kernel
theorem d_Gr_choice_48 : decode prog_2_method_17_code 48 = .ok (.aload_n 0, 1) := by decide +kernel
theorem d_Gr_choice_49 : decode prog_2_method_17_code 49 = .ok (.bipush 14, 2) := by decide +kernel
theorem d_Gr_choice_51 : decode prog_2_method_17_code 51 = .ok (.invokevirtual 55, 3) := by decide +kernel
theorem d_Gr_choice_54 : decode prog_2_method_17_code 54 = .ok (.pop, 1) := by decide +kernel
theorem d_Gr_choice_55 : decode prog_2_method_17_code 55 = .ok (.aload_n 0, 1) := by decide +kernel
theorem d_Gr_choice_56 : decode prog_2_method_17_code 56 = .ok (.invokevirtual 81, 3) := by decide +kernel
theorem d_Gr_choice_59 : decode prog_2_method_17_code 59 = .ok (.aload_n 0, 1) := by decide +kernel
theorem d_Gr_choice_60 : decode prog_2_method_17_code 60 = .ok (.dup, 1) := by decide +kernel
theorem d_Gr_choice_61 : decode prog_2_method_17_code 61 = .ok (.getfield 9, 3) := by decide +kernel
theorem d_Gr_choice_64 : decode prog_2_method_17_code 64 = .ok (.iconst 1, 1) := by decide +kernel
theorem d_Gr_choice_65 : decode prog_2_method_17_code 65 = .ok (.isub, 1) := by decide +kernel
theorem d_Gr_choice_66 : decode prog_2_method_17_code 66 = .ok (.putfield 9, 3) := by decide +kernel
theorem d_Gr_choice_69 : decode prog_2_method_17_code 69 = .ok (.return_, 1) := by decide +kernel
abbrev m_Gr_cases : cx_M := (⟨"CircuitText$Grammar", "cases", "()V"⟩, prog_2_method_18_code, 4, (Option.none : Option Jvm.ClassFile.FieldType), [], [false])
theorem w_Gr_cases : cx_W m_Gr_cases := ⟨Or.inl ⟨(in_5 (List.mem_of_getElem? (i := 136) rfl)), rfl⟩, by decide +kernel, by decide, by decide, by decide +kernel⟩
theorem n_Gr_cases : (parseMethodDescriptor m_Gr_cases.1.desc).map (fun d => d.parameters.length) = some 0 := by decide +kernel
theorem d_Gr_cases_0 : decode prog_2_method_18_code 0 = .ok (.aload_n 0, 1) := by decide +kernel
theorem d_Gr_cases_1 : decode prog_2_method_18_code 1 = .ok (.bipush 15, 2) := by decide +kernel
theorem d_Gr_cases_3 : decode prog_2_method_18_code 3 = .ok (.invokevirtual 55, 3) := by decide +kernel
theorem d_Gr_cases_6 : decode prog_2_method_18_code 6 = .ok (.pop, 1) := by decide +kernel
theorem d_Gr_cases_7 : decode prog_2_method_18_code 7 = .ok (.aload_n 0, 1) := by decide +kernel
theorem d_Gr_cases_8 : decode prog_2_method_18_code 8 = .ok (.bipush 40, 2) := by decide +kernel
theorem d_Gr_cases_10 : decode prog_2_method_18_code 10 = .ok (.invokevirtual 55, 3) := by decide +kernel
theorem d_Gr_cases_13 : decode prog_2_method_18_code 13 = .ok (.pop, 1) := by decide +kernel
theorem d_Gr_cases_14 : decode prog_2_method_18_code 14 = .ok (.aload_n 0, 1) := by decide +kernel
theorem d_Gr_cases_15 : decode prog_2_method_18_code 15 = .ok (.invokevirtual 135, 3) := by decide +kernel
theorem d_Gr_cases_18 : decode prog_2_method_18_code 18 = .ok (.istore_n 1, 1) := by decide +kernel
theorem d_Gr_cases_19 : decode prog_2_method_18_code 19 = .ok (.aload_n 0, 1) := by decide +kernel
theorem d_Gr_cases_20 : decode prog_2_method_18_code 20 = .ok (.bipush 41, 2) := by decide +kernel
theorem d_Gr_cases_22 : decode prog_2_method_18_code 22 = .ok (.invokevirtual 55, 3) := by decide +kernel
theorem d_Gr_cases_25 : decode prog_2_method_18_code 25 = .ok (.pop, 1) := by decide +kernel
theorem d_Gr_cases_26 : decode prog_2_method_18_code 26 = .ok (.iconst 0, 1) := by decide +kernel
theorem d_Gr_cases_27 : decode prog_2_method_18_code 27 = .ok (.istore_n 2, 1) := by decide +kernel
theorem d_Gr_cases_28 : decode prog_2_method_18_code 28 = .ok (.iload_n 2, 1) := by decide +kernel
theorem d_Gr_cases_29 : decode prog_2_method_18_code 29 = .ok (.ldc 30, 2) := by decide +kernel
theorem d_Gr_cases_31 : decode prog_2_method_18_code 31 = .ok (.if_icmp .ge 93, 3) := by decide +kernel
theorem d_Gr_cases_34 : decode prog_2_method_18_code 34 = .ok (.aload_n 0, 1) := by decide +kernel
theorem d_Gr_cases_35 : decode prog_2_method_18_code 35 = .ok (.getfield 15, 3) := by decide +kernel
theorem d_Gr_cases_38 : decode prog_2_method_18_code 38 = .ok (.getfield 31, 3) := by decide +kernel
theorem d_Gr_cases_41 : decode prog_2_method_18_code 41 = .ok (.bipush 21, 2) := by decide +kernel
theorem d_Gr_cases_43 : decode prog_2_method_18_code 43 = .ok (.if_icmp .ne 81, 3) := by decide +kernel
theorem d_Gr_cases_46 : decode prog_2_method_18_code 46 = .ok (.aload_n 0, 1) := by decide +kernel
theorem d_Gr_cases_47 : decode prog_2_method_18_code 47 = .ok (.getfield 19, 3) := by decide +kernel
theorem d_Gr_cases_50 : decode prog_2_method_18_code 50 = .ok (.aload_n 0, 1) := by decide +kernel
theorem d_Gr_cases_51 : decode prog_2_method_18_code 51 = .ok (.bipush 21, 2) := by decide +kernel
theorem d_Gr_cases_53 : decode prog_2_method_18_code 53 = .ok (.invokevirtual 55, 3) := by decide +kernel
theorem d_Gr_cases_56 : decode prog_2_method_18_code 56 = .ok (.iload_n 1, 1) := by decide +kernel
theorem d_Gr_cases_57 : decode prog_2_method_18_code 57 = .ok (.invokevirtual 185, 3) := by decide +kernel
theorem d_Gr_cases_60 : decode prog_2_method_18_code 60 = .ok (.iconst 0, 1) := by decide +kernel
theorem d_Gr_cases_61 : decode prog_2_method_18_code 61 = .ok (.istore_n 3, 1) := by decide +kernel
theorem d_Gr_cases_62 : decode prog_2_method_18_code 62 = .ok (.iload_n 3, 1) := by decide +kernel
theorem d_Gr_cases_63 : decode prog_2_method_18_code 63 = .ok (.ldc 30, 2) := by decide +kernel
theorem d_Gr_cases_65 : decode prog_2_method_18_code 65 = .ok (.if_icmp .ge 42, 3) := by decide +kernel
theorem d_Gr_cases_68 : decode prog_2_method_18_code 68 = .ok (.aload_n 0, 1) := by decide +kernel
theorem d_Gr_cases_69 : decode prog_2_method_18_code 69 = .ok (.getfield 15, 3) := by decide +kernel
theorem d_Gr_cases_72 : decode prog_2_method_18_code 72 = .ok (.getfield 31, 3) := by decide +kernel
theorem d_Gr_cases_75 : decode prog_2_method_18_code 75 = .ok (.bipush 44, 2) := by decide +kernel
theorem d_Gr_cases_77 : decode prog_2_method_18_code 77 = .ok (.if_icmp .ne 30, 3) := by decide +kernel
theorem d_Gr_cases_80 : decode prog_2_method_18_code 80 = .ok (.aload_n 0, 1) := by decide +kernel
theorem d_Gr_cases_81 : decode prog_2_method_18_code 81 = .ok (.bipush 44, 2) := by decide +kernel
theorem d_Gr_cases_83 : decode prog_2_method_18_code 83 = .ok (.invokevirtual 55, 3) := by decide +kernel
theorem d_Gr_cases_86 : decode prog_2_method_18_code 86 = .ok (.pop, 1) := by decide +kernel
theorem d_Gr_cases_87 : decode prog_2_method_18_code 87 = .ok (.aload_n 0, 1) := by decide +kernel
theorem d_Gr_cases_88 : decode prog_2_method_18_code 88 = .ok (.getfield 19, 3) := by decide +kernel
theorem d_Gr_cases_91 : decode prog_2_method_18_code 91 = .ok (.aload_n 0, 1) := by decide +kernel
theorem d_Gr_cases_92 : decode prog_2_method_18_code 92 = .ok (.bipush 21, 2) := by decide +kernel
theorem d_Gr_cases_94 : decode prog_2_method_18_code 94 = .ok (.invokevirtual 55, 3) := by decide +kernel
theorem d_Gr_cases_97 : decode prog_2_method_18_code 97 = .ok (.iload_n 1, 1) := by decide +kernel
theorem d_Gr_cases_98 : decode prog_2_method_18_code 98 = .ok (.invokevirtual 185, 3) := by decide +kernel
theorem d_Gr_cases_101 : decode prog_2_method_18_code 101 = .ok (.iinc 3 1, 3) := by decide +kernel
theorem d_Gr_cases_104 : decode prog_2_method_18_code 104 = .ok (.goto (-42), 3) := by decide +kernel
theorem d_Gr_cases_107 : decode prog_2_method_18_code 107 = .ok (.aload_n 0, 1) := by decide +kernel
theorem d_Gr_cases_108 : decode prog_2_method_18_code 108 = .ok (.bipush 58, 2) := by decide +kernel
theorem d_Gr_cases_110 : decode prog_2_method_18_code 110 = .ok (.invokevirtual 55, 3) := by decide +kernel
theorem d_Gr_cases_113 : decode prog_2_method_18_code 113 = .ok (.pop, 1) := by decide +kernel
theorem d_Gr_cases_114 : decode prog_2_method_18_code 114 = .ok (.aload_n 0, 1) := by decide +kernel
theorem d_Gr_cases_115 : decode prog_2_method_18_code 115 = .ok (.invokevirtual 81, 3) := by decide +kernel
theorem d_Gr_cases_118 : decode prog_2_method_18_code 118 = .ok (.iinc 2 1, 3) := by decide +kernel
theorem d_Gr_cases_121 : decode prog_2_method_18_code 121 = .ok (.goto (-93), 3) := by decide +kernel
theorem d_Gr_cases_124 : decode prog_2_method_18_code 124 = .ok (.aload_n 0, 1) := by decide +kernel
theorem d_Gr_cases_125 : decode prog_2_method_18_code 125 = .ok (.getfield 15, 3) := by decide +kernel
theorem d_Gr_cases_128 : decode prog_2_method_18_code 128 = .ok (.getfield 31, 3) := by decide +kernel
theorem d_Gr_cases_131 : decode prog_2_method_18_code 131 = .ok (.bipush 17, 2) := by decide +kernel
theorem d_Gr_cases_133 : decode prog_2_method_18_code 133 = .ok (.if_icmp .ne 21, 3) := by decide +kernel
theorem d_Gr_cases_136 : decode prog_2_method_18_code 136 = .ok (.aload_n 0, 1) := by decide +kernel
theorem d_Gr_cases_137 : decode prog_2_method_18_code 137 = .ok (.bipush 17, 2) := by decide +kernel
theorem d_Gr_cases_139 : decode prog_2_method_18_code 139 = .ok (.invokevirtual 55, 3) := by decide +kernel
theorem d_Gr_cases_142 : decode prog_2_method_18_code 142 = .ok (.pop, 1) := by decide +kernel
theorem d_Gr_cases_143 : decode prog_2_method_18_code 143 = .ok (.aload_n 0, 1) := by decide +kernel
theorem d_Gr_cases_144 : decode prog_2_method_18_code 144 = .ok (.bipush 58, 2) := by decide +kernel
theorem d_Gr_cases_146 : decode prog_2_method_18_code 146 = .ok (.invokevirtual 55, 3) := by decide +kernel
theorem d_Gr_cases_149 : decode prog_2_method_18_code 149 = .ok (.pop, 1) := by decide +kernel
theorem d_Gr_cases_150 : decode prog_2_method_18_code 150 = .ok (.aload_n 0, 1) := by decide +kernel
theorem d_Gr_cases_151 : decode prog_2_method_18_code 151 = .ok (.invokevirtual 81, 3) := by decide +kernel
theorem d_Gr_cases_154 : decode prog_2_method_18_code 154 = .ok (.aload_n 0, 1) := by decide +kernel
theorem d_Gr_cases_155 : decode prog_2_method_18_code 155 = .ok (.bipush 16, 2) := by decide +kernel
theorem d_Gr_cases_157 : decode prog_2_method_18_code 157 = .ok (.invokevirtual 55, 3) := by decide +kernel
theorem d_Gr_cases_160 : decode prog_2_method_18_code 160 = .ok (.pop, 1) := by decide +kernel
theorem d_Gr_cases_161 : decode prog_2_method_18_code 161 = .ok (.return_, 1) := by decide +kernel
abbrev m_Gr_setting : cx_M := (⟨"CircuitText$Grammar", "setting", "()V"⟩, prog_2_method_19_code, 3, (Option.none : Option Jvm.ClassFile.FieldType), [], [false])
theorem w_Gr_setting : cx_W m_Gr_setting := ⟨Or.inl ⟨(in_5 (List.mem_of_getElem? (i := 144) rfl)), rfl⟩, by decide +kernel, by decide, by decide, by decide +kernel⟩
theorem n_Gr_setting : (parseMethodDescriptor m_Gr_setting.1.desc).map (fun d => d.parameters.length) = some 0 := by decide +kernel
theorem d_Gr_setting_0 : decode prog_2_method_19_code 0 = .ok (.aload_n 0, 1) := by decide +kernel
theorem d_Gr_setting_1 : decode prog_2_method_19_code 1 = .ok (.getfield 19, 3) := by decide +kernel
theorem d_Gr_setting_4 : decode prog_2_method_19_code 4 = .ok (.aload_n 0, 1) := by decide +kernel
theorem d_Gr_setting_5 : decode prog_2_method_19_code 5 = .ok (.getfield 19, 3) := by decide +kernel
theorem d_Gr_setting_8 : decode prog_2_method_19_code 8 = .ok (.aload_n 0, 1) := by decide +kernel
theorem d_Gr_setting_9 : decode prog_2_method_19_code 9 = .ok (.bipush 19, 2) := by decide +kernel
theorem d_Gr_setting_11 : decode prog_2_method_19_code 11 = .ok (.invokevirtual 55, 3) := by decide +kernel
theorem d_Gr_setting_14 : decode prog_2_method_19_code 14 = .ok (.invokevirtual 189, 3) := by decide +kernel
theorem d_Gr_setting_17 : decode prog_2_method_19_code 17 = .ok (.invokevirtual 131, 3) := by decide +kernel
theorem d_Gr_setting_20 : decode prog_2_method_19_code 20 = .ok (.istore_n 1, 1) := by decide +kernel
theorem d_Gr_setting_21 : decode prog_2_method_19_code 21 = .ok (.aload_n 0, 1) := by decide +kernel
theorem d_Gr_setting_22 : decode prog_2_method_19_code 22 = .ok (.getfield 15, 3) := by decide +kernel
theorem d_Gr_setting_25 : decode prog_2_method_19_code 25 = .ok (.getfield 31, 3) := by decide +kernel
theorem d_Gr_setting_28 : decode prog_2_method_19_code 28 = .ok (.bipush 91, 2) := by decide +kernel
theorem d_Gr_setting_30 : decode prog_2_method_19_code 30 = .ok (.if_icmp .ne 15, 3) := by decide +kernel
theorem d_Gr_setting_33 : decode prog_2_method_19_code 33 = .ok (.aload_n 0, 1) := by decide +kernel
theorem d_Gr_setting_34 : decode prog_2_method_19_code 34 = .ok (.aload_n 0, 1) := by decide +kernel
theorem d_Gr_setting_35 : decode prog_2_method_19_code 35 = .ok (.bipush 91, 2) := by decide +kernel
theorem d_Gr_setting_37 : decode prog_2_method_19_code 37 = .ok (.invokevirtual 55, 3) := by decide +kernel
theorem d_Gr_setting_40 : decode prog_2_method_19_code 40 = .ok (.iload_n 1, 1) := by decide +kernel
theorem d_Gr_setting_41 : decode prog_2_method_19_code 41 = .ok (.invokevirtual 192, 3) := by decide +kernel
theorem d_Gr_setting_44 : decode prog_2_method_19_code 44 = .ok (.istore_n 1, 1) := by decide +kernel
theorem d_Gr_setting_45 : decode prog_2_method_19_code 45 = .ok (.aload_n 0, 1) := by decide +kernel
theorem d_Gr_setting_46 : decode prog_2_method_19_code 46 = .ok (.sipush 15421, 3) := by decide +kernel
theorem d_Gr_setting_49 : decode prog_2_method_19_code 49 = .ok (.invokevirtual 55, 3) := by decide +kernel
theorem d_Gr_setting_52 : decode prog_2_method_19_code 52 = .ok (.astore_n 2, 1) := by decide +kernel
theorem d_Gr_setting_53 : decode prog_2_method_19_code 53 = .ok (.aload_n 0, 1) := by decide +kernel
theorem d_Gr_setting_54 : decode prog_2_method_19_code 54 = .ok (.getfield 23, 3) := by decide +kernel
theorem d_Gr_setting_57 : decode prog_2_method_19_code 57 = .ok (.iload_n 1, 1) := by decide +kernel
theorem d_Gr_setting_58 : decode prog_2_method_19_code 58 = .ok (.aload_n 0, 1) := by decide +kernel
theorem d_Gr_setting_59 : decode prog_2_method_19_code 59 = .ok (.invokevirtual 135, 3) := by decide +kernel
theorem d_Gr_setting_62 : decode prog_2_method_19_code 62 = .ok (.if_icmp .ne 7, 3) := by decide +kernel
theorem d_Gr_setting_65 : decode prog_2_method_19_code 65 = .ok (.iconst 1, 1) := by decide +kernel
theorem d_Gr_setting_66 : decode prog_2_method_19_code 66 = .ok (.goto 4, 3) := by decide +kernel
theorem d_Gr_setting_69 : decode prog_2_method_19_code 69 = .ok (.iconst 0, 1) := by decide +kernel
theorem d_Gr_setting_70 : decode prog_2_method_19_code 70 = .ok (.bipush 30, 2) := by decide +kernel
theorem d_Gr_setting_72 : decode prog_2_method_19_code 72 = .ok (.aload_n 2, 1) := by decide +kernel
theorem d_Gr_setting_73 : decode prog_2_method_19_code 73 = .ok (.getfield 41, 3) := by decide +kernel
theorem d_Gr_setting_76 : decode prog_2_method_19_code 76 = .ok (.invokevirtual 138, 3) := by decide +kernel
theorem d_Gr_setting_79 : decode prog_2_method_19_code 79 = .ok (.aload_n 0, 1) := by decide +kernel
theorem d_Gr_setting_80 : decode prog_2_method_19_code 80 = .ok (.getfield 19, 3) := by decide +kernel
theorem d_Gr_setting_83 : decode prog_2_method_19_code 83 = .ok (.iload_n 1, 1) := by decide +kernel
theorem d_Gr_setting_84 : decode prog_2_method_19_code 84 = .ok (.invokevirtual 148, 3) := by decide +kernel
theorem d_Gr_setting_87 : decode prog_2_method_19_code 87 = .ok (.aload_n 0, 1) := by decide +kernel
theorem d_Gr_setting_88 : decode prog_2_method_19_code 88 = .ok (.bipush 59, 2) := by decide +kernel
theorem d_Gr_setting_90 : decode prog_2_method_19_code 90 = .ok (.invokevirtual 55, 3) := by decide +kernel
theorem d_Gr_setting_93 : decode prog_2_method_19_code 93 = .ok (.pop, 1) := by decide +kernel
theorem d_Gr_setting_94 : decode prog_2_method_19_code 94 = .ok (.return_, 1) := by decide +kernel
abbrev m_Gr_assertion : cx_M := (⟨"CircuitText$Grammar", "assertion", "()V"⟩, prog_2_method_12_code, 1, (Option.none : Option Jvm.ClassFile.FieldType), [], [false])
theorem w_Gr_assertion : cx_W m_Gr_assertion := ⟨Or.inl ⟨(in_5 (List.mem_of_getElem? (i := 156) rfl)), rfl⟩, by decide +kernel, by decide, by decide, by decide +kernel⟩
theorem n_Gr_assertion : (parseMethodDescriptor m_Gr_assertion.1.desc).map (fun d => d.parameters.length) = some 0 := by decide +kernel
theorem d_Gr_assertion_0 : decode prog_2_method_12_code 0 = .ok (.aload_n 0, 1) := by decide +kernel
theorem d_Gr_assertion_1 : decode prog_2_method_12_code 1 = .ok (.bipush 18, 2) := by decide +kernel
theorem d_Gr_assertion_3 : decode prog_2_method_12_code 3 = .ok (.invokevirtual 55, 3) := by decide +kernel
theorem d_Gr_assertion_6 : decode prog_2_method_12_code 6 = .ok (.pop, 1) := by decide +kernel
theorem d_Gr_assertion_7 : decode prog_2_method_12_code 7 = .ok (.aload_n 0, 1) := by decide +kernel
theorem d_Gr_assertion_8 : decode prog_2_method_12_code 8 = .ok (.getfield 19, 3) := by decide +kernel
theorem d_Gr_assertion_11 : decode prog_2_method_12_code 11 = .ok (.invokevirtual 96, 3) := by decide +kernel
theorem d_Gr_assertion_14 : decode prog_2_method_12_code 14 = .ok (.dup, 1) := by decide +kernel
theorem d_Gr_assertion_15 : decode prog_2_method_12_code 15 = .ok (.getfield 145, 3) := by decide +kernel
theorem d_Gr_assertion_18 : decode prog_2_method_12_code 18 = .ok (.iconst 1, 1) := by decide +kernel
theorem d_Gr_assertion_19 : decode prog_2_method_12_code 19 = .ok (.iadd, 1) := by decide +kernel
theorem d_Gr_assertion_20 : decode prog_2_method_12_code 20 = .ok (.putfield 145, 3) := by decide +kernel
theorem d_Gr_assertion_23 : decode prog_2_method_12_code 23 = .ok (.aload_n 0, 1) := by decide +kernel
theorem d_Gr_assertion_24 : decode prog_2_method_12_code 24 = .ok (.bipush 40, 2) := by decide +kernel
theorem d_Gr_assertion_26 : decode prog_2_method_12_code 26 = .ok (.invokevirtual 55, 3) := by decide +kernel
theorem d_Gr_assertion_29 : decode prog_2_method_12_code 29 = .ok (.pop, 1) := by decide +kernel
theorem d_Gr_assertion_30 : decode prog_2_method_12_code 30 = .ok (.aload_n 0, 1) := by decide +kernel
theorem d_Gr_assertion_31 : decode prog_2_method_12_code 31 = .ok (.getfield 19, 3) := by decide +kernel
theorem d_Gr_assertion_34 : decode prog_2_method_12_code 34 = .ok (.aload_n 0, 1) := by decide +kernel
theorem d_Gr_assertion_35 : decode prog_2_method_12_code 35 = .ok (.invokevirtual 135, 3) := by decide +kernel
theorem d_Gr_assertion_38 : decode prog_2_method_12_code 38 = .ok (.invokevirtual 148, 3) := by decide +kernel
theorem d_Gr_assertion_41 : decode prog_2_method_12_code 41 = .ok (.aload_n 0, 1) := by decide +kernel
theorem d_Gr_assertion_42 : decode prog_2_method_12_code 42 = .ok (.bipush 41, 2) := by decide +kernel
theorem d_Gr_assertion_44 : decode prog_2_method_12_code 44 = .ok (.invokevirtual 55, 3) := by decide +kernel
theorem d_Gr_assertion_47 : decode prog_2_method_12_code 47 = .ok (.pop, 1) := by decide +kernel
theorem d_Gr_assertion_48 : decode prog_2_method_12_code 48 = .ok (.aload_n 0, 1) := by decide +kernel
theorem d_Gr_assertion_49 : decode prog_2_method_12_code 49 = .ok (.bipush 59, 2) := by decide +kernel
theorem d_Gr_assertion_51 : decode prog_2_method_12_code 51 = .ok (.invokevirtual 55, 3) := by decide +kernel
theorem d_Gr_assertion_54 : decode prog_2_method_12_code 54 = .ok (.pop, 1) := by decide +kernel
theorem d_Gr_assertion_55 : decode prog_2_method_12_code 55 = .ok (.return_, 1) := by decide +kernel
theorem f_Gr_145 : cx_F "CircuitText$Grammar" 145 8 8 (.int) false := ⟨_, F_Un, 10, t_Un, k_Un, by decide, rfl, rfl, Or.inr ⟨"CircuitText", (in_1 (List.mem_of_getElem? (i := 207) rfl))⟩⟩
abbrev m_Gr_instance : cx_M := (⟨"CircuitText$Grammar", "instance", "()V"⟩, prog_2_method_13_code, 4, (Option.none : Option Jvm.ClassFile.FieldType), [], [false])
theorem w_Gr_instance : cx_W m_Gr_instance := ⟨Or.inl ⟨(in_5 (List.mem_of_getElem? (i := 160) rfl)), rfl⟩, by decide +kernel, by decide, by decide, by decide +kernel⟩
theorem n_Gr_instance : (parseMethodDescriptor m_Gr_instance.1.desc).map (fun d => d.parameters.length) = some 0 := by decide +kernel
theorem d_Gr_instance_0 : decode prog_2_method_13_code 0 = .ok (.aload_n 0, 1) := by decide +kernel
theorem d_Gr_instance_1 : decode prog_2_method_13_code 1 = .ok (.getfield 19, 3) := by decide +kernel
theorem d_Gr_instance_4 : decode prog_2_method_13_code 4 = .ok (.aload_n 0, 1) := by decide +kernel
theorem d_Gr_instance_5 : decode prog_2_method_13_code 5 = .ok (.bipush 19, 2) := by decide +kernel
theorem d_Gr_instance_7 : decode prog_2_method_13_code 7 = .ok (.invokevirtual 55, 3) := by decide +kernel
theorem d_Gr_instance_10 : decode prog_2_method_13_code 10 = .ok (.invokevirtual 151, 3) := by decide +kernel
theorem d_Gr_instance_13 : decode prog_2_method_13_code 13 = .ok (.astore_n 1, 1) := by decide +kernel
theorem d_Gr_instance_14 : decode prog_2_method_13_code 14 = .ok (.aload_n 0, 1) := by decide +kernel
theorem d_Gr_instance_15 : decode prog_2_method_13_code 15 = .ok (.getfield 19, 3) := by decide +kernel
theorem d_Gr_instance_18 : decode prog_2_method_13_code 18 = .ok (.aload_n 0, 1) := by decide +kernel
theorem d_Gr_instance_19 : decode prog_2_method_13_code 19 = .ok (.bipush 19, 2) := by decide +kernel
theorem d_Gr_instance_21 : decode prog_2_method_13_code 21 = .ok (.invokevirtual 55, 3) := by decide +kernel
theorem d_Gr_instance_24 : decode prog_2_method_13_code 24 = .ok (.aload_n 1, 1) := by decide +kernel
theorem d_Gr_instance_25 : decode prog_2_method_13_code 25 = .ok (.invokevirtual 155, 3) := by decide +kernel
theorem d_Gr_instance_28 : decode prog_2_method_13_code 28 = .ok (.astore_n 2, 1) := by decide +kernel
theorem d_Gr_instance_29 : decode prog_2_method_13_code 29 = .ok (.aload_n 0, 1) := by decide +kernel
theorem d_Gr_instance_30 : decode prog_2_method_13_code 30 = .ok (.bipush 40, 2) := by decide +kernel
theorem d_Gr_instance_32 : decode prog_2_method_13_code 32 = .ok (.invokevirtual 55, 3) := by decide +kernel
theorem d_Gr_instance_35 : decode prog_2_method_13_code 35 = .ok (.pop, 1) := by decide +kernel
theorem d_Gr_instance_36 : decode prog_2_method_13_code 36 = .ok (.aload_n 0, 1) := by decide +kernel
theorem d_Gr_instance_37 : decode prog_2_method_13_code 37 = .ok (.getfield 15, 3) := by decide +kernel
theorem d_Gr_instance_40 : decode prog_2_method_13_code 40 = .ok (.getfield 31, 3) := by decide +kernel
theorem d_Gr_instance_43 : decode prog_2_method_13_code 43 = .ok (.bipush 41, 2) := by decide +kernel
theorem d_Gr_instance_45 : decode prog_2_method_13_code 45 = .ok (.if_icmp .eq 8, 3) := by decide +kernel
theorem d_Gr_instance_48 : decode prog_2_method_13_code 48 = .ok (.aload_n 0, 1) := by decide +kernel
theorem d_Gr_instance_49 : decode prog_2_method_13_code 49 = .ok (.aload_n 2, 1) := by decide +kernel
theorem d_Gr_instance_50 : decode prog_2_method_13_code 50 = .ok (.invokevirtual 159, 3) := by decide +kernel
theorem d_Gr_instance_53 : decode prog_2_method_13_code 53 = .ok (.iconst 0, 1) := by decide +kernel
theorem d_Gr_instance_54 : decode prog_2_method_13_code 54 = .ok (.istore_n 3, 1) := by decide +kernel
theorem d_Gr_instance_55 : decode prog_2_method_13_code 55 = .ok (.iload_n 3, 1) := by decide +kernel
theorem d_Gr_instance_56 : decode prog_2_method_13_code 56 = .ok (.ldc 30, 2) := by decide +kernel
theorem d_Gr_instance_58 : decode prog_2_method_13_code 58 = .ok (.if_icmp .ge 33, 3) := by decide +kernel
theorem d_Gr_instance_61 : decode prog_2_method_13_code 61 = .ok (.aload_n 0, 1) := by decide +kernel
theorem d_Gr_instance_62 : decode prog_2_method_13_code 62 = .ok (.getfield 15, 3) := by decide +kernel
theorem d_Gr_instance_65 : decode prog_2_method_13_code 65 = .ok (.getfield 31, 3) := by decide +kernel
theorem d_Gr_instance_68 : decode prog_2_method_13_code 68 = .ok (.bipush 41, 2) := by decide +kernel
theorem d_Gr_instance_70 : decode prog_2_method_13_code 70 = .ok (.if_icmp .eq 21, 3) := by decide +kernel
theorem d_Gr_instance_73 : decode prog_2_method_13_code 73 = .ok (.aload_n 0, 1) := by decide +kernel
theorem d_Gr_instance_74 : decode prog_2_method_13_code 74 = .ok (.bipush 44, 2) := by decide +kernel
theorem d_Gr_instance_76 : decode prog_2_method_13_code 76 = .ok (.invokevirtual 55, 3) := by decide +kernel
theorem d_Gr_instance_79 : decode prog_2_method_13_code 79 = .ok (.pop, 1) := by decide +kernel
theorem d_Gr_instance_80 : decode prog_2_method_13_code 80 = .ok (.aload_n 0, 1) := by decide +kernel
theorem d_Gr_instance_81 : decode prog_2_method_13_code 81 = .ok (.aload_n 2, 1) := by decide +kernel
theorem d_Gr_instance_82 : decode prog_2_method_13_code 82 = .ok (.invokevirtual 159, 3) := by decide +kernel
theorem d_Gr_instance_85 : decode prog_2_method_13_code 85 = .ok (.iinc 3 1, 3) := by decide +kernel
theorem d_Gr_instance_88 : decode prog_2_method_13_code 88 = .ok (.goto (-33), 3) := by decide +kernel
theorem d_Gr_instance_91 : decode prog_2_method_13_code 91 = .ok (.aload_n 0, 1) := by decide +kernel
theorem d_Gr_instance_92 : decode prog_2_method_13_code 92 = .ok (.bipush 41, 2) := by decide +kernel
theorem d_Gr_instance_94 : decode prog_2_method_13_code 94 = .ok (.invokevirtual 55, 3) := by decide +kernel
theorem d_Gr_instance_97 : decode prog_2_method_13_code 97 = .ok (.pop, 1) := by decide +kernel
theorem d_Gr_instance_98 : decode prog_2_method_13_code 98 = .ok (.aload_n 0, 1) := by decide +kernel
theorem d_Gr_instance_99 : decode prog_2_method_13_code 99 = .ok (.bipush 59, 2) := by decide +kernel
theorem d_Gr_instance_101 : decode prog_2_method_13_code 101 = .ok (.invokevirtual 55, 3) := by decide +kernel
theorem d_Gr_instance_104 : decode prog_2_method_13_code 104 = .ok (.pop, 1) := by decide +kernel
theorem d_Gr_instance_105 : decode prog_2_method_13_code 105 = .ok (.aload_n 0, 1) := by decide +kernel
theorem d_Gr_instance_106 : decode prog_2_method_13_code 106 = .ok (.getfield 19, 3) := by decide +kernel
theorem d_Gr_instance_109 : decode prog_2_method_13_code 109 = .ok (.aload_n 2, 1) := by decide +kernel
theorem d_Gr_instance_110 : decode prog_2_method_13_code 110 = .ok (.invokevirtual 163, 3) := by decide +kernel
theorem d_Gr_instance_113 : decode prog_2_method_13_code 113 = .ok (.return_, 1) := by decide +kernel
abbrev m_Gr_link : cx_M := (⟨"CircuitText$Grammar", "link", "(LCircuitText$Name;)V"⟩, prog_2_method_14_code, 7, (Option.none : Option Jvm.ClassFile.FieldType), [], [false, false])
theorem w_Gr_link : cx_W m_Gr_link := ⟨Or.inl ⟨(in_5 (List.mem_of_getElem? (i := 173) rfl)), rfl⟩, by decide +kernel, by decide, by decide, by decide +kernel⟩
theorem n_Gr_link : (parseMethodDescriptor m_Gr_link.1.desc).map (fun d => d.parameters.length) = some 1 := by decide +kernel
theorem d_Gr_link_0 : decode prog_2_method_14_code 0 = .ok (.aload_n 0, 1) := by decide +kernel
theorem d_Gr_link_1 : decode prog_2_method_14_code 1 = .ok (.bipush 46, 2) := by decide +kernel
theorem d_Gr_link_3 : decode prog_2_method_14_code 3 = .ok (.invokevirtual 55, 3) := by decide +kernel
theorem d_Gr_link_6 : decode prog_2_method_14_code 6 = .ok (.astore_n 2, 1) := by decide +kernel
theorem d_Gr_link_7 : decode prog_2_method_14_code 7 = .ok (.aload_n 0, 1) := by decide +kernel
theorem d_Gr_link_8 : decode prog_2_method_14_code 8 = .ok (.getfield 19, 3) := by decide +kernel
theorem d_Gr_link_11 : decode prog_2_method_14_code 11 = .ok (.aload_n 1, 1) := by decide +kernel
theorem d_Gr_link_12 : decode prog_2_method_14_code 12 = .ok (.aload_n 0, 1) := by decide +kernel
theorem d_Gr_link_13 : decode prog_2_method_14_code 13 = .ok (.bipush 19, 2) := by decide +kernel
theorem d_Gr_link_15 : decode prog_2_method_14_code 15 = .ok (.invokevirtual 55, 3) := by decide +kernel
theorem d_Gr_link_18 : decode prog_2_method_14_code 18 = .ok (.invokevirtual 166, 3) := by decide +kernel
theorem d_Gr_link_21 : decode prog_2_method_14_code 21 = .ok (.astore_n 3, 1) := by decide +kernel
theorem d_Gr_link_22 : decode prog_2_method_14_code 22 = .ok (.aload_n 0, 1) := by decide +kernel
theorem d_Gr_link_23 : decode prog_2_method_14_code 23 = .ok (.bipush 40, 2) := by decide +kernel
theorem d_Gr_link_25 : decode prog_2_method_14_code 25 = .ok (.invokevirtual 55, 3) := by decide +kernel
theorem d_Gr_link_28 : decode prog_2_method_14_code 28 = .ok (.pop, 1) := by decide +kernel
theorem d_Gr_link_29 : decode prog_2_method_14_code 29 = .ok (.aload_n 0, 1) := by decide +kernel
theorem d_Gr_link_30 : decode prog_2_method_14_code 30 = .ok (.getfield 15, 3) := by decide +kernel
theorem d_Gr_link_33 : decode prog_2_method_14_code 33 = .ok (.astore 4, 2) := by decide +kernel
theorem d_Gr_link_35 : decode prog_2_method_14_code 35 = .ok (.aload_n 0, 1) := by decide +kernel
theorem d_Gr_link_36 : decode prog_2_method_14_code 36 = .ok (.invokevirtual 135, 3) := by decide +kernel
theorem d_Gr_link_39 : decode prog_2_method_14_code 39 = .ok (.istore 5, 2) := by decide +kernel
theorem d_Gr_link_41 : decode prog_2_method_14_code 41 = .ok (.aload 4, 2) := by decide +kernel
theorem d_Gr_link_43 : decode prog_2_method_14_code 43 = .ok (.getfield 31, 3) := by decide +kernel
theorem d_Gr_link_46 : decode prog_2_method_14_code 46 = .ok (.bipush 19, 2) := by decide +kernel
theorem d_Gr_link_48 : decode prog_2_method_14_code 48 = .ok (.if_icmp .ne 19, 3) := by decide +kernel
theorem d_Gr_link_51 : decode prog_2_method_14_code 51 = .ok (.aload 4, 2) := by decide +kernel
theorem d_Gr_link_53 : decode prog_2_method_14_code 53 = .ok (.getfield 52, 3) := by decide +kernel
theorem d_Gr_link_56 : decode prog_2_method_14_code 56 = .ok (.aload_n 0, 1) := by decide +kernel
theorem d_Gr_link_57 : decode prog_2_method_14_code 57 = .ok (.getfield 15, 3) := by decide +kernel
theorem d_Gr_link_60 : decode prog_2_method_14_code 60 = .ok (.if_acmp .ne 7, 3) := by decide +kernel
theorem d_Gr_link_63 : decode prog_2_method_14_code 63 = .ok (.iconst 1, 1) := by decide +kernel
theorem d_Gr_link_64 : decode prog_2_method_14_code 64 = .ok (.goto 4, 3) := by decide +kernel
theorem d_Gr_link_67 : decode prog_2_method_14_code 67 = .ok (.iconst 0, 1) := by decide +kernel
theorem d_Gr_link_68 : decode prog_2_method_14_code 68 = .ok (.istore 6, 2) := by decide +kernel
theorem d_Gr_link_70 : decode prog_2_method_14_code 70 = .ok (.aload_n 0, 1) := by decide +kernel
theorem d_Gr_link_71 : decode prog_2_method_14_code 71 = .ok (.bipush 41, 2) := by decide +kernel
theorem d_Gr_link_73 : decode prog_2_method_14_code 73 = .ok (.invokevirtual 55, 3) := by decide +kernel
theorem d_Gr_link_76 : decode prog_2_method_14_code 76 = .ok (.pop, 1) := by decide +kernel
theorem d_Gr_link_77 : decode prog_2_method_14_code 77 = .ok (.aload_n 0, 1) := by decide +kernel
theorem d_Gr_link_78 : decode prog_2_method_14_code 78 = .ok (.getfield 19, 3) := by decide +kernel
theorem d_Gr_link_81 : decode prog_2_method_14_code 81 = .ok (.aload_n 2, 1) := by decide +kernel
theorem d_Gr_link_82 : decode prog_2_method_14_code 82 = .ok (.aload_n 3, 1) := by decide +kernel
theorem d_Gr_link_83 : decode prog_2_method_14_code 83 = .ok (.aload 4, 2) := by decide +kernel
theorem d_Gr_link_85 : decode prog_2_method_14_code 85 = .ok (.iload 6, 2) := by decide +kernel
theorem d_Gr_link_87 : decode prog_2_method_14_code 87 = .ok (.iload 5, 2) := by decide +kernel
theorem d_Gr_link_89 : decode prog_2_method_14_code 89 = .ok (.invokevirtual 170, 3) := by decide +kernel
theorem d_Gr_link_92 : decode prog_2_method_14_code 92 = .ok (.return_, 1) := by decide +kernel
theorem l_Gr_27 : cx_LV "CircuitText$Grammar" 27 1 m_Gr_unitText := ⟨Or.inl (in_4 (List.mem_of_getElem? (i := 68) rfl)), w_Gr_unitText, (in_4 (List.mem_of_getElem? (i := 70) rfl)), _, rfl, (List.mem_append_left _ (List.mem_of_getElem? (i := 13) rfl))⟩
theorem l_Gr_55 : cx_LV "CircuitText$Grammar" 55 1 m_Gr_take := ⟨Or.inl (in_4 (List.mem_of_getElem? (i := 72) rfl)), w_Gr_take, (in_4 (List.mem_of_getElem? (i := 74) rfl)), _, rfl, (List.mem_append_left _ (List.mem_of_getElem? (i := 14) rfl))⟩
theorem l_Gr_59 : cx_LV "CircuitText$Grammar" 59 3 m_Me_beginUnit := ⟨Or.inl (in_4 (List.mem_of_getElem? (i := 92) rfl)), w_Me_beginUnit, (in_4 (List.mem_of_getElem? (i := 93) rfl)), _, rfl, (in_4 (List.mem_of_getElem? (i := 94) rfl))⟩
theorem l_Gr_65 : cx_LV "CircuitText$Grammar" 65 1 m_Gr_port := ⟨Or.inl (in_4 (List.mem_of_getElem? (i := 107) rfl)), w_Gr_port, (in_4 (List.mem_of_getElem? (i := 109) rfl)), _, rfl, (List.mem_append_left _ (List.mem_of_getElem? (i := 15) rfl))⟩
theorem l_Gr_68 : cx_LV "CircuitText$Grammar" 68 1 m_Gr_wire := ⟨Or.inl (in_5 (List.mem_of_getElem? (i := 17) rfl)), w_Gr_wire, (in_5 (List.mem_of_getElem? (i := 19) rfl)), _, rfl, (List.mem_append_left _ (List.mem_of_getElem? (i := 23) rfl))⟩
theorem l_Gr_71 : cx_LV "CircuitText$Grammar" 71 1 m_Gr_register := ⟨Or.inl (in_5 (List.mem_of_getElem? (i := 4) rfl)), w_Gr_register, (in_5 (List.mem_of_getElem? (i := 6) rfl)), _, rfl, (List.mem_append_left _ (List.mem_of_getElem? (i := 22) rfl))⟩
theorem l_Gr_75 : cx_LV "CircuitText$Grammar" 75 1 m_Gr_assign := ⟨Or.inl (in_5 (List.mem_of_getElem? (i := 21) rfl)), w_Gr_assign, (in_5 (List.mem_of_getElem? (i := 23) rfl)), _, rfl, (List.mem_append_left _ (List.mem_of_getElem? (i := 24) rfl))⟩
theorem l_Gr_78 : cx_LV "CircuitText$Grammar" 78 1 m_Gr_alwaysHead := ⟨Or.inl (in_5 (List.mem_of_getElem? (i := 117) rfl)), w_Gr_alwaysHead, (in_5 (List.mem_of_getElem? (i := 119) rfl)), _, rfl, (List.mem_append_left _ (List.mem_of_getElem? (i := 32) rfl))⟩
theorem l_Gr_81 : cx_LV "CircuitText$Grammar" 81 1 m_Gr_statement := ⟨Or.inl (in_5 (List.mem_of_getElem? (i := 121) rfl)), w_Gr_statement, (in_5 (List.mem_of_getElem? (i := 123) rfl)), _, rfl, (List.mem_append_left _ (List.mem_of_getElem? (i := 33) rfl))⟩
theorem l_Gr_84 : cx_LV "CircuitText$Grammar" 84 1 m_Gr_assertion := ⟨Or.inl (in_5 (List.mem_of_getElem? (i := 153) rfl)), w_Gr_assertion, (in_5 (List.mem_of_getElem? (i := 155) rfl)), _, rfl, (List.mem_append_left _ (List.mem_of_getElem? (i := 38) rfl))⟩
theorem l_Gr_87 : cx_LV "CircuitText$Grammar" 87 1 m_Gr_instance := ⟨Or.inl (in_5 (List.mem_of_getElem? (i := 157) rfl)), w_Gr_instance, (in_5 (List.mem_of_getElem? (i := 159) rfl)), _, rfl, (List.mem_append_left _ (List.mem_of_getElem? (i := 39) rfl))⟩
theorem l_Gr_90 : cx_LV "CircuitText$Grammar" 90 3 m_Me_finishUnit := ⟨Or.inl (in_5 (List.mem_of_getElem? (i := 208) rfl)), w_Me_finishUnit, (in_5 (List.mem_of_getElem? (i := 209) rfl)), _, rfl, (in_5 (List.mem_of_getElem? (i := 210) rfl))⟩
theorem l_Gr_93 : cx_LV "CircuitText$Grammar" 93 1 m_Gr_plainName := ⟨Or.inl (in_4 (List.mem_of_getElem? (i := 111) rfl)), w_Gr_plainName, (in_4 (List.mem_of_getElem? (i := 113) rfl)), _, rfl, (List.mem_append_left _ (List.mem_of_getElem? (i := 16) rfl))⟩
theorem l_Gr_96 : cx_LV "CircuitText$Grammar" 96 3 m_Me_unit := ⟨Or.inl (in_5 (List.mem_of_getElem? (i := 12) rfl)), w_Me_unit, (in_5 (List.mem_of_getElem? (i := 13) rfl)), _, rfl, (in_5 (List.mem_of_getElem? (i := 14) rfl))⟩
theorem l_Gr_105 : cx_LV "CircuitText$Grammar" 105 1 m_Gr_range := ⟨Or.inl (in_4 (List.mem_of_getElem? (i := 115) rfl)), w_Gr_range, (in_4 (List.mem_of_getElem? (i := 117) rfl)), _, rfl, (List.mem_append_left _ (List.mem_of_getElem? (i := 17) rfl))⟩
theorem l_Gr_109 : cx_LV "CircuitText$Grammar" 109 3 m_Me_declare := ⟨Or.inl (in_4 (List.mem_of_getElem? (i := 127) rfl)), w_Me_declare, (in_4 (List.mem_of_getElem? (i := 128) rfl)), _, rfl, (in_4 (List.mem_of_getElem? (i := 129) rfl))⟩
theorem l_Gr_117 : cx_LV "CircuitText$Grammar" 117 7 m_To_plain := ⟨Or.inl (in_4 (List.mem_of_getElem? (i := 119) rfl)), w_To_plain, (in_4 (List.mem_of_getElem? (i := 120) rfl)), _, rfl, (in_4 (List.mem_of_getElem? (i := 121) rfl))⟩
theorem l_Gr_120 : cx_LV "CircuitText$Grammar" 120 3 m_Me_rangeWidth := ⟨Or.inl (in_4 (List.mem_of_getElem? (i := 123) rfl)), w_Me_rangeWidth, (in_4 (List.mem_of_getElem? (i := 124) rfl)), _, rfl, (in_4 (List.mem_of_getElem? (i := 125) rfl))⟩
theorem l_Gr_113 : cx_LV "CircuitText$Grammar" 113 3 m_Me_begin := ⟨Or.inl (in_5 (List.mem_of_getElem? (i := 8) rfl)), w_Me_begin, (in_5 (List.mem_of_getElem? (i := 9) rfl)), _, rfl, (in_5 (List.mem_of_getElem? (i := 10) rfl))⟩
theorem l_Gr_127 : cx_LV "CircuitText$Grammar" 127 3 m_Me_assigned := ⟨Or.inl (in_5 (List.mem_of_getElem? (i := 25) rfl)), w_Me_assigned, (in_5 (List.mem_of_getElem? (i := 26) rfl)), _, rfl, (in_5 (List.mem_of_getElem? (i := 27) rfl))⟩
theorem l_Gr_131 : cx_LV "CircuitText$Grammar" 131 3 m_Me_widthOf := ⟨Or.inl (in_5 (List.mem_of_getElem? (i := 37) rfl)), w_Me_widthOf, (in_5 (List.mem_of_getElem? (i := 38) rfl)), _, rfl, (in_5 (List.mem_of_getElem? (i := 39) rfl))⟩
theorem l_Gr_135 : cx_LV "CircuitText$Grammar" 135 1 m_Gr_expression := ⟨Or.inl (in_5 (List.mem_of_getElem? (i := 41) rfl)), w_Gr_expression, (in_5 (List.mem_of_getElem? (i := 43) rfl)), _, rfl, (List.mem_append_left _ (List.mem_of_getElem? (i := 26) rfl))⟩
theorem l_Gr_138 : cx_LV "CircuitText$Grammar" 138 9 m_Ve_check := ⟨Or.inl (in_5 (List.mem_of_getElem? (i := 75) rfl)), w_Ve_check, (in_4 (List.mem_of_getElem? (i := 100) rfl)), _, rfl, (in_4 (List.mem_of_getElem? (i := 101) rfl))⟩
theorem l_Gr_196 : cx_LV "CircuitText$Grammar" 196 1 m_Gr_operand := ⟨Or.inl (in_5 (List.mem_of_getElem? (i := 45) rfl)), w_Gr_operand, (in_5 (List.mem_of_getElem? (i := 47) rfl)), _, rfl, (List.mem_append_left _ (List.mem_of_getElem? (i := 27) rfl))⟩
theorem l_Gr_199 : cx_LS "CircuitText$Grammar" 199 m_Gr_rankOf := ⟨Or.inl (in_5 (List.mem_of_getElem? (i := 81) rfl)), w_Gr_rankOf, (in_5 (List.mem_of_getElem? (i := 82) rfl)), (in_1 (List.mem_of_getElem? (i := 26) rfl))⟩
theorem l_Gr_211 : cx_LV "CircuitText$Grammar" 211 3 m_Me_binary := ⟨Or.inl (in_5 (List.mem_of_getElem? (i := 84) rfl)), w_Me_binary, (in_5 (List.mem_of_getElem? (i := 85) rfl)), _, rfl, (in_5 (List.mem_of_getElem? (i := 86) rfl))⟩
theorem l_Gr_218 : cx_LI "CircuitText$Grammar" 218 m_Pe_init := ⟨Or.inl (in_5 (List.mem_of_getElem? (i := 92) rfl)), w_Pe_init, (in_5 (List.mem_of_getElem? (i := 93) rfl)), rfl, rfl, rfl, (in_5 (List.mem_of_getElem? (i := 94) rfl))⟩
theorem l_Gr_221 : cx_LV "CircuitText$Grammar" 221 1 m_Gr_conditional := ⟨Or.inl (in_5 (List.mem_of_getElem? (i := 109) rfl)), w_Gr_conditional, (in_5 (List.mem_of_getElem? (i := 111) rfl)), _, rfl, (List.mem_append_left _ (List.mem_of_getElem? (i := 31) rfl))⟩
theorem l_Gr_227 : cx_LS "CircuitText$Grammar" 227 m_Gr_isUnary := ⟨Or.inl (in_5 (List.mem_of_getElem? (i := 49) rfl)), w_Gr_isUnary, (in_5 (List.mem_of_getElem? (i := 50) rfl)), (in_1 (List.mem_of_getElem? (i := 26) rfl))⟩
theorem l_Gr_231 : cx_LS "CircuitText$Grammar" 231 m_Gr_isReducing := ⟨Or.inl (in_5 (List.mem_of_getElem? (i := 52) rfl)), w_Gr_isReducing, (in_5 (List.mem_of_getElem? (i := 53) rfl)), (in_1 (List.mem_of_getElem? (i := 26) rfl))⟩
theorem l_Gr_235 : cx_LV "CircuitText$Grammar" 235 1 m_Gr_braces := ⟨Or.inl (in_5 (List.mem_of_getElem? (i := 55) rfl)), w_Gr_braces, (in_5 (List.mem_of_getElem? (i := 57) rfl)), _, rfl, (List.mem_append_left _ (List.mem_of_getElem? (i := 28) rfl))⟩
theorem l_Gr_238 : cx_LV "CircuitText$Grammar" 238 1 m_Gr_named := ⟨Or.inl (in_5 (List.mem_of_getElem? (i := 63) rfl)), w_Gr_named, (in_5 (List.mem_of_getElem? (i := 65) rfl)), _, rfl, (List.mem_append_left _ (List.mem_of_getElem? (i := 29) rfl))⟩
theorem l_Gr_148 : cx_LV "CircuitText$Grammar" 148 3 m_Me_spend := ⟨Or.inl (in_5 (List.mem_of_getElem? (i := 77) rfl)), w_Me_spend, (in_5 (List.mem_of_getElem? (i := 78) rfl)), _, rfl, (in_5 (List.mem_of_getElem? (i := 79) rfl))⟩
theorem l_Gr_250 : cx_LV "CircuitText$Grammar" 250 3 m_Me_bracesWidth := ⟨Or.inl (in_5 (List.mem_of_getElem? (i := 59) rfl)), w_Me_bracesWidth, (in_5 (List.mem_of_getElem? (i := 60) rfl)), _, rfl, (in_5 (List.mem_of_getElem? (i := 61) rfl))⟩
theorem l_Gr_241 : cx_LV "CircuitText$Grammar" 241 3 m_Me_used := ⟨Or.inl (in_5 (List.mem_of_getElem? (i := 67) rfl)), w_Me_used, (in_5 (List.mem_of_getElem? (i := 68) rfl)), _, rfl, (in_5 (List.mem_of_getElem? (i := 69) rfl))⟩
theorem l_Gr_192 : cx_LV "CircuitText$Grammar" 192 1 m_Gr_part := ⟨Or.inl (in_5 (List.mem_of_getElem? (i := 71) rfl)), w_Gr_part, (in_5 (List.mem_of_getElem? (i := 73) rfl)), _, rfl, (List.mem_append_left _ (List.mem_of_getElem? (i := 30) rfl))⟩
theorem l_Gr_224 : cx_LV "CircuitText$Grammar" 224 3 m_Me_conditional := ⟨Or.inl (in_5 (List.mem_of_getElem? (i := 113) rfl)), w_Me_conditional, (in_5 (List.mem_of_getElem? (i := 114) rfl)), _, rfl, (in_5 (List.mem_of_getElem? (i := 115) rfl))⟩
theorem l_Gr_173 : cx_LV "CircuitText$Grammar" 173 1 m_Gr_block := ⟨Or.inl (in_5 (List.mem_of_getElem? (i := 125) rfl)), w_Gr_block, (in_5 (List.mem_of_getElem? (i := 127) rfl)), _, rfl, (List.mem_append_left _ (List.mem_of_getElem? (i := 34) rfl))⟩
theorem l_Gr_176 : cx_LV "CircuitText$Grammar" 176 1 m_Gr_choice := ⟨Or.inl (in_5 (List.mem_of_getElem? (i := 129) rfl)), w_Gr_choice, (in_5 (List.mem_of_getElem? (i := 131) rfl)), _, rfl, (List.mem_append_left _ (List.mem_of_getElem? (i := 35) rfl))⟩
theorem l_Gr_179 : cx_LV "CircuitText$Grammar" 179 1 m_Gr_cases := ⟨Or.inl (in_5 (List.mem_of_getElem? (i := 133) rfl)), w_Gr_cases, (in_5 (List.mem_of_getElem? (i := 135) rfl)), _, rfl, (List.mem_append_left _ (List.mem_of_getElem? (i := 36) rfl))⟩
theorem l_Gr_182 : cx_LV "CircuitText$Grammar" 182 1 m_Gr_setting := ⟨Or.inl (in_5 (List.mem_of_getElem? (i := 141) rfl)), w_Gr_setting, (in_5 (List.mem_of_getElem? (i := 143) rfl)), _, rfl, (List.mem_append_left _ (List.mem_of_getElem? (i := 37) rfl))⟩
theorem l_Gr_185 : cx_LV "CircuitText$Grammar" 185 3 m_Me_caseValue := ⟨Or.inl (in_5 (List.mem_of_getElem? (i := 137) rfl)), w_Me_caseValue, (in_5 (List.mem_of_getElem? (i := 138) rfl)), _, rfl, (in_5 (List.mem_of_getElem? (i := 139) rfl))⟩
theorem l_Gr_189 : cx_LV "CircuitText$Grammar" 189 3 m_Me_setRegister := ⟨Or.inl (in_5 (List.mem_of_getElem? (i := 145) rfl)), w_Me_setRegister, (in_5 (List.mem_of_getElem? (i := 146) rfl)), _, rfl, (in_5 (List.mem_of_getElem? (i := 147) rfl))⟩
theorem l_Gr_151 : cx_LV "CircuitText$Grammar" 151 3 m_Me_instanced := ⟨Or.inl (in_5 (List.mem_of_getElem? (i := 161) rfl)), w_Me_instanced, (in_5 (List.mem_of_getElem? (i := 162) rfl)), _, rfl, (in_5 (List.mem_of_getElem? (i := 163) rfl))⟩
theorem l_Gr_155 : cx_LV "CircuitText$Grammar" 155 3 m_Me_declareInstance := ⟨Or.inl (in_5 (List.mem_of_getElem? (i := 165) rfl)), w_Me_declareInstance, (in_5 (List.mem_of_getElem? (i := 166) rfl)), _, rfl, (in_5 (List.mem_of_getElem? (i := 167) rfl))⟩
theorem l_Gr_159 : cx_LV "CircuitText$Grammar" 159 1 m_Gr_link := ⟨Or.inl (in_5 (List.mem_of_getElem? (i := 170) rfl)), w_Gr_link, (in_5 (List.mem_of_getElem? (i := 172) rfl)), _, rfl, (List.mem_append_left _ (List.mem_of_getElem? (i := 40) rfl))⟩
theorem l_Gr_163 : cx_LV "CircuitText$Grammar" 163 3 m_Me_finishInstance := ⟨Or.inl (in_5 (List.mem_of_getElem? (i := 204) rfl)), w_Me_finishInstance, (in_5 (List.mem_of_getElem? (i := 205) rfl)), _, rfl, (in_5 (List.mem_of_getElem? (i := 206) rfl))⟩
theorem l_Gr_166 : cx_LV "CircuitText$Grammar" 166 3 m_Me_linkedPort := ⟨Or.inl (in_5 (List.mem_of_getElem? (i := 174) rfl)), w_Me_linkedPort, (in_5 (List.mem_of_getElem? (i := 175) rfl)), _, rfl, (in_5 (List.mem_of_getElem? (i := 176) rfl))⟩
theorem l_Gr_170 : cx_LV "CircuitText$Grammar" 170 3 m_Me_link := ⟨Or.inl (in_5 (List.mem_of_getElem? (i := 196) rfl)), w_Me_link, (in_5 (List.mem_of_getElem? (i := 197) rfl)), _, rfl, (in_5 (List.mem_of_getElem? (i := 198) rfl))⟩

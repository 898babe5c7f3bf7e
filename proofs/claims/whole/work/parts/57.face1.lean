/-! THE FACE: what the class tells. -/
abbrev m_CT_init : cx_M := (⟨"CircuitText", "<init>", "()V"⟩, prog_1_method_1_code, 1, (Option.none : Option Jvm.ClassFile.FieldType), [], [false])
theorem w_CT_init : cx_W m_CT_init := ⟨Or.inl ⟨(in_1 (List.mem_of_getElem? (i := 41) rfl)), rfl⟩, by decide +kernel, by decide, by decide, by decide +kernel⟩
theorem n_CT_init : (parseMethodDescriptor m_CT_init.1.desc).map (fun d => d.parameters.length) = some 0 := by decide +kernel
theorem d_CT_init_0 : decode prog_1_method_1_code 0 = .ok (.aload_n 0, 1) := by decide +kernel
theorem d_CT_init_1 : decode prog_1_method_1_code 1 = .ok (.invokespecial 1, 3) := by decide +kernel
theorem d_CT_init_4 : decode prog_1_method_1_code 4 = .ok (.aload_n 0, 1) := by decide +kernel
theorem d_CT_init_5 : decode prog_1_method_1_code 5 = .ok (.new 7, 3) := by decide +kernel
theorem d_CT_init_8 : decode prog_1_method_1_code 8 = .ok (.dup, 1) := by decide +kernel
theorem d_CT_init_9 : decode prog_1_method_1_code 9 = .ok (.invokespecial 9, 3) := by decide +kernel
theorem d_CT_init_12 : decode prog_1_method_1_code 12 = .ok (.putfield 10, 3) := by decide +kernel
theorem d_CT_init_15 : decode prog_1_method_1_code 15 = .ok (.aload_n 0, 1) := by decide +kernel
theorem d_CT_init_16 : decode prog_1_method_1_code 16 = .ok (.new 16, 3) := by decide +kernel
theorem d_CT_init_19 : decode prog_1_method_1_code 19 = .ok (.dup, 1) := by decide +kernel
theorem d_CT_init_20 : decode prog_1_method_1_code 20 = .ok (.invokespecial 18, 3) := by decide +kernel
theorem d_CT_init_23 : decode prog_1_method_1_code 23 = .ok (.putfield 19, 3) := by decide +kernel
theorem d_CT_init_26 : decode prog_1_method_1_code 26 = .ok (.aload_n 0, 1) := by decide +kernel
theorem d_CT_init_27 : decode prog_1_method_1_code 27 = .ok (.iconst 0, 1) := by decide +kernel
theorem d_CT_init_28 : decode prog_1_method_1_code 28 = .ok (.putfield 23, 3) := by decide +kernel
theorem d_CT_init_31 : decode prog_1_method_1_code 31 = .ok (.return_, 1) := by decide +kernel
theorem z_CT_7 : cx_N "CircuitText" 7 6 [.null, .int 0] := ⟨_, F_Ta, t_Ta, k_Ta, (in_1 (List.mem_of_getElem? (i := 45) rfl)), (in_1 (List.mem_of_getElem? (i := 46) rfl)), (in_1 (List.mem_of_getElem? (i := 2) rfl)), fun j hj => by rcases (show j = 0 ∨ j = 1 by have : j < 2 := hj; omega) with rfl | rfl <;> rfl⟩
theorem f_CT_10 : cx_F "CircuitText" 10 0 0 (.object "CircuitText$Tape") true := ⟨_, F_CT, 3, t_CT, k_CT, by decide, rfl, rfl, Or.inl (in_1 (List.mem_of_getElem? (i := 87) rfl))⟩
theorem ff_CT_10 : cx_FF "CircuitText" 10 0 0 (.object "CircuitText$Tape") := ⟨_, F_CT, 3, t_CT, k_CT, by decide, rfl, rfl, rfl, (in_1 (List.mem_of_getElem? (i := 87) rfl))⟩
theorem z_CT_16 : cx_N "CircuitText" 16 13 [.null, .int 0, .int 0] := ⟨_, F_AL, t_AL, k_AL, (in_1 (List.mem_of_getElem? (i := 61) rfl)), (in_1 (List.mem_of_getElem? (i := 62) rfl)), (in_1 (List.mem_of_getElem? (i := 5) rfl)), fun j hj => by rcases (show j = 0 ∨ j = 1 ∨ j = 2 by have : j < 3 := hj; omega) with rfl | rfl | rfl <;> rfl⟩
theorem f_CT_19 : cx_F "CircuitText" 19 0 1 (.object "java/util/ArrayList") false := ⟨_, F_CT, 3, t_CT, k_CT, by decide, rfl, rfl, Or.inl (in_1 (List.mem_of_getElem? (i := 88) rfl))⟩
theorem f_CT_23 : cx_F "CircuitText" 23 0 2 (.int) false := ⟨_, F_CT, 3, t_CT, k_CT, by decide, rfl, rfl, Or.inl (in_1 (List.mem_of_getElem? (i := 89) rfl))⟩
abbrev m_CT_feed : cx_M := (⟨"CircuitText", "feed", "(IIIII)I"⟩, prog_1_method_2_code, 6, (Option.some Jvm.ClassFile.FieldType.int), [], [false, false, false, false, false, false])
theorem w_CT_feed : cx_W m_CT_feed := ⟨Or.inl ⟨(in_5 (List.mem_of_getElem? (i := 229) rfl)), rfl⟩, by decide +kernel, by decide, by decide, by decide +kernel⟩
theorem n_CT_feed : (parseMethodDescriptor m_CT_feed.1.desc).map (fun d => d.parameters.length) = some 5 := by decide +kernel
theorem d_CT_feed_0 : decode prog_1_method_2_code 0 = .ok (.aload_n 0, 1) := by decide +kernel
theorem d_CT_feed_1 : decode prog_1_method_2_code 1 = .ok (.getfield 10, 3) := by decide +kernel
theorem d_CT_feed_4 : decode prog_1_method_2_code 4 = .ok (.getfield 27, 3) := by decide +kernel
theorem d_CT_feed_7 : decode prog_1_method_2_code 7 = .ok (.bipush 20, 2) := by decide +kernel
theorem d_CT_feed_9 : decode prog_1_method_2_code 9 = .ok (.iadd, 1) := by decide +kernel
theorem d_CT_feed_10 : decode prog_1_method_2_code 10 = .ok (.ldc 30, 2) := by decide +kernel
theorem d_CT_feed_12 : decode prog_1_method_2_code 12 = .ok (.if_icmp .le 13, 3) := by decide +kernel
theorem d_CT_feed_15 : decode prog_1_method_2_code 15 = .ok (.new 31, 3) := by decide +kernel
theorem d_CT_feed_18 : decode prog_1_method_2_code 18 = .ok (.dup, 1) := by decide +kernel
theorem d_CT_feed_19 : decode prog_1_method_2_code 19 = .ok (.ldc 33, 2) := by decide +kernel
theorem d_CT_feed_21 : decode prog_1_method_2_code 21 = .ok (.invokespecial 35, 3) := by decide +kernel
theorem d_CT_feed_24 : decode prog_1_method_2_code 24 = .ok (.athrow, 1) := by decide +kernel
theorem d_CT_feed_25 : decode prog_1_method_2_code 25 = .ok (.aload_n 0, 1) := by decide +kernel
theorem d_CT_feed_26 : decode prog_1_method_2_code 26 = .ok (.getfield 10, 3) := by decide +kernel
theorem d_CT_feed_29 : decode prog_1_method_2_code 29 = .ok (.iload_n 1, 1) := by decide +kernel
theorem d_CT_feed_30 : decode prog_1_method_2_code 30 = .ok (.invokevirtual 38, 3) := by decide +kernel
theorem d_CT_feed_33 : decode prog_1_method_2_code 33 = .ok (.aload_n 0, 1) := by decide +kernel
theorem d_CT_feed_34 : decode prog_1_method_2_code 34 = .ok (.getfield 10, 3) := by decide +kernel
theorem d_CT_feed_37 : decode prog_1_method_2_code 37 = .ok (.iload_n 2, 1) := by decide +kernel
theorem d_CT_feed_38 : decode prog_1_method_2_code 38 = .ok (.invokevirtual 38, 3) := by decide +kernel
theorem d_CT_feed_41 : decode prog_1_method_2_code 41 = .ok (.aload_n 0, 1) := by decide +kernel
theorem d_CT_feed_42 : decode prog_1_method_2_code 42 = .ok (.getfield 10, 3) := by decide +kernel
theorem d_CT_feed_45 : decode prog_1_method_2_code 45 = .ok (.iload_n 3, 1) := by decide +kernel
theorem d_CT_feed_46 : decode prog_1_method_2_code 46 = .ok (.invokevirtual 38, 3) := by decide +kernel
theorem d_CT_feed_49 : decode prog_1_method_2_code 49 = .ok (.aload_n 0, 1) := by decide +kernel
theorem d_CT_feed_50 : decode prog_1_method_2_code 50 = .ok (.getfield 10, 3) := by decide +kernel
theorem d_CT_feed_53 : decode prog_1_method_2_code 53 = .ok (.iload 4, 2) := by decide +kernel
theorem d_CT_feed_55 : decode prog_1_method_2_code 55 = .ok (.invokevirtual 38, 3) := by decide +kernel
theorem d_CT_feed_58 : decode prog_1_method_2_code 58 = .ok (.aload_n 0, 1) := by decide +kernel
theorem d_CT_feed_59 : decode prog_1_method_2_code 59 = .ok (.getfield 10, 3) := by decide +kernel
theorem d_CT_feed_62 : decode prog_1_method_2_code 62 = .ok (.iload 5, 2) := by decide +kernel
theorem d_CT_feed_64 : decode prog_1_method_2_code 64 = .ok (.invokevirtual 38, 3) := by decide +kernel
theorem d_CT_feed_67 : decode prog_1_method_2_code 67 = .ok (.aload_n 0, 1) := by decide +kernel
theorem d_CT_feed_68 : decode prog_1_method_2_code 68 = .ok (.getfield 10, 3) := by decide +kernel
theorem d_CT_feed_71 : decode prog_1_method_2_code 71 = .ok (.getfield 27, 3) := by decide +kernel
theorem d_CT_feed_74 : decode prog_1_method_2_code 74 = .ok (.ireturn, 1) := by decide +kernel
theorem f_CT_27 : cx_F "CircuitText" 27 6 1 (.int) false := ⟨_, F_Ta, 2, t_Ta, k_Ta, by decide, rfl, rfl, Or.inr ⟨"CircuitText", (in_1 (List.mem_of_getElem? (i := 53) rfl))⟩⟩
theorem z_CT_31 : cx_N "CircuitText" 31 17 [.null, .null, .null, .null, .null, .int 0] := ⟨_, F_UOE, t_UOE, k_UOE, (in_5 (List.mem_of_getElem? (i := 231) rfl)), (in_5 (List.mem_of_getElem? (i := 232) rfl)), (in_1 (List.mem_of_getElem? (i := 10) rfl)), fun j hj => by rcases (show j = 0 ∨ j = 1 ∨ j = 2 ∨ j = 3 ∨ j = 4 ∨ j = 5 by have : j < 6 := hj; omega) with rfl | rfl | rfl | rfl | rfl | rfl <;> rfl⟩
abbrev m_CT_end : cx_M := (⟨"CircuitText", "end", "(I)V"⟩, prog_1_method_3_code, 2, (Option.none : Option Jvm.ClassFile.FieldType), [], [false, false])
theorem w_CT_end : cx_W m_CT_end := ⟨Or.inl ⟨(in_6 (List.mem_of_getElem? (i := 19) rfl)), rfl⟩, by decide +kernel, by decide, by decide, by decide +kernel⟩
theorem n_CT_end : (parseMethodDescriptor m_CT_end.1.desc).map (fun d => d.parameters.length) = some 1 := by decide +kernel
theorem d_CT_end_0 : decode prog_1_method_3_code 0 = .ok (.iload_n 1, 1) := by decide +kernel
theorem d_CT_end_1 : decode prog_1_method_3_code 1 = .ok (.ifCond .lt 14, 3) := by decide +kernel
theorem d_CT_end_4 : decode prog_1_method_3_code 4 = .ok (.iload_n 1, 1) := by decide +kernel
theorem d_CT_end_5 : decode prog_1_method_3_code 5 = .ok (.aload_n 0, 1) := by decide +kernel
theorem d_CT_end_6 : decode prog_1_method_3_code 6 = .ok (.getfield 10, 3) := by decide +kernel
theorem d_CT_end_9 : decode prog_1_method_3_code 9 = .ok (.getfield 27, 3) := by decide +kernel
theorem d_CT_end_12 : decode prog_1_method_3_code 12 = .ok (.if_icmp .le 13, 3) := by decide +kernel
theorem d_CT_end_15 : decode prog_1_method_3_code 15 = .ok (.new 42, 3) := by decide +kernel
theorem d_CT_end_18 : decode prog_1_method_3_code 18 = .ok (.dup, 1) := by decide +kernel
theorem d_CT_end_19 : decode prog_1_method_3_code 19 = .ok (.ldc 44, 2) := by decide +kernel
theorem d_CT_end_21 : decode prog_1_method_3_code 21 = .ok (.invokespecial 46, 3) := by decide +kernel
theorem d_CT_end_24 : decode prog_1_method_3_code 24 = .ok (.athrow, 1) := by decide +kernel
theorem d_CT_end_25 : decode prog_1_method_3_code 25 = .ok (.aload_n 0, 1) := by decide +kernel
theorem d_CT_end_26 : decode prog_1_method_3_code 26 = .ok (.getfield 10, 3) := by decide +kernel
theorem d_CT_end_29 : decode prog_1_method_3_code 29 = .ok (.iload_n 1, 1) := by decide +kernel
theorem d_CT_end_30 : decode prog_1_method_3_code 30 = .ok (.putfield 27, 3) := by decide +kernel
theorem d_CT_end_33 : decode prog_1_method_3_code 33 = .ok (.return_, 1) := by decide +kernel
theorem z_CT_42 : cx_N "CircuitText" 42 15 [.null, .null, .null, .null, .null, .int 0] := ⟨_, F_IAE, t_IAE, k_IAE, (in_6 (List.mem_of_getElem? (i := 20) rfl)), (in_2 (List.mem_of_getElem? (i := 202) rfl)), (in_1 (List.mem_of_getElem? (i := 14) rfl)), fun j hj => by rcases (show j = 0 ∨ j = 1 ∨ j = 2 ∨ j = 3 ∨ j = 4 ∨ j = 5 by have : j < 6 := hj; omega) with rfl | rfl | rfl | rfl | rfl | rfl <;> rfl⟩
abbrev m_CT_fault : cx_M := (⟨"CircuitText", "fault", "()I"⟩, prog_1_method_5_code, 1, (Option.some Jvm.ClassFile.FieldType.int), [], [false])
theorem w_CT_fault : cx_W m_CT_fault := ⟨Or.inl ⟨(in_5 (List.mem_of_getElem? (i := 216) rfl)), rfl⟩, by decide +kernel, by decide, by decide, by decide +kernel⟩
theorem n_CT_fault : (parseMethodDescriptor m_CT_fault.1.desc).map (fun d => d.parameters.length) = some 0 := by decide +kernel
theorem d_CT_fault_0 : decode prog_1_method_5_code 0 = .ok (.aload_n 0, 1) := by decide +kernel
theorem d_CT_fault_1 : decode prog_1_method_5_code 1 = .ok (.getfield 23, 3) := by decide +kernel
theorem d_CT_fault_4 : decode prog_1_method_5_code 4 = .ok (.ireturn, 1) := by decide +kernel
abbrev m_CT_count : cx_M := (⟨"CircuitText", "count", "()I"⟩, prog_1_method_6_code, 1, (Option.some Jvm.ClassFile.FieldType.int), [], [false])
theorem w_CT_count : cx_W m_CT_count := ⟨Or.inl ⟨(in_5 (List.mem_of_getElem? (i := 220) rfl)), rfl⟩, by decide +kernel, by decide, by decide, by decide +kernel⟩
theorem n_CT_count : (parseMethodDescriptor m_CT_count.1.desc).map (fun d => d.parameters.length) = some 0 := by decide +kernel
theorem d_CT_count_0 : decode prog_1_method_6_code 0 = .ok (.aload_n 0, 1) := by decide +kernel
theorem d_CT_count_1 : decode prog_1_method_6_code 1 = .ok (.getfield 19, 3) := by decide +kernel
theorem d_CT_count_4 : decode prog_1_method_6_code 4 = .ok (.invokevirtual 81, 3) := by decide +kernel
theorem d_CT_count_7 : decode prog_1_method_6_code 7 = .ok (.ireturn, 1) := by decide +kernel
abbrev m_CT_unitAt : cx_M := (⟨"CircuitText", "unitAt", "(I)LCircuitText$Unit;"⟩, prog_1_method_11_code, 2, (Option.some (Jvm.ClassFile.FieldType.object "CircuitText$Unit")), [], [false, false])
theorem w_CT_unitAt : cx_W m_CT_unitAt := ⟨Or.inl ⟨(in_6 (List.mem_of_getElem? (i := 34) rfl)), rfl⟩, by decide +kernel, by decide, by decide, by decide +kernel⟩
theorem n_CT_unitAt : (parseMethodDescriptor m_CT_unitAt.1.desc).map (fun d => d.parameters.length) = some 1 := by decide +kernel
theorem d_CT_unitAt_0 : decode prog_1_method_11_code 0 = .ok (.iload_n 1, 1) := by decide +kernel
theorem d_CT_unitAt_1 : decode prog_1_method_11_code 1 = .ok (.ifCond .lt 28, 3) := by decide +kernel
theorem d_CT_unitAt_4 : decode prog_1_method_11_code 4 = .ok (.iload_n 1, 1) := by decide +kernel
theorem d_CT_unitAt_5 : decode prog_1_method_11_code 5 = .ok (.aload_n 0, 1) := by decide +kernel
theorem d_CT_unitAt_6 : decode prog_1_method_11_code 6 = .ok (.getfield 19, 3) := by decide +kernel
theorem d_CT_unitAt_9 : decode prog_1_method_11_code 9 = .ok (.invokevirtual 81, 3) := by decide +kernel
theorem d_CT_unitAt_12 : decode prog_1_method_11_code 12 = .ok (.if_icmp .ge 17, 3) := by decide +kernel
theorem d_CT_unitAt_15 : decode prog_1_method_11_code 15 = .ok (.aload_n 0, 1) := by decide +kernel
theorem d_CT_unitAt_16 : decode prog_1_method_11_code 16 = .ok (.getfield 19, 3) := by decide +kernel
theorem d_CT_unitAt_19 : decode prog_1_method_11_code 19 = .ok (.iload_n 1, 1) := by decide +kernel
theorem d_CT_unitAt_20 : decode prog_1_method_11_code 20 = .ok (.invokevirtual 148, 3) := by decide +kernel
theorem d_CT_unitAt_23 : decode prog_1_method_11_code 23 = .ok (.checkcast 95, 3) := by decide +kernel
theorem d_CT_unitAt_26 : decode prog_1_method_11_code 26 = .ok (.goto 4, 3) := by decide +kernel
theorem d_CT_unitAt_29 : decode prog_1_method_11_code 29 = .ok (.aconst_null, 1) := by decide +kernel
theorem d_CT_unitAt_30 : decode prog_1_method_11_code 30 = .ok (.areturn, 1) := by decide +kernel
abbrev m_CT_nameAt : cx_M := (⟨"CircuitText", "nameAt", "(II)LCircuitText$Name;"⟩, prog_1_method_12_code, 4, (Option.some (Jvm.ClassFile.FieldType.object "CircuitText$Name")), [], [false, false, false])
theorem w_CT_nameAt : cx_W m_CT_nameAt := ⟨Or.inl ⟨(in_6 (List.mem_of_getElem? (i := 64) rfl)), rfl⟩, by decide +kernel, by decide, by decide, by decide +kernel⟩
theorem n_CT_nameAt : (parseMethodDescriptor m_CT_nameAt.1.desc).map (fun d => d.parameters.length) = some 2 := by decide +kernel
theorem d_CT_nameAt_0 : decode prog_1_method_12_code 0 = .ok (.aload_n 0, 1) := by decide +kernel
theorem d_CT_nameAt_1 : decode prog_1_method_12_code 1 = .ok (.iload_n 1, 1) := by decide +kernel
theorem d_CT_nameAt_2 : decode prog_1_method_12_code 2 = .ok (.invokevirtual 85, 3) := by decide +kernel
theorem d_CT_nameAt_5 : decode prog_1_method_12_code 5 = .ok (.astore_n 3, 1) := by decide +kernel
theorem d_CT_nameAt_6 : decode prog_1_method_12_code 6 = .ok (.aload_n 3, 1) := by decide +kernel
theorem d_CT_nameAt_7 : decode prog_1_method_12_code 7 = .ok (.ifnull 32, 3) := by decide +kernel
theorem d_CT_nameAt_10 : decode prog_1_method_12_code 10 = .ok (.iload_n 2, 1) := by decide +kernel
theorem d_CT_nameAt_11 : decode prog_1_method_12_code 11 = .ok (.ifCond .lt 28, 3) := by decide +kernel
theorem d_CT_nameAt_14 : decode prog_1_method_12_code 14 = .ok (.iload_n 2, 1) := by decide +kernel
theorem d_CT_nameAt_15 : decode prog_1_method_12_code 15 = .ok (.aload_n 3, 1) := by decide +kernel
theorem d_CT_nameAt_16 : decode prog_1_method_12_code 16 = .ok (.getfield 99, 3) := by decide +kernel
theorem d_CT_nameAt_19 : decode prog_1_method_12_code 19 = .ok (.invokevirtual 81, 3) := by decide +kernel
theorem d_CT_nameAt_22 : decode prog_1_method_12_code 22 = .ok (.if_icmp .ge 17, 3) := by decide +kernel
theorem d_CT_nameAt_25 : decode prog_1_method_12_code 25 = .ok (.aload_n 3, 1) := by decide +kernel
theorem d_CT_nameAt_26 : decode prog_1_method_12_code 26 = .ok (.getfield 99, 3) := by decide +kernel
theorem d_CT_nameAt_29 : decode prog_1_method_12_code 29 = .ok (.iload_n 2, 1) := by decide +kernel
theorem d_CT_nameAt_30 : decode prog_1_method_12_code 30 = .ok (.invokevirtual 148, 3) := by decide +kernel
theorem d_CT_nameAt_33 : decode prog_1_method_12_code 33 = .ok (.checkcast 127, 3) := by decide +kernel
theorem d_CT_nameAt_36 : decode prog_1_method_12_code 36 = .ok (.goto 4, 3) := by decide +kernel
theorem d_CT_nameAt_39 : decode prog_1_method_12_code 39 = .ok (.aconst_null, 1) := by decide +kernel
theorem d_CT_nameAt_40 : decode prog_1_method_12_code 40 = .ok (.areturn, 1) := by decide +kernel
theorem f_CT_99 : cx_F "CircuitText" 99 8 3 (.object "java/util/ArrayList") true := ⟨_, F_Un, 10, t_Un, k_Un, by decide, rfl, rfl, Or.inr ⟨"CircuitText", (in_1 (List.mem_of_getElem? (i := 190) rfl))⟩⟩
abbrev m_CT_module : cx_M := (⟨"CircuitText", "module", "(II)I"⟩, prog_1_method_7_code, 4, (Option.some Jvm.ClassFile.FieldType.int), [], [false, false, false])
theorem w_CT_module : cx_W m_CT_module := ⟨Or.inl ⟨(in_6 (List.mem_of_getElem? (i := 30) rfl)), rfl⟩, by decide +kernel, by decide, by decide, by decide +kernel⟩
theorem n_CT_module : (parseMethodDescriptor m_CT_module.1.desc).map (fun d => d.parameters.length) = some 2 := by decide +kernel
theorem d_CT_module_0 : decode prog_1_method_7_code 0 = .ok (.aload_n 0, 1) := by decide +kernel
theorem d_CT_module_1 : decode prog_1_method_7_code 1 = .ok (.iload_n 1, 1) := by decide +kernel
theorem d_CT_module_2 : decode prog_1_method_7_code 2 = .ok (.invokevirtual 85, 3) := by decide +kernel
theorem d_CT_module_5 : decode prog_1_method_7_code 5 = .ok (.astore_n 3, 1) := by decide +kernel
theorem d_CT_module_6 : decode prog_1_method_7_code 6 = .ok (.aload_n 3, 1) := by decide +kernel
theorem d_CT_module_7 : decode prog_1_method_7_code 7 = .ok (.ifnonnull 13, 3) := by decide +kernel
theorem d_CT_module_10 : decode prog_1_method_7_code 10 = .ok (.new 89, 3) := by decide +kernel
theorem d_CT_module_13 : decode prog_1_method_7_code 13 = .ok (.dup, 1) := by decide +kernel
theorem d_CT_module_14 : decode prog_1_method_7_code 14 = .ok (.ldc 91, 2) := by decide +kernel
theorem d_CT_module_16 : decode prog_1_method_7_code 16 = .ok (.invokespecial 93, 3) := by decide +kernel
theorem d_CT_module_19 : decode prog_1_method_7_code 19 = .ok (.athrow, 1) := by decide +kernel
theorem d_CT_module_20 : decode prog_1_method_7_code 20 = .ok (.iload_n 2, 1) := by decide +kernel
theorem d_CT_module_21 : decode prog_1_method_7_code 21 = .ok (.tableswitch 90 0 7 #[47, 52, 60, 65, 70, 75, 80, 85], 47) := by decide +kernel
theorem d_CT_module_68 : decode prog_1_method_7_code 68 = .ok (.aload_n 3, 1) := by decide +kernel
theorem d_CT_module_69 : decode prog_1_method_7_code 69 = .ok (.getfield 94, 3) := by decide +kernel
theorem d_CT_module_72 : decode prog_1_method_7_code 72 = .ok (.ireturn, 1) := by decide +kernel
theorem d_CT_module_73 : decode prog_1_method_7_code 73 = .ok (.aload_n 3, 1) := by decide +kernel
theorem d_CT_module_74 : decode prog_1_method_7_code 74 = .ok (.getfield 99, 3) := by decide +kernel
theorem d_CT_module_77 : decode prog_1_method_7_code 77 = .ok (.invokevirtual 81, 3) := by decide +kernel
theorem d_CT_module_80 : decode prog_1_method_7_code 80 = .ok (.ireturn, 1) := by decide +kernel
theorem d_CT_module_81 : decode prog_1_method_7_code 81 = .ok (.aload_n 3, 1) := by decide +kernel
theorem d_CT_module_82 : decode prog_1_method_7_code 82 = .ok (.getfield 102, 3) := by decide +kernel
theorem d_CT_module_85 : decode prog_1_method_7_code 85 = .ok (.ireturn, 1) := by decide +kernel
theorem d_CT_module_86 : decode prog_1_method_7_code 86 = .ok (.aload_n 3, 1) := by decide +kernel
theorem d_CT_module_87 : decode prog_1_method_7_code 87 = .ok (.getfield 105, 3) := by decide +kernel
theorem d_CT_module_90 : decode prog_1_method_7_code 90 = .ok (.ireturn, 1) := by decide +kernel
theorem d_CT_module_91 : decode prog_1_method_7_code 91 = .ok (.aload_n 3, 1) := by decide +kernel
theorem d_CT_module_92 : decode prog_1_method_7_code 92 = .ok (.getfield 108, 3) := by decide +kernel
theorem d_CT_module_95 : decode prog_1_method_7_code 95 = .ok (.ireturn, 1) := by decide +kernel
theorem d_CT_module_96 : decode prog_1_method_7_code 96 = .ok (.aload_n 3, 1) := by decide +kernel
theorem d_CT_module_97 : decode prog_1_method_7_code 97 = .ok (.getfield 111, 3) := by decide +kernel
theorem d_CT_module_100 : decode prog_1_method_7_code 100 = .ok (.ireturn, 1) := by decide +kernel
theorem d_CT_module_101 : decode prog_1_method_7_code 101 = .ok (.aload_n 3, 1) := by decide +kernel
theorem d_CT_module_102 : decode prog_1_method_7_code 102 = .ok (.getfield 114, 3) := by decide +kernel
theorem d_CT_module_105 : decode prog_1_method_7_code 105 = .ok (.ireturn, 1) := by decide +kernel
theorem d_CT_module_106 : decode prog_1_method_7_code 106 = .ok (.aload_n 3, 1) := by decide +kernel
theorem d_CT_module_107 : decode prog_1_method_7_code 107 = .ok (.getfield 117, 3) := by decide +kernel
theorem d_CT_module_110 : decode prog_1_method_7_code 110 = .ok (.ireturn, 1) := by decide +kernel
theorem d_CT_module_111 : decode prog_1_method_7_code 111 = .ok (.new 42, 3) := by decide +kernel
theorem d_CT_module_114 : decode prog_1_method_7_code 114 = .ok (.dup, 1) := by decide +kernel
theorem d_CT_module_115 : decode prog_1_method_7_code 115 = .ok (.ldc 118, 2) := by decide +kernel
theorem d_CT_module_117 : decode prog_1_method_7_code 117 = .ok (.invokespecial 46, 3) := by decide +kernel
theorem d_CT_module_120 : decode prog_1_method_7_code 120 = .ok (.athrow, 1) := by decide +kernel
theorem z_CT_89 : cx_N "CircuitText" 89 16 [.null, .null, .null, .null, .null, .int 0] := ⟨_, F_IOE, t_IOE, k_IOE, (in_6 (List.mem_of_getElem? (i := 37) rfl)), (in_6 (List.mem_of_getElem? (i := 38) rfl)), (in_1 (List.mem_of_getElem? (i := 36) rfl)), fun j hj => by rcases (show j = 0 ∨ j = 1 ∨ j = 2 ∨ j = 3 ∨ j = 4 ∨ j = 5 by have : j < 6 := hj; omega) with rfl | rfl | rfl | rfl | rfl | rfl <;> rfl⟩
theorem f_CT_94 : cx_F "CircuitText" 94 8 4 (.int) false := ⟨_, F_Un, 10, t_Un, k_Un, by decide, rfl, rfl, Or.inr ⟨"CircuitText", (in_1 (List.mem_of_getElem? (i := 193) rfl))⟩⟩
theorem f_CT_102 : cx_F "CircuitText" 102 8 5 (.int) false := ⟨_, F_Un, 10, t_Un, k_Un, by decide, rfl, rfl, Or.inr ⟨"CircuitText", (in_1 (List.mem_of_getElem? (i := 196) rfl))⟩⟩
theorem f_CT_105 : cx_F "CircuitText" 105 8 6 (.int) false := ⟨_, F_Un, 10, t_Un, k_Un, by decide, rfl, rfl, Or.inr ⟨"CircuitText", (in_1 (List.mem_of_getElem? (i := 199) rfl))⟩⟩
theorem f_CT_108 : cx_F "CircuitText" 108 8 7 (.int) false := ⟨_, F_Un, 10, t_Un, k_Un, by decide, rfl, rfl, Or.inr ⟨"CircuitText", (in_1 (List.mem_of_getElem? (i := 203) rfl))⟩⟩
theorem f_CT_111 : cx_F "CircuitText" 111 8 8 (.int) false := ⟨_, F_Un, 10, t_Un, k_Un, by decide, rfl, rfl, Or.inr ⟨"CircuitText", (in_1 (List.mem_of_getElem? (i := 206) rfl))⟩⟩
theorem f_CT_114 : cx_F "CircuitText" 114 8 9 (.int) false := ⟨_, F_Un, 10, t_Un, k_Un, by decide, rfl, rfl, Or.inr ⟨"CircuitText", (in_1 (List.mem_of_getElem? (i := 210) rfl))⟩⟩
theorem f_CT_117 : cx_F "CircuitText" 117 8 1 (.int) true := ⟨_, F_Un, 10, t_Un, k_Un, by decide, rfl, rfl, Or.inr ⟨"CircuitText", (in_1 (List.mem_of_getElem? (i := 185) rfl))⟩⟩
abbrev m_CT_declared : cx_M := (⟨"CircuitText", "declared", "(III)I"⟩, prog_1_method_8_code, 5, (Option.some Jvm.ClassFile.FieldType.int), [], [false, false, false, false])
theorem w_CT_declared : cx_W m_CT_declared := ⟨Or.inl ⟨(in_6 (List.mem_of_getElem? (i := 60) rfl)), rfl⟩, by decide +kernel, by decide, by decide, by decide +kernel⟩
theorem n_CT_declared : (parseMethodDescriptor m_CT_declared.1.desc).map (fun d => d.parameters.length) = some 3 := by decide +kernel
theorem d_CT_declared_0 : decode prog_1_method_8_code 0 = .ok (.aload_n 0, 1) := by decide +kernel
theorem d_CT_declared_1 : decode prog_1_method_8_code 1 = .ok (.iload_n 1, 1) := by decide +kernel
theorem d_CT_declared_2 : decode prog_1_method_8_code 2 = .ok (.iload_n 2, 1) := by decide +kernel
theorem d_CT_declared_3 : decode prog_1_method_8_code 3 = .ok (.invokevirtual 120, 3) := by decide +kernel
theorem d_CT_declared_6 : decode prog_1_method_8_code 6 = .ok (.astore 4, 2) := by decide +kernel
theorem d_CT_declared_8 : decode prog_1_method_8_code 8 = .ok (.aload 4, 2) := by decide +kernel
theorem d_CT_declared_10 : decode prog_1_method_8_code 10 = .ok (.ifnonnull 13, 3) := by decide +kernel
theorem d_CT_declared_13 : decode prog_1_method_8_code 13 = .ok (.new 89, 3) := by decide +kernel
theorem d_CT_declared_16 : decode prog_1_method_8_code 16 = .ok (.dup, 1) := by decide +kernel
theorem d_CT_declared_17 : decode prog_1_method_8_code 17 = .ok (.ldc 124, 2) := by decide +kernel
theorem d_CT_declared_19 : decode prog_1_method_8_code 19 = .ok (.invokespecial 93, 3) := by decide +kernel
theorem d_CT_declared_22 : decode prog_1_method_8_code 22 = .ok (.athrow, 1) := by decide +kernel
theorem d_CT_declared_23 : decode prog_1_method_8_code 23 = .ok (.iload_n 3, 1) := by decide +kernel
theorem d_CT_declared_24 : decode prog_1_method_8_code 24 = .ok (.tableswitch 71 0 3 #[32, 38, 44, 50], 32) := by decide +kernel
theorem d_CT_declared_56 : decode prog_1_method_8_code 56 = .ok (.aload 4, 2) := by decide +kernel
theorem d_CT_declared_58 : decode prog_1_method_8_code 58 = .ok (.getfield 126, 3) := by decide +kernel
theorem d_CT_declared_61 : decode prog_1_method_8_code 61 = .ok (.ireturn, 1) := by decide +kernel
theorem d_CT_declared_62 : decode prog_1_method_8_code 62 = .ok (.aload 4, 2) := by decide +kernel
theorem d_CT_declared_64 : decode prog_1_method_8_code 64 = .ok (.getfield 131, 3) := by decide +kernel
theorem d_CT_declared_67 : decode prog_1_method_8_code 67 = .ok (.ireturn, 1) := by decide +kernel
theorem d_CT_declared_68 : decode prog_1_method_8_code 68 = .ok (.aload 4, 2) := by decide +kernel
theorem d_CT_declared_70 : decode prog_1_method_8_code 70 = .ok (.getfield 134, 3) := by decide +kernel
theorem d_CT_declared_73 : decode prog_1_method_8_code 73 = .ok (.ireturn, 1) := by decide +kernel
theorem d_CT_declared_74 : decode prog_1_method_8_code 74 = .ok (.aload 4, 2) := by decide +kernel
theorem d_CT_declared_76 : decode prog_1_method_8_code 76 = .ok (.getfield 135, 3) := by decide +kernel
theorem d_CT_declared_79 : decode prog_1_method_8_code 79 = .ok (.ifnonnull 7, 3) := by decide +kernel
theorem d_CT_declared_82 : decode prog_1_method_8_code 82 = .ok (.iconst (-1), 1) := by decide +kernel
theorem d_CT_declared_83 : decode prog_1_method_8_code 83 = .ok (.goto 11, 3) := by decide +kernel
theorem d_CT_declared_86 : decode prog_1_method_8_code 86 = .ok (.aload 4, 2) := by decide +kernel
theorem d_CT_declared_88 : decode prog_1_method_8_code 88 = .ok (.getfield 135, 3) := by decide +kernel
theorem d_CT_declared_91 : decode prog_1_method_8_code 91 = .ok (.getfield 139, 3) := by decide +kernel
theorem d_CT_declared_94 : decode prog_1_method_8_code 94 = .ok (.ireturn, 1) := by decide +kernel
theorem d_CT_declared_95 : decode prog_1_method_8_code 95 = .ok (.new 42, 3) := by decide +kernel
theorem d_CT_declared_98 : decode prog_1_method_8_code 98 = .ok (.dup, 1) := by decide +kernel
theorem d_CT_declared_99 : decode prog_1_method_8_code 99 = .ok (.ldc 142, 2) := by decide +kernel
theorem d_CT_declared_101 : decode prog_1_method_8_code 101 = .ok (.invokespecial 46, 3) := by decide +kernel
theorem d_CT_declared_104 : decode prog_1_method_8_code 104 = .ok (.athrow, 1) := by decide +kernel
theorem f_CT_126 : cx_F "CircuitText" 126 4 2 (.int) true := ⟨_, F_Nm, 11, t_Nm, k_Nm, by decide, rfl, rfl, Or.inr ⟨"CircuitText", (in_4 (List.mem_of_getElem? (i := 143) rfl))⟩⟩
theorem f_CT_131 : cx_F "CircuitText" 131 4 3 (.int) true := ⟨_, F_Nm, 11, t_Nm, k_Nm, by decide, rfl, rfl, Or.inr ⟨"CircuitText", (in_4 (List.mem_of_getElem? (i := 147) rfl))⟩⟩
theorem f_CT_134 : cx_F "CircuitText" 134 4 4 (.int) true := ⟨_, F_Nm, 11, t_Nm, k_Nm, by decide, rfl, rfl, Or.inr ⟨"CircuitText", (in_4 (List.mem_of_getElem? (i := 150) rfl))⟩⟩
theorem f_CT_135 : cx_F "CircuitText" 135 4 8 (.object "CircuitText$Unit") false := ⟨_, F_Nm, 11, t_Nm, k_Nm, by decide, rfl, rfl, Or.inr ⟨"CircuitText", (in_4 (List.mem_of_getElem? (i := 159) rfl))⟩⟩
theorem f_CT_139 : cx_F "CircuitText" 139 8 2 (.int) true := ⟨_, F_Un, 10, t_Un, k_Un, by decide, rfl, rfl, Or.inr ⟨"CircuitText", (in_1 (List.mem_of_getElem? (i := 187) rfl))⟩⟩
abbrev m_CT_beginning : cx_M := (⟨"CircuitText", "beginning", "(II)J"⟩, prog_1_method_9_code, 4, (Option.some Jvm.ClassFile.FieldType.long), [], [false, false, false])
theorem w_CT_beginning : cx_W m_CT_beginning := ⟨Or.inl ⟨(in_6 (List.mem_of_getElem? (i := 74) rfl)), rfl⟩, by decide +kernel, by decide, by decide, by decide +kernel⟩
theorem n_CT_beginning : (parseMethodDescriptor m_CT_beginning.1.desc).map (fun d => d.parameters.length) = some 2 := by decide +kernel
theorem d_CT_beginning_0 : decode prog_1_method_9_code 0 = .ok (.aload_n 0, 1) := by decide +kernel
theorem d_CT_beginning_1 : decode prog_1_method_9_code 1 = .ok (.iload_n 1, 1) := by decide +kernel
theorem d_CT_beginning_2 : decode prog_1_method_9_code 2 = .ok (.iload_n 2, 1) := by decide +kernel
theorem d_CT_beginning_3 : decode prog_1_method_9_code 3 = .ok (.invokevirtual 120, 3) := by decide +kernel
theorem d_CT_beginning_6 : decode prog_1_method_9_code 6 = .ok (.astore_n 3, 1) := by decide +kernel
theorem d_CT_beginning_7 : decode prog_1_method_9_code 7 = .ok (.aload_n 3, 1) := by decide +kernel
theorem d_CT_beginning_8 : decode prog_1_method_9_code 8 = .ok (.ifnonnull 13, 3) := by decide +kernel
theorem d_CT_beginning_11 : decode prog_1_method_9_code 11 = .ok (.new 89, 3) := by decide +kernel
theorem d_CT_beginning_14 : decode prog_1_method_9_code 14 = .ok (.dup, 1) := by decide +kernel
theorem d_CT_beginning_15 : decode prog_1_method_9_code 15 = .ok (.ldc 124, 2) := by decide +kernel
theorem d_CT_beginning_17 : decode prog_1_method_9_code 17 = .ok (.invokespecial 93, 3) := by decide +kernel
theorem d_CT_beginning_20 : decode prog_1_method_9_code 20 = .ok (.athrow, 1) := by decide +kernel
theorem d_CT_beginning_21 : decode prog_1_method_9_code 21 = .ok (.aload_n 3, 1) := by decide +kernel
theorem d_CT_beginning_22 : decode prog_1_method_9_code 22 = .ok (.getfield 144, 3) := by decide +kernel
theorem d_CT_beginning_25 : decode prog_1_method_9_code 25 = .ok (.lreturn, 1) := by decide +kernel
theorem f_CT_144 : cx_F "CircuitText" 144 4 5 (.long) false := ⟨_, F_Nm, 11, t_Nm, k_Nm, by decide, rfl, rfl, Or.inr ⟨"CircuitText", (in_4 (List.mem_of_getElem? (i := 152) rfl))⟩⟩
abbrev m_CT_find : cx_M := (⟨"CircuitText", "find", "(I)I"⟩, prog_1_method_10_code, 6, (Option.some Jvm.ClassFile.FieldType.int), [], [false, false])
theorem w_CT_find : cx_W m_CT_find := ⟨Or.inl ⟨(in_6 (List.mem_of_getElem? (i := 81) rfl)), rfl⟩, by decide +kernel, by decide, by decide, by decide +kernel⟩
theorem n_CT_find : (parseMethodDescriptor m_CT_find.1.desc).map (fun d => d.parameters.length) = some 1 := by decide +kernel
theorem d_CT_find_0 : decode prog_1_method_10_code 0 = .ok (.aload_n 0, 1) := by decide +kernel
theorem d_CT_find_1 : decode prog_1_method_10_code 1 = .ok (.iload_n 1, 1) := by decide +kernel
theorem d_CT_find_2 : decode prog_1_method_10_code 2 = .ok (.invokevirtual 85, 3) := by decide +kernel
theorem d_CT_find_5 : decode prog_1_method_10_code 5 = .ok (.astore_n 2, 1) := by decide +kernel
theorem d_CT_find_6 : decode prog_1_method_10_code 6 = .ok (.aload_n 2, 1) := by decide +kernel
theorem d_CT_find_7 : decode prog_1_method_10_code 7 = .ok (.ifnonnull 13, 3) := by decide +kernel
theorem d_CT_find_10 : decode prog_1_method_10_code 10 = .ok (.new 89, 3) := by decide +kernel
theorem d_CT_find_13 : decode prog_1_method_10_code 13 = .ok (.dup, 1) := by decide +kernel
theorem d_CT_find_14 : decode prog_1_method_10_code 14 = .ok (.ldc 91, 2) := by decide +kernel
theorem d_CT_find_16 : decode prog_1_method_10_code 16 = .ok (.invokespecial 93, 3) := by decide +kernel
theorem d_CT_find_19 : decode prog_1_method_10_code 19 = .ok (.athrow, 1) := by decide +kernel
theorem d_CT_find_20 : decode prog_1_method_10_code 20 = .ok (.iconst (-1), 1) := by decide +kernel
theorem d_CT_find_21 : decode prog_1_method_10_code 21 = .ok (.istore_n 3, 1) := by decide +kernel
theorem d_CT_find_22 : decode prog_1_method_10_code 22 = .ok (.iconst 0, 1) := by decide +kernel
theorem d_CT_find_23 : decode prog_1_method_10_code 23 = .ok (.istore 4, 2) := by decide +kernel
theorem d_CT_find_25 : decode prog_1_method_10_code 25 = .ok (.iload 4, 2) := by decide +kernel
theorem d_CT_find_27 : decode prog_1_method_10_code 27 = .ok (.aload_n 2, 1) := by decide +kernel
theorem d_CT_find_28 : decode prog_1_method_10_code 28 = .ok (.getfield 99, 3) := by decide +kernel
theorem d_CT_find_31 : decode prog_1_method_10_code 31 = .ok (.invokevirtual 81, 3) := by decide +kernel
theorem d_CT_find_34 : decode prog_1_method_10_code 34 = .ok (.if_icmp .ge 54, 3) := by decide +kernel
theorem d_CT_find_37 : decode prog_1_method_10_code 37 = .ok (.iload_n 3, 1) := by decide +kernel
theorem d_CT_find_38 : decode prog_1_method_10_code 38 = .ok (.iconst (-1), 1) := by decide +kernel
theorem d_CT_find_39 : decode prog_1_method_10_code 39 = .ok (.if_icmp .ne 49, 3) := by decide +kernel
theorem d_CT_find_42 : decode prog_1_method_10_code 42 = .ok (.aload_n 2, 1) := by decide +kernel
theorem d_CT_find_43 : decode prog_1_method_10_code 43 = .ok (.getfield 99, 3) := by decide +kernel
theorem d_CT_find_46 : decode prog_1_method_10_code 46 = .ok (.iload 4, 2) := by decide +kernel
theorem d_CT_find_48 : decode prog_1_method_10_code 48 = .ok (.invokevirtual 148, 3) := by decide +kernel
theorem d_CT_find_51 : decode prog_1_method_10_code 51 = .ok (.checkcast 127, 3) := by decide +kernel
theorem d_CT_find_54 : decode prog_1_method_10_code 54 = .ok (.getfield 152, 3) := by decide +kernel
theorem d_CT_find_57 : decode prog_1_method_10_code 57 = .ok (.astore 5, 2) := by decide +kernel
theorem d_CT_find_59 : decode prog_1_method_10_code 59 = .ok (.aload 5, 2) := by decide +kernel
theorem d_CT_find_61 : decode prog_1_method_10_code 61 = .ok (.ifnull 21, 3) := by decide +kernel
theorem d_CT_find_64 : decode prog_1_method_10_code 64 = .ok (.aload_n 0, 1) := by decide +kernel
theorem d_CT_find_65 : decode prog_1_method_10_code 65 = .ok (.getfield 10, 3) := by decide +kernel
theorem d_CT_find_68 : decode prog_1_method_10_code 68 = .ok (.aload 5, 2) := by decide +kernel
theorem d_CT_find_70 : decode prog_1_method_10_code 70 = .ok (.getfield 156, 3) := by decide +kernel
theorem d_CT_find_73 : decode prog_1_method_10_code 73 = .ok (.invokevirtual 162, 3) := by decide +kernel
theorem d_CT_find_76 : decode prog_1_method_10_code 76 = .ok (.ifCond .eq 6, 3) := by decide +kernel
theorem d_CT_find_79 : decode prog_1_method_10_code 79 = .ok (.iload 4, 2) := by decide +kernel
theorem d_CT_find_81 : decode prog_1_method_10_code 81 = .ok (.istore_n 3, 1) := by decide +kernel
theorem d_CT_find_82 : decode prog_1_method_10_code 82 = .ok (.iinc 4 1, 3) := by decide +kernel
theorem d_CT_find_85 : decode prog_1_method_10_code 85 = .ok (.goto (-60), 3) := by decide +kernel
theorem d_CT_find_88 : decode prog_1_method_10_code 88 = .ok (.aload_n 0, 1) := by decide +kernel
theorem d_CT_find_89 : decode prog_1_method_10_code 89 = .ok (.getfield 10, 3) := by decide +kernel
theorem d_CT_find_92 : decode prog_1_method_10_code 92 = .ok (.iconst 0, 1) := by decide +kernel
theorem d_CT_find_93 : decode prog_1_method_10_code 93 = .ok (.putfield 27, 3) := by decide +kernel
theorem d_CT_find_96 : decode prog_1_method_10_code 96 = .ok (.iload_n 3, 1) := by decide +kernel
theorem d_CT_find_97 : decode prog_1_method_10_code 97 = .ok (.ireturn, 1) := by decide +kernel
theorem f_CT_152 : cx_F "CircuitText" 152 4 1 (.object "CircuitText$Word") true := ⟨_, F_Nm, 11, t_Nm, k_Nm, by decide, rfl, rfl, Or.inr ⟨"CircuitText", (in_4 (List.mem_of_getElem? (i := 141) rfl))⟩⟩
theorem f_CT_156 : cx_F "CircuitText" 156 10 0 (.array .byte) true := ⟨_, F_Wd, 5, t_Wd, k_Wd, by decide, rfl, rfl, Or.inr ⟨"CircuitText", (in_2 (List.mem_of_getElem? (i := 83) rfl))⟩⟩
abbrev m_CT_read : cx_M := (⟨"CircuitText", "read", "()I"⟩, prog_1_method_4_code, 7, (Option.some Jvm.ClassFile.FieldType.int), [(47, 52, 55, 72)], [false])
theorem w_CT_read : cx_W m_CT_read := ⟨Or.inr (in_1 (List.mem_of_getElem? (i := 100) rfl)), by decide +kernel, by decide, by decide, by decide +kernel⟩
theorem n_CT_read : (parseMethodDescriptor m_CT_read.1.desc).map (fun d => d.parameters.length) = some 0 := by decide +kernel
theorem d_CT_read_0 : decode prog_1_method_4_code 0 = .ok (.new 47, 3) := by decide +kernel
theorem d_CT_read_3 : decode prog_1_method_4_code 3 = .ok (.dup, 1) := by decide +kernel
theorem d_CT_read_4 : decode prog_1_method_4_code 4 = .ok (.invokespecial 49, 3) := by decide +kernel
theorem d_CT_read_7 : decode prog_1_method_4_code 7 = .ok (.astore_n 1, 1) := by decide +kernel
theorem d_CT_read_8 : decode prog_1_method_4_code 8 = .ok (.new 50, 3) := by decide +kernel
theorem d_CT_read_11 : decode prog_1_method_4_code 11 = .ok (.dup, 1) := by decide +kernel
theorem d_CT_read_12 : decode prog_1_method_4_code 12 = .ok (.aload_n 1, 1) := by decide +kernel
theorem d_CT_read_13 : decode prog_1_method_4_code 13 = .ok (.invokespecial 52, 3) := by decide +kernel
theorem d_CT_read_16 : decode prog_1_method_4_code 16 = .ok (.astore_n 2, 1) := by decide +kernel
theorem d_CT_read_17 : decode prog_1_method_4_code 17 = .ok (.new 55, 3) := by decide +kernel
theorem d_CT_read_20 : decode prog_1_method_4_code 20 = .ok (.dup, 1) := by decide +kernel
theorem d_CT_read_21 : decode prog_1_method_4_code 21 = .ok (.aload_n 0, 1) := by decide +kernel
theorem d_CT_read_22 : decode prog_1_method_4_code 22 = .ok (.getfield 10, 3) := by decide +kernel
theorem d_CT_read_25 : decode prog_1_method_4_code 25 = .ok (.invokespecial 57, 3) := by decide +kernel
theorem d_CT_read_28 : decode prog_1_method_4_code 28 = .ok (.astore_n 3, 1) := by decide +kernel
theorem d_CT_read_29 : decode prog_1_method_4_code 29 = .ok (.new 60, 3) := by decide +kernel
theorem d_CT_read_32 : decode prog_1_method_4_code 32 = .ok (.dup, 1) := by decide +kernel
theorem d_CT_read_33 : decode prog_1_method_4_code 33 = .ok (.aload_n 3, 1) := by decide +kernel
theorem d_CT_read_34 : decode prog_1_method_4_code 34 = .ok (.invokevirtual 62, 3) := by decide +kernel
theorem d_CT_read_37 : decode prog_1_method_4_code 37 = .ok (.aload_n 2, 1) := by decide +kernel
theorem d_CT_read_38 : decode prog_1_method_4_code 38 = .ok (.aload_n 1, 1) := by decide +kernel
theorem d_CT_read_39 : decode prog_1_method_4_code 39 = .ok (.invokespecial 66, 3) := by decide +kernel
theorem d_CT_read_42 : decode prog_1_method_4_code 42 = .ok (.astore 4, 2) := by decide +kernel
theorem d_CT_read_44 : decode prog_1_method_4_code 44 = .ok (.iconst 1, 1) := by decide +kernel
theorem d_CT_read_45 : decode prog_1_method_4_code 45 = .ok (.istore 5, 2) := by decide +kernel
theorem d_CT_read_47 : decode prog_1_method_4_code 47 = .ok (.aload 4, 2) := by decide +kernel
theorem d_CT_read_49 : decode prog_1_method_4_code 49 = .ok (.invokevirtual 69, 3) := by decide +kernel
theorem d_CT_read_52 : decode prog_1_method_4_code 52 = .ok (.goto 8, 3) := by decide +kernel
theorem d_CT_read_55 : decode prog_1_method_4_code 55 = .ok (.astore 6, 2) := by decide +kernel
theorem d_CT_read_57 : decode prog_1_method_4_code 57 = .ok (.iconst 0, 1) := by decide +kernel
theorem d_CT_read_58 : decode prog_1_method_4_code 58 = .ok (.istore 5, 2) := by decide +kernel
theorem d_CT_read_60 : decode prog_1_method_4_code 60 = .ok (.aload_n 0, 1) := by decide +kernel
theorem d_CT_read_61 : decode prog_1_method_4_code 61 = .ok (.getfield 10, 3) := by decide +kernel
theorem d_CT_read_64 : decode prog_1_method_4_code 64 = .ok (.iconst 0, 1) := by decide +kernel
theorem d_CT_read_65 : decode prog_1_method_4_code 65 = .ok (.putfield 27, 3) := by decide +kernel
theorem d_CT_read_68 : decode prog_1_method_4_code 68 = .ok (.aload_n 0, 1) := by decide +kernel
theorem d_CT_read_69 : decode prog_1_method_4_code 69 = .ok (.aload_n 1, 1) := by decide +kernel
theorem d_CT_read_70 : decode prog_1_method_4_code 70 = .ok (.getfield 74, 3) := by decide +kernel
theorem d_CT_read_73 : decode prog_1_method_4_code 73 = .ok (.putfield 23, 3) := by decide +kernel
theorem d_CT_read_76 : decode prog_1_method_4_code 76 = .ok (.iload 5, 2) := by decide +kernel
theorem d_CT_read_78 : decode prog_1_method_4_code 78 = .ok (.ifCond .eq 10, 3) := by decide +kernel
theorem d_CT_read_81 : decode prog_1_method_4_code 81 = .ok (.aload_n 1, 1) := by decide +kernel
theorem d_CT_read_82 : decode prog_1_method_4_code 82 = .ok (.getfield 74, 3) := by decide +kernel
theorem d_CT_read_85 : decode prog_1_method_4_code 85 = .ok (.ifCond .eq 8, 3) := by decide +kernel
theorem d_CT_read_88 : decode prog_1_method_4_code 88 = .ok (.aload_n 1, 1) := by decide +kernel
theorem d_CT_read_89 : decode prog_1_method_4_code 89 = .ok (.getfield 77, 3) := by decide +kernel
theorem d_CT_read_92 : decode prog_1_method_4_code 92 = .ok (.ireturn, 1) := by decide +kernel
theorem d_CT_read_93 : decode prog_1_method_4_code 93 = .ok (.aload_n 0, 1) := by decide +kernel
theorem d_CT_read_94 : decode prog_1_method_4_code 94 = .ok (.aload_n 2, 1) := by decide +kernel
theorem d_CT_read_95 : decode prog_1_method_4_code 95 = .ok (.getfield 80, 3) := by decide +kernel
theorem d_CT_read_98 : decode prog_1_method_4_code 98 = .ok (.putfield 19, 3) := by decide +kernel
theorem d_CT_read_101 : decode prog_1_method_4_code 101 = .ok (.iconst (-1), 1) := by decide +kernel
theorem d_CT_read_102 : decode prog_1_method_4_code 102 = .ok (.ireturn, 1) := by decide +kernel
theorem z_CT_47 : cx_N "CircuitText" 47 9 [.int 0, .int 0] := ⟨_, F_Ve, t_Ve, k_Ve, (in_1 (List.mem_of_getElem? (i := 102) rfl)), (in_1 (List.mem_of_getElem? (i := 103) rfl)), (in_1 (List.mem_of_getElem? (i := 15) rfl)), fun j hj => by rcases (show j = 0 ∨ j = 1 by have : j < 2 := hj; omega) with rfl | rfl <;> rfl⟩
theorem z_CT_50 : cx_N "CircuitText" 50 3 [.null, .null, .null] := ⟨_, F_Me, t_Me, k_Me, (in_1 (List.mem_of_getElem? (i := 119) rfl)), (in_1 (List.mem_of_getElem? (i := 120) rfl)), (in_1 (List.mem_of_getElem? (i := 16) rfl)), fun j hj => by rcases (show j = 0 ∨ j = 1 ∨ j = 2 by have : j < 3 := hj; omega) with rfl | rfl | rfl <;> rfl⟩
theorem z_CT_55 : cx_N "CircuitText" 55 2 [.null, .null] := ⟨_, F_Lx, t_Lx, k_Lx, (in_2 (List.mem_of_getElem? (i := 3) rfl)), (in_2 (List.mem_of_getElem? (i := 4) rfl)), (in_1 (List.mem_of_getElem? (i := 19) rfl)), fun j hj => by rcases (show j = 0 ∨ j = 1 by have : j < 2 := hj; omega) with rfl | rfl <;> rfl⟩
theorem z_CT_60 : cx_N "CircuitText" 60 1 [.null, .null, .null, .int 0] := ⟨_, F_Gr, t_Gr, k_Gr, (in_2 (List.mem_of_getElem? (i := 115) rfl)), (in_2 (List.mem_of_getElem? (i := 116) rfl)), (in_1 (List.mem_of_getElem? (i := 26) rfl)), fun j hj => by rcases (show j = 0 ∨ j = 1 ∨ j = 2 ∨ j = 3 by have : j < 4 := hj; omega) with rfl | rfl | rfl | rfl <;> rfl⟩
theorem f_CT_74 : cx_F "CircuitText" 74 9 0 (.int) false := ⟨_, F_Ve, 2, t_Ve, k_Ve, by decide, rfl, rfl, Or.inr ⟨"CircuitText", (in_1 (List.mem_of_getElem? (i := 110) rfl))⟩⟩
theorem f_CT_77 : cx_F "CircuitText" 77 9 1 (.int) false := ⟨_, F_Ve, 2, t_Ve, k_Ve, by decide, rfl, rfl, Or.inr ⟨"CircuitText", (in_1 (List.mem_of_getElem? (i := 113) rfl))⟩⟩
theorem f_CT_80 : cx_F "CircuitText" 80 3 1 (.object "java/util/ArrayList") true := ⟨_, F_Me, 3, t_Me, k_Me, by decide, rfl, rfl, Or.inr ⟨"CircuitText", (in_1 (List.mem_of_getElem? (i := 234) rfl))⟩⟩
theorem l_CT_9 : cx_LI "CircuitText" 9 m_Ta_init := ⟨Or.inr ⟨"CircuitText", (in_1 (List.mem_of_getElem? (i := 47) rfl))⟩, w_Ta_init, (in_1 (List.mem_of_getElem? (i := 48) rfl)), rfl, rfl, rfl, (in_1 (List.mem_of_getElem? (i := 49) rfl))⟩
theorem l_CT_18 : cx_LI "CircuitText" 18 m_AL_init := ⟨Or.inl (in_1 (List.mem_of_getElem? (i := 63) rfl)), w_AL_init, (in_1 (List.mem_of_getElem? (i := 64) rfl)), rfl, rfl, rfl, (in_1 (List.mem_of_getElem? (i := 65) rfl))⟩
theorem l_CT_38 : cx_LV "CircuitText" 38 6 m_Ta_append := ⟨Or.inl (in_6 (List.mem_of_getElem? (i := 7) rfl)), w_Ta_append, (in_6 (List.mem_of_getElem? (i := 8) rfl)), _, rfl, (in_6 (List.mem_of_getElem? (i := 9) rfl))⟩
theorem l_CT_81 : cx_LV "CircuitText" 81 13 m_AL_size := ⟨Or.inl (in_5 (List.mem_of_getElem? (i := 221) rfl)), w_AL_size, (in_4 (List.mem_of_getElem? (i := 104) rfl)), _, rfl, (in_4 (List.mem_of_getElem? (i := 105) rfl))⟩
theorem l_CT_148 : cx_LV "CircuitText" 148 13 m_AL_get := ⟨Or.inl (in_6 (List.mem_of_getElem? (i := 35) rfl)), w_AL_get, (in_5 (List.mem_of_getElem? (i := 184) rfl)), _, rfl, (in_5 (List.mem_of_getElem? (i := 185) rfl))⟩
theorem l_CT_85 : cx_LV "CircuitText" 85 0 m_CT_unitAt := ⟨Or.inl (in_6 (List.mem_of_getElem? (i := 31) rfl)), w_CT_unitAt, (in_6 (List.mem_of_getElem? (i := 33) rfl)), _, rfl, (List.mem_append_left _ (List.mem_of_getElem? (i := 41) rfl))⟩
theorem l_CT_120 : cx_LV "CircuitText" 120 0 m_CT_nameAt := ⟨Or.inl (in_6 (List.mem_of_getElem? (i := 61) rfl)), w_CT_nameAt, (in_6 (List.mem_of_getElem? (i := 63) rfl)), _, rfl, (List.mem_append_left _ (List.mem_of_getElem? (i := 42) rfl))⟩
theorem l_CT_162 : cx_LV "CircuitText" 162 6 m_Ta_spells := ⟨Or.inl (in_6 (List.mem_of_getElem? (i := 82) rfl)), w_Ta_spells, (in_6 (List.mem_of_getElem? (i := 83) rfl)), _, rfl, (in_6 (List.mem_of_getElem? (i := 84) rfl))⟩
theorem l_CT_49 : cx_LI "CircuitText" 49 m_Ve_init := ⟨Or.inr ⟨"CircuitText", (in_1 (List.mem_of_getElem? (i := 104) rfl))⟩, w_Ve_init, (in_1 (List.mem_of_getElem? (i := 105) rfl)), rfl, rfl, rfl, (in_1 (List.mem_of_getElem? (i := 106) rfl))⟩
theorem l_CT_52 : cx_LI "CircuitText" 52 m_Me_init := ⟨Or.inl (in_1 (List.mem_of_getElem? (i := 121) rfl)), w_Me_init, (in_1 (List.mem_of_getElem? (i := 122) rfl)), rfl, rfl, rfl, (in_1 (List.mem_of_getElem? (i := 123) rfl))⟩
theorem l_CT_57 : cx_LI "CircuitText" 57 m_Lx_init := ⟨Or.inl (in_2 (List.mem_of_getElem? (i := 5) rfl)), w_Lx_init, (in_2 (List.mem_of_getElem? (i := 6) rfl)), rfl, rfl, rfl, (in_2 (List.mem_of_getElem? (i := 7) rfl))⟩
theorem l_CT_62 : cx_LV "CircuitText" 62 2 m_Lx_tokens := ⟨Or.inl (in_2 (List.mem_of_getElem? (i := 117) rfl)), w_Lx_tokens, (in_2 (List.mem_of_getElem? (i := 118) rfl)), _, rfl, (in_2 (List.mem_of_getElem? (i := 119) rfl))⟩
theorem l_CT_66 : cx_LI "CircuitText" 66 m_Gr_init := ⟨Or.inl (in_4 (List.mem_of_getElem? (i := 47) rfl)), w_Gr_init, (in_4 (List.mem_of_getElem? (i := 48) rfl)), rfl, rfl, rfl, (in_4 (List.mem_of_getElem? (i := 49) rfl))⟩
theorem l_CT_69 : cx_LV "CircuitText" 69 1 m_Gr_design := ⟨Or.inl (in_4 (List.mem_of_getElem? (i := 64) rfl)), w_Gr_design, (in_4 (List.mem_of_getElem? (i := 65) rfl)), _, rfl, (in_4 (List.mem_of_getElem? (i := 66) rfl))⟩
theorem xa_CT_42 : cx_XA "CircuitText" 42 46 15 "java/lang/IllegalArgumentException" := ⟨⟨_, rfl, z_CT_42⟩, ⟨_, rfl⟩, by decide, (in_6 (List.mem_of_getElem? (i := 22) rfl)), xw_cIAE, xw_xIAE⟩
theorem xa_CT_89 : cx_XA "CircuitText" 89 93 16 "java/lang/IndexOutOfBoundsException" := ⟨⟨_, rfl, z_CT_89⟩, ⟨_, rfl⟩, by decide, (in_6 (List.mem_of_getElem? (i := 47) rfl)), xw_cIOE, xw_xIOE⟩
/-- the modules us lie on the heap, and none of their texts in the row b -/
def ct_U (k : cx_K) (G : cx_G) (A : tx_A) (us : List tx_U) (b : Nat) : Prop := tx_al k G A.ul A.ue ((List.range us.length).map A.ua) A.uc ∧ tx_mU G A us ∧ tx_mK k G A us ∧ tx_mN G A us ∧ (∀ T a, A.wf T = some a → ∃ (tb : Nat) (x1 x2 x3 x4 : Value) (g : Nat → Int32), G.1 a = some (.inr (10, [.ref tb, x1, x2, x3, x4])) ∧ G.1 tb = some (.inl (k.2.1 0, T.length, .inl g)) ∧ (∀ j, j < T.length → g j = T.getD j 0) ∧ tb ≠ b) ∧ us.length < 1000000 ∧ (∀ (j : Nat) (u : tx_U), us[j]? = some u → u.2.2.1.length < 100000 ∧ ∀ (q : Nat) (r : tx_N), u.2.2.1[q]? = some r → (∀ j', r.2.2.2.2.2.2.2.1 = some j' → j' < us.length) ∧ ∀ T, r.1 = some T → ∃ w, A.wf T = some w)
/-- the object x: its tape, its modules, its latest fault -/
def ct_R (k : cx_K) (G : cx_G) (x ta b n cap : Nat) (f : Nat → Int32) (ft : Int32) (A : tx_A) (us : List tx_U) : Prop := G.1 x = some (.inr (0, [.ref ta, .ref A.ul, .int ft])) ∧ ct_T k G ta b n cap f ∧ ct_U k G A us b
/-- a place in a row of len, if it is one -/
def ct_ix (m : Int32) (len : Nat) : Option Nat := if m < 0 then none else if m.toNatClampNeg < len then some m.toNatClampNeg else none
theorem ct_ix.no {m : Int32} {len : Nat} (h : m < 0) : ct_ix m len = none := if_pos h
theorem ct_ix.ge {j len : Nat} (hj : j < 2 ^ 31) (h : ¬ j < len) : ct_ix (nI j) len = none := by
  unfold ct_ix
  rw [if_neg (nI_pos hj), nI_clamp hj, if_neg h]
theorem ct_ix.ok {j len : Nat} (hj : j < 2 ^ 31) (h : j < len) : ct_ix (nI j) len = some j := by
  unfold ct_ix
  rw [if_neg (nI_pos hj), nI_clamp hj, if_pos h]
/-- an exception of class c was made and thrown -/
def ct_th (G : cx_G) (c : Nat) : cx_R → cx_G → Prop := fun r G' => ∃ a fs, r = .inr a ∧ G.1 a = none ∧ G' = cx_mk G a (.inr (c, fs)) 6
def ct_md (u : tx_U) (w : Int32) : Option Int32 := if w = 0 then some u.2.2.2.1 else if w = 1 then some (nI u.2.2.1.length) else if w = 2 then some u.2.2.2.2.1 else if w = 3 then some u.2.2.2.2.2.1 else if w = 4 then some u.2.2.2.2.2.2.1 else if w = 5 then some u.2.2.2.2.2.2.2.1 else if w = 6 then some u.2.2.2.2.2.2.2.2 else if w = 7 then some (nI u.2.1) else none
def ct_dc (r : tx_N) (w : Int32) : Option Int32 := if w = 0 then some r.2.1 else if w = 1 then some r.2.2.1 else if w = 2 then some (nI r.2.2.2.1) else if w = 3 then some (match r.2.2.2.2.2.2.2.1 with | none => -1 | some j => nI j) else none
def ct_nx (us : List tx_U) (m q : Int32) : Option tx_N := (ct_ix m us.length).bind (fun j => (ct_ix q (us.getD j tx_u0).2.2.1.length).bind (fun i => (us.getD j tx_u0).2.2.1[i]?))
theorem ct_gd {us : List tx_U} {j : Nat} (h : j < us.length) : us[j]? = some (us.getD j tx_u0) := by
  rw [List.getD_eq_getElem?_getD, List.getElem?_eq_getElem h]
  rfl
set_option maxRecDepth 100000 in
theorem c_CT_fault {k : cx_K} {l : Launch} {G : cx_G} {x ta b n cap : Nat} {f : Nat → Int32} {ft : Int32} {A : tx_A} {us : List tx_U} (hR : ct_R k G x ta b n cap f ft A us)  : cx_Sp k l m_CT_fault 0 [.ref x] G (cx_rd (some (.int ft)) G) := by
  intro E hE
  obtain ⟨hx, hT, hU⟩ := id hR
  refine cx_aload_n (i := 0) hE d_CT_fault_0 rfl rfl ?_
  refine cx_get hE d_CT_fault_1 f_CT_23 (by assumption) (by rfl) ?_
  refine cx_iret hE d_CT_fault_4 rfl rfl ?_
  exact ⟨rfl, rfl⟩
set_option maxRecDepth 100000 in
theorem c_CT_count {k : cx_K} {l : Launch} {G : cx_G} {x ta b n cap : Nat} {f : Nat → Int32} {ft : Int32} {A : tx_A} {us : List tx_U} (hR : ct_R k G x ta b n cap f ft A us)  : cx_Sp k l m_CT_count 1 [.ref x] G (cx_rd (some (.int (nI us.length))) G) := by
  intro E hE
  obtain ⟨hx, hT, hU⟩ := id hR
  have hal := hU.1
  obtain ⟨⟨mc, hlc⟩, -⟩ := id hal
  have hul := hU.2.2.2.2.2.1
  have hcp := hal.le
  rw [List.length_map, List.length_range] at hcp
  refine cx_aload_n (i := 0) hE d_CT_count_0 rfl rfl ?_
  refine cx_get hE d_CT_count_1 f_CT_19 (by assumption) (by rfl) ?_
  refine cx_invV1 hE d_CT_count_4 l_CT_81 hlc (c_AL_size hal) rfl (by omega) (Nat.le_of_ble_eq_true rfl) n_AL_size (by rfl) ?_
  rw [List.length_map, List.length_range]
  refine cx_iret hE d_CT_count_7 rfl rfl ?_
  exact ⟨rfl, rfl⟩
set_option maxRecDepth 100000 in
theorem c_CT_unitAt {k : cx_K} {l : Launch} {G : cx_G} {x ta b n cap : Nat} {f : Nat → Int32} {ft : Int32} {A : tx_A} {us : List tx_U} (hR : ct_R k G x ta b n cap f ft A us) {m : Int32} : cx_Sp k l m_CT_unitAt 3 [.ref x, .int m] G (cx_rd (some (va_rf ((ct_ix m us.length).map A.ua))) G) := by
  intro E hE
  obtain ⟨hx, hT, hU⟩ := id hR
  have hal := hU.1
  obtain ⟨⟨mc, hlc⟩, -⟩ := id hal
  have hul := hU.2.2.2.2.2.1
  have hcp := hal.le
  rw [List.length_map, List.length_range] at hcp
  by_cases hm0 : m < 0
  · rw [ct_ix.no hm0] at hE
    refine cx_iload_n (i := 1) hE d_CT_unitAt_0 rfl rfl ?_
    refine cx_if_lt (tgt := 29)  hE d_CT_unitAt_1 (by decide) (fun c_1 => ?_) (fun c_1 => ?_)
    · refine cx_null hE d_CT_unitAt_29 ?_
      refine cx_aret (r := none) hE d_CT_unitAt_30 rfl (by first | exact Or.inl ⟨_, rfl⟩ | exact Or.inr ⟨_, rfl⟩) ?_
      exact ⟨rfl, rfl⟩
    · exact absurd hm0 c_1
      -- end
  obtain ⟨j, hj31, rfl⟩ := nI_of hm0
  by_cases hjl : j < us.length
  · rw [ct_ix.ok hj31 hjl] at hE
    have hun := hU.2.1 j _ (ct_gd hjl)
    unfold tx_um at hun
    refine cx_iload_n (i := 1) hE d_CT_unitAt_0 rfl rfl ?_
    refine cx_if_lt (tgt := 29)  hE d_CT_unitAt_1 (by decide) (fun c_1 => ?_) (fun c_1 => ?_)
    · exact absurd c_1 hm0
      -- end
    · refine cx_iload_n (i := 1) hE d_CT_unitAt_4 rfl rfl ?_
      refine cx_aload_n (i := 0) hE d_CT_unitAt_5 rfl rfl ?_
      refine cx_get hE d_CT_unitAt_6 f_CT_19 (by assumption) (by rfl) ?_
      refine cx_invV1 hE d_CT_unitAt_9 l_CT_81 hlc (c_AL_size hal) rfl (by omega) (Nat.le_of_ble_eq_true rfl) n_AL_size (by rfl) ?_
      rw [List.length_map, List.length_range]
      refine cx_icmp_ge (tgt := 29)  hE d_CT_unitAt_12 (by decide) (fun c_12 => ?_) (fun c_12 => ?_)
      · exact absurd c_12 (nI_ge (a := j) (b := us.length) hjl (by omega))
        -- end
      · refine cx_aload_n (i := 0) hE d_CT_unitAt_15 rfl rfl ?_
        refine cx_get hE d_CT_unitAt_16 f_CT_19 (by assumption) (by rfl) ?_
        refine cx_iload_n (i := 1) hE d_CT_unitAt_19 rfl rfl ?_
        refine cx_invV1 hE d_CT_unitAt_20 l_CT_148 hlc (c_AL_get (i := j) hal (by rw [List.length_map, List.length_range]; omega) (by omega)) rfl (by omega) (Nat.le_of_ble_eq_true rfl) n_AL_get (by rfl) ?_
        rw [show ((List.range us.length).map A.ua).getD j 0 = A.ua j by rw [List.getD_eq_getElem?_getD, List.getElem?_map, List.getElem?_range hjl]; rfl]
        refine cx_cast hE d_CT_unitAt_23 hun rfl (in_6 (List.mem_of_getElem? (i := 36) rfl)) ?_
        refine cx_goto (tgt := 30) hE d_CT_unitAt_26 (by decide) ?_
        refine cx_aret (r := some (A.ua j)) hE d_CT_unitAt_30 rfl (by first | exact Or.inl ⟨_, rfl⟩ | exact Or.inr ⟨_, rfl⟩) ?_
        exact ⟨rfl, rfl⟩
  · rw [ct_ix.ge hj31 hjl] at hE
    refine cx_iload_n (i := 1) hE d_CT_unitAt_0 rfl rfl ?_
    refine cx_if_lt (tgt := 29)  hE d_CT_unitAt_1 (by decide) (fun c_1 => ?_) (fun c_1 => ?_)
    · exact absurd c_1 hm0
      -- end
    · refine cx_iload_n (i := 1) hE d_CT_unitAt_4 rfl rfl ?_
      refine cx_aload_n (i := 0) hE d_CT_unitAt_5 rfl rfl ?_
      refine cx_get hE d_CT_unitAt_6 f_CT_19 (by assumption) (by rfl) ?_
      refine cx_invV1 hE d_CT_unitAt_9 l_CT_81 hlc (c_AL_size hal) rfl (by omega) (Nat.le_of_ble_eq_true rfl) n_AL_size (by rfl) ?_
      rw [List.length_map, List.length_range]
      refine cx_icmp_ge (tgt := 29)  hE d_CT_unitAt_12 (by decide) (fun c_12 => ?_) (fun c_12 => ?_)
      · refine cx_null hE d_CT_unitAt_29 ?_
        refine cx_aret (r := none) hE d_CT_unitAt_30 rfl (by first | exact Or.inl ⟨_, rfl⟩ | exact Or.inr ⟨_, rfl⟩) ?_
        exact ⟨rfl, rfl⟩
      · exact absurd (nJ_lt hj31 c_12) hjl
        -- end
/-- the place of a name, if there is one -/
def ct_np (us : List tx_U) (m q : Int32) : Option (Nat × Nat) := (ct_ix m us.length).bind (fun j => (ct_ix q (us.getD j tx_u0).2.2.1.length).map (fun i => (j, i)))
theorem ct_ix.lt {m : Int32} {len j : Nat} (h : ct_ix m len = some j) : j < len := by
  unfold ct_ix at h
  split at h
  · cases h
  · split at h
    · cases h
      assumption
    · cases h
set_option maxRecDepth 100000 in
theorem c_CT_nameAt {k : cx_K} {l : Launch} {G : cx_G} {x ta b n cap : Nat} {f : Nat → Int32} {ft : Int32} {A : tx_A} {us : List tx_U} (hR : ct_R k G x ta b n cap f ft A us) {m q : Int32} : cx_Sp k l m_CT_nameAt 4 [.ref x, .int m, .int q] G (cx_rd (some (va_rf ((ct_np us m q).map (fun y => A.na y.1 y.2)))) G) := by
  intro E hE
  obtain ⟨hx, hT, hU⟩ := id hR
  cases hjm : ct_ix m us.length with
  | none =>
    have hnp : ct_np us m q = none := by unfold ct_np; rw [hjm]; rfl
    rw [hnp] at hE
    refine cx_aload_n (i := 0) hE d_CT_nameAt_0 rfl rfl ?_
    refine cx_iload_n (i := 1) hE d_CT_nameAt_1 rfl rfl ?_
    have hua := c_CT_unitAt (l := l) (m := m) hR
    rw [hjm] at hua
    refine cx_invV1 hE d_CT_nameAt_2 l_CT_85 hx hua rfl (by omega) (Nat.le_of_ble_eq_true rfl) n_CT_unitAt (by rfl) ?_
    refine cx_astore_n (i := 3) hE d_CT_nameAt_5 rfl (by decide) ?_
    refine cx_aload_n (i := 3) hE d_CT_nameAt_6 rfl rfl ?_
    refine cx_ifnull (tgt := 39) (r := none) hE d_CT_nameAt_7 (by decide) (fun c_7 => ?_) (fun a_7 c_7 => ?_)
    · refine cx_null hE d_CT_nameAt_39 ?_
      refine cx_aret (r := none) hE d_CT_nameAt_40 rfl (by first | exact Or.inl ⟨_, rfl⟩ | exact Or.inr ⟨_, rfl⟩) ?_
      exact ⟨rfl, rfl⟩
    · cases c_7
      -- end
  | some j =>
    have hjl : j < us.length := ct_ix.lt hjm
    have hgj := ct_gd hjl
    generalize hu9 : us.getD j tx_u0 = u at hgj
    have hun := hU.2.1 j _ hgj
    unfold tx_um at hun
    have hna := hU.2.2.1 j _ hgj
    obtain ⟨⟨mcn, hnl⟩, -⟩ := id hna
    have hnn := (hU.2.2.2.2.2.2 j _ hgj).1
    have hcn := hna.le
    rw [List.length_map, List.length_range] at hcn
    by_cases hq0 : q < 0
    · have hnp : ct_np us m q = none := by unfold ct_np; rw [hjm]; show (ct_ix q _).map _ = _; rw [ct_ix.no hq0]; rfl
      rw [hnp] at hE
      refine cx_aload_n (i := 0) hE d_CT_nameAt_0 rfl rfl ?_
      refine cx_iload_n (i := 1) hE d_CT_nameAt_1 rfl rfl ?_
      have hua := c_CT_unitAt (l := l) (m := m) hR
      rw [hjm] at hua
      refine cx_invV1 hE d_CT_nameAt_2 l_CT_85 hx hua rfl (by omega) (Nat.le_of_ble_eq_true rfl) n_CT_unitAt (by rfl) ?_
      refine cx_astore_n (i := 3) hE d_CT_nameAt_5 rfl (by decide) ?_
      refine cx_aload_n (i := 3) hE d_CT_nameAt_6 rfl rfl ?_
      refine cx_ifnull (tgt := 39) (r := some (A.ua j)) hE d_CT_nameAt_7 (by decide) (fun c_7 => ?_) (fun a_7 c_7 => ?_)
      · cases c_7
        -- end
      · refine cx_iload_n (i := 2) hE d_CT_nameAt_10 rfl rfl ?_
        refine cx_if_lt (tgt := 39)  hE d_CT_nameAt_11 (by decide) (fun c_11 => ?_) (fun c_11 => ?_)
        · refine cx_null hE d_CT_nameAt_39 ?_
          refine cx_aret (r := none) hE d_CT_nameAt_40 rfl (by first | exact Or.inl ⟨_, rfl⟩ | exact Or.inr ⟨_, rfl⟩) ?_
          exact ⟨rfl, rfl⟩
        · exact absurd hq0 c_11
          -- end
    obtain ⟨i, hi31, rfl⟩ := nI_of hq0
    by_cases hil : i < u.2.2.1.length
    · have hnp : ct_np us m (nI i) = some (j, i) := by unfold ct_np; rw [hjm]; show (ct_ix (nI i) (us.getD j tx_u0).2.2.1.length).map _ = _; rw [hu9, ct_ix.ok hi31 hil]; rfl
      rw [hnp] at hE
      have hnm := hU.2.2.2.1 j u hgj i _ (List.getElem?_eq_getElem hil)
      unfold tx_nm at hnm
      refine cx_aload_n (i := 0) hE d_CT_nameAt_0 rfl rfl ?_
      refine cx_iload_n (i := 1) hE d_CT_nameAt_1 rfl rfl ?_
      have hua := c_CT_unitAt (l := l) (m := m) hR
      rw [hjm] at hua
      refine cx_invV1 hE d_CT_nameAt_2 l_CT_85 hx hua rfl (by omega) (Nat.le_of_ble_eq_true rfl) n_CT_unitAt (by rfl) ?_
      refine cx_astore_n (i := 3) hE d_CT_nameAt_5 rfl (by decide) ?_
      refine cx_aload_n (i := 3) hE d_CT_nameAt_6 rfl rfl ?_
      refine cx_ifnull (tgt := 39) (r := some (A.ua j)) hE d_CT_nameAt_7 (by decide) (fun c_7 => ?_) (fun a_7 c_7 => ?_)
      · cases c_7
        -- end
      · refine cx_iload_n (i := 2) hE d_CT_nameAt_10 rfl rfl ?_
        refine cx_if_lt (tgt := 39)  hE d_CT_nameAt_11 (by decide) (fun c_11 => ?_) (fun c_11 => ?_)
        · exact absurd c_11 hq0
          -- end
        · refine cx_iload_n (i := 2) hE d_CT_nameAt_14 rfl rfl ?_
          refine cx_aload_n (i := 3) hE d_CT_nameAt_15 rfl rfl ?_
          refine cx_get hE d_CT_nameAt_16 f_CT_99 (by assumption) (by rfl) ?_
          refine cx_invV1 hE d_CT_nameAt_19 l_CT_81 hnl (c_AL_size hna) rfl (by omega) (Nat.le_of_ble_eq_true rfl) n_AL_size (by rfl) ?_
          rw [List.length_map, List.length_range]
          refine cx_icmp_ge (tgt := 39)  hE d_CT_nameAt_22 (by decide) (fun c_22 => ?_) (fun c_22 => ?_)
          · exact absurd c_22 (nI_ge (a := i) (b := u.2.2.1.length) hil (by omega))
            -- end
          · refine cx_aload_n (i := 3) hE d_CT_nameAt_25 rfl rfl ?_
            refine cx_get hE d_CT_nameAt_26 f_CT_99 (by assumption) (by rfl) ?_
            refine cx_iload_n (i := 2) hE d_CT_nameAt_29 rfl rfl ?_
            refine cx_invV1 hE d_CT_nameAt_30 l_CT_148 hnl (c_AL_get (i := i) hna (by rw [List.length_map, List.length_range]; omega) (by omega)) rfl (by omega) (Nat.le_of_ble_eq_true rfl) n_AL_get (by rfl) ?_
            rw [show ((List.range u.2.2.1.length).map (A.na j)).getD i 0 = A.na j i by rw [List.getD_eq_getElem?_getD, List.getElem?_map, List.getElem?_range hil]; rfl]
            refine cx_cast hE d_CT_nameAt_33 hnm rfl (in_6 (List.mem_of_getElem? (i := 65) rfl)) ?_
            refine cx_goto (tgt := 40) hE d_CT_nameAt_36 (by decide) ?_
            refine cx_aret (r := some (A.na j i)) hE d_CT_nameAt_40 rfl (by first | exact Or.inl ⟨_, rfl⟩ | exact Or.inr ⟨_, rfl⟩) ?_
            exact ⟨rfl, rfl⟩
    · have hnp : ct_np us m (nI i) = none := by unfold ct_np; rw [hjm]; show (ct_ix (nI i) (us.getD j tx_u0).2.2.1.length).map _ = _; rw [hu9, ct_ix.ge hi31 hil]; rfl
      rw [hnp] at hE
      refine cx_aload_n (i := 0) hE d_CT_nameAt_0 rfl rfl ?_
      refine cx_iload_n (i := 1) hE d_CT_nameAt_1 rfl rfl ?_
      have hua := c_CT_unitAt (l := l) (m := m) hR
      rw [hjm] at hua
      refine cx_invV1 hE d_CT_nameAt_2 l_CT_85 hx hua rfl (by omega) (Nat.le_of_ble_eq_true rfl) n_CT_unitAt (by rfl) ?_
      refine cx_astore_n (i := 3) hE d_CT_nameAt_5 rfl (by decide) ?_
      refine cx_aload_n (i := 3) hE d_CT_nameAt_6 rfl rfl ?_
      refine cx_ifnull (tgt := 39) (r := some (A.ua j)) hE d_CT_nameAt_7 (by decide) (fun c_7 => ?_) (fun a_7 c_7 => ?_)
      · cases c_7
        -- end
      · refine cx_iload_n (i := 2) hE d_CT_nameAt_10 rfl rfl ?_
        refine cx_if_lt (tgt := 39)  hE d_CT_nameAt_11 (by decide) (fun c_11 => ?_) (fun c_11 => ?_)
        · exact absurd c_11 hq0
          -- end
        · refine cx_iload_n (i := 2) hE d_CT_nameAt_14 rfl rfl ?_
          refine cx_aload_n (i := 3) hE d_CT_nameAt_15 rfl rfl ?_
          refine cx_get hE d_CT_nameAt_16 f_CT_99 (by assumption) (by rfl) ?_
          refine cx_invV1 hE d_CT_nameAt_19 l_CT_81 hnl (c_AL_size hna) rfl (by omega) (Nat.le_of_ble_eq_true rfl) n_AL_size (by rfl) ?_
          rw [List.length_map, List.length_range]
          refine cx_icmp_ge (tgt := 39)  hE d_CT_nameAt_22 (by decide) (fun c_22 => ?_) (fun c_22 => ?_)
          · refine cx_null hE d_CT_nameAt_39 ?_
            refine cx_aret (r := none) hE d_CT_nameAt_40 rfl (by first | exact Or.inl ⟨_, rfl⟩ | exact Or.inr ⟨_, rfl⟩) ?_
            exact ⟨rfl, rfl⟩
          · exact absurd (nJ_lt hi31 c_22) hil
            -- end

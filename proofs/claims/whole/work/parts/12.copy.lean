/-! COPIES OF THE TAPE, SIGNS. -/
theorem cx_castB {E : cx_E} {k : cx_K} {l : Launch} {fr : Nat} {M : cx_M} {G0 : cx_G} {Post : cx_R → cx_G → Prop} {pc : Nat} {lv : cx_L} {st : List Value} {G : cx_G} {idx a : Nat} {x : vp_A} (hE : cx_C E k l fr M G0 Post) (hd : decode M.2.1 pc = .ok (.checkcast idx, 3)) (hl : Cond.classLink M.1.cls idx "[B" ∈ lw_tbl) (hG : G.1 a = some (.inl (k.2.1 0, x))) (h : cx_V E (pc + 3) lv (.ref a :: st) G) : cx_V E pc lv (.ref a :: st) G := by
  obtain ⟨k', ⟨p, l', e, R, s, m, args, below, meth, c⟩, nL', fr', c0, s0, Q⟩ := E
  obtain ⟨hx, hb, hml, rfl, hown, hSt, rfl, -⟩ := hE
  intro H locs ls cells slots g1 g2 g3 g4 g5
  obtain ⟨ws, q0, hP, hD, hws, hq0⟩ := g1.look hG
  exact va_castA hx hb hown (hSt.1 _ hl rfl args) hP q0 hq0 (hSt.2.1.2 0 _ rfl).2 hd (h H locs ls cells slots g1 g2 g3 g4 g5)
theorem cx_ext.T {k : cx_K} {G G' : cx_G} {ta n : Nat} {f : Nat → Int32} (h : cx_ext G G') (hT : tx_T k G ta n f) : tx_T k G' ta n f := by
  obtain ⟨b, cap, h1, h2, h3⟩ := hT
  exact ⟨b, cap, h _ _ h1, h _ _ h2, h3⟩
theorem cx_ext.L {k : cx_K} {G G' : cx_G} {lx ta ws n : Nat} {f : Nat → Int32} (h : cx_ext G G') (hL : tx_L k G lx ta ws n f) : tx_L k G' lx ta ws n f := ⟨h _ _ hL.1, h.T hL.2⟩
abbrev m_Lx_sign : cx_M := (⟨"CircuitText$Lexer", "sign", "(I)LCircuitText$Token;"⟩, prog_3_method_9_code, 5, (Option.some (Jvm.ClassFile.FieldType.object "CircuitText$Token")), [], [false, false])
theorem w_Lx_sign : cx_W m_Lx_sign := ⟨Or.inl ⟨(in_3 (List.mem_of_getElem? (i := 236) rfl)), rfl⟩, by decide +kernel, by decide, by decide, by decide +kernel⟩
theorem n_Lx_sign : (parseMethodDescriptor m_Lx_sign.1.desc).map (fun d => d.parameters.length) = some 1 := by decide +kernel
theorem d_Lx_sign_0 : decode prog_3_method_9_code 0 = .ok (.aload_n 0, 1) := by decide +kernel
theorem d_Lx_sign_1 : decode prog_3_method_9_code 1 = .ok (.getfield 18, 3) := by decide +kernel
theorem d_Lx_sign_4 : decode prog_3_method_9_code 4 = .ok (.iload_n 1, 1) := by decide +kernel
theorem d_Lx_sign_5 : decode prog_3_method_9_code 5 = .ok (.invokevirtual 47, 3) := by decide +kernel
theorem d_Lx_sign_8 : decode prog_3_method_9_code 8 = .ok (.istore_n 2, 1) := by decide +kernel
theorem d_Lx_sign_9 : decode prog_3_method_9_code 9 = .ok (.aload_n 0, 1) := by decide +kernel
theorem d_Lx_sign_10 : decode prog_3_method_9_code 10 = .ok (.getfield 18, 3) := by decide +kernel
theorem d_Lx_sign_13 : decode prog_3_method_9_code 13 = .ok (.iload_n 1, 1) := by decide +kernel
theorem d_Lx_sign_14 : decode prog_3_method_9_code 14 = .ok (.iconst 1, 1) := by decide +kernel
theorem d_Lx_sign_15 : decode prog_3_method_9_code 15 = .ok (.iadd, 1) := by decide +kernel
theorem d_Lx_sign_16 : decode prog_3_method_9_code 16 = .ok (.invokevirtual 47, 3) := by decide +kernel
theorem d_Lx_sign_19 : decode prog_3_method_9_code 19 = .ok (.istore_n 3, 1) := by decide +kernel
theorem d_Lx_sign_20 : decode prog_3_method_9_code 20 = .ok (.iconst 0, 1) := by decide +kernel
theorem d_Lx_sign_21 : decode prog_3_method_9_code 21 = .ok (.istore 4, 2) := by decide +kernel
theorem d_Lx_sign_23 : decode prog_3_method_9_code 23 = .ok (.iload 4, 2) := by decide +kernel
theorem d_Lx_sign_25 : decode prog_3_method_9_code 25 = .ok (.iconst 1, 1) := by decide +kernel
theorem d_Lx_sign_26 : decode prog_3_method_9_code 26 = .ok (.iadd, 1) := by decide +kernel
theorem d_Lx_sign_27 : decode prog_3_method_9_code 27 = .ok (.ldc 97, 2) := by decide +kernel
theorem d_Lx_sign_29 : decode prog_3_method_9_code 29 = .ok (.invokevirtual 99, 3) := by decide +kernel
theorem d_Lx_sign_32 : decode prog_3_method_9_code 32 = .ok (.if_icmp .ge 52, 3) := by decide +kernel
theorem d_Lx_sign_35 : decode prog_3_method_9_code 35 = .ok (.iload_n 2, 1) := by decide +kernel
theorem d_Lx_sign_36 : decode prog_3_method_9_code 36 = .ok (.ldc 97, 2) := by decide +kernel
theorem d_Lx_sign_38 : decode prog_3_method_9_code 38 = .ok (.iload 4, 2) := by decide +kernel
theorem d_Lx_sign_40 : decode prog_3_method_9_code 40 = .ok (.invokevirtual 104, 3) := by decide +kernel
theorem d_Lx_sign_43 : decode prog_3_method_9_code 43 = .ok (.if_icmp .ne 35, 3) := by decide +kernel
theorem d_Lx_sign_46 : decode prog_3_method_9_code 46 = .ok (.iload_n 3, 1) := by decide +kernel
theorem d_Lx_sign_47 : decode prog_3_method_9_code 47 = .ok (.ldc 97, 2) := by decide +kernel
theorem d_Lx_sign_49 : decode prog_3_method_9_code 49 = .ok (.iload 4, 2) := by decide +kernel
theorem d_Lx_sign_51 : decode prog_3_method_9_code 51 = .ok (.iconst 1, 1) := by decide +kernel
theorem d_Lx_sign_52 : decode prog_3_method_9_code 52 = .ok (.iadd, 1) := by decide +kernel
theorem d_Lx_sign_53 : decode prog_3_method_9_code 53 = .ok (.invokevirtual 104, 3) := by decide +kernel
theorem d_Lx_sign_56 : decode prog_3_method_9_code 56 = .ok (.if_icmp .ne 22, 3) := by decide +kernel
theorem d_Lx_sign_59 : decode prog_3_method_9_code 59 = .ok (.new 32, 3) := by decide +kernel
theorem d_Lx_sign_62 : decode prog_3_method_9_code 62 = .ok (.dup, 1) := by decide +kernel
theorem d_Lx_sign_63 : decode prog_3_method_9_code 63 = .ok (.iload_n 2, 1) := by decide +kernel
theorem d_Lx_sign_64 : decode prog_3_method_9_code 64 = .ok (.sipush 256, 3) := by decide +kernel
theorem d_Lx_sign_67 : decode prog_3_method_9_code 67 = .ok (.imul, 1) := by decide +kernel
theorem d_Lx_sign_68 : decode prog_3_method_9_code 68 = .ok (.iload_n 3, 1) := by decide +kernel
theorem d_Lx_sign_69 : decode prog_3_method_9_code 69 = .ok (.iadd, 1) := by decide +kernel
theorem d_Lx_sign_70 : decode prog_3_method_9_code 70 = .ok (.iload_n 1, 1) := by decide +kernel
theorem d_Lx_sign_71 : decode prog_3_method_9_code 71 = .ok (.iload_n 1, 1) := by decide +kernel
theorem d_Lx_sign_72 : decode prog_3_method_9_code 72 = .ok (.iconst 2, 1) := by decide +kernel
theorem d_Lx_sign_73 : decode prog_3_method_9_code 73 = .ok (.iadd, 1) := by decide +kernel
theorem d_Lx_sign_74 : decode prog_3_method_9_code 74 = .ok (.invokespecial 61, 3) := by decide +kernel
theorem d_Lx_sign_77 : decode prog_3_method_9_code 77 = .ok (.areturn, 1) := by decide +kernel
theorem d_Lx_sign_78 : decode prog_3_method_9_code 78 = .ok (.iinc 4 2, 3) := by decide +kernel
theorem d_Lx_sign_81 : decode prog_3_method_9_code 81 = .ok (.goto (-58), 3) := by decide +kernel
theorem d_Lx_sign_84 : decode prog_3_method_9_code 84 = .ok (.ldc 108, 2) := by decide +kernel
theorem d_Lx_sign_86 : decode prog_3_method_9_code 86 = .ok (.iload_n 2, 1) := by decide +kernel
theorem d_Lx_sign_87 : decode prog_3_method_9_code 87 = .ok (.i2c, 1) := by decide +kernel
theorem d_Lx_sign_88 : decode prog_3_method_9_code 88 = .ok (.invokevirtual 110, 3) := by decide +kernel
theorem d_Lx_sign_91 : decode prog_3_method_9_code 91 = .ok (.ifCond .lt 7, 3) := by decide +kernel
theorem d_Lx_sign_94 : decode prog_3_method_9_code 94 = .ok (.iconst 1, 1) := by decide +kernel
theorem d_Lx_sign_95 : decode prog_3_method_9_code 95 = .ok (.goto 4, 3) := by decide +kernel
theorem d_Lx_sign_98 : decode prog_3_method_9_code 98 = .ok (.iconst 0, 1) := by decide +kernel
theorem d_Lx_sign_99 : decode prog_3_method_9_code 99 = .ok (.istore 4, 2) := by decide +kernel
theorem d_Lx_sign_101 : decode prog_3_method_9_code 101 = .ok (.new 32, 3) := by decide +kernel
theorem d_Lx_sign_104 : decode prog_3_method_9_code 104 = .ok (.dup, 1) := by decide +kernel
theorem d_Lx_sign_105 : decode prog_3_method_9_code 105 = .ok (.iload 4, 2) := by decide +kernel
theorem d_Lx_sign_107 : decode prog_3_method_9_code 107 = .ok (.ifCond .eq 7, 3) := by decide +kernel
theorem d_Lx_sign_110 : decode prog_3_method_9_code 110 = .ok (.iload_n 2, 1) := by decide +kernel
theorem d_Lx_sign_111 : decode prog_3_method_9_code 111 = .ok (.goto 5, 3) := by decide +kernel
theorem d_Lx_sign_114 : decode prog_3_method_9_code 114 = .ok (.bipush 23, 2) := by decide +kernel
theorem d_Lx_sign_116 : decode prog_3_method_9_code 116 = .ok (.iload_n 1, 1) := by decide +kernel
theorem d_Lx_sign_117 : decode prog_3_method_9_code 117 = .ok (.iload_n 1, 1) := by decide +kernel
theorem d_Lx_sign_118 : decode prog_3_method_9_code 118 = .ok (.iconst 1, 1) := by decide +kernel
theorem d_Lx_sign_119 : decode prog_3_method_9_code 119 = .ok (.iadd, 1) := by decide +kernel
theorem d_Lx_sign_120 : decode prog_3_method_9_code 120 = .ok (.invokespecial 61, 3) := by decide +kernel
theorem d_Lx_sign_123 : decode prog_3_method_9_code 123 = .ok (.areturn, 1) := by decide +kernel
abbrev m_Lx_sizedNumber : cx_M := (⟨"CircuitText$Lexer", "sizedNumber", "(III)LCircuitText$Token;"⟩, prog_3_method_13_code, 13, (Option.some (Jvm.ClassFile.FieldType.object "CircuitText$Token")), [], [false, false, false, false])
theorem w_Lx_sizedNumber : cx_W m_Lx_sizedNumber := ⟨Or.inl ⟨(in_2 (List.mem_of_getElem? (i := 176) rfl)), rfl⟩, by decide +kernel, by decide, by decide, by decide +kernel⟩
theorem n_Lx_sizedNumber : (parseMethodDescriptor m_Lx_sizedNumber.1.desc).map (fun d => d.parameters.length) = some 3 := by decide +kernel
theorem d_Lx_sizedNumber_0 : decode prog_3_method_13_code 0 = .ok (.aload_n 0, 1) := by decide +kernel
theorem d_Lx_sizedNumber_1 : decode prog_3_method_13_code 1 = .ok (.iload_n 1, 1) := by decide +kernel
theorem d_Lx_sizedNumber_2 : decode prog_3_method_13_code 2 = .ok (.iload_n 2, 1) := by decide +kernel
theorem d_Lx_sizedNumber_3 : decode prog_3_method_13_code 3 = .ok (.bipush 64, 2) := by decide +kernel
theorem d_Lx_sizedNumber_5 : decode prog_3_method_13_code 5 = .ok (.invokevirtual 122, 3) := by decide +kernel
theorem d_Lx_sizedNumber_8 : decode prog_3_method_13_code 8 = .ok (.istore 4, 2) := by decide +kernel
theorem d_Lx_sizedNumber_10 : decode prog_3_method_13_code 10 = .ok (.aload_n 0, 1) := by decide +kernel
theorem d_Lx_sizedNumber_11 : decode prog_3_method_13_code 11 = .ok (.getfield 18, 3) := by decide +kernel
theorem d_Lx_sizedNumber_14 : decode prog_3_method_13_code 14 = .ok (.iload_n 2, 1) := by decide +kernel
theorem d_Lx_sizedNumber_15 : decode prog_3_method_13_code 15 = .ok (.iconst 1, 1) := by decide +kernel
theorem d_Lx_sizedNumber_16 : decode prog_3_method_13_code 16 = .ok (.iadd, 1) := by decide +kernel
theorem d_Lx_sizedNumber_17 : decode prog_3_method_13_code 17 = .ok (.invokevirtual 47, 3) := by decide +kernel
theorem d_Lx_sizedNumber_20 : decode prog_3_method_13_code 20 = .ok (.invokestatic 136, 3) := by decide +kernel
theorem d_Lx_sizedNumber_23 : decode prog_3_method_13_code 23 = .ok (.istore 5, 2) := by decide +kernel
theorem d_Lx_sizedNumber_25 : decode prog_3_method_13_code 25 = .ok (.new 32, 3) := by decide +kernel
theorem d_Lx_sizedNumber_28 : decode prog_3_method_13_code 28 = .ok (.dup, 1) := by decide +kernel
theorem d_Lx_sizedNumber_29 : decode prog_3_method_13_code 29 = .ok (.bipush 23, 2) := by decide +kernel
theorem d_Lx_sizedNumber_31 : decode prog_3_method_13_code 31 = .ok (.iload_n 1, 1) := by decide +kernel
theorem d_Lx_sizedNumber_32 : decode prog_3_method_13_code 32 = .ok (.iload_n 3, 1) := by decide +kernel
theorem d_Lx_sizedNumber_33 : decode prog_3_method_13_code 33 = .ok (.invokespecial 61, 3) := by decide +kernel
theorem d_Lx_sizedNumber_36 : decode prog_3_method_13_code 36 = .ok (.astore 6, 2) := by decide +kernel
theorem d_Lx_sizedNumber_38 : decode prog_3_method_13_code 38 = .ok (.iload 4, 2) := by decide +kernel
theorem d_Lx_sizedNumber_40 : decode prog_3_method_13_code 40 = .ok (.iconst 1, 1) := by decide +kernel
theorem d_Lx_sizedNumber_41 : decode prog_3_method_13_code 41 = .ok (.if_icmp .lt 15, 3) := by decide +kernel
theorem d_Lx_sizedNumber_44 : decode prog_3_method_13_code 44 = .ok (.iload 5, 2) := by decide +kernel
theorem d_Lx_sizedNumber_46 : decode prog_3_method_13_code 46 = .ok (.ifCond .eq 10, 3) := by decide +kernel
theorem d_Lx_sizedNumber_49 : decode prog_3_method_13_code 49 = .ok (.iload_n 2, 1) := by decide +kernel
theorem d_Lx_sizedNumber_50 : decode prog_3_method_13_code 50 = .ok (.iconst 2, 1) := by decide +kernel
theorem d_Lx_sizedNumber_51 : decode prog_3_method_13_code 51 = .ok (.iadd, 1) := by decide +kernel
theorem d_Lx_sizedNumber_52 : decode prog_3_method_13_code 52 = .ok (.iload_n 3, 1) := by decide +kernel
theorem d_Lx_sizedNumber_53 : decode prog_3_method_13_code 53 = .ok (.if_icmp .lt 6, 3) := by decide +kernel
theorem d_Lx_sizedNumber_56 : decode prog_3_method_13_code 56 = .ok (.aload 6, 2) := by decide +kernel
theorem d_Lx_sizedNumber_58 : decode prog_3_method_13_code 58 = .ok (.areturn, 1) := by decide +kernel
theorem d_Lx_sizedNumber_59 : decode prog_3_method_13_code 59 = .ok (.lconst 0, 1) := by decide +kernel
theorem d_Lx_sizedNumber_60 : decode prog_3_method_13_code 60 = .ok (.lstore 7, 2) := by decide +kernel
theorem d_Lx_sizedNumber_62 : decode prog_3_method_13_code 62 = .ok (.lconst 0, 1) := by decide +kernel
theorem d_Lx_sizedNumber_63 : decode prog_3_method_13_code 63 = .ok (.lstore 9, 2) := by decide +kernel
theorem d_Lx_sizedNumber_65 : decode prog_3_method_13_code 65 = .ok (.iload_n 2, 1) := by decide +kernel
theorem d_Lx_sizedNumber_66 : decode prog_3_method_13_code 66 = .ok (.iconst 2, 1) := by decide +kernel
theorem d_Lx_sizedNumber_67 : decode prog_3_method_13_code 67 = .ok (.iadd, 1) := by decide +kernel
theorem d_Lx_sizedNumber_68 : decode prog_3_method_13_code 68 = .ok (.istore 11, 2) := by decide +kernel
theorem d_Lx_sizedNumber_70 : decode prog_3_method_13_code 70 = .ok (.iload 11, 2) := by decide +kernel
theorem d_Lx_sizedNumber_72 : decode prog_3_method_13_code 72 = .ok (.iload_n 3, 1) := by decide +kernel
theorem d_Lx_sizedNumber_73 : decode prog_3_method_13_code 73 = .ok (.if_icmp .ge 82, 3) := by decide +kernel
theorem d_Lx_sizedNumber_76 : decode prog_3_method_13_code 76 = .ok (.aload_n 0, 1) := by decide +kernel
theorem d_Lx_sizedNumber_77 : decode prog_3_method_13_code 77 = .ok (.getfield 18, 3) := by decide +kernel
theorem d_Lx_sizedNumber_80 : decode prog_3_method_13_code 80 = .ok (.iload 11, 2) := by decide +kernel
theorem d_Lx_sizedNumber_82 : decode prog_3_method_13_code 82 = .ok (.invokevirtual 47, 3) := by decide +kernel
theorem d_Lx_sizedNumber_85 : decode prog_3_method_13_code 85 = .ok (.invokestatic 139, 3) := by decide +kernel
theorem d_Lx_sizedNumber_88 : decode prog_3_method_13_code 88 = .ok (.istore 12, 2) := by decide +kernel
theorem d_Lx_sizedNumber_90 : decode prog_3_method_13_code 90 = .ok (.lload 9, 2) := by decide +kernel
theorem d_Lx_sizedNumber_92 : decode prog_3_method_13_code 92 = .ok (.iload 5, 2) := by decide +kernel
theorem d_Lx_sizedNumber_94 : decode prog_3_method_13_code 94 = .ok (.i2l, 1) := by decide +kernel
theorem d_Lx_sizedNumber_95 : decode prog_3_method_13_code 95 = .ok (.lmul, 1) := by decide +kernel
theorem d_Lx_sizedNumber_96 : decode prog_3_method_13_code 96 = .ok (.iload 12, 2) := by decide +kernel
theorem d_Lx_sizedNumber_98 : decode prog_3_method_13_code 98 = .ok (.i2l, 1) := by decide +kernel
theorem d_Lx_sizedNumber_99 : decode prog_3_method_13_code 99 = .ok (.ladd, 1) := by decide +kernel
theorem d_Lx_sizedNumber_100 : decode prog_3_method_13_code 100 = .ok (.lstore 9, 2) := by decide +kernel
theorem d_Lx_sizedNumber_102 : decode prog_3_method_13_code 102 = .ok (.lload 7, 2) := by decide +kernel
theorem d_Lx_sizedNumber_104 : decode prog_3_method_13_code 104 = .ok (.iload 5, 2) := by decide +kernel
theorem d_Lx_sizedNumber_106 : decode prog_3_method_13_code 106 = .ok (.i2l, 1) := by decide +kernel
theorem d_Lx_sizedNumber_107 : decode prog_3_method_13_code 107 = .ok (.lmul, 1) := by decide +kernel
theorem d_Lx_sizedNumber_108 : decode prog_3_method_13_code 108 = .ok (.lload 9, 2) := by decide +kernel
theorem d_Lx_sizedNumber_110 : decode prog_3_method_13_code 110 = .ok (.bipush 32, 2) := by decide +kernel
theorem d_Lx_sizedNumber_112 : decode prog_3_method_13_code 112 = .ok (.lushr, 1) := by decide +kernel
theorem d_Lx_sizedNumber_113 : decode prog_3_method_13_code 113 = .ok (.ladd, 1) := by decide +kernel
theorem d_Lx_sizedNumber_114 : decode prog_3_method_13_code 114 = .ok (.lstore 7, 2) := by decide +kernel
theorem d_Lx_sizedNumber_116 : decode prog_3_method_13_code 116 = .ok (.lload 9, 2) := by decide +kernel
theorem d_Lx_sizedNumber_118 : decode prog_3_method_13_code 118 = .ok (.ldc2_w 142, 3) := by decide +kernel
theorem d_Lx_sizedNumber_121 : decode prog_3_method_13_code 121 = .ok (.land, 1) := by decide +kernel
theorem d_Lx_sizedNumber_122 : decode prog_3_method_13_code 122 = .ok (.lstore 9, 2) := by decide +kernel
theorem d_Lx_sizedNumber_124 : decode prog_3_method_13_code 124 = .ok (.iload 12, 2) := by decide +kernel
theorem d_Lx_sizedNumber_126 : decode prog_3_method_13_code 126 = .ok (.iconst (-1), 1) := by decide +kernel
theorem d_Lx_sizedNumber_127 : decode prog_3_method_13_code 127 = .ok (.if_icmp .eq 19, 3) := by decide +kernel
theorem d_Lx_sizedNumber_130 : decode prog_3_method_13_code 130 = .ok (.iload 12, 2) := by decide +kernel
theorem d_Lx_sizedNumber_132 : decode prog_3_method_13_code 132 = .ok (.iload 5, 2) := by decide +kernel
theorem d_Lx_sizedNumber_134 : decode prog_3_method_13_code 134 = .ok (.if_icmp .ge 12, 3) := by decide +kernel
theorem d_Lx_sizedNumber_137 : decode prog_3_method_13_code 137 = .ok (.lload 7, 2) := by decide +kernel
theorem d_Lx_sizedNumber_139 : decode prog_3_method_13_code 139 = .ok (.ldc2_w 142, 3) := by decide +kernel
theorem d_Lx_sizedNumber_142 : decode prog_3_method_13_code 142 = .ok (.lcmp, 1) := by decide +kernel
theorem d_Lx_sizedNumber_143 : decode prog_3_method_13_code 143 = .ok (.ifCond .le 6, 3) := by decide +kernel
theorem d_Lx_sizedNumber_146 : decode prog_3_method_13_code 146 = .ok (.aload 6, 2) := by decide +kernel
theorem d_Lx_sizedNumber_148 : decode prog_3_method_13_code 148 = .ok (.areturn, 1) := by decide +kernel
theorem d_Lx_sizedNumber_149 : decode prog_3_method_13_code 149 = .ok (.iinc 11 1, 3) := by decide +kernel
theorem d_Lx_sizedNumber_152 : decode prog_3_method_13_code 152 = .ok (.goto (-82), 3) := by decide +kernel
theorem d_Lx_sizedNumber_155 : decode prog_3_method_13_code 155 = .ok (.new 32, 3) := by decide +kernel
theorem d_Lx_sizedNumber_158 : decode prog_3_method_13_code 158 = .ok (.dup, 1) := by decide +kernel
theorem d_Lx_sizedNumber_159 : decode prog_3_method_13_code 159 = .ok (.bipush 21, 2) := by decide +kernel
theorem d_Lx_sizedNumber_161 : decode prog_3_method_13_code 161 = .ok (.iload_n 1, 1) := by decide +kernel
theorem d_Lx_sizedNumber_162 : decode prog_3_method_13_code 162 = .ok (.iload_n 3, 1) := by decide +kernel
theorem d_Lx_sizedNumber_163 : decode prog_3_method_13_code 163 = .ok (.invokespecial 61, 3) := by decide +kernel
theorem d_Lx_sizedNumber_166 : decode prog_3_method_13_code 166 = .ok (.astore 11, 2) := by decide +kernel
theorem d_Lx_sizedNumber_168 : decode prog_3_method_13_code 168 = .ok (.aload 11, 2) := by decide +kernel
theorem d_Lx_sizedNumber_170 : decode prog_3_method_13_code 170 = .ok (.iload 4, 2) := by decide +kernel
theorem d_Lx_sizedNumber_172 : decode prog_3_method_13_code 172 = .ok (.putfield 144, 3) := by decide +kernel
theorem d_Lx_sizedNumber_175 : decode prog_3_method_13_code 175 = .ok (.aload 11, 2) := by decide +kernel
theorem d_Lx_sizedNumber_177 : decode prog_3_method_13_code 177 = .ok (.lload 7, 2) := by decide +kernel
theorem d_Lx_sizedNumber_179 : decode prog_3_method_13_code 179 = .ok (.bipush 32, 2) := by decide +kernel
theorem d_Lx_sizedNumber_181 : decode prog_3_method_13_code 181 = .ok (.lshl, 1) := by decide +kernel
theorem d_Lx_sizedNumber_182 : decode prog_3_method_13_code 182 = .ok (.lload 9, 2) := by decide +kernel
theorem d_Lx_sizedNumber_184 : decode prog_3_method_13_code 184 = .ok (.lor, 1) := by decide +kernel
theorem d_Lx_sizedNumber_185 : decode prog_3_method_13_code 185 = .ok (.putfield 126, 3) := by decide +kernel
theorem d_Lx_sizedNumber_188 : decode prog_3_method_13_code 188 = .ok (.iload 4, 2) := by decide +kernel
theorem d_Lx_sizedNumber_190 : decode prog_3_method_13_code 190 = .ok (.bipush 64, 2) := by decide +kernel
theorem d_Lx_sizedNumber_192 : decode prog_3_method_13_code 192 = .ok (.if_icmp .ge 21, 3) := by decide +kernel
theorem d_Lx_sizedNumber_195 : decode prog_3_method_13_code 195 = .ok (.aload 11, 2) := by decide +kernel
theorem d_Lx_sizedNumber_197 : decode prog_3_method_13_code 197 = .ok (.getfield 126, 3) := by decide +kernel
theorem d_Lx_sizedNumber_200 : decode prog_3_method_13_code 200 = .ok (.iload 4, 2) := by decide +kernel
theorem d_Lx_sizedNumber_202 : decode prog_3_method_13_code 202 = .ok (.lushr, 1) := by decide +kernel
theorem d_Lx_sizedNumber_203 : decode prog_3_method_13_code 203 = .ok (.lconst 0, 1) := by decide +kernel
theorem d_Lx_sizedNumber_204 : decode prog_3_method_13_code 204 = .ok (.lcmp, 1) := by decide +kernel
theorem d_Lx_sizedNumber_205 : decode prog_3_method_13_code 205 = .ok (.ifCond .eq 8, 3) := by decide +kernel
theorem d_Lx_sizedNumber_208 : decode prog_3_method_13_code 208 = .ok (.aload 6, 2) := by decide +kernel
theorem d_Lx_sizedNumber_210 : decode prog_3_method_13_code 210 = .ok (.goto 5, 3) := by decide +kernel
theorem d_Lx_sizedNumber_213 : decode prog_3_method_13_code 213 = .ok (.aload 11, 2) := by decide +kernel
theorem d_Lx_sizedNumber_215 : decode prog_3_method_13_code 215 = .ok (.areturn, 1) := by decide +kernel
theorem f_Lx_144 : cx_F "CircuitText$Lexer" 144 7 5 (.int) false := ⟨_, F_To, 7, t_To, k_To, by decide, rfl, rfl, Or.inr ⟨"CircuitText", (in_1 (List.mem_of_getElem? (i := 156) rfl))⟩⟩
abbrev m_Lx_number : cx_M := (⟨"CircuitText$Lexer", "number", "(I)LCircuitText$Token;"⟩, prog_3_method_10_code, 5, (Option.some (Jvm.ClassFile.FieldType.object "CircuitText$Token")), [], [false, false])
theorem w_Lx_number : cx_W m_Lx_number := ⟨Or.inl ⟨(in_2 (List.mem_of_getElem? (i := 154) rfl)), rfl⟩, by decide +kernel, by decide, by decide, by decide +kernel⟩
theorem n_Lx_number : (parseMethodDescriptor m_Lx_number.1.desc).map (fun d => d.parameters.length) = some 1 := by decide +kernel
theorem d_Lx_number_0 : decode prog_3_method_10_code 0 = .ok (.iconst (-1), 1) := by decide +kernel
theorem d_Lx_number_1 : decode prog_3_method_10_code 1 = .ok (.istore_n 2, 1) := by decide +kernel
theorem d_Lx_number_2 : decode prog_3_method_10_code 2 = .ok (.iload_n 1, 1) := by decide +kernel
theorem d_Lx_number_3 : decode prog_3_method_10_code 3 = .ok (.istore_n 3, 1) := by decide +kernel
theorem d_Lx_number_4 : decode prog_3_method_10_code 4 = .ok (.iload_n 3, 1) := by decide +kernel
theorem d_Lx_number_5 : decode prog_3_method_10_code 5 = .ok (.aload_n 0, 1) := by decide +kernel
theorem d_Lx_number_6 : decode prog_3_method_10_code 6 = .ok (.getfield 18, 3) := by decide +kernel
theorem d_Lx_number_9 : decode prog_3_method_10_code 9 = .ok (.getfield 58, 3) := by decide +kernel
theorem d_Lx_number_12 : decode prog_3_method_10_code 12 = .ok (.if_icmp .ge 47, 3) := by decide +kernel
theorem d_Lx_number_15 : decode prog_3_method_10_code 15 = .ok (.aload_n 0, 1) := by decide +kernel
theorem d_Lx_number_16 : decode prog_3_method_10_code 16 = .ok (.getfield 18, 3) := by decide +kernel
theorem d_Lx_number_19 : decode prog_3_method_10_code 19 = .ok (.iload_n 3, 1) := by decide +kernel
theorem d_Lx_number_20 : decode prog_3_method_10_code 20 = .ok (.invokevirtual 47, 3) := by decide +kernel
theorem d_Lx_number_23 : decode prog_3_method_10_code 23 = .ok (.istore 4, 2) := by decide +kernel
theorem d_Lx_number_25 : decode prog_3_method_10_code 25 = .ok (.iload 4, 2) := by decide +kernel
theorem d_Lx_number_27 : decode prog_3_method_10_code 27 = .ok (.bipush 39, 2) := by decide +kernel
theorem d_Lx_number_29 : decode prog_3_method_10_code 29 = .ok (.if_icmp .ne 13, 3) := by decide +kernel
theorem d_Lx_number_32 : decode prog_3_method_10_code 32 = .ok (.iload_n 2, 1) := by decide +kernel
theorem d_Lx_number_33 : decode prog_3_method_10_code 33 = .ok (.iconst (-1), 1) := by decide +kernel
theorem d_Lx_number_34 : decode prog_3_method_10_code 34 = .ok (.if_icmp .ne 8, 3) := by decide +kernel
theorem d_Lx_number_37 : decode prog_3_method_10_code 37 = .ok (.iload_n 3, 1) := by decide +kernel
theorem d_Lx_number_38 : decode prog_3_method_10_code 38 = .ok (.istore_n 2, 1) := by decide +kernel
theorem d_Lx_number_39 : decode prog_3_method_10_code 39 = .ok (.goto 14, 3) := by decide +kernel
theorem d_Lx_number_42 : decode prog_3_method_10_code 42 = .ok (.iload 4, 2) := by decide +kernel
theorem d_Lx_number_44 : decode prog_3_method_10_code 44 = .ok (.invokestatic 80, 3) := by decide +kernel
theorem d_Lx_number_47 : decode prog_3_method_10_code 47 = .ok (.ifCond .ne 6, 3) := by decide +kernel
theorem d_Lx_number_50 : decode prog_3_method_10_code 50 = .ok (.goto 9, 3) := by decide +kernel
theorem d_Lx_number_53 : decode prog_3_method_10_code 53 = .ok (.iinc 3 1, 3) := by decide +kernel
theorem d_Lx_number_56 : decode prog_3_method_10_code 56 = .ok (.goto (-52), 3) := by decide +kernel
theorem d_Lx_number_59 : decode prog_3_method_10_code 59 = .ok (.iload_n 2, 1) := by decide +kernel
theorem d_Lx_number_60 : decode prog_3_method_10_code 60 = .ok (.iconst (-1), 1) := by decide +kernel
theorem d_Lx_number_61 : decode prog_3_method_10_code 61 = .ok (.if_icmp .ne 12, 3) := by decide +kernel
theorem d_Lx_number_64 : decode prog_3_method_10_code 64 = .ok (.aload_n 0, 1) := by decide +kernel
theorem d_Lx_number_65 : decode prog_3_method_10_code 65 = .ok (.iload_n 1, 1) := by decide +kernel
theorem d_Lx_number_66 : decode prog_3_method_10_code 66 = .ok (.iload_n 3, 1) := by decide +kernel
theorem d_Lx_number_67 : decode prog_3_method_10_code 67 = .ok (.invokevirtual 113, 3) := by decide +kernel
theorem d_Lx_number_70 : decode prog_3_method_10_code 70 = .ok (.goto 10, 3) := by decide +kernel
theorem d_Lx_number_73 : decode prog_3_method_10_code 73 = .ok (.aload_n 0, 1) := by decide +kernel
theorem d_Lx_number_74 : decode prog_3_method_10_code 74 = .ok (.iload_n 1, 1) := by decide +kernel
theorem d_Lx_number_75 : decode prog_3_method_10_code 75 = .ok (.iload_n 2, 1) := by decide +kernel
theorem d_Lx_number_76 : decode prog_3_method_10_code 76 = .ok (.iload_n 3, 1) := by decide +kernel
theorem d_Lx_number_77 : decode prog_3_method_10_code 77 = .ok (.invokevirtual 117, 3) := by decide +kernel
theorem d_Lx_number_80 : decode prog_3_method_10_code 80 = .ok (.areturn, 1) := by decide +kernel
theorem l_Lx_136 : cx_LS "CircuitText$Lexer" 136 m_Lx_baseOf := ⟨Or.inl (in_2 (List.mem_of_getElem? (i := 177) rfl)), w_Lx_baseOf, (in_2 (List.mem_of_getElem? (i := 178) rfl)), (in_1 (List.mem_of_getElem? (i := 19) rfl))⟩
theorem l_Lx_139 : cx_LS "CircuitText$Lexer" 139 m_Lx_digitOf := ⟨Or.inl (in_2 (List.mem_of_getElem? (i := 180) rfl)), w_Lx_digitOf, (in_2 (List.mem_of_getElem? (i := 181) rfl)), (in_1 (List.mem_of_getElem? (i := 19) rfl))⟩
theorem l_Lx_80 : cx_LS "CircuitText$Lexer" 80 m_Lx_goesOn := ⟨Or.inl (in_2 (List.mem_of_getElem? (i := 155) rfl)), w_Lx_goesOn, (in_2 (List.mem_of_getElem? (i := 156) rfl)), (in_1 (List.mem_of_getElem? (i := 19) rfl))⟩
theorem l_Lx_113 : cx_LV "CircuitText$Lexer" 113 2 m_Lx_plainNumber := ⟨Or.inl (in_2 (List.mem_of_getElem? (i := 161) rfl)), w_Lx_plainNumber, (in_2 (List.mem_of_getElem? (i := 163) rfl)), _, rfl, (List.mem_append_left _ (List.mem_of_getElem? (i := 7) rfl))⟩
theorem l_Lx_117 : cx_LV "CircuitText$Lexer" 117 2 m_Lx_sizedNumber := ⟨Or.inl (in_2 (List.mem_of_getElem? (i := 173) rfl)), w_Lx_sizedNumber, (in_2 (List.mem_of_getElem? (i := 175) rfl)), _, rfl, (List.mem_append_left _ (List.mem_of_getElem? (i := 9) rfl))⟩
set_option maxRecDepth 100000 in
theorem c_Ar_copyOfRange {k : cx_K} {l : Launch} {G : cx_G} {b n a m : Nat} {f : Nat → Int32} (hG : G.1 b = some (.inl (k.2.1 0, n, .inl f))) (hf : ∀ j, fits .byte (.int (f j)) = true) (ham : a + m ≤ n) (hn : n ≤ 1048576) (r1 : G.2.1 + 1 ≤ 601024) (r2 : G.2.2 + m ≤ 7293034) : cx_Sp k l m_Ar_copyOfRange 2 [.ref b, .int (nI a), .int (nI (a + m))] G (tx_nb k G m (fun j => f (a + j))) := by
  intro E hE
  refine cx_iload_n (i := 1) hE d_Ar_copyOfRange_0 rfl rfl ?_
  refine cx_if_ne (tgt := 10) hE d_Ar_copyOfRange_1 (by decide) (fun c_1 => ?_) (fun c_1 => ?_)
  · refine cx_aload_n (i := 0) hE d_Ar_copyOfRange_10 rfl rfl ?_
    refine cx_iload_n (i := 1) hE d_Ar_copyOfRange_11 rfl rfl ?_
    refine cx_iload_n (i := 2) hE d_Ar_copyOfRange_12 rfl rfl ?_
    refine cx_invS hE d_Ar_copyOfRange_13 l_Ar_339 (c_Ar_copyOfRangeByte hG hf ham hn r1 r2) rfl (by omega) (Nat.le_of_ble_eq_true rfl) n_Ar_copyOfRangeByte rfl (fun v G1 q => ?_) (fun a G1 q => by obtain ⟨_, _, q, _⟩ := q; cases q)
    obtain ⟨x, g, q0, q⟩ := q
    cases q0
    show cx_V E _ _ [.ref x] G1
    refine cx_aret (r := some x) hE d_Ar_copyOfRange_16 rfl (by first | exact Or.inl ⟨_, rfl⟩ | exact Or.inr ⟨_, rfl⟩) ?_
    exact ⟨x, g, rfl, q⟩
  · refine cx_iload_n (i := 2) hE d_Ar_copyOfRange_4 rfl rfl ?_
    refine cx_aload_n (i := 0) hE d_Ar_copyOfRange_5 rfl rfl ?_
    refine cx_alen 0 hE d_Ar_copyOfRange_6 rfl (by assumption) rfl ?_
    refine cx_icmp_eq (tgt := 17) hE d_Ar_copyOfRange_7 (by decide) (fun c_7 => ?_) (fun c_7 => ?_)
    · have q_1 : a = 0 := (nI_eq (a := a) (b := 0) (by omega) (by omega)).mp c_1
      have q_7 : a + m = n := (nI_eq (by omega) (by omega)).mp c_7
      have q_m : m = n := by omega
      subst q_m
      subst q_1
      refine cx_aload_n (i := 0) hE d_Ar_copyOfRange_17 rfl rfl ?_
      refine cx_clone hE d_Ar_copyOfRange_18 (in_3 (List.mem_of_getElem? (i := 65) rfl)) hG hf (by omega) (Nat.le_of_ble_eq_true rfl) (by show _ ≤ 601024; omega) (by show _ ≤ 7293034; omega) (fun a_18 n_18 b_18 => ?_)
      refine cx_gen (fun G_18 g_18 => ?_)
      have h_18 := cx_ms g_18
      refine cx_castB hE d_Ar_copyOfRange_21 (in_3 (List.mem_of_getElem? (i := 71) rfl)) h_18 ?_
      refine cx_aret (r := some a_18) hE d_Ar_copyOfRange_24 rfl (by first | exact Or.inl ⟨_, rfl⟩ | exact Or.inr ⟨_, rfl⟩) ?_
      subst g_18
      exact ⟨_, _, rfl, n_18, cx_ext.mk n_18, h_18, fun j _ => by show f j = f (0 + j); rw [Nat.zero_add], hf, rfl, rfl⟩
    · refine cx_aload_n (i := 0) hE d_Ar_copyOfRange_10 rfl rfl ?_
      refine cx_iload_n (i := 1) hE d_Ar_copyOfRange_11 rfl rfl ?_
      refine cx_iload_n (i := 2) hE d_Ar_copyOfRange_12 rfl rfl ?_
      refine cx_invS hE d_Ar_copyOfRange_13 l_Ar_339 (c_Ar_copyOfRangeByte hG hf ham hn r1 r2) rfl (by omega) (Nat.le_of_ble_eq_true rfl) n_Ar_copyOfRangeByte rfl (fun v G1 q => ?_) (fun a G1 q => by obtain ⟨_, _, q, _⟩ := q; cases q)
      obtain ⟨x, g, q0, q⟩ := q
      cases q0
      show cx_V E _ _ [.ref x] G1
      refine cx_aret (r := some x) hE d_Ar_copyOfRange_16 rfl (by first | exact Or.inl ⟨_, rfl⟩ | exact Or.inr ⟨_, rfl⟩) ?_
      exact ⟨x, g, rfl, q⟩
set_option maxRecDepth 100000 in
theorem c_Ta_copy {k : cx_K} {l : Launch} {G : cx_G} {ta n a m : Nat} {f : Nat → Int32} (hT : tx_T k G ta n f) (ham : a + m ≤ n) (r1 : G.2.1 + 1 ≤ 601024) (r2 : G.2.2 + m ≤ 7293034) : cx_Sp k l m_Ta_copy 3 [.ref ta, .int (nI a), .int (nI (a + m))] G (tx_nb k G m (fun j => f (a + j))) := by
  intro E hE
  obtain ⟨b, cap, h1, h2, h3, h4, hf⟩ := hT
  refine cx_iload_n (i := 1) hE d_Ta_copy_0 rfl rfl ?_
  refine cx_if_lt (tgt := 21) hE d_Ta_copy_1 (by decide) (fun c_1 => ?_) (fun c_1 => ?_)
  · exact absurd c_1 (nI_pos (by omega))
    -- end
  · refine cx_iload_n (i := 1) hE d_Ta_copy_4 rfl rfl ?_
    refine cx_iload_n (i := 2) hE d_Ta_copy_5 rfl rfl ?_
    refine cx_icmp_gt (tgt := 21) hE d_Ta_copy_6 (by decide) (fun c_6 => ?_) (fun c_6 => ?_)
    · exact absurd c_6 (nI_nlt (by omega) (by omega))
      -- end
    · refine cx_iload_n (i := 2) hE d_Ta_copy_9 rfl rfl ?_
      refine cx_aload_n (i := 0) hE d_Ta_copy_10 rfl rfl ?_
      refine cx_get hE d_Ta_copy_11 f_Ta_15 (by assumption) (by rfl) ?_
      refine cx_icmp_gt (tgt := 21) hE d_Ta_copy_14 (by decide) (fun c_14 => ?_) (fun c_14 => ?_)
      · exact absurd c_14 (nI_nlt (by omega) (by omega))
        -- end
      · refine cx_iconst (v := 1) hE d_Ta_copy_17 (by decide) ?_
        refine cx_goto (tgt := 22) hE d_Ta_copy_18 (by decide) ?_
        refine cx_istore_n (i := 3) hE d_Ta_copy_22 rfl (by decide) ?_
        refine cx_iload_n (i := 3) hE d_Ta_copy_23 rfl rfl ?_
        refine cx_if_eq (tgt := 39) hE d_Ta_copy_24 (by decide) (fun c_24 => ?_) (fun c_24 => ?_)
        · exact absurd c_24 (by decide)
          -- end
        · refine cx_aload_n (i := 0) hE d_Ta_copy_27 rfl rfl ?_
          refine cx_get hE d_Ta_copy_28 f_Ta_9 (by assumption) (by rfl) ?_
          refine cx_iload_n (i := 1) hE d_Ta_copy_31 rfl rfl ?_
          refine cx_iload_n (i := 2) hE d_Ta_copy_32 rfl rfl ?_
          refine cx_invS hE d_Ta_copy_33 l_Ta_25 (c_Ar_copyOfRange h2 hf (by omega) (by omega) r1 r2) rfl (by omega) (Nat.le_of_ble_eq_true rfl) n_Ar_copyOfRange rfl (fun v G1 q => ?_) (fun a G1 q => by obtain ⟨_, _, q, _⟩ := q; cases q)
          obtain ⟨x, g, q0, q⟩ := q
          cases q0
          show cx_V E _ _ [.ref x] G1
          refine cx_goto (tgt := 42) hE d_Ta_copy_36 (by decide) ?_
          refine cx_aret (r := some x) hE d_Ta_copy_42 rfl (by first | exact Or.inl ⟨_, rfl⟩ | exact Or.inr ⟨_, rfl⟩) ?_
          exact ⟨x, g, rfl, q⟩
theorem tx_ch {n p : Nat} (f : Nat → Int32) (hp : p < n) : ∃ ch, ch < 256 ∧ tx_at n f p = nI ch := by
  rw [tx_at, if_pos hp]
  exact pk_andE (f p) (m := 255) 8 (by decide)
/-- one of the pairs of signs, from place i of their row on -/
def tx_pf (h n : Int32) : Nat → Nat → Bool
  | 0, _ => false
  | m + 1, i => (decide (h = cx_ch 2 i) && decide (n = cx_ch 2 (i + 1))) || tx_pf h n m (i + 2)
def tx_sgk (h n : Int32) : Int32 := if tx_pf h n 8 0 = true then h * 256 + n else if 0 ≤ (cx_ix 3 h).toInt then h else 23
def tx_sgl (h n : Int32) : Nat := if tx_pf h n 8 0 = true then 2 else 1
theorem tx_newof {G G' : cx_G} {a : Nat} {kd pl bh : Int32} (ha : G.1 a = none) (h : G' = cx_mk G a (.inr (7, [.int kd, .int pl, .int bh, .null, .null, .int 0, .long 0])) 7) : tx_new G kd pl bh none 0 0 (.inl (some (.ref a))) G' := by
  subst h
  exact ⟨a, rfl, ha, cx_ext.mk ha, cx_ms rfl, by show G.2.1 ≤ G.2.1 + 1; omega, by show G.2.2 ≤ G.2.2 + 7; omega, by show G.2.1 + 1 ≤ _; omega, by show G.2.2 + 7 ≤ _; omega⟩
theorem nI_addl (a b : Nat) {x : Int32} (h : x = nI b) : nI a + x = nI (a + b) := by rw [h, nI_add]
set_option maxRecDepth 100000 in
theorem c_Lx_sign {k : cx_K} {l : Launch} {G : cx_G} {lx ta ws n p : Nat} {f : Nat → Int32} (hL : tx_L k G lx ta ws n f) (hpn : p < n) (r1 : G.2.1 + 2 ≤ 601024) (r2 : G.2.2 + 14 ≤ 7293034) : cx_Sp k l m_Lx_sign 4 [.ref lx, .int (nI p)] G (tx_new G (tx_sgk (tx_at n f p) (tx_at n f (p + 1))) (nI p) (nI (p + tx_sgl (tx_at n f p) (tx_at n f (p + 1)))) none 0 0) := by
  intro E hE
  have hT : tx_T k G ta n f := hL.2
  obtain ⟨hl, b, cap, h1, h2, h3, h4, hf⟩ := id hL
  obtain ⟨ch, hch, hc⟩ := tx_ch f hpn
  have q_c : ((tx_at n f p).toUInt32 % 65536).toInt32 = tx_at n f p := by
    rw [hc, pk_char, pk_tn (by omega), Nat.mod_eq_of_lt (by omega)]
  have hloop : ∀ (m i : Nat), i + 2 * m = 16 → tx_pf (tx_at n f p) (tx_at n f (p + 1)) m i = tx_pf (tx_at n f p) (tx_at n f (p + 1)) 8 0 → cx_V E 23 [(4, false, .int (nI i)), (3, false, .int (tx_at n f (p + 1))), (2, false, .int (tx_at n f p)), (0, false, .ref lx), (1, false, .int (nI p))] [] G := by
    intro m
    induction m with
    | zero =>
      intro i hi hr
      refine cx_iload hE d_Lx_sign_23 rfl ?_
      refine cx_iconst (v := 1) hE d_Lx_sign_25 (by decide) ?_
      refine cx_iadd hE d_Lx_sign_26 ?_
      show cx_V E _ _ (.int (nI i + 1) :: _) G
      rw [nI_1 i]
      refine cx_ldcS (i := 2) hE d_Lx_sign_27 rfl rfl rfl ?_
      refine cx_invK1 (i := 2) hE d_Lx_sign_29 (in_3 (List.mem_of_getElem? (i := 238) rfl)) w_St_length (in_2 (List.mem_of_getElem? (i := 19) rfl)) (in_2 (List.mem_of_getElem? (i := 20) rfl)) (by decide) (c_St_length (i := 2) (by decide)) rfl (by omega) (Nat.le_of_ble_eq_true rfl) n_St_length rfl ?_
      refine cx_icmp_ge (tgt := 84) hE d_Lx_sign_32 (by decide) (fun c_32 => ?_) (fun c_32 => ?_)
      · refine cx_ldcS (i := 3) hE d_Lx_sign_84 rfl rfl rfl ?_
        refine cx_iload_n (i := 2) hE d_Lx_sign_86 rfl rfl ?_
        refine cx_i2c hE d_Lx_sign_87 ?_
        rw [q_c]
        refine cx_invK1 (i := 3) hE d_Lx_sign_88 (in_4 (List.mem_of_getElem? (i := 1) rfl)) w_St_indexOf1 (in_4 (List.mem_of_getElem? (i := 2) rfl)) (in_4 (List.mem_of_getElem? (i := 3) rfl)) (by decide) (c_St_indexOf1 (i := 3) (by decide) hch hc) rfl (by omega) (Nat.le_of_ble_eq_true rfl) n_St_indexOf1 rfl ?_
        refine cx_if_lt (tgt := 98) hE d_Lx_sign_91 (by decide) (fun c_91 => ?_) (fun c_91 => ?_)
        · have q_91 : ¬ 0 ≤ (cx_ix 3 (tx_at n f p)).toInt := by
            rw [Int32.lt_iff_toInt_lt] at c_91
            simp only [Int32.reduceToInt] at c_91
            omega
          refine cx_iconst (v := 0) hE d_Lx_sign_98 (by decide) ?_
          refine cx_istore hE d_Lx_sign_99 (by decide) ?_
          refine cx_newh 7 rfl hE d_Lx_sign_101 z_Lx_32 (by omega) (by omega) (fun a_101 G_101 n_101 b_101 g_101 h_101 => ?_)
          refine cx_dup hE d_Lx_sign_104 ?_
          refine cx_iload hE d_Lx_sign_105 rfl ?_
          refine cx_if_eq (tgt := 114) hE d_Lx_sign_107 (by decide) (fun c_107 => ?_) (fun c_107 => ?_)
          · refine cx_bipush (v := 23) hE d_Lx_sign_114 (by decide) ?_
            refine cx_iload_n (i := 1) hE d_Lx_sign_116 rfl rfl ?_
            refine cx_iload_n (i := 1) hE d_Lx_sign_117 rfl rfl ?_
            refine cx_iconst (v := 1) hE d_Lx_sign_118 (by decide) ?_
            refine cx_iadd hE d_Lx_sign_119 ?_
            show cx_V E _ _ (.int (nI p + 1) :: _) _
            rw [nI_1 p]
            refine cx_invI0 hE d_Lx_sign_120 l_Lx_61 (c_To_init h_101) rfl (by omega) (Nat.le_of_ble_eq_true rfl) n_To_init rfl ?_
            refine cx_gen (fun G_120 g_120 => ?_)
            refine cx_aret (r := some a_101) hE d_Lx_sign_123 rfl (by first | exact Or.inl ⟨_, rfl⟩ | exact Or.inr ⟨_, rfl⟩) ?_
            subst g_120 g_101
            rw [cx_mp]
            rw [tx_sgk, tx_sgl, ← hr, tx_pf]
            simp only [Bool.false_eq_true, if_false]
            first
              | (rw [if_pos q_91]; exact tx_newof n_101 rfl)
              | (rw [if_neg q_91]; exact tx_newof n_101 rfl)
          · exact absurd rfl c_107
            -- end
        · have q_91 : 0 ≤ (cx_ix 3 (tx_at n f p)).toInt := by
            rw [Int32.lt_iff_toInt_lt] at c_91
            simp only [Int32.reduceToInt] at c_91
            omega
          refine cx_iconst (v := 1) hE d_Lx_sign_94 (by decide) ?_
          refine cx_goto (tgt := 99) hE d_Lx_sign_95 (by decide) ?_
          refine cx_istore hE d_Lx_sign_99 (by decide) ?_
          refine cx_newh 7 rfl hE d_Lx_sign_101 z_Lx_32 (by omega) (by omega) (fun a_101 G_101 n_101 b_101 g_101 h_101 => ?_)
          refine cx_dup hE d_Lx_sign_104 ?_
          refine cx_iload hE d_Lx_sign_105 rfl ?_
          refine cx_if_eq (tgt := 114) hE d_Lx_sign_107 (by decide) (fun c_107 => ?_) (fun c_107 => ?_)
          · exact absurd c_107 (by decide)
            -- end
          · refine cx_iload_n (i := 2) hE d_Lx_sign_110 rfl rfl ?_
            refine cx_goto (tgt := 116) hE d_Lx_sign_111 (by decide) ?_
            refine cx_iload_n (i := 1) hE d_Lx_sign_116 rfl rfl ?_
            refine cx_iload_n (i := 1) hE d_Lx_sign_117 rfl rfl ?_
            refine cx_iconst (v := 1) hE d_Lx_sign_118 (by decide) ?_
            refine cx_iadd hE d_Lx_sign_119 ?_
            show cx_V E _ _ (.int (nI p + 1) :: _) _
            rw [nI_1 p]
            refine cx_invI0 hE d_Lx_sign_120 l_Lx_61 (c_To_init h_101) rfl (by omega) (Nat.le_of_ble_eq_true rfl) n_To_init rfl ?_
            refine cx_gen (fun G_120 g_120 => ?_)
            refine cx_aret (r := some a_101) hE d_Lx_sign_123 rfl (by first | exact Or.inl ⟨_, rfl⟩ | exact Or.inr ⟨_, rfl⟩) ?_
            subst g_120 g_101
            rw [cx_mp]
            rw [tx_sgk, tx_sgl, ← hr, tx_pf]
            simp only [Bool.false_eq_true, if_false]
            first
              | (rw [if_pos q_91]; exact tx_newof n_101 rfl)
              | (rw [if_neg q_91]; exact tx_newof n_101 rfl)
      · exact absurd (nI_le (a := 16) (b := i + 1) (by omega) (by omega)) c_32
        -- end
    | succ m ih =>
      intro i hi hr
      refine cx_iload hE d_Lx_sign_23 rfl ?_
      refine cx_iconst (v := 1) hE d_Lx_sign_25 (by decide) ?_
      refine cx_iadd hE d_Lx_sign_26 ?_
      show cx_V E _ _ (.int (nI i + 1) :: _) G
      rw [nI_1 i]
      refine cx_ldcS (i := 2) hE d_Lx_sign_27 rfl rfl rfl ?_
      refine cx_invK1 (i := 2) hE d_Lx_sign_29 (in_3 (List.mem_of_getElem? (i := 238) rfl)) w_St_length (in_2 (List.mem_of_getElem? (i := 19) rfl)) (in_2 (List.mem_of_getElem? (i := 20) rfl)) (by decide) (c_St_length (i := 2) (by decide)) rfl (by omega) (Nat.le_of_ble_eq_true rfl) n_St_length rfl ?_
      refine cx_icmp_ge (tgt := 84) hE d_Lx_sign_32 (by decide) (fun c_32 => ?_) (fun c_32 => ?_)
      · exact absurd c_32 (nI_ge (a := i + 1) (b := 16) (by omega) (by omega))
        -- end
      · refine cx_iload_n (i := 2) hE d_Lx_sign_35 rfl rfl ?_
        refine cx_ldcS (i := 2) hE d_Lx_sign_36 rfl rfl rfl ?_
        refine cx_iload hE d_Lx_sign_38 rfl ?_
        refine cx_invK1 (i := 2) hE d_Lx_sign_40 (in_3 (List.mem_of_getElem? (i := 239) rfl)) w_St_charAt (in_2 (List.mem_of_getElem? (i := 29) rfl)) (in_2 (List.mem_of_getElem? (i := 30) rfl)) (by decide) (c_St_charAt (i := 2) (j := i) (by decide) (by show i < 16; omega)) rfl (by omega) (Nat.le_of_ble_eq_true rfl) n_St_charAt rfl ?_
        refine cx_icmp_ne (tgt := 78) hE d_Lx_sign_43 (by decide) (fun c_43 => ?_) (fun c_43 => ?_)
        · refine cx_iinc (v := nI (i + 2)) hE d_Lx_sign_78 rfl (nI_addl i 2 rfl) (by decide) ?_
          refine cx_goto (tgt := 23) hE d_Lx_sign_81 (by decide) ?_
          refine cx_sub [0, 1, 2, 3, 4] rfl ?_
          exact ih (i + 2) (by omega) (by rw [← hr, tx_pf]; first | (rw [decide_eq_false c_43]; rfl) | (rw [decide_eq_false c_56, Bool.and_false]; rfl))
        · refine cx_iload_n (i := 3) hE d_Lx_sign_46 rfl rfl ?_
          refine cx_ldcS (i := 2) hE d_Lx_sign_47 rfl rfl rfl ?_
          refine cx_iload hE d_Lx_sign_49 rfl ?_
          refine cx_iconst (v := 1) hE d_Lx_sign_51 (by decide) ?_
          refine cx_iadd hE d_Lx_sign_52 ?_
          show cx_V E _ _ (.int (nI i + 1) :: _) G
          rw [nI_1 i]
          refine cx_invK1 (i := 2) hE d_Lx_sign_53 (in_3 (List.mem_of_getElem? (i := 239) rfl)) w_St_charAt (in_2 (List.mem_of_getElem? (i := 29) rfl)) (in_2 (List.mem_of_getElem? (i := 30) rfl)) (by decide) (c_St_charAt (i := 2) (j := i + 1) (by decide) (by show i + 1 < 16; omega)) rfl (by omega) (Nat.le_of_ble_eq_true rfl) n_St_charAt rfl ?_
          refine cx_icmp_ne (tgt := 78) hE d_Lx_sign_56 (by decide) (fun c_56 => ?_) (fun c_56 => ?_)
          · refine cx_iinc (v := nI (i + 2)) hE d_Lx_sign_78 rfl (nI_addl i 2 rfl) (by decide) ?_
            refine cx_goto (tgt := 23) hE d_Lx_sign_81 (by decide) ?_
            refine cx_sub [0, 1, 2, 3, 4] rfl ?_
            exact ih (i + 2) (by omega) (by rw [← hr, tx_pf]; first | (rw [decide_eq_false c_43]; rfl) | (rw [decide_eq_false c_56, Bool.and_false]; rfl))
          · refine cx_newh 7 rfl hE d_Lx_sign_59 z_Lx_32 (by omega) (by omega) (fun a_59 G_59 n_59 b_59 g_59 h_59 => ?_)
            refine cx_dup hE d_Lx_sign_62 ?_
            refine cx_iload_n (i := 2) hE d_Lx_sign_63 rfl rfl ?_
            refine cx_sipush (v := 256) hE d_Lx_sign_64 (by decide) ?_
            refine cx_imul hE d_Lx_sign_67 ?_
            refine cx_iload_n (i := 3) hE d_Lx_sign_68 rfl rfl ?_
            refine cx_iadd hE d_Lx_sign_69 ?_
            refine cx_iload_n (i := 1) hE d_Lx_sign_70 rfl rfl ?_
            refine cx_iload_n (i := 1) hE d_Lx_sign_71 rfl rfl ?_
            refine cx_iconst (v := 2) hE d_Lx_sign_72 (by decide) ?_
            refine cx_iadd hE d_Lx_sign_73 ?_
            rw [show nI p + 2 = nI (p + 2) from nI_addl p 2 rfl]
            refine cx_invI0 hE d_Lx_sign_74 l_Lx_61 (c_To_init h_59) rfl (by omega) (Nat.le_of_ble_eq_true rfl) n_To_init rfl ?_
            refine cx_gen (fun G_74 g_74 => ?_)
            refine cx_aret (r := some a_59) hE d_Lx_sign_77 rfl (by first | exact Or.inl ⟨_, rfl⟩ | exact Or.inr ⟨_, rfl⟩) ?_
            subst g_74 g_59
            rw [cx_mp]
            have q_t : tx_pf (tx_at n f p) (tx_at n f (p + 1)) 8 0 = true := by rw [← hr, tx_pf, decide_eq_true c_43, decide_eq_true c_56]; rfl
            rw [tx_sgk, tx_sgl, if_pos q_t, if_pos q_t]
            exact tx_newof n_59 rfl
  refine cx_aload_n (i := 0) hE d_Lx_sign_0 rfl rfl ?_
  refine cx_get hE d_Lx_sign_1 f_Lx_18 (by assumption) (by rfl) ?_
  refine cx_iload_n (i := 1) hE d_Lx_sign_4 rfl rfl ?_
  refine cx_invV1 hE d_Lx_sign_5 l_Lx_47 (by assumption) (c_Ta_byteAt (p := p) hT (by omega)) rfl (by omega) (Nat.le_of_ble_eq_true rfl) n_Ta_byteAt (by first | rfl | (simp only [List.map_cons, List.map_nil, cx_rfc]; rfl)) ?_
  refine cx_istore_n (i := 2) hE d_Lx_sign_8 rfl (by decide) ?_
  refine cx_aload_n (i := 0) hE d_Lx_sign_9 rfl rfl ?_
  refine cx_get hE d_Lx_sign_10 f_Lx_18 (by assumption) (by rfl) ?_
  refine cx_iload_n (i := 1) hE d_Lx_sign_13 rfl rfl ?_
  refine cx_iconst (v := 1) hE d_Lx_sign_14 (by decide) ?_
  refine cx_iadd hE d_Lx_sign_15 ?_
  show cx_V E _ _ (.int (nI p + 1) :: _) G
  rw [nI_1 p]
  refine cx_invV1 hE d_Lx_sign_16 l_Lx_47 (by assumption) (c_Ta_byteAt (p := p + 1) hT (by omega)) rfl (by omega) (Nat.le_of_ble_eq_true rfl) n_Ta_byteAt (by first | rfl | (simp only [List.map_cons, List.map_nil, cx_rfc]; rfl)) ?_
  refine cx_istore_n (i := 3) hE d_Lx_sign_19 rfl (by decide) ?_
  refine cx_iconst (v := 0) hE d_Lx_sign_20 (by decide) ?_
  refine cx_istore hE d_Lx_sign_21 (by decide) ?_
  refine cx_sub [0, 1, 2, 3, 4] rfl ?_
  exact hloop 8 0 rfl rfl

/-! WORDS: one object for each text. -/
/-- an array of bytes that holds the text T -/
def tx_ar (k : cx_K) (G : cx_G) (t : Nat) (T : List Int32) : Prop := ∃ g, G.1 t = some (.inl (k.2.1 0, T.length, .inl g)) ∧ (∀ j, j < T.length → g j = T.getD j 0) ∧ k.2.2.2.2.2.2 t
/-- a word's object: its text, the next of its chain, its kind, unit, declaration -/
def tx_wd (k : cx_K) (G : cx_G) (a : Nat) (T : List Int32) (nx : Option Nat) (kd : Int32) (u d : Option Nat) : Prop := ∃ tb, G.1 a = some (.inr (10, [.ref tb, va_rf nx, .int kd, va_rf u, va_rf d])) ∧ tx_ar k G tb T
theorem tx_ar.ext {k : cx_K} {G G' : cx_G} {t : Nat} {T : List Int32} (h : cx_ext G G') (hT : tx_ar k G t T) : tx_ar k G' t T := by
  obtain ⟨g, h1, h2⟩ := hT
  exact ⟨g, h _ _ h1, h2⟩
theorem tx_wd.ext {k : cx_K} {G G' : cx_G} {a : Nat} {T : List Int32} {nx : Option Nat} {kd : Int32} {u d : Option Nat} (h : cx_ext G G') (hw : tx_wd k G a T nx kd u d) : tx_wd k G' a T nx kd u d := by
  obtain ⟨tb, h1, h2⟩ := hw
  exact ⟨tb, h _ _ h1, h2.ext h⟩
theorem tx_leq {T X : List Int32} (hl : T.length = X.length) (h : ∀ j, j < T.length → T.getD j 0 = X.getD j 0) : T = X := by
  apply List.ext_getElem hl
  intro j h1 h2
  have := h j h1
  rw [List.getD_eq_getElem?_getD, List.getD_eq_getElem?_getD, List.getElem?_eq_getElem h1, List.getElem?_eq_getElem h2] at this
  exact this
abbrev m_Wd_init : cx_M := (⟨"CircuitText$Word", "<init>", "([BLCircuitText$Word;)V"⟩, prog_11_method_1_code, 3, (Option.none : Option Jvm.ClassFile.FieldType), [], [false, false, false])
theorem w_Wd_init : cx_W m_Wd_init := ⟨Or.inl ⟨(in_2 (List.mem_of_getElem? (i := 80) rfl)), rfl⟩, by decide +kernel, by decide, by decide, by decide +kernel⟩
theorem n_Wd_init : (parseMethodDescriptor m_Wd_init.1.desc).map (fun d => d.parameters.length) = some 2 := by decide +kernel
theorem d_Wd_init_0 : decode prog_11_method_1_code 0 = .ok (.aload_n 0, 1) := by decide +kernel
theorem d_Wd_init_1 : decode prog_11_method_1_code 1 = .ok (.invokespecial 3, 3) := by decide +kernel
theorem d_Wd_init_4 : decode prog_11_method_1_code 4 = .ok (.aload_n 0, 1) := by decide +kernel
theorem d_Wd_init_5 : decode prog_11_method_1_code 5 = .ok (.bipush 19, 2) := by decide +kernel
theorem d_Wd_init_7 : decode prog_11_method_1_code 7 = .ok (.putfield 9, 3) := by decide +kernel
theorem d_Wd_init_10 : decode prog_11_method_1_code 10 = .ok (.aload_n 0, 1) := by decide +kernel
theorem d_Wd_init_11 : decode prog_11_method_1_code 11 = .ok (.aconst_null, 1) := by decide +kernel
theorem d_Wd_init_12 : decode prog_11_method_1_code 12 = .ok (.putfield 15, 3) := by decide +kernel
theorem d_Wd_init_15 : decode prog_11_method_1_code 15 = .ok (.aload_n 0, 1) := by decide +kernel
theorem d_Wd_init_16 : decode prog_11_method_1_code 16 = .ok (.aconst_null, 1) := by decide +kernel
theorem d_Wd_init_17 : decode prog_11_method_1_code 17 = .ok (.putfield 19, 3) := by decide +kernel
theorem d_Wd_init_20 : decode prog_11_method_1_code 20 = .ok (.aload_n 0, 1) := by decide +kernel
theorem d_Wd_init_21 : decode prog_11_method_1_code 21 = .ok (.aload_n 1, 1) := by decide +kernel
theorem d_Wd_init_22 : decode prog_11_method_1_code 22 = .ok (.putfield 23, 3) := by decide +kernel
theorem d_Wd_init_25 : decode prog_11_method_1_code 25 = .ok (.aload_n 0, 1) := by decide +kernel
theorem d_Wd_init_26 : decode prog_11_method_1_code 26 = .ok (.aload_n 2, 1) := by decide +kernel
theorem d_Wd_init_27 : decode prog_11_method_1_code 27 = .ok (.putfield 27, 3) := by decide +kernel
theorem d_Wd_init_30 : decode prog_11_method_1_code 30 = .ok (.return_, 1) := by decide +kernel
theorem f_Wd_9 : cx_F "CircuitText$Word" 9 10 2 (.int) false := ⟨_, F_Wd, 5, t_Wd, k_Wd, by decide, rfl, rfl, Or.inl (in_2 (List.mem_of_getElem? (i := 86) rfl))⟩
theorem f_Wd_15 : cx_F "CircuitText$Word" 15 10 3 (.object "CircuitText$Unit") false := ⟨_, F_Wd, 5, t_Wd, k_Wd, by decide, rfl, rfl, Or.inl (in_2 (List.mem_of_getElem? (i := 89) rfl))⟩
theorem f_Wd_19 : cx_F "CircuitText$Word" 19 10 4 (.object "CircuitText$Name") false := ⟨_, F_Wd, 5, t_Wd, k_Wd, by decide, rfl, rfl, Or.inl (in_2 (List.mem_of_getElem? (i := 91) rfl))⟩
theorem f_Wd_23 : cx_F "CircuitText$Word" 23 10 0 (.array .byte) true := ⟨_, F_Wd, 5, t_Wd, k_Wd, by decide, rfl, rfl, Or.inl (in_2 (List.mem_of_getElem? (i := 82) rfl))⟩
theorem ff_Wd_23 : cx_FF "CircuitText$Word" 23 10 0 (.array .byte) := ⟨_, F_Wd, 5, t_Wd, k_Wd, by decide, rfl, rfl, rfl, (in_2 (List.mem_of_getElem? (i := 82) rfl))⟩
theorem f_Wd_27 : cx_F "CircuitText$Word" 27 10 1 (.object "CircuitText$Word") true := ⟨_, F_Wd, 5, t_Wd, k_Wd, by decide, rfl, rfl, Or.inl (in_2 (List.mem_of_getElem? (i := 84) rfl))⟩
theorem ff_Wd_27 : cx_FF "CircuitText$Word" 27 10 1 (.object "CircuitText$Word") := ⟨_, F_Wd, 5, t_Wd, k_Wd, by decide, rfl, rfl, rfl, (in_2 (List.mem_of_getElem? (i := 84) rfl))⟩
abbrev m_Wd_spells : cx_M := (⟨"CircuitText$Word", "spells", "([B)Z"⟩, prog_11_method_2_code, 4, (Option.some Jvm.ClassFile.FieldType.boolean), [], [false, false])
theorem w_Wd_spells : cx_W m_Wd_spells := ⟨Or.inl ⟨(in_2 (List.mem_of_getElem? (i := 76) rfl)), rfl⟩, by decide +kernel, by decide, by decide, by decide +kernel⟩
theorem n_Wd_spells : (parseMethodDescriptor m_Wd_spells.1.desc).map (fun d => d.parameters.length) = some 1 := by decide +kernel
theorem d_Wd_spells_0 : decode prog_11_method_2_code 0 = .ok (.aload_n 0, 1) := by decide +kernel
theorem d_Wd_spells_1 : decode prog_11_method_2_code 1 = .ok (.getfield 23, 3) := by decide +kernel
theorem d_Wd_spells_4 : decode prog_11_method_2_code 4 = .ok (.arraylength, 1) := by decide +kernel
theorem d_Wd_spells_5 : decode prog_11_method_2_code 5 = .ok (.aload_n 1, 1) := by decide +kernel
theorem d_Wd_spells_6 : decode prog_11_method_2_code 6 = .ok (.arraylength, 1) := by decide +kernel
theorem d_Wd_spells_7 : decode prog_11_method_2_code 7 = .ok (.if_icmp .ne 7, 3) := by decide +kernel
theorem d_Wd_spells_10 : decode prog_11_method_2_code 10 = .ok (.iconst 1, 1) := by decide +kernel
theorem d_Wd_spells_11 : decode prog_11_method_2_code 11 = .ok (.goto 4, 3) := by decide +kernel
theorem d_Wd_spells_14 : decode prog_11_method_2_code 14 = .ok (.iconst 0, 1) := by decide +kernel
theorem d_Wd_spells_15 : decode prog_11_method_2_code 15 = .ok (.istore_n 2, 1) := by decide +kernel
theorem d_Wd_spells_16 : decode prog_11_method_2_code 16 = .ok (.iconst 0, 1) := by decide +kernel
theorem d_Wd_spells_17 : decode prog_11_method_2_code 17 = .ok (.istore_n 3, 1) := by decide +kernel
theorem d_Wd_spells_18 : decode prog_11_method_2_code 18 = .ok (.iload_n 3, 1) := by decide +kernel
theorem d_Wd_spells_19 : decode prog_11_method_2_code 19 = .ok (.aload_n 0, 1) := by decide +kernel
theorem d_Wd_spells_20 : decode prog_11_method_2_code 20 = .ok (.getfield 23, 3) := by decide +kernel
theorem d_Wd_spells_23 : decode prog_11_method_2_code 23 = .ok (.arraylength, 1) := by decide +kernel
theorem d_Wd_spells_24 : decode prog_11_method_2_code 24 = .ok (.if_icmp .ge 37, 3) := by decide +kernel
theorem d_Wd_spells_27 : decode prog_11_method_2_code 27 = .ok (.iload_n 3, 1) := by decide +kernel
theorem d_Wd_spells_28 : decode prog_11_method_2_code 28 = .ok (.aload_n 1, 1) := by decide +kernel
theorem d_Wd_spells_29 : decode prog_11_method_2_code 29 = .ok (.arraylength, 1) := by decide +kernel
theorem d_Wd_spells_30 : decode prog_11_method_2_code 30 = .ok (.if_icmp .ge 31, 3) := by decide +kernel
theorem d_Wd_spells_33 : decode prog_11_method_2_code 33 = .ok (.iload_n 2, 1) := by decide +kernel
theorem d_Wd_spells_34 : decode prog_11_method_2_code 34 = .ok (.ifCond .eq 27, 3) := by decide +kernel
theorem d_Wd_spells_37 : decode prog_11_method_2_code 37 = .ok (.aload_n 0, 1) := by decide +kernel
theorem d_Wd_spells_38 : decode prog_11_method_2_code 38 = .ok (.getfield 23, 3) := by decide +kernel
theorem d_Wd_spells_41 : decode prog_11_method_2_code 41 = .ok (.iload_n 3, 1) := by decide +kernel
theorem d_Wd_spells_42 : decode prog_11_method_2_code 42 = .ok (.baload, 1) := by decide +kernel
theorem d_Wd_spells_43 : decode prog_11_method_2_code 43 = .ok (.aload_n 1, 1) := by decide +kernel
theorem d_Wd_spells_44 : decode prog_11_method_2_code 44 = .ok (.iload_n 3, 1) := by decide +kernel
theorem d_Wd_spells_45 : decode prog_11_method_2_code 45 = .ok (.baload, 1) := by decide +kernel
theorem d_Wd_spells_46 : decode prog_11_method_2_code 46 = .ok (.if_icmp .ne 7, 3) := by decide +kernel
theorem d_Wd_spells_49 : decode prog_11_method_2_code 49 = .ok (.iconst 1, 1) := by decide +kernel
theorem d_Wd_spells_50 : decode prog_11_method_2_code 50 = .ok (.goto 4, 3) := by decide +kernel
theorem d_Wd_spells_53 : decode prog_11_method_2_code 53 = .ok (.iconst 0, 1) := by decide +kernel
theorem d_Wd_spells_54 : decode prog_11_method_2_code 54 = .ok (.istore_n 2, 1) := by decide +kernel
theorem d_Wd_spells_55 : decode prog_11_method_2_code 55 = .ok (.iinc 3 1, 3) := by decide +kernel
theorem d_Wd_spells_58 : decode prog_11_method_2_code 58 = .ok (.goto (-40), 3) := by decide +kernel
theorem d_Wd_spells_61 : decode prog_11_method_2_code 61 = .ok (.iload_n 2, 1) := by decide +kernel
theorem d_Wd_spells_62 : decode prog_11_method_2_code 62 = .ok (.ireturn, 1) := by decide +kernel
abbrev m_Ws_wordOf : cx_M := (⟨"CircuitText$Words", "wordOf", "([B)LCircuitText$Word;"⟩, prog_12_method_3_code, 5, (Option.some (Jvm.ClassFile.FieldType.object "CircuitText$Word")), [], [false, false])
theorem w_Ws_wordOf : cx_W m_Ws_wordOf := ⟨Or.inl ⟨(in_2 (List.mem_of_getElem? (i := 72) rfl)), rfl⟩, by decide +kernel, by decide, by decide, by decide +kernel⟩
theorem n_Ws_wordOf : (parseMethodDescriptor m_Ws_wordOf.1.desc).map (fun d => d.parameters.length) = some 1 := by decide +kernel
theorem d_Ws_wordOf_0 : decode prog_12_method_3_code 0 = .ok (.iconst 0, 1) := by decide +kernel
theorem d_Ws_wordOf_1 : decode prog_12_method_3_code 1 = .ok (.istore_n 2, 1) := by decide +kernel
theorem d_Ws_wordOf_2 : decode prog_12_method_3_code 2 = .ok (.iconst 0, 1) := by decide +kernel
theorem d_Ws_wordOf_3 : decode prog_12_method_3_code 3 = .ok (.istore_n 3, 1) := by decide +kernel
theorem d_Ws_wordOf_4 : decode prog_12_method_3_code 4 = .ok (.iload_n 3, 1) := by decide +kernel
theorem d_Ws_wordOf_5 : decode prog_12_method_3_code 5 = .ok (.aload_n 1, 1) := by decide +kernel
theorem d_Ws_wordOf_6 : decode prog_12_method_3_code 6 = .ok (.arraylength, 1) := by decide +kernel
theorem d_Ws_wordOf_7 : decode prog_12_method_3_code 7 = .ok (.if_icmp .ge 18, 3) := by decide +kernel
theorem d_Ws_wordOf_10 : decode prog_12_method_3_code 10 = .ok (.bipush 31, 2) := by decide +kernel
theorem d_Ws_wordOf_12 : decode prog_12_method_3_code 12 = .ok (.iload_n 2, 1) := by decide +kernel
theorem d_Ws_wordOf_13 : decode prog_12_method_3_code 13 = .ok (.imul, 1) := by decide +kernel
theorem d_Ws_wordOf_14 : decode prog_12_method_3_code 14 = .ok (.aload_n 1, 1) := by decide +kernel
theorem d_Ws_wordOf_15 : decode prog_12_method_3_code 15 = .ok (.iload_n 3, 1) := by decide +kernel
theorem d_Ws_wordOf_16 : decode prog_12_method_3_code 16 = .ok (.baload, 1) := by decide +kernel
theorem d_Ws_wordOf_17 : decode prog_12_method_3_code 17 = .ok (.iadd, 1) := by decide +kernel
theorem d_Ws_wordOf_18 : decode prog_12_method_3_code 18 = .ok (.istore_n 2, 1) := by decide +kernel
theorem d_Ws_wordOf_19 : decode prog_12_method_3_code 19 = .ok (.iinc 3 1, 3) := by decide +kernel
theorem d_Ws_wordOf_22 : decode prog_12_method_3_code 22 = .ok (.goto (-18), 3) := by decide +kernel
theorem d_Ws_wordOf_25 : decode prog_12_method_3_code 25 = .ok (.iload_n 2, 1) := by decide +kernel
theorem d_Ws_wordOf_26 : decode prog_12_method_3_code 26 = .ok (.bipush 127, 2) := by decide +kernel
theorem d_Ws_wordOf_28 : decode prog_12_method_3_code 28 = .ok (.iand, 1) := by decide +kernel
theorem d_Ws_wordOf_29 : decode prog_12_method_3_code 29 = .ok (.istore_n 3, 1) := by decide +kernel
theorem d_Ws_wordOf_30 : decode prog_12_method_3_code 30 = .ok (.aload_n 0, 1) := by decide +kernel
theorem d_Ws_wordOf_31 : decode prog_12_method_3_code 31 = .ok (.getfield 13, 3) := by decide +kernel
theorem d_Ws_wordOf_34 : decode prog_12_method_3_code 34 = .ok (.iload_n 3, 1) := by decide +kernel
theorem d_Ws_wordOf_35 : decode prog_12_method_3_code 35 = .ok (.aaload, 1) := by decide +kernel
theorem d_Ws_wordOf_36 : decode prog_12_method_3_code 36 = .ok (.astore 4, 2) := by decide +kernel
theorem d_Ws_wordOf_38 : decode prog_12_method_3_code 38 = .ok (.aload 4, 2) := by decide +kernel
theorem d_Ws_wordOf_40 : decode prog_12_method_3_code 40 = .ok (.ifnull 25, 3) := by decide +kernel
theorem d_Ws_wordOf_43 : decode prog_12_method_3_code 43 = .ok (.aload 4, 2) := by decide +kernel
theorem d_Ws_wordOf_45 : decode prog_12_method_3_code 45 = .ok (.aload_n 1, 1) := by decide +kernel
theorem d_Ws_wordOf_46 : decode prog_12_method_3_code 46 = .ok (.invokevirtual 41, 3) := by decide +kernel
theorem d_Ws_wordOf_49 : decode prog_12_method_3_code 49 = .ok (.ifCond .eq 6, 3) := by decide +kernel
theorem d_Ws_wordOf_52 : decode prog_12_method_3_code 52 = .ok (.aload 4, 2) := by decide +kernel
theorem d_Ws_wordOf_54 : decode prog_12_method_3_code 54 = .ok (.areturn, 1) := by decide +kernel
theorem d_Ws_wordOf_55 : decode prog_12_method_3_code 55 = .ok (.aload 4, 2) := by decide +kernel
theorem d_Ws_wordOf_57 : decode prog_12_method_3_code 57 = .ok (.getfield 45, 3) := by decide +kernel
theorem d_Ws_wordOf_60 : decode prog_12_method_3_code 60 = .ok (.astore 4, 2) := by decide +kernel
theorem d_Ws_wordOf_62 : decode prog_12_method_3_code 62 = .ok (.goto (-24), 3) := by decide +kernel
theorem d_Ws_wordOf_65 : decode prog_12_method_3_code 65 = .ok (.aload_n 0, 1) := by decide +kernel
theorem d_Ws_wordOf_66 : decode prog_12_method_3_code 66 = .ok (.getfield 13, 3) := by decide +kernel
theorem d_Ws_wordOf_69 : decode prog_12_method_3_code 69 = .ok (.iload_n 3, 1) := by decide +kernel
theorem d_Ws_wordOf_70 : decode prog_12_method_3_code 70 = .ok (.new 11, 3) := by decide +kernel
theorem d_Ws_wordOf_73 : decode prog_12_method_3_code 73 = .ok (.dup, 1) := by decide +kernel
theorem d_Ws_wordOf_74 : decode prog_12_method_3_code 74 = .ok (.aload_n 1, 1) := by decide +kernel
theorem d_Ws_wordOf_75 : decode prog_12_method_3_code 75 = .ok (.aload_n 0, 1) := by decide +kernel
theorem d_Ws_wordOf_76 : decode prog_12_method_3_code 76 = .ok (.getfield 13, 3) := by decide +kernel
theorem d_Ws_wordOf_79 : decode prog_12_method_3_code 79 = .ok (.iload_n 3, 1) := by decide +kernel
theorem d_Ws_wordOf_80 : decode prog_12_method_3_code 80 = .ok (.aaload, 1) := by decide +kernel
theorem d_Ws_wordOf_81 : decode prog_12_method_3_code 81 = .ok (.invokespecial 49, 3) := by decide +kernel
theorem d_Ws_wordOf_84 : decode prog_12_method_3_code 84 = .ok (.aastore, 1) := by decide +kernel
theorem d_Ws_wordOf_85 : decode prog_12_method_3_code 85 = .ok (.aload_n 0, 1) := by decide +kernel
theorem d_Ws_wordOf_86 : decode prog_12_method_3_code 86 = .ok (.getfield 13, 3) := by decide +kernel
theorem d_Ws_wordOf_89 : decode prog_12_method_3_code 89 = .ok (.iload_n 3, 1) := by decide +kernel
theorem d_Ws_wordOf_90 : decode prog_12_method_3_code 90 = .ok (.aaload, 1) := by decide +kernel
theorem d_Ws_wordOf_91 : decode prog_12_method_3_code 91 = .ok (.areturn, 1) := by decide +kernel
theorem f_Ws_13 : cx_F "CircuitText$Words" 13 11 0 (.array (.object "CircuitText$Word")) true := ⟨_, F_Ws, 1, t_Ws, k_Ws, by decide, rfl, rfl, Or.inl (in_2 (List.mem_of_getElem? (i := 104) rfl))⟩
theorem ff_Ws_13 : cx_FF "CircuitText$Words" 13 11 0 (.array (.object "CircuitText$Word")) := ⟨_, F_Ws, 1, t_Ws, k_Ws, by decide, rfl, rfl, rfl, (in_2 (List.mem_of_getElem? (i := 104) rfl))⟩
theorem f_Ws_45 : cx_F "CircuitText$Words" 45 10 1 (.object "CircuitText$Word") true := ⟨_, F_Wd, 5, t_Wd, k_Wd, by decide, rfl, rfl, Or.inr ⟨"CircuitText", (in_2 (List.mem_of_getElem? (i := 85) rfl))⟩⟩
theorem z_Ws_11 : cx_N "CircuitText$Words" 11 10 [.null, .null, .int 0, .null, .null] := ⟨_, F_Wd, t_Wd, k_Wd, (in_2 (List.mem_of_getElem? (i := 15) rfl)), (in_2 (List.mem_of_getElem? (i := 77) rfl)), (in_1 (List.mem_of_getElem? (i := 25) rfl)), fun j hj => by rcases (show j = 0 ∨ j = 1 ∨ j = 2 ∨ j = 3 ∨ j = 4 by have : j < 5 := hj; omega) with rfl | rfl | rfl | rfl | rfl <;> rfl⟩
theorem l_Ws_41 : cx_LV "CircuitText$Words" 41 10 m_Wd_spells := ⟨Or.inl (in_2 (List.mem_of_getElem? (i := 73) rfl)), w_Wd_spells, (in_2 (List.mem_of_getElem? (i := 74) rfl)), _, rfl, (in_2 (List.mem_of_getElem? (i := 75) rfl))⟩
theorem l_Ws_49 : cx_LI "CircuitText$Words" 49 m_Wd_init := ⟨Or.inl (in_2 (List.mem_of_getElem? (i := 78) rfl)), w_Wd_init, (in_2 (List.mem_of_getElem? (i := 79) rfl)), rfl, rfl, rfl, (in_2 (List.mem_of_getElem? (i := 80) rfl))⟩
set_option maxRecDepth 100000 in
theorem c_Wd_init {k : cx_K} {l : Launch} {G : cx_G} {a t : Nat} {nx : Option Nat} (hG : G.1 a = some (.inr (10, [.null, .null, .int 0, .null, .null]))) : cx_Sp k l m_Wd_init 1 [.ref a, .ref t, va_rf nx] G (cx_rd none (cx_put G a (.inr (10, [.ref t, va_rf nx, .int 19, .null, .null])))) := by
  intro E hE
  refine cx_aload_n (i := 0) hE d_Wd_init_0 rfl rfl ?_
  refine cx_objI hE d_Wd_init_1 (in_2 (List.mem_of_getElem? (i := 81) rfl)) (in_1 (List.mem_of_getElem? (i := 43) rfl)) (in_1 (List.mem_of_getElem? (i := 44) rfl)) (by omega) (Nat.le_of_ble_eq_true rfl) ?_
  refine cx_aload_n (i := 0) hE d_Wd_init_4 rfl rfl ?_
  refine cx_bipush (v := 19) hE d_Wd_init_5 (by decide) ?_
  refine cx_putg hE d_Wd_init_7 f_Wd_9 (by assumption) (Nat.le_of_ble_eq_true rfl) (by first | rfl | exact cx_nr _ _) (by first | rfl | exact cx_fr _ _) (fun G_7 g_7 h_7 => ?_)
  refine cx_aload_n (i := 0) hE d_Wd_init_10 rfl rfl ?_
  refine cx_null hE d_Wd_init_11 ?_
  refine cx_putg hE d_Wd_init_12 f_Wd_15 (by assumption) (Nat.le_of_ble_eq_true rfl) (by first | rfl | exact cx_nr _ _) (by first | rfl | exact cx_fr _ _) (fun G_12 g_12 h_12 => ?_)
  refine cx_aload_n (i := 0) hE d_Wd_init_15 rfl rfl ?_
  refine cx_null hE d_Wd_init_16 ?_
  refine cx_putg hE d_Wd_init_17 f_Wd_19 (by assumption) (Nat.le_of_ble_eq_true rfl) (by first | rfl | exact cx_nr _ _) (by first | rfl | exact cx_fr _ _) (fun G_17 g_17 h_17 => ?_)
  refine cx_aload_n (i := 0) hE d_Wd_init_20 rfl rfl ?_
  refine cx_aload_n (i := 1) hE d_Wd_init_21 rfl rfl ?_
  refine cx_putFg hE d_Wd_init_22 ff_Wd_23 rfl (by assumption) (Nat.le_of_ble_eq_true rfl) (by first | rfl | exact cx_nr _ _) (by first | rfl | exact cx_fr _ _) (fun G_22 g_22 h_22 => ?_)
  refine cx_aload_n (i := 0) hE d_Wd_init_25 rfl rfl ?_
  refine cx_aload_n (i := 2) hE d_Wd_init_26 rfl rfl ?_
  refine cx_putFg hE d_Wd_init_27 ff_Wd_27 rfl (by assumption) (Nat.le_of_ble_eq_true rfl) (by first | rfl | exact cx_nr _ _) (by first | rfl | exact cx_fr _ _) (fun G_27 g_27 h_27 => ?_)
  refine cx_vret hE d_Wd_init_30 rfl ?_
  refine ⟨rfl, ?_⟩
  subst g_7 g_12 g_17 g_22 g_27
  simp only [cx_pp]
  rfl
set_option maxRecDepth 100000 in
theorem c_Wd_spells {k : cx_K} {l : Launch} {G : cx_G} {a t : Nat} {T X : List Int32} {nx : Option Nat} {kd : Int32} {u d : Option Nat} (hw : tx_wd k G a T nx kd u d) (hx : tx_ar k G t X) (l1 : T.length ≤ 1000000) (l2 : X.length ≤ 1000000) : cx_Sp k l m_Wd_spells 0 [.ref a, .ref t] G (cx_rd (some (.int (cx_b (decide (T = X))))) G) := by
  intro E hE
  obtain ⟨tb, h1, g, hg1, hg2, -⟩ := hw
  obtain ⟨gx, hx1, hx2, -⟩ := hx
  have hno : ∀ i, i ≤ 2000000 → ¬ T = X → cx_V E 18 [(3, false, .int (nI i)), (2, false, .int 0), (0, false, .ref a), (1, false, .ref t)] [] G := by
    intro i hi hne
    refine cx_iload_n (i := 3) hE d_Wd_spells_18 rfl rfl ?_
    refine cx_aload_n (i := 0) hE d_Wd_spells_19 rfl rfl ?_
    refine cx_get hE d_Wd_spells_20 f_Wd_23 (by assumption) (by rfl) ?_
    refine cx_alen 0 hE d_Wd_spells_23 rfl (by assumption) rfl ?_
    refine cx_icmp_ge (tgt := 61)  hE d_Wd_spells_24 (by decide) (fun c_24 => ?_) (fun c_24 => ?_)
    · refine cx_iload_n (i := 2) hE d_Wd_spells_61 rfl rfl ?_
      refine cx_iret hE d_Wd_spells_62 rfl (by rfl) ?_
      exact ⟨by rw [decide_eq_false hne]; rfl, rfl⟩
    · refine cx_iload_n (i := 3) hE d_Wd_spells_27 rfl rfl ?_
      refine cx_aload_n (i := 1) hE d_Wd_spells_28 rfl rfl ?_
      refine cx_alen 0 hE d_Wd_spells_29 rfl (by assumption) rfl ?_
      refine cx_icmp_ge (tgt := 61)  hE d_Wd_spells_30 (by decide) (fun c_30 => ?_) (fun c_30 => ?_)
      · refine cx_iload_n (i := 2) hE d_Wd_spells_61 rfl rfl ?_
        refine cx_iret hE d_Wd_spells_62 rfl (by rfl) ?_
        exact ⟨by rw [decide_eq_false hne]; rfl, rfl⟩
      · refine cx_iload_n (i := 2) hE d_Wd_spells_33 rfl rfl ?_
        refine cx_if_eq (tgt := 61)  hE d_Wd_spells_34 (by decide) (fun c_34 => ?_) (fun c_34 => ?_)
        · refine cx_iload_n (i := 2) hE d_Wd_spells_61 rfl rfl ?_
          refine cx_iret hE d_Wd_spells_62 rfl (by rfl) ?_
          exact ⟨by rw [decide_eq_false hne]; rfl, rfl⟩
        · exact absurd rfl c_34
          -- end
  have hloop : ∀ (d i : Nat), T.length - i = d → i ≤ T.length → T.length = X.length → (∀ j, j < i → T.getD j 0 = X.getD j 0) → cx_V E 18 [(3, false, .int (nI i)), (2, false, .int 1), (0, false, .ref a), (1, false, .ref t)] [] G := by
    intro d
    induction d using Nat.strongRecOn with
    | ind d ih =>
      intro i hd hi hl hall
      refine cx_iload_n (i := 3) hE d_Wd_spells_18 rfl rfl ?_
      refine cx_aload_n (i := 0) hE d_Wd_spells_19 rfl rfl ?_
      refine cx_get hE d_Wd_spells_20 f_Wd_23 (by assumption) (by rfl) ?_
      refine cx_alen 0 hE d_Wd_spells_23 rfl (by assumption) rfl ?_
      refine cx_icmp_ge (tgt := 61)  hE d_Wd_spells_24 (by decide) (fun c_24 => ?_) (fun c_24 => ?_)
      · have q_24 : i = T.length := by have := nJ_le (by omega) c_24; omega
        have q_e : T = X := tx_leq hl (fun j hj => hall j (by omega))
        refine cx_iload_n (i := 2) hE d_Wd_spells_61 rfl rfl ?_
        refine cx_iret hE d_Wd_spells_62 rfl (by rfl) ?_
        exact ⟨by rw [decide_eq_true q_e]; rfl, rfl⟩
      · have q_24 := nJ_lt (by omega) c_24
        refine cx_iload_n (i := 3) hE d_Wd_spells_27 rfl rfl ?_
        refine cx_aload_n (i := 1) hE d_Wd_spells_28 rfl rfl ?_
        refine cx_alen 0 hE d_Wd_spells_29 rfl (by assumption) rfl ?_
        refine cx_icmp_ge (tgt := 61)  hE d_Wd_spells_30 (by decide) (fun c_30 => ?_) (fun c_30 => ?_)
        · exact absurd c_30 (nI_ge (by omega) (by omega))
          -- end
        · refine cx_iload_n (i := 2) hE d_Wd_spells_33 rfl rfl ?_
          refine cx_if_eq (tgt := 61)  hE d_Wd_spells_34 (by decide) (fun c_34 => ?_) (fun c_34 => ?_)
          · exact absurd c_34 (by decide)
            -- end
          · refine cx_aload_n (i := 0) hE d_Wd_spells_37 rfl rfl ?_
            refine cx_get hE d_Wd_spells_38 f_Wd_23 (by assumption) (by rfl) ?_
            refine cx_iload_n (i := 3) hE d_Wd_spells_41 rfl rfl ?_
            refine cx_bald 0 hE d_Wd_spells_42 rfl (by assumption) (vp_in_nI (by omega) (by omega)) ?_
            refine cx_aload_n (i := 1) hE d_Wd_spells_43 rfl rfl ?_
            refine cx_iload_n (i := 3) hE d_Wd_spells_44 rfl rfl ?_
            refine cx_bald 0 hE d_Wd_spells_45 rfl (by assumption) (vp_in_nI (by omega) (by omega)) ?_
            refine cx_icmp_ne (tgt := 53)  hE d_Wd_spells_46 (by decide) (fun c_46 => ?_) (fun c_46 => ?_)
            · rw [nI_clamp (by omega), hg2 i (by omega), hx2 i (by omega)] at c_46
              have q_e : ¬ T = X := fun z => c_46 (by rw [z])
              refine cx_iconst (v := 0) hE d_Wd_spells_53 (by decide) ?_
              refine cx_istore_n (i := 2) hE d_Wd_spells_54 rfl (by decide) ?_
              refine cx_iinc (v := nI (i + 1)) hE d_Wd_spells_55 rfl (nI_1 _) (by decide) ?_
              refine cx_goto (tgt := 18) hE d_Wd_spells_58 (by decide) ?_
              refine cx_sub [0, 1, 2, 3] rfl ?_
              exact hno (i + 1) (by omega) q_e
            · rw [nI_clamp (by omega), hg2 i (by omega), hx2 i (by omega)] at c_46
              refine cx_iconst (v := 1) hE d_Wd_spells_49 (by decide) ?_
              refine cx_goto (tgt := 54) hE d_Wd_spells_50 (by decide) ?_
              refine cx_istore_n (i := 2) hE d_Wd_spells_54 rfl (by decide) ?_
              refine cx_iinc (v := nI (i + 1)) hE d_Wd_spells_55 rfl (nI_1 _) (by decide) ?_
              refine cx_goto (tgt := 18) hE d_Wd_spells_58 (by decide) ?_
              refine cx_sub [0, 1, 2, 3] rfl ?_
              exact ih (T.length - (i + 1)) (by omega) (i + 1) rfl (by omega) hl (lt_s hall c_46)
  refine cx_aload_n (i := 0) hE d_Wd_spells_0 rfl rfl ?_
  refine cx_get hE d_Wd_spells_1 f_Wd_23 (by assumption) (by rfl) ?_
  refine cx_alen 0 hE d_Wd_spells_4 rfl (by assumption) rfl ?_
  refine cx_aload_n (i := 1) hE d_Wd_spells_5 rfl rfl ?_
  refine cx_alen 0 hE d_Wd_spells_6 rfl (by assumption) rfl ?_
  refine cx_icmp_ne (tgt := 14)  hE d_Wd_spells_7 (by decide) (fun c_7 => ?_) (fun c_7 => ?_)
  · have q_7 : ¬ T = X := fun z => c_7 (by rw [z])
    refine cx_iconst (v := 0) hE d_Wd_spells_14 (by decide) ?_
    refine cx_istore_n (i := 2) hE d_Wd_spells_15 rfl (by decide) ?_
    refine cx_iconst (v := 0) hE d_Wd_spells_16 (by decide) ?_
    refine cx_istore_n (i := 3) hE d_Wd_spells_17 rfl (by decide) ?_
    refine cx_sub [0, 1, 2, 3] rfl ?_
    first | exact hloop _ 0 rfl (Nat.zero_le _) q_7 (fun j hj => by omega) | exact hno 0 (by omega) q_7
  · have q_7 : T.length = X.length := (nI_eq (by omega) (by omega)).mp c_7
    refine cx_iconst (v := 1) hE d_Wd_spells_10 (by decide) ?_
    refine cx_goto (tgt := 15) hE d_Wd_spells_11 (by decide) ?_
    refine cx_istore_n (i := 2) hE d_Wd_spells_15 rfl (by decide) ?_
    refine cx_iconst (v := 0) hE d_Wd_spells_16 (by decide) ?_
    refine cx_istore_n (i := 3) hE d_Wd_spells_17 rfl (by decide) ?_
    refine cx_sub [0, 1, 2, 3] rfl ?_
    first | exact hloop _ 0 rfl (Nat.zero_le _) q_7 (fun j hj => by omega) | exact hno 0 (by omega) q_7

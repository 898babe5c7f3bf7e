/-! ARRAYLIST. -/
section CXS
variable {E : cx_E} {k : cx_K} {l : Launch} {fr : Nat} {M : cx_M} {G0 : cx_G} {Post : cx_R → cx_G → Prop} {pc : Nat} {lv : cx_L} {st : List Value} {G : cx_G} {cA : ClassId} {i : Int32} {a n : Nat}
/-- the entry idx of own's pool is field i of class ci, by the name of a class ref that has it from another -/
def cx_FS (own : String) (idx ci i : Nat) (ty : FieldType) : Prop :=
  ∃ (C : String) (T : u_T) (N : Nat) (t : Nat → FieldType) (ref : String), cx_cls ci C T N t ∧ i < N ∧ t i = ty ∧ (T i).2.2.2 = false ∧ Cond.fieldLink own idx ref (T i).2.1 (T i).2.2.1 ∈ lw_tbl ∧ Cond.sameField ref (T i).1 (T i).2.1 (T i).2.2.1 ∈ lw_tbl
theorem cx_getS {idx ci i : Nat} {ty : FieldType} {fs : List Value} {v : Value} (hE : cx_C E k l fr M G0 Post) (hd : decode M.2.1 pc = .ok (.getfield idx, 3)) (hF : cx_FS M.1.cls idx ci i ty) (hG : G.1 a = some (.inr (ci, fs))) (hv : fs[i]? = some v) (h : cx_V E (pc + 3) lv (v :: st) G) : cx_V E pc lv (.ref a :: st) G := by
  obtain ⟨k', ⟨p, l', e, R, s, m, args, below, meth, c⟩, nL', fr', c0, s0, Q⟩ := E
  obtain ⟨hx, hb, hml, rfl, hown, hSt, rfl, -⟩ := hE
  intro H locs ls cells slots h1 h2 h3 h4 h5
  obtain ⟨ws, q0, hP, hD, -, hq⟩ := h1.look hG
  obtain ⟨C, T, N, t, ref, ⟨c1, c2, c3, c4⟩, hi, -, -, hl, hs⟩ := hF
  have hts : ∀ w ∈ u_ws C T N, w.before args s = true := fun w hw => hSt.1 w (c2 w hw) (cx_ok_lay C T N w hw) args
  exact va_get hx hb hts (fun w hw => hw) hown hSt.2.1 hP q0 hq c1 i hi (hSt.1 _ hl rfl args) (fun x h9 => u_same (hSt.1 _ hs rfl args) x h9) hv hd (h H locs ls cells slots h1 h2 h3 h4 h5)
theorem cx_putS {idx ci i : Nat} {ty : FieldType} {fs : List Value} {v : Value} (hE : cx_C E k l fr M G0 Post) (hd : decode M.2.1 pc = .ok (.putfield idx, 3)) (hF : cx_FS M.1.cls idx ci i ty) (hG : G.1 a = some (.inr (ci, fs))) (hl : i < fs.length) (hn : narrow ty v = v) (hf : fits ty v = true) (h : ∀ G1, cx_put G a (.inr (ci, fs.set i v)) = G1 → G1.1 a = some (.inr (ci, fs.set i v)) → cx_V E (pc + 3) lv st G1) : cx_V E pc lv (v :: .ref a :: st) G := by
  obtain ⟨k', ⟨p, l', e, R, s, m, args, below, meth, c⟩, nL', fr', c0, s0, Q⟩ := E
  obtain ⟨hx, hb, hml, rfl, hown, hSt, rfl, -⟩ := hE
  intro H locs ls cells slots h1 h2 h3 h4 h5
  obtain ⟨ws, q0, hP, hD, hw, hq⟩ := h1.look hG
  obtain ⟨C, T, N, t, ref, ⟨c1, c2, c3, c4⟩, hi, hty, hfin, hlk, hs⟩ := hF
  have hts : ∀ w ∈ u_ws C T N, w.before args s = true := fun w hw => hSt.1 w (c2 w hw) (cx_ok_lay C T N w hw) args
  have hdesc : parseFieldDescriptor (T i).2.2.1 = some ty := by rw [c3 i hi, hty]
  exact va_put hx hb hts (fun w hw => hw) t c3 c4 hown hSt.2.1 hP hD h2 q0 hq c1 i hi (hSt.1 _ hlk rfl args) (fun x h9 => u_same (hSt.1 _ hs rfl args) x h9) hfin hdesc hn hf hl hd (fun H1 locs1 hP1 hD1 hS1 => h _ rfl (cx_ps rfl) H1 locs1 ls cells slots (cx_H.set h1.1 h1.2.1 hD hw hq hP1 hD1) hS1 h3 h4 h5)
end CXS
/-- the list at la holds the objects xs, in an array ed of cap places (0: the one that all empty lists have) -/
def tx_al (k : cx_K) (G : cx_G) (la ed : Nat) (xs : List Nat) (cap : Nat) : Prop := (∃ mc, G.1 la = some (.inr (13, [.ref ed, .int (nI xs.length), .int mc]))) ∧ ((cap = 0 ∧ xs = [] ∧ ed = k.2.2.2.2.2.1 0) ∨ ∃ f, G.1 ed = some (.inl (k.2.1 3, cap, .inr (.inr (.inr (.inr f))))) ∧ 10 ≤ cap ∧ xs.length ≤ cap ∧ cap ≤ 10 + 2 * xs.length ∧ ∀ i, i < xs.length → f i = some (xs.getD i 0))
/-- x was added -/
def tx_alp (k : cx_K) (G : cx_G) (la ed : Nat) (xs : List Nat) (cap x : Nat) (G' : cx_G) : Prop := ∃ ed' cap', tx_al k G' la ed' (xs ++ [x]) cap' ∧ ((ed' = ed ∧ cap ≠ 0) ∨ G.1 ed' = none) ∧ (∀ b e, b ≠ la → (cap = 0 ∨ b ≠ ed) → G.1 b = some e → G'.1 b = some e) ∧ G.2.1 ≤ G'.2.1 ∧ G'.2.1 ≤ G.2.1 + 1 ∧ G.2.2 ≤ G'.2.2 ∧ G'.2.2 + 4 * cap ≤ G.2.2 + 4 * cap'
def tx_alg (k : cx_K) (G : cx_G) (la : Nat) (xs : List Nat) (cap : Nat) (mc : Int32) : cx_R → cx_G → Prop := fun r G' => ∃ ed' cap' f', r = .inl (some (.ref ed')) ∧ G.1 ed' = none ∧ G'.1 ed' = some (.inl (k.2.1 3, cap', .inr (.inr (.inr (.inr f'))))) ∧ (∀ i, i < xs.length → f' i = some (xs.getD i 0)) ∧ G'.1 la = some (.inr (13, [.ref ed', .int (nI xs.length), .int mc])) ∧ (∀ b e, b ≠ la → G.1 b = some e → G'.1 b = some e) ∧ G'.2.1 = G.2.1 + 1 ∧ G'.2.2 = G.2.2 + cap' ∧ cap < cap' ∧ 10 ≤ cap' ∧ cap' ≤ 10 + 2 * (xs.length + 1) ∧ 4 * cap + cap' ≤ 4 * cap'
theorem tx_al.app {k : cx_K} {G2 : cx_G} {la ed cap x : Nat} {xs : List Nat} {mc : Int32} {f : Nat → Option Nat} (h1 : G2.1 la = some (.inr (13, [.ref ed, .int (nI xs.length), .int mc]))) (h2 : G2.1 ed = some (.inl (k.2.1 3, cap, .inr (.inr (.inr (.inr f)))))) (h3 : ∀ i, i < xs.length → f i = some (xs.getD i 0)) (h4 : xs.length < cap) (h5 : 10 ≤ cap) (h6 : cap ≤ 10 + 2 * (xs.length + 1)) :
    tx_al k (cx_put (cx_put G2 ed (.inl (k.2.1 3, cap, .inr (.inr (.inr (.inr (va_up f xs.length (some x)))))))) la (.inr (13, [.ref ed, .int (nI (xs.length + 1)), .int mc]))) la ed (xs ++ [x]) cap := by
  have hll : (xs ++ [x]).length = xs.length + 1 := by rw [List.length_append]; rfl
  have hne : ed ≠ la := cx_neB h1 h2
  refine ⟨⟨mc, by rw [hll]; exact cx_ps rfl⟩, Or.inr ⟨_, cx_pn rfl (cx_ps rfl) hne, h5, by omega, by omega, fun i hi => ?_⟩⟩
  rw [hll] at hi
  unfold va_up
  rw [List.getD_eq_getElem?_getD]
  by_cases hi2 : i = xs.length
  · rw [if_pos hi2, hi2, List.getElem?_append_right (Nat.le_refl _), Nat.sub_self]
    rfl
  · rw [if_neg hi2, List.getElem?_append_left (by omega), h3 i (by omega), List.getD_eq_getElem?_getD]
theorem tx_al.ext {k : cx_K} {G G' : cx_G} {la ed cap : Nat} {xs : List Nat} (hl : ∀ e, G.1 la = some e → G'.1 la = some e) (he : ∀ e, G.1 ed = some e → G'.1 ed = some e) (h : tx_al k G la ed xs cap) : tx_al k G' la ed xs cap := by
  obtain ⟨⟨mc, h1⟩, h2⟩ := h
  refine ⟨⟨mc, hl _ h1⟩, ?_⟩
  rcases h2 with h2 | ⟨f, h2, h3⟩
  · exact Or.inl h2
  · exact Or.inr ⟨f, he _ h2, h3⟩
theorem tx_al.len {k : cx_K} {G : cx_G} {la ed cap : Nat} {xs : List Nat} (h : tx_al k G la ed xs cap) : xs.length ≤ cap := by
  rcases h.2 with ⟨h1, h2, _⟩ | ⟨f, _, _, h3, _⟩
  · rw [h2]; exact Nat.zero_le _
  · exact h3
theorem f_AbL_7 : cx_F "java/util/AbstractList" 7 13 2 .int false := ⟨_, F_AL, 3, t_AL, k_AL, by decide, rfl, rfl, Or.inl (in_1 (List.mem_of_getElem? (i := 77) rfl))⟩
theorem fs_AL_63 : cx_FS "java/util/ArrayList" 63 13 2 .int := ⟨_, F_AL, 3, t_AL, "java/util/ArrayList", k_AL, by decide, rfl, rfl, (in_1 (List.mem_of_getElem? (i := 78) rfl)), (in_1 (List.mem_of_getElem? (i := 79) rfl))⟩
abbrev m_AbC_init : cx_M := (⟨"java/util/AbstractCollection", "<init>", "()V"⟩, prog_34_method_1_code, 1, (Option.none : Option Jvm.ClassFile.FieldType), [], [false])
theorem w_AbC_init : cx_W m_AbC_init := ⟨Or.inl ⟨(in_1 (List.mem_of_getElem? (i := 71) rfl)), rfl⟩, by decide +kernel, by decide, by decide, by decide +kernel⟩
theorem n_AbC_init : (parseMethodDescriptor m_AbC_init.1.desc).map (fun d => d.parameters.length) = some 0 := by decide +kernel
theorem d_AbC_init_0 : decode prog_34_method_1_code 0 = .ok (.aload_n 0, 1) := by decide +kernel
theorem d_AbC_init_1 : decode prog_34_method_1_code 1 = .ok (.invokespecial 1, 3) := by decide +kernel
theorem d_AbC_init_4 : decode prog_34_method_1_code 4 = .ok (.return_, 1) := by decide +kernel
abbrev m_AbL_init : cx_M := (⟨"java/util/AbstractList", "<init>", "()V"⟩, prog_35_method_1_code, 1, (Option.none : Option Jvm.ClassFile.FieldType), [], [false])
theorem w_AbL_init : cx_W m_AbL_init := ⟨Or.inl ⟨(in_1 (List.mem_of_getElem? (i := 68) rfl)), rfl⟩, by decide +kernel, by decide, by decide, by decide +kernel⟩
theorem n_AbL_init : (parseMethodDescriptor m_AbL_init.1.desc).map (fun d => d.parameters.length) = some 0 := by decide +kernel
theorem d_AbL_init_0 : decode prog_35_method_1_code 0 = .ok (.aload_n 0, 1) := by decide +kernel
theorem d_AbL_init_1 : decode prog_35_method_1_code 1 = .ok (.invokespecial 1, 3) := by decide +kernel
theorem d_AbL_init_4 : decode prog_35_method_1_code 4 = .ok (.aload_n 0, 1) := by decide +kernel
theorem d_AbL_init_5 : decode prog_35_method_1_code 5 = .ok (.iconst 0, 1) := by decide +kernel
theorem d_AbL_init_6 : decode prog_35_method_1_code 6 = .ok (.putfield 7, 3) := by decide +kernel
theorem d_AbL_init_9 : decode prog_35_method_1_code 9 = .ok (.return_, 1) := by decide +kernel
abbrev m_AL_init : cx_M := (⟨"java/util/ArrayList", "<init>", "()V"⟩, prog_36_method_2_code, 1, (Option.none : Option Jvm.ClassFile.FieldType), [], [false])
theorem w_AL_init : cx_W m_AL_init := ⟨Or.inl ⟨(in_1 (List.mem_of_getElem? (i := 65) rfl)), rfl⟩, by decide +kernel, by decide, by decide, by decide +kernel⟩
theorem n_AL_init : (parseMethodDescriptor m_AL_init.1.desc).map (fun d => d.parameters.length) = some 0 := by decide +kernel
theorem d_AL_init_0 : decode prog_36_method_2_code 0 = .ok (.aload_n 0, 1) := by decide +kernel
theorem d_AL_init_1 : decode prog_36_method_2_code 1 = .ok (.invokespecial 1, 3) := by decide +kernel
theorem d_AL_init_4 : decode prog_36_method_2_code 4 = .ok (.aload_n 0, 1) := by decide +kernel
theorem d_AL_init_5 : decode prog_36_method_2_code 5 = .ok (.getstatic 39, 3) := by decide +kernel
theorem d_AL_init_8 : decode prog_36_method_2_code 8 = .ok (.putfield 9, 3) := by decide +kernel
theorem d_AL_init_11 : decode prog_36_method_2_code 11 = .ok (.return_, 1) := by decide +kernel
theorem f_AL_9 : cx_F "java/util/ArrayList" 9 13 0 (.array (.object "java/lang/Object")) false := ⟨_, F_AL, 3, t_AL, k_AL, by decide, rfl, rfl, Or.inl (in_1 (List.mem_of_getElem? (i := 75) rfl))⟩
abbrev m_AL_size : cx_M := (⟨"java/util/ArrayList", "size", "()I"⟩, prog_36_method_8_code, 1, (Option.some Jvm.ClassFile.FieldType.int), [], [false])
theorem w_AL_size : cx_W m_AL_size := ⟨Or.inl ⟨(in_4 (List.mem_of_getElem? (i := 106) rfl)), rfl⟩, by decide +kernel, by decide, by decide, by decide +kernel⟩
theorem n_AL_size : (parseMethodDescriptor m_AL_size.1.desc).map (fun d => d.parameters.length) = some 0 := by decide +kernel
theorem d_AL_size_0 : decode prog_36_method_8_code 0 = .ok (.aload_n 0, 1) := by decide +kernel
theorem d_AL_size_1 : decode prog_36_method_8_code 1 = .ok (.getfield 48, 3) := by decide +kernel
theorem d_AL_size_4 : decode prog_36_method_8_code 4 = .ok (.ireturn, 1) := by decide +kernel
theorem f_AL_48 : cx_F "java/util/ArrayList" 48 13 1 (.int) false := ⟨_, F_AL, 3, t_AL, k_AL, by decide, rfl, rfl, Or.inl (in_1 (List.mem_of_getElem? (i := 76) rfl))⟩
abbrev m_AL_elementData : cx_M := (⟨"java/util/ArrayList", "elementData", "(I)Ljava/lang/Object;"⟩, prog_36_method_18_code, 2, (Option.some (Jvm.ClassFile.FieldType.object "java/lang/Object")), [], [false, false])
theorem w_AL_elementData : cx_W m_AL_elementData := ⟨Or.inl ⟨(in_5 (List.mem_of_getElem? (i := 194) rfl)), rfl⟩, by decide +kernel, by decide, by decide, by decide +kernel⟩
theorem n_AL_elementData : (parseMethodDescriptor m_AL_elementData.1.desc).map (fun d => d.parameters.length) = some 1 := by decide +kernel
theorem d_AL_elementData_0 : decode prog_36_method_18_code 0 = .ok (.aload_n 0, 1) := by decide +kernel
theorem d_AL_elementData_1 : decode prog_36_method_18_code 1 = .ok (.getfield 9, 3) := by decide +kernel
theorem d_AL_elementData_4 : decode prog_36_method_18_code 4 = .ok (.iload_n 1, 1) := by decide +kernel
theorem d_AL_elementData_5 : decode prog_36_method_18_code 5 = .ok (.aaload, 1) := by decide +kernel
theorem d_AL_elementData_6 : decode prog_36_method_18_code 6 = .ok (.areturn, 1) := by decide +kernel
abbrev m_Ob_checkIndex : cx_M := (⟨"java/util/Objects", "checkIndex", "(II)I"⟩, prog_40_method_17_code, 2, (Option.some Jvm.ClassFile.FieldType.int), [], [false, false])
theorem w_Ob_checkIndex : cx_W m_Ob_checkIndex := ⟨Or.inl ⟨(in_5 (List.mem_of_getElem? (i := 189) rfl)), rfl⟩, by decide +kernel, by decide, by decide, by decide +kernel⟩
theorem n_Ob_checkIndex : (parseMethodDescriptor m_Ob_checkIndex.1.desc).map (fun d => d.parameters.length) = some 2 := by decide +kernel
theorem d_Ob_checkIndex_0 : decode prog_40_method_17_code 0 = .ok (.iload_n 0, 1) := by decide +kernel
theorem d_Ob_checkIndex_1 : decode prog_40_method_17_code 1 = .ok (.iload_n 1, 1) := by decide +kernel
theorem d_Ob_checkIndex_2 : decode prog_40_method_17_code 2 = .ok (.aconst_null, 1) := by decide +kernel
theorem d_Ob_checkIndex_3 : decode prog_40_method_17_code 3 = .ok (.invokestatic 105, 3) := by decide +kernel
theorem d_Ob_checkIndex_6 : decode prog_40_method_17_code 6 = .ok (.ireturn, 1) := by decide +kernel
abbrev m_AL_get : cx_M := (⟨"java/util/ArrayList", "get", "(I)Ljava/lang/Object;"⟩, prog_36_method_20_code, 2, (Option.some (Jvm.ClassFile.FieldType.object "java/lang/Object")), [], [false, false])
theorem w_AL_get : cx_W m_AL_get := ⟨Or.inl ⟨(in_5 (List.mem_of_getElem? (i := 186) rfl)), rfl⟩, by decide +kernel, by decide, by decide, by decide +kernel⟩
theorem n_AL_get : (parseMethodDescriptor m_AL_get.1.desc).map (fun d => d.parameters.length) = some 1 := by decide +kernel
theorem d_AL_get_0 : decode prog_36_method_20_code 0 = .ok (.iload_n 1, 1) := by decide +kernel
theorem d_AL_get_1 : decode prog_36_method_20_code 1 = .ok (.aload_n 0, 1) := by decide +kernel
theorem d_AL_get_2 : decode prog_36_method_20_code 2 = .ok (.getfield 48, 3) := by decide +kernel
theorem d_AL_get_5 : decode prog_36_method_20_code 5 = .ok (.invokestatic 118, 3) := by decide +kernel
theorem d_AL_get_8 : decode prog_36_method_20_code 8 = .ok (.pop, 1) := by decide +kernel
theorem d_AL_get_9 : decode prog_36_method_20_code 9 = .ok (.aload_n 0, 1) := by decide +kernel
theorem d_AL_get_10 : decode prog_36_method_20_code 10 = .ok (.iload_n 1, 1) := by decide +kernel
theorem d_AL_get_11 : decode prog_36_method_20_code 11 = .ok (.invokevirtual 123, 3) := by decide +kernel
theorem d_AL_get_14 : decode prog_36_method_20_code 14 = .ok (.areturn, 1) := by decide +kernel
abbrev m_AS_newLength : cx_M := (⟨"jdk/internal/util/ArraysSupport", "newLength", "(III)I"⟩, prog_43_method_27_code, 4, (Option.some Jvm.ClassFile.FieldType.int), [], [false, false, false])
theorem w_AS_newLength : cx_W m_AS_newLength := ⟨Or.inl ⟨(in_3 (List.mem_of_getElem? (i := 53) rfl)), rfl⟩, by decide +kernel, by decide, by decide, by decide +kernel⟩
theorem n_AS_newLength : (parseMethodDescriptor m_AS_newLength.1.desc).map (fun d => d.parameters.length) = some 3 := by decide +kernel
theorem d_AS_newLength_0 : decode prog_43_method_27_code 0 = .ok (.iload_n 0, 1) := by decide +kernel
theorem d_AS_newLength_1 : decode prog_43_method_27_code 1 = .ok (.iload_n 1, 1) := by decide +kernel
theorem d_AS_newLength_2 : decode prog_43_method_27_code 2 = .ok (.iload_n 2, 1) := by decide +kernel
theorem d_AS_newLength_3 : decode prog_43_method_27_code 3 = .ok (.invokestatic 194, 3) := by decide +kernel
theorem d_AS_newLength_6 : decode prog_43_method_27_code 6 = .ok (.iadd, 1) := by decide +kernel
theorem d_AS_newLength_7 : decode prog_43_method_27_code 7 = .ok (.istore_n 3, 1) := by decide +kernel
theorem d_AS_newLength_8 : decode prog_43_method_27_code 8 = .ok (.iconst 0, 1) := by decide +kernel
theorem d_AS_newLength_9 : decode prog_43_method_27_code 9 = .ok (.iload_n 3, 1) := by decide +kernel
theorem d_AS_newLength_10 : decode prog_43_method_27_code 10 = .ok (.if_icmp .ge 11, 3) := by decide +kernel
theorem d_AS_newLength_13 : decode prog_43_method_27_code 13 = .ok (.iload_n 3, 1) := by decide +kernel
theorem d_AS_newLength_14 : decode prog_43_method_27_code 14 = .ok (.ldc 200, 2) := by decide +kernel
theorem d_AS_newLength_16 : decode prog_43_method_27_code 16 = .ok (.if_icmp .gt 5, 3) := by decide +kernel
theorem d_AS_newLength_19 : decode prog_43_method_27_code 19 = .ok (.iload_n 3, 1) := by decide +kernel
theorem d_AS_newLength_20 : decode prog_43_method_27_code 20 = .ok (.ireturn, 1) := by decide +kernel
theorem d_AS_newLength_21 : decode prog_43_method_27_code 21 = .ok (.iload_n 0, 1) := by decide +kernel
theorem d_AS_newLength_22 : decode prog_43_method_27_code 22 = .ok (.iload_n 1, 1) := by decide +kernel
theorem d_AS_newLength_23 : decode prog_43_method_27_code 23 = .ok (.invokestatic 201, 3) := by decide +kernel
theorem d_AS_newLength_26 : decode prog_43_method_27_code 26 = .ok (.ireturn, 1) := by decide +kernel
abbrev m_Ar_copyOf3 : cx_M := (⟨"java/util/Arrays", "copyOf", "([Ljava/lang/Object;ILjava/lang/Class;)[Ljava/lang/Object;"⟩, prog_37_method_120_code, 4, (Option.some (Jvm.ClassFile.FieldType.array (Jvm.ClassFile.FieldType.object "java/lang/Object"))), [], [false, false, false])
theorem w_Ar_copyOf3 : cx_W m_Ar_copyOf3 := ⟨Or.inl ⟨(in_4 (List.mem_of_getElem? (i := 238) rfl)), rfl⟩, by decide +kernel, by decide, by decide, by decide +kernel⟩
theorem n_Ar_copyOf3 : (parseMethodDescriptor m_Ar_copyOf3.1.desc).map (fun d => d.parameters.length) = some 3 := by decide +kernel
theorem d_Ar_copyOf3_0 : decode prog_37_method_120_code 0 = .ok (.aload_n 2, 1) := by decide +kernel
theorem d_Ar_copyOf3_1 : decode prog_37_method_120_code 1 = .ok (.ldc 110, 2) := by decide +kernel
theorem d_Ar_copyOf3_3 : decode prog_37_method_120_code 3 = .ok (.if_acmp .ne 10, 3) := by decide +kernel
theorem d_Ar_copyOf3_6 : decode prog_37_method_120_code 6 = .ok (.iload_n 1, 1) := by decide +kernel
theorem d_Ar_copyOf3_7 : decode prog_37_method_120_code 7 = .ok (.anewarray 2, 3) := by decide +kernel
theorem d_Ar_copyOf3_10 : decode prog_37_method_120_code 10 = .ok (.goto 14, 3) := by decide +kernel
theorem d_Ar_copyOf3_13 : decode prog_37_method_120_code 13 = .ok (.aload_n 2, 1) := by decide +kernel
theorem d_Ar_copyOf3_14 : decode prog_37_method_120_code 14 = .ok (.invokevirtual 90, 3) := by decide +kernel
theorem d_Ar_copyOf3_17 : decode prog_37_method_120_code 17 = .ok (.iload_n 1, 1) := by decide +kernel
theorem d_Ar_copyOf3_18 : decode prog_37_method_120_code 18 = .ok (.invokestatic 95, 3) := by decide +kernel
theorem d_Ar_copyOf3_21 : decode prog_37_method_120_code 21 = .ok (.checkcast 110, 3) := by decide +kernel
theorem d_Ar_copyOf3_24 : decode prog_37_method_120_code 24 = .ok (.astore_n 3, 1) := by decide +kernel
theorem d_Ar_copyOf3_25 : decode prog_37_method_120_code 25 = .ok (.aload_n 0, 1) := by decide +kernel
theorem d_Ar_copyOf3_26 : decode prog_37_method_120_code 26 = .ok (.iconst 0, 1) := by decide +kernel
theorem d_Ar_copyOf3_27 : decode prog_37_method_120_code 27 = .ok (.aload_n 3, 1) := by decide +kernel
theorem d_Ar_copyOf3_28 : decode prog_37_method_120_code 28 = .ok (.iconst 0, 1) := by decide +kernel
theorem d_Ar_copyOf3_29 : decode prog_37_method_120_code 29 = .ok (.aload_n 0, 1) := by decide +kernel
theorem d_Ar_copyOf3_30 : decode prog_37_method_120_code 30 = .ok (.arraylength, 1) := by decide +kernel
theorem d_Ar_copyOf3_31 : decode prog_37_method_120_code 31 = .ok (.iload_n 1, 1) := by decide +kernel
theorem d_Ar_copyOf3_32 : decode prog_37_method_120_code 32 = .ok (.invokestatic 304, 3) := by decide +kernel
theorem d_Ar_copyOf3_35 : decode prog_37_method_120_code 35 = .ok (.invokestatic 150, 3) := by decide +kernel
theorem d_Ar_copyOf3_38 : decode prog_37_method_120_code 38 = .ok (.aload_n 3, 1) := by decide +kernel
theorem d_Ar_copyOf3_39 : decode prog_37_method_120_code 39 = .ok (.areturn, 1) := by decide +kernel
abbrev m_Ar_copyOf2 : cx_M := (⟨"java/util/Arrays", "copyOf", "([Ljava/lang/Object;I)[Ljava/lang/Object;"⟩, prog_37_method_119_code, 2, (Option.some (Jvm.ClassFile.FieldType.array (Jvm.ClassFile.FieldType.object "java/lang/Object"))), [], [false, false])
theorem w_Ar_copyOf2 : cx_W m_Ar_copyOf2 := ⟨Or.inl ⟨(in_4 (List.mem_of_getElem? (i := 211) rfl)), rfl⟩, by decide +kernel, by decide, by decide, by decide +kernel⟩
theorem n_Ar_copyOf2 : (parseMethodDescriptor m_Ar_copyOf2.1.desc).map (fun d => d.parameters.length) = some 2 := by decide +kernel
theorem d_Ar_copyOf2_0 : decode prog_37_method_119_code 0 = .ok (.aload_n 0, 1) := by decide +kernel
theorem d_Ar_copyOf2_1 : decode prog_37_method_119_code 1 = .ok (.iload_n 1, 1) := by decide +kernel
theorem d_Ar_copyOf2_2 : decode prog_37_method_119_code 2 = .ok (.aload_n 0, 1) := by decide +kernel
theorem d_Ar_copyOf2_3 : decode prog_37_method_119_code 3 = .ok (.invokevirtual 86, 3) := by decide +kernel
theorem d_Ar_copyOf2_6 : decode prog_37_method_119_code 6 = .ok (.invokestatic 300, 3) := by decide +kernel
theorem d_Ar_copyOf2_9 : decode prog_37_method_119_code 9 = .ok (.areturn, 1) := by decide +kernel
abbrev m_AL_grow2 : cx_M := (⟨"java/util/ArrayList", "grow", "(I)[Ljava/lang/Object;"⟩, prog_36_method_6_code, 4, (Option.some (Jvm.ClassFile.FieldType.array (Jvm.ClassFile.FieldType.object "java/lang/Object"))), [], [false, false])
theorem w_AL_grow2 : cx_W m_AL_grow2 := ⟨Or.inl ⟨(in_4 (List.mem_of_getElem? (i := 207) rfl)), rfl⟩, by decide +kernel, by decide, by decide, by decide +kernel⟩
theorem n_AL_grow2 : (parseMethodDescriptor m_AL_grow2.1.desc).map (fun d => d.parameters.length) = some 1 := by decide +kernel
theorem d_AL_grow2_0 : decode prog_36_method_6_code 0 = .ok (.aload_n 0, 1) := by decide +kernel
theorem d_AL_grow2_1 : decode prog_36_method_6_code 1 = .ok (.getfield 9, 3) := by decide +kernel
theorem d_AL_grow2_4 : decode prog_36_method_6_code 4 = .ok (.arraylength, 1) := by decide +kernel
theorem d_AL_grow2_5 : decode prog_36_method_6_code 5 = .ok (.istore_n 2, 1) := by decide +kernel
theorem d_AL_grow2_6 : decode prog_36_method_6_code 6 = .ok (.iload_n 2, 1) := by decide +kernel
theorem d_AL_grow2_7 : decode prog_36_method_6_code 7 = .ok (.ifCond .gt 13, 3) := by decide +kernel
theorem d_AL_grow2_10 : decode prog_36_method_6_code 10 = .ok (.aload_n 0, 1) := by decide +kernel
theorem d_AL_grow2_11 : decode prog_36_method_6_code 11 = .ok (.getfield 9, 3) := by decide +kernel
theorem d_AL_grow2_14 : decode prog_36_method_6_code 14 = .ok (.getstatic 39, 3) := by decide +kernel
theorem d_AL_grow2_17 : decode prog_36_method_6_code 17 = .ok (.if_acmp .eq 28, 3) := by decide +kernel
theorem d_AL_grow2_20 : decode prog_36_method_6_code 20 = .ok (.iload_n 2, 1) := by decide +kernel
theorem d_AL_grow2_21 : decode prog_36_method_6_code 21 = .ok (.iload_n 1, 1) := by decide +kernel
theorem d_AL_grow2_22 : decode prog_36_method_6_code 22 = .ok (.iload_n 2, 1) := by decide +kernel
theorem d_AL_grow2_23 : decode prog_36_method_6_code 23 = .ok (.isub, 1) := by decide +kernel
theorem d_AL_grow2_24 : decode prog_36_method_6_code 24 = .ok (.iload_n 2, 1) := by decide +kernel
theorem d_AL_grow2_25 : decode prog_36_method_6_code 25 = .ok (.iconst 1, 1) := by decide +kernel
theorem d_AL_grow2_26 : decode prog_36_method_6_code 26 = .ok (.ishr, 1) := by decide +kernel
theorem d_AL_grow2_27 : decode prog_36_method_6_code 27 = .ok (.invokestatic 73, 3) := by decide +kernel
theorem d_AL_grow2_30 : decode prog_36_method_6_code 30 = .ok (.istore_n 3, 1) := by decide +kernel
theorem d_AL_grow2_31 : decode prog_36_method_6_code 31 = .ok (.aload_n 0, 1) := by decide +kernel
theorem d_AL_grow2_32 : decode prog_36_method_6_code 32 = .ok (.aload_n 0, 1) := by decide +kernel
theorem d_AL_grow2_33 : decode prog_36_method_6_code 33 = .ok (.getfield 9, 3) := by decide +kernel
theorem d_AL_grow2_36 : decode prog_36_method_6_code 36 = .ok (.iload_n 3, 1) := by decide +kernel
theorem d_AL_grow2_37 : decode prog_36_method_6_code 37 = .ok (.invokestatic 66, 3) := by decide +kernel
theorem d_AL_grow2_40 : decode prog_36_method_6_code 40 = .ok (.dup_x1, 1) := by decide +kernel
theorem d_AL_grow2_41 : decode prog_36_method_6_code 41 = .ok (.putfield 9, 3) := by decide +kernel
theorem d_AL_grow2_44 : decode prog_36_method_6_code 44 = .ok (.areturn, 1) := by decide +kernel
theorem d_AL_grow2_45 : decode prog_36_method_6_code 45 = .ok (.aload_n 0, 1) := by decide +kernel
theorem d_AL_grow2_46 : decode prog_36_method_6_code 46 = .ok (.bipush 10, 2) := by decide +kernel
theorem d_AL_grow2_48 : decode prog_36_method_6_code 48 = .ok (.iload_n 1, 1) := by decide +kernel
theorem d_AL_grow2_49 : decode prog_36_method_6_code 49 = .ok (.invokestatic 79, 3) := by decide +kernel
theorem d_AL_grow2_52 : decode prog_36_method_6_code 52 = .ok (.anewarray 7, 3) := by decide +kernel
theorem d_AL_grow2_55 : decode prog_36_method_6_code 55 = .ok (.dup_x1, 1) := by decide +kernel
theorem d_AL_grow2_56 : decode prog_36_method_6_code 56 = .ok (.putfield 9, 3) := by decide +kernel
theorem d_AL_grow2_59 : decode prog_36_method_6_code 59 = .ok (.areturn, 1) := by decide +kernel
abbrev m_AL_grow1 : cx_M := (⟨"java/util/ArrayList", "grow", "()[Ljava/lang/Object;"⟩, prog_36_method_7_code, 1, (Option.some (Jvm.ClassFile.FieldType.array (Jvm.ClassFile.FieldType.object "java/lang/Object"))), [], [false])
theorem w_AL_grow1 : cx_W m_AL_grow1 := ⟨Or.inl ⟨(in_4 (List.mem_of_getElem? (i := 203) rfl)), rfl⟩, by decide +kernel, by decide, by decide, by decide +kernel⟩
theorem n_AL_grow1 : (parseMethodDescriptor m_AL_grow1.1.desc).map (fun d => d.parameters.length) = some 0 := by decide +kernel
theorem d_AL_grow1_0 : decode prog_36_method_7_code 0 = .ok (.aload_n 0, 1) := by decide +kernel
theorem d_AL_grow1_1 : decode prog_36_method_7_code 1 = .ok (.aload_n 0, 1) := by decide +kernel
theorem d_AL_grow1_2 : decode prog_36_method_7_code 2 = .ok (.getfield 48, 3) := by decide +kernel
theorem d_AL_grow1_5 : decode prog_36_method_7_code 5 = .ok (.iconst 1, 1) := by decide +kernel
theorem d_AL_grow1_6 : decode prog_36_method_7_code 6 = .ok (.iadd, 1) := by decide +kernel
theorem d_AL_grow1_7 : decode prog_36_method_7_code 7 = .ok (.invokevirtual 69, 3) := by decide +kernel
theorem d_AL_grow1_10 : decode prog_36_method_7_code 10 = .ok (.areturn, 1) := by decide +kernel
abbrev m_AL_add2 : cx_M := (⟨"java/util/ArrayList", "add", "(Ljava/lang/Object;[Ljava/lang/Object;I)V"⟩, prog_36_method_24_code, 4, (Option.none : Option Jvm.ClassFile.FieldType), [], [false, false, false, false])
theorem w_AL_add2 : cx_W m_AL_add2 := ⟨Or.inl ⟨(in_4 (List.mem_of_getElem? (i := 199) rfl)), rfl⟩, by decide +kernel, by decide, by decide, by decide +kernel⟩
theorem n_AL_add2 : (parseMethodDescriptor m_AL_add2.1.desc).map (fun d => d.parameters.length) = some 3 := by decide +kernel
theorem d_AL_add2_0 : decode prog_36_method_24_code 0 = .ok (.iload_n 3, 1) := by decide +kernel
theorem d_AL_add2_1 : decode prog_36_method_24_code 1 = .ok (.aload_n 2, 1) := by decide +kernel
theorem d_AL_add2_2 : decode prog_36_method_24_code 2 = .ok (.arraylength, 1) := by decide +kernel
theorem d_AL_add2_3 : decode prog_36_method_24_code 3 = .ok (.if_icmp .ne 8, 3) := by decide +kernel
theorem d_AL_add2_6 : decode prog_36_method_24_code 6 = .ok (.aload_n 0, 1) := by decide +kernel
theorem d_AL_add2_7 : decode prog_36_method_24_code 7 = .ok (.invokevirtual 129, 3) := by decide +kernel
theorem d_AL_add2_10 : decode prog_36_method_24_code 10 = .ok (.astore_n 2, 1) := by decide +kernel
theorem d_AL_add2_11 : decode prog_36_method_24_code 11 = .ok (.aload_n 2, 1) := by decide +kernel
theorem d_AL_add2_12 : decode prog_36_method_24_code 12 = .ok (.iload_n 3, 1) := by decide +kernel
theorem d_AL_add2_13 : decode prog_36_method_24_code 13 = .ok (.aload_n 1, 1) := by decide +kernel
theorem d_AL_add2_14 : decode prog_36_method_24_code 14 = .ok (.aastore, 1) := by decide +kernel
theorem d_AL_add2_15 : decode prog_36_method_24_code 15 = .ok (.aload_n 0, 1) := by decide +kernel
theorem d_AL_add2_16 : decode prog_36_method_24_code 16 = .ok (.iload_n 3, 1) := by decide +kernel
theorem d_AL_add2_17 : decode prog_36_method_24_code 17 = .ok (.iconst 1, 1) := by decide +kernel
theorem d_AL_add2_18 : decode prog_36_method_24_code 18 = .ok (.iadd, 1) := by decide +kernel
theorem d_AL_add2_19 : decode prog_36_method_24_code 19 = .ok (.putfield 48, 3) := by decide +kernel
theorem d_AL_add2_22 : decode prog_36_method_24_code 22 = .ok (.return_, 1) := by decide +kernel
abbrev m_AL_add1 : cx_M := (⟨"java/util/ArrayList", "add", "(Ljava/lang/Object;)Z"⟩, prog_36_method_25_code, 2, (Option.some Jvm.ClassFile.FieldType.boolean), [], [false, false])
theorem w_AL_add1 : cx_W m_AL_add1 := ⟨Or.inl ⟨(in_4 (List.mem_of_getElem? (i := 195) rfl)), rfl⟩, by decide +kernel, by decide, by decide, by decide +kernel⟩
theorem n_AL_add1 : (parseMethodDescriptor m_AL_add1.1.desc).map (fun d => d.parameters.length) = some 1 := by decide +kernel
theorem d_AL_add1_0 : decode prog_36_method_25_code 0 = .ok (.aload_n 0, 1) := by decide +kernel
theorem d_AL_add1_1 : decode prog_36_method_25_code 1 = .ok (.dup, 1) := by decide +kernel
theorem d_AL_add1_2 : decode prog_36_method_25_code 2 = .ok (.getfield 63, 3) := by decide +kernel
theorem d_AL_add1_5 : decode prog_36_method_25_code 5 = .ok (.iconst 1, 1) := by decide +kernel
theorem d_AL_add1_6 : decode prog_36_method_25_code 6 = .ok (.iadd, 1) := by decide +kernel
theorem d_AL_add1_7 : decode prog_36_method_25_code 7 = .ok (.putfield 63, 3) := by decide +kernel
theorem d_AL_add1_10 : decode prog_36_method_25_code 10 = .ok (.aload_n 0, 1) := by decide +kernel
theorem d_AL_add1_11 : decode prog_36_method_25_code 11 = .ok (.aload_n 1, 1) := by decide +kernel
theorem d_AL_add1_12 : decode prog_36_method_25_code 12 = .ok (.aload_n 0, 1) := by decide +kernel
theorem d_AL_add1_13 : decode prog_36_method_25_code 13 = .ok (.getfield 9, 3) := by decide +kernel
theorem d_AL_add1_16 : decode prog_36_method_25_code 16 = .ok (.aload_n 0, 1) := by decide +kernel
theorem d_AL_add1_17 : decode prog_36_method_25_code 17 = .ok (.getfield 48, 3) := by decide +kernel
theorem d_AL_add1_20 : decode prog_36_method_25_code 20 = .ok (.invokevirtual 131, 3) := by decide +kernel
theorem d_AL_add1_23 : decode prog_36_method_25_code 23 = .ok (.iconst 1, 1) := by decide +kernel
theorem d_AL_add1_24 : decode prog_36_method_25_code 24 = .ok (.ireturn, 1) := by decide +kernel
abbrev m_Ar_copyOf1 : cx_M := (⟨"java/util/Arrays", "copyOf", "([BI)[B"⟩, prog_37_method_121_code, 3, (Option.some (Jvm.ClassFile.FieldType.array Jvm.ClassFile.FieldType.byte)), [], [false, false])
theorem w_Ar_copyOf1 : cx_W m_Ar_copyOf1 := ⟨Or.inl ⟨(in_3 (List.mem_of_getElem? (i := 64) rfl)), rfl⟩, by decide +kernel, by decide, by decide, by decide +kernel⟩
theorem n_Ar_copyOf1 : (parseMethodDescriptor m_Ar_copyOf1.1.desc).map (fun d => d.parameters.length) = some 2 := by decide +kernel
theorem d_Ar_copyOf1_0 : decode prog_37_method_121_code 0 = .ok (.iload_n 1, 1) := by decide +kernel
theorem d_Ar_copyOf1_1 : decode prog_37_method_121_code 1 = .ok (.aload_n 0, 1) := by decide +kernel
theorem d_Ar_copyOf1_2 : decode prog_37_method_121_code 2 = .ok (.arraylength, 1) := by decide +kernel
theorem d_Ar_copyOf1_3 : decode prog_37_method_121_code 3 = .ok (.if_icmp .ne 11, 3) := by decide +kernel
theorem d_Ar_copyOf1_6 : decode prog_37_method_121_code 6 = .ok (.aload_n 0, 1) := by decide +kernel
theorem d_Ar_copyOf1_7 : decode prog_37_method_121_code 7 = .ok (.invokevirtual 310, 3) := by decide +kernel
theorem d_Ar_copyOf1_10 : decode prog_37_method_121_code 10 = .ok (.checkcast 311, 3) := by decide +kernel
theorem d_Ar_copyOf1_13 : decode prog_37_method_121_code 13 = .ok (.areturn, 1) := by decide +kernel
theorem d_Ar_copyOf1_14 : decode prog_37_method_121_code 14 = .ok (.iload_n 1, 1) := by decide +kernel
theorem d_Ar_copyOf1_15 : decode prog_37_method_121_code 15 = .ok (.newarray .byte, 2) := by decide +kernel
theorem d_Ar_copyOf1_17 : decode prog_37_method_121_code 17 = .ok (.astore_n 2, 1) := by decide +kernel
theorem d_Ar_copyOf1_18 : decode prog_37_method_121_code 18 = .ok (.aload_n 0, 1) := by decide +kernel
theorem d_Ar_copyOf1_19 : decode prog_37_method_121_code 19 = .ok (.iconst 0, 1) := by decide +kernel
theorem d_Ar_copyOf1_20 : decode prog_37_method_121_code 20 = .ok (.aload_n 2, 1) := by decide +kernel
theorem d_Ar_copyOf1_21 : decode prog_37_method_121_code 21 = .ok (.iconst 0, 1) := by decide +kernel
theorem d_Ar_copyOf1_22 : decode prog_37_method_121_code 22 = .ok (.aload_n 0, 1) := by decide +kernel
theorem d_Ar_copyOf1_23 : decode prog_37_method_121_code 23 = .ok (.arraylength, 1) := by decide +kernel
theorem d_Ar_copyOf1_24 : decode prog_37_method_121_code 24 = .ok (.iload_n 1, 1) := by decide +kernel
theorem d_Ar_copyOf1_25 : decode prog_37_method_121_code 25 = .ok (.invokestatic 304, 3) := by decide +kernel
theorem d_Ar_copyOf1_28 : decode prog_37_method_121_code 28 = .ok (.invokestatic 150, 3) := by decide +kernel
theorem d_Ar_copyOf1_31 : decode prog_37_method_121_code 31 = .ok (.aload_n 2, 1) := by decide +kernel
theorem d_Ar_copyOf1_32 : decode prog_37_method_121_code 32 = .ok (.areturn, 1) := by decide +kernel
theorem l_AbL_1 : cx_LI "java/util/AbstractList" 1 m_AbC_init := ⟨Or.inl (in_1 (List.mem_of_getElem? (i := 69) rfl)), w_AbC_init, (in_1 (List.mem_of_getElem? (i := 70) rfl)), rfl, rfl, rfl, (in_1 (List.mem_of_getElem? (i := 71) rfl))⟩
theorem l_AL_1 : cx_LI "java/util/ArrayList" 1 m_AbL_init := ⟨Or.inl (in_1 (List.mem_of_getElem? (i := 66) rfl)), w_AbL_init, (in_1 (List.mem_of_getElem? (i := 67) rfl)), rfl, rfl, rfl, (in_1 (List.mem_of_getElem? (i := 68) rfl))⟩
theorem l_Ob_105 : cx_LS "java/util/Objects" 105 m_Pr_checkIndex := ⟨Or.inl (in_5 (List.mem_of_getElem? (i := 190) rfl)), w_Pr_checkIndex, (in_2 (List.mem_of_getElem? (i := 45) rfl)), (in_1 (List.mem_of_getElem? (i := 23) rfl))⟩
theorem l_AL_118 : cx_LS "java/util/ArrayList" 118 m_Ob_checkIndex := ⟨Or.inl (in_5 (List.mem_of_getElem? (i := 187) rfl)), w_Ob_checkIndex, (in_5 (List.mem_of_getElem? (i := 188) rfl)), (in_1 (List.mem_of_getElem? (i := 35) rfl))⟩
theorem l_AL_123 : cx_LV "java/util/ArrayList" 123 13 m_AL_elementData := ⟨Or.inl (in_5 (List.mem_of_getElem? (i := 191) rfl)), w_AL_elementData, (in_5 (List.mem_of_getElem? (i := 192) rfl)), _, rfl, (in_5 (List.mem_of_getElem? (i := 193) rfl))⟩
theorem l_Ar_300 : cx_LS "java/util/Arrays" 300 m_Ar_copyOf3 := ⟨Or.inl (in_4 (List.mem_of_getElem? (i := 236) rfl)), w_Ar_copyOf3, (in_4 (List.mem_of_getElem? (i := 237) rfl)), (in_1 (List.mem_of_getElem? (i := 11) rfl))⟩
theorem l_AL_73 : cx_LS "java/util/ArrayList" 73 m_AS_newLength := ⟨Or.inl (in_4 (List.mem_of_getElem? (i := 208) rfl)), w_AS_newLength, (in_3 (List.mem_of_getElem? (i := 52) rfl)), (in_1 (List.mem_of_getElem? (i := 30) rfl))⟩
theorem l_AL_66 : cx_LS "java/util/ArrayList" 66 m_Ar_copyOf2 := ⟨Or.inl (in_4 (List.mem_of_getElem? (i := 209) rfl)), w_Ar_copyOf2, (in_4 (List.mem_of_getElem? (i := 210) rfl)), (in_1 (List.mem_of_getElem? (i := 11) rfl))⟩
theorem l_AL_69 : cx_LV "java/util/ArrayList" 69 13 m_AL_grow2 := ⟨Or.inl (in_4 (List.mem_of_getElem? (i := 204) rfl)), w_AL_grow2, (in_4 (List.mem_of_getElem? (i := 206) rfl)), _, rfl, (List.mem_append_left _ (List.mem_of_getElem? (i := 21) rfl))⟩
theorem l_AL_129 : cx_LV "java/util/ArrayList" 129 13 m_AL_grow1 := ⟨Or.inl (in_4 (List.mem_of_getElem? (i := 200) rfl)), w_AL_grow1, (in_4 (List.mem_of_getElem? (i := 202) rfl)), _, rfl, (List.mem_append_left _ (List.mem_of_getElem? (i := 20) rfl))⟩
theorem l_AL_131 : cx_LV "java/util/ArrayList" 131 13 m_AL_add2 := ⟨Or.inl (in_4 (List.mem_of_getElem? (i := 196) rfl)), w_AL_add2, (in_4 (List.mem_of_getElem? (i := 198) rfl)), _, rfl, (List.mem_append_left _ (List.mem_of_getElem? (i := 19) rfl))⟩
set_option maxRecDepth 100000 in
theorem c_AbC_init {k : cx_K} {l : Launch} {G : cx_G} {a : Nat} : cx_Sp k l m_AbC_init 1 [.ref a] G (cx_rd none G) := by
  intro E hE
  refine cx_aload_n (i := 0) hE d_AbC_init_0 rfl rfl ?_
  refine cx_objI hE d_AbC_init_1 (in_1 (List.mem_of_getElem? (i := 72) rfl)) (in_1 (List.mem_of_getElem? (i := 43) rfl)) (in_1 (List.mem_of_getElem? (i := 44) rfl)) (by omega) (Nat.le_of_ble_eq_true rfl) ?_
  refine cx_vret hE d_AbC_init_4 rfl ?_
  exact ⟨rfl, rfl⟩
set_option maxRecDepth 100000 in
theorem c_AbL_init {k : cx_K} {l : Launch} {G : cx_G} {a : Nat} {x y z : Value} (hG : G.1 a = some (.inr (13, [x, y, z]))) : cx_Sp k l m_AbL_init 2 [.ref a] G (cx_rd none (cx_put G a (.inr (13, [x, y, .int 0])))) := by
  intro E hE
  refine cx_aload_n (i := 0) hE d_AbL_init_0 rfl rfl ?_
  refine cx_invI0 hE d_AbL_init_1 l_AbL_1 (c_AbC_init) rfl (by omega) (Nat.le_of_ble_eq_true rfl) n_AbC_init (by first | rfl | (simp only [List.map_cons, List.map_nil, cx_rfc]; rfl)) ?_
  refine cx_aload_n (i := 0) hE d_AbL_init_4 rfl rfl ?_
  refine cx_iconst (v := 0) hE d_AbL_init_5 (by decide) ?_
  refine cx_putg hE d_AbL_init_6 f_AbL_7 (by assumption) (Nat.le_of_ble_eq_true rfl) (by first | rfl | exact cx_nr _ _) (by first | rfl | exact cx_fr _ _) (fun G_6 g_6 h_6 => ?_)
  refine cx_vret hE d_AbL_init_9 rfl ?_
  subst g_6
  exact ⟨rfl, rfl⟩
set_option maxRecDepth 100000 in
theorem c_AL_init {k : cx_K} {l : Launch} {G : cx_G} {a : Nat} {x z : Value} (hG : G.1 a = some (.inr (13, [x, .int 0, z]))) : cx_Sp k l m_AL_init 3 [.ref a] G (cx_rd none (cx_put G a (.inr (13, [.ref (k.2.2.2.2.2.1 0), .int 0, .int 0])))) := by
  intro E hE
  refine cx_aload_n (i := 0) hE d_AL_init_0 rfl rfl ?_
  refine cx_invI0 hE d_AL_init_1 l_AL_1 (c_AbL_init hG) rfl (by omega) (Nat.le_of_ble_eq_true rfl) n_AbL_init (by first | rfl | (simp only [List.map_cons, List.map_nil, cx_rfc]; rfl)) ?_
  refine cx_gen (fun G_1 g_1 => ?_)
  have h_1 := cx_ps g_1
  refine cx_aload_n (i := 0) hE d_AL_init_4 rfl rfl ?_
  refine cx_dflt hE d_AL_init_5 (in_1 (List.mem_of_getElem? (i := 73) rfl)) ?_
  refine cx_putg hE d_AL_init_8 f_AL_9 (by assumption) (Nat.le_of_ble_eq_true rfl) (by first | rfl | exact cx_nr _ _) (by first | rfl | exact cx_fr _ _) (fun G_8 g_8 h_8 => ?_)
  refine cx_vret hE d_AL_init_11 rfl ?_
  subst g_8 g_1
  simp only [cx_pp]
  exact ⟨rfl, rfl⟩
set_option maxRecDepth 100000 in
theorem c_AL_size {k : cx_K} {l : Launch} {G : cx_G} {la ed cap : Nat} {xs : List Nat} (hl : tx_al k G la ed xs cap) : cx_Sp k l m_AL_size 0 [.ref la] G (cx_rd (some (.int (nI xs.length))) G) := by
  intro E hE
  obtain ⟨⟨mc, h1⟩, h2⟩ := hl
  refine cx_aload_n (i := 0) hE d_AL_size_0 rfl rfl ?_
  refine cx_get hE d_AL_size_1 f_AL_48 (by assumption) (by rfl) ?_
  refine cx_iret hE d_AL_size_4 rfl rfl ?_
  exact ⟨rfl, rfl⟩
set_option maxRecDepth 100000 in
theorem c_Ob_checkIndex {k : cx_K} {l : Launch} {G : cx_G} {i n : Nat} (hi : i < n) (hn : n < 2 ^ 31) : cx_Sp k l m_Ob_checkIndex 1 [.int (nI i), .int (nI n)] G (cx_rd (some (.int (nI i))) G) := by
  intro E hE
  refine cx_iload_n (i := 0) hE d_Ob_checkIndex_0 rfl rfl ?_
  refine cx_iload_n (i := 1) hE d_Ob_checkIndex_1 rfl rfl ?_
  refine cx_null hE d_Ob_checkIndex_2 ?_
  refine cx_invS1 hE d_Ob_checkIndex_3 l_Ob_105 (c_Pr_checkIndex (r := none) hi hn) rfl (by omega) (Nat.le_of_ble_eq_true rfl) n_Pr_checkIndex (by first | rfl | (simp only [List.map_cons, List.map_nil, cx_rfc]; rfl)) ?_
  refine cx_iret hE d_Ob_checkIndex_6 rfl rfl ?_
  exact ⟨rfl, rfl⟩
set_option maxRecDepth 100000 in
theorem c_AL_elementData {k : cx_K} {l : Launch} {G : cx_G} {la ed cap i : Nat} {xs : List Nat} (hl : tx_al k G la ed xs cap) (hi : i < xs.length) (hn : cap < 2 ^ 31) : cx_Sp k l m_AL_elementData 0 [.ref la, .int (nI i)] G (cx_rd (some (.ref (xs.getD i 0))) G) := by
  intro E hE
  obtain ⟨⟨mc, h1⟩, h2⟩ := hl
  rcases h2 with ⟨-, h2, -⟩ | ⟨f, h2, h3, h4, h5, h6⟩
  · rw [h2] at hi; exact absurd hi (Nat.not_lt_zero _)
  refine cx_aload_n (i := 0) hE d_AL_elementData_0 rfl rfl ?_
  refine cx_get hE d_AL_elementData_1 f_AL_9 (by assumption) (by rfl) ?_
  refine cx_iload_n (i := 1) hE d_AL_elementData_4 rfl rfl ?_
  refine cx_aald 3 hE d_AL_elementData_5 rfl (by assumption) (vp_in_nI (by omega) (by omega)) ?_
  rw [nI_clamp (by omega), h6 i hi]
  refine cx_aret (r := some (xs.getD i 0)) hE d_AL_elementData_6 rfl (by first | exact Or.inl ⟨_, rfl⟩ | exact Or.inr ⟨_, rfl⟩) ?_
  exact ⟨rfl, rfl⟩
set_option maxRecDepth 100000 in
theorem c_AL_get {k : cx_K} {l : Launch} {G : cx_G} {la ed cap i : Nat} {xs : List Nat} (hl : tx_al k G la ed xs cap) (hi : i < xs.length) (hn : cap < 2 ^ 31) : cx_Sp k l m_AL_get 2 [.ref la, .int (nI i)] G (cx_rd (some (.ref (xs.getD i 0))) G) := by
  intro E hE
  have hlen := hl.len
  obtain ⟨⟨mc, h1⟩, h2⟩ := id hl
  refine cx_iload_n (i := 1) hE d_AL_get_0 rfl rfl ?_
  refine cx_aload_n (i := 0) hE d_AL_get_1 rfl rfl ?_
  refine cx_get hE d_AL_get_2 f_AL_48 (by assumption) (by rfl) ?_
  refine cx_invS1 hE d_AL_get_5 l_AL_118 (c_Ob_checkIndex hi (by omega)) rfl (by omega) (Nat.le_of_ble_eq_true rfl) n_Ob_checkIndex (by first | rfl | (simp only [List.map_cons, List.map_nil, cx_rfc]; rfl)) ?_
  refine cx_pop hE d_AL_get_8 ?_
  refine cx_aload_n (i := 0) hE d_AL_get_9 rfl rfl ?_
  refine cx_iload_n (i := 1) hE d_AL_get_10 rfl rfl ?_
  refine cx_invV1 hE d_AL_get_11 l_AL_123 (by assumption) (c_AL_elementData hl hi hn) rfl (by omega) (Nat.le_of_ble_eq_true rfl) n_AL_elementData (by first | rfl | (simp only [List.map_cons, List.map_nil, cx_rfc]; rfl)) ?_
  refine cx_aret (r := some (xs.getD i 0)) hE d_AL_get_14 rfl (by first | exact Or.inl ⟨_, rfl⟩ | exact Or.inr ⟨_, rfl⟩) ?_
  exact ⟨rfl, rfl⟩
set_option maxRecDepth 100000 in
theorem c_AS_newLength {k : cx_K} {l : Launch} {G : cx_G} {a b c : Nat} (h0 : 0 < a + max b c) (h : a + max b c < 2147483000) : cx_Sp k l m_AS_newLength 1 [.int (nI a), .int (nI b), .int (nI c)] G (cx_rd (some (.int (nI (a + max b c)))) G) := by
  intro E hE
  refine cx_iload_n (i := 0) hE d_AS_newLength_0 rfl rfl ?_
  refine cx_iload_n (i := 1) hE d_AS_newLength_1 rfl rfl ?_
  refine cx_iload_n (i := 2) hE d_AS_newLength_2 rfl rfl ?_
  refine cx_mmax hE d_AS_newLength_3 (in_3 (List.mem_of_getElem? (i := 54) rfl)) (in_3 (List.mem_of_getElem? (i := 55) rfl)) (in_1 (List.mem_of_getElem? (i := 12) rfl)) (in_3 (List.mem_of_getElem? (i := 56) rfl)) (by omega) (Nat.le_of_ble_eq_true rfl) ?_
  rw [tx_max (by omega) (by omega)]
  refine cx_iadd hE d_AS_newLength_6 ?_
  rw [nI_add]
  refine cx_istore_n (i := 3) hE d_AS_newLength_7 rfl (by decide) ?_
  refine cx_iconst (v := 0) hE d_AS_newLength_8 (by decide) ?_
  refine cx_iload_n (i := 3) hE d_AS_newLength_9 rfl rfl ?_
  refine cx_icmp_ge (tgt := 21)  hE d_AS_newLength_10 (by decide) (fun c_10 => ?_) (fun c_10 => ?_)
  · exact absurd c_10 (nI_ge (a := 0) (b := a + max b c) h0 (by omega))
    -- end
  · refine cx_iload_n (i := 3) hE d_AS_newLength_13 rfl rfl ?_
    refine cx_ldc (v := 2147483639) hE d_AS_newLength_14 (in_3 (List.mem_of_getElem? (i := 57) rfl)) ?_
    refine cx_icmp_gt (tgt := 21)  hE d_AS_newLength_16 (by decide) (fun c_16 => ?_) (fun c_16 => ?_)
    · exact absurd c_16 (nI_nlt (a := 2147483639) (b := a + max b c) (by omega) (by omega))
      -- end
    · refine cx_iload_n (i := 3) hE d_AS_newLength_19 rfl rfl ?_
      refine cx_iret hE d_AS_newLength_20 rfl rfl ?_
      exact ⟨rfl, rfl⟩
/-- a new Object[] of m places that begins as f does -/
def tx_nr (k : cx_K) (G : cx_G) (n m : Nat) (f : Nat → Option Nat) : cx_R → cx_G → Prop := fun r G' => ∃ a g, r = .inl (some (.ref a)) ∧ G.1 a = none ∧ cx_ext G G' ∧ G'.1 a = some (.inl (k.2.1 3, m, .inr (.inr (.inr (.inr g))))) ∧ (∀ j, j < n → g j = f j) ∧ G'.2.1 = G.2.1 + 1 ∧ G'.2.2 = G.2.2 + m
theorem cx_any.ext {G G' : cx_G} {y : Nat} (h : cx_ext G G') (hy : cx_any G y) : cx_any G' y := by
  obtain ⟨ci, fs, r, h1, h2⟩ := hy
  exact ⟨ci, fs, r, h _ _ h1, h2⟩
set_option maxRecDepth 100000 in
theorem c_Ar_copyOf3 {k : cx_K} {l : Launch} {G : cx_G} {b n m : Nat} {f : Nat → Option Nat} (hG : G.1 b = some (.inl (k.2.1 3, n, .inr (.inr (.inr (.inr f)))))) (hf : ∀ j, j < n → ∀ y, f j = some y → cx_any G y) (hnm : n ≤ m) (hm : m ≤ 1048576) (r1 : G.2.1 + 1 ≤ 601024) (r2 : G.2.2 + m ≤ 7293034) : cx_Sp k l m_Ar_copyOf3 1 [.ref b, .int (nI m), .ref (k.2.2.2.2.2.1 2)] G (tx_nr k G n m f) := by
  intro E hE
  refine cx_aload_n (i := 2) hE d_Ar_copyOf3_0 rfl rfl ?_
  refine cx_ldcM hE d_Ar_copyOf3_1 (in_4 (List.mem_of_getElem? (i := 239) rfl)) ?_
  refine cx_acmp_ne (tgt := 13) (rx := some (k.2.2.2.2.2.1 2)) (ry := some (k.2.2.2.2.2.1 2)) hE d_Ar_copyOf3_3 (by decide) (fun c_3 => ?_) (fun c_3 => ?_)
  · exact absurd rfl c_3
    -- end
  · refine cx_iload_n (i := 1) hE d_Ar_copyOf3_6 rfl rfl ?_
    refine cx_newq 3 (N' := m) hE d_Ar_copyOf3_7 (in_5 (List.mem_of_getElem? (i := 1) rfl)) (in_5 (List.mem_of_getElem? (i := 0) rfl)) rfl rfl (nI_pos (by omega)) (nI_clamp (by omega)) (by omega) (by show _ ≤ 601024; omega) (by show _ ≤ 7293034; omega) (fun a_7 n_7 b_7 => ?_)
    refine cx_gen (fun G_7 g_7 => ?_)
    have h_7 := cx_ms g_7
    have hb_7 := cx_mn g_7 n_7 hG
    refine cx_goto (tgt := 24) hE d_Ar_copyOf3_10 (by decide) ?_
    refine cx_astore_n (i := 3) hE d_Ar_copyOf3_24 rfl (by decide) ?_
    refine cx_aload_n (i := 0) hE d_Ar_copyOf3_25 rfl rfl ?_
    refine cx_iconst (v := 0) hE d_Ar_copyOf3_26 (by decide) ?_
    refine cx_aload_n (i := 3) hE d_Ar_copyOf3_27 rfl rfl ?_
    refine cx_iconst (v := 0) hE d_Ar_copyOf3_28 (by decide) ?_
    refine cx_aload_n (i := 0) hE d_Ar_copyOf3_29 rfl rfl ?_
    refine cx_alen 3 hE d_Ar_copyOf3_30 rfl (by assumption) rfl ?_
    refine cx_iload_n (i := 1) hE d_Ar_copyOf3_31 rfl rfl ?_
    refine cx_mmin hE d_Ar_copyOf3_32 (in_3 (List.mem_of_getElem? (i := 72) rfl)) (in_2 (List.mem_of_getElem? (i := 171) rfl)) (in_1 (List.mem_of_getElem? (i := 12) rfl)) (in_2 (List.mem_of_getElem? (i := 172) rfl)) (by omega) (Nat.le_of_ble_eq_true rfl) ?_
    rw [show Int32.ofNat n = nI n from rfl, tx_min (by omega) (by omega), Nat.min_eq_left (by omega)]
    refine cx_copyq hE d_Ar_copyOf3_35 (in_3 (List.mem_of_getElem? (i := 73) rfl)) (in_3 (List.mem_of_getElem? (i := 75) rfl)) (in_3 (List.mem_of_getElem? (i := 74) rfl)) (in_1 (List.mem_of_getElem? (i := 13) rfl)) hb_7 h_7 (by omega) (by omega) (by omega) (sp := 0) (dp := 0) (n := n) (by omega) (by omega) (fun i hi y hy => (hf i hi y (by rw [Nat.zero_add] at hy; exact hy)).ext (by subst g_7; exact cx_ext.mk n_7)) (by omega) (Nat.le_of_ble_eq_true rfl) ?_
    refine cx_aload_n (i := 3) hE d_Ar_copyOf3_38 rfl rfl ?_
    refine cx_aret (r := some a_7) hE d_Ar_copyOf3_39 rfl (by first | exact Or.inl ⟨_, rfl⟩ | exact Or.inr ⟨_, rfl⟩) ?_
    subst g_7
    refine ⟨_, _, rfl, n_7, ?_, cx_ps rfl, fun j hj => ?_, rfl, rfl⟩
    · rw [cx_mp]
      exact cx_ext.mk n_7
    · rw [pk_cpy_in (by omega) (by omega), Nat.sub_zero, Nat.zero_add]
set_option maxRecDepth 100000 in
theorem c_Ar_copyOf2 {k : cx_K} {l : Launch} {G : cx_G} {b n m : Nat} {f : Nat → Option Nat} (hG : G.1 b = some (.inl (k.2.1 3, n, .inr (.inr (.inr (.inr f)))))) (hf : ∀ j, j < n → ∀ y, f j = some y → cx_any G y) (hnm : n ≤ m) (hm : m ≤ 1048576) (r1 : G.2.1 + 1 ≤ 601024) (r2 : G.2.2 + m ≤ 7293034) : cx_Sp k l m_Ar_copyOf2 2 [.ref b, .int (nI m)] G (tx_nr k G n m f) := by
  intro E hE
  refine cx_aload_n (i := 0) hE d_Ar_copyOf2_0 rfl rfl ?_
  refine cx_iload_n (i := 1) hE d_Ar_copyOf2_1 rfl rfl ?_
  refine cx_aload_n (i := 0) hE d_Ar_copyOf2_2 rfl rfl ?_
  refine cx_getC hE d_Ar_copyOf2_3 (in_4 (List.mem_of_getElem? (i := 212) rfl)) hG (by omega) (Nat.le_of_ble_eq_true rfl) ?_
  refine cx_invS hE d_Ar_copyOf2_6 l_Ar_300 (c_Ar_copyOf3 hG hf hnm hm r1 r2) rfl (by omega) (Nat.le_of_ble_eq_true rfl) n_Ar_copyOf3 (by rfl) (fun v G1 q => ?_) (fun a G1 q => by obtain ⟨_, _, q, _⟩ := q; cases q)
  obtain ⟨a1, g1, q0, q⟩ := q
  cases q0
  show cx_V E _ _ [.ref a1] G1
  refine cx_aret (r := some a1) hE d_Ar_copyOf2_9 rfl (by first | exact Or.inl ⟨_, rfl⟩ | exact Or.inr ⟨_, rfl⟩) ?_
  exact ⟨a1, g1, rfl, q⟩

/-! THE REFERENCE: a new object. -/
abbrev m_Mo_init : cx_M := (⟨"CircuitTextModel", "<init>", "()V"⟩, prog_14_method_1_code, 1, (Option.none : Option Jvm.ClassFile.FieldType), [], [false])
theorem w_Mo_init : cx_W m_Mo_init := ⟨Or.inl ⟨(in_6 (List.mem_of_getElem? (i := 91) rfl)), rfl⟩, by decide +kernel, by decide, by decide, by decide +kernel⟩
theorem n_Mo_init : (parseMethodDescriptor m_Mo_init.1.desc).map (fun d => d.parameters.length) = some 0 := by decide +kernel
theorem d_Mo_init_0 : decode prog_14_method_1_code 0 = .ok (.aload_n 0, 1) := by decide +kernel
theorem d_Mo_init_1 : decode prog_14_method_1_code 1 = .ok (.invokespecial 1, 3) := by decide +kernel
theorem d_Mo_init_4 : decode prog_14_method_1_code 4 = .ok (.aload_n 0, 1) := by decide +kernel
theorem d_Mo_init_5 : decode prog_14_method_1_code 5 = .ok (.ldc 7, 2) := by decide +kernel
theorem d_Mo_init_7 : decode prog_14_method_1_code 7 = .ok (.newarray .byte, 2) := by decide +kernel
theorem d_Mo_init_9 : decode prog_14_method_1_code 9 = .ok (.putfield 8, 3) := by decide +kernel
theorem d_Mo_init_12 : decode prog_14_method_1_code 12 = .ok (.aload_n 0, 1) := by decide +kernel
theorem d_Mo_init_13 : decode prog_14_method_1_code 13 = .ok (.ldc 14, 2) := by decide +kernel
theorem d_Mo_init_15 : decode prog_14_method_1_code 15 = .ok (.newarray .int, 2) := by decide +kernel
theorem d_Mo_init_17 : decode prog_14_method_1_code 17 = .ok (.putfield 15, 3) := by decide +kernel
theorem d_Mo_init_20 : decode prog_14_method_1_code 20 = .ok (.aload_n 0, 1) := by decide +kernel
theorem d_Mo_init_21 : decode prog_14_method_1_code 21 = .ok (.ldc 14, 2) := by decide +kernel
theorem d_Mo_init_23 : decode prog_14_method_1_code 23 = .ok (.newarray .int, 2) := by decide +kernel
theorem d_Mo_init_25 : decode prog_14_method_1_code 25 = .ok (.putfield 19, 3) := by decide +kernel
theorem d_Mo_init_28 : decode prog_14_method_1_code 28 = .ok (.aload_n 0, 1) := by decide +kernel
theorem d_Mo_init_29 : decode prog_14_method_1_code 29 = .ok (.ldc 14, 2) := by decide +kernel
theorem d_Mo_init_31 : decode prog_14_method_1_code 31 = .ok (.newarray .int, 2) := by decide +kernel
theorem d_Mo_init_33 : decode prog_14_method_1_code 33 = .ok (.putfield 22, 3) := by decide +kernel
theorem d_Mo_init_36 : decode prog_14_method_1_code 36 = .ok (.aload_n 0, 1) := by decide +kernel
theorem d_Mo_init_37 : decode prog_14_method_1_code 37 = .ok (.sipush 3600, 3) := by decide +kernel
theorem d_Mo_init_40 : decode prog_14_method_1_code 40 = .ok (.newarray .int, 2) := by decide +kernel
theorem d_Mo_init_42 : decode prog_14_method_1_code 42 = .ok (.putfield 25, 3) := by decide +kernel
theorem d_Mo_init_45 : decode prog_14_method_1_code 45 = .ok (.aload_n 0, 1) := by decide +kernel
theorem d_Mo_init_46 : decode prog_14_method_1_code 46 = .ok (.sipush 3601, 3) := by decide +kernel
theorem d_Mo_init_49 : decode prog_14_method_1_code 49 = .ok (.newarray .int, 2) := by decide +kernel
theorem d_Mo_init_51 : decode prog_14_method_1_code 51 = .ok (.putfield 28, 3) := by decide +kernel
theorem d_Mo_init_54 : decode prog_14_method_1_code 54 = .ok (.aload_n 0, 1) := by decide +kernel
theorem d_Mo_init_55 : decode prog_14_method_1_code 55 = .ok (.sipush 3601, 3) := by decide +kernel
theorem d_Mo_init_58 : decode prog_14_method_1_code 58 = .ok (.newarray .int, 2) := by decide +kernel
theorem d_Mo_init_60 : decode prog_14_method_1_code 60 = .ok (.putfield 31, 3) := by decide +kernel
theorem d_Mo_init_63 : decode prog_14_method_1_code 63 = .ok (.aload_n 0, 1) := by decide +kernel
theorem d_Mo_init_64 : decode prog_14_method_1_code 64 = .ok (.sipush 3601, 3) := by decide +kernel
theorem d_Mo_init_67 : decode prog_14_method_1_code 67 = .ok (.newarray .int, 2) := by decide +kernel
theorem d_Mo_init_69 : decode prog_14_method_1_code 69 = .ok (.putfield 34, 3) := by decide +kernel
theorem d_Mo_init_72 : decode prog_14_method_1_code 72 = .ok (.aload_n 0, 1) := by decide +kernel
theorem d_Mo_init_73 : decode prog_14_method_1_code 73 = .ok (.sipush 3601, 3) := by decide +kernel
theorem d_Mo_init_76 : decode prog_14_method_1_code 76 = .ok (.newarray .int, 2) := by decide +kernel
theorem d_Mo_init_78 : decode prog_14_method_1_code 78 = .ok (.putfield 37, 3) := by decide +kernel
theorem d_Mo_init_81 : decode prog_14_method_1_code 81 = .ok (.aload_n 0, 1) := by decide +kernel
theorem d_Mo_init_82 : decode prog_14_method_1_code 82 = .ok (.sipush 11000, 3) := by decide +kernel
theorem d_Mo_init_85 : decode prog_14_method_1_code 85 = .ok (.newarray .int, 2) := by decide +kernel
theorem d_Mo_init_87 : decode prog_14_method_1_code 87 = .ok (.putfield 40, 3) := by decide +kernel
theorem d_Mo_init_90 : decode prog_14_method_1_code 90 = .ok (.aload_n 0, 1) := by decide +kernel
theorem d_Mo_init_91 : decode prog_14_method_1_code 91 = .ok (.sipush 11000, 3) := by decide +kernel
theorem d_Mo_init_94 : decode prog_14_method_1_code 94 = .ok (.newarray .int, 2) := by decide +kernel
theorem d_Mo_init_96 : decode prog_14_method_1_code 96 = .ok (.putfield 43, 3) := by decide +kernel
theorem d_Mo_init_99 : decode prog_14_method_1_code 99 = .ok (.aload_n 0, 1) := by decide +kernel
theorem d_Mo_init_100 : decode prog_14_method_1_code 100 = .ok (.sipush 11000, 3) := by decide +kernel
theorem d_Mo_init_103 : decode prog_14_method_1_code 103 = .ok (.newarray .int, 2) := by decide +kernel
theorem d_Mo_init_105 : decode prog_14_method_1_code 105 = .ok (.putfield 46, 3) := by decide +kernel
theorem d_Mo_init_108 : decode prog_14_method_1_code 108 = .ok (.aload_n 0, 1) := by decide +kernel
theorem d_Mo_init_109 : decode prog_14_method_1_code 109 = .ok (.sipush 11000, 3) := by decide +kernel
theorem d_Mo_init_112 : decode prog_14_method_1_code 112 = .ok (.newarray .long, 2) := by decide +kernel
theorem d_Mo_init_114 : decode prog_14_method_1_code 114 = .ok (.putfield 49, 3) := by decide +kernel
theorem d_Mo_init_117 : decode prog_14_method_1_code 117 = .ok (.aload_n 0, 1) := by decide +kernel
theorem d_Mo_init_118 : decode prog_14_method_1_code 118 = .ok (.sipush 11000, 3) := by decide +kernel
theorem d_Mo_init_121 : decode prog_14_method_1_code 121 = .ok (.newarray .int, 2) := by decide +kernel
theorem d_Mo_init_123 : decode prog_14_method_1_code 123 = .ok (.putfield 53, 3) := by decide +kernel
theorem d_Mo_init_126 : decode prog_14_method_1_code 126 = .ok (.aload_n 0, 1) := by decide +kernel
theorem d_Mo_init_127 : decode prog_14_method_1_code 127 = .ok (.sipush 11000, 3) := by decide +kernel
theorem d_Mo_init_130 : decode prog_14_method_1_code 130 = .ok (.newarray .int, 2) := by decide +kernel
theorem d_Mo_init_132 : decode prog_14_method_1_code 132 = .ok (.putfield 56, 3) := by decide +kernel
theorem d_Mo_init_135 : decode prog_14_method_1_code 135 = .ok (.aload_n 0, 1) := by decide +kernel
theorem d_Mo_init_136 : decode prog_14_method_1_code 136 = .ok (.sipush 11000, 3) := by decide +kernel
theorem d_Mo_init_139 : decode prog_14_method_1_code 139 = .ok (.newarray .int, 2) := by decide +kernel
theorem d_Mo_init_141 : decode prog_14_method_1_code 141 = .ok (.putfield 59, 3) := by decide +kernel
theorem d_Mo_init_144 : decode prog_14_method_1_code 144 = .ok (.aload_n 0, 1) := by decide +kernel
theorem d_Mo_init_145 : decode prog_14_method_1_code 145 = .ok (.sipush 11000, 3) := by decide +kernel
theorem d_Mo_init_148 : decode prog_14_method_1_code 148 = .ok (.newarray .int, 2) := by decide +kernel
theorem d_Mo_init_150 : decode prog_14_method_1_code 150 = .ok (.putfield 62, 3) := by decide +kernel
theorem d_Mo_init_153 : decode prog_14_method_1_code 153 = .ok (.aload_n 0, 1) := by decide +kernel
theorem d_Mo_init_154 : decode prog_14_method_1_code 154 = .ok (.sipush 11000, 3) := by decide +kernel
theorem d_Mo_init_157 : decode prog_14_method_1_code 157 = .ok (.newarray .int, 2) := by decide +kernel
theorem d_Mo_init_159 : decode prog_14_method_1_code 159 = .ok (.putfield 65, 3) := by decide +kernel
theorem d_Mo_init_162 : decode prog_14_method_1_code 162 = .ok (.aload_n 0, 1) := by decide +kernel
theorem d_Mo_init_163 : decode prog_14_method_1_code 163 = .ok (.sipush 11000, 3) := by decide +kernel
theorem d_Mo_init_166 : decode prog_14_method_1_code 166 = .ok (.newarray .int, 2) := by decide +kernel
theorem d_Mo_init_168 : decode prog_14_method_1_code 168 = .ok (.putfield 68, 3) := by decide +kernel
theorem d_Mo_init_171 : decode prog_14_method_1_code 171 = .ok (.aload_n 0, 1) := by decide +kernel
theorem d_Mo_init_172 : decode prog_14_method_1_code 172 = .ok (.sipush 11001, 3) := by decide +kernel
theorem d_Mo_init_175 : decode prog_14_method_1_code 175 = .ok (.newarray .int, 2) := by decide +kernel
theorem d_Mo_init_177 : decode prog_14_method_1_code 177 = .ok (.putfield 71, 3) := by decide +kernel
theorem d_Mo_init_180 : decode prog_14_method_1_code 180 = .ok (.aload_n 0, 1) := by decide +kernel
theorem d_Mo_init_181 : decode prog_14_method_1_code 181 = .ok (.sipush 11000, 3) := by decide +kernel
theorem d_Mo_init_184 : decode prog_14_method_1_code 184 = .ok (.newarray .int, 2) := by decide +kernel
theorem d_Mo_init_186 : decode prog_14_method_1_code 186 = .ok (.putfield 74, 3) := by decide +kernel
theorem d_Mo_init_189 : decode prog_14_method_1_code 189 = .ok (.aload_n 0, 1) := by decide +kernel
theorem d_Mo_init_190 : decode prog_14_method_1_code 190 = .ok (.sipush 11000, 3) := by decide +kernel
theorem d_Mo_init_193 : decode prog_14_method_1_code 193 = .ok (.newarray .int, 2) := by decide +kernel
theorem d_Mo_init_195 : decode prog_14_method_1_code 195 = .ok (.putfield 77, 3) := by decide +kernel
theorem d_Mo_init_198 : decode prog_14_method_1_code 198 = .ok (.aload_n 0, 1) := by decide +kernel
theorem d_Mo_init_199 : decode prog_14_method_1_code 199 = .ok (.sipush 11000, 3) := by decide +kernel
theorem d_Mo_init_202 : decode prog_14_method_1_code 202 = .ok (.newarray .int, 2) := by decide +kernel
theorem d_Mo_init_204 : decode prog_14_method_1_code 204 = .ok (.putfield 80, 3) := by decide +kernel
theorem d_Mo_init_207 : decode prog_14_method_1_code 207 = .ok (.aload_n 0, 1) := by decide +kernel
theorem d_Mo_init_208 : decode prog_14_method_1_code 208 = .ok (.sipush 6600, 3) := by decide +kernel
theorem d_Mo_init_211 : decode prog_14_method_1_code 211 = .ok (.newarray .int, 2) := by decide +kernel
theorem d_Mo_init_213 : decode prog_14_method_1_code 213 = .ok (.putfield 83, 3) := by decide +kernel
theorem d_Mo_init_216 : decode prog_14_method_1_code 216 = .ok (.aload_n 0, 1) := by decide +kernel
theorem d_Mo_init_217 : decode prog_14_method_1_code 217 = .ok (.sipush 6600, 3) := by decide +kernel
theorem d_Mo_init_220 : decode prog_14_method_1_code 220 = .ok (.newarray .int, 2) := by decide +kernel
theorem d_Mo_init_222 : decode prog_14_method_1_code 222 = .ok (.putfield 86, 3) := by decide +kernel
theorem d_Mo_init_225 : decode prog_14_method_1_code 225 = .ok (.aload_n 0, 1) := by decide +kernel
theorem d_Mo_init_226 : decode prog_14_method_1_code 226 = .ok (.sipush 6600, 3) := by decide +kernel
theorem d_Mo_init_229 : decode prog_14_method_1_code 229 = .ok (.newarray .int, 2) := by decide +kernel
theorem d_Mo_init_231 : decode prog_14_method_1_code 231 = .ok (.putfield 89, 3) := by decide +kernel
theorem d_Mo_init_234 : decode prog_14_method_1_code 234 = .ok (.aload_n 0, 1) := by decide +kernel
theorem d_Mo_init_235 : decode prog_14_method_1_code 235 = .ok (.sipush 6600, 3) := by decide +kernel
theorem d_Mo_init_238 : decode prog_14_method_1_code 238 = .ok (.newarray .int, 2) := by decide +kernel
theorem d_Mo_init_240 : decode prog_14_method_1_code 240 = .ok (.putfield 92, 3) := by decide +kernel
theorem d_Mo_init_243 : decode prog_14_method_1_code 243 = .ok (.aload_n 0, 1) := by decide +kernel
theorem d_Mo_init_244 : decode prog_14_method_1_code 244 = .ok (.sipush 4096, 3) := by decide +kernel
theorem d_Mo_init_247 : decode prog_14_method_1_code 247 = .ok (.newarray .int, 2) := by decide +kernel
theorem d_Mo_init_249 : decode prog_14_method_1_code 249 = .ok (.putfield 95, 3) := by decide +kernel
theorem d_Mo_init_252 : decode prog_14_method_1_code 252 = .ok (.aload_n 0, 1) := by decide +kernel
theorem d_Mo_init_253 : decode prog_14_method_1_code 253 = .ok (.sipush 256, 3) := by decide +kernel
theorem d_Mo_init_256 : decode prog_14_method_1_code 256 = .ok (.newarray .long, 2) := by decide +kernel
theorem d_Mo_init_258 : decode prog_14_method_1_code 258 = .ok (.putfield 98, 3) := by decide +kernel
theorem d_Mo_init_261 : decode prog_14_method_1_code 261 = .ok (.aload_n 0, 1) := by decide +kernel
theorem d_Mo_init_262 : decode prog_14_method_1_code 262 = .ok (.sipush 3600, 3) := by decide +kernel
theorem d_Mo_init_265 : decode prog_14_method_1_code 265 = .ok (.newarray .long, 2) := by decide +kernel
theorem d_Mo_init_267 : decode prog_14_method_1_code 267 = .ok (.putfield 101, 3) := by decide +kernel
theorem d_Mo_init_270 : decode prog_14_method_1_code 270 = .ok (.aload_n 0, 1) := by decide +kernel
theorem d_Mo_init_271 : decode prog_14_method_1_code 271 = .ok (.sipush 4096, 3) := by decide +kernel
theorem d_Mo_init_274 : decode prog_14_method_1_code 274 = .ok (.newarray .int, 2) := by decide +kernel
theorem d_Mo_init_276 : decode prog_14_method_1_code 276 = .ok (.putfield 104, 3) := by decide +kernel
theorem d_Mo_init_279 : decode prog_14_method_1_code 279 = .ok (.aload_n 0, 1) := by decide +kernel
theorem d_Mo_init_280 : decode prog_14_method_1_code 280 = .ok (.sipush 4096, 3) := by decide +kernel
theorem d_Mo_init_283 : decode prog_14_method_1_code 283 = .ok (.newarray .int, 2) := by decide +kernel
theorem d_Mo_init_285 : decode prog_14_method_1_code 285 = .ok (.putfield 107, 3) := by decide +kernel
theorem d_Mo_init_288 : decode prog_14_method_1_code 288 = .ok (.aload_n 0, 1) := by decide +kernel
theorem d_Mo_init_289 : decode prog_14_method_1_code 289 = .ok (.sipush 4096, 3) := by decide +kernel
theorem d_Mo_init_292 : decode prog_14_method_1_code 292 = .ok (.newarray .int, 2) := by decide +kernel
theorem d_Mo_init_294 : decode prog_14_method_1_code 294 = .ok (.putfield 110, 3) := by decide +kernel
theorem d_Mo_init_297 : decode prog_14_method_1_code 297 = .ok (.aload_n 0, 1) := by decide +kernel
theorem d_Mo_init_298 : decode prog_14_method_1_code 298 = .ok (.ldc 7, 2) := by decide +kernel
theorem d_Mo_init_300 : decode prog_14_method_1_code 300 = .ok (.newarray .byte, 2) := by decide +kernel
theorem d_Mo_init_302 : decode prog_14_method_1_code 302 = .ok (.putfield 113, 3) := by decide +kernel
theorem d_Mo_init_305 : decode prog_14_method_1_code 305 = .ok (.aload_n 0, 1) := by decide +kernel
theorem d_Mo_init_306 : decode prog_14_method_1_code 306 = .ok (.ldc 7, 2) := by decide +kernel
theorem d_Mo_init_308 : decode prog_14_method_1_code 308 = .ok (.newarray .byte, 2) := by decide +kernel
theorem d_Mo_init_310 : decode prog_14_method_1_code 310 = .ok (.putfield 116, 3) := by decide +kernel
theorem d_Mo_init_313 : decode prog_14_method_1_code 313 = .ok (.aload_n 0, 1) := by decide +kernel
theorem d_Mo_init_314 : decode prog_14_method_1_code 314 = .ok (.sipush 3600, 3) := by decide +kernel
theorem d_Mo_init_317 : decode prog_14_method_1_code 317 = .ok (.newarray .long, 2) := by decide +kernel
theorem d_Mo_init_319 : decode prog_14_method_1_code 319 = .ok (.putfield 119, 3) := by decide +kernel
theorem d_Mo_init_322 : decode prog_14_method_1_code 322 = .ok (.return_, 1) := by decide +kernel
/-- the object while it is made: the rows of the fields below j are there -/
def ri_f (P : Nat → Nat) (j : Nat) : List Value := (List.range 58).map (fun i => if rm_ty i = 3 then .int 0 else if i < j then .ref (P i) else .null)
def ri_e (k : cx_K) (i : Nat) : va_E := .inl (k.2.1 (rm_ty i), rm_len (4096, 256) i, if rm_ty i = 2 then .inr (.inl (fun _ => 0)) else .inl (fun _ => 0))
def ri_W (k : cx_K) (G0 : cx_G) (mo : Nat) (G : cx_G) (P : Nat → Nat) (j c s : Nat) : Prop := G.1 mo = some (.inr (12, ri_f P j)) ∧ (∀ i, i < j → rm_ty i ≠ 3 → G.1 (P i) = some (ri_e k i)) ∧ (∀ i i', i < j → i' < j → rm_ty i ≠ 3 → rm_ty i' ≠ 3 → P i = P i' → i = i') ∧ (∀ q e, q ≠ mo → G0.1 q = some e → G.1 q = some e) ∧ (∀ i, i < j → rm_ty i ≠ 3 → G0.1 (P i) = none) ∧ G.2.1 = G0.2.1 + c ∧ G.2.2 = G0.2.2 + s
theorem ri_f_set {P : Nat → Nat} {j f a : Nat} (hjf : j ≤ f) (hf : f < 58) (hgap : ∀ i, i < f → j ≤ i → rm_ty i = 3) (ht : rm_ty f ≠ 3) : (ri_f P j).set f (.ref a) = ri_f (va_up P f a) (f + 1) := by
  apply List.ext_getElem?
  intro i
  unfold ri_f
  rw [List.getElem?_set]
  simp only [List.length_map, List.length_range, List.getElem?_map]
  by_cases z : f = i
  · subst z
    rw [if_pos rfl, if_pos hf, List.getElem?_range hf]
    simp only [Option.map_some]
    rw [if_neg ht, if_pos (by omega), va_up_self]
  · rw [if_neg z]
    by_cases y : i < 58
    · rw [List.getElem?_range y]
      simp only [Option.map_some]
      by_cases x : rm_ty i = 3
      · rw [if_pos x, if_pos x]
      · rw [if_neg x, if_neg x]
        by_cases w : i < j
        · rw [if_pos w, if_pos (by omega), va_up_ne _ _ (fun q => z q.symm)]
        · rw [if_neg w, if_neg (fun q => x (hgap i (by omega) (by omega)))]
    · rw [List.getElem?_eq_none (by rw [List.length_range]; omega)]
      rfl
theorem ri_W.st {k : cx_K} {G0 G G1 G2 : cx_G} {mo : Nat} {P : Nat → Nat} {j c s f a n : Nat} (h : ri_W k G0 mo G P j c s) (hjf : j ≤ f) (hf : f < 58) (hgap : ∀ i, i < f → j ≤ i → rm_ty i = 3) (ht : rm_ty f ≠ 3) (hn : G.1 a = none) (g1 : cx_mk G a (ri_e k f) n = G1) (g2 : cx_put G1 mo (.inr (12, (ri_f P j).set f (.ref a))) = G2) : ri_W k G0 mo G2 (va_up P f a) (f + 1) (c + 1) (s + n) := by
  obtain ⟨h1, h2, h3, h4, h5, h6, h7⟩ := h
  rw [ri_f_set hjf hf hgap ht] at g2
  have ham : a ≠ mo := fun z => by rw [z, h1] at hn; cases hn
  have old : ∀ i, i < f + 1 → rm_ty i ≠ 3 → i ≠ f → i < j := fun i hi hti hif => by
    rcases Nat.lt_or_ge i j with y | y
    · exact y
    · exact absurd (hgap i (by omega) y) hti
  have hnp : ∀ i, i < j → rm_ty i ≠ 3 → P i ≠ mo := fun i hi hti z => by
    have := h2 i hi hti
    rw [z, h1] at this
    cases this
  have hna : ∀ i, i < j → rm_ty i ≠ 3 → P i ≠ a := fun i hi hti z => by
    have := h2 i hi hti
    rw [z, hn] at this
    cases this
  refine ⟨cx_ps g2, fun i hi hti => ?_, fun i i' hi hi' hti hti' e => ?_, fun q e hq he => cx_pn g2 (cx_mn g1 hn (h4 q e hq he)) hq, fun i hi hti => ?_, ?_, ?_⟩
  · by_cases z : i = f
    · rw [z, va_up_self]
      exact cx_pn g2 (cx_ms g1) ham
    · rw [va_up_ne _ _ z]
      have hij := old i hi hti z
      exact cx_pn g2 (cx_mn g1 hn (h2 i hij hti)) (hnp i hij hti)
  · by_cases z : i = f
    · by_cases z' : i' = f
      · rw [z, z']
      · rw [z, va_up_self, va_up_ne _ _ z'] at e
        exact absurd e.symm (hna i' (old i' hi' hti' z') hti')
    · by_cases z' : i' = f
      · rw [z', va_up_self, va_up_ne _ _ z] at e
        exact absurd e (hna i (old i hi hti z) hti)
      · rw [va_up_ne _ _ z, va_up_ne _ _ z'] at e
        exact h3 i i' (old i hi hti z) (old i' hi' hti' z') hti hti' e
  · by_cases z : i = f
    · rw [z, va_up_self]
      cases hg : G0.1 a with
      | none => rfl
      | some e => rw [h4 a e ham hg] at hn; cases hn
    · rw [va_up_ne _ _ z]
      exact h5 i (old i hi hti z) hti
  · rw [cx_pc g2, (cx_mc g1).1, h6]; omega
  · rw [cx_pc g2, (cx_mc g1).2, h7]; omega
def rm_M0 : rm_M := (fun _ => 0, fun _ _ => 0, fun _ _ => 0, 4096, 256)
theorem rm_ty_57 {i : Nat} (h : rm_ty i ≠ 3) : i < 57 := by
  unfold rm_ty at h
  split at h <;> first | omega | exact absurd rfl h
theorem ri_W.R {k : cx_K} {G0 G : cx_G} {mo : Nat} {P : Nat → Nat} {c s : Nat} (h : ri_W k G0 mo G P 57 c s) : rm_R k G mo P rm_M0 := by
  obtain ⟨h1, h2, h3, -⟩ := h
  refine ⟨h1, fun i hi => ?_, fun i hi => ?_, fun i hi => ?_, fun i j hi hj e => h3 i j (rm_ty_57 hi) (rm_ty_57 hj) hi hj e⟩
  · have h0 : rm_ty i ≠ 3 := by rw [hi]; decide
    rw [h2 i (rm_ty_57 h0) h0]
    unfold ri_e
    rw [hi]
    rfl
  · have h0 : rm_ty i ≠ 3 := by rw [hi]; decide
    rw [h2 i (rm_ty_57 h0) h0]
    unfold ri_e
    rw [hi]
    rfl
  · have h0 : rm_ty i ≠ 3 := by rw [hi]; decide
    rw [h2 i (rm_ty_57 h0) h0]
    unfold ri_e
    rw [hi]
    rfl
theorem rr_I0 (f : Nat → Int32) : rr_I rm_M0 0 f 0 [] := ⟨rfl, by omega, fun j hj => absurd hj (Nat.not_lt_zero _), rfl, fun _ _ _ => rfl, fun _ _ => rfl, Or.inl ⟨rfl, rfl⟩⟩
set_option maxRecDepth 100000 in
theorem c_Mo_init {k : cx_K} {l : Launch} {G : cx_G} {mo : Nat} {P : Nat → Nat} (hG : G.1 mo = some (.inr (12, ri_f P 0))) (r1 : G.2.1 + 36 ≤ 601024) (r2 : G.2.2 + 615473 ≤ 7293034)  : cx_Sp k l m_Mo_init 1 [.ref mo] G (fun r G' => r = .inl none ∧ ∃ P', rm_R k G' mo P' rm_M0 ∧ (∀ q e, q ≠ mo → G.1 q = some e → G'.1 q = some e) ∧ (∀ i, rm_ty i ≠ 3 → G.1 (P' i) = none) ∧ G'.2.1 = G.2.1 + 36 ∧ G'.2.2 = G.2.2 + 615473) := by
  intro E hE
  have W0 : ri_W k G mo G P 0 0 0 := ⟨hG, fun i hi => absurd hi (Nat.not_lt_zero _), fun i i' hi => absurd hi (Nat.not_lt_zero _), fun _ _ _ h => h, fun i hi => absurd hi (Nat.not_lt_zero _), rfl, rfl⟩
  refine cx_aload_n (i := 0) hE d_Mo_init_0 rfl rfl ?_
  refine cx_objI hE d_Mo_init_1 (in_6 (List.mem_of_getElem? (i := 92) rfl)) (in_1 (List.mem_of_getElem? (i := 43) rfl)) (in_1 (List.mem_of_getElem? (i := 44) rfl)) (by omega) (Nat.le_of_ble_eq_true rfl) ?_
  refine cx_aload_n (i := 0) hE d_Mo_init_4 rfl rfl ?_
  refine cx_ldc (v := 65536) hE d_Mo_init_5 (in_6 (List.mem_of_getElem? (i := 93) rfl)) ?_
  refine cx_newa 0 (a0 := (65536, .inl (fun _ => 0))) (N' := 65536) hE d_Mo_init_7 (in_1 (List.mem_of_getElem? (i := 60) rfl)) rfl rfl (fun _ => rfl) (by decide) (by decide) (by decide) (by have := W0.2.2.2.2.2.1; show _ ≤ 601024; omega) (by have := W0.2.2.2.2.2.2; show _ ≤ 7293034; omega) (fun a_7 n_7 b_7 => ?_)
  refine cx_gen (fun G_7 g_7 => ?_)
  have m_7 := cx_mn g_7 n_7 W0.1
  refine cx_putFg hE d_Mo_init_9 ff_Mo_8 rfl (by assumption) (Nat.le_of_ble_eq_true rfl) (by first | rfl | exact cx_nr _ _) (by first | rfl | exact cx_fr _ _) (fun G_9 g_9 h_9 => ?_)
  have W_9 := W0.st (f := 1) (by decide) (by decide) (by decide) (by decide) n_7 (show cx_mk G a_7 (ri_e k 1) 65536 = G_7 from g_7) g_9
  clear h_9 m_7
  refine cx_aload_n (i := 0) hE d_Mo_init_12 rfl rfl ?_
  refine cx_ldc (v := 65540) hE d_Mo_init_13 (in_6 (List.mem_of_getElem? (i := 94) rfl)) ?_
  refine cx_newa 1 (a0 := (65540, .inl (fun _ => 0))) (N' := 65540) hE d_Mo_init_15 (in_7 (List.mem_of_getElem? (i := 30) rfl)) rfl rfl (fun _ => rfl) (by decide) (by decide) (by decide) (by have := W_9.2.2.2.2.2.1; show _ ≤ 601024; omega) (by have := W_9.2.2.2.2.2.2; show _ ≤ 7293034; omega) (fun a_15 n_15 b_15 => ?_)
  refine cx_gen (fun G_15 g_15 => ?_)
  have m_15 := cx_mn g_15 n_15 W_9.1
  refine cx_putFg hE d_Mo_init_17 ff_Mo_15 rfl (by assumption) (Nat.le_of_ble_eq_true rfl) (by first | rfl | exact cx_nr _ _) (by first | rfl | exact cx_fr _ _) (fun G_17 g_17 h_17 => ?_)
  have W_17 := W_9.st (f := 4) (by decide) (by decide) (by decide) (by decide) n_15 (show cx_mk G_9 a_15 (ri_e k 4) 65540 = G_15 from g_15) g_17
  clear h_17 m_15
  refine cx_aload_n (i := 0) hE d_Mo_init_20 rfl rfl ?_
  refine cx_ldc (v := 65540) hE d_Mo_init_21 (in_6 (List.mem_of_getElem? (i := 94) rfl)) ?_
  refine cx_newa 1 (a0 := (65540, .inl (fun _ => 0))) (N' := 65540) hE d_Mo_init_23 (in_7 (List.mem_of_getElem? (i := 30) rfl)) rfl rfl (fun _ => rfl) (by decide) (by decide) (by decide) (by have := W_17.2.2.2.2.2.1; show _ ≤ 601024; omega) (by have := W_17.2.2.2.2.2.2; show _ ≤ 7293034; omega) (fun a_23 n_23 b_23 => ?_)
  refine cx_gen (fun G_23 g_23 => ?_)
  have m_23 := cx_mn g_23 n_23 W_17.1
  refine cx_putFg hE d_Mo_init_25 ff_Mo_19 rfl (by assumption) (Nat.le_of_ble_eq_true rfl) (by first | rfl | exact cx_nr _ _) (by first | rfl | exact cx_fr _ _) (fun G_25 g_25 h_25 => ?_)
  have W_25 := W_17.st (f := 5) (by decide) (by decide) (by decide) (by decide) n_23 (show cx_mk G_17 a_23 (ri_e k 5) 65540 = G_23 from g_23) g_25
  clear h_25 m_23
  refine cx_aload_n (i := 0) hE d_Mo_init_28 rfl rfl ?_
  refine cx_ldc (v := 65540) hE d_Mo_init_29 (in_6 (List.mem_of_getElem? (i := 94) rfl)) ?_
  refine cx_newa 1 (a0 := (65540, .inl (fun _ => 0))) (N' := 65540) hE d_Mo_init_31 (in_7 (List.mem_of_getElem? (i := 30) rfl)) rfl rfl (fun _ => rfl) (by decide) (by decide) (by decide) (by have := W_25.2.2.2.2.2.1; show _ ≤ 601024; omega) (by have := W_25.2.2.2.2.2.2; show _ ≤ 7293034; omega) (fun a_31 n_31 b_31 => ?_)
  refine cx_gen (fun G_31 g_31 => ?_)
  have m_31 := cx_mn g_31 n_31 W_25.1
  refine cx_putFg hE d_Mo_init_33 ff_Mo_22 rfl (by assumption) (Nat.le_of_ble_eq_true rfl) (by first | rfl | exact cx_nr _ _) (by first | rfl | exact cx_fr _ _) (fun G_33 g_33 h_33 => ?_)
  have W_33 := W_25.st (f := 6) (by decide) (by decide) (by decide) (by decide) n_31 (show cx_mk G_25 a_31 (ri_e k 6) 65540 = G_31 from g_31) g_33
  clear h_33 m_31
  refine cx_aload_n (i := 0) hE d_Mo_init_36 rfl rfl ?_
  refine cx_sipush (v := 3600) hE d_Mo_init_37 (by decide) ?_
  refine cx_newa 1 (a0 := (3600, .inl (fun _ => 0))) (N' := 3600) hE d_Mo_init_40 (in_7 (List.mem_of_getElem? (i := 30) rfl)) rfl rfl (fun _ => rfl) (by decide) (by decide) (by decide) (by have := W_33.2.2.2.2.2.1; show _ ≤ 601024; omega) (by have := W_33.2.2.2.2.2.2; show _ ≤ 7293034; omega) (fun a_40 n_40 b_40 => ?_)
  refine cx_gen (fun G_40 g_40 => ?_)
  have m_40 := cx_mn g_40 n_40 W_33.1
  refine cx_putFg hE d_Mo_init_42 ff_Mo_25 rfl (by assumption) (Nat.le_of_ble_eq_true rfl) (by first | rfl | exact cx_nr _ _) (by first | rfl | exact cx_fr _ _) (fun G_42 g_42 h_42 => ?_)
  have W_42 := W_33.st (f := 13) (by decide) (by decide) (by decide) (by decide) n_40 (show cx_mk G_33 a_40 (ri_e k 13) 3600 = G_40 from g_40) g_42
  clear h_42 m_40
  refine cx_aload_n (i := 0) hE d_Mo_init_45 rfl rfl ?_
  refine cx_sipush (v := 3601) hE d_Mo_init_46 (by decide) ?_
  refine cx_newa 1 (a0 := (3601, .inl (fun _ => 0))) (N' := 3601) hE d_Mo_init_49 (in_7 (List.mem_of_getElem? (i := 30) rfl)) rfl rfl (fun _ => rfl) (by decide) (by decide) (by decide) (by have := W_42.2.2.2.2.2.1; show _ ≤ 601024; omega) (by have := W_42.2.2.2.2.2.2; show _ ≤ 7293034; omega) (fun a_49 n_49 b_49 => ?_)
  refine cx_gen (fun G_49 g_49 => ?_)
  have m_49 := cx_mn g_49 n_49 W_42.1
  refine cx_putFg hE d_Mo_init_51 ff_Mo_28 rfl (by assumption) (Nat.le_of_ble_eq_true rfl) (by first | rfl | exact cx_nr _ _) (by first | rfl | exact cx_fr _ _) (fun G_51 g_51 h_51 => ?_)
  have W_51 := W_42.st (f := 14) (by decide) (by decide) (by decide) (by decide) n_49 (show cx_mk G_42 a_49 (ri_e k 14) 3601 = G_49 from g_49) g_51
  clear h_51 m_49
  refine cx_aload_n (i := 0) hE d_Mo_init_54 rfl rfl ?_
  refine cx_sipush (v := 3601) hE d_Mo_init_55 (by decide) ?_
  refine cx_newa 1 (a0 := (3601, .inl (fun _ => 0))) (N' := 3601) hE d_Mo_init_58 (in_7 (List.mem_of_getElem? (i := 30) rfl)) rfl rfl (fun _ => rfl) (by decide) (by decide) (by decide) (by have := W_51.2.2.2.2.2.1; show _ ≤ 601024; omega) (by have := W_51.2.2.2.2.2.2; show _ ≤ 7293034; omega) (fun a_58 n_58 b_58 => ?_)
  refine cx_gen (fun G_58 g_58 => ?_)
  have m_58 := cx_mn g_58 n_58 W_51.1
  refine cx_putFg hE d_Mo_init_60 ff_Mo_31 rfl (by assumption) (Nat.le_of_ble_eq_true rfl) (by first | rfl | exact cx_nr _ _) (by first | rfl | exact cx_fr _ _) (fun G_60 g_60 h_60 => ?_)
  have W_60 := W_51.st (f := 15) (by decide) (by decide) (by decide) (by decide) n_58 (show cx_mk G_51 a_58 (ri_e k 15) 3601 = G_58 from g_58) g_60
  clear h_60 m_58
  refine cx_aload_n (i := 0) hE d_Mo_init_63 rfl rfl ?_
  refine cx_sipush (v := 3601) hE d_Mo_init_64 (by decide) ?_
  refine cx_newa 1 (a0 := (3601, .inl (fun _ => 0))) (N' := 3601) hE d_Mo_init_67 (in_7 (List.mem_of_getElem? (i := 30) rfl)) rfl rfl (fun _ => rfl) (by decide) (by decide) (by decide) (by have := W_60.2.2.2.2.2.1; show _ ≤ 601024; omega) (by have := W_60.2.2.2.2.2.2; show _ ≤ 7293034; omega) (fun a_67 n_67 b_67 => ?_)
  refine cx_gen (fun G_67 g_67 => ?_)
  have m_67 := cx_mn g_67 n_67 W_60.1
  refine cx_putFg hE d_Mo_init_69 ff_Mo_34 rfl (by assumption) (Nat.le_of_ble_eq_true rfl) (by first | rfl | exact cx_nr _ _) (by first | rfl | exact cx_fr _ _) (fun G_69 g_69 h_69 => ?_)
  have W_69 := W_60.st (f := 16) (by decide) (by decide) (by decide) (by decide) n_67 (show cx_mk G_60 a_67 (ri_e k 16) 3601 = G_67 from g_67) g_69
  clear h_69 m_67
  refine cx_aload_n (i := 0) hE d_Mo_init_72 rfl rfl ?_
  refine cx_sipush (v := 3601) hE d_Mo_init_73 (by decide) ?_
  refine cx_newa 1 (a0 := (3601, .inl (fun _ => 0))) (N' := 3601) hE d_Mo_init_76 (in_7 (List.mem_of_getElem? (i := 30) rfl)) rfl rfl (fun _ => rfl) (by decide) (by decide) (by decide) (by have := W_69.2.2.2.2.2.1; show _ ≤ 601024; omega) (by have := W_69.2.2.2.2.2.2; show _ ≤ 7293034; omega) (fun a_76 n_76 b_76 => ?_)
  refine cx_gen (fun G_76 g_76 => ?_)
  have m_76 := cx_mn g_76 n_76 W_69.1
  refine cx_putFg hE d_Mo_init_78 ff_Mo_37 rfl (by assumption) (Nat.le_of_ble_eq_true rfl) (by first | rfl | exact cx_nr _ _) (by first | rfl | exact cx_fr _ _) (fun G_78 g_78 h_78 => ?_)
  have W_78 := W_69.st (f := 17) (by decide) (by decide) (by decide) (by decide) n_76 (show cx_mk G_69 a_76 (ri_e k 17) 3601 = G_76 from g_76) g_78
  clear h_78 m_76
  refine cx_aload_n (i := 0) hE d_Mo_init_81 rfl rfl ?_
  refine cx_sipush (v := 11000) hE d_Mo_init_82 (by decide) ?_
  refine cx_newa 1 (a0 := (11000, .inl (fun _ => 0))) (N' := 11000) hE d_Mo_init_85 (in_7 (List.mem_of_getElem? (i := 30) rfl)) rfl rfl (fun _ => rfl) (by decide) (by decide) (by decide) (by have := W_78.2.2.2.2.2.1; show _ ≤ 601024; omega) (by have := W_78.2.2.2.2.2.2; show _ ≤ 7293034; omega) (fun a_85 n_85 b_85 => ?_)
  refine cx_gen (fun G_85 g_85 => ?_)
  have m_85 := cx_mn g_85 n_85 W_78.1
  refine cx_putFg hE d_Mo_init_87 ff_Mo_40 rfl (by assumption) (Nat.le_of_ble_eq_true rfl) (by first | rfl | exact cx_nr _ _) (by first | rfl | exact cx_fr _ _) (fun G_87 g_87 h_87 => ?_)
  have W_87 := W_78.st (f := 19) (by decide) (by decide) (by decide) (by decide) n_85 (show cx_mk G_78 a_85 (ri_e k 19) 11000 = G_85 from g_85) g_87
  clear h_87 m_85
  refine cx_aload_n (i := 0) hE d_Mo_init_90 rfl rfl ?_
  refine cx_sipush (v := 11000) hE d_Mo_init_91 (by decide) ?_
  refine cx_newa 1 (a0 := (11000, .inl (fun _ => 0))) (N' := 11000) hE d_Mo_init_94 (in_7 (List.mem_of_getElem? (i := 30) rfl)) rfl rfl (fun _ => rfl) (by decide) (by decide) (by decide) (by have := W_87.2.2.2.2.2.1; show _ ≤ 601024; omega) (by have := W_87.2.2.2.2.2.2; show _ ≤ 7293034; omega) (fun a_94 n_94 b_94 => ?_)
  refine cx_gen (fun G_94 g_94 => ?_)
  have m_94 := cx_mn g_94 n_94 W_87.1
  refine cx_putFg hE d_Mo_init_96 ff_Mo_43 rfl (by assumption) (Nat.le_of_ble_eq_true rfl) (by first | rfl | exact cx_nr _ _) (by first | rfl | exact cx_fr _ _) (fun G_96 g_96 h_96 => ?_)
  have W_96 := W_87.st (f := 20) (by decide) (by decide) (by decide) (by decide) n_94 (show cx_mk G_87 a_94 (ri_e k 20) 11000 = G_94 from g_94) g_96
  clear h_96 m_94
  refine cx_aload_n (i := 0) hE d_Mo_init_99 rfl rfl ?_
  refine cx_sipush (v := 11000) hE d_Mo_init_100 (by decide) ?_
  refine cx_newa 1 (a0 := (11000, .inl (fun _ => 0))) (N' := 11000) hE d_Mo_init_103 (in_7 (List.mem_of_getElem? (i := 30) rfl)) rfl rfl (fun _ => rfl) (by decide) (by decide) (by decide) (by have := W_96.2.2.2.2.2.1; show _ ≤ 601024; omega) (by have := W_96.2.2.2.2.2.2; show _ ≤ 7293034; omega) (fun a_103 n_103 b_103 => ?_)
  refine cx_gen (fun G_103 g_103 => ?_)
  have m_103 := cx_mn g_103 n_103 W_96.1
  refine cx_putFg hE d_Mo_init_105 ff_Mo_46 rfl (by assumption) (Nat.le_of_ble_eq_true rfl) (by first | rfl | exact cx_nr _ _) (by first | rfl | exact cx_fr _ _) (fun G_105 g_105 h_105 => ?_)
  have W_105 := W_96.st (f := 21) (by decide) (by decide) (by decide) (by decide) n_103 (show cx_mk G_96 a_103 (ri_e k 21) 11000 = G_103 from g_103) g_105
  clear h_105 m_103
  refine cx_aload_n (i := 0) hE d_Mo_init_108 rfl rfl ?_
  refine cx_sipush (v := 11000) hE d_Mo_init_109 (by decide) ?_
  refine cx_newa 2 (a0 := (11000, .inr (.inl (fun _ => 0)))) (N' := 11000) hE d_Mo_init_112 (in_7 (List.mem_of_getElem? (i := 31) rfl)) rfl rfl (fun _ => rfl) (by decide) (by decide) (by decide) (by have := W_105.2.2.2.2.2.1; show _ ≤ 601024; omega) (by have := W_105.2.2.2.2.2.2; show _ ≤ 7293034; omega) (fun a_112 n_112 b_112 => ?_)
  refine cx_gen (fun G_112 g_112 => ?_)
  have m_112 := cx_mn g_112 n_112 W_105.1
  refine cx_putFg hE d_Mo_init_114 ff_Mo_49 rfl (by assumption) (Nat.le_of_ble_eq_true rfl) (by first | rfl | exact cx_nr _ _) (by first | rfl | exact cx_fr _ _) (fun G_114 g_114 h_114 => ?_)
  have W_114 := W_105.st (f := 22) (by decide) (by decide) (by decide) (by decide) n_112 (show cx_mk G_105 a_112 (ri_e k 22) 11000 = G_112 from g_112) g_114
  clear h_114 m_112
  refine cx_aload_n (i := 0) hE d_Mo_init_117 rfl rfl ?_
  refine cx_sipush (v := 11000) hE d_Mo_init_118 (by decide) ?_
  refine cx_newa 1 (a0 := (11000, .inl (fun _ => 0))) (N' := 11000) hE d_Mo_init_121 (in_7 (List.mem_of_getElem? (i := 30) rfl)) rfl rfl (fun _ => rfl) (by decide) (by decide) (by decide) (by have := W_114.2.2.2.2.2.1; show _ ≤ 601024; omega) (by have := W_114.2.2.2.2.2.2; show _ ≤ 7293034; omega) (fun a_121 n_121 b_121 => ?_)
  refine cx_gen (fun G_121 g_121 => ?_)
  have m_121 := cx_mn g_121 n_121 W_114.1
  refine cx_putFg hE d_Mo_init_123 ff_Mo_53 rfl (by assumption) (Nat.le_of_ble_eq_true rfl) (by first | rfl | exact cx_nr _ _) (by first | rfl | exact cx_fr _ _) (fun G_123 g_123 h_123 => ?_)
  have W_123 := W_114.st (f := 23) (by decide) (by decide) (by decide) (by decide) n_121 (show cx_mk G_114 a_121 (ri_e k 23) 11000 = G_121 from g_121) g_123
  clear h_123 m_121
  refine cx_aload_n (i := 0) hE d_Mo_init_126 rfl rfl ?_
  refine cx_sipush (v := 11000) hE d_Mo_init_127 (by decide) ?_
  refine cx_newa 1 (a0 := (11000, .inl (fun _ => 0))) (N' := 11000) hE d_Mo_init_130 (in_7 (List.mem_of_getElem? (i := 30) rfl)) rfl rfl (fun _ => rfl) (by decide) (by decide) (by decide) (by have := W_123.2.2.2.2.2.1; show _ ≤ 601024; omega) (by have := W_123.2.2.2.2.2.2; show _ ≤ 7293034; omega) (fun a_130 n_130 b_130 => ?_)
  refine cx_gen (fun G_130 g_130 => ?_)
  have m_130 := cx_mn g_130 n_130 W_123.1
  refine cx_putFg hE d_Mo_init_132 ff_Mo_56 rfl (by assumption) (Nat.le_of_ble_eq_true rfl) (by first | rfl | exact cx_nr _ _) (by first | rfl | exact cx_fr _ _) (fun G_132 g_132 h_132 => ?_)
  have W_132 := W_123.st (f := 24) (by decide) (by decide) (by decide) (by decide) n_130 (show cx_mk G_123 a_130 (ri_e k 24) 11000 = G_130 from g_130) g_132
  clear h_132 m_130
  refine cx_aload_n (i := 0) hE d_Mo_init_135 rfl rfl ?_
  refine cx_sipush (v := 11000) hE d_Mo_init_136 (by decide) ?_
  refine cx_newa 1 (a0 := (11000, .inl (fun _ => 0))) (N' := 11000) hE d_Mo_init_139 (in_7 (List.mem_of_getElem? (i := 30) rfl)) rfl rfl (fun _ => rfl) (by decide) (by decide) (by decide) (by have := W_132.2.2.2.2.2.1; show _ ≤ 601024; omega) (by have := W_132.2.2.2.2.2.2; show _ ≤ 7293034; omega) (fun a_139 n_139 b_139 => ?_)
  refine cx_gen (fun G_139 g_139 => ?_)
  have m_139 := cx_mn g_139 n_139 W_132.1
  refine cx_putFg hE d_Mo_init_141 ff_Mo_59 rfl (by assumption) (Nat.le_of_ble_eq_true rfl) (by first | rfl | exact cx_nr _ _) (by first | rfl | exact cx_fr _ _) (fun G_141 g_141 h_141 => ?_)
  have W_141 := W_132.st (f := 25) (by decide) (by decide) (by decide) (by decide) n_139 (show cx_mk G_132 a_139 (ri_e k 25) 11000 = G_139 from g_139) g_141
  clear h_141 m_139
  refine cx_aload_n (i := 0) hE d_Mo_init_144 rfl rfl ?_
  refine cx_sipush (v := 11000) hE d_Mo_init_145 (by decide) ?_
  refine cx_newa 1 (a0 := (11000, .inl (fun _ => 0))) (N' := 11000) hE d_Mo_init_148 (in_7 (List.mem_of_getElem? (i := 30) rfl)) rfl rfl (fun _ => rfl) (by decide) (by decide) (by decide) (by have := W_141.2.2.2.2.2.1; show _ ≤ 601024; omega) (by have := W_141.2.2.2.2.2.2; show _ ≤ 7293034; omega) (fun a_148 n_148 b_148 => ?_)
  refine cx_gen (fun G_148 g_148 => ?_)
  have m_148 := cx_mn g_148 n_148 W_141.1
  refine cx_putFg hE d_Mo_init_150 ff_Mo_62 rfl (by assumption) (Nat.le_of_ble_eq_true rfl) (by first | rfl | exact cx_nr _ _) (by first | rfl | exact cx_fr _ _) (fun G_150 g_150 h_150 => ?_)
  have W_150 := W_141.st (f := 26) (by decide) (by decide) (by decide) (by decide) n_148 (show cx_mk G_141 a_148 (ri_e k 26) 11000 = G_148 from g_148) g_150
  clear h_150 m_148
  refine cx_aload_n (i := 0) hE d_Mo_init_153 rfl rfl ?_
  refine cx_sipush (v := 11000) hE d_Mo_init_154 (by decide) ?_
  refine cx_newa 1 (a0 := (11000, .inl (fun _ => 0))) (N' := 11000) hE d_Mo_init_157 (in_7 (List.mem_of_getElem? (i := 30) rfl)) rfl rfl (fun _ => rfl) (by decide) (by decide) (by decide) (by have := W_150.2.2.2.2.2.1; show _ ≤ 601024; omega) (by have := W_150.2.2.2.2.2.2; show _ ≤ 7293034; omega) (fun a_157 n_157 b_157 => ?_)
  refine cx_gen (fun G_157 g_157 => ?_)
  have m_157 := cx_mn g_157 n_157 W_150.1
  refine cx_putFg hE d_Mo_init_159 ff_Mo_65 rfl (by assumption) (Nat.le_of_ble_eq_true rfl) (by first | rfl | exact cx_nr _ _) (by first | rfl | exact cx_fr _ _) (fun G_159 g_159 h_159 => ?_)
  have W_159 := W_150.st (f := 28) (by decide) (by decide) (by decide) (by decide) n_157 (show cx_mk G_150 a_157 (ri_e k 28) 11000 = G_157 from g_157) g_159
  clear h_159 m_157
  refine cx_aload_n (i := 0) hE d_Mo_init_162 rfl rfl ?_
  refine cx_sipush (v := 11000) hE d_Mo_init_163 (by decide) ?_
  refine cx_newa 1 (a0 := (11000, .inl (fun _ => 0))) (N' := 11000) hE d_Mo_init_166 (in_7 (List.mem_of_getElem? (i := 30) rfl)) rfl rfl (fun _ => rfl) (by decide) (by decide) (by decide) (by have := W_159.2.2.2.2.2.1; show _ ≤ 601024; omega) (by have := W_159.2.2.2.2.2.2; show _ ≤ 7293034; omega) (fun a_166 n_166 b_166 => ?_)
  refine cx_gen (fun G_166 g_166 => ?_)
  have m_166 := cx_mn g_166 n_166 W_159.1
  refine cx_putFg hE d_Mo_init_168 ff_Mo_68 rfl (by assumption) (Nat.le_of_ble_eq_true rfl) (by first | rfl | exact cx_nr _ _) (by first | rfl | exact cx_fr _ _) (fun G_168 g_168 h_168 => ?_)
  have W_168 := W_159.st (f := 29) (by decide) (by decide) (by decide) (by decide) n_166 (show cx_mk G_159 a_166 (ri_e k 29) 11000 = G_166 from g_166) g_168
  clear h_168 m_166
  refine cx_aload_n (i := 0) hE d_Mo_init_171 rfl rfl ?_
  refine cx_sipush (v := 11001) hE d_Mo_init_172 (by decide) ?_
  refine cx_newa 1 (a0 := (11001, .inl (fun _ => 0))) (N' := 11001) hE d_Mo_init_175 (in_7 (List.mem_of_getElem? (i := 30) rfl)) rfl rfl (fun _ => rfl) (by decide) (by decide) (by decide) (by have := W_168.2.2.2.2.2.1; show _ ≤ 601024; omega) (by have := W_168.2.2.2.2.2.2; show _ ≤ 7293034; omega) (fun a_175 n_175 b_175 => ?_)
  refine cx_gen (fun G_175 g_175 => ?_)
  have m_175 := cx_mn g_175 n_175 W_168.1
  refine cx_putFg hE d_Mo_init_177 ff_Mo_71 rfl (by assumption) (Nat.le_of_ble_eq_true rfl) (by first | rfl | exact cx_nr _ _) (by first | rfl | exact cx_fr _ _) (fun G_177 g_177 h_177 => ?_)
  have W_177 := W_168.st (f := 30) (by decide) (by decide) (by decide) (by decide) n_175 (show cx_mk G_168 a_175 (ri_e k 30) 11001 = G_175 from g_175) g_177
  clear h_177 m_175
  refine cx_aload_n (i := 0) hE d_Mo_init_180 rfl rfl ?_
  refine cx_sipush (v := 11000) hE d_Mo_init_181 (by decide) ?_
  refine cx_newa 1 (a0 := (11000, .inl (fun _ => 0))) (N' := 11000) hE d_Mo_init_184 (in_7 (List.mem_of_getElem? (i := 30) rfl)) rfl rfl (fun _ => rfl) (by decide) (by decide) (by decide) (by have := W_177.2.2.2.2.2.1; show _ ≤ 601024; omega) (by have := W_177.2.2.2.2.2.2; show _ ≤ 7293034; omega) (fun a_184 n_184 b_184 => ?_)
  refine cx_gen (fun G_184 g_184 => ?_)
  have m_184 := cx_mn g_184 n_184 W_177.1
  refine cx_putFg hE d_Mo_init_186 ff_Mo_74 rfl (by assumption) (Nat.le_of_ble_eq_true rfl) (by first | rfl | exact cx_nr _ _) (by first | rfl | exact cx_fr _ _) (fun G_186 g_186 h_186 => ?_)
  have W_186 := W_177.st (f := 32) (by decide) (by decide) (by decide) (by decide) n_184 (show cx_mk G_177 a_184 (ri_e k 32) 11000 = G_184 from g_184) g_186
  clear h_186 m_184
  refine cx_aload_n (i := 0) hE d_Mo_init_189 rfl rfl ?_
  refine cx_sipush (v := 11000) hE d_Mo_init_190 (by decide) ?_
  refine cx_newa 1 (a0 := (11000, .inl (fun _ => 0))) (N' := 11000) hE d_Mo_init_193 (in_7 (List.mem_of_getElem? (i := 30) rfl)) rfl rfl (fun _ => rfl) (by decide) (by decide) (by decide) (by have := W_186.2.2.2.2.2.1; show _ ≤ 601024; omega) (by have := W_186.2.2.2.2.2.2; show _ ≤ 7293034; omega) (fun a_193 n_193 b_193 => ?_)
  refine cx_gen (fun G_193 g_193 => ?_)
  have m_193 := cx_mn g_193 n_193 W_186.1
  refine cx_putFg hE d_Mo_init_195 ff_Mo_77 rfl (by assumption) (Nat.le_of_ble_eq_true rfl) (by first | rfl | exact cx_nr _ _) (by first | rfl | exact cx_fr _ _) (fun G_195 g_195 h_195 => ?_)
  have W_195 := W_186.st (f := 33) (by decide) (by decide) (by decide) (by decide) n_193 (show cx_mk G_186 a_193 (ri_e k 33) 11000 = G_193 from g_193) g_195
  clear h_195 m_193
  refine cx_aload_n (i := 0) hE d_Mo_init_198 rfl rfl ?_
  refine cx_sipush (v := 11000) hE d_Mo_init_199 (by decide) ?_
  refine cx_newa 1 (a0 := (11000, .inl (fun _ => 0))) (N' := 11000) hE d_Mo_init_202 (in_7 (List.mem_of_getElem? (i := 30) rfl)) rfl rfl (fun _ => rfl) (by decide) (by decide) (by decide) (by have := W_195.2.2.2.2.2.1; show _ ≤ 601024; omega) (by have := W_195.2.2.2.2.2.2; show _ ≤ 7293034; omega) (fun a_202 n_202 b_202 => ?_)
  refine cx_gen (fun G_202 g_202 => ?_)
  have m_202 := cx_mn g_202 n_202 W_195.1
  refine cx_putFg hE d_Mo_init_204 ff_Mo_80 rfl (by assumption) (Nat.le_of_ble_eq_true rfl) (by first | rfl | exact cx_nr _ _) (by first | rfl | exact cx_fr _ _) (fun G_204 g_204 h_204 => ?_)
  have W_204 := W_195.st (f := 34) (by decide) (by decide) (by decide) (by decide) n_202 (show cx_mk G_195 a_202 (ri_e k 34) 11000 = G_202 from g_202) g_204
  clear h_204 m_202
  refine cx_aload_n (i := 0) hE d_Mo_init_207 rfl rfl ?_
  refine cx_sipush (v := 6600) hE d_Mo_init_208 (by decide) ?_
  refine cx_newa 1 (a0 := (6600, .inl (fun _ => 0))) (N' := 6600) hE d_Mo_init_211 (in_7 (List.mem_of_getElem? (i := 30) rfl)) rfl rfl (fun _ => rfl) (by decide) (by decide) (by decide) (by have := W_204.2.2.2.2.2.1; show _ ≤ 601024; omega) (by have := W_204.2.2.2.2.2.2; show _ ≤ 7293034; omega) (fun a_211 n_211 b_211 => ?_)
  refine cx_gen (fun G_211 g_211 => ?_)
  have m_211 := cx_mn g_211 n_211 W_204.1
  refine cx_putFg hE d_Mo_init_213 ff_Mo_83 rfl (by assumption) (Nat.le_of_ble_eq_true rfl) (by first | rfl | exact cx_nr _ _) (by first | rfl | exact cx_fr _ _) (fun G_213 g_213 h_213 => ?_)
  have W_213 := W_204.st (f := 36) (by decide) (by decide) (by decide) (by decide) n_211 (show cx_mk G_204 a_211 (ri_e k 36) 6600 = G_211 from g_211) g_213
  clear h_213 m_211
  refine cx_aload_n (i := 0) hE d_Mo_init_216 rfl rfl ?_
  refine cx_sipush (v := 6600) hE d_Mo_init_217 (by decide) ?_
  refine cx_newa 1 (a0 := (6600, .inl (fun _ => 0))) (N' := 6600) hE d_Mo_init_220 (in_7 (List.mem_of_getElem? (i := 30) rfl)) rfl rfl (fun _ => rfl) (by decide) (by decide) (by decide) (by have := W_213.2.2.2.2.2.1; show _ ≤ 601024; omega) (by have := W_213.2.2.2.2.2.2; show _ ≤ 7293034; omega) (fun a_220 n_220 b_220 => ?_)
  refine cx_gen (fun G_220 g_220 => ?_)
  have m_220 := cx_mn g_220 n_220 W_213.1
  refine cx_putFg hE d_Mo_init_222 ff_Mo_86 rfl (by assumption) (Nat.le_of_ble_eq_true rfl) (by first | rfl | exact cx_nr _ _) (by first | rfl | exact cx_fr _ _) (fun G_222 g_222 h_222 => ?_)
  have W_222 := W_213.st (f := 37) (by decide) (by decide) (by decide) (by decide) n_220 (show cx_mk G_213 a_220 (ri_e k 37) 6600 = G_220 from g_220) g_222
  clear h_222 m_220
  refine cx_aload_n (i := 0) hE d_Mo_init_225 rfl rfl ?_
  refine cx_sipush (v := 6600) hE d_Mo_init_226 (by decide) ?_
  refine cx_newa 1 (a0 := (6600, .inl (fun _ => 0))) (N' := 6600) hE d_Mo_init_229 (in_7 (List.mem_of_getElem? (i := 30) rfl)) rfl rfl (fun _ => rfl) (by decide) (by decide) (by decide) (by have := W_222.2.2.2.2.2.1; show _ ≤ 601024; omega) (by have := W_222.2.2.2.2.2.2; show _ ≤ 7293034; omega) (fun a_229 n_229 b_229 => ?_)
  refine cx_gen (fun G_229 g_229 => ?_)
  have m_229 := cx_mn g_229 n_229 W_222.1
  refine cx_putFg hE d_Mo_init_231 ff_Mo_89 rfl (by assumption) (Nat.le_of_ble_eq_true rfl) (by first | rfl | exact cx_nr _ _) (by first | rfl | exact cx_fr _ _) (fun G_231 g_231 h_231 => ?_)
  have W_231 := W_222.st (f := 39) (by decide) (by decide) (by decide) (by decide) n_229 (show cx_mk G_222 a_229 (ri_e k 39) 6600 = G_229 from g_229) g_231
  clear h_231 m_229
  refine cx_aload_n (i := 0) hE d_Mo_init_234 rfl rfl ?_
  refine cx_sipush (v := 6600) hE d_Mo_init_235 (by decide) ?_
  refine cx_newa 1 (a0 := (6600, .inl (fun _ => 0))) (N' := 6600) hE d_Mo_init_238 (in_7 (List.mem_of_getElem? (i := 30) rfl)) rfl rfl (fun _ => rfl) (by decide) (by decide) (by decide) (by have := W_231.2.2.2.2.2.1; show _ ≤ 601024; omega) (by have := W_231.2.2.2.2.2.2; show _ ≤ 7293034; omega) (fun a_238 n_238 b_238 => ?_)
  refine cx_gen (fun G_238 g_238 => ?_)
  have m_238 := cx_mn g_238 n_238 W_231.1
  refine cx_putFg hE d_Mo_init_240 ff_Mo_92 rfl (by assumption) (Nat.le_of_ble_eq_true rfl) (by first | rfl | exact cx_nr _ _) (by first | rfl | exact cx_fr _ _) (fun G_240 g_240 h_240 => ?_)
  have W_240 := W_231.st (f := 40) (by decide) (by decide) (by decide) (by decide) n_238 (show cx_mk G_231 a_238 (ri_e k 40) 6600 = G_238 from g_238) g_240
  clear h_240 m_238
  refine cx_aload_n (i := 0) hE d_Mo_init_243 rfl rfl ?_
  refine cx_sipush (v := 4096) hE d_Mo_init_244 (by decide) ?_
  refine cx_newa 1 (a0 := (4096, .inl (fun _ => 0))) (N' := 4096) hE d_Mo_init_247 (in_7 (List.mem_of_getElem? (i := 30) rfl)) rfl rfl (fun _ => rfl) (by decide) (by decide) (by decide) (by have := W_240.2.2.2.2.2.1; show _ ≤ 601024; omega) (by have := W_240.2.2.2.2.2.2; show _ ≤ 7293034; omega) (fun a_247 n_247 b_247 => ?_)
  refine cx_gen (fun G_247 g_247 => ?_)
  have m_247 := cx_mn g_247 n_247 W_240.1
  refine cx_putg hE d_Mo_init_249 f_Mo_95 (by assumption) (Nat.le_of_ble_eq_true rfl) (by first | rfl | exact cx_nr _ _) (by first | rfl | exact cx_fr _ _) (fun G_249 g_249 h_249 => ?_)
  have W_249 := W_240.st (f := 41) (by decide) (by decide) (by decide) (by decide) n_247 (show cx_mk G_240 a_247 (ri_e k 41) 4096 = G_247 from g_247) g_249
  clear h_249 m_247
  refine cx_aload_n (i := 0) hE d_Mo_init_252 rfl rfl ?_
  refine cx_sipush (v := 256) hE d_Mo_init_253 (by decide) ?_
  refine cx_newa 2 (a0 := (256, .inr (.inl (fun _ => 0)))) (N' := 256) hE d_Mo_init_256 (in_7 (List.mem_of_getElem? (i := 31) rfl)) rfl rfl (fun _ => rfl) (by decide) (by decide) (by decide) (by have := W_249.2.2.2.2.2.1; show _ ≤ 601024; omega) (by have := W_249.2.2.2.2.2.2; show _ ≤ 7293034; omega) (fun a_256 n_256 b_256 => ?_)
  refine cx_gen (fun G_256 g_256 => ?_)
  have m_256 := cx_mn g_256 n_256 W_249.1
  refine cx_putg hE d_Mo_init_258 f_Mo_98 (by assumption) (Nat.le_of_ble_eq_true rfl) (by first | rfl | exact cx_nr _ _) (by first | rfl | exact cx_fr _ _) (fun G_258 g_258 h_258 => ?_)
  have W_258 := W_249.st (f := 43) (by decide) (by decide) (by decide) (by decide) n_256 (show cx_mk G_249 a_256 (ri_e k 43) 256 = G_256 from g_256) g_258
  clear h_258 m_256
  refine cx_aload_n (i := 0) hE d_Mo_init_261 rfl rfl ?_
  refine cx_sipush (v := 3600) hE d_Mo_init_262 (by decide) ?_
  refine cx_newa 2 (a0 := (3600, .inr (.inl (fun _ => 0)))) (N' := 3600) hE d_Mo_init_265 (in_7 (List.mem_of_getElem? (i := 31) rfl)) rfl rfl (fun _ => rfl) (by decide) (by decide) (by decide) (by have := W_258.2.2.2.2.2.1; show _ ≤ 601024; omega) (by have := W_258.2.2.2.2.2.2; show _ ≤ 7293034; omega) (fun a_265 n_265 b_265 => ?_)
  refine cx_gen (fun G_265 g_265 => ?_)
  have m_265 := cx_mn g_265 n_265 W_258.1
  refine cx_putFg hE d_Mo_init_267 ff_Mo_101 rfl (by assumption) (Nat.le_of_ble_eq_true rfl) (by first | rfl | exact cx_nr _ _) (by first | rfl | exact cx_fr _ _) (fun G_267 g_267 h_267 => ?_)
  have W_267 := W_258.st (f := 45) (by decide) (by decide) (by decide) (by decide) n_265 (show cx_mk G_258 a_265 (ri_e k 45) 3600 = G_265 from g_265) g_267
  clear h_267 m_265
  refine cx_aload_n (i := 0) hE d_Mo_init_270 rfl rfl ?_
  refine cx_sipush (v := 4096) hE d_Mo_init_271 (by decide) ?_
  refine cx_newa 1 (a0 := (4096, .inl (fun _ => 0))) (N' := 4096) hE d_Mo_init_274 (in_7 (List.mem_of_getElem? (i := 30) rfl)) rfl rfl (fun _ => rfl) (by decide) (by decide) (by decide) (by have := W_267.2.2.2.2.2.1; show _ ≤ 601024; omega) (by have := W_267.2.2.2.2.2.2; show _ ≤ 7293034; omega) (fun a_274 n_274 b_274 => ?_)
  refine cx_gen (fun G_274 g_274 => ?_)
  have m_274 := cx_mn g_274 n_274 W_267.1
  refine cx_putFg hE d_Mo_init_276 ff_Mo_104 rfl (by assumption) (Nat.le_of_ble_eq_true rfl) (by first | rfl | exact cx_nr _ _) (by first | rfl | exact cx_fr _ _) (fun G_276 g_276 h_276 => ?_)
  have W_276 := W_267.st (f := 46) (by decide) (by decide) (by decide) (by decide) n_274 (show cx_mk G_267 a_274 (ri_e k 46) 4096 = G_274 from g_274) g_276
  clear h_276 m_274
  refine cx_aload_n (i := 0) hE d_Mo_init_279 rfl rfl ?_
  refine cx_sipush (v := 4096) hE d_Mo_init_280 (by decide) ?_
  refine cx_newa 1 (a0 := (4096, .inl (fun _ => 0))) (N' := 4096) hE d_Mo_init_283 (in_7 (List.mem_of_getElem? (i := 30) rfl)) rfl rfl (fun _ => rfl) (by decide) (by decide) (by decide) (by have := W_276.2.2.2.2.2.1; show _ ≤ 601024; omega) (by have := W_276.2.2.2.2.2.2; show _ ≤ 7293034; omega) (fun a_283 n_283 b_283 => ?_)
  refine cx_gen (fun G_283 g_283 => ?_)
  have m_283 := cx_mn g_283 n_283 W_276.1
  refine cx_putFg hE d_Mo_init_285 ff_Mo_107 rfl (by assumption) (Nat.le_of_ble_eq_true rfl) (by first | rfl | exact cx_nr _ _) (by first | rfl | exact cx_fr _ _) (fun G_285 g_285 h_285 => ?_)
  have W_285 := W_276.st (f := 47) (by decide) (by decide) (by decide) (by decide) n_283 (show cx_mk G_276 a_283 (ri_e k 47) 4096 = G_283 from g_283) g_285
  clear h_285 m_283
  refine cx_aload_n (i := 0) hE d_Mo_init_288 rfl rfl ?_
  refine cx_sipush (v := 4096) hE d_Mo_init_289 (by decide) ?_
  refine cx_newa 1 (a0 := (4096, .inl (fun _ => 0))) (N' := 4096) hE d_Mo_init_292 (in_7 (List.mem_of_getElem? (i := 30) rfl)) rfl rfl (fun _ => rfl) (by decide) (by decide) (by decide) (by have := W_285.2.2.2.2.2.1; show _ ≤ 601024; omega) (by have := W_285.2.2.2.2.2.2; show _ ≤ 7293034; omega) (fun a_292 n_292 b_292 => ?_)
  refine cx_gen (fun G_292 g_292 => ?_)
  have m_292 := cx_mn g_292 n_292 W_285.1
  refine cx_putFg hE d_Mo_init_294 ff_Mo_110 rfl (by assumption) (Nat.le_of_ble_eq_true rfl) (by first | rfl | exact cx_nr _ _) (by first | rfl | exact cx_fr _ _) (fun G_294 g_294 h_294 => ?_)
  have W_294 := W_285.st (f := 49) (by decide) (by decide) (by decide) (by decide) n_292 (show cx_mk G_285 a_292 (ri_e k 49) 4096 = G_292 from g_292) g_294
  clear h_294 m_292
  refine cx_aload_n (i := 0) hE d_Mo_init_297 rfl rfl ?_
  refine cx_ldc (v := 65536) hE d_Mo_init_298 (in_6 (List.mem_of_getElem? (i := 93) rfl)) ?_
  refine cx_newa 0 (a0 := (65536, .inl (fun _ => 0))) (N' := 65536) hE d_Mo_init_300 (in_1 (List.mem_of_getElem? (i := 60) rfl)) rfl rfl (fun _ => rfl) (by decide) (by decide) (by decide) (by have := W_294.2.2.2.2.2.1; show _ ≤ 601024; omega) (by have := W_294.2.2.2.2.2.2; show _ ≤ 7293034; omega) (fun a_300 n_300 b_300 => ?_)
  refine cx_gen (fun G_300 g_300 => ?_)
  have m_300 := cx_mn g_300 n_300 W_294.1
  refine cx_putFg hE d_Mo_init_302 ff_Mo_113 rfl (by assumption) (Nat.le_of_ble_eq_true rfl) (by first | rfl | exact cx_nr _ _) (by first | rfl | exact cx_fr _ _) (fun G_302 g_302 h_302 => ?_)
  have W_302 := W_294.st (f := 52) (by decide) (by decide) (by decide) (by decide) n_300 (show cx_mk G_294 a_300 (ri_e k 52) 65536 = G_300 from g_300) g_302
  clear h_302 m_300
  refine cx_aload_n (i := 0) hE d_Mo_init_305 rfl rfl ?_
  refine cx_ldc (v := 65536) hE d_Mo_init_306 (in_6 (List.mem_of_getElem? (i := 93) rfl)) ?_
  refine cx_newa 0 (a0 := (65536, .inl (fun _ => 0))) (N' := 65536) hE d_Mo_init_308 (in_1 (List.mem_of_getElem? (i := 60) rfl)) rfl rfl (fun _ => rfl) (by decide) (by decide) (by decide) (by have := W_302.2.2.2.2.2.1; show _ ≤ 601024; omega) (by have := W_302.2.2.2.2.2.2; show _ ≤ 7293034; omega) (fun a_308 n_308 b_308 => ?_)
  refine cx_gen (fun G_308 g_308 => ?_)
  have m_308 := cx_mn g_308 n_308 W_302.1
  refine cx_putFg hE d_Mo_init_310 ff_Mo_116 rfl (by assumption) (Nat.le_of_ble_eq_true rfl) (by first | rfl | exact cx_nr _ _) (by first | rfl | exact cx_fr _ _) (fun G_310 g_310 h_310 => ?_)
  have W_310 := W_302.st (f := 53) (by decide) (by decide) (by decide) (by decide) n_308 (show cx_mk G_302 a_308 (ri_e k 53) 65536 = G_308 from g_308) g_310
  clear h_310 m_308
  refine cx_aload_n (i := 0) hE d_Mo_init_313 rfl rfl ?_
  refine cx_sipush (v := 3600) hE d_Mo_init_314 (by decide) ?_
  refine cx_newa 2 (a0 := (3600, .inr (.inl (fun _ => 0)))) (N' := 3600) hE d_Mo_init_317 (in_7 (List.mem_of_getElem? (i := 31) rfl)) rfl rfl (fun _ => rfl) (by decide) (by decide) (by decide) (by have := W_310.2.2.2.2.2.1; show _ ≤ 601024; omega) (by have := W_310.2.2.2.2.2.2; show _ ≤ 7293034; omega) (fun a_317 n_317 b_317 => ?_)
  refine cx_gen (fun G_317 g_317 => ?_)
  have m_317 := cx_mn g_317 n_317 W_310.1
  refine cx_putFg hE d_Mo_init_319 ff_Mo_119 rfl (by assumption) (Nat.le_of_ble_eq_true rfl) (by first | rfl | exact cx_nr _ _) (by first | rfl | exact cx_fr _ _) (fun G_319 g_319 h_319 => ?_)
  have W_319 := W_310.st (f := 56) (by decide) (by decide) (by decide) (by decide) n_317 (show cx_mk G_310 a_317 (ri_e k 56) 3600 = G_317 from g_317) g_319
  clear h_319 m_317
  refine cx_vret hE d_Mo_init_322 rfl ?_
  have hW := W_319
  refine ⟨rfl, _, hW.R, hW.2.2.2.1, fun i hi => hW.2.2.2.2.1 i (rm_ty_57 hi) hi, ?_, ?_⟩
  · have := hW.2.2.2.2.2.1
    omega
  · have := hW.2.2.2.2.2.2
    omega

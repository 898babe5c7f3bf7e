/-! BLANKS AND COMMENTS. -/
theorem cx_sub {E : cx_E} {pc : Nat} {lv lv' : cx_L} {st : List Value} {G : cx_G} (ks : List Nat) (h : ks.filterMap (fun i => lv[i]?) = lv') (hV : cx_V E pc lv' st G) : cx_V E pc lv st G := by
  obtain ⟨k', ⟨p, l', e, R, s, m, args, below, meth, c⟩, nL', fr', c0, s0, Q⟩ := E
  intro H locs ls cells slots h1 h2 h3 h4 h5
  have hin : ∀ q ∈ lv', q ∈ lv := by
    intro q hq
    subst h
    obtain ⟨i, -, hi⟩ := List.mem_filterMap.mp hq
    exact List.mem_of_getElem? hi
  refine hV H locs ls cells slots h1 h2 ⟨⟨h3.1.1, h3.1.2.1, fun q hq => ?_⟩, fun q hq => h3.2 q (hin q hq)⟩ h4 h5
  obtain ⟨z, hz, rfl⟩ := List.mem_map.mp hq
  exact h3.1.2.2 _ (List.mem_map.mpr ⟨z, hin z hz, rfl⟩)
/-- r is the first place from p on at which P fails -/
def tx_end (P : Nat → Prop) (p r : Nat) : Prop := p ≤ r ∧ (∀ i, p ≤ i → i < r → P i) ∧ ¬ P r
theorem tx_end.eq {P : Nat → Prop} {p r r' : Nat} (h : tx_end P p r) (h' : tx_end P p r') : r = r' := by
  rcases Nat.lt_trichotomy r r' with q | q | q
  · exact absurd (h'.2.1 r h.1 q) h.2.2
  · exact q
  · exact absurd (h.2.1 r' h'.1 q) h'.2.2
noncomputable def tx_e (P : Nat → Prop) (p : Nat) : Nat := @dite Nat (∃ r, tx_end P p r) (Classical.propDecidable _) (fun h => Classical.choose h) (fun _ => p)
theorem tx_e_of {P : Nat → Prop} {p r : Nat} (h : tx_end P p r) : tx_e P p = r := by
  unfold tx_e
  have hx : ∃ r, tx_end P p r := ⟨r, h⟩
  rw [dif_pos hx]
  exact (Classical.choose_spec hx).eq h
theorem tx_ex {P : Nat → Prop} {n : Nat} (hP : ∀ i, P i → i < n) (p : Nat) : tx_end P p (tx_e P p) := by
  have key : ∀ (j q : Nat), p ≤ q → (∀ i, p ≤ i → i < q → P i) → n ≤ q + j → ∃ r, tx_end P p r := by
    intro j
    induction j with
    | zero => intro q h1 h2 h3; exact ⟨q, h1, h2, fun h => absurd (hP q h) (by omega)⟩
    | succ j ih =>
      intro q h1 h2 h3
      by_cases hq : P q
      · exact ih (q + 1) (by omega) (fun i a b => by
          rcases Nat.lt_or_ge i q with z | z
          · exact h2 i a z
          · have : i = q := by omega
            rw [this]; exact hq) (by omega)
      · exact ⟨q, h1, h2, hq⟩
  obtain ⟨r, hr⟩ := key n p (Nat.le_refl _) (fun i a b => by omega) (by omega)
  rw [tx_e_of hr]
  exact hr
theorem tx_e_le {P : Nat → Prop} {n : Nat} (hP : ∀ i, P i → i < n) (p : Nat) : p ≤ tx_e P p ∧ (p ≤ n → tx_e P p ≤ n) := by
  have h := tx_ex hP p
  refine ⟨h.1, fun hn => ?_⟩
  rcases Nat.lt_or_ge n (tx_e P p) with q | q
  · exact absurd (hP n (h.2.1 n hn q)) (by omega)
  · exact q
theorem tx_e_step {P : Nat → Prop} {n p : Nat} (hP : ∀ i, P i → i < n) (h : P p) : tx_e P p = tx_e P (p + 1) := by
  have hr := tx_ex hP (p + 1)
  refine tx_e_of ⟨by have := hr.1; omega, fun i a b => ?_, hr.2.2⟩
  rcases Nat.lt_or_ge p i with z | z
  · exact hr.2.1 i z b
  · have : i = p := by omega
    rw [this]; exact h
theorem tx_e_stop {P : Nat → Prop} {p : Nat} (h : ¬ P p) : tx_e P p = p := tx_e_of ⟨Nat.le_refl _, fun i a b => by omega, h⟩
/-- one blank, or one comment, from p on; p where there is none (a comment that doesn't end is none) -/
noncomputable def tx_line (n : Nat) (c : Nat → Int32) (p : Nat) : Nat := tx_e (fun i => i < n ∧ ¬ c i = 10) p
def tx_cP (n : Nat) (c : Nat → Int32) (i : Nat) : Prop := i + 1 < n ∧ ¬ (c i = 42 ∧ c (i + 1) = 47)
noncomputable def tx_com (n : Nat) (c : Nat → Int32) (p : Nat) : Nat := if tx_e (tx_cP n c) (p + 2) + 1 < n then tx_e (tx_cP n c) (p + 2) + 2 else p
noncomputable def tx_b1 (n : Nat) (c : Nat → Int32) (p : Nat) : Nat := if c p = 9 ∨ c p = 10 ∨ c p = 13 ∨ c p = 32 then p + 1 else if ¬ c p = 47 then p else if c (p + 1) = 47 then tx_line n c p else if c (p + 1) = 42 then tx_com n c p else p
/-- the lexer at lx: its tape, its words -/
def tx_L (k : cx_K) (G : cx_G) (lx ta ws n : Nat) (f : Nat → Int32) : Prop := G.1 lx = some (.inr (2, [.ref ta, .ref ws])) ∧ tx_T k G ta n f
theorem nJ_lt {a b : Nat} (ha : a < 2 ^ 31) (h : ¬ nI b ≤ nI a) : a < b := by
  rcases Nat.lt_or_ge a b with q | q
  · exact q
  · exact absurd (nI_le q ha) h
theorem nJ_le {a b : Nat} (hb : b < 2 ^ 31) (h : nI b ≤ nI a) : b ≤ a := by
  rcases Nat.lt_or_ge a b with q | q
  · exact absurd h (nI_ge q hb)
  · exact q
abbrev m_Lx_behindLine : cx_M := (⟨"CircuitText$Lexer", "behindLine", "(I)I"⟩, prog_3_method_5_code, 3, (Option.some Jvm.ClassFile.FieldType.int), [], [false, false])
theorem w_Lx_behindLine : cx_W m_Lx_behindLine := ⟨Or.inl ⟨(in_2 (List.mem_of_getElem? (i := 137) rfl)), rfl⟩, by decide +kernel, by decide, by decide, by decide +kernel⟩
theorem n_Lx_behindLine : (parseMethodDescriptor m_Lx_behindLine.1.desc).map (fun d => d.parameters.length) = some 1 := by decide +kernel
theorem d_Lx_behindLine_0 : decode prog_3_method_5_code 0 = .ok (.iload_n 1, 1) := by decide +kernel
theorem d_Lx_behindLine_1 : decode prog_3_method_5_code 1 = .ok (.istore_n 2, 1) := by decide +kernel
theorem d_Lx_behindLine_2 : decode prog_3_method_5_code 2 = .ok (.iload_n 2, 1) := by decide +kernel
theorem d_Lx_behindLine_3 : decode prog_3_method_5_code 3 = .ok (.aload_n 0, 1) := by decide +kernel
theorem d_Lx_behindLine_4 : decode prog_3_method_5_code 4 = .ok (.getfield 18, 3) := by decide +kernel
theorem d_Lx_behindLine_7 : decode prog_3_method_5_code 7 = .ok (.getfield 58, 3) := by decide +kernel
theorem d_Lx_behindLine_10 : decode prog_3_method_5_code 10 = .ok (.if_icmp .ge 22, 3) := by decide +kernel
theorem d_Lx_behindLine_13 : decode prog_3_method_5_code 13 = .ok (.aload_n 0, 1) := by decide +kernel
theorem d_Lx_behindLine_14 : decode prog_3_method_5_code 14 = .ok (.getfield 18, 3) := by decide +kernel
theorem d_Lx_behindLine_17 : decode prog_3_method_5_code 17 = .ok (.iload_n 2, 1) := by decide +kernel
theorem d_Lx_behindLine_18 : decode prog_3_method_5_code 18 = .ok (.invokevirtual 47, 3) := by decide +kernel
theorem d_Lx_behindLine_21 : decode prog_3_method_5_code 21 = .ok (.bipush 10, 2) := by decide +kernel
theorem d_Lx_behindLine_23 : decode prog_3_method_5_code 23 = .ok (.if_icmp .eq 9, 3) := by decide +kernel
theorem d_Lx_behindLine_26 : decode prog_3_method_5_code 26 = .ok (.iinc 2 1, 3) := by decide +kernel
theorem d_Lx_behindLine_29 : decode prog_3_method_5_code 29 = .ok (.goto (-27), 3) := by decide +kernel
theorem d_Lx_behindLine_32 : decode prog_3_method_5_code 32 = .ok (.iload_n 2, 1) := by decide +kernel
theorem d_Lx_behindLine_33 : decode prog_3_method_5_code 33 = .ok (.ireturn, 1) := by decide +kernel
theorem f_Lx_18 : cx_F "CircuitText$Lexer" 18 2 0 (.object "CircuitText$Tape") true := ⟨_, F_Lx, 2, t_Lx, k_Lx, by decide, rfl, rfl, Or.inl (in_2 (List.mem_of_getElem? (i := 108) rfl))⟩
theorem ff_Lx_18 : cx_FF "CircuitText$Lexer" 18 2 0 (.object "CircuitText$Tape") := ⟨_, F_Lx, 2, t_Lx, k_Lx, by decide, rfl, rfl, rfl, (in_2 (List.mem_of_getElem? (i := 108) rfl))⟩
theorem f_Lx_58 : cx_F "CircuitText$Lexer" 58 6 1 (.int) false := ⟨_, F_Ta, 2, t_Ta, k_Ta, by decide, rfl, rfl, Or.inr ⟨"CircuitText", (in_1 (List.mem_of_getElem? (i := 54) rfl))⟩⟩
abbrev m_Lx_behindComment : cx_M := (⟨"CircuitText$Lexer", "behindComment", "(I)I"⟩, prog_3_method_6_code, 3, (Option.some Jvm.ClassFile.FieldType.int), [], [false, false])
theorem w_Lx_behindComment : cx_W m_Lx_behindComment := ⟨Or.inl ⟨(in_2 (List.mem_of_getElem? (i := 141) rfl)), rfl⟩, by decide +kernel, by decide, by decide, by decide +kernel⟩
theorem n_Lx_behindComment : (parseMethodDescriptor m_Lx_behindComment.1.desc).map (fun d => d.parameters.length) = some 1 := by decide +kernel
theorem d_Lx_behindComment_0 : decode prog_3_method_6_code 0 = .ok (.iload_n 1, 1) := by decide +kernel
theorem d_Lx_behindComment_1 : decode prog_3_method_6_code 1 = .ok (.iconst 2, 1) := by decide +kernel
theorem d_Lx_behindComment_2 : decode prog_3_method_6_code 2 = .ok (.iadd, 1) := by decide +kernel
theorem d_Lx_behindComment_3 : decode prog_3_method_6_code 3 = .ok (.istore_n 2, 1) := by decide +kernel
theorem d_Lx_behindComment_4 : decode prog_3_method_6_code 4 = .ok (.iload_n 2, 1) := by decide +kernel
theorem d_Lx_behindComment_5 : decode prog_3_method_6_code 5 = .ok (.iconst 1, 1) := by decide +kernel
theorem d_Lx_behindComment_6 : decode prog_3_method_6_code 6 = .ok (.iadd, 1) := by decide +kernel
theorem d_Lx_behindComment_7 : decode prog_3_method_6_code 7 = .ok (.aload_n 0, 1) := by decide +kernel
theorem d_Lx_behindComment_8 : decode prog_3_method_6_code 8 = .ok (.getfield 18, 3) := by decide +kernel
theorem d_Lx_behindComment_11 : decode prog_3_method_6_code 11 = .ok (.getfield 58, 3) := by decide +kernel
theorem d_Lx_behindComment_14 : decode prog_3_method_6_code 14 = .ok (.if_icmp .ge 41, 3) := by decide +kernel
theorem d_Lx_behindComment_17 : decode prog_3_method_6_code 17 = .ok (.aload_n 0, 1) := by decide +kernel
theorem d_Lx_behindComment_18 : decode prog_3_method_6_code 18 = .ok (.getfield 18, 3) := by decide +kernel
theorem d_Lx_behindComment_21 : decode prog_3_method_6_code 21 = .ok (.iload_n 2, 1) := by decide +kernel
theorem d_Lx_behindComment_22 : decode prog_3_method_6_code 22 = .ok (.invokevirtual 47, 3) := by decide +kernel
theorem d_Lx_behindComment_25 : decode prog_3_method_6_code 25 = .ok (.bipush 42, 2) := by decide +kernel
theorem d_Lx_behindComment_27 : decode prog_3_method_6_code 27 = .ok (.if_icmp .ne 22, 3) := by decide +kernel
theorem d_Lx_behindComment_30 : decode prog_3_method_6_code 30 = .ok (.aload_n 0, 1) := by decide +kernel
theorem d_Lx_behindComment_31 : decode prog_3_method_6_code 31 = .ok (.getfield 18, 3) := by decide +kernel
theorem d_Lx_behindComment_34 : decode prog_3_method_6_code 34 = .ok (.iload_n 2, 1) := by decide +kernel
theorem d_Lx_behindComment_35 : decode prog_3_method_6_code 35 = .ok (.iconst 1, 1) := by decide +kernel
theorem d_Lx_behindComment_36 : decode prog_3_method_6_code 36 = .ok (.iadd, 1) := by decide +kernel
theorem d_Lx_behindComment_37 : decode prog_3_method_6_code 37 = .ok (.invokevirtual 47, 3) := by decide +kernel
theorem d_Lx_behindComment_40 : decode prog_3_method_6_code 40 = .ok (.bipush 47, 2) := by decide +kernel
theorem d_Lx_behindComment_42 : decode prog_3_method_6_code 42 = .ok (.if_icmp .ne 7, 3) := by decide +kernel
theorem d_Lx_behindComment_45 : decode prog_3_method_6_code 45 = .ok (.iload_n 2, 1) := by decide +kernel
theorem d_Lx_behindComment_46 : decode prog_3_method_6_code 46 = .ok (.iconst 2, 1) := by decide +kernel
theorem d_Lx_behindComment_47 : decode prog_3_method_6_code 47 = .ok (.iadd, 1) := by decide +kernel
theorem d_Lx_behindComment_48 : decode prog_3_method_6_code 48 = .ok (.ireturn, 1) := by decide +kernel
theorem d_Lx_behindComment_49 : decode prog_3_method_6_code 49 = .ok (.iinc 2 1, 3) := by decide +kernel
theorem d_Lx_behindComment_52 : decode prog_3_method_6_code 52 = .ok (.goto (-48), 3) := by decide +kernel
theorem d_Lx_behindComment_55 : decode prog_3_method_6_code 55 = .ok (.iload_n 1, 1) := by decide +kernel
theorem d_Lx_behindComment_56 : decode prog_3_method_6_code 56 = .ok (.ireturn, 1) := by decide +kernel
abbrev m_Lx_behindBlank : cx_M := (⟨"CircuitText$Lexer", "behindBlank", "(I)I"⟩, prog_3_method_4_code, 4, (Option.some Jvm.ClassFile.FieldType.int), [], [false, false])
theorem w_Lx_behindBlank : cx_W m_Lx_behindBlank := ⟨Or.inl ⟨(in_2 (List.mem_of_getElem? (i := 129) rfl)), rfl⟩, by decide +kernel, by decide, by decide, by decide +kernel⟩
theorem n_Lx_behindBlank : (parseMethodDescriptor m_Lx_behindBlank.1.desc).map (fun d => d.parameters.length) = some 1 := by decide +kernel
theorem d_Lx_behindBlank_0 : decode prog_3_method_4_code 0 = .ok (.aload_n 0, 1) := by decide +kernel
theorem d_Lx_behindBlank_1 : decode prog_3_method_4_code 1 = .ok (.getfield 18, 3) := by decide +kernel
theorem d_Lx_behindBlank_4 : decode prog_3_method_4_code 4 = .ok (.iload_n 1, 1) := by decide +kernel
theorem d_Lx_behindBlank_5 : decode prog_3_method_4_code 5 = .ok (.invokevirtual 47, 3) := by decide +kernel
theorem d_Lx_behindBlank_8 : decode prog_3_method_4_code 8 = .ok (.istore_n 2, 1) := by decide +kernel
theorem d_Lx_behindBlank_9 : decode prog_3_method_4_code 9 = .ok (.iload_n 2, 1) := by decide +kernel
theorem d_Lx_behindBlank_10 : decode prog_3_method_4_code 10 = .ok (.bipush 9, 2) := by decide +kernel
theorem d_Lx_behindBlank_12 : decode prog_3_method_4_code 12 = .ok (.if_icmp .eq 21, 3) := by decide +kernel
theorem d_Lx_behindBlank_15 : decode prog_3_method_4_code 15 = .ok (.iload_n 2, 1) := by decide +kernel
theorem d_Lx_behindBlank_16 : decode prog_3_method_4_code 16 = .ok (.bipush 10, 2) := by decide +kernel
theorem d_Lx_behindBlank_18 : decode prog_3_method_4_code 18 = .ok (.if_icmp .eq 15, 3) := by decide +kernel
theorem d_Lx_behindBlank_21 : decode prog_3_method_4_code 21 = .ok (.iload_n 2, 1) := by decide +kernel
theorem d_Lx_behindBlank_22 : decode prog_3_method_4_code 22 = .ok (.bipush 13, 2) := by decide +kernel
theorem d_Lx_behindBlank_24 : decode prog_3_method_4_code 24 = .ok (.if_icmp .eq 9, 3) := by decide +kernel
theorem d_Lx_behindBlank_27 : decode prog_3_method_4_code 27 = .ok (.iload_n 2, 1) := by decide +kernel
theorem d_Lx_behindBlank_28 : decode prog_3_method_4_code 28 = .ok (.bipush 32, 2) := by decide +kernel
theorem d_Lx_behindBlank_30 : decode prog_3_method_4_code 30 = .ok (.if_icmp .ne 7, 3) := by decide +kernel
theorem d_Lx_behindBlank_33 : decode prog_3_method_4_code 33 = .ok (.iload_n 1, 1) := by decide +kernel
theorem d_Lx_behindBlank_34 : decode prog_3_method_4_code 34 = .ok (.iconst 1, 1) := by decide +kernel
theorem d_Lx_behindBlank_35 : decode prog_3_method_4_code 35 = .ok (.iadd, 1) := by decide +kernel
theorem d_Lx_behindBlank_36 : decode prog_3_method_4_code 36 = .ok (.ireturn, 1) := by decide +kernel
theorem d_Lx_behindBlank_37 : decode prog_3_method_4_code 37 = .ok (.iload_n 2, 1) := by decide +kernel
theorem d_Lx_behindBlank_38 : decode prog_3_method_4_code 38 = .ok (.bipush 47, 2) := by decide +kernel
theorem d_Lx_behindBlank_40 : decode prog_3_method_4_code 40 = .ok (.if_icmp .eq 5, 3) := by decide +kernel
theorem d_Lx_behindBlank_43 : decode prog_3_method_4_code 43 = .ok (.iload_n 1, 1) := by decide +kernel
theorem d_Lx_behindBlank_44 : decode prog_3_method_4_code 44 = .ok (.ireturn, 1) := by decide +kernel
theorem d_Lx_behindBlank_45 : decode prog_3_method_4_code 45 = .ok (.aload_n 0, 1) := by decide +kernel
theorem d_Lx_behindBlank_46 : decode prog_3_method_4_code 46 = .ok (.getfield 18, 3) := by decide +kernel
theorem d_Lx_behindBlank_49 : decode prog_3_method_4_code 49 = .ok (.iload_n 1, 1) := by decide +kernel
theorem d_Lx_behindBlank_50 : decode prog_3_method_4_code 50 = .ok (.iconst 1, 1) := by decide +kernel
theorem d_Lx_behindBlank_51 : decode prog_3_method_4_code 51 = .ok (.iadd, 1) := by decide +kernel
theorem d_Lx_behindBlank_52 : decode prog_3_method_4_code 52 = .ok (.invokevirtual 47, 3) := by decide +kernel
theorem d_Lx_behindBlank_55 : decode prog_3_method_4_code 55 = .ok (.istore_n 3, 1) := by decide +kernel
theorem d_Lx_behindBlank_56 : decode prog_3_method_4_code 56 = .ok (.iload_n 3, 1) := by decide +kernel
theorem d_Lx_behindBlank_57 : decode prog_3_method_4_code 57 = .ok (.bipush 47, 2) := by decide +kernel
theorem d_Lx_behindBlank_59 : decode prog_3_method_4_code 59 = .ok (.if_icmp .ne 11, 3) := by decide +kernel
theorem d_Lx_behindBlank_62 : decode prog_3_method_4_code 62 = .ok (.aload_n 0, 1) := by decide +kernel
theorem d_Lx_behindBlank_63 : decode prog_3_method_4_code 63 = .ok (.iload_n 1, 1) := by decide +kernel
theorem d_Lx_behindBlank_64 : decode prog_3_method_4_code 64 = .ok (.invokevirtual 52, 3) := by decide +kernel
theorem d_Lx_behindBlank_67 : decode prog_3_method_4_code 67 = .ok (.goto 18, 3) := by decide +kernel
theorem d_Lx_behindBlank_70 : decode prog_3_method_4_code 70 = .ok (.iload_n 3, 1) := by decide +kernel
theorem d_Lx_behindBlank_71 : decode prog_3_method_4_code 71 = .ok (.bipush 42, 2) := by decide +kernel
theorem d_Lx_behindBlank_73 : decode prog_3_method_4_code 73 = .ok (.if_icmp .ne 11, 3) := by decide +kernel
theorem d_Lx_behindBlank_76 : decode prog_3_method_4_code 76 = .ok (.aload_n 0, 1) := by decide +kernel
theorem d_Lx_behindBlank_77 : decode prog_3_method_4_code 77 = .ok (.iload_n 1, 1) := by decide +kernel
theorem d_Lx_behindBlank_78 : decode prog_3_method_4_code 78 = .ok (.invokevirtual 55, 3) := by decide +kernel
theorem d_Lx_behindBlank_81 : decode prog_3_method_4_code 81 = .ok (.goto 4, 3) := by decide +kernel
theorem d_Lx_behindBlank_84 : decode prog_3_method_4_code 84 = .ok (.iload_n 1, 1) := by decide +kernel
theorem d_Lx_behindBlank_85 : decode prog_3_method_4_code 85 = .ok (.ireturn, 1) := by decide +kernel
abbrev m_Lx_behindBlanks : cx_M := (⟨"CircuitText$Lexer", "behindBlanks", "(I)I"⟩, prog_3_method_3_code, 5, (Option.some Jvm.ClassFile.FieldType.int), [], [false, false])
theorem w_Lx_behindBlanks : cx_W m_Lx_behindBlanks := ⟨Or.inl ⟨(in_2 (List.mem_of_getElem? (i := 124) rfl)), rfl⟩, by decide +kernel, by decide, by decide, by decide +kernel⟩
theorem n_Lx_behindBlanks : (parseMethodDescriptor m_Lx_behindBlanks.1.desc).map (fun d => d.parameters.length) = some 1 := by decide +kernel
theorem d_Lx_behindBlanks_0 : decode prog_3_method_3_code 0 = .ok (.iload_n 1, 1) := by decide +kernel
theorem d_Lx_behindBlanks_1 : decode prog_3_method_3_code 1 = .ok (.istore_n 2, 1) := by decide +kernel
theorem d_Lx_behindBlanks_2 : decode prog_3_method_3_code 2 = .ok (.iconst 0, 1) := by decide +kernel
theorem d_Lx_behindBlanks_3 : decode prog_3_method_3_code 3 = .ok (.istore_n 3, 1) := by decide +kernel
theorem d_Lx_behindBlanks_4 : decode prog_3_method_3_code 4 = .ok (.iload_n 3, 1) := by decide +kernel
theorem d_Lx_behindBlanks_5 : decode prog_3_method_3_code 5 = .ok (.ldc 30, 2) := by decide +kernel
theorem d_Lx_behindBlanks_7 : decode prog_3_method_3_code 7 = .ok (.if_icmp .gt 28, 3) := by decide +kernel
theorem d_Lx_behindBlanks_10 : decode prog_3_method_3_code 10 = .ok (.aload_n 0, 1) := by decide +kernel
theorem d_Lx_behindBlanks_11 : decode prog_3_method_3_code 11 = .ok (.iload_n 2, 1) := by decide +kernel
theorem d_Lx_behindBlanks_12 : decode prog_3_method_3_code 12 = .ok (.invokevirtual 44, 3) := by decide +kernel
theorem d_Lx_behindBlanks_15 : decode prog_3_method_3_code 15 = .ok (.istore 4, 2) := by decide +kernel
theorem d_Lx_behindBlanks_17 : decode prog_3_method_3_code 17 = .ok (.iload 4, 2) := by decide +kernel
theorem d_Lx_behindBlanks_19 : decode prog_3_method_3_code 19 = .ok (.iload_n 2, 1) := by decide +kernel
theorem d_Lx_behindBlanks_20 : decode prog_3_method_3_code 20 = .ok (.if_icmp .ne 6, 3) := by decide +kernel
theorem d_Lx_behindBlanks_23 : decode prog_3_method_3_code 23 = .ok (.goto 12, 3) := by decide +kernel
theorem d_Lx_behindBlanks_26 : decode prog_3_method_3_code 26 = .ok (.iload 4, 2) := by decide +kernel
theorem d_Lx_behindBlanks_28 : decode prog_3_method_3_code 28 = .ok (.istore_n 2, 1) := by decide +kernel
theorem d_Lx_behindBlanks_29 : decode prog_3_method_3_code 29 = .ok (.iinc 3 1, 3) := by decide +kernel
theorem d_Lx_behindBlanks_32 : decode prog_3_method_3_code 32 = .ok (.goto (-28), 3) := by decide +kernel
theorem d_Lx_behindBlanks_35 : decode prog_3_method_3_code 35 = .ok (.iload_n 2, 1) := by decide +kernel
theorem d_Lx_behindBlanks_36 : decode prog_3_method_3_code 36 = .ok (.ireturn, 1) := by decide +kernel
theorem l_Lx_47 : cx_LV "CircuitText$Lexer" 47 6 m_Ta_byteAt := ⟨Or.inl (in_2 (List.mem_of_getElem? (i := 130) rfl)), w_Ta_byteAt, (in_2 (List.mem_of_getElem? (i := 131) rfl)), _, rfl, (in_2 (List.mem_of_getElem? (i := 132) rfl))⟩
theorem l_Lx_52 : cx_LV "CircuitText$Lexer" 52 2 m_Lx_behindLine := ⟨Or.inl (in_2 (List.mem_of_getElem? (i := 134) rfl)), w_Lx_behindLine, (in_2 (List.mem_of_getElem? (i := 136) rfl)), _, rfl, (List.mem_append_left _ (List.mem_of_getElem? (i := 3) rfl))⟩
theorem l_Lx_55 : cx_LV "CircuitText$Lexer" 55 2 m_Lx_behindComment := ⟨Or.inl (in_2 (List.mem_of_getElem? (i := 138) rfl)), w_Lx_behindComment, (in_2 (List.mem_of_getElem? (i := 140) rfl)), _, rfl, (List.mem_append_left _ (List.mem_of_getElem? (i := 4) rfl))⟩
theorem l_Lx_44 : cx_LV "CircuitText$Lexer" 44 2 m_Lx_behindBlank := ⟨Or.inl (in_2 (List.mem_of_getElem? (i := 126) rfl)), w_Lx_behindBlank, (in_2 (List.mem_of_getElem? (i := 128) rfl)), _, rfl, (List.mem_append_left _ (List.mem_of_getElem? (i := 2) rfl))⟩
set_option maxRecDepth 100000 in
theorem c_Lx_behindLine {k : cx_K} {l : Launch} {G : cx_G} {lx ta ws n p : Nat} {f : Nat → Int32} (hL : tx_L k G lx ta ws n f) (hp : p < 1048576) : cx_Sp k l m_Lx_behindLine 1 [.ref lx, .int (nI p)] G (cx_rd (some (.int (nI (tx_line n (tx_at n f) p)))) G) := by
  intro E hE
  have hT : tx_T k G ta n f := hL.2
  obtain ⟨hl, b, cap, h1, h2, h3, h4, hf⟩ := hL
  have hP : ∀ i, (i < n ∧ ¬ tx_at n f i = 10) → i < n := fun i h => h.1
  have hloop : ∀ (d q : Nat), n - q = d → q < 2097152 → tx_line n (tx_at n f) q = tx_line n (tx_at n f) p → cx_V E 2 [(2, false, .int (nI q)), (0, false, .ref lx), (1, false, .int (nI p))] [] G := by
    intro d
    induction d using Nat.strongRecOn with
    | ind d ih =>
      intro q hd hq hr
      refine cx_iload_n (i := 2) hE d_Lx_behindLine_2 rfl rfl ?_
      refine cx_aload_n (i := 0) hE d_Lx_behindLine_3 rfl rfl ?_
      refine cx_get hE d_Lx_behindLine_4 f_Lx_18 (by assumption) (by rfl) ?_
      refine cx_get hE d_Lx_behindLine_7 f_Lx_58 (by assumption) (by rfl) ?_
      refine cx_icmp_ge (tgt := 32) hE d_Lx_behindLine_10 (by decide) (fun c_10 => ?_) (fun c_10 => ?_)
      · have q_10 := nJ_le (by omega) c_10
        refine cx_iload_n (i := 2) hE d_Lx_behindLine_32 rfl rfl ?_
        refine cx_iret hE d_Lx_behindLine_33 rfl rfl ?_
        refine ⟨?_, rfl⟩
        rw [← hr]
        show _ = Sum.inl (some (Value.int (nI (tx_e _ q))))
        rw [tx_e_stop (fun h => by first | exact absurd h.1 (by omega) | exact h.2 c_23)]
      · have q_10 := nJ_lt (by omega) c_10
        refine cx_aload_n (i := 0) hE d_Lx_behindLine_13 rfl rfl ?_
        refine cx_get hE d_Lx_behindLine_14 f_Lx_18 (by assumption) (by rfl) ?_
        refine cx_iload_n (i := 2) hE d_Lx_behindLine_17 rfl rfl ?_
        refine cx_invV1 hE d_Lx_behindLine_18 l_Lx_47 (by assumption) (c_Ta_byteAt (p := q) hT (by omega)) rfl (by omega) (Nat.le_of_ble_eq_true rfl) n_Ta_byteAt (by first | rfl | (simp only [List.map_cons, List.map_nil, cx_rfc]; rfl)) ?_
        refine cx_bipush (v := 10) hE d_Lx_behindLine_21 (by decide) ?_
        refine cx_icmp_eq (tgt := 32) hE d_Lx_behindLine_23 (by decide) (fun c_23 => ?_) (fun c_23 => ?_)
        · refine cx_iload_n (i := 2) hE d_Lx_behindLine_32 rfl rfl ?_
          refine cx_iret hE d_Lx_behindLine_33 rfl rfl ?_
          refine ⟨?_, rfl⟩
          rw [← hr]
          show _ = Sum.inl (some (Value.int (nI (tx_e _ q))))
          rw [tx_e_stop (fun h => by first | exact absurd h.1 (by omega) | exact h.2 c_23)]
        · refine cx_iinc (v := nI (q + 1)) hE d_Lx_behindLine_26 rfl (nI_1 _) (by decide) ?_
          refine cx_goto (tgt := 2) hE d_Lx_behindLine_29 (by decide) ?_
          refine cx_sub [0, 1, 2] rfl ?_
          exact ih (n - (q + 1)) (by omega) (q + 1) rfl (by omega) (by rw [← hr]; exact (tx_e_step hP ⟨q_10, c_23⟩).symm)
  refine cx_iload_n (i := 1) hE d_Lx_behindLine_0 rfl rfl ?_
  refine cx_istore_n (i := 2) hE d_Lx_behindLine_1 rfl (by decide) ?_
  refine cx_sub [0, 1, 2] rfl ?_
  exact hloop (n - p) p rfl (by omega) rfl
set_option maxRecDepth 100000 in
theorem c_Lx_behindComment {k : cx_K} {l : Launch} {G : cx_G} {lx ta ws n p : Nat} {f : Nat → Int32} (hL : tx_L k G lx ta ws n f) (hp : p < 1048576) : cx_Sp k l m_Lx_behindComment 1 [.ref lx, .int (nI p)] G (cx_rd (some (.int (nI (tx_com n (tx_at n f) p)))) G) := by
  intro E hE
  have hT : tx_T k G ta n f := hL.2
  obtain ⟨hl, b, cap, h1, h2, h3, h4, hf⟩ := hL
  have hP : ∀ i, tx_cP n (tx_at n f) i → i < n := fun i h => by have := h.1; omega
  have hloop : ∀ (d q : Nat), n - q = d → q < 2097152 → tx_e (tx_cP n (tx_at n f)) q = tx_e (tx_cP n (tx_at n f)) (p + 2) → cx_V E 4 [(2, false, .int (nI q)), (0, false, .ref lx), (1, false, .int (nI p))] [] G := by
    intro d
    induction d using Nat.strongRecOn with
    | ind d ih =>
      intro q hd hq hr
      refine cx_iload_n (i := 2) hE d_Lx_behindComment_4 rfl rfl ?_
      refine cx_iconst (v := 1) hE d_Lx_behindComment_5 (by decide) ?_
      refine cx_iadd hE d_Lx_behindComment_6 ?_
      show cx_V E _ _ (.int (nI q + 1) :: _) G
      rw [nI_1 q]
      refine cx_aload_n (i := 0) hE d_Lx_behindComment_7 rfl rfl ?_
      refine cx_get hE d_Lx_behindComment_8 f_Lx_18 (by assumption) (by rfl) ?_
      refine cx_get hE d_Lx_behindComment_11 f_Lx_58 (by assumption) (by rfl) ?_
      refine cx_icmp_ge (tgt := 55) hE d_Lx_behindComment_14 (by decide) (fun c_14 => ?_) (fun c_14 => ?_)
      · have q_14 := nJ_le (by omega) c_14
        have q_s := tx_e_stop (P := tx_cP n (tx_at n f)) (p := q) (fun h => by have := h.1; omega)
        refine cx_iload_n (i := 1) hE d_Lx_behindComment_55 rfl rfl ?_
        refine cx_iret hE d_Lx_behindComment_56 rfl rfl ?_
        refine ⟨?_, rfl⟩
        rw [tx_com, ← hr, q_s, if_neg (by omega)]
      · have q_14 := nJ_lt (by omega) c_14
        refine cx_aload_n (i := 0) hE d_Lx_behindComment_17 rfl rfl ?_
        refine cx_get hE d_Lx_behindComment_18 f_Lx_18 (by assumption) (by rfl) ?_
        refine cx_iload_n (i := 2) hE d_Lx_behindComment_21 rfl rfl ?_
        refine cx_invV1 hE d_Lx_behindComment_22 l_Lx_47 (by assumption) (c_Ta_byteAt (p := q) hT (by omega)) rfl (by omega) (Nat.le_of_ble_eq_true rfl) n_Ta_byteAt (by first | rfl | (simp only [List.map_cons, List.map_nil, cx_rfc]; rfl)) ?_
        refine cx_bipush (v := 42) hE d_Lx_behindComment_25 (by decide) ?_
        refine cx_icmp_ne (tgt := 49) hE d_Lx_behindComment_27 (by decide) (fun c_27 => ?_) (fun c_27 => ?_)
        · refine cx_iinc (v := nI (q + 1)) hE d_Lx_behindComment_49 rfl (nI_1 _) (by decide) ?_
          refine cx_goto (tgt := 4) hE d_Lx_behindComment_52 (by decide) ?_
          refine cx_sub [0, 1, 2] rfl ?_
          exact ih (n - (q + 1)) (by omega) (q + 1) rfl (by omega) (by rw [← hr]; exact (tx_e_step hP ⟨q_14, fun h => by first | exact c_27 h.1 | exact c_42 h.2⟩).symm)
        · refine cx_aload_n (i := 0) hE d_Lx_behindComment_30 rfl rfl ?_
          refine cx_get hE d_Lx_behindComment_31 f_Lx_18 (by assumption) (by rfl) ?_
          refine cx_iload_n (i := 2) hE d_Lx_behindComment_34 rfl rfl ?_
          refine cx_iconst (v := 1) hE d_Lx_behindComment_35 (by decide) ?_
          refine cx_iadd hE d_Lx_behindComment_36 ?_
          show cx_V E _ _ (.int (nI q + 1) :: _) G
          rw [nI_1 q]
          refine cx_invV1 hE d_Lx_behindComment_37 l_Lx_47 (by assumption) (c_Ta_byteAt (p := q + 1) hT (by omega)) rfl (by omega) (Nat.le_of_ble_eq_true rfl) n_Ta_byteAt (by first | rfl | (simp only [List.map_cons, List.map_nil, cx_rfc]; rfl)) ?_
          refine cx_bipush (v := 47) hE d_Lx_behindComment_40 (by decide) ?_
          refine cx_icmp_ne (tgt := 49) hE d_Lx_behindComment_42 (by decide) (fun c_42 => ?_) (fun c_42 => ?_)
          · refine cx_iinc (v := nI (q + 1)) hE d_Lx_behindComment_49 rfl (nI_1 _) (by decide) ?_
            refine cx_goto (tgt := 4) hE d_Lx_behindComment_52 (by decide) ?_
            refine cx_sub [0, 1, 2] rfl ?_
            exact ih (n - (q + 1)) (by omega) (q + 1) rfl (by omega) (by rw [← hr]; exact (tx_e_step hP ⟨q_14, fun h => by first | exact c_27 h.1 | exact c_42 h.2⟩).symm)
          · refine cx_iload_n (i := 2) hE d_Lx_behindComment_45 rfl rfl ?_
            refine cx_iconst (v := 2) hE d_Lx_behindComment_46 (by decide) ?_
            refine cx_iadd hE d_Lx_behindComment_47 ?_
            refine cx_iret hE d_Lx_behindComment_48 rfl rfl ?_
            have q_s := tx_e_stop (P := tx_cP n (tx_at n f)) (p := q) (fun h => h.2 ⟨c_27, c_42⟩)
            refine ⟨?_, rfl⟩
            rw [tx_com, ← hr, q_s, if_pos (by omega)]
            exact congrArg (fun z => Sum.inl (some (Value.int z))) (nI_add q 2)
  refine cx_iload_n (i := 1) hE d_Lx_behindComment_0 rfl rfl ?_
  refine cx_iconst (v := 2) hE d_Lx_behindComment_1 (by decide) ?_
  refine cx_iadd hE d_Lx_behindComment_2 ?_
  show cx_V E _ _ (.int (nI p + nI 2) :: _) G
  rw [nI_add p 2]
  refine cx_istore_n (i := 2) hE d_Lx_behindComment_3 rfl (by decide) ?_
  refine cx_sub [0, 1, 2] rfl ?_
  exact hloop (n - (p + 2)) (p + 2) rfl (by omega) rfl
set_option maxRecDepth 100000 in
theorem c_Lx_behindBlank {k : cx_K} {l : Launch} {G : cx_G} {lx ta ws n p : Nat} {f : Nat → Int32} (hL : tx_L k G lx ta ws n f) (hp : p < 1048576) : cx_Sp k l m_Lx_behindBlank 2 [.ref lx, .int (nI p)] G (cx_rd (some (.int (nI (tx_b1 n (tx_at n f) p)))) G) := by
  intro E hE
  have hT : tx_T k G ta n f := hL.2
  obtain ⟨hl, b, cap, h1, h2, h3, h4, hf⟩ := id hL
  refine cx_aload_n (i := 0) hE d_Lx_behindBlank_0 rfl rfl ?_
  refine cx_get hE d_Lx_behindBlank_1 f_Lx_18 (by assumption) (by rfl) ?_
  refine cx_iload_n (i := 1) hE d_Lx_behindBlank_4 rfl rfl ?_
  refine cx_invV1 hE d_Lx_behindBlank_5 l_Lx_47 (by assumption) (c_Ta_byteAt (p := p) hT (by omega)) rfl (by omega) (Nat.le_of_ble_eq_true rfl) n_Ta_byteAt (by first | rfl | (simp only [List.map_cons, List.map_nil, cx_rfc]; rfl)) ?_
  refine cx_istore_n (i := 2) hE d_Lx_behindBlank_8 rfl (by decide) ?_
  refine cx_iload_n (i := 2) hE d_Lx_behindBlank_9 rfl rfl ?_
  refine cx_bipush (v := 9) hE d_Lx_behindBlank_10 (by decide) ?_
  refine cx_icmp_eq (tgt := 33) hE d_Lx_behindBlank_12 (by decide) (fun c_12 => ?_) (fun c_12 => ?_)
  · refine cx_iload_n (i := 1) hE d_Lx_behindBlank_33 rfl rfl ?_
    refine cx_iconst (v := 1) hE d_Lx_behindBlank_34 (by decide) ?_
    refine cx_iadd hE d_Lx_behindBlank_35 ?_
    show cx_V E _ _ (.int (nI p + 1) :: _) G
    rw [nI_1 p]
    refine cx_iret hE d_Lx_behindBlank_36 rfl rfl ?_
    refine ⟨?_, rfl⟩
    clear hE
    simp [tx_b1, *]
  · refine cx_iload_n (i := 2) hE d_Lx_behindBlank_15 rfl rfl ?_
    refine cx_bipush (v := 10) hE d_Lx_behindBlank_16 (by decide) ?_
    refine cx_icmp_eq (tgt := 33) hE d_Lx_behindBlank_18 (by decide) (fun c_18 => ?_) (fun c_18 => ?_)
    · refine cx_iload_n (i := 1) hE d_Lx_behindBlank_33 rfl rfl ?_
      refine cx_iconst (v := 1) hE d_Lx_behindBlank_34 (by decide) ?_
      refine cx_iadd hE d_Lx_behindBlank_35 ?_
      show cx_V E _ _ (.int (nI p + 1) :: _) G
      rw [nI_1 p]
      refine cx_iret hE d_Lx_behindBlank_36 rfl rfl ?_
      refine ⟨?_, rfl⟩
      clear hE
      simp [tx_b1, *]
    · refine cx_iload_n (i := 2) hE d_Lx_behindBlank_21 rfl rfl ?_
      refine cx_bipush (v := 13) hE d_Lx_behindBlank_22 (by decide) ?_
      refine cx_icmp_eq (tgt := 33) hE d_Lx_behindBlank_24 (by decide) (fun c_24 => ?_) (fun c_24 => ?_)
      · refine cx_iload_n (i := 1) hE d_Lx_behindBlank_33 rfl rfl ?_
        refine cx_iconst (v := 1) hE d_Lx_behindBlank_34 (by decide) ?_
        refine cx_iadd hE d_Lx_behindBlank_35 ?_
        show cx_V E _ _ (.int (nI p + 1) :: _) G
        rw [nI_1 p]
        refine cx_iret hE d_Lx_behindBlank_36 rfl rfl ?_
        refine ⟨?_, rfl⟩
        clear hE
        simp [tx_b1, *]
      · refine cx_iload_n (i := 2) hE d_Lx_behindBlank_27 rfl rfl ?_
        refine cx_bipush (v := 32) hE d_Lx_behindBlank_28 (by decide) ?_
        refine cx_icmp_ne (tgt := 37) hE d_Lx_behindBlank_30 (by decide) (fun c_30 => ?_) (fun c_30 => ?_)
        · refine cx_iload_n (i := 2) hE d_Lx_behindBlank_37 rfl rfl ?_
          refine cx_bipush (v := 47) hE d_Lx_behindBlank_38 (by decide) ?_
          refine cx_icmp_eq (tgt := 45) hE d_Lx_behindBlank_40 (by decide) (fun c_40 => ?_) (fun c_40 => ?_)
          · refine cx_aload_n (i := 0) hE d_Lx_behindBlank_45 rfl rfl ?_
            refine cx_get hE d_Lx_behindBlank_46 f_Lx_18 (by assumption) (by rfl) ?_
            refine cx_iload_n (i := 1) hE d_Lx_behindBlank_49 rfl rfl ?_
            refine cx_iconst (v := 1) hE d_Lx_behindBlank_50 (by decide) ?_
            refine cx_iadd hE d_Lx_behindBlank_51 ?_
            show cx_V E _ _ (.int (nI p + 1) :: _) G
            rw [nI_1 p]
            refine cx_invV1 hE d_Lx_behindBlank_52 l_Lx_47 (by assumption) (c_Ta_byteAt (p := p + 1) hT (by omega)) rfl (by omega) (Nat.le_of_ble_eq_true rfl) n_Ta_byteAt (by first | rfl | (simp only [List.map_cons, List.map_nil, cx_rfc]; rfl)) ?_
            refine cx_istore_n (i := 3) hE d_Lx_behindBlank_55 rfl (by decide) ?_
            refine cx_iload_n (i := 3) hE d_Lx_behindBlank_56 rfl rfl ?_
            refine cx_bipush (v := 47) hE d_Lx_behindBlank_57 (by decide) ?_
            refine cx_icmp_ne (tgt := 70) hE d_Lx_behindBlank_59 (by decide) (fun c_59 => ?_) (fun c_59 => ?_)
            · refine cx_iload_n (i := 3) hE d_Lx_behindBlank_70 rfl rfl ?_
              refine cx_bipush (v := 42) hE d_Lx_behindBlank_71 (by decide) ?_
              refine cx_icmp_ne (tgt := 84) hE d_Lx_behindBlank_73 (by decide) (fun c_73 => ?_) (fun c_73 => ?_)
              · refine cx_iload_n (i := 1) hE d_Lx_behindBlank_84 rfl rfl ?_
                refine cx_iret hE d_Lx_behindBlank_85 rfl rfl ?_
                refine ⟨?_, rfl⟩
                clear hE
                simp [tx_b1, *]
              · refine cx_aload_n (i := 0) hE d_Lx_behindBlank_76 rfl rfl ?_
                refine cx_iload_n (i := 1) hE d_Lx_behindBlank_77 rfl rfl ?_
                refine cx_invV1 hE d_Lx_behindBlank_78 l_Lx_55 (by assumption) (c_Lx_behindComment hL hp) rfl (by omega) (Nat.le_of_ble_eq_true rfl) n_Lx_behindComment (by first | rfl | (simp only [List.map_cons, List.map_nil, cx_rfc]; rfl)) ?_
                refine cx_goto (tgt := 85) hE d_Lx_behindBlank_81 (by decide) ?_
                refine cx_iret hE d_Lx_behindBlank_85 rfl rfl ?_
                refine ⟨?_, rfl⟩
                clear hE
                simp [tx_b1, *]
            · refine cx_aload_n (i := 0) hE d_Lx_behindBlank_62 rfl rfl ?_
              refine cx_iload_n (i := 1) hE d_Lx_behindBlank_63 rfl rfl ?_
              refine cx_invV1 hE d_Lx_behindBlank_64 l_Lx_52 (by assumption) (c_Lx_behindLine hL hp) rfl (by omega) (Nat.le_of_ble_eq_true rfl) n_Lx_behindLine (by first | rfl | (simp only [List.map_cons, List.map_nil, cx_rfc]; rfl)) ?_
              refine cx_goto (tgt := 85) hE d_Lx_behindBlank_67 (by decide) ?_
              refine cx_iret hE d_Lx_behindBlank_85 rfl rfl ?_
              refine ⟨?_, rfl⟩
              clear hE
              simp [tx_b1, *]
          · refine cx_iload_n (i := 1) hE d_Lx_behindBlank_43 rfl rfl ?_
            refine cx_iret hE d_Lx_behindBlank_44 rfl rfl ?_
            refine ⟨?_, rfl⟩
            clear hE
            simp [tx_b1, *]
        · refine cx_iload_n (i := 1) hE d_Lx_behindBlank_33 rfl rfl ?_
          refine cx_iconst (v := 1) hE d_Lx_behindBlank_34 (by decide) ?_
          refine cx_iadd hE d_Lx_behindBlank_35 ?_
          show cx_V E _ _ (.int (nI p + 1) :: _) G
          rw [nI_1 p]
          refine cx_iret hE d_Lx_behindBlank_36 rfl rfl ?_
          refine ⟨?_, rfl⟩
          clear hE
          simp [tx_b1, *]

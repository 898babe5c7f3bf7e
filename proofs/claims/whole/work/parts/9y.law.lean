/-! THE LAW: what stays of the class when others write; its wrappers. -/
section LWA
variable {k : cx_K} {G G' : cx_G} {A : tx_A} {us : List tx_U} {b : Nat} {S S' : Nat → Prop}
theorem ct_F.an (h : ∀ c, S c → S' c) (hF : ct_F S' G A us) : ct_F S G A us := by
  obtain ⟨h1, h2, h3, h4⟩ := hF
  refine ⟨fun z => h1 (h _ z), fun q z => h2 q (h _ z), fun j u hu => ?_, fun T a ha => ?_⟩
  · obtain ⟨g1, g2, g3, g4⟩ := h3 j u hu
    exact ⟨fun z => g1 (h _ z), fun z => g2 (h _ z), fun q z => g3 q (h _ z), fun q hq z => g4 q hq (h _ z)⟩
  · obtain ⟨g1, g2, g3⟩ := h4 T a ha
    exact ⟨g1, fun z => g2 (h _ z), fun tb fs hq z => g3 tb fs hq (h _ z)⟩
theorem ct_U.fr (hU : ct_U k G A us b) (hF : ct_F S G A us) (hfr : ∀ c e, ¬ S c → G.1 c = some e → G'.1 c = some e) : ct_U k G' A us b ∧ ct_F S G' A us := by
  obtain ⟨⟨⟨mc, u1⟩, u1'⟩, u2, u3, u4, u5, u6, u7⟩ := hU
  refine ⟨⟨⟨⟨mc, hfr _ _ hF.1 u1⟩, ?_⟩, fun j u hu => hfr _ _ (hF.2.2.1 j u hu).1 (u2 j u hu), fun j u hu => ?_, fun j u hu q r hr => hfr _ _ ((hF.2.2.1 j u hu).2.2.2 q (tx_len hr)) (u4 j u hu q r hr), fun T a ha => ?_, u6, u7⟩, hF.1, hF.2.1, hF.2.2.1, fun T a ha => ?_⟩
  · rcases u1' with h2 | ⟨f, h2, h3, h4⟩
    · exact Or.inl h2
    · exact Or.inr ⟨f, hfr _ _ (hF.2.1 (by omega)) h2, h3, h4⟩
  · obtain ⟨⟨mc, h1⟩, h2⟩ := u3 j u hu
    obtain ⟨g1, g2, g3, g4⟩ := hF.2.2.1 j u hu
    refine ⟨⟨mc, hfr _ _ g2 h1⟩, ?_⟩
    rcases h2 with h2 | ⟨f, h2, h3, h4⟩
    · exact Or.inl h2
    · exact Or.inr ⟨f, hfr _ _ (g3 (by omega)) h2, h3, h4⟩
  · obtain ⟨tb, x1, x2, x3, x4, g, g1, g2, g3, g4⟩ := u5 T a ha
    obtain ⟨f1, f2, f3⟩ := hF.2.2.2 T a ha
    exact ⟨tb, x1, x2, x3, x4, g, hfr _ _ f2 g1, hfr _ _ (f3 tb _ g1) g2, g3, g4⟩
  · obtain ⟨tb, x1, x2, x3, x4, g, g1, g2, g3, g4⟩ := u5 T a ha
    obtain ⟨f1, f2, f3⟩ := hF.2.2.2 T a ha
    refine ⟨f1, f2, fun tb' fs hq => ?_⟩
    rw [hfr _ _ f2 g1] at hq
    cases hq
    exact f3 tb _ g1
theorem ct_F.mo (hU : ct_U k G A us b) (hF : ct_F S G A us) (h : ∀ c e, ¬ S c → G.1 c = some e → ¬ S' c) : ct_F S' G A us := by
  obtain ⟨⟨⟨mc, u1⟩, u1'⟩, u2, u3, u4, u5, u6, u7⟩ := hU
  refine ⟨h _ _ hF.1 u1, fun hc => ?_, fun j u hu => ?_, fun T a ha => ?_⟩
  · rcases u1' with h2 | ⟨f, h2, h3, h4⟩
    · exact absurd h2.1 hc
    · exact h _ _ (hF.2.1 hc) h2
  · obtain ⟨⟨mc, h1⟩, h2⟩ := u3 j u hu
    obtain ⟨g1, g2, g3, g4⟩ := hF.2.2.1 j u hu
    refine ⟨h _ _ g1 (u2 j u hu), h _ _ g2 h1, fun hc => ?_, fun q hq => ?_⟩
    · rcases h2 with h2 | ⟨f, h2, h3, h4⟩
      · exact absurd h2.1 hc
      · exact h _ _ (g3 hc) h2
    · have hr : u.2.2.1[q]? = some u.2.2.1[q] := List.getElem?_eq_getElem hq
      exact h _ _ (g4 q hq) (u4 j u hu q _ hr)
  · obtain ⟨tb, x1, x2, x3, x4, g, g1, g2, g3, g4⟩ := u5 T a ha
    obtain ⟨f1, f2, f3⟩ := hF.2.2.2 T a ha
    refine ⟨f1, h _ _ f2 g1, fun tb' fs hq => ?_⟩
    have hq' := hq
    rw [g1] at hq'
    cases hq'
    exact h _ _ (f3 tb _ g1) g2
theorem ct_R.fr {x ta n cap : Nat} {f : Nat → Int32} {ft : Int32} (hR : ct_R k G x ta b n cap f ft A us) (hF : ct_F S G A us) (hx : ¬ S x) (hta : ¬ S ta) (hb : ¬ S b) (hfr : ∀ c e, ¬ S c → G.1 c = some e → G'.1 c = some e) : ct_R k G' x ta b n cap f ft A us ∧ ct_F S G' A us := by
  obtain ⟨h1, ⟨t1, t2, t3⟩, hU⟩ := hR
  obtain ⟨hU', hF'⟩ := hU.fr hF hfr
  exact ⟨⟨hfr _ _ hx h1, ⟨hfr _ _ hta t1, hfr _ _ hb t2, t3⟩, hU'⟩, hF'⟩
theorem rm_R.fr {mo : Nat} {P : Nat → Nat} {M : rm_M} (h : rm_R k G mo P M) (hfr : ∀ c e, rm_S mo P c → G.1 c = some e → G'.1 c = some e) : rm_R k G' mo P M := by
  obtain ⟨h1, h2, h3, h4, h5⟩ := h
  exact ⟨hfr _ _ (Or.inl rfl) h1, fun i hi => hfr _ _ (Or.inr ⟨i, by rw [hi]; decide, rfl⟩) (h2 i hi), fun i hi => hfr _ _ (Or.inr ⟨i, by rw [hi]; decide, rfl⟩) (h3 i hi), fun i hi => hfr _ _ (Or.inr ⟨i, by rw [hi]; decide, rfl⟩) (h4 i hi), h5⟩
theorem rm_R.has {mo c : Nat} {P : Nat → Nat} {M : rm_M} (h : rm_R k G mo P M) (hc : rm_S mo P c) : ∃ e, G.1 c = some e := by
  rcases hc with rfl | ⟨i, hi, rfl⟩
  · exact ⟨_, h.1⟩
  · have := rm_ty_le i
    have : rm_ty i = 0 ∨ rm_ty i = 1 ∨ rm_ty i = 2 := by omega
    rcases this with z | z | z
    · exact ⟨_, h.2.1 i z⟩
    · exact ⟨_, h.2.2.1 i z⟩
    · exact ⟨_, h.2.2.2.1 i z⟩
end LWA
/-- an exception was made -/
def lw_mk (G G' : cx_G) : Prop := ∃ a e, G.1 a = none ∧ G' = cx_mk G a e 6
/-- the answer was written down -/
def lw_pt (k : cx_K) (G : cx_G) (ou : Nat) (g : Nat → Int64) (v : Int64) : cx_G := cx_put G ou (.inl (k.2.1 2, 1, .inr (.inl (vp_updL g 0 v))))
abbrev m_Lw_feed : cx_M := (⟨"CircuitTextLaw", "feed", "(LCircuitText;IIIII[J)I"⟩, method_3_code, 8, (Option.some Jvm.ClassFile.FieldType.int), [(0, 16, 19, 13)], [false, false, false, false, false, false, false])
theorem w_Lw_feed : cx_W m_Lw_feed := ⟨Or.inr (in_5 (List.mem_of_getElem? (i := 224) rfl)), by decide +kernel, by decide, by decide, by decide +kernel⟩
theorem n_Lw_feed : (parseMethodDescriptor m_Lw_feed.1.desc).map (fun d => d.parameters.length) = some 7 := by decide +kernel
theorem d_Lw_feed_0 : decode method_3_code 0 = .ok (.aload 6, 2) := by decide +kernel
theorem d_Lw_feed_2 : decode method_3_code 2 = .ok (.iconst 0, 1) := by decide +kernel
theorem d_Lw_feed_3 : decode method_3_code 3 = .ok (.aload_n 0, 1) := by decide +kernel
theorem d_Lw_feed_4 : decode method_3_code 4 = .ok (.iload_n 1, 1) := by decide +kernel
theorem d_Lw_feed_5 : decode method_3_code 5 = .ok (.iload_n 2, 1) := by decide +kernel
theorem d_Lw_feed_6 : decode method_3_code 6 = .ok (.iload_n 3, 1) := by decide +kernel
theorem d_Lw_feed_7 : decode method_3_code 7 = .ok (.iload 4, 2) := by decide +kernel
theorem d_Lw_feed_9 : decode method_3_code 9 = .ok (.iload 5, 2) := by decide +kernel
theorem d_Lw_feed_11 : decode method_3_code 11 = .ok (.invokevirtual 7, 3) := by decide +kernel
theorem d_Lw_feed_14 : decode method_3_code 14 = .ok (.i2l, 1) := by decide +kernel
theorem d_Lw_feed_15 : decode method_3_code 15 = .ok (.lastore, 1) := by decide +kernel
theorem d_Lw_feed_16 : decode method_3_code 16 = .ok (.goto 7, 3) := by decide +kernel
theorem d_Lw_feed_19 : decode method_3_code 19 = .ok (.astore 7, 2) := by decide +kernel
theorem d_Lw_feed_21 : decode method_3_code 21 = .ok (.iconst 1, 1) := by decide +kernel
theorem d_Lw_feed_22 : decode method_3_code 22 = .ok (.ireturn, 1) := by decide +kernel
theorem d_Lw_feed_23 : decode method_3_code 23 = .ok (.iconst 0, 1) := by decide +kernel
theorem d_Lw_feed_24 : decode method_3_code 24 = .ok (.ireturn, 1) := by decide +kernel
abbrev m_Lw_end : cx_M := (⟨"CircuitTextLaw", "end", "(LCircuitText;I)I"⟩, method_4_code, 3, (Option.some Jvm.ClassFile.FieldType.int), [(0, 5, 8, 19)], [false, false])
theorem w_Lw_end : cx_W m_Lw_end := ⟨Or.inr (in_6 (List.mem_of_getElem? (i := 14) rfl)), by decide +kernel, by decide, by decide, by decide +kernel⟩
theorem n_Lw_end : (parseMethodDescriptor m_Lw_end.1.desc).map (fun d => d.parameters.length) = some 2 := by decide +kernel
theorem d_Lw_end_0 : decode method_4_code 0 = .ok (.aload_n 0, 1) := by decide +kernel
theorem d_Lw_end_1 : decode method_4_code 1 = .ok (.iload_n 1, 1) := by decide +kernel
theorem d_Lw_end_2 : decode method_4_code 2 = .ok (.invokevirtual 15, 3) := by decide +kernel
theorem d_Lw_end_5 : decode method_4_code 5 = .ok (.goto 6, 3) := by decide +kernel
theorem d_Lw_end_8 : decode method_4_code 8 = .ok (.astore_n 2, 1) := by decide +kernel
theorem d_Lw_end_9 : decode method_4_code 9 = .ok (.iconst 1, 1) := by decide +kernel
theorem d_Lw_end_10 : decode method_4_code 10 = .ok (.ireturn, 1) := by decide +kernel
theorem d_Lw_end_11 : decode method_4_code 11 = .ok (.iconst 0, 1) := by decide +kernel
theorem d_Lw_end_12 : decode method_4_code 12 = .ok (.ireturn, 1) := by decide +kernel
abbrev m_Lw_module : cx_M := (⟨"CircuitTextLaw", "module", "(LCircuitText;II[J)I"⟩, method_5_code, 5, (Option.some Jvm.ClassFile.FieldType.int), [(0, 10, 13, 25), (0, 10, 17, 19)], [false, false, false, false])
theorem w_Lw_module : cx_W m_Lw_module := ⟨Or.inr (in_6 (List.mem_of_getElem? (i := 25) rfl)), by decide +kernel, by decide, by decide, by decide +kernel⟩
theorem n_Lw_module : (parseMethodDescriptor m_Lw_module.1.desc).map (fun d => d.parameters.length) = some 4 := by decide +kernel
theorem d_Lw_module_0 : decode method_5_code 0 = .ok (.aload_n 3, 1) := by decide +kernel
theorem d_Lw_module_1 : decode method_5_code 1 = .ok (.iconst 0, 1) := by decide +kernel
theorem d_Lw_module_2 : decode method_5_code 2 = .ok (.aload_n 0, 1) := by decide +kernel
theorem d_Lw_module_3 : decode method_5_code 3 = .ok (.iload_n 1, 1) := by decide +kernel
theorem d_Lw_module_4 : decode method_5_code 4 = .ok (.iload_n 2, 1) := by decide +kernel
theorem d_Lw_module_5 : decode method_5_code 5 = .ok (.invokevirtual 21, 3) := by decide +kernel
theorem d_Lw_module_8 : decode method_5_code 8 = .ok (.i2l, 1) := by decide +kernel
theorem d_Lw_module_9 : decode method_5_code 9 = .ok (.lastore, 1) := by decide +kernel
theorem d_Lw_module_10 : decode method_5_code 10 = .ok (.goto 11, 3) := by decide +kernel
theorem d_Lw_module_13 : decode method_5_code 13 = .ok (.astore 4, 2) := by decide +kernel
theorem d_Lw_module_15 : decode method_5_code 15 = .ok (.iconst 1, 1) := by decide +kernel
theorem d_Lw_module_16 : decode method_5_code 16 = .ok (.ireturn, 1) := by decide +kernel
theorem d_Lw_module_17 : decode method_5_code 17 = .ok (.astore 4, 2) := by decide +kernel
theorem d_Lw_module_19 : decode method_5_code 19 = .ok (.iconst 2, 1) := by decide +kernel
theorem d_Lw_module_20 : decode method_5_code 20 = .ok (.ireturn, 1) := by decide +kernel
theorem d_Lw_module_21 : decode method_5_code 21 = .ok (.iconst 0, 1) := by decide +kernel
theorem d_Lw_module_22 : decode method_5_code 22 = .ok (.ireturn, 1) := by decide +kernel
abbrev m_Lw_declared : cx_M := (⟨"CircuitTextLaw", "declared", "(LCircuitText;III[J)I"⟩, method_6_code, 6, (Option.some Jvm.ClassFile.FieldType.int), [(0, 12, 15, 25), (0, 12, 19, 19)], [false, false, false, false, false])
theorem w_Lw_declared : cx_W m_Lw_declared := ⟨Or.inr (in_6 (List.mem_of_getElem? (i := 56) rfl)), by decide +kernel, by decide, by decide, by decide +kernel⟩
theorem n_Lw_declared : (parseMethodDescriptor m_Lw_declared.1.desc).map (fun d => d.parameters.length) = some 5 := by decide +kernel
theorem d_Lw_declared_0 : decode method_6_code 0 = .ok (.aload 4, 2) := by decide +kernel
theorem d_Lw_declared_2 : decode method_6_code 2 = .ok (.iconst 0, 1) := by decide +kernel
theorem d_Lw_declared_3 : decode method_6_code 3 = .ok (.aload_n 0, 1) := by decide +kernel
theorem d_Lw_declared_4 : decode method_6_code 4 = .ok (.iload_n 1, 1) := by decide +kernel
theorem d_Lw_declared_5 : decode method_6_code 5 = .ok (.iload_n 2, 1) := by decide +kernel
theorem d_Lw_declared_6 : decode method_6_code 6 = .ok (.iload_n 3, 1) := by decide +kernel
theorem d_Lw_declared_7 : decode method_6_code 7 = .ok (.invokevirtual 27, 3) := by decide +kernel
theorem d_Lw_declared_10 : decode method_6_code 10 = .ok (.i2l, 1) := by decide +kernel
theorem d_Lw_declared_11 : decode method_6_code 11 = .ok (.lastore, 1) := by decide +kernel
theorem d_Lw_declared_12 : decode method_6_code 12 = .ok (.goto 11, 3) := by decide +kernel
theorem d_Lw_declared_15 : decode method_6_code 15 = .ok (.astore 5, 2) := by decide +kernel
theorem d_Lw_declared_17 : decode method_6_code 17 = .ok (.iconst 1, 1) := by decide +kernel
theorem d_Lw_declared_18 : decode method_6_code 18 = .ok (.ireturn, 1) := by decide +kernel
theorem d_Lw_declared_19 : decode method_6_code 19 = .ok (.astore 5, 2) := by decide +kernel
theorem d_Lw_declared_21 : decode method_6_code 21 = .ok (.iconst 2, 1) := by decide +kernel
theorem d_Lw_declared_22 : decode method_6_code 22 = .ok (.ireturn, 1) := by decide +kernel
theorem d_Lw_declared_23 : decode method_6_code 23 = .ok (.iconst 0, 1) := by decide +kernel
theorem d_Lw_declared_24 : decode method_6_code 24 = .ok (.ireturn, 1) := by decide +kernel
abbrev m_Lw_beginning : cx_M := (⟨"CircuitTextLaw", "beginning", "(LCircuitText;II[J)I"⟩, method_7_code, 5, (Option.some Jvm.ClassFile.FieldType.int), [(0, 9, 12, 25)], [false, false, false, false])
theorem w_Lw_beginning : cx_W m_Lw_beginning := ⟨Or.inr (in_6 (List.mem_of_getElem? (i := 70) rfl)), by decide +kernel, by decide, by decide, by decide +kernel⟩
theorem n_Lw_beginning : (parseMethodDescriptor m_Lw_beginning.1.desc).map (fun d => d.parameters.length) = some 4 := by decide +kernel
theorem d_Lw_beginning_0 : decode method_7_code 0 = .ok (.aload_n 3, 1) := by decide +kernel
theorem d_Lw_beginning_1 : decode method_7_code 1 = .ok (.iconst 0, 1) := by decide +kernel
theorem d_Lw_beginning_2 : decode method_7_code 2 = .ok (.aload_n 0, 1) := by decide +kernel
theorem d_Lw_beginning_3 : decode method_7_code 3 = .ok (.iload_n 1, 1) := by decide +kernel
theorem d_Lw_beginning_4 : decode method_7_code 4 = .ok (.iload_n 2, 1) := by decide +kernel
theorem d_Lw_beginning_5 : decode method_7_code 5 = .ok (.invokevirtual 31, 3) := by decide +kernel
theorem d_Lw_beginning_8 : decode method_7_code 8 = .ok (.lastore, 1) := by decide +kernel
theorem d_Lw_beginning_9 : decode method_7_code 9 = .ok (.goto 7, 3) := by decide +kernel
theorem d_Lw_beginning_12 : decode method_7_code 12 = .ok (.astore 4, 2) := by decide +kernel
theorem d_Lw_beginning_14 : decode method_7_code 14 = .ok (.iconst 1, 1) := by decide +kernel
theorem d_Lw_beginning_15 : decode method_7_code 15 = .ok (.ireturn, 1) := by decide +kernel
theorem d_Lw_beginning_16 : decode method_7_code 16 = .ok (.iconst 0, 1) := by decide +kernel
theorem d_Lw_beginning_17 : decode method_7_code 17 = .ok (.ireturn, 1) := by decide +kernel
abbrev m_Lw_find : cx_M := (⟨"CircuitTextLaw", "find", "(LCircuitText;I[J)I"⟩, method_8_code, 4, (Option.some Jvm.ClassFile.FieldType.int), [(0, 9, 12, 25)], [false, false, false])
theorem w_Lw_find : cx_W m_Lw_find := ⟨Or.inr (in_6 (List.mem_of_getElem? (i := 77) rfl)), by decide +kernel, by decide, by decide, by decide +kernel⟩
theorem n_Lw_find : (parseMethodDescriptor m_Lw_find.1.desc).map (fun d => d.parameters.length) = some 3 := by decide +kernel
theorem d_Lw_find_0 : decode method_8_code 0 = .ok (.aload_n 2, 1) := by decide +kernel
theorem d_Lw_find_1 : decode method_8_code 1 = .ok (.iconst 0, 1) := by decide +kernel
theorem d_Lw_find_2 : decode method_8_code 2 = .ok (.aload_n 0, 1) := by decide +kernel
theorem d_Lw_find_3 : decode method_8_code 3 = .ok (.iload_n 1, 1) := by decide +kernel
theorem d_Lw_find_4 : decode method_8_code 4 = .ok (.invokevirtual 35, 3) := by decide +kernel
theorem d_Lw_find_7 : decode method_8_code 7 = .ok (.i2l, 1) := by decide +kernel
theorem d_Lw_find_8 : decode method_8_code 8 = .ok (.lastore, 1) := by decide +kernel
theorem d_Lw_find_9 : decode method_8_code 9 = .ok (.goto 6, 3) := by decide +kernel
theorem d_Lw_find_12 : decode method_8_code 12 = .ok (.astore_n 3, 1) := by decide +kernel
theorem d_Lw_find_13 : decode method_8_code 13 = .ok (.iconst 1, 1) := by decide +kernel
theorem d_Lw_find_14 : decode method_8_code 14 = .ok (.ireturn, 1) := by decide +kernel
theorem d_Lw_find_15 : decode method_8_code 15 = .ok (.iconst 0, 1) := by decide +kernel
theorem d_Lw_find_16 : decode method_8_code 16 = .ok (.ireturn, 1) := by decide +kernel
theorem l_Lw_7 : cx_LV "CircuitTextLaw" 7 0 m_CT_feed := ⟨Or.inl (in_5 (List.mem_of_getElem? (i := 226) rfl)), w_CT_feed, (in_5 (List.mem_of_getElem? (i := 227) rfl)), _, rfl, (in_5 (List.mem_of_getElem? (i := 228) rfl))⟩
theorem l_Lw_15 : cx_LV "CircuitTextLaw" 15 0 m_CT_end := ⟨Or.inl (in_6 (List.mem_of_getElem? (i := 16) rfl)), w_CT_end, (in_6 (List.mem_of_getElem? (i := 17) rfl)), _, rfl, (in_6 (List.mem_of_getElem? (i := 18) rfl))⟩
theorem l_Lw_21 : cx_LV "CircuitTextLaw" 21 0 m_CT_module := ⟨Or.inl (in_6 (List.mem_of_getElem? (i := 27) rfl)), w_CT_module, (in_6 (List.mem_of_getElem? (i := 28) rfl)), _, rfl, (in_6 (List.mem_of_getElem? (i := 29) rfl))⟩
theorem l_Lw_27 : cx_LV "CircuitTextLaw" 27 0 m_CT_declared := ⟨Or.inl (in_6 (List.mem_of_getElem? (i := 57) rfl)), w_CT_declared, (in_6 (List.mem_of_getElem? (i := 58) rfl)), _, rfl, (in_6 (List.mem_of_getElem? (i := 59) rfl))⟩
theorem l_Lw_31 : cx_LV "CircuitTextLaw" 31 0 m_CT_beginning := ⟨Or.inl (in_6 (List.mem_of_getElem? (i := 71) rfl)), w_CT_beginning, (in_6 (List.mem_of_getElem? (i := 72) rfl)), _, rfl, (in_6 (List.mem_of_getElem? (i := 73) rfl))⟩
theorem l_Lw_35 : cx_LV "CircuitTextLaw" 35 0 m_CT_find := ⟨Or.inl (in_6 (List.mem_of_getElem? (i := 78) rfl)), w_CT_find, (in_6 (List.mem_of_getElem? (i := 79) rfl)), _, rfl, (in_6 (List.mem_of_getElem? (i := 80) rfl))⟩
set_option maxRecDepth 100000 in
theorem c_Lw_module {k : cx_K} {l : Launch} {G : cx_G} {x ta b n cap : Nat} {f : Nat → Int32} {ft : Int32} {A : tx_A} {us : List tx_U} (hR : ct_R k G x ta b n cap f ft A us) {ou : Nat} {g : Nat → Int64} (hou : G.1 ou = some (.inl (k.2.1 2, 1, .inr (.inl g)))) (hfl : l.flags = flags0) (r1 : G.2.1 + 1 ≤ 601024) (r2 : G.2.2 + 6 ≤ 7293034) {m w : Int32}  : cx_Sp k l m_Lw_module 8 [.ref x, .int m, .int w, .ref ou] G (fun r G' => (ct_ix m us.length = none ∧ r = .inl (some (.int 1)) ∧ lw_mk G G') ∨ (∃ j, ct_ix m us.length = some j ∧ ct_md (us.getD j tx_u0) w = none ∧ r = .inl (some (.int 2)) ∧ lw_mk G G') ∨ ∃ j v, ct_ix m us.length = some j ∧ ct_md (us.getD j tx_u0) w = some v ∧ r = .inl (some (.int 0)) ∧ G' = lw_pt k G ou g v.toInt64) := by
  intro E hE
  refine cx_aload_n (i := 3) hE d_Lw_module_0 rfl rfl ?_
  refine cx_iconst (v := 0) hE d_Lw_module_1 (by decide) ?_
  refine cx_aload_n (i := 0) hE d_Lw_module_2 rfl rfl ?_
  refine cx_iload_n (i := 1) hE d_Lw_module_3 rfl rfl ?_
  refine cx_iload_n (i := 2) hE d_Lw_module_4 rfl rfl ?_
  refine cx_invV hE d_Lw_module_5 l_Lw_21 hR.1 (c_CT_module hR (m := m) (w := w) hfl r1 r2) rfl (by omega) (Nat.le_of_ble_eq_true rfl) n_CT_module (by rfl) (fun v9 G9 q9 => ?_) (fun a9 G9 q9 => ?_)
  · unfold ct_pm at q9
    cases hix : ct_ix m us.length with
    | none =>
      rw [hix] at q9
      obtain ⟨a, fs, h0, -⟩ := q9
      cases h0
    | some j =>
      rw [hix] at q9
      cases hmd : ct_md (us.getD j tx_u0) w with
      | none =>
        simp only [hmd] at q9
        obtain ⟨a, fs, h0, -⟩ := q9
        cases h0
      | some v =>
        simp only [hmd] at q9
        obtain ⟨h0, rfl⟩ := q9
        cases h0
        show cx_V E 8 _ (.int v :: [.int 0, .ref ou]) _
        refine cx_i2l hE d_Lw_module_8 ?_
        refine cx_last 2 hE d_Lw_module_9 rfl hou (vp_in_nI (n := 0) (N := 1) (by omega) (by omega)) ?_
        refine cx_goto (tgt := 21) hE d_Lw_module_10 (by decide) ?_
        refine cx_iconst (v := 0) hE d_Lw_module_21 (by decide) ?_
        refine cx_iret hE d_Lw_module_22 rfl rfl ?_
        exact Or.inr (Or.inr ⟨j, v, hix, hmd, rfl, rfl⟩)
  · unfold ct_pm at q9
    cases hix : ct_ix m us.length with
    | none =>
      rw [hix] at q9
      obtain ⟨a, fs, h0, h1, rfl⟩ := q9
      cases h0
      refine cx_T.catch (pre := []) (rest := [(0, 10, 17, 19)]) hE (cx_ms rfl) rfl rfl (fun y hy => by cases hy) (by decide) (by decide) (in_6 (List.mem_of_getElem? (i := 26) rfl)) (in_6 (List.mem_of_getElem? (i := 39) rfl)) ?_
      refine cx_astore hE d_Lw_module_13 (by decide) ?_
      refine cx_iconst (v := 1) hE d_Lw_module_15 (by decide) ?_
      refine cx_iret hE d_Lw_module_16 rfl rfl ?_
      exact Or.inl ⟨hix, rfl, _, _, h1, rfl⟩
    | some j =>
      rw [hix] at q9
      cases hmd : ct_md (us.getD j tx_u0) w with
      | some v =>
        simp only [hmd] at q9
        cases q9.1
      | none =>
        simp only [hmd] at q9
        obtain ⟨a, fs, h0, h1, rfl⟩ := q9
        cases h0
        refine cx_T.catch (pre := [(0, 10, 13, 25)]) (rest := []) hE (cx_ms rfl) rfl rfl (fun y hy => by rcases List.mem_singleton.mp hy with rfl; exact ⟨by decide, rfl, (in_6 (List.mem_of_getElem? (i := 26) rfl))⟩) (by decide) (by decide) (in_6 (List.mem_of_getElem? (i := 15) rfl)) (in_2 (List.mem_of_getElem? (i := 203) rfl)) ?_
        refine cx_astore hE d_Lw_module_17 (by decide) ?_
        refine cx_iconst (v := 2) hE d_Lw_module_19 (by decide) ?_
        refine cx_iret hE d_Lw_module_20 rfl rfl ?_
        exact Or.inr (Or.inl ⟨j, hix, hmd, rfl, _, _, h1, rfl⟩)
set_option maxRecDepth 100000 in
theorem c_Lw_declared {k : cx_K} {l : Launch} {G : cx_G} {x ta b n cap : Nat} {f : Nat → Int32} {ft : Int32} {A : tx_A} {us : List tx_U} (hR : ct_R k G x ta b n cap f ft A us) {ou : Nat} {g : Nat → Int64} (hou : G.1 ou = some (.inl (k.2.1 2, 1, .inr (.inl g)))) (hfl : l.flags = flags0) (r1 : G.2.1 + 1 ≤ 601024) (r2 : G.2.2 + 6 ≤ 7293034) {m q w : Int32}  : cx_Sp k l m_Lw_declared 8 [.ref x, .int m, .int q, .int w, .ref ou] G (fun r G' => (ct_np us m q = none ∧ r = .inl (some (.int 1)) ∧ lw_mk G G') ∨ (∃ y, ct_np us m q = some y ∧ ct_dc (ct_nm us y) w = none ∧ r = .inl (some (.int 2)) ∧ lw_mk G G') ∨ ∃ y v, ct_np us m q = some y ∧ ct_dc (ct_nm us y) w = some v ∧ r = .inl (some (.int 0)) ∧ G' = lw_pt k G ou g v.toInt64) := by
  intro E hE
  refine cx_aload hE d_Lw_declared_0 rfl ?_
  refine cx_iconst (v := 0) hE d_Lw_declared_2 (by decide) ?_
  refine cx_aload_n (i := 0) hE d_Lw_declared_3 rfl rfl ?_
  refine cx_iload_n (i := 1) hE d_Lw_declared_4 rfl rfl ?_
  refine cx_iload_n (i := 2) hE d_Lw_declared_5 rfl rfl ?_
  refine cx_iload_n (i := 3) hE d_Lw_declared_6 rfl rfl ?_
  refine cx_invV hE d_Lw_declared_7 l_Lw_27 hR.1 (c_CT_declared hR (m := m) (q := q) (w := w) hfl r1 r2) rfl (by omega) (Nat.le_of_ble_eq_true rfl) n_CT_declared (by rfl) (fun v9 G9 q9 => ?_) (fun a9 G9 q9 => ?_)
  · unfold ct_pd at q9
    cases hix : ct_np us m q with
    | none =>
      rw [hix] at q9
      obtain ⟨a, fs, h0, -⟩ := q9
      cases h0
    | some j =>
      rw [hix] at q9
      cases hmd : ct_dc (ct_nm us j) w with
      | none =>
        simp only [hmd] at q9
        obtain ⟨a, fs, h0, -⟩ := q9
        cases h0
      | some v =>
        simp only [hmd] at q9
        obtain ⟨h0, rfl⟩ := q9
        cases h0
        show cx_V E 10 _ (.int v :: [.int 0, .ref ou]) _
        refine cx_i2l hE d_Lw_declared_10 ?_
        refine cx_last 2 hE d_Lw_declared_11 rfl hou (vp_in_nI (n := 0) (N := 1) (by omega) (by omega)) ?_
        refine cx_goto (tgt := 23) hE d_Lw_declared_12 (by decide) ?_
        refine cx_iconst (v := 0) hE d_Lw_declared_23 (by decide) ?_
        refine cx_iret hE d_Lw_declared_24 rfl rfl ?_
        exact Or.inr (Or.inr ⟨j, v, hix, hmd, rfl, rfl⟩)
  · unfold ct_pd at q9
    cases hix : ct_np us m q with
    | none =>
      rw [hix] at q9
      obtain ⟨a, fs, h0, h1, rfl⟩ := q9
      cases h0
      refine cx_T.catch (pre := []) (rest := [(0, 12, 19, 19)]) hE (cx_ms rfl) rfl rfl (fun y hy => by cases hy) (by decide) (by decide) (in_6 (List.mem_of_getElem? (i := 26) rfl)) (in_6 (List.mem_of_getElem? (i := 39) rfl)) ?_
      refine cx_astore hE d_Lw_declared_15 (by decide) ?_
      refine cx_iconst (v := 1) hE d_Lw_declared_17 (by decide) ?_
      refine cx_iret hE d_Lw_declared_18 rfl rfl ?_
      exact Or.inl ⟨hix, rfl, _, _, h1, rfl⟩
    | some j =>
      rw [hix] at q9
      cases hmd : ct_dc (ct_nm us j) w with
      | some v =>
        simp only [hmd] at q9
        cases q9.1
      | none =>
        simp only [hmd] at q9
        obtain ⟨a, fs, h0, h1, rfl⟩ := q9
        cases h0
        refine cx_T.catch (pre := [(0, 12, 15, 25)]) (rest := []) hE (cx_ms rfl) rfl rfl (fun y hy => by rcases List.mem_singleton.mp hy with rfl; exact ⟨by decide, rfl, (in_6 (List.mem_of_getElem? (i := 26) rfl))⟩) (by decide) (by decide) (in_6 (List.mem_of_getElem? (i := 15) rfl)) (in_2 (List.mem_of_getElem? (i := 203) rfl)) ?_
        refine cx_astore hE d_Lw_declared_19 (by decide) ?_
        refine cx_iconst (v := 2) hE d_Lw_declared_21 (by decide) ?_
        refine cx_iret hE d_Lw_declared_22 rfl rfl ?_
        exact Or.inr (Or.inl ⟨j, hix, hmd, rfl, _, _, h1, rfl⟩)
set_option maxRecDepth 100000 in
theorem c_Lw_beginning {k : cx_K} {l : Launch} {G : cx_G} {x ta b n cap : Nat} {f : Nat → Int32} {ft : Int32} {A : tx_A} {us : List tx_U} (hR : ct_R k G x ta b n cap f ft A us) {ou : Nat} {g : Nat → Int64} (hou : G.1 ou = some (.inl (k.2.1 2, 1, .inr (.inl g)))) (hfl : l.flags = flags0) (r1 : G.2.1 + 1 ≤ 601024) (r2 : G.2.2 + 6 ≤ 7293034) {m q : Int32}  : cx_Sp k l m_Lw_beginning 8 [.ref x, .int m, .int q, .ref ou] G (fun r G' => (ct_np us m q = none ∧ r = .inl (some (.int 1)) ∧ lw_mk G G') ∨ ∃ y, ct_np us m q = some y ∧ r = .inl (some (.int 0)) ∧ G' = lw_pt k G ou g (ct_nm us y).2.2.2.2.1) := by
  intro E hE
  refine cx_aload_n (i := 3) hE d_Lw_beginning_0 rfl rfl ?_
  refine cx_iconst (v := 0) hE d_Lw_beginning_1 (by decide) ?_
  refine cx_aload_n (i := 0) hE d_Lw_beginning_2 rfl rfl ?_
  refine cx_iload_n (i := 1) hE d_Lw_beginning_3 rfl rfl ?_
  refine cx_iload_n (i := 2) hE d_Lw_beginning_4 rfl rfl ?_
  refine cx_invV hE d_Lw_beginning_5 l_Lw_31 hR.1 (c_CT_beginning hR (m := m) (q := q) hfl r1 r2) rfl (by omega) (Nat.le_of_ble_eq_true rfl) n_CT_beginning (by rfl) (fun v9 G9 q9 => ?_) (fun a9 G9 q9 => ?_)
  · unfold ct_pb at q9
    cases hix : ct_np us m q with
    | none =>
      rw [hix] at q9
      obtain ⟨a, fs, h0, -⟩ := q9
      cases h0
    | some j =>
      rw [hix] at q9
      obtain ⟨h0, rfl⟩ := q9
      cases h0
      show cx_V E 8 _ (.long (ct_nm us j).2.2.2.2.1 :: [.int 0, .ref ou]) _
      refine cx_last 2 hE d_Lw_beginning_8 rfl hou (vp_in_nI (n := 0) (N := 1) (by omega) (by omega)) ?_
      refine cx_goto (tgt := 16) hE d_Lw_beginning_9 (by decide) ?_
      refine cx_iconst (v := 0) hE d_Lw_beginning_16 (by decide) ?_
      refine cx_iret hE d_Lw_beginning_17 rfl rfl ?_
      exact Or.inr ⟨j, hix, rfl, rfl⟩
  · unfold ct_pb at q9
    cases hix : ct_np us m q with
    | some j =>
      rw [hix] at q9
      cases q9.1
    | none =>
      rw [hix] at q9
      obtain ⟨a, fs, h0, h1, rfl⟩ := q9
      cases h0
      refine cx_T.catch (pre := []) (rest := []) hE (cx_ms rfl) rfl rfl (fun y hy => by cases hy) (by decide) (by decide) (in_6 (List.mem_of_getElem? (i := 26) rfl)) (in_6 (List.mem_of_getElem? (i := 39) rfl)) ?_
      refine cx_astore hE d_Lw_beginning_12 (by decide) ?_
      refine cx_iconst (v := 1) hE d_Lw_beginning_14 (by decide) ?_
      refine cx_iret hE d_Lw_beginning_15 rfl rfl ?_
      exact Or.inl ⟨hix, rfl, _, _, h1, rfl⟩
set_option maxRecDepth 100000 in
theorem c_Lw_end {k : cx_K} {l : Launch} {G : cx_G} {x ta b n cap : Nat} {f : Nat → Int32} {ft : Int32} {A : tx_A} {us : List tx_U} (hR : ct_R k G x ta b n cap f ft A us) (hfl : l.flags = flags0) (r1 : G.2.1 + 1 ≤ 601024) (r2 : G.2.2 + 6 ≤ 7293034) {v : Int32}  : cx_Sp k l m_Lw_end 8 [.ref x, .int v] G (fun r G' => (¬ v < 0 ∧ v ≤ nI n ∧ r = .inl (some (.int 0)) ∧ ct_R k G' x ta b v.toNatClampNeg cap f ft A us ∧ G'.2 = G.2 ∧ ∀ c e, c ≠ ta → G.1 c = some e → G'.1 c = some e) ∨ ((v < 0 ∨ ¬ v ≤ nI n) ∧ r = .inl (some (.int 1)) ∧ lw_mk G G')) := by
  intro E hE
  refine cx_aload_n (i := 0) hE d_Lw_end_0 rfl rfl ?_
  refine cx_iload_n (i := 1) hE d_Lw_end_1 rfl rfl ?_
  refine cx_invV hE d_Lw_end_2 l_Lw_15 hR.1 (c_CT_end hR (v := v) hfl r1 r2) rfl (by omega) (Nat.le_of_ble_eq_true rfl) n_CT_end (by rfl) (fun v9 G9 q9 => ?_) (fun a9 G9 q9 => ?_)
  · rcases q9 with ⟨h1, h2, h3, h4⟩ | ⟨h1, a, fs, h0, -⟩
    · cases h3
      show cx_V E 5 _ [] G9
      refine cx_goto (tgt := 11) hE d_Lw_end_5 (by decide) ?_
      refine cx_iconst (v := 0) hE d_Lw_end_11 (by decide) ?_
      refine cx_iret hE d_Lw_end_12 rfl rfl ?_
      exact Or.inl ⟨h1, h2, rfl, h4⟩
    · cases h0
  · rcases q9 with ⟨h1, h2, h3, h4⟩ | ⟨h1, a, fs, h0, h2, rfl⟩
    · cases h3
    · cases h0
      refine cx_T.catch (pre := []) (rest := []) hE (cx_ms rfl) rfl rfl (fun y hy => by cases hy) (by decide) (by decide) (in_6 (List.mem_of_getElem? (i := 15) rfl)) (in_2 (List.mem_of_getElem? (i := 203) rfl)) ?_
      refine cx_astore_n (i := 2) hE d_Lw_end_8 rfl (by decide) ?_
      refine cx_iconst (v := 1) hE d_Lw_end_9 (by decide) ?_
      refine cx_iret hE d_Lw_end_10 rfl rfl ?_
      exact Or.inr ⟨h1, rfl, _, _, h2, rfl⟩
set_option maxRecDepth 100000 in
theorem c_Lw_find {k : cx_K} {l : Launch} {G : cx_G} {x ta b n cap : Nat} {f : Nat → Int32} {ft : Int32} {A : tx_A} {us : List tx_U} (hR : ct_R k G x ta b n cap f ft A us) {ou : Nat} {g : Nat → Int64} (hou : G.1 ou = some (.inl (k.2.1 2, 1, .inr (.inl g)))) (hfl : l.flags = flags0) (r1 : G.2.1 + 1 ≤ 601024) (r2 : G.2.2 + 6 ≤ 7293034) (hota : ou ≠ ta) (hTl : ∀ T a, A.wf T = some a → T.length ≤ 1000000) {m : Int32}  : cx_Sp k l m_Lw_find 8 [.ref x, .int m, .ref ou] G (fun r G' => (ct_ix m us.length = none ∧ r = .inl (some (.int 1)) ∧ lw_mk G G') ∨ ∃ j v Gc, ct_ix m us.length = some j ∧ ct_fw n f (us.getD j tx_u0) v ∧ ct_R k Gc x ta b 0 cap f ft A us ∧ Gc.2 = G.2 ∧ (∀ c e, c ≠ ta → G.1 c = some e → Gc.1 c = some e) ∧ r = .inl (some (.int 0)) ∧ G' = lw_pt k Gc ou g v.toInt64) := by
  intro E hE
  refine cx_aload_n (i := 2) hE d_Lw_find_0 rfl rfl ?_
  refine cx_iconst (v := 0) hE d_Lw_find_1 (by decide) ?_
  refine cx_aload_n (i := 0) hE d_Lw_find_2 rfl rfl ?_
  refine cx_iload_n (i := 1) hE d_Lw_find_3 rfl rfl ?_
  refine cx_invV hE d_Lw_find_4 l_Lw_35 hR.1 (c_CT_find hR (m := m) hfl r1 r2 hTl) rfl (by omega) (Nat.le_of_ble_eq_true rfl) n_CT_find (by rfl) (fun v9 G9 q9 => ?_) (fun a9 G9 q9 => ?_)
  · unfold ct_pq at q9
    cases hix : ct_ix m us.length with
    | none =>
      rw [hix] at q9
      obtain ⟨a, fs, h0, -⟩ := q9
      cases h0
    | some j =>
      rw [hix] at q9
      obtain ⟨v, h0, h1, h2, h3, h4⟩ := q9
      cases h0
      have hou9 := h4 _ _ hota hou
      show cx_V E 7 _ (.int v :: [.int 0, .ref ou]) G9
      refine cx_i2l hE d_Lw_find_7 ?_
      refine cx_last 2 hE d_Lw_find_8 rfl hou9 (vp_in_nI (n := 0) (N := 1) (by omega) (by omega)) ?_
      refine cx_goto (tgt := 15) hE d_Lw_find_9 (by decide) ?_
      refine cx_iconst (v := 0) hE d_Lw_find_15 (by decide) ?_
      refine cx_iret hE d_Lw_find_16 rfl rfl ?_
      exact Or.inr ⟨j, v, G9, hix, h1, h2, h3, h4, rfl, rfl⟩
  · unfold ct_pq at q9
    cases hix : ct_ix m us.length with
    | some j =>
      rw [hix] at q9
      obtain ⟨v, h0, -⟩ := q9
      cases h0
    | none =>
      rw [hix] at q9
      obtain ⟨a, fs, h0, h1, rfl⟩ := q9
      cases h0
      refine cx_T.catch (pre := []) (rest := []) hE (cx_ms rfl) rfl rfl (fun y hy => by cases hy) (by decide) (by decide) (in_6 (List.mem_of_getElem? (i := 26) rfl)) (in_6 (List.mem_of_getElem? (i := 39) rfl)) ?_
      refine cx_astore_n (i := 3) hE d_Lw_find_12 rfl (by decide) ?_
      refine cx_iconst (v := 1) hE d_Lw_find_13 (by decide) ?_
      refine cx_iret hE d_Lw_find_14 rfl rfl ?_
      exact Or.inl ⟨hix, rfl, _, _, h1, rfl⟩
set_option maxRecDepth 100000 in
theorem c_Lw_feed {k : cx_K} {l : Launch} {G : cx_G} {x ta b n cap : Nat} {f : Nat → Int32} {ft : Int32} {A : tx_A} {us : List tx_U} (hR : ct_R k G x ta b n cap f ft A us) {ou : Nat} {g : Nat → Int64} (hou : G.1 ou = some (.inl (k.2.1 2, 1, .inr (.inl g)))) (hota : ou ≠ ta) (hob : ou ≠ b) {av : Nat → Int32} (hn : n + 20 ≤ 65536) (hcp : cap ≤ 150000) (r1 : G.2.1 + 6 ≤ 601024) (r2 : G.2.2 + 1500000 ≤ 7293034)  : cx_Sp k l m_Lw_feed 8 [.ref x, .int (av 0), .int (av 1), .int (av 2), .int (av 3), .int (av 4), .ref ou] G (fun r G' => ∃ Gc, ct_pf k G x ta b n cap f ft A us av 5 Gc ∧ r = .inl (some (.int 0)) ∧ G' = lw_pt k Gc ou g (nI (n + 20)).toInt64) := by
  intro E hE
  refine cx_aload hE d_Lw_feed_0 rfl ?_
  refine cx_iconst (v := 0) hE d_Lw_feed_2 (by decide) ?_
  refine cx_aload_n (i := 0) hE d_Lw_feed_3 rfl rfl ?_
  refine cx_iload_n (i := 1) hE d_Lw_feed_4 rfl rfl ?_
  refine cx_iload_n (i := 2) hE d_Lw_feed_5 rfl rfl ?_
  refine cx_iload_n (i := 3) hE d_Lw_feed_6 rfl rfl ?_
  refine cx_iload hE d_Lw_feed_7 rfl ?_
  refine cx_iload hE d_Lw_feed_9 rfl ?_
  refine cx_invV hE d_Lw_feed_11 l_Lw_7 hR.1 (c_CT_feed hR (av := av) hn hcp r1 r2) rfl (by omega) (Nat.le_of_ble_eq_true rfl) n_CT_feed (by rfl) (fun v9 G9 q9 => ?_) (fun a9 G9 q9 => ?_)
  · obtain ⟨h0, h1⟩ := q9
    cases h0
    have hou9 : G9.1 ou = some (.inl (k.2.1 2, 1, .inr (.inl g))) := by
      obtain ⟨b', cap', f', -, -, -, -, h4, -⟩ := h1
      exact h4 _ _ hota hob hou
    show cx_V E 14 _ (.int (nI (n + 20)) :: [.int 0, .ref ou]) G9
    refine cx_i2l hE d_Lw_feed_14 ?_
    refine cx_last 2 hE d_Lw_feed_15 rfl hou9 (vp_in_nI (n := 0) (N := 1) (by omega) (by omega)) ?_
    refine cx_goto (tgt := 23) hE d_Lw_feed_16 (by decide) ?_
    refine cx_iconst (v := 0) hE d_Lw_feed_23 (by decide) ?_
    refine cx_iret hE d_Lw_feed_24 rfl rfl ?_
    exact ⟨G9, h1, rfl, rfl⟩
  · cases q9.1

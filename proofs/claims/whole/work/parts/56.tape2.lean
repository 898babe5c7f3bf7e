/-! THE FACE: methods of the tape, what a new Meaning is. -/
abbrev m_Ta_init : cx_M := (⟨"CircuitText$Tape", "<init>", "()V"⟩, prog_7_method_1_code, 1, (Option.none : Option Jvm.ClassFile.FieldType), [], [false])
theorem w_Ta_init : cx_W m_Ta_init := ⟨Or.inl ⟨(in_1 (List.mem_of_getElem? (i := 49) rfl)), rfl⟩, by decide +kernel, by decide, by decide, by decide +kernel⟩
theorem n_Ta_init : (parseMethodDescriptor m_Ta_init.1.desc).map (fun d => d.parameters.length) = some 0 := by decide +kernel
theorem d_Ta_init_0 : decode prog_7_method_1_code 0 = .ok (.aload_n 0, 1) := by decide +kernel
theorem d_Ta_init_1 : decode prog_7_method_1_code 1 = .ok (.invokespecial 3, 3) := by decide +kernel
theorem d_Ta_init_4 : decode prog_7_method_1_code 4 = .ok (.aload_n 0, 1) := by decide +kernel
theorem d_Ta_init_5 : decode prog_7_method_1_code 5 = .ok (.sipush 512, 3) := by decide +kernel
theorem d_Ta_init_8 : decode prog_7_method_1_code 8 = .ok (.newarray .byte, 2) := by decide +kernel
theorem d_Ta_init_10 : decode prog_7_method_1_code 10 = .ok (.putfield 9, 3) := by decide +kernel
theorem d_Ta_init_13 : decode prog_7_method_1_code 13 = .ok (.aload_n 0, 1) := by decide +kernel
theorem d_Ta_init_14 : decode prog_7_method_1_code 14 = .ok (.iconst 0, 1) := by decide +kernel
theorem d_Ta_init_15 : decode prog_7_method_1_code 15 = .ok (.putfield 15, 3) := by decide +kernel
theorem d_Ta_init_18 : decode prog_7_method_1_code 18 = .ok (.return_, 1) := by decide +kernel
abbrev m_Ta_append : cx_M := (⟨"CircuitText$Tape", "append", "(I)V"⟩, prog_7_method_2_code, 3, (Option.none : Option Jvm.ClassFile.FieldType), [], [false, false])
theorem w_Ta_append : cx_W m_Ta_append := ⟨Or.inl ⟨(in_6 (List.mem_of_getElem? (i := 10) rfl)), rfl⟩, by decide +kernel, by decide, by decide, by decide +kernel⟩
theorem n_Ta_append : (parseMethodDescriptor m_Ta_append.1.desc).map (fun d => d.parameters.length) = some 1 := by decide +kernel
theorem d_Ta_append_0 : decode prog_7_method_2_code 0 = .ok (.aload_n 0, 1) := by decide +kernel
theorem d_Ta_append_1 : decode prog_7_method_2_code 1 = .ok (.getfield 15, 3) := by decide +kernel
theorem d_Ta_append_4 : decode prog_7_method_2_code 4 = .ok (.iconst 4, 1) := by decide +kernel
theorem d_Ta_append_5 : decode prog_7_method_2_code 5 = .ok (.iadd, 1) := by decide +kernel
theorem d_Ta_append_6 : decode prog_7_method_2_code 6 = .ok (.aload_n 0, 1) := by decide +kernel
theorem d_Ta_append_7 : decode prog_7_method_2_code 7 = .ok (.getfield 9, 3) := by decide +kernel
theorem d_Ta_append_10 : decode prog_7_method_2_code 10 = .ok (.arraylength, 1) := by decide +kernel
theorem d_Ta_append_11 : decode prog_7_method_2_code 11 = .ok (.if_icmp .le 21, 3) := by decide +kernel
theorem d_Ta_append_14 : decode prog_7_method_2_code 14 = .ok (.aload_n 0, 1) := by decide +kernel
theorem d_Ta_append_15 : decode prog_7_method_2_code 15 = .ok (.aload_n 0, 1) := by decide +kernel
theorem d_Ta_append_16 : decode prog_7_method_2_code 16 = .ok (.getfield 9, 3) := by decide +kernel
theorem d_Ta_append_19 : decode prog_7_method_2_code 19 = .ok (.iconst 2, 1) := by decide +kernel
theorem d_Ta_append_20 : decode prog_7_method_2_code 20 = .ok (.aload_n 0, 1) := by decide +kernel
theorem d_Ta_append_21 : decode prog_7_method_2_code 21 = .ok (.getfield 9, 3) := by decide +kernel
theorem d_Ta_append_24 : decode prog_7_method_2_code 24 = .ok (.arraylength, 1) := by decide +kernel
theorem d_Ta_append_25 : decode prog_7_method_2_code 25 = .ok (.imul, 1) := by decide +kernel
theorem d_Ta_append_26 : decode prog_7_method_2_code 26 = .ok (.invokestatic 19, 3) := by decide +kernel
theorem d_Ta_append_29 : decode prog_7_method_2_code 29 = .ok (.putfield 9, 3) := by decide +kernel
theorem d_Ta_append_32 : decode prog_7_method_2_code 32 = .ok (.bipush 24, 2) := by decide +kernel
theorem d_Ta_append_34 : decode prog_7_method_2_code 34 = .ok (.istore_n 2, 1) := by decide +kernel
theorem d_Ta_append_35 : decode prog_7_method_2_code 35 = .ok (.iload_n 2, 1) := by decide +kernel
theorem d_Ta_append_36 : decode prog_7_method_2_code 36 = .ok (.ifCond .lt 44, 3) := by decide +kernel
theorem d_Ta_append_39 : decode prog_7_method_2_code 39 = .ok (.aload_n 0, 1) := by decide +kernel
theorem d_Ta_append_40 : decode prog_7_method_2_code 40 = .ok (.getfield 15, 3) := by decide +kernel
theorem d_Ta_append_43 : decode prog_7_method_2_code 43 = .ok (.aload_n 0, 1) := by decide +kernel
theorem d_Ta_append_44 : decode prog_7_method_2_code 44 = .ok (.getfield 9, 3) := by decide +kernel
theorem d_Ta_append_47 : decode prog_7_method_2_code 47 = .ok (.arraylength, 1) := by decide +kernel
theorem d_Ta_append_48 : decode prog_7_method_2_code 48 = .ok (.if_icmp .ge 32, 3) := by decide +kernel
theorem d_Ta_append_51 : decode prog_7_method_2_code 51 = .ok (.aload_n 0, 1) := by decide +kernel
theorem d_Ta_append_52 : decode prog_7_method_2_code 52 = .ok (.getfield 9, 3) := by decide +kernel
theorem d_Ta_append_55 : decode prog_7_method_2_code 55 = .ok (.aload_n 0, 1) := by decide +kernel
theorem d_Ta_append_56 : decode prog_7_method_2_code 56 = .ok (.getfield 15, 3) := by decide +kernel
theorem d_Ta_append_59 : decode prog_7_method_2_code 59 = .ok (.iload_n 1, 1) := by decide +kernel
theorem d_Ta_append_60 : decode prog_7_method_2_code 60 = .ok (.iload_n 2, 1) := by decide +kernel
theorem d_Ta_append_61 : decode prog_7_method_2_code 61 = .ok (.ishr, 1) := by decide +kernel
theorem d_Ta_append_62 : decode prog_7_method_2_code 62 = .ok (.i2b, 1) := by decide +kernel
theorem d_Ta_append_63 : decode prog_7_method_2_code 63 = .ok (.bastore, 1) := by decide +kernel
theorem d_Ta_append_64 : decode prog_7_method_2_code 64 = .ok (.aload_n 0, 1) := by decide +kernel
theorem d_Ta_append_65 : decode prog_7_method_2_code 65 = .ok (.dup, 1) := by decide +kernel
theorem d_Ta_append_66 : decode prog_7_method_2_code 66 = .ok (.getfield 15, 3) := by decide +kernel
theorem d_Ta_append_69 : decode prog_7_method_2_code 69 = .ok (.iconst 1, 1) := by decide +kernel
theorem d_Ta_append_70 : decode prog_7_method_2_code 70 = .ok (.iadd, 1) := by decide +kernel
theorem d_Ta_append_71 : decode prog_7_method_2_code 71 = .ok (.putfield 15, 3) := by decide +kernel
theorem d_Ta_append_74 : decode prog_7_method_2_code 74 = .ok (.iinc 2 (-8), 3) := by decide +kernel
theorem d_Ta_append_77 : decode prog_7_method_2_code 77 = .ok (.goto (-42), 3) := by decide +kernel
theorem d_Ta_append_80 : decode prog_7_method_2_code 80 = .ok (.return_, 1) := by decide +kernel
abbrev m_Ta_spells : cx_M := (⟨"CircuitText$Tape", "spells", "([B)Z"⟩, prog_7_method_5_code, 4, (Option.some Jvm.ClassFile.FieldType.boolean), [], [false, false])
theorem w_Ta_spells : cx_W m_Ta_spells := ⟨Or.inl ⟨(in_6 (List.mem_of_getElem? (i := 85) rfl)), rfl⟩, by decide +kernel, by decide, by decide, by decide +kernel⟩
theorem n_Ta_spells : (parseMethodDescriptor m_Ta_spells.1.desc).map (fun d => d.parameters.length) = some 1 := by decide +kernel
theorem d_Ta_spells_0 : decode prog_7_method_5_code 0 = .ok (.aload_n 1, 1) := by decide +kernel
theorem d_Ta_spells_1 : decode prog_7_method_5_code 1 = .ok (.arraylength, 1) := by decide +kernel
theorem d_Ta_spells_2 : decode prog_7_method_5_code 2 = .ok (.aload_n 0, 1) := by decide +kernel
theorem d_Ta_spells_3 : decode prog_7_method_5_code 3 = .ok (.getfield 15, 3) := by decide +kernel
theorem d_Ta_spells_6 : decode prog_7_method_5_code 6 = .ok (.if_icmp .ne 7, 3) := by decide +kernel
theorem d_Ta_spells_9 : decode prog_7_method_5_code 9 = .ok (.iconst 1, 1) := by decide +kernel
theorem d_Ta_spells_10 : decode prog_7_method_5_code 10 = .ok (.goto 4, 3) := by decide +kernel
theorem d_Ta_spells_13 : decode prog_7_method_5_code 13 = .ok (.iconst 0, 1) := by decide +kernel
theorem d_Ta_spells_14 : decode prog_7_method_5_code 14 = .ok (.istore_n 2, 1) := by decide +kernel
theorem d_Ta_spells_15 : decode prog_7_method_5_code 15 = .ok (.iconst 0, 1) := by decide +kernel
theorem d_Ta_spells_16 : decode prog_7_method_5_code 16 = .ok (.istore_n 3, 1) := by decide +kernel
theorem d_Ta_spells_17 : decode prog_7_method_5_code 17 = .ok (.iload_n 3, 1) := by decide +kernel
theorem d_Ta_spells_18 : decode prog_7_method_5_code 18 = .ok (.aload_n 1, 1) := by decide +kernel
theorem d_Ta_spells_19 : decode prog_7_method_5_code 19 = .ok (.arraylength, 1) := by decide +kernel
theorem d_Ta_spells_20 : decode prog_7_method_5_code 20 = .ok (.if_icmp .ge 34, 3) := by decide +kernel
theorem d_Ta_spells_23 : decode prog_7_method_5_code 23 = .ok (.iload_n 2, 1) := by decide +kernel
theorem d_Ta_spells_24 : decode prog_7_method_5_code 24 = .ok (.ifCond .eq 30, 3) := by decide +kernel
theorem d_Ta_spells_27 : decode prog_7_method_5_code 27 = .ok (.aload_n 1, 1) := by decide +kernel
theorem d_Ta_spells_28 : decode prog_7_method_5_code 28 = .ok (.iload_n 3, 1) := by decide +kernel
theorem d_Ta_spells_29 : decode prog_7_method_5_code 29 = .ok (.baload, 1) := by decide +kernel
theorem d_Ta_spells_30 : decode prog_7_method_5_code 30 = .ok (.sipush 255, 3) := by decide +kernel
theorem d_Ta_spells_33 : decode prog_7_method_5_code 33 = .ok (.iand, 1) := by decide +kernel
theorem d_Ta_spells_34 : decode prog_7_method_5_code 34 = .ok (.aload_n 0, 1) := by decide +kernel
theorem d_Ta_spells_35 : decode prog_7_method_5_code 35 = .ok (.iload_n 3, 1) := by decide +kernel
theorem d_Ta_spells_36 : decode prog_7_method_5_code 36 = .ok (.invokevirtual 29, 3) := by decide +kernel
theorem d_Ta_spells_39 : decode prog_7_method_5_code 39 = .ok (.if_icmp .ne 7, 3) := by decide +kernel
theorem d_Ta_spells_42 : decode prog_7_method_5_code 42 = .ok (.iconst 1, 1) := by decide +kernel
theorem d_Ta_spells_43 : decode prog_7_method_5_code 43 = .ok (.goto 4, 3) := by decide +kernel
theorem d_Ta_spells_46 : decode prog_7_method_5_code 46 = .ok (.iconst 0, 1) := by decide +kernel
theorem d_Ta_spells_47 : decode prog_7_method_5_code 47 = .ok (.istore_n 2, 1) := by decide +kernel
theorem d_Ta_spells_48 : decode prog_7_method_5_code 48 = .ok (.iinc 3 1, 3) := by decide +kernel
theorem d_Ta_spells_51 : decode prog_7_method_5_code 51 = .ok (.goto (-34), 3) := by decide +kernel
theorem d_Ta_spells_54 : decode prog_7_method_5_code 54 = .ok (.iload_n 2, 1) := by decide +kernel
theorem d_Ta_spells_55 : decode prog_7_method_5_code 55 = .ok (.ireturn, 1) := by decide +kernel
theorem l_Ta_19 : cx_LS "CircuitText$Tape" 19 m_Ar_copyOf1 := ⟨Or.inl (in_6 (List.mem_of_getElem? (i := 11) rfl)), w_Ar_copyOf1, (in_3 (List.mem_of_getElem? (i := 63) rfl)), (in_1 (List.mem_of_getElem? (i := 11) rfl))⟩
theorem l_Ta_29 : cx_LV "CircuitText$Tape" 29 6 m_Ta_byteAt := ⟨Or.inl (in_6 (List.mem_of_getElem? (i := 86) rfl)), w_Ta_byteAt, (in_2 (List.mem_of_getElem? (i := 131) rfl)), _, rfl, (in_2 (List.mem_of_getElem? (i := 132) rfl))⟩
set_option maxRecDepth 100000 in
theorem c_Me_init {k : cx_K} {l : Launch} {G : cx_G} {me ve : Nat} (hG : G.1 me = some (.inr (3, [.null, .null, .null]))) (r1 : G.2.1 + 4 ≤ 601024) (r2 : G.2.2 + 23 ≤ 7293034) : cx_Sp k l m_Me_init 5 [.ref me, .ref ve] G (fun r G1 => r = .inl none ∧ ∃ ul x, G.1 ul = none ∧ G1.1 me = some (.inr (3, [.ref ve, .ref ul, .ref x])) ∧ tx_al k G1 ul (k.2.2.2.2.2.1 0) [] 0 ∧ (∀ c e, c ≠ me → G.1 c = some e → G1.1 c = some e) ∧ G1.2.1 = G.2.1 + 4 ∧ G1.2.2 = G.2.2 + 23) := by
  intro E hE
  refine cx_aload_n (i := 0) hE d_Me_init_0 rfl rfl ?_
  refine cx_objI hE d_Me_init_1 (in_1 (List.mem_of_getElem? (i := 124) rfl)) (in_1 (List.mem_of_getElem? (i := 43) rfl)) (in_1 (List.mem_of_getElem? (i := 44) rfl)) (by omega) (Nat.le_of_ble_eq_true rfl) ?_
  refine cx_aload_n (i := 0) hE d_Me_init_4 rfl rfl ?_
  refine cx_newh 3 rfl hE d_Me_init_5 z_Me_9 (by omega) (by omega) (fun a_5 G_5 n_5 b_5 g_5 h_5 => ?_)
  have hm_5 := cx_mn g_5 n_5 hG
  refine cx_dup hE d_Me_init_8 ?_
  refine cx_invI0 hE d_Me_init_9 l_Me_11 (c_AL_init h_5) rfl (by omega) (Nat.le_of_ble_eq_true rfl) n_AL_init (by first | rfl | (simp only [List.map_cons, List.map_nil, cx_rfc]; rfl)) ?_
  refine cx_gen (fun G_9 g_9 => ?_)
  have h_9 := cx_ps g_9
  have hm_9 := cx_pn g_9 hm_5 (cx_neO h_5 hm_5 (by decide))
  refine cx_putFg hE d_Me_init_12 ff_Me_12 rfl (by assumption) (Nat.le_of_ble_eq_true rfl) (by first | rfl | exact cx_nr _ _) (by first | rfl | exact cx_fr _ _) (fun G_12 g_12 h_12 => ?_)
  have hl_12 := cx_pn g_12 h_9 (cx_neO hm_9 h_9 (by decide))
  have hc12 : G_12.2.1 = G.2.1 + 1 ∧ G_12.2.2 = G.2.2 + 3 := by rw [cx_pc g_12, cx_pc g_9]; exact cx_mc g_5
  refine cx_aload_n (i := 0) hE d_Me_init_15 rfl rfl ?_
  refine cx_newh 10 rfl hE d_Me_init_16 z_Me_18 (by omega) (by omega) (fun a_16 G_16 n_16 b_16 g_16 h_16 => ?_)
  have hc16 := cx_mc g_16
  have hm_16 := cx_mn g_16 n_16 h_12
  have hl_16 := cx_mn g_16 n_16 hl_12
  refine cx_dup hE d_Me_init_19 ?_
  refine cx_newh 7 rfl hE d_Me_init_20 z_Me_20 (by omega) (by omega) (fun a_20 G_20 n_20 b_20 g_20 h_20 => ?_)
  have hm_20 := cx_mn g_20 n_20 hm_16
  have hl_20 := cx_mn g_20 n_20 hl_16
  have hu_20 := cx_mn g_20 n_20 h_16
  refine cx_dup hE d_Me_init_23 ?_
  refine cx_bipush (v := 19) hE d_Me_init_24 (by decide) ?_
  refine cx_iconst (v := 0) hE d_Me_init_26 (by decide) ?_
  refine cx_iconst (v := 0) hE d_Me_init_27 (by decide) ?_
  refine cx_invI0 hE d_Me_init_28 l_Me_22 (c_To_init h_20) rfl (by omega) (Nat.le_of_ble_eq_true rfl) n_To_init (by first | rfl | (simp only [List.map_cons, List.map_nil, cx_rfc]; rfl)) ?_
  refine cx_gen (fun G_28 g_28 => ?_)
  have h_28 := cx_ps g_28
  have hm_28 := cx_pn g_28 hm_20 (cx_neO h_20 hm_20 (by decide))
  have hl_28 := cx_pn g_28 hl_20 (cx_neO h_20 hl_20 (by decide))
  have hu_28 := cx_pn g_28 hu_20 (cx_neO h_20 hu_20 (by decide))
  have hcc : G_28.2.1 = G.2.1 + 3 ∧ G_28.2.2 = G.2.2 + 20 := by
    rw [cx_pc g_28]
    have c1 := cx_mc g_20
    have c2 := cx_mc g_16
    have c3 := cx_mc g_5
    rw [cx_pc g_12, cx_pc g_9] at c2
    omega
  refine cx_iconst (v := 0) hE d_Me_init_31 (by decide) ?_
  refine cx_invI hE d_Me_init_32 l_Me_25 (c_Un_init (t := (19, 0, 0, none, 0, 0)) (nx := none) (w := none) hu_28 h_28 (by omega) (by omega)) rfl (by omega) (Nat.le_of_ble_eq_true rfl) n_Un_init (by rfl) (fun v G2 q => ?_) (fun a G2 q => by cases q.1)
  obtain ⟨q0, la, q1, q2, q3, q4, q5, q6⟩ := q
  cases q0
  show cx_V E _ _ [.ref a_16, .ref me] G2
  have hm_2 := q4 _ _ (cx_neO hu_28 hm_28 (by decide)) hm_28
  have hl_2 := q4 _ _ (cx_neO hu_28 hl_28 (by decide)) hl_28
  refine cx_putg hE d_Me_init_35 f_Me_28 (by assumption) (Nat.le_of_ble_eq_true rfl) (by first | rfl | exact cx_nr _ _) (by first | rfl | exact cx_fr _ _) (fun G_35 g_35 h_35 => ?_)
  have hl_35 := cx_pn g_35 hl_2 (cx_neO hm_2 hl_2 (by decide))
  refine cx_aload_n (i := 0) hE d_Me_init_38 rfl rfl ?_
  refine cx_aload_n (i := 1) hE d_Me_init_39 rfl rfl ?_
  refine cx_putFg hE d_Me_init_40 ff_Me_32 rfl (by assumption) (Nat.le_of_ble_eq_true rfl) (by first | rfl | exact cx_nr _ _) (by first | rfl | exact cx_fr _ _) (fun G_40 g_40 h_40 => ?_)
  have hl_40 := cx_pn g_40 hl_35 (cx_neO h_35 hl_35 (by decide))
  refine cx_vret hE d_Me_init_43 rfl ?_
  refine ⟨rfl, a_5, a_16, n_5, h_40, ⟨⟨0, hl_40⟩, Or.inl ⟨rfl, rfl, rfl⟩⟩, fun c e hc he => ?_, ?_, ?_⟩
  · have h1 := cx_mn g_5 n_5 he
    have ne5 : c ≠ a_5 := fun z => by rw [z, n_5] at he; cases he
    have h2 := cx_pn g_12 (cx_pn g_9 h1 ne5) hc
    have ne16 : c ≠ a_16 := fun z => by rw [z, n_16] at h2; cases h2
    have h3 := cx_mn g_16 n_16 h2
    have ne20 : c ≠ a_20 := fun z => by rw [z, n_20] at h3; cases h3
    exact cx_pn g_40 (cx_pn g_35 (q4 _ _ ne16 (cx_pn g_28 (cx_mn g_20 n_20 h3) ne20)) hc) hc
  · rw [cx_pc g_40, cx_pc g_35]; omega
  · rw [cx_pc g_40, cx_pc g_35]; omega
/-- the tape at ta: n bytes in an array at b of cap places -/
def ct_T (k : cx_K) (G : cx_G) (ta b n cap : Nat) (f : Nat → Int32) : Prop := G.1 ta = some (.inr (6, [.ref b, .int (nI n)])) ∧ G.1 b = some (.inl (k.2.1 0, cap, .inl f)) ∧ n ≤ cap ∧ 512 ≤ cap ∧ cap ≤ 1000000 ∧ ∀ j, fits .byte (.int (f j)) = true
theorem ct_T.T {k : cx_K} {G : cx_G} {ta b n cap : Nat} {f : Nat → Int32} (h : ct_T k G ta b n cap f) : tx_T k G ta n f := ⟨b, cap, h.1, h.2.1, h.2.2.1, h.2.2.2.2.1, h.2.2.2.2.2⟩
set_option maxRecDepth 100000 in
theorem c_Ta_init {k : cx_K} {l : Launch} {G : cx_G} {ta : Nat} (hG : G.1 ta = some (.inr (6, [.null, .int 0]))) (r1 : G.2.1 + 1 ≤ 601024) (r2 : G.2.2 + 512 ≤ 7293034) : cx_Sp k l m_Ta_init 1 [.ref ta] G (fun r G1 => r = .inl none ∧ ∃ b, G.1 b = none ∧ ct_T k G1 ta b 0 512 (fun _ => 0) ∧ (∀ c e, c ≠ ta → G.1 c = some e → G1.1 c = some e) ∧ G1.2.1 = G.2.1 + 1 ∧ G1.2.2 = G.2.2 + 512) := by
  intro E hE
  refine cx_aload_n (i := 0) hE d_Ta_init_0 rfl rfl ?_
  refine cx_objI hE d_Ta_init_1 (in_1 (List.mem_of_getElem? (i := 50) rfl)) (in_1 (List.mem_of_getElem? (i := 43) rfl)) (in_1 (List.mem_of_getElem? (i := 44) rfl)) (by omega) (Nat.le_of_ble_eq_true rfl) ?_
  refine cx_aload_n (i := 0) hE d_Ta_init_4 rfl rfl ?_
  refine cx_sipush (v := 512) hE d_Ta_init_5 (by decide) ?_
  refine cx_newa 0 (a0 := (512, .inl (fun _ => 0))) (N' := 512) hE d_Ta_init_8 (in_1 (List.mem_of_getElem? (i := 60) rfl)) rfl rfl (fun _ => rfl) (by decide) (by decide) (by decide) (by show _ ≤ 601024; omega) (by show _ ≤ 7293034; omega) (fun a_8 n_8 b_8 => ?_)
  refine cx_gen (fun G_8 g_8 => ?_)
  have h_8 := cx_ms g_8
  have hG_8 := cx_mn g_8 n_8 hG
  refine cx_putg hE d_Ta_init_10 f_Ta_9 (by assumption) (Nat.le_of_ble_eq_true rfl) (by first | rfl | exact cx_nr _ _) (by first | rfl | exact cx_fr _ _) (fun G_10 g_10 h_10 => ?_)
  have hb_10 := cx_pn g_10 h_8 (cx_neB hG_8 h_8)
  refine cx_aload_n (i := 0) hE d_Ta_init_13 rfl rfl ?_
  refine cx_iconst (v := 0) hE d_Ta_init_14 (by decide) ?_
  refine cx_putg hE d_Ta_init_15 f_Ta_15 (by assumption) (Nat.le_of_ble_eq_true rfl) (by first | rfl | exact cx_nr _ _) (by first | rfl | exact cx_fr _ _) (fun G_15 g_15 h_15 => ?_)
  have hb_15 := cx_pn g_15 hb_10 (cx_neB h_10 hb_10)
  refine cx_vret hE d_Ta_init_18 rfl ?_
  refine ⟨rfl, a_8, n_8, ⟨h_15, hb_15, by decide, by decide, by decide, fun _ => rfl⟩, fun c e hc he => cx_pn g_15 (cx_pn g_10 (cx_mn g_8 n_8 he) hc) hc, ?_, ?_⟩
  · rw [cx_pc g_15, cx_pc g_10]; exact (cx_mc g_8).1
  · rw [cx_pc g_15, cx_pc g_10]; exact (cx_mc g_8).2
/-- a byte of a word that is fed -/
def ct_by (x sh : Int32) : Int32 := vp_nar .byte ((x >>> (sh &&& 31)).toInt8.toInt32)
def ct_sh : Nat → Int32
  | 0 => 24
  | 1 => 16
  | 2 => 8
  | 3 => 0
  | _ => -8
theorem ct_sh_s : ∀ j, j < 4 → ct_sh j + Int32.ofInt (-8) = ct_sh (j + 1) ∧ ¬ ct_sh j < 0 := by decide
theorem ct_byf (x sh : Int32) : fits .byte (.int (ct_by x sh)) = true := pk_fb _
theorem ct_n4 (n : Nat) : nI n + 4 = nI (n + 4) := by
  show Int32.ofNat n + Int32.ofNat 4 = Int32.ofNat (n + 4)
  rw [Int32.ofNat_add]
theorem ct_2n (n : Nat) : (2 : Int32) * nI n = nI (2 * n) := by
  show Int32.ofNat 2 * Int32.ofNat n = Int32.ofNat (2 * n)
  rw [Int32.ofNat_mul]
/-- x was appended -/
def ct_ap (k : cx_K) (G : cx_G) (ta b n cap : Nat) (f : Nat → Int32) (x : Int32) (G' : cx_G) : Prop := ∃ b' cap' f', ct_T k G' ta b' (n + 4) cap' f' ∧ (∀ j, j < n → f' j = f j) ∧ (∀ j, j < 4 → f' (n + j) = ct_by x (ct_sh j)) ∧ (b' = b ∨ G.1 b' = none) ∧ (∀ c e, c ≠ ta → c ≠ b → G.1 c = some e → G'.1 c = some e) ∧ G.2.1 ≤ G'.2.1 ∧ G'.2.1 ≤ G.2.1 + 1 ∧ G.2.2 ≤ G'.2.2 ∧ G'.2.2 + 2 * cap ≤ G.2.2 + 2 * cap' ∧ (cap' = cap ∨ cap' ≤ 2 * (n + 4))
set_option maxRecDepth 100000 in
theorem c_Ta_append {k : cx_K} {l : Launch} {G : cx_G} {ta b n cap : Nat} {f : Nat → Int32} {x : Int32} (hT : ct_T k G ta b n cap f) (hn : n ≤ 70000) (hcp : cap ≤ 200000) (r1 : G.2.1 + 1 ≤ 601024) (r2 : G.2.2 + 2 * cap ≤ 7293034) : cx_Sp k l m_Ta_append 2 [.ref ta, .int x] G (fun r G' => r = .inl none ∧ ct_ap k G ta b n cap f x G') := by
  intro E hE
  obtain ⟨ht, hb, hnc, hc5, hcm, hft0⟩ := hT
  have hlp : ∀ (b1 c1 : Nat) (f0 : Nat → Int32) (Gs : cx_G), n + 4 ≤ c1 → c1 ≤ 1000000 → b1 ≠ ta → (∀ (G1 : cx_G) (f1 : Nat → Int32), G1.1 ta = some (.inr (6, [.ref b1, .int (nI (n + 4))])) → G1.1 b1 = some (.inl (k.2.1 0, c1, .inl f1)) → (∀ i, i < n → f1 i = f0 i) → (∀ i, i < 4 → f1 (n + i) = ct_by x (ct_sh i)) → (∀ i, fits .byte (.int (f1 i)) = true) → (∀ c e, c ≠ ta → c ≠ b1 → Gs.1 c = some e → G1.1 c = some e) → G1.2 = Gs.2 → (.inl none : cx_R) = .inl none ∧ ct_ap k G ta b n cap f x G1) →
      ∀ (d j : Nat) (G1 : cx_G) (f1 : Nat → Int32), 4 - j = d → j ≤ 4 → G1.1 ta = some (.inr (6, [.ref b1, .int (nI (n + j))])) → G1.1 b1 = some (.inl (k.2.1 0, c1, .inl f1)) → (∀ i, i < n → f1 i = f0 i) → (∀ i, i < j → f1 (n + i) = ct_by x (ct_sh i)) → (∀ i, fits .byte (.int (f1 i)) = true) → (∀ c e, c ≠ ta → c ≠ b1 → Gs.1 c = some e → G1.1 c = some e) → G1.2 = Gs.2 → cx_V E 35 [(2, false, .int (ct_sh j)), (0, false, .ref ta), (1, false, .int x)] [] G1 := by
    intro b1 c1 f0 Gs hc4 hcm1 hbt hfin d
    induction d with
    | zero =>
      intro j G1 f1 hd hj ht1 hb1 hf1 hf2 hft hfr hc1
      have hj4 : j = 4 := by omega
      subst hj4
      refine cx_iload_n (i := 2) hE d_Ta_append_35 rfl rfl ?_
      refine cx_if_lt (tgt := 80)  hE d_Ta_append_36 (by decide) (fun c_36 => ?_) (fun c_36 => ?_)
      · refine cx_vret hE d_Ta_append_80 rfl ?_
        exact hfin G1 f1 ht1 hb1 hf1 hf2 hft hfr hc1
      · exact absurd (by show (-8 : Int32) < 0; decide) c_36
        -- end
    | succ d ih =>
      intro j G1 f1 hd hj ht1 hb1 hf1 hf2 hft hfr hc1
      refine cx_iload_n (i := 2) hE d_Ta_append_35 rfl rfl ?_
      refine cx_if_lt (tgt := 80)  hE d_Ta_append_36 (by decide) (fun c_36 => ?_) (fun c_36 => ?_)
      · exact absurd c_36 (ct_sh_s j (by omega)).2
        -- end
      · refine cx_aload_n (i := 0) hE d_Ta_append_39 rfl rfl ?_
        refine cx_get hE d_Ta_append_40 f_Ta_15 (by assumption) (by rfl) ?_
        refine cx_aload_n (i := 0) hE d_Ta_append_43 rfl rfl ?_
        refine cx_get hE d_Ta_append_44 f_Ta_9 (by assumption) (by rfl) ?_
        refine cx_alen 0 hE d_Ta_append_47 rfl (by assumption) rfl ?_
        refine cx_icmp_ge (tgt := 80)  hE d_Ta_append_48 (by decide) (fun c_48 => ?_) (fun c_48 => ?_)
        · exact absurd c_48 (nI_ge (a := n + j) (b := c1) (by omega) (by omega))
          -- end
        · refine cx_aload_n (i := 0) hE d_Ta_append_51 rfl rfl ?_
          refine cx_get hE d_Ta_append_52 f_Ta_9 (by assumption) (by rfl) ?_
          refine cx_aload_n (i := 0) hE d_Ta_append_55 rfl rfl ?_
          refine cx_get hE d_Ta_append_56 f_Ta_15 (by assumption) (by rfl) ?_
          refine cx_iload_n (i := 1) hE d_Ta_append_59 rfl rfl ?_
          refine cx_iload_n (i := 2) hE d_Ta_append_60 rfl rfl ?_
          refine cx_ishr hE d_Ta_append_61 ?_
          refine cx_i2b hE d_Ta_append_62 ?_
          refine cx_bast 0 hE d_Ta_append_63 rfl hb1 (vp_in_nI (by omega) (by omega)) ?_
          refine cx_gen (fun G_63 g_63 => ?_)
          rw [nI_clamp (by omega)] at g_63
          have hb_63 := cx_ps g_63
          have ht_63 := cx_pn g_63 ht1 (cx_neA hb1 ht1)
          refine cx_aload_n (i := 0) hE d_Ta_append_64 rfl rfl ?_
          refine cx_dup hE d_Ta_append_65 ?_
          refine cx_get hE d_Ta_append_66 f_Ta_15 (by assumption) (by rfl) ?_
          refine cx_iconst (v := 1) hE d_Ta_append_69 (by decide) ?_
          refine cx_iadd hE d_Ta_append_70 ?_
          refine cx_putg hE d_Ta_append_71 f_Ta_15 (by assumption) (Nat.le_of_ble_eq_true rfl) (by first | rfl | exact cx_nr _ _) (by first | rfl | exact cx_fr _ _) (fun G_71 g_71 h_71 => ?_)
          have hb_71 := cx_pn g_71 hb_63 (cx_neB ht_63 hb_63)
          have ht_71 : G_71.1 ta = some (.inr (6, [.ref b1, .int (nI (n + (j + 1)))])) := by
            have := h_71
            rw [show nI (n + (j + 1)) = nI (n + j) + 1 from (nI_1 _).symm]
            exact this
          refine cx_iinc (v := ct_sh (j + 1)) hE d_Ta_append_74 rfl (ct_sh_s j (by omega)).1 (by decide) ?_
          refine cx_goto (tgt := 35) hE d_Ta_append_77 (by decide) ?_
          refine cx_sub [0, 1, 2] rfl ?_
          exact ih (j + 1) G_71 (upd f1 (n + j) (ct_by x (ct_sh j))) (by omega) (by omega) ht_71 hb_71 (fun i hi => by unfold upd; rw [if_neg (by omega)]; exact hf1 i hi) (fun i hi => by
            unfold upd
            by_cases z : i = j
            · rw [if_pos (by omega), z]
            · rw [if_neg (by omega)]
              exact hf2 i (by omega)) (fun i => by
            unfold upd
            split
            · exact ct_byf _ _
            · exact hft i) (fun c e h1 h2 hc => cx_pn g_71 (cx_pn g_63 (hfr c e h1 h2 hc) h2) h1) ((cx_pc g_71).trans ((cx_pc g_63).trans hc1))
  refine cx_aload_n (i := 0) hE d_Ta_append_0 rfl rfl ?_
  refine cx_get hE d_Ta_append_1 f_Ta_15 (by assumption) (by rfl) ?_
  refine cx_iconst (v := 4) hE d_Ta_append_4 (by decide) ?_
  refine cx_iadd hE d_Ta_append_5 ?_
  refine cx_aload_n (i := 0) hE d_Ta_append_6 rfl rfl ?_
  refine cx_get hE d_Ta_append_7 f_Ta_9 (by assumption) (by rfl) ?_
  refine cx_alen 0 hE d_Ta_append_10 rfl (by assumption) rfl ?_
  refine cx_icmp_le (tgt := 32)  hE d_Ta_append_11 (by decide) (fun c_11 => ?_) (fun c_11 => ?_)
  · have q_11 : n + 4 ≤ cap := nJ_le (by omega) (by rw [ct_n4] at c_11; exact c_11)
    refine cx_bipush (v := 24) hE d_Ta_append_32 (by decide) ?_
    refine cx_istore_n (i := 2) hE d_Ta_append_34 rfl (by decide) ?_
    refine cx_sub [0, 1, 2] rfl ?_
    first
      | exact hlp b2 (2 * cap) f2 G_29 (by omega) (by omega) hbt2 (fun G1 f1 z1 z2 z3 z4 z5 z6 z7 => ⟨rfl, b2, 2 * cap, f1, ⟨z1, z2, by omega, by omega, by omega, z5⟩, fun i hi => (z3 i hi).trans (q4 i (by omega)), z4, Or.inr q1, fun c e h1 h2 hc => z6 c e h1 (fun z => by rw [z, q1] at hc; cases hc) (cx_pn g_29 (q2 c e hc) h1), by rw [z7, cx_pc g_29]; omega, by rw [z7, cx_pc g_29]; omega, by rw [z7, cx_pc g_29]; omega, by rw [z7, cx_pc g_29]; omega, Or.inr (by omega)⟩) 4 0 G_29 f2 rfl (by omega) h_29 hb_29 (fun _ _ => rfl) (fun i hi => absurd hi (Nat.not_lt_zero _)) q5 (fun c e _ _ hc => hc) rfl
      | exact hlp b cap f G q_11 (by omega) (cx_neB ht hb) (fun G1 f1 z1 z2 z3 z4 z5 z6 z7 => ⟨rfl, b, cap, f1, ⟨z1, z2, by omega, by omega, by omega, z5⟩, z3, z4, Or.inl rfl, z6, by rw [z7]; omega, by rw [z7]; omega, by rw [z7]; omega, by rw [z7]; omega, Or.inl rfl⟩) 4 0 G f rfl (by omega) ht hb (fun _ _ => rfl) (fun i hi => absurd hi (Nat.not_lt_zero _)) hft0 (fun c e _ _ hc => hc) rfl
  · have q_11 : cap < n + 4 := nJ_lt (by omega) (by rw [ct_n4] at c_11; exact c_11)
    refine cx_aload_n (i := 0) hE d_Ta_append_14 rfl rfl ?_
    refine cx_aload_n (i := 0) hE d_Ta_append_15 rfl rfl ?_
    refine cx_get hE d_Ta_append_16 f_Ta_9 (by assumption) (by rfl) ?_
    refine cx_iconst (v := 2) hE d_Ta_append_19 (by decide) ?_
    refine cx_aload_n (i := 0) hE d_Ta_append_20 rfl rfl ?_
    refine cx_get hE d_Ta_append_21 f_Ta_9 (by assumption) (by rfl) ?_
    refine cx_alen 0 hE d_Ta_append_24 rfl (by assumption) rfl ?_
    refine cx_imul hE d_Ta_append_25 ?_
    show cx_V E _ _ [.int ((2 : Int32) * nI cap), .ref b, .ref ta] _
    rw [ct_2n]
    refine cx_invS hE d_Ta_append_26 l_Ta_19 (c_Ar_copyOf1 (m := 2 * cap) hb hft0 (by omega) (by omega) (by omega) (by omega)) rfl (by omega) (Nat.le_of_ble_eq_true rfl) n_Ar_copyOf1 (by rfl) (fun v G2 q => ?_) (fun a G2 q => by obtain ⟨_, _, q, _⟩ := q; cases q)
    obtain ⟨b2, f2, q0, q1, q2, q3, q4, q5, q6, q7⟩ := q
    cases q0
    show cx_V E _ _ [.ref b2, .ref ta] G2
    have ht_2 := q2 _ _ ht
    refine cx_putg hE d_Ta_append_29 f_Ta_9 (by assumption) (Nat.le_of_ble_eq_true rfl) (by first | rfl | exact cx_nr _ _) (by first | rfl | exact cx_fr _ _) (fun G_29 g_29 h_29 => ?_)
    have hb_29 := cx_pn g_29 q3 (cx_neB ht_2 q3)
    have hbt2 : b2 ≠ ta := fun z => by rw [z, ht] at q1; cases q1
    refine cx_bipush (v := 24) hE d_Ta_append_32 (by decide) ?_
    refine cx_istore_n (i := 2) hE d_Ta_append_34 rfl (by decide) ?_
    refine cx_sub [0, 1, 2] rfl ?_
    first
      | exact hlp b2 (2 * cap) f2 G_29 (by omega) (by omega) hbt2 (fun G1 f1 z1 z2 z3 z4 z5 z6 z7 => ⟨rfl, b2, 2 * cap, f1, ⟨z1, z2, by omega, by omega, by omega, z5⟩, fun i hi => (z3 i hi).trans (q4 i (by omega)), z4, Or.inr q1, fun c e h1 h2 hc => z6 c e h1 (fun z => by rw [z, q1] at hc; cases hc) (cx_pn g_29 (q2 c e hc) h1), by rw [z7, cx_pc g_29]; omega, by rw [z7, cx_pc g_29]; omega, by rw [z7, cx_pc g_29]; omega, by rw [z7, cx_pc g_29]; omega, Or.inr (by omega)⟩) 4 0 G_29 f2 rfl (by omega) h_29 hb_29 (fun _ _ => rfl) (fun i hi => absurd hi (Nat.not_lt_zero _)) q5 (fun c e _ _ hc => hc) rfl
      | exact hlp b cap f G q_11 (by omega) (cx_neB ht hb) (fun G1 f1 z1 z2 z3 z4 z5 z6 z7 => ⟨rfl, b, cap, f1, ⟨z1, z2, by omega, by omega, by omega, z5⟩, z3, z4, Or.inl rfl, z6, by rw [z7]; omega, by rw [z7]; omega, by rw [z7]; omega, by rw [z7]; omega, Or.inl rfl⟩) 4 0 G f rfl (by omega) ht hb (fun _ _ => rfl) (fun i hi => absurd hi (Nat.not_lt_zero _)) hft0 (fun c e _ _ hc => hc) rfl

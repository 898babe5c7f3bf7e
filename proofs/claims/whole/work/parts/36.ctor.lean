/-! MEANING: what its constructors make. -/
set_option maxRecDepth 100000 in
theorem c_Nm_init {k : cx_K} {l : Launch} {G : cx_G} {a b ow : Nat} {t : tx_Tk} {nx w : Option Nat} {kd wd : Int32} (hG : G.1 a = some (.inr (4, [.null, .null, .int 0, .int 0, .int 0, .long 0, .int 0, .int 0, .null, .int 0, .null]))) (ht : tx_to G b t nx w) : cx_Sp k l m_Nm_init 1 [.ref a, .ref ow, .ref b, .int kd, .int wd] G (cx_rd none (cx_put G a (.inr (4, [.ref ow, va_rf w, .int kd, .int wd, .int (nI t.2.1), .long 0, .int 0, .int 0, .null, .int 0, .null])))) := by
  intro E hE
  have hta : G.1 b = some (.inr (7, [.int t.1, .int (nI t.2.1), .int (nI t.2.2.1), va_rf nx, va_rf w, .int t.2.2.2.2.1, .long t.2.2.2.2.2])) := ht
  refine cx_aload_n (i := 0) hE d_Nm_init_0 rfl rfl ?_
  refine cx_objI hE d_Nm_init_1 (in_4 (List.mem_of_getElem? (i := 136) rfl)) (in_1 (List.mem_of_getElem? (i := 43) rfl)) (in_1 (List.mem_of_getElem? (i := 44) rfl)) (by omega) (Nat.le_of_ble_eq_true rfl) ?_
  refine cx_aload_n (i := 0) hE d_Nm_init_4 rfl rfl ?_
  refine cx_lconst (v := 0) hE d_Nm_init_5 (by decide) ?_
  refine cx_putg hE d_Nm_init_6 f_Nm_9 (by assumption) (Nat.le_of_ble_eq_true rfl) (by first | rfl | exact cx_nr _ _) (by first | rfl | exact cx_fr _ _) (fun G_6 g_6 h_6 => ?_)
  have t_6 := cx_pn g_6 hta (cx_neO hG hta (by decide))
  refine cx_aload_n (i := 0) hE d_Nm_init_9 rfl rfl ?_
  refine cx_iconst (v := 0) hE d_Nm_init_10 (by decide) ?_
  refine cx_putg hE d_Nm_init_11 f_Nm_15 (by assumption) (Nat.le_of_ble_eq_true rfl) (by first | rfl | exact cx_nr _ _) (by first | rfl | exact cx_fr _ _) (fun G_11 g_11 h_11 => ?_)
  have t_11 := cx_pn g_11 t_6 (cx_neO h_6 t_6 (by decide))
  refine cx_aload_n (i := 0) hE d_Nm_init_14 rfl rfl ?_
  refine cx_iconst (v := 0) hE d_Nm_init_15 (by decide) ?_
  refine cx_putg hE d_Nm_init_16 f_Nm_19 (by assumption) (Nat.le_of_ble_eq_true rfl) (by first | rfl | exact cx_nr _ _) (by first | rfl | exact cx_fr _ _) (fun G_16 g_16 h_16 => ?_)
  have t_16 := cx_pn g_16 t_11 (cx_neO h_11 t_11 (by decide))
  refine cx_aload_n (i := 0) hE d_Nm_init_19 rfl rfl ?_
  refine cx_null hE d_Nm_init_20 ?_
  refine cx_putg hE d_Nm_init_21 f_Nm_23 (by assumption) (Nat.le_of_ble_eq_true rfl) (by first | rfl | exact cx_nr _ _) (by first | rfl | exact cx_fr _ _) (fun G_21 g_21 h_21 => ?_)
  have t_21 := cx_pn g_21 t_16 (cx_neO h_16 t_16 (by decide))
  refine cx_aload_n (i := 0) hE d_Nm_init_24 rfl rfl ?_
  refine cx_iconst (v := 0) hE d_Nm_init_25 (by decide) ?_
  refine cx_putg hE d_Nm_init_26 f_Nm_27 (by assumption) (Nat.le_of_ble_eq_true rfl) (by first | rfl | exact cx_nr _ _) (by first | rfl | exact cx_fr _ _) (fun G_26 g_26 h_26 => ?_)
  have t_26 := cx_pn g_26 t_21 (cx_neO h_21 t_21 (by decide))
  refine cx_aload_n (i := 0) hE d_Nm_init_29 rfl rfl ?_
  refine cx_null hE d_Nm_init_30 ?_
  refine cx_putg hE d_Nm_init_31 f_Nm_30 (by assumption) (Nat.le_of_ble_eq_true rfl) (by first | rfl | exact cx_nr _ _) (by first | rfl | exact cx_fr _ _) (fun G_31 g_31 h_31 => ?_)
  have t_31 := cx_pn g_31 t_26 (cx_neO h_26 t_26 (by decide))
  refine cx_aload_n (i := 0) hE d_Nm_init_34 rfl rfl ?_
  refine cx_aload_n (i := 1) hE d_Nm_init_35 rfl rfl ?_
  refine cx_putFg hE d_Nm_init_36 ff_Nm_34 rfl (by assumption) (Nat.le_of_ble_eq_true rfl) (by first | rfl | exact cx_nr _ _) (by first | rfl | exact cx_fr _ _) (fun G_36 g_36 h_36 => ?_)
  have t_36 := cx_pn g_36 t_31 (cx_neO h_31 t_31 (by decide))
  refine cx_aload_n (i := 0) hE d_Nm_init_39 rfl rfl ?_
  refine cx_aload_n (i := 2) hE d_Nm_init_40 rfl rfl ?_
  refine cx_get hE d_Nm_init_41 f_Nm_37 (by assumption) (by rfl) ?_
  refine cx_putFg hE d_Nm_init_44 ff_Nm_43 rfl (by assumption) (Nat.le_of_ble_eq_true rfl) (by first | rfl | exact cx_nr _ _) (by first | rfl | exact cx_fr _ _) (fun G_44 g_44 h_44 => ?_)
  have t_44 := cx_pn g_44 t_36 (cx_neO h_36 t_36 (by decide))
  refine cx_aload_n (i := 0) hE d_Nm_init_47 rfl rfl ?_
  refine cx_iload_n (i := 3) hE d_Nm_init_48 rfl rfl ?_
  refine cx_putFg hE d_Nm_init_49 ff_Nm_44 rfl (by assumption) (Nat.le_of_ble_eq_true rfl) (by first | rfl | exact cx_nr _ _) (by first | rfl | exact cx_fr _ _) (fun G_49 g_49 h_49 => ?_)
  have t_49 := cx_pn g_49 t_44 (cx_neO h_44 t_44 (by decide))
  refine cx_aload_n (i := 0) hE d_Nm_init_52 rfl rfl ?_
  refine cx_iload hE d_Nm_init_53 rfl ?_
  refine cx_putFg hE d_Nm_init_55 ff_Nm_47 rfl (by assumption) (Nat.le_of_ble_eq_true rfl) (by first | rfl | exact cx_nr _ _) (by first | rfl | exact cx_fr _ _) (fun G_55 g_55 h_55 => ?_)
  have t_55 := cx_pn g_55 t_49 (cx_neO h_49 t_49 (by decide))
  refine cx_aload_n (i := 0) hE d_Nm_init_58 rfl rfl ?_
  refine cx_aload_n (i := 2) hE d_Nm_init_59 rfl rfl ?_
  refine cx_get hE d_Nm_init_60 f_Nm_50 (by assumption) (by rfl) ?_
  refine cx_putFg hE d_Nm_init_63 ff_Nm_53 rfl (by assumption) (Nat.le_of_ble_eq_true rfl) (by first | rfl | exact cx_nr _ _) (by first | rfl | exact cx_fr _ _) (fun G_63 g_63 h_63 => ?_)
  have t_63 := cx_pn g_63 t_55 (cx_neO h_55 t_55 (by decide))
  refine cx_vret hE d_Nm_init_66 rfl ?_
  refine ⟨rfl, ?_⟩
  subst g_63 g_55 g_49 g_44 g_36 g_31 g_26 g_21 g_16 g_11 g_6
  simp only [cx_pp]
  rfl
set_option maxRecDepth 100000 in
theorem c_Ve_init {k : cx_K} {l : Launch} {G : cx_G} {a : Nat} (hG : G.1 a = some (.inr (9, [.int 0, .int 0]))) : cx_Sp k l m_Ve_init 1 [.ref a] G (cx_rd none (cx_put G a (.inr (9, [.int 0, .int (-1)])))) := by
  intro E hE
  refine cx_aload_n (i := 0) hE d_Ve_init_0 rfl rfl ?_
  refine cx_objI hE d_Ve_init_1 (in_1 (List.mem_of_getElem? (i := 107) rfl)) (in_1 (List.mem_of_getElem? (i := 43) rfl)) (in_1 (List.mem_of_getElem? (i := 44) rfl)) (by omega) (Nat.le_of_ble_eq_true rfl) ?_
  refine cx_aload_n (i := 0) hE d_Ve_init_4 rfl rfl ?_
  refine cx_iconst (v := 0) hE d_Ve_init_5 (by decide) ?_
  refine cx_putg hE d_Ve_init_6 f_Ve_9 (by assumption) (Nat.le_of_ble_eq_true rfl) (by first | rfl | exact cx_nr _ _) (by first | rfl | exact cx_fr _ _) (fun G_6 g_6 h_6 => ?_)
  refine cx_aload_n (i := 0) hE d_Ve_init_9 rfl rfl ?_
  refine cx_iconst (v := -1) hE d_Ve_init_10 (by decide) ?_
  refine cx_putg hE d_Ve_init_11 f_Ve_15 (by assumption) (Nat.le_of_ble_eq_true rfl) (by first | rfl | exact cx_nr _ _) (by first | rfl | exact cx_fr _ _) (fun G_11 g_11 h_11 => ?_)
  refine cx_vret hE d_Ve_init_14 rfl ?_
  refine ⟨rfl, ?_⟩
  subst g_11 g_6
  simp only [cx_pp]
  rfl
set_option maxRecDepth 100000 in
theorem c_Un_init {k : cx_K} {l : Launch} {G : cx_G} {a b : Nat} {t : tx_Tk} {nx w : Option Nat} {nu : Int32} (hG : G.1 a = some (.inr (8, [.null, .int 0, .int 0, .null, .int 0, .int 0, .int 0, .int 0, .int 0, .int 0]))) (ht : tx_to G b t nx w) (r1 : G.2.1 + 1 ≤ 601024) (r2 : G.2.2 + 3 ≤ 7293034) : cx_Sp k l m_Un_init 4 [.ref a, .ref b, .int nu] G (fun r G1 => r = .inl none ∧ ∃ la, G.1 la = none ∧ G1.1 a = some (.inr (8, [va_rf w, .int (nI t.2.1), .int nu, .ref la, .int 0, .int 0, .int 0, .int 0, .int 0, .int 0])) ∧ tx_al k G1 la (k.2.2.2.2.2.1 0) [] 0 ∧ (∀ c e, c ≠ a → G.1 c = some e → G1.1 c = some e) ∧ G1.2.1 = G.2.1 + 1 ∧ G1.2.2 = G.2.2 + 3) := by
  intro E hE
  have hta : G.1 b = some (.inr (7, [.int t.1, .int (nI t.2.1), .int (nI t.2.2.1), va_rf nx, va_rf w, .int t.2.2.2.2.1, .long t.2.2.2.2.2])) := ht
  refine cx_aload_n (i := 0) hE d_Un_init_0 rfl rfl ?_
  refine cx_objI hE d_Un_init_1 (in_1 (List.mem_of_getElem? (i := 179) rfl)) (in_1 (List.mem_of_getElem? (i := 43) rfl)) (in_1 (List.mem_of_getElem? (i := 44) rfl)) (by omega) (Nat.le_of_ble_eq_true rfl) ?_
  refine cx_aload_n (i := 0) hE d_Un_init_4 rfl rfl ?_
  refine cx_newh 3 rfl hE d_Un_init_5 z_Un_7 (by omega) (by omega) (fun a_5 G_5 n_5 b_5 g_5 h_5 => ?_)
  have hb5 := cx_mn g_5 n_5 hG
  have hta5 := cx_mn g_5 n_5 hta
  refine cx_dup hE d_Un_init_8 ?_
  refine cx_invI0 hE d_Un_init_9 l_Un_9 (c_AL_init h_5) rfl (by omega) (Nat.le_of_ble_eq_true rfl) n_AL_init (by first | rfl | (simp only [List.map_cons, List.map_nil, cx_rfc]; rfl)) ?_
  refine cx_gen (fun G_9 g_9 => ?_)
  have h_9 := cx_ps g_9
  have hb9 := cx_pn g_9 hb5 (cx_neO h_5 hb5 (by decide))
  have hta9 := cx_pn g_9 hta5 (cx_neO h_5 hta5 (by decide))
  refine cx_putFg hE d_Un_init_12 ff_Un_10 rfl (by assumption) (Nat.le_of_ble_eq_true rfl) (by first | rfl | exact cx_nr _ _) (by first | rfl | exact cx_fr _ _) (fun G_12 g_12 h_12 => ?_)
  have t_12 := cx_pn g_12 hta9 (cx_neO hb9 hta9 (by decide))
  refine cx_aload_n (i := 0) hE d_Un_init_15 rfl rfl ?_
  refine cx_iconst (v := 0) hE d_Un_init_16 (by decide) ?_
  refine cx_putg hE d_Un_init_17 f_Un_16 (by assumption) (Nat.le_of_ble_eq_true rfl) (by first | rfl | exact cx_nr _ _) (by first | rfl | exact cx_fr _ _) (fun G_17 g_17 h_17 => ?_)
  have t_17 := cx_pn g_17 t_12 (cx_neO h_12 t_12 (by decide))
  refine cx_aload_n (i := 0) hE d_Un_init_20 rfl rfl ?_
  refine cx_iconst (v := 0) hE d_Un_init_21 (by decide) ?_
  refine cx_putg hE d_Un_init_22 f_Un_20 (by assumption) (Nat.le_of_ble_eq_true rfl) (by first | rfl | exact cx_nr _ _) (by first | rfl | exact cx_fr _ _) (fun G_22 g_22 h_22 => ?_)
  have t_22 := cx_pn g_22 t_17 (cx_neO h_17 t_17 (by decide))
  refine cx_aload_n (i := 0) hE d_Un_init_25 rfl rfl ?_
  refine cx_iconst (v := 0) hE d_Un_init_26 (by decide) ?_
  refine cx_putg hE d_Un_init_27 f_Un_23 (by assumption) (Nat.le_of_ble_eq_true rfl) (by first | rfl | exact cx_nr _ _) (by first | rfl | exact cx_fr _ _) (fun G_27 g_27 h_27 => ?_)
  have t_27 := cx_pn g_27 t_22 (cx_neO h_22 t_22 (by decide))
  refine cx_aload_n (i := 0) hE d_Un_init_30 rfl rfl ?_
  refine cx_iconst (v := 0) hE d_Un_init_31 (by decide) ?_
  refine cx_putg hE d_Un_init_32 f_Un_26 (by assumption) (Nat.le_of_ble_eq_true rfl) (by first | rfl | exact cx_nr _ _) (by first | rfl | exact cx_fr _ _) (fun G_32 g_32 h_32 => ?_)
  have t_32 := cx_pn g_32 t_27 (cx_neO h_27 t_27 (by decide))
  refine cx_aload_n (i := 0) hE d_Un_init_35 rfl rfl ?_
  refine cx_iconst (v := 0) hE d_Un_init_36 (by decide) ?_
  refine cx_putg hE d_Un_init_37 f_Un_29 (by assumption) (Nat.le_of_ble_eq_true rfl) (by first | rfl | exact cx_nr _ _) (by first | rfl | exact cx_fr _ _) (fun G_37 g_37 h_37 => ?_)
  have t_37 := cx_pn g_37 t_32 (cx_neO h_32 t_32 (by decide))
  refine cx_aload_n (i := 0) hE d_Un_init_40 rfl rfl ?_
  refine cx_iconst (v := 0) hE d_Un_init_41 (by decide) ?_
  refine cx_putg hE d_Un_init_42 f_Un_32 (by assumption) (Nat.le_of_ble_eq_true rfl) (by first | rfl | exact cx_nr _ _) (by first | rfl | exact cx_fr _ _) (fun G_42 g_42 h_42 => ?_)
  have t_42 := cx_pn g_42 t_37 (cx_neO h_37 t_37 (by decide))
  refine cx_aload_n (i := 0) hE d_Un_init_45 rfl rfl ?_
  refine cx_aload_n (i := 1) hE d_Un_init_46 rfl rfl ?_
  refine cx_get hE d_Un_init_47 f_Un_35 (by assumption) (by rfl) ?_
  refine cx_putFg hE d_Un_init_50 ff_Un_41 rfl (by assumption) (Nat.le_of_ble_eq_true rfl) (by first | rfl | exact cx_nr _ _) (by first | rfl | exact cx_fr _ _) (fun G_50 g_50 h_50 => ?_)
  have t_50 := cx_pn g_50 t_42 (cx_neO h_42 t_42 (by decide))
  refine cx_aload_n (i := 0) hE d_Un_init_53 rfl rfl ?_
  refine cx_aload_n (i := 1) hE d_Un_init_54 rfl rfl ?_
  refine cx_get hE d_Un_init_55 f_Un_42 (by assumption) (by rfl) ?_
  refine cx_putFg hE d_Un_init_58 ff_Un_45 rfl (by assumption) (Nat.le_of_ble_eq_true rfl) (by first | rfl | exact cx_nr _ _) (by first | rfl | exact cx_fr _ _) (fun G_58 g_58 h_58 => ?_)
  have t_58 := cx_pn g_58 t_50 (cx_neO h_50 t_50 (by decide))
  refine cx_aload_n (i := 0) hE d_Un_init_61 rfl rfl ?_
  refine cx_iload_n (i := 2) hE d_Un_init_62 rfl rfl ?_
  refine cx_putFg hE d_Un_init_63 ff_Un_46 rfl (by assumption) (Nat.le_of_ble_eq_true rfl) (by first | rfl | exact cx_nr _ _) (by first | rfl | exact cx_fr _ _) (fun G_63 g_63 h_63 => ?_)
  have t_63 := cx_pn g_63 t_58 (cx_neO h_58 t_58 (by decide))
  refine cx_vret hE d_Un_init_66 rfl ?_
  have hne : a_5 ≠ a := fun z => by rw [← z, n_5] at hG; cases hG
  subst g_63 g_58 g_50 g_42 g_37 g_32 g_27 g_22 g_17 g_12
  simp only [cx_pp]
  refine ⟨by trivial, a_5, n_5, cx_ps rfl, ⟨⟨0, cx_pn rfl h_9 hne⟩, Or.inl ⟨rfl, rfl, rfl⟩⟩, fun c e hc he => cx_pn rfl (cx_pn g_9 (cx_mn g_5 n_5 he) (fun z => by rw [z, n_5] at he; cases he)) hc, ?_, ?_⟩
  · show G_9.2.1 = _
    subst g_9 g_5
    rfl
  · show G_9.2.2 = _
    subst g_9 g_5
    rfl

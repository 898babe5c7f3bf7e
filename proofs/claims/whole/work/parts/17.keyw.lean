/-! WORDS: the keywords. -/
def tx_kwl : List (List Int32) := [[109, 111, 100, 117, 108, 101], [101, 110, 100, 109, 111, 100, 117, 108, 101], [105, 110, 112, 117, 116], [111, 117, 116, 112, 117, 116], [119, 105, 114, 101], [114, 101, 103], [97, 115, 115, 105, 103, 110], [97, 108, 119, 97, 121, 115], [112, 111, 115, 101, 100, 103, 101], [99, 108, 111, 99, 107], [98, 101, 103, 105, 110], [101, 110, 100], [105, 102], [101, 108, 115, 101], [99, 97, 115, 101], [101, 110, 100, 99, 97, 115, 101], [100, 101, 102, 97, 117, 108, 116], [97, 115, 115, 101, 114, 116]]
def tx_kst : List Nat := [0, 7, 17, 23, 30, 35, 39, 46, 53, 61, 67, 73, 77, 80, 85, 90, 98, 106, 113]
/-- the place of a text among the keywords, 18 if it is none; its kind -/
def tx_kwi (T : List Int32) : Nat := tx_kwl.idxOf T
def tx_kw (T : List Int32) : Int32 := nI (tx_kwi T + 1)
theorem tx_kwF : ∀ j, j < 18 → tx_kst.getD j 0 + (tx_kwl.getD j []).length < 113 ∧ tx_kst.getD (j + 1) 0 = tx_kst.getD j 0 + (tx_kwl.getD j []).length + 1 ∧ cx_ch 0 (tx_kst.getD j 0 + (tx_kwl.getD j []).length) = 32 ∧ (∀ t, t < (tx_kwl.getD j []).length → cx_ch 0 (tx_kst.getD j 0 + t) = (tx_kwl.getD j []).getD t 0 ∧ ¬ cx_ch 0 (tx_kst.getD j 0 + t) = 32) ∧ tx_kwl.idxOf (tx_kwl.getD j []) = j := by decide +kernel
theorem tx_kwi_le (T : List Int32) : tx_kwi T ≤ 18 := List.idxOf_le_length
theorem tx_kwi_ge {T : List Int32} {j : Nat} (hj : j < 18) (h : tx_kwi T = j) : T = tx_kwl.getD j [] := by
  have h1 : tx_kwl.idxOf T < tx_kwl.length := by
    show tx_kwi T < 18
    omega
  have h2 := List.getElem_idxOf h1
  rw [← h2, List.getD_eq_getElem?_getD]
  subst h
  show _ = (tx_kwl[tx_kwl.idxOf T]?).getD []
  rw [List.getElem?_eq_getElem h1]
  rfl
/-- the first j keywords are there, and nothing else -/
def tx_kj (j : Nat) (C : Nat → List (Nat × List Int32 × Int32)) : Prop := ∀ T, (tx_kwi T < j → ∃ a, tx_fd C T = some (a, T, tx_kw T)) ∧ (j ≤ tx_kwi T → tx_fd C T = none)
/-- the keywords are there, and each word has its kind -/
def tx_kO (C : Nat → List (Nat × List Int32 × Int32)) : Prop := ∀ T, (tx_kwi T < 18 → ∃ x, tx_fd C T = some x) ∧ ∀ x, tx_fd C T = some x → x = (x.1, T, tx_kw T)
theorem tx_kj.O {C : Nat → List (Nat × List Int32 × Int32)} (h : tx_kj 18 C) : tx_kO C := by
  intro T
  refine ⟨fun q => ?_, fun x q => ?_⟩
  · obtain ⟨a, e⟩ := (h T).1 q
    exact ⟨_, e⟩
  · rcases Nat.lt_or_ge (tx_kwi T) 18 with z | z
    · obtain ⟨a, e⟩ := (h T).1 z
      rw [e] at q
      cases q
      rfl
    · rw [(h T).2 z] at q
      cases q
theorem tx_fd_up (C : Nat → List (Nat × List Int32 × Int32)) (a : Nat) (T : List Int32) (kd : Int32) (X : List Int32) : tx_fd (va_up C (tx_hi T) ((a, T, kd) :: C (tx_hi T))) X = if X = T then some (a, T, kd) else tx_fd C X := by
  unfold tx_fd va_up
  by_cases h : X = T
  · rw [if_pos h, if_pos (by rw [h])]
    exact tx_find_ye h.symm
  · rw [if_neg h]
    by_cases q : tx_hi X = tx_hi T
    · rw [if_pos q, tx_find_no (fun z => h z.symm), q]
    · rw [if_neg q]
/-- a word's cell changes its kind -/
theorem tx_cn.pt {k : cx_K} {G : cx_G} {a : Nat} {fs fs' : List Value} (ha : G.1 a = some (.inr (10, fs))) : ∀ (xs : List (Nat × List Int32 × Int32)) (r : Option Nat), (∀ x ∈ xs, x.1 ≠ a) → tx_cn k G r xs → tx_cn k (cx_put G a (.inr (10, fs'))) r xs
  | [], _, _, q => q
  | x :: xs, _, hn, ⟨q1, q2, nx, ⟨tb, q3, g, q5, q6⟩, q4⟩ => ⟨q1, q2, nx, ⟨tb, cx_pn rfl q3 (hn x (List.mem_cons_self ..)), g, cx_pn rfl q5 (cx_neB ha q5), q6⟩, tx_cn.pt ha xs nx (fun y hy => hn y (List.mem_cons_of_mem _ hy)) q4⟩
theorem tx_cn.in {k : cx_K} {G : cx_G} : ∀ (xs : List (Nat × List Int32 × Int32)) (r : Option Nat), tx_cn k G r xs → ∀ x ∈ xs, ∃ nx, tx_wd k G x.1 x.2.1 nx x.2.2 none none
  | [], _, _, x, hx => by cases hx
  | y :: ys, _, ⟨_, _, nx, q3, q4⟩, x, hx => by
    rcases List.mem_cons.mp hx with e | e
    · subst e
      exact ⟨nx, q3⟩
    · exact tx_cn.in ys nx q4 x e
theorem tx_hi_lt (T : List Int32) : tx_hi T < 128 := by
  obtain ⟨j, hj1, hj2⟩ := tx_127 (tx_hs T T.length)
  unfold tx_hi
  rw [hj2, nI_clamp (by omega)]
  exact hj1
theorem tx_W.kd {k : cx_K} {G G' : cx_G} {wa ca a : Nat} {C : Nat → List (Nat × List Int32 × Int32)} {T : List Int32} {kd kd' : Int32} (h0 : tx_W k G wa ca C) (ha : G.1 a = none) (h : tx_W k G' wa ca (va_up C (tx_hi T) ((a, T, kd) :: C (tx_hi T)))) : ∃ tb nx, G'.1 a = some (.inr (10, [.ref tb, va_rf nx, .int kd, .null, .null])) ∧ tx_W k (cx_put G' a (.inr (10, [.ref tb, va_rf nx, .int kd', .null, .null]))) wa ca (va_up C (tx_hi T) ((a, T, kd') :: C (tx_hi T))) := by
  obtain ⟨h1, g, h2, h3⟩ := h
  obtain ⟨-, g0, -, h03⟩ := h0
  have hold : ∀ i, i < 128 → ∀ x ∈ C i, x.1 ≠ a := by
    intro i hi x hx z
    obtain ⟨nx, tb, q, _⟩ := tx_cn.in _ _ (h03 i hi) x hx
    rw [z, ha] at q
    cases q
  have h4 := h3 (tx_hi T) (tx_hi_lt T)
  rw [show va_up C (tx_hi T) ((a, T, kd) :: C (tx_hi T)) (tx_hi T) = (a, T, kd) :: C (tx_hi T) from if_pos rfl] at h4
  obtain ⟨q1, q2, nx, ⟨tb, q3, gb, q5, q6⟩, q4⟩ := h4
  refine ⟨tb, nx, q3, cx_pn rfl h1 (cx_neO q3 h1 (by decide)), g, cx_pn rfl h2 (cx_neB q3 h2), fun i hi => ?_⟩
  unfold va_up
  by_cases hie : i = tx_hi T
  · rw [if_pos hie]
    subst hie
    exact ⟨q1, q2, nx, ⟨tb, cx_ps rfl, gb, cx_pn rfl q5 (cx_neB q3 q5), q6⟩, tx_cn.pt q3 _ _ (hold _ hi) q4⟩
  · rw [if_neg hie]
    have h5 := h3 i hi
    unfold va_up at h5
    rw [if_neg hie] at h5
    exact tx_cn.pt q3 _ _ (hold _ hi) h5
theorem tx_ar.of {k : cx_K} {G : cx_G} {t m : Nat} {T : List Int32} {g : Nat → Int32} (hm : m = T.length) (h : G.1 t = some (.inl (k.2.1 0, m, .inl g))) (hg : ∀ j, j < m → g j = T.getD j 0) (hN : k.2.2.2.2.2.2 t) : tx_ar k G t T := by
  subst hm
  exact ⟨g, h, hg, hN⟩
abbrev m_Ws_keywordText : cx_M := (⟨"CircuitText$Words", "keywordText", "(II)[B"⟩, prog_12_method_2_code, 4, (Option.some (Jvm.ClassFile.FieldType.array Jvm.ClassFile.FieldType.byte)), [], [false, false])
theorem w_Ws_keywordText : cx_W m_Ws_keywordText := ⟨Or.inl ⟨(in_2 (List.mem_of_getElem? (i := 68) rfl)), rfl⟩, by decide +kernel, by decide, by decide, by decide +kernel⟩
theorem n_Ws_keywordText : (parseMethodDescriptor m_Ws_keywordText.1.desc).map (fun d => d.parameters.length) = some 2 := by decide +kernel
theorem d_Ws_keywordText_0 : decode prog_12_method_2_code 0 = .ok (.iload_n 1, 1) := by decide +kernel
theorem d_Ws_keywordText_1 : decode prog_12_method_2_code 1 = .ok (.iload_n 0, 1) := by decide +kernel
theorem d_Ws_keywordText_2 : decode prog_12_method_2_code 2 = .ok (.if_icmp .lt 9, 3) := by decide +kernel
theorem d_Ws_keywordText_5 : decode prog_12_method_2_code 5 = .ok (.iload_n 1, 1) := by decide +kernel
theorem d_Ws_keywordText_6 : decode prog_12_method_2_code 6 = .ok (.iload_n 0, 1) := by decide +kernel
theorem d_Ws_keywordText_7 : decode prog_12_method_2_code 7 = .ok (.isub, 1) := by decide +kernel
theorem d_Ws_keywordText_8 : decode prog_12_method_2_code 8 = .ok (.goto 4, 3) := by decide +kernel
theorem d_Ws_keywordText_11 : decode prog_12_method_2_code 11 = .ok (.iconst 0, 1) := by decide +kernel
theorem d_Ws_keywordText_12 : decode prog_12_method_2_code 12 = .ok (.newarray .byte, 2) := by decide +kernel
theorem d_Ws_keywordText_14 : decode prog_12_method_2_code 14 = .ok (.astore_n 2, 1) := by decide +kernel
theorem d_Ws_keywordText_15 : decode prog_12_method_2_code 15 = .ok (.iconst 0, 1) := by decide +kernel
theorem d_Ws_keywordText_16 : decode prog_12_method_2_code 16 = .ok (.istore_n 3, 1) := by decide +kernel
theorem d_Ws_keywordText_17 : decode prog_12_method_2_code 17 = .ok (.iload_n 3, 1) := by decide +kernel
theorem d_Ws_keywordText_18 : decode prog_12_method_2_code 18 = .ok (.aload_n 2, 1) := by decide +kernel
theorem d_Ws_keywordText_19 : decode prog_12_method_2_code 19 = .ok (.arraylength, 1) := by decide +kernel
theorem d_Ws_keywordText_20 : decode prog_12_method_2_code 20 = .ok (.if_icmp .ge 21, 3) := by decide +kernel
theorem d_Ws_keywordText_23 : decode prog_12_method_2_code 23 = .ok (.aload_n 2, 1) := by decide +kernel
theorem d_Ws_keywordText_24 : decode prog_12_method_2_code 24 = .ok (.iload_n 3, 1) := by decide +kernel
theorem d_Ws_keywordText_25 : decode prog_12_method_2_code 25 = .ok (.ldc 17, 2) := by decide +kernel
theorem d_Ws_keywordText_27 : decode prog_12_method_2_code 27 = .ok (.iload_n 0, 1) := by decide +kernel
theorem d_Ws_keywordText_28 : decode prog_12_method_2_code 28 = .ok (.iload_n 3, 1) := by decide +kernel
theorem d_Ws_keywordText_29 : decode prog_12_method_2_code 29 = .ok (.iadd, 1) := by decide +kernel
theorem d_Ws_keywordText_30 : decode prog_12_method_2_code 30 = .ok (.invokevirtual 25, 3) := by decide +kernel
theorem d_Ws_keywordText_33 : decode prog_12_method_2_code 33 = .ok (.i2b, 1) := by decide +kernel
theorem d_Ws_keywordText_34 : decode prog_12_method_2_code 34 = .ok (.bastore, 1) := by decide +kernel
theorem d_Ws_keywordText_35 : decode prog_12_method_2_code 35 = .ok (.iinc 3 1, 3) := by decide +kernel
theorem d_Ws_keywordText_38 : decode prog_12_method_2_code 38 = .ok (.goto (-21), 3) := by decide +kernel
theorem d_Ws_keywordText_41 : decode prog_12_method_2_code 41 = .ok (.aload_n 2, 1) := by decide +kernel
theorem d_Ws_keywordText_42 : decode prog_12_method_2_code 42 = .ok (.areturn, 1) := by decide +kernel
abbrev m_Ws_init : cx_M := (⟨"CircuitText$Words", "<init>", "()V"⟩, prog_12_method_1_code, 4, (Option.none : Option Jvm.ClassFile.FieldType), [], [false])
theorem w_Ws_init : cx_W m_Ws_init := ⟨Or.inl ⟨(in_2 (List.mem_of_getElem? (i := 13) rfl)), rfl⟩, by decide +kernel, by decide, by decide, by decide +kernel⟩
theorem n_Ws_init : (parseMethodDescriptor m_Ws_init.1.desc).map (fun d => d.parameters.length) = some 0 := by decide +kernel
theorem d_Ws_init_0 : decode prog_12_method_1_code 0 = .ok (.aload_n 0, 1) := by decide +kernel
theorem d_Ws_init_1 : decode prog_12_method_1_code 1 = .ok (.invokespecial 3, 3) := by decide +kernel
theorem d_Ws_init_4 : decode prog_12_method_1_code 4 = .ok (.aload_n 0, 1) := by decide +kernel
theorem d_Ws_init_5 : decode prog_12_method_1_code 5 = .ok (.sipush 128, 3) := by decide +kernel
theorem d_Ws_init_8 : decode prog_12_method_1_code 8 = .ok (.anewarray 11, 3) := by decide +kernel
theorem d_Ws_init_11 : decode prog_12_method_1_code 11 = .ok (.putfield 13, 3) := by decide +kernel
theorem d_Ws_init_14 : decode prog_12_method_1_code 14 = .ok (.iconst 1, 1) := by decide +kernel
theorem d_Ws_init_15 : decode prog_12_method_1_code 15 = .ok (.istore_n 1, 1) := by decide +kernel
theorem d_Ws_init_16 : decode prog_12_method_1_code 16 = .ok (.iconst 0, 1) := by decide +kernel
theorem d_Ws_init_17 : decode prog_12_method_1_code 17 = .ok (.istore_n 2, 1) := by decide +kernel
theorem d_Ws_init_18 : decode prog_12_method_1_code 18 = .ok (.iconst 0, 1) := by decide +kernel
theorem d_Ws_init_19 : decode prog_12_method_1_code 19 = .ok (.istore_n 3, 1) := by decide +kernel
theorem d_Ws_init_20 : decode prog_12_method_1_code 20 = .ok (.iload_n 3, 1) := by decide +kernel
theorem d_Ws_init_21 : decode prog_12_method_1_code 21 = .ok (.ldc 17, 2) := by decide +kernel
theorem d_Ws_init_23 : decode prog_12_method_1_code 23 = .ok (.invokevirtual 19, 3) := by decide +kernel
theorem d_Ws_init_26 : decode prog_12_method_1_code 26 = .ok (.if_icmp .ge 40, 3) := by decide +kernel
theorem d_Ws_init_29 : decode prog_12_method_1_code 29 = .ok (.ldc 17, 2) := by decide +kernel
theorem d_Ws_init_31 : decode prog_12_method_1_code 31 = .ok (.iload_n 3, 1) := by decide +kernel
theorem d_Ws_init_32 : decode prog_12_method_1_code 32 = .ok (.invokevirtual 25, 3) := by decide +kernel
theorem d_Ws_init_35 : decode prog_12_method_1_code 35 = .ok (.bipush 32, 2) := by decide +kernel
theorem d_Ws_init_37 : decode prog_12_method_1_code 37 = .ok (.if_icmp .ne 23, 3) := by decide +kernel
theorem d_Ws_init_40 : decode prog_12_method_1_code 40 = .ok (.aload_n 0, 1) := by decide +kernel
theorem d_Ws_init_41 : decode prog_12_method_1_code 41 = .ok (.iload_n 2, 1) := by decide +kernel
theorem d_Ws_init_42 : decode prog_12_method_1_code 42 = .ok (.iload_n 3, 1) := by decide +kernel
theorem d_Ws_init_43 : decode prog_12_method_1_code 43 = .ok (.invokestatic 29, 3) := by decide +kernel
theorem d_Ws_init_46 : decode prog_12_method_1_code 46 = .ok (.invokevirtual 33, 3) := by decide +kernel
theorem d_Ws_init_49 : decode prog_12_method_1_code 49 = .ok (.iload_n 1, 1) := by decide +kernel
theorem d_Ws_init_50 : decode prog_12_method_1_code 50 = .ok (.putfield 37, 3) := by decide +kernel
theorem d_Ws_init_53 : decode prog_12_method_1_code 53 = .ok (.iinc 1 1, 3) := by decide +kernel
theorem d_Ws_init_56 : decode prog_12_method_1_code 56 = .ok (.iload_n 3, 1) := by decide +kernel
theorem d_Ws_init_57 : decode prog_12_method_1_code 57 = .ok (.iconst 1, 1) := by decide +kernel
theorem d_Ws_init_58 : decode prog_12_method_1_code 58 = .ok (.iadd, 1) := by decide +kernel
theorem d_Ws_init_59 : decode prog_12_method_1_code 59 = .ok (.istore_n 2, 1) := by decide +kernel
theorem d_Ws_init_60 : decode prog_12_method_1_code 60 = .ok (.iinc 3 1, 3) := by decide +kernel
theorem d_Ws_init_63 : decode prog_12_method_1_code 63 = .ok (.goto (-43), 3) := by decide +kernel
theorem d_Ws_init_66 : decode prog_12_method_1_code 66 = .ok (.return_, 1) := by decide +kernel
theorem f_Ws_37 : cx_F "CircuitText$Words" 37 10 2 (.int) false := ⟨_, F_Wd, 5, t_Wd, k_Wd, by decide, rfl, rfl, Or.inr ⟨"CircuitText", (in_2 (List.mem_of_getElem? (i := 87) rfl))⟩⟩
theorem l_Ws_29 : cx_LS "CircuitText$Words" 29 m_Ws_keywordText := ⟨Or.inl (in_2 (List.mem_of_getElem? (i := 66) rfl)), w_Ws_keywordText, (in_2 (List.mem_of_getElem? (i := 67) rfl)), (in_1 (List.mem_of_getElem? (i := 20) rfl))⟩
theorem l_Ws_33 : cx_LV "CircuitText$Words" 33 11 m_Ws_wordOf := ⟨Or.inl (in_2 (List.mem_of_getElem? (i := 69) rfl)), w_Ws_wordOf, (in_2 (List.mem_of_getElem? (i := 71) rfl)), _, rfl, (List.mem_append_left _ (List.mem_of_getElem? (i := 0) rfl))⟩
set_option maxRecDepth 100000 in
theorem c_Ws_keywordText {k : cx_K} {l : Launch} {G : cx_G} {a m : Nat} (ham : a + m ≤ 113) (r1 : G.2.1 + 1 ≤ 601024) (r2 : G.2.2 + m ≤ 7293034) : cx_Sp k l m_Ws_keywordText 4 [.int (nI a), .int (nI (a + m))] G (tx_nb k G m (fun j => cx_ch 0 (a + j))) := by
  intro E hE
  have hloop : ∀ (x : Nat), G.1 x = none → ∀ (d i : Nat) (g : Nat → Int32), m - i = d → i ≤ m → (∀ j, j < i → g j = cx_ch 0 (a + j)) → sb_Fit g → cx_V E 17 [(3, false, .int (nI i)), (2, false, .ref x), (0, false, .int (nI a)), (1, false, .int (nI (a + m)))] [] (cx_mk G x (.inl (k.2.1 0, m, .inl g)) m) := by
    intro x hx d
    induction d using Nat.strongRecOn with
    | ind d ih =>
      intro i g hd hi hg hf
      refine cx_gen (fun G1 g1 => ?_)
      have h1 := cx_ms g1
      refine cx_iload_n (i := 3) hE d_Ws_keywordText_17 rfl rfl ?_
      refine cx_aload_n (i := 2) hE d_Ws_keywordText_18 rfl rfl ?_
      refine cx_alen 0 hE d_Ws_keywordText_19 rfl (by assumption) rfl ?_
      refine cx_icmp_ge (tgt := 41)  hE d_Ws_keywordText_20 (by decide) (fun c_20 => ?_) (fun c_20 => ?_)
      · have q_20 : i = m := by have := nJ_le (by omega) c_20; omega
        subst q_20
        refine cx_aload_n (i := 2) hE d_Ws_keywordText_41 rfl rfl ?_
        refine cx_aret (r := some x) hE d_Ws_keywordText_42 rfl (by first | exact Or.inl ⟨_, rfl⟩ | exact Or.inr ⟨_, rfl⟩) ?_
        subst g1
        exact ⟨x, g, rfl, hx, cx_ext.mk hx, cx_ms rfl, hg, hf, rfl, rfl⟩
      · have q_20 := nJ_lt (by omega) c_20
        have q_c := (cx_ch_ok (i := 0) (j := a + i) (by decide) (by show a + i < 113; omega)).2.1
        refine cx_aload_n (i := 2) hE d_Ws_keywordText_23 rfl rfl ?_
        refine cx_iload_n (i := 3) hE d_Ws_keywordText_24 rfl rfl ?_
        refine cx_ldcS (i := 0) hE d_Ws_keywordText_25 rfl rfl rfl ?_
        refine cx_iload_n (i := 0) hE d_Ws_keywordText_27 rfl rfl ?_
        refine cx_iload_n (i := 3) hE d_Ws_keywordText_28 rfl rfl ?_
        refine cx_iadd hE d_Ws_keywordText_29 ?_
        rw [nI_add]
        refine cx_invK1 (i := 0) hE d_Ws_keywordText_30 (in_2 (List.mem_of_getElem? (i := 28) rfl)) w_St_charAt (in_2 (List.mem_of_getElem? (i := 29) rfl)) (in_2 (List.mem_of_getElem? (i := 30) rfl)) (by decide) (c_St_charAt (i := 0) (j := a + i) (by decide) (by show a + i < 113; omega)) rfl (by omega) (Nat.le_of_ble_eq_true rfl) n_St_charAt rfl ?_
        refine cx_i2b hE d_Ws_keywordText_33 ?_
        refine cx_bast 0 hE d_Ws_keywordText_34 rfl h1 (vp_in_nI (by omega) (by omega)) ?_
        rw [vp_nar_byte, q_c, q_c, nI_clamp (by omega)]
        subst g1
        rw [cx_mp]
        refine cx_iinc (v := nI (i + 1)) hE d_Ws_keywordText_35 rfl (nI_1 _) (by decide) ?_
        refine cx_goto (tgt := 17) hE d_Ws_keywordText_38 (by decide) ?_
        refine cx_sub [0, 1, 2, 3] rfl ?_
        refine ih (m - (i + 1)) (by omega) (i + 1) _ rfl (by omega) (fun j hj => ?_) (sb_fitU hf (by rw [← q_c]; exact pk_fb _))
        unfold upd
        by_cases hji : j = i
        · rw [if_pos hji, hji]
        · rw [if_neg hji, hg j (by omega)]
  refine cx_iload_n (i := 1) hE d_Ws_keywordText_0 rfl rfl ?_
  refine cx_iload_n (i := 0) hE d_Ws_keywordText_1 rfl rfl ?_
  refine cx_icmp_lt (tgt := 11)  hE d_Ws_keywordText_2 (by decide) (fun c_2 => ?_) (fun c_2 => ?_)
  · exact absurd c_2 (nI_nlt (by omega) (by omega))
    -- end
  · refine cx_iload_n (i := 1) hE d_Ws_keywordText_5 rfl rfl ?_
    refine cx_iload_n (i := 0) hE d_Ws_keywordText_6 rfl rfl ?_
    refine cx_isub hE d_Ws_keywordText_7 ?_
    rw [show nI (a + m) - nI a = nI m from by rw [pk_sub (by omega), Nat.add_sub_cancel_left]]
    refine cx_goto (tgt := 12) hE d_Ws_keywordText_8 (by decide) ?_
    refine cx_newa 0 (a0 := (m, .inl (fun _ => 0))) (N' := m) hE d_Ws_keywordText_12 (in_1 (List.mem_of_getElem? (i := 60) rfl)) rfl rfl (fun _ => rfl) (nI_pos (by omega)) (nI_clamp (by omega)) (by show m * 1 ≤ _; omega) (by show _ ≤ 601024; omega) (by show _ ≤ 7293034; omega) (fun a_12 n_12 b_12 => ?_)
    refine cx_gen (fun G_12 g_12 => ?_)
    have h_12 := cx_ms g_12
    subst g_12
    refine cx_astore_n (i := 2) hE d_Ws_keywordText_14 rfl (by decide) ?_
    refine cx_iconst (v := 0) hE d_Ws_keywordText_15 (by decide) ?_
    refine cx_istore_n (i := 3) hE d_Ws_keywordText_16 rfl (by decide) ?_
    refine cx_sub [0, 1, 2, 3] rfl ?_
    exact hloop a_12 n_12 m 0 _ rfl (Nat.zero_le _) (fun j hj => by omega) (fun _ => rfl)
set_option maxRecDepth 100000 in
theorem c_Ws_init {k : cx_K} {l : Launch} {G : cx_G} {wa : Nat} (hG : G.1 wa = some (.inr (11, [.null]))) (r1 : G.2.1 + 37 ≤ 601024) (r2 : G.2.2 + 313 ≤ 7293034) (hN0 : ∀ t, G.1 t = none → k.2.2.2.2.2.2 t) : cx_Sp k l m_Ws_init 5 [.ref wa] G (fun r G1 => ∃ ca C, r = .inl none ∧ tx_W k G1 wa ca C ∧ tx_kO C ∧ (∀ T x, tx_fd C T = some x → G.1 x.1 = none) ∧ G.1 ca = none ∧ (∀ b e, b ≠ wa → G.1 b = some e → G1.1 b = some e) ∧ G1.2.1 = G.2.1 + 37 ∧ G1.2.2 = G.2.2 + 313) := by
  intro E hE
  have hst : ∀ (ca : Nat), G.1 ca = none → ∀ (dd : Nat) (j : Nat) (G1 : cx_G) (C : Nat → List (Nat × List Int32 × Int32)), j ≤ 18 → tx_W k G1 wa ca C → tx_kj j C → (∀ T x, tx_fd C T = some x → G.1 x.1 = none) → (∀ b e, b ≠ wa → G.1 b = some e → G1.1 b = some e) → G1.2.1 = G.2.1 + 1 + 2 * j → G1.2.2 = G.2.2 + 128 + tx_kst.getD j 0 + 4 * j → 18 - j = dd → cx_V E 20 [(3, false, .int (nI (tx_kst.getD j 0))), (2, false, .int (nI (tx_kst.getD j 0))), (1, false, .int (nI (j + 1))), (0, false, .ref wa)] [] G1 := by
    intro ca hca0 dd
    induction dd with
    | zero =>
      intro j G1 C hj hW hK hN hk hc hs hd
      have hj18 : j = 18 := by omega
      subst hj18
      refine cx_iload_n (i := 3) hE d_Ws_init_20 rfl rfl ?_
      refine cx_ldcS (i := 0) hE d_Ws_init_21 rfl rfl rfl ?_
      refine cx_invK1 (i := 0) hE d_Ws_init_23 (in_2 (List.mem_of_getElem? (i := 18) rfl)) w_St_length (in_2 (List.mem_of_getElem? (i := 19) rfl)) (in_2 (List.mem_of_getElem? (i := 20) rfl)) (by decide) (c_St_length (i := 0) (by decide)) rfl (by omega) (Nat.le_of_ble_eq_true rfl) n_St_length rfl ?_
      refine cx_icmp_ge (tgt := 66)  hE d_Ws_init_26 (by decide) (fun c_26 => ?_) (fun c_26 => ?_)
      · refine cx_vret hE d_Ws_init_66 rfl ?_
        exact ⟨ca, C, rfl, hW, hK.O, hN, hca0, hk, by omega, by rw [hs]; rfl⟩
      · exact absurd (by decide) c_26
        -- end
    | succ dd ihd =>
      intro j G1 C hj hW hK hN hk hc hs hd
      obtain ⟨f1, f2, f3, f4, f5⟩ := tx_kwF j (by omega)
      have f6 : tx_kst.getD j 0 ≤ 113 := by omega
      have hin : ∀ (dt t : Nat), (tx_kwl.getD j []).length - t = dt → t ≤ (tx_kwl.getD j []).length → cx_V E 20 [(3, false, .int (nI (tx_kst.getD j 0 + t))), (2, false, .int (nI (tx_kst.getD j 0))), (1, false, .int (nI (j + 1))), (0, false, .ref wa)] [] G1 := by
        intro dt
        induction dt using Nat.strongRecOn with
        | ind dt ih =>
          intro t hdt ht
          refine cx_iload_n (i := 3) hE d_Ws_init_20 rfl rfl ?_
          refine cx_ldcS (i := 0) hE d_Ws_init_21 rfl rfl rfl ?_
          refine cx_invK1 (i := 0) hE d_Ws_init_23 (in_2 (List.mem_of_getElem? (i := 18) rfl)) w_St_length (in_2 (List.mem_of_getElem? (i := 19) rfl)) (in_2 (List.mem_of_getElem? (i := 20) rfl)) (by decide) (c_St_length (i := 0) (by decide)) rfl (by omega) (Nat.le_of_ble_eq_true rfl) n_St_length rfl ?_
          refine cx_icmp_ge (tgt := 66)  hE d_Ws_init_26 (by decide) (fun c_26 => ?_) (fun c_26 => ?_)
          · exact absurd c_26 (nI_ge (a := tx_kst.getD j 0 + t) (b := 113) (by omega) (by omega))
            -- end
          · refine cx_ldcS (i := 0) hE d_Ws_init_29 rfl rfl rfl ?_
            refine cx_iload_n (i := 3) hE d_Ws_init_31 rfl rfl ?_
            refine cx_invK1 (i := 0) hE d_Ws_init_32 (in_2 (List.mem_of_getElem? (i := 28) rfl)) w_St_charAt (in_2 (List.mem_of_getElem? (i := 29) rfl)) (in_2 (List.mem_of_getElem? (i := 30) rfl)) (by decide) (c_St_charAt (i := 0) (j := tx_kst.getD j 0 + t) (by decide) (by show tx_kst.getD j 0 + t < 113; omega)) rfl (by omega) (Nat.le_of_ble_eq_true rfl) n_St_charAt rfl ?_
            refine cx_bipush (v := 32) hE d_Ws_init_35 (by decide) ?_
            refine cx_icmp_ne (tgt := 60)  hE d_Ws_init_37 (by decide) (fun c_37 => ?_) (fun c_37 => ?_)
            · have q_37 : t < (tx_kwl.getD j []).length := by
                rcases Nat.lt_or_ge t ((tx_kwl.getD j []).length) with z | z
                · exact z
                · exact absurd (by rw [show t = (tx_kwl.getD j []).length by omega]; exact f3) c_37
              refine cx_iinc (v := nI (tx_kst.getD j 0 + t + 1)) hE d_Ws_init_60 rfl (nI_1 _) (by decide) ?_
              refine cx_goto (tgt := 20) hE d_Ws_init_63 (by decide) ?_
              refine cx_sub [0, 1, 2, 3] rfl ?_
              exact ih ((tx_kwl.getD j []).length - (t + 1)) (by omega) (t + 1) rfl (by omega)
            · have q_t : t = (tx_kwl.getD j []).length := by
                rcases Nat.lt_or_ge t ((tx_kwl.getD j []).length) with z | z
                · exact absurd c_37 (f4 t z).2
                · omega
              refine cx_aload_n (i := 0) hE d_Ws_init_40 rfl rfl ?_
              refine cx_iload_n (i := 2) hE d_Ws_init_41 rfl rfl ?_
              refine cx_iload_n (i := 3) hE d_Ws_init_42 rfl rfl ?_
              refine cx_invS hE d_Ws_init_43 l_Ws_29 (c_Ws_keywordText (a := tx_kst.getD j 0) (m := (tx_kwl.getD j []).length) (by omega) (by omega) (by omega)) (by rw [q_t]; rfl) (by omega) (Nat.le_of_ble_eq_true rfl) n_Ws_keywordText (by rfl) (fun v G2 q => ?_) (fun a G2 q => by obtain ⟨_, _, q, _⟩ := q; cases q)
              obtain ⟨ta, g2, q0, q1, q2, q3, q4, q5, q6, q7⟩ := q
              cases q0
              show cx_V E _ _ [.ref ta, .ref wa] G2
              have hW2 := hW.ext q2
              have hx2 : tx_ar k G2 ta (tx_kwl.getD j []) := tx_ar.of rfl q3 (fun i hi => (q4 i hi).trans (f4 i hi).1) (hN0 ta (by
                cases hG0 : G.1 ta with
                | none => rfl
                | some e =>
                  by_cases z : ta = wa
                  · have z9 := hW.1
                    rw [← z, q1] at z9
                    cases z9
                  · have z9 := hk _ _ z hG0
                    rw [q1] at z9
                    cases z9))
              have hfd : tx_fd C (tx_kwl.getD j []) = none := (hK _).2 (by show j ≤ tx_kwl.idxOf _; omega)
              refine cx_invV hE d_Ws_init_46 l_Ws_33 hW2.1 (c_Ws_wordOf hW2 hx2 (by omega) (by omega) (by omega)) rfl (by omega) (Nat.le_of_ble_eq_true rfl) n_Ws_wordOf (by rfl) (fun v G3 q => ?_) (fun a G3 q => by rcases q with ⟨_, _, q, _⟩ | ⟨_, _, q, _⟩ <;> cases q)
              rcases q with ⟨x, q8, _⟩ | ⟨-, aw, q8, q9, q10, q11, q12, q13⟩
              · rw [hfd] at q8; cases q8
              cases q8
              show cx_V E _ _ [.ref aw] G3
              obtain ⟨tb, nx, hw1, hw2⟩ := tx_W.kd (kd' := nI (j + 1)) hW2 q9 q11
              refine cx_iload_n (i := 1) hE d_Ws_init_49 rfl rfl ?_
              refine cx_putg hE d_Ws_init_50 f_Ws_37 (by assumption) (Nat.le_of_ble_eq_true rfl) (by first | rfl | exact cx_nr _ _) (by first | rfl | exact cx_fr _ _) (fun G_50 g_50 h_50 => ?_)
              refine cx_iinc (v := nI (j + 1 + 1)) hE d_Ws_init_53 rfl (nI_1 _) (by decide) ?_
              refine cx_iload_n (i := 3) hE d_Ws_init_56 rfl rfl ?_
              refine cx_iconst (v := 1) hE d_Ws_init_57 (by decide) ?_
              refine cx_iadd hE d_Ws_init_58 ?_
              show cx_V E _ _ [.int (nI (tx_kst.getD j 0 + t) + 1)] _
              rw [nI_1]
              refine cx_istore_n (i := 2) hE d_Ws_init_59 rfl (by decide) ?_
              refine cx_iinc (v := nI (tx_kst.getD j 0 + t + 1)) hE d_Ws_init_60 rfl (nI_1 _) (by decide) ?_
              refine cx_goto (tgt := 20) hE d_Ws_init_63 (by decide) ?_
              refine cx_sub [0, 1, 2, 3] rfl ?_
              have e2 : tx_kst.getD j 0 + t + 1 = tx_kst.getD (j + 1) 0 := by omega
              rw [e2]
              subst g_50
              refine ihd (j + 1) _ _ (by omega) hw2 ?_ ?_ ?_ ?_ ?_ (by omega)
              · intro X
                rw [tx_fd_up]
                by_cases hX : X = tx_kwl.getD j []
                · rw [if_pos hX]
                  have e3 : tx_kwi X = j := by rw [hX]; exact f5
                  refine ⟨fun _ => ⟨aw, ?_⟩, fun z => by omega⟩
                  rw [tx_kw, e3, hX]
                · rw [if_neg hX]
                  have e3 : tx_kwi X ≠ j := fun z => hX (tx_kwi_ge (by omega) z)
                  exact ⟨fun z => (hK X).1 (by omega), fun z => (hK X).2 (by omega)⟩
              · intro X x hx
                rw [tx_fd_up] at hx
                by_cases hX : X = tx_kwl.getD j []
                · rw [if_pos hX] at hx
                  cases hx
                  show G.1 aw = none
                  cases hG0 : G.1 aw with
                  | none => rfl
                  | some e =>
                    by_cases z : aw = wa
                    · have z9 := hW2.1
                      rw [← z, q9] at z9
                      cases z9
                    · have z9 := q2 _ _ (hk _ _ z hG0)
                      rw [q9] at z9
                      cases z9
                · rw [if_neg hX] at hx
                  exact hN X x hx
              · intro b e hb he
                refine cx_pn rfl (q10.2 b e (fun z => by rw [z, hca0] at he; cases he) (q2 b e (hk b e hb he))) (fun z => ?_)
                have := q2 b e (hk b e hb he)
                rw [z, q9] at this
                cases this
              · show G3.2.1 = _
                omega
              · show G3.2.2 = _
                omega
      exact hin ((tx_kwl.getD j []).length) 0 rfl (Nat.zero_le _)
  refine cx_aload_n (i := 0) hE d_Ws_init_0 rfl rfl ?_
  refine cx_objI hE d_Ws_init_1 (in_2 (List.mem_of_getElem? (i := 14) rfl)) (in_1 (List.mem_of_getElem? (i := 43) rfl)) (in_1 (List.mem_of_getElem? (i := 44) rfl)) (by omega) (Nat.le_of_ble_eq_true rfl) ?_
  refine cx_aload_n (i := 0) hE d_Ws_init_4 rfl rfl ?_
  refine cx_sipush (v := 128) hE d_Ws_init_5 (by decide) ?_
  refine cx_newq 4 (N' := 128) hE d_Ws_init_8 (in_2 (List.mem_of_getElem? (i := 15) rfl)) (in_2 (List.mem_of_getElem? (i := 16) rfl)) rfl rfl (by decide) (by decide) (by decide) (by show _ ≤ 601024; omega) (by show _ ≤ 7293034; omega) (fun a_8 n_8 b_8 => ?_)
  refine cx_gen (fun G_8 g_8 => ?_)
  have h_8 := cx_ms g_8
  have hb_8 := cx_mn g_8 n_8 hG
  refine cx_putFg hE d_Ws_init_11 ff_Ws_13 rfl (by assumption) (Nat.le_of_ble_eq_true rfl) (by first | rfl | exact cx_nr _ _) (by first | rfl | exact cx_fr _ _) (fun G_11 g_11 h_11 => ?_)
  have hc11 := cx_pn g_11 h_8 (cx_neB hb_8 h_8)
  refine cx_iconst (v := 1) hE d_Ws_init_14 (by decide) ?_
  refine cx_istore_n (i := 1) hE d_Ws_init_15 rfl (by decide) ?_
  refine cx_iconst (v := 0) hE d_Ws_init_16 (by decide) ?_
  refine cx_istore_n (i := 2) hE d_Ws_init_17 rfl (by decide) ?_
  refine cx_iconst (v := 0) hE d_Ws_init_18 (by decide) ?_
  refine cx_istore_n (i := 3) hE d_Ws_init_19 rfl (by decide) ?_
  refine cx_sub [0, 1, 2, 3] rfl ?_
  refine hst a_8 n_8 18 0 G_11 (fun _ => []) (by omega) ⟨h_11, _, hc11, fun i _ => rfl⟩ (fun T => ⟨fun z => by omega, fun _ => rfl⟩) (fun T x z => by have z9 : (none : Option (Nat × List Int32 × Int32)) = some x := z; cases z9) ?_ ?_ ?_ rfl
  · intro b e hb he
    exact cx_pn g_11 (cx_mn g_8 n_8 he) hb
  · subst g_11 g_8; rfl
  · subst g_11 g_8; rfl

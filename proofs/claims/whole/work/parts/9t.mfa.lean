/-! THE REFERENCE: feed, end, fault, count; which module, how many names. -/
section RRC
variable {M M' M1 : rm_M} {n nn j : Nat} {f : Nat → Int32} {ft x m : Int32} {us : List tx_U} {T : List tx_Tk} {v : tx_U} {LO LI : Nat}
theorem rr_I.z (h : rr_I M n f ft us) (x : Int32) : rr_I (rp_int M 0 x) n f ft us := h
theorem rr_I.mod (h : rr_I M n f ft us) (h51 : ¬ M.1 51 = 0) : ∃ nn T, rm_T nn T M ∧ rr_T T M us := by
  rcases h.2.2.2.2.2.2 with ⟨y, -⟩ | ⟨nn, i, s, -, -, -, -, tT, -, -, -, trT⟩
  · exact absurd y h51
  · exact ⟨nn, _, tT, trT⟩
theorem rr_I.no (h : rr_I M n f ft us) (h51 : M.1 51 = 0) : us = [] := by
  rcases h.2.2.2.2.2.2 with ⟨-, y⟩ | ⟨nn, i, s, y, -⟩
  · exact y
  · rw [h51] at y; exact absurd y (by decide)
theorem rr_I.ex (h : rr_I M n f ft us) (hv : us[j]? = some v) : ∃ nn T LO LI, rm_T nn T M ∧ LO ≤ 10241 ∧ LI ≤ 10241 ∧ rt_F T M LO LI j v ∧ M.1 12 = nI us.length ∧ us.length ≤ 3500 ∧ ¬ M.1 51 = 0 := by
  have h51 : ¬ M.1 51 = 0 := fun y => by
    rw [h.no y] at hv
    simp at hv
  obtain ⟨nn, T, t1, t2, t3, LO, LI, t4, t5, t6⟩ := h.mod h51
  exact ⟨nn, T, LO, LI, t1, t4, t5, t6 j v hv, t2, t3, h51⟩
theorem rr_ix0 : ct_ix m ([] : List tx_U).length = none := by
  unfold ct_ix
  split
  · rfl
  · exact if_neg (Nat.not_lt_zero _)
theorem rr_ixn {len : Nat} (h : (ct_ix m len).isSome = false) : ct_ix m len = none := by
  cases hh : ct_ix m len with
  | none => rfl
  | some j => rw [hh] at h; cases h
theorem rr_ixg {len : Nat} (h : ¬ m < 0) (hl : len < 2 ^ 31) (hle : nI len ≤ m) : ct_ix m len = none := by
  obtain ⟨j, hj, rfl⟩ := nI_of h
  exact ct_ix.ge hj (by have := (nI_leI hl hj).mp hle; omega)
theorem rr_ixl {len : Nat} (h : ¬ m < 0) (hl : len < 2 ^ 31) (hle : ¬ nI len ≤ m) : (ct_ix m len).isSome = true := by
  obtain ⟨j, hj, rfl⟩ := nI_of h
  rw [ct_ix.ok hj (by
    rcases Nat.lt_or_ge j len with y | y
    · exact y
    · exact absurd (nI_le y hj) hle)]
  rfl
theorem rr_ixs {len : Nat} (h : (ct_ix m len).isSome = true) : ∃ j, m = nI j ∧ j < len ∧ j < 2 ^ 31 ∧ ct_ix m len = some j := by
  by_cases z : m < 0
  · rw [ct_ix.no z] at h; cases h
  · obtain ⟨j, hj, rfl⟩ := nI_of z
    by_cases y : j < len
    · exact ⟨j, rfl, y, hj, ct_ix.ok hj y⟩
    · rw [ct_ix.ge hj y] at h; cases h
/-- where a module's names lie -/
def rr_F (T : List tx_Tk) (M : rm_M) (j : Nat) (v : tx_U) (lo li : Nat) : Prop := M.2.1 14 j = nI lo ∧ M.2.1 14 (j + 1) = nI (lo + v.2.2.1.countP rt_sg) ∧ M.2.1 15 j = nI li ∧ M.2.1 15 (j + 1) = nI (li + v.2.2.1.countP (fun r => !rt_sg r)) ∧ lo + v.2.2.1.countP rt_sg ≤ 11000 ∧ li + v.2.2.1.countP (fun r => !rt_sg r) ≤ 11000 ∧ rt_L T M lo li v.2.2.1 ∧ ∃ I, I ≤ 10241 ∧ rt_or M lo li I v.2.2.1
theorem rt_F.g (h : rt_F T M LO LI j v) (hLO : LO ≤ 10241) (hLI : LI ≤ 10241) : ∃ lo li, rr_F T M j v lo li := by
  obtain ⟨-, lo, li, fs, fa, b5, a, c, I, h1, h2, h3, h4, h5, h6, h7, h8, h9, h10, h11, h12, h13, h14, h15, h16, h17, h18, h19, h20, h21⟩ := h
  exact ⟨lo, li, h1, h5, h2, h6, by omega, by omega, h18, I, h21.2, h19⟩
theorem rr_len (L : List tx_N) : L.length = L.countP rt_sg + L.countP (fun r => !rt_sg r) := by
  rw [List.length_eq_countP_add_countP rt_sg]
  congr 1
  apply List.countP_congr
  intro x _
  simp
/-- what was fed so far -/
def rr_fd (M M1 : rm_M) (n k : Nat) (f' : Nat → Int32) : Prop := M1.1 = (rp_int M 0 0).1 ∧ (∀ j, j ≠ 1 → M1.2.1 j = M.2.1 j) ∧ M1.2.2 = M.2.2 ∧ (∀ j, j < n → M1.2.1 1 j = M.2.1 1 j) ∧ (∀ j, j < k → M1.2.1 1 (n + j) = f' (n + j)) ∧ ∀ j, fits .byte (.int (M1.2.1 1 j)) = true
theorem rr_fd.st {k : Nat} {f' : Nat → Int32} {y : Int32} (h : rr_fd M M1 n k f') (hy : y = f' (n + k)) (hb : fits .byte (.int y) = true) : rr_fd M (M1.1, va_up M1.2.1 1 (upd (M1.2.1 1) (n + k) y), M1.2.2) n (k + 1) f' := by
  obtain ⟨h1, h2, h3, h4, h5, h6⟩ := h
  refine ⟨h1, fun j hj => ?_, h3, fun j hj => ?_, fun j hj => ?_, fun j => ?_⟩
  · show va_up M1.2.1 1 _ j = _
    rw [va_up_ne _ _ hj]
    exact h2 j hj
  · show upd (M1.2.1 1) (n + k) y j = _
    rw [pk_un (by omega)]
    exact h4 j hj
  · show upd (M1.2.1 1) (n + k) y (n + j) = _
    by_cases z : j = k
    · rw [z, pk_us]
      exact hy
    · rw [pk_un (by omega)]
      exact h5 j (by omega)
  · show fits .byte (.int (upd (M1.2.1 1) (n + k) y j)) = true
    by_cases z : j = n + k
    · rw [z, pk_us]
      exact hb
    · rw [pk_un z]
      exact h6 j
theorem rr_fd.I {f' : Nat → Int32} (hI : rr_I M n f ft us) (hn : n + 20 ≤ 10240) (hf : ∀ j, j < n → f' j = f j) (h : rr_fd M M1 n 20 f') : rr_I (rp_int M1 54 (nI (n + 20))) (n + 20) f' ft us ∧ (rp_int M1 54 (nI (n + 20))).1 0 = 0 := by
  obtain ⟨g54, gn, gf, g3, gb, gu, gT⟩ := hI
  obtain ⟨h1, h2, h3, h4, h5, h6⟩ := h
  have ei : ∀ j, j ≠ 0 → j ≠ 54 → (rp_int M1 54 (nI (n + 20))).1 j = M.1 j := fun j d1 d2 => by
    show va_up M1.1 54 _ j = _
    rw [va_up_ne _ _ d2, h1]
    exact va_up_ne _ _ d1
  refine ⟨⟨rfl, hn, fun j hj => ?_, (ei 3 (by decide) (by decide)).trans g3, fun r hr j => ?_, fun j hj => ?_, ?_⟩, ?_⟩
  · show M1.2.1 1 j = _
    by_cases z : j < n
    · rw [h4 j z, hf j z]
      exact gf j z
    · have := h5 (j - n) (by omega)
      rw [show n + (j - n) = j by omega] at this
      exact this
  · rcases hr with rfl | rfl | rfl
    · exact h6 j
    · show fits .byte (.int (M1.2.1 52 j)) = true
      rw [h2 52 (by decide)]; exact gb 52 (by simp) j
    · show fits .byte (.int (M1.2.1 53 j)) = true
      rw [h2 53 (by decide)]; exact gb 53 (by simp) j
  · show tx_isU (M1.2.1 4 j) = false
    rw [h2 4 (by decide)]; exact gu j hj
  · have e53 : (rp_int M1 54 (nI (n + 20))).2.1 53 = M.2.1 53 := h2 53 (by decide)
    have e52 : (rp_int M1 54 (nI (n + 20))).2.1 52 = M.2.1 52 := h2 52 (by decide)
    rw [e53, e52]
    rcases gT with ⟨y1, y2⟩ | ⟨nn, i, s, t1, t2, t3, t4, t5, t6, t7, t8, t9, t10, LO, LI, t11, t12, t13⟩
    · exact Or.inl ⟨(ei 51 (by decide) (by decide)).trans y1, y2⟩
    · refine Or.inr ⟨nn, i, s, (ei 51 (by decide) (by decide)).trans t1, (ei 55 (by decide) (by decide)).trans t2, t3, t4, t5.to (ei 2 (by decide) (by decide)) (fun j hj => h2 j (by omega)), t6, t7, t8, (ei 12 (by decide) (by decide)).trans t9, t10, LO, LI, t11, t12, fun j v hv => ?_⟩
      refine (t13 j v hv).to (mc := us.length) (tx_len hv) (rt_pre.of (fun j hj => h2 j (by omega)) (fun j _ => ?_)) (Nat.le_refl _) (Nat.le_refl _)
      show M1.2.2.1 j = _
      rw [h3]
  · show M1.1 0 = 0
    rw [h1]
    rfl
theorem rr_I.cut {n' : Nat} (h : rr_I M n f ft us) (hn : n' ≤ n) : rr_I (rp_int M 54 (nI n')) n' f ft us := by
  obtain ⟨g54, gn, gf, g3, gb, gu, gT⟩ := h
  exact ⟨rfl, by omega, fun j hj => gf j (by omega), g3, gb, gu, gT⟩
end RRC
set_option maxRecDepth 100000 in
theorem c_Mo_thrown {k : cx_K} {l : Launch} {G : cx_G} {mo : Nat} {P : Nat → Nat} {M : rm_M} {b : Nat × Nat} (hm : rm_R k G mo P M) (hQ : rm_Q b G M)  : cx_Sp k l m_Mo_thrown 0 [.ref mo] G (rp_R G (fun v => v = M.1 0)) := by
  intro E hE
  have W0 := rm_W.rf hm hQ
  have m0 := hm.1
  refine cx_aload_n (i := 0) hE d_Mo_thrown_0 rfl rfl ?_
  refine cx_get hE d_Mo_thrown_1 f_Mo_122 (by assumption) (by rfl) ?_
  refine cx_iret hE d_Mo_thrown_4 rfl rfl ?_
  exact ⟨_, rfl, rfl, rfl⟩
set_option maxRecDepth 100000 in
theorem c_Mo_fault {k : cx_K} {l : Launch} {G : cx_G} {mo : Nat} {P : Nat → Nat} {M : rm_M} {b : Nat × Nat} (hm : rm_R k G mo P M) (hQ : rm_Q b G M) {n : Nat} {f : Nat → Int32} {ft : Int32} {us : List tx_U} (hI : rr_I M n f ft us)  : cx_Sp k l m_Mo_fault 0 [.ref mo] G (rp_P k mo b G P (fun v M9 => v = ft ∧ M9 = rp_int M 0 0)) := by
  intro E hE
  have W0 := rm_W.rf hm hQ
  have m0 := hm.1
  refine cx_aload_n (i := 0) hE d_Mo_fault_0 rfl rfl ?_
  refine cx_iconst (v := 0) hE d_Mo_fault_1 (by decide) ?_
  refine cx_putg hE d_Mo_fault_2 f_Mo_122 (by assumption) (Nat.le_of_ble_eq_true rfl) (by first | rfl | exact cx_nr _ _) (by first | rfl | exact cx_fr _ _) (fun G_2 g_2 h_2 => ?_)
  rw [rm_s0] at g_2
  clear h_2
  have W_2 : rm_W k mo b G P G_2 P (rp_int M 0 0) := W0.pi g_2
  have m_2 := W_2.1.1
  refine cx_aload_n (i := 0) hE d_Mo_fault_5 rfl rfl ?_
  refine cx_get hE d_Mo_fault_6 f_Mo_413 (by assumption) (by rfl) ?_
  refine cx_iret hE d_Mo_fault_9 rfl rfl ?_
  exact ⟨_, _, _, rfl, W_2, hI.2.2.2.1, rfl⟩
set_option maxRecDepth 100000 in
theorem c_Mo_count {k : cx_K} {l : Launch} {G : cx_G} {mo : Nat} {P : Nat → Nat} {M : rm_M} {b : Nat × Nat} (hm : rm_R k G mo P M) (hQ : rm_Q b G M) {n : Nat} {f : Nat → Int32} {ft : Int32} {us : List tx_U} (hI : rr_I M n f ft us)  : cx_Sp k l m_Mo_count 0 [.ref mo] G (rp_P k mo b G P (fun v M9 => v = nI us.length ∧ M9 = rp_int M 0 0)) := by
  intro E hE
  have W0 := rm_W.rf hm hQ
  have m0 := hm.1
  refine cx_aload_n (i := 0) hE d_Mo_count_0 rfl rfl ?_
  refine cx_iconst (v := 0) hE d_Mo_count_1 (by decide) ?_
  refine cx_putg hE d_Mo_count_2 f_Mo_122 (by assumption) (Nat.le_of_ble_eq_true rfl) (by first | rfl | exact cx_nr _ _) (by first | rfl | exact cx_fr _ _) (fun G_2 g_2 h_2 => ?_)
  rw [rm_s0] at g_2
  clear h_2
  have W_2 : rm_W k mo b G P G_2 P (rp_int M 0 0) := W0.pi g_2
  have m_2 := W_2.1.1
  refine cx_aload_n (i := 0) hE d_Mo_count_5 rfl rfl ?_
  refine cx_get hE d_Mo_count_6 f_Mo_419 (by assumption) (by rfl) ?_
  refine cx_if_eq (tgt := 19)  hE d_Mo_count_9 (by decide) (fun c_9 => ?_) (fun c_9 => ?_)
  · refine cx_iconst (v := 0) hE d_Mo_count_19 (by decide) ?_
    refine cx_iret hE d_Mo_count_20 rfl rfl ?_
    exact ⟨_, _, _, rfl, W_2, by rw [hI.no c_9]; rfl, rfl⟩
  · refine cx_aload_n (i := 0) hE d_Mo_count_12 rfl rfl ?_
    refine cx_get hE d_Mo_count_13 f_Mo_266 (by assumption) (by rfl) ?_
    refine cx_goto (tgt := 20) hE d_Mo_count_16 (by decide) ?_
    refine cx_iret hE d_Mo_count_20 rfl rfl ?_
    obtain ⟨nn, T, -, q1, -⟩ := hI.mod c_9
    exact ⟨_, _, _, rfl, W_2, q1, rfl⟩
set_option maxRecDepth 100000 in
theorem c_Mo_isModule {k : cx_K} {l : Launch} {G : cx_G} {mo : Nat} {P : Nat → Nat} {M : rm_M} {b : Nat × Nat} (hm : rm_R k G mo P M) (hQ : rm_Q b G M) {n : Nat} {f : Nat → Int32} {ft : Int32} {us : List tx_U} (hI : rr_I M n f ft us) {m : Int32}  : cx_Sp k l m_Mo_isModule 0 [.ref mo, .int m] G (rp_R G (fun v => v = cx_b (ct_ix m us.length).isSome)) := by
  intro E hE
  have W0 := rm_W.rf hm hQ
  have m0 := hm.1
  refine cx_aload_n (i := 0) hE d_Mo_isModule_0 rfl rfl ?_
  refine cx_get hE d_Mo_isModule_1 f_Mo_419 (by assumption) (by rfl) ?_
  refine cx_if_eq (tgt := 23)  hE d_Mo_isModule_4 (by decide) (fun c_4 => ?_) (fun c_4 => ?_)
  · have K_4 : (0 : Int32) = cx_b (ct_ix m us.length).isSome := by rw [hI.no c_4, rr_ix0]; rfl
    refine cx_iconst (v := 0) hE d_Mo_isModule_23 (by decide) ?_
    refine cx_iret hE d_Mo_isModule_24 rfl rfl ?_
    exact ⟨_, rfl, rfl, K_4⟩
  · refine cx_iload_n (i := 1) hE d_Mo_isModule_7 rfl rfl ?_
    refine cx_if_lt (tgt := 23)  hE d_Mo_isModule_8 (by decide) (fun c_8 => ?_) (fun c_8 => ?_)
    · have K_8 : (0 : Int32) = cx_b (ct_ix m us.length).isSome := by rw [ct_ix.no c_8]; rfl
      refine cx_iconst (v := 0) hE d_Mo_isModule_23 (by decide) ?_
      refine cx_iret hE d_Mo_isModule_24 rfl rfl ?_
      exact ⟨_, rfl, rfl, K_8⟩
    · refine cx_iload_n (i := 1) hE d_Mo_isModule_11 rfl rfl ?_
      refine cx_aload_n (i := 0) hE d_Mo_isModule_12 rfl rfl ?_
      refine cx_get hE d_Mo_isModule_13 f_Mo_266 (by assumption) (by rfl) ?_
      obtain ⟨nn, T, -, e12, l12, -⟩ := hI.mod c_4
      rw [e12]
      refine cx_icmp_ge (tgt := 23)  hE d_Mo_isModule_16 (by decide) (fun c_16 => ?_) (fun c_16 => ?_)
      · have K_16 : (0 : Int32) = cx_b (ct_ix m us.length).isSome := by rw [rr_ixg c_8 (by omega) c_16]; rfl
        refine cx_iconst (v := 0) hE d_Mo_isModule_23 (by decide) ?_
        refine cx_iret hE d_Mo_isModule_24 rfl rfl ?_
        exact ⟨_, rfl, rfl, K_16⟩
      · have K_16 : (1 : Int32) = cx_b (ct_ix m us.length).isSome := by rw [rr_ixl c_8 (by omega) c_16]; rfl
        refine cx_iconst (v := 1) hE d_Mo_isModule_19 (by decide) ?_
        refine cx_goto (tgt := 24) hE d_Mo_isModule_20 (by decide) ?_
        refine cx_iret hE d_Mo_isModule_24 rfl rfl ?_
        exact ⟨_, rfl, rfl, K_16⟩
set_option maxRecDepth 100000 in
theorem c_Mo_names {k : cx_K} {l : Launch} {G : cx_G} {mo : Nat} {P : Nat → Nat} {M : rm_M} {b : Nat × Nat} (hm : rm_R k G mo P M) (hQ : rm_Q b G M) {T : List tx_Tk} {j lo li : Nat} {v : tx_U} (hj : j < 3600) (hF : rr_F T M j v lo li)  : cx_Sp k l m_Mo_names 0 [.ref mo, .int (nI j)] G (rp_R G (fun x => x = nI v.2.2.1.length)) := by
  intro E hE
  have W0 := rm_W.rf hm hQ
  have m0 := hm.1
  refine cx_aload_n (i := 0) hE d_Mo_names_0 rfl rfl ?_
  refine cx_get hE d_Mo_names_1 f_Mo_28 (by assumption) (by rfl) ?_
  refine cx_iload_n (i := 1) hE d_Mo_names_4 rfl rfl ?_
  refine cx_iconst (v := 1) hE d_Mo_names_5 (by decide) ?_
  refine cx_iadd hE d_Mo_names_6 ?_
  rw [nI_1]
  refine cx_iald 1 hE d_Mo_names_7 rfl (W0.1.i 14 rfl) (vp_in_nI (by show _ < 3601; omega) (by show 3601 < 2147483648; omega)) ?_
  rw [nI_clamp (by omega)]
  refine cx_aload_n (i := 0) hE d_Mo_names_8 rfl rfl ?_
  refine cx_get hE d_Mo_names_9 f_Mo_28 (by assumption) (by rfl) ?_
  refine cx_iload_n (i := 1) hE d_Mo_names_12 rfl rfl ?_
  refine cx_iald 1 hE d_Mo_names_13 rfl (W0.1.i 14 rfl) (vp_in_nI (by show _ < 3601; omega) (by show 3601 < 2147483648; omega)) ?_
  rw [nI_clamp (by omega)]
  refine cx_isub hE d_Mo_names_14 ?_
  refine cx_aload_n (i := 0) hE d_Mo_names_15 rfl rfl ?_
  refine cx_get hE d_Mo_names_16 f_Mo_31 (by assumption) (by rfl) ?_
  refine cx_iload_n (i := 1) hE d_Mo_names_19 rfl rfl ?_
  refine cx_iconst (v := 1) hE d_Mo_names_20 (by decide) ?_
  refine cx_iadd hE d_Mo_names_21 ?_
  rw [nI_1]
  refine cx_iald 1 hE d_Mo_names_22 rfl (W0.1.i 15 rfl) (vp_in_nI (by show _ < 3601; omega) (by show 3601 < 2147483648; omega)) ?_
  rw [nI_clamp (by omega)]
  refine cx_iadd hE d_Mo_names_23 ?_
  refine cx_aload_n (i := 0) hE d_Mo_names_24 rfl rfl ?_
  refine cx_get hE d_Mo_names_25 f_Mo_31 (by assumption) (by rfl) ?_
  refine cx_iload_n (i := 1) hE d_Mo_names_28 rfl rfl ?_
  refine cx_iald 1 hE d_Mo_names_29 rfl (W0.1.i 15 rfl) (vp_in_nI (by show _ < 3601; omega) (by show 3601 < 2147483648; omega)) ?_
  rw [nI_clamp (by omega)]
  refine cx_isub hE d_Mo_names_30 ?_
  refine cx_iret hE d_Mo_names_31 rfl rfl ?_
  refine ⟨_, rfl, rfl, ?_⟩
  rw [hF.1, hF.2.1, hF.2.2.1, hF.2.2.2.1, pk_sub (by omega), nI_add, pk_sub (by omega), rr_len]
  congr 1
  omega
set_option maxRecDepth 100000 in
theorem c_Mo_end {k : cx_K} {l : Launch} {G : cx_G} {mo : Nat} {P : Nat → Nat} {M : rm_M} {b : Nat × Nat} (hm : rm_R k G mo P M) (hQ : rm_Q b G M) {n : Nat} {f : Nat → Int32} {ft : Int32} {us : List tx_U} (hI : rr_I M n f ft us) {x : Int32}  : cx_Sp k l m_Mo_end 0 [.ref mo, .int x] G (rp_P0 k mo b G P (fun M9 => (¬ x < 0 ∧ x ≤ nI n ∧ M9.1 0 = 0 ∧ rr_I M9 x.toNatClampNeg f ft us) ∨ ((x < 0 ∨ ¬ x ≤ nI n) ∧ M9.1 0 = 1 ∧ rr_I M9 n f ft us))) := by
  intro E hE
  have W0 := rm_W.rf hm hQ
  have m0 := hm.1
  have e54 : M.1 54 = nI n := hI.1
  have ln := hI.2.1
  refine cx_aload_n (i := 0) hE d_Mo_end_0 rfl rfl ?_
  refine cx_iload_n (i := 1) hE d_Mo_end_1 rfl rfl ?_
  refine cx_if_lt (tgt := 13)  hE d_Mo_end_2 (by decide) (fun c_2 => ?_) (fun c_2 => ?_)
  · refine cx_iconst (v := 1) hE d_Mo_end_13 (by decide) ?_
    refine cx_goto (tgt := 18) hE d_Mo_end_14 (by decide) ?_
    refine cx_putg hE d_Mo_end_18 f_Mo_122 (by assumption) (Nat.le_of_ble_eq_true rfl) (by first | rfl | exact cx_nr _ _) (by first | rfl | exact cx_fr _ _) (fun G_18 g_18 h_18 => ?_)
    rw [rm_s0] at g_18
    clear h_18
    have W_18 : rm_W k mo b G P G_18 P (rp_int M 0 1) := W0.pi g_18
    have m_18 := W_18.1.1
    refine cx_aload_n (i := 0) hE d_Mo_end_21 rfl rfl ?_
    refine cx_aload_n (i := 0) hE d_Mo_end_22 rfl rfl ?_
    refine cx_get hE d_Mo_end_23 f_Mo_122 (by assumption) (by rfl) ?_
    refine cx_if_le (tgt := 36)  hE d_Mo_end_26 (by decide) (fun c_26 => ?_) (fun c_26 => ?_)
    · exact absurd c_26 (show ¬ (1 : Int32) ≤ 0 by decide)
      -- end
    · refine cx_aload_n (i := 0) hE d_Mo_end_29 rfl rfl ?_
      refine cx_get hE d_Mo_end_30 f_Mo_407 (by assumption) (by rfl) ?_
      rw [show (rp_int M 0 1).1 54 = nI n from e54]
      refine cx_goto (tgt := 37) hE d_Mo_end_33 (by decide) ?_
      refine cx_putg hE d_Mo_end_37 f_Mo_407 (by assumption) (Nat.le_of_ble_eq_true rfl) (by first | rfl | exact cx_nr _ _) (by first | rfl | exact cx_fr _ _) (fun G_37 g_37 h_37 => ?_)
      rw [rm_s54] at g_37
      clear h_37
      have W_37 : rm_W k mo b G P G_37 P (rp_int (rp_int M 0 1) 54 (nI n)) := W_18.pi g_37
      have m_37 := W_37.1.1
      refine cx_vret hE d_Mo_end_40 rfl ?_
      refine ⟨_, _, rfl, W_37, Or.inr ⟨Or.inl c_2, rfl, ?_⟩⟩
      exact (show rr_I (rp_int (rp_int M 0 1) 54 (nI n)) n f ft us from (hI.z 1).cut (Nat.le_refl _))
  · refine cx_iload_n (i := 1) hE d_Mo_end_5 rfl rfl ?_
    refine cx_aload_n (i := 0) hE d_Mo_end_6 rfl rfl ?_
    refine cx_get hE d_Mo_end_7 f_Mo_407 (by assumption) (by rfl) ?_
    refine cx_icmp_le (tgt := 17)  hE d_Mo_end_10 (by decide) (fun c_10 => ?_) (fun c_10 => ?_)
    · refine cx_iconst (v := 0) hE d_Mo_end_17 (by decide) ?_
      refine cx_putg hE d_Mo_end_18 f_Mo_122 (by assumption) (Nat.le_of_ble_eq_true rfl) (by first | rfl | exact cx_nr _ _) (by first | rfl | exact cx_fr _ _) (fun G_18 g_18 h_18 => ?_)
      rw [rm_s0] at g_18
      clear h_18
      have W_18 : rm_W k mo b G P G_18 P (rp_int M 0 0) := W0.pi g_18
      have m_18 := W_18.1.1
      refine cx_aload_n (i := 0) hE d_Mo_end_21 rfl rfl ?_
      refine cx_aload_n (i := 0) hE d_Mo_end_22 rfl rfl ?_
      refine cx_get hE d_Mo_end_23 f_Mo_122 (by assumption) (by rfl) ?_
      refine cx_if_le (tgt := 36)  hE d_Mo_end_26 (by decide) (fun c_26 => ?_) (fun c_26 => ?_)
      · refine cx_iload_n (i := 1) hE d_Mo_end_36 rfl rfl ?_
        refine cx_putg hE d_Mo_end_37 f_Mo_407 (by assumption) (Nat.le_of_ble_eq_true rfl) (by first | rfl | exact cx_nr _ _) (by first | rfl | exact cx_fr _ _) (fun G_37 g_37 h_37 => ?_)
        rw [rm_s54] at g_37
        clear h_37
        have W_37 : rm_W k mo b G P G_37 P (rp_int (rp_int M 0 0) 54 x) := W_18.pi g_37
        have m_37 := W_37.1.1
        refine cx_vret hE d_Mo_end_40 rfl ?_
        obtain ⟨j, hj, rfl⟩ := nI_of c_2
        have c_10' : nI j ≤ nI n := by rw [← e54]; exact c_10
        refine ⟨_, _, rfl, W_37, Or.inl ⟨c_2, c_10', rfl, ?_⟩⟩
        rw [nI_clamp hj]
        exact (hI.z 0).cut ((nI_leI hj (by omega)).mp c_10')
      · exact absurd (show (0 : Int32) ≤ 0 by decide) c_26
        -- end
    · refine cx_iconst (v := 1) hE d_Mo_end_13 (by decide) ?_
      refine cx_goto (tgt := 18) hE d_Mo_end_14 (by decide) ?_
      refine cx_putg hE d_Mo_end_18 f_Mo_122 (by assumption) (Nat.le_of_ble_eq_true rfl) (by first | rfl | exact cx_nr _ _) (by first | rfl | exact cx_fr _ _) (fun G_18 g_18 h_18 => ?_)
      rw [rm_s0] at g_18
      clear h_18
      have W_18 : rm_W k mo b G P G_18 P (rp_int M 0 1) := W0.pi g_18
      have m_18 := W_18.1.1
      refine cx_aload_n (i := 0) hE d_Mo_end_21 rfl rfl ?_
      refine cx_aload_n (i := 0) hE d_Mo_end_22 rfl rfl ?_
      refine cx_get hE d_Mo_end_23 f_Mo_122 (by assumption) (by rfl) ?_
      refine cx_if_le (tgt := 36)  hE d_Mo_end_26 (by decide) (fun c_26 => ?_) (fun c_26 => ?_)
      · exact absurd c_26 (show ¬ (1 : Int32) ≤ 0 by decide)
        -- end
      · refine cx_aload_n (i := 0) hE d_Mo_end_29 rfl rfl ?_
        refine cx_get hE d_Mo_end_30 f_Mo_407 (by assumption) (by rfl) ?_
        rw [show (rp_int M 0 1).1 54 = nI n from e54]
        refine cx_goto (tgt := 37) hE d_Mo_end_33 (by decide) ?_
        refine cx_putg hE d_Mo_end_37 f_Mo_407 (by assumption) (Nat.le_of_ble_eq_true rfl) (by first | rfl | exact cx_nr _ _) (by first | rfl | exact cx_fr _ _) (fun G_37 g_37 h_37 => ?_)
        rw [rm_s54] at g_37
        clear h_37
        have W_37 : rm_W k mo b G P G_37 P (rp_int (rp_int M 0 1) 54 (nI n)) := W_18.pi g_37
        have m_37 := W_37.1.1
        refine cx_vret hE d_Mo_end_40 rfl ?_
        refine ⟨_, _, rfl, W_37, Or.inr ⟨Or.inr (by rw [← e54]; exact c_10), rfl, ?_⟩⟩
        exact (show rr_I (rp_int (rp_int M 0 1) 54 (nI n)) n f ft us from (hI.z 1).cut (Nat.le_refl _))

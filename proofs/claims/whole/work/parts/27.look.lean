/-! MEANING: methods that look and check. -/
/-- a method of Meaning that makes nothing: it answers v, and the heap holds s' -/
def tx_mq (k : cx_K) (F : Nat → Prop) (G : cx_G) (A : tx_A) (s' : tx_S) (v : Option Value) : cx_R → cx_G → Prop := fun r G' => r = .inl v ∧ tx_m k F G' A s' ∧ tx_st F G G' ∧ G'.2 = G.2
/-- a token of the chain, with its word -/
def tx_tw (G : cx_G) (A : tx_A) (a : Nat) (t : tx_Tk) : Prop := ∃ nx, tx_to G a t nx (A.w t.2.2.2.1) ∧ ∀ T, t.2.2.2.1 = some T → ∃ w, A.wf T = some w
theorem tx_tw.st {F : Nat → Prop} {G G' : cx_G} {A : tx_A} {a : Nat} {t : tx_Tk} (h : tx_st F G G') (ht : tx_tw G A a t) : tx_tw G' A a t := by
  obtain ⟨nx, h1, h2⟩ := ht
  exact ⟨nx, h.t h1, h2⟩
theorem c_ck {k : cx_K} {l : Launch} {F : Nat → Prop} {G : cx_G} {A : tx_A} {s : tx_S} {right : Bool} {code place : Int32} (hm : tx_m k F G A s) : cx_Sp k l m_Ve_check 0 [.ref A.ve, .int (cx_b right), .int code, .int place] G (tx_mq k F G A (tx_ck right code place s) none) := by
  refine (c_Ve_check (right := right) (code := code) (place := place) hm.1).weaken (fun r G' h => ?_)
  obtain ⟨h1, h2⟩ := h
  unfold tx_ck
  by_cases z : right = false ∧ s.1.1 = 0
  · rw [if_pos z] at h2 ⊢
    subst h2
    exact ⟨h1, tx_m.ve (tx_kp.put hm.1) (cx_ps rfl) hm, tx_st.put hm.2.2.2.2.2.2.2.2.2.2.1 (by decide) hm.1, rfl⟩
  · rw [if_neg z] at h2 ⊢
    subst h2
    exact ⟨h1, hm, tx_st.rf _ _, rfl⟩
/-- what the text is in the module that is being read -/
def tx_S.da (s : tx_S) (x : tx_X) : Option Nat := match x.bind s.2.2.2.2 with
  | some (j, q) => if j = s.2.1.length ∧ s.2.2.1.isSome = true then some q else none
  | none => none
def tx_S.mo (s : tx_S) (x : tx_X) : Option Nat := x.bind s.2.2.2.1
set_option maxRecDepth 100000 in
theorem c_Nm_isDrivable {k : cx_K} {l : Launch} {G : cx_G} {a : Nat} {x0 x1 x3 x4 x5 x6 x7 x8 x9 x10 : Value} {kd : Int32} (hG : G.1 a = some (.inr (4, [x0, x1, .int kd, x3, x4, x5, x6, x7, x8, x9, x10]))) : cx_Sp k l m_Nm_isDrivable 0 [.ref a] G (cx_rd (some (.int (cx_b (decide (kd = 1 ∨ kd = 3))))) G) := by
  intro E hE
  refine cx_aload_n (i := 0) hE d_Nm_isDrivable_0 rfl rfl ?_
  refine cx_get hE d_Nm_isDrivable_1 f_Nm_44 (by assumption) (by rfl) ?_
  refine cx_iconst (v := 1) hE d_Nm_isDrivable_4 (by decide) ?_
  refine cx_icmp_eq (tgt := 16)  hE d_Nm_isDrivable_5 (by decide) (fun c_5 => ?_) (fun c_5 => ?_)
  · refine cx_iconst (v := 1) hE d_Nm_isDrivable_16 (by decide) ?_
    refine cx_goto (tgt := 21) hE d_Nm_isDrivable_17 (by decide) ?_
    refine cx_iret hE d_Nm_isDrivable_21 rfl rfl ?_
    refine ⟨?_, rfl⟩
    clear hE
    try simp only [Classical.not_not] at *
    first
      | (rw [show decide _ = true from decide_eq_true (by first | exact Or.inl (by assumption) | exact Or.inr (by assumption))]; rfl)
      | (rw [show decide _ = false from decide_eq_false (fun z => z.elim (by assumption) (by assumption))]; rfl)
  · refine cx_aload_n (i := 0) hE d_Nm_isDrivable_8 rfl rfl ?_
    refine cx_get hE d_Nm_isDrivable_9 f_Nm_44 (by assumption) (by rfl) ?_
    refine cx_iconst (v := 3) hE d_Nm_isDrivable_12 (by decide) ?_
    refine cx_icmp_ne (tgt := 20)  hE d_Nm_isDrivable_13 (by decide) (fun c_13 => ?_) (fun c_13 => ?_)
    · refine cx_iconst (v := 0) hE d_Nm_isDrivable_20 (by decide) ?_
      refine cx_iret hE d_Nm_isDrivable_21 rfl rfl ?_
      refine ⟨?_, rfl⟩
      clear hE
      try simp only [Classical.not_not] at *
      first
        | (rw [show decide _ = true from decide_eq_true (by first | exact Or.inl (by assumption) | exact Or.inr (by assumption))]; rfl)
        | (rw [show decide _ = false from decide_eq_false (fun z => z.elim (by assumption) (by assumption))]; rfl)
    · refine cx_iconst (v := 1) hE d_Nm_isDrivable_16 (by decide) ?_
      refine cx_goto (tgt := 21) hE d_Nm_isDrivable_17 (by decide) ?_
      refine cx_iret hE d_Nm_isDrivable_21 rfl rfl ?_
      refine ⟨?_, rfl⟩
      clear hE
      try simp only [Classical.not_not] at *
      first
        | (rw [show decide _ = true from decide_eq_true (by first | exact Or.inl (by assumption) | exact Or.inr (by assumption))]; rfl)
        | (rw [show decide _ = false from decide_eq_false (fun z => z.elim (by assumption) (by assumption))]; rfl)
set_option maxRecDepth 100000 in
theorem c_Nm_isRegister {k : cx_K} {l : Launch} {G : cx_G} {a : Nat} {x0 x1 x3 x4 x5 x6 x7 x8 x9 x10 : Value} {kd : Int32} (hG : G.1 a = some (.inr (4, [x0, x1, .int kd, x3, x4, x5, x6, x7, x8, x9, x10]))) : cx_Sp k l m_Nm_isRegister 0 [.ref a] G (cx_rd (some (.int (cx_b (decide (kd = 2 ∨ kd = 4))))) G) := by
  intro E hE
  refine cx_aload_n (i := 0) hE d_Nm_isRegister_0 rfl rfl ?_
  refine cx_get hE d_Nm_isRegister_1 f_Nm_44 (by assumption) (by rfl) ?_
  refine cx_iconst (v := 2) hE d_Nm_isRegister_4 (by decide) ?_
  refine cx_icmp_eq (tgt := 16)  hE d_Nm_isRegister_5 (by decide) (fun c_5 => ?_) (fun c_5 => ?_)
  · refine cx_iconst (v := 1) hE d_Nm_isRegister_16 (by decide) ?_
    refine cx_goto (tgt := 21) hE d_Nm_isRegister_17 (by decide) ?_
    refine cx_iret hE d_Nm_isRegister_21 rfl rfl ?_
    refine ⟨?_, rfl⟩
    clear hE
    try simp only [Classical.not_not] at *
    first
      | (rw [show decide _ = true from decide_eq_true (by first | exact Or.inl (by assumption) | exact Or.inr (by assumption))]; rfl)
      | (rw [show decide _ = false from decide_eq_false (fun z => z.elim (by assumption) (by assumption))]; rfl)
  · refine cx_aload_n (i := 0) hE d_Nm_isRegister_8 rfl rfl ?_
    refine cx_get hE d_Nm_isRegister_9 f_Nm_44 (by assumption) (by rfl) ?_
    refine cx_iconst (v := 4) hE d_Nm_isRegister_12 (by decide) ?_
    refine cx_icmp_ne (tgt := 20)  hE d_Nm_isRegister_13 (by decide) (fun c_13 => ?_) (fun c_13 => ?_)
    · refine cx_iconst (v := 0) hE d_Nm_isRegister_20 (by decide) ?_
      refine cx_iret hE d_Nm_isRegister_21 rfl rfl ?_
      refine ⟨?_, rfl⟩
      clear hE
      try simp only [Classical.not_not] at *
      first
        | (rw [show decide _ = true from decide_eq_true (by first | exact Or.inl (by assumption) | exact Or.inr (by assumption))]; rfl)
        | (rw [show decide _ = false from decide_eq_false (fun z => z.elim (by assumption) (by assumption))]; rfl)
    · refine cx_iconst (v := 1) hE d_Nm_isRegister_16 (by decide) ?_
      refine cx_goto (tgt := 21) hE d_Nm_isRegister_17 (by decide) ?_
      refine cx_iret hE d_Nm_isRegister_21 rfl rfl ?_
      refine ⟨?_, rfl⟩
      clear hE
      try simp only [Classical.not_not] at *
      first
        | (rw [show decide _ = true from decide_eq_true (by first | exact Or.inl (by assumption) | exact Or.inr (by assumption))]; rfl)
        | (rw [show decide _ = false from decide_eq_false (fun z => z.elim (by assumption) (by assumption))]; rfl)
set_option maxRecDepth 100000 in
theorem c_Nm_isOutput {k : cx_K} {l : Launch} {G : cx_G} {a : Nat} {x0 x1 x3 x4 x5 x6 x7 x8 x9 x10 : Value} {kd : Int32} (hG : G.1 a = some (.inr (4, [x0, x1, .int kd, x3, x4, x5, x6, x7, x8, x9, x10]))) : cx_Sp k l m_Nm_isOutput 0 [.ref a] G (cx_rd (some (.int (cx_b (decide (kd = 1 ∨ kd = 2))))) G) := by
  intro E hE
  refine cx_aload_n (i := 0) hE d_Nm_isOutput_0 rfl rfl ?_
  refine cx_get hE d_Nm_isOutput_1 f_Nm_44 (by assumption) (by rfl) ?_
  refine cx_iconst (v := 1) hE d_Nm_isOutput_4 (by decide) ?_
  refine cx_icmp_eq (tgt := 16)  hE d_Nm_isOutput_5 (by decide) (fun c_5 => ?_) (fun c_5 => ?_)
  · refine cx_iconst (v := 1) hE d_Nm_isOutput_16 (by decide) ?_
    refine cx_goto (tgt := 21) hE d_Nm_isOutput_17 (by decide) ?_
    refine cx_iret hE d_Nm_isOutput_21 rfl rfl ?_
    refine ⟨?_, rfl⟩
    clear hE
    try simp only [Classical.not_not] at *
    first
      | (rw [show decide _ = true from decide_eq_true (by first | exact Or.inl (by assumption) | exact Or.inr (by assumption))]; rfl)
      | (rw [show decide _ = false from decide_eq_false (fun z => z.elim (by assumption) (by assumption))]; rfl)
  · refine cx_aload_n (i := 0) hE d_Nm_isOutput_8 rfl rfl ?_
    refine cx_get hE d_Nm_isOutput_9 f_Nm_44 (by assumption) (by rfl) ?_
    refine cx_iconst (v := 2) hE d_Nm_isOutput_12 (by decide) ?_
    refine cx_icmp_ne (tgt := 20)  hE d_Nm_isOutput_13 (by decide) (fun c_13 => ?_) (fun c_13 => ?_)
    · refine cx_iconst (v := 0) hE d_Nm_isOutput_20 (by decide) ?_
      refine cx_iret hE d_Nm_isOutput_21 rfl rfl ?_
      refine ⟨?_, rfl⟩
      clear hE
      try simp only [Classical.not_not] at *
      first
        | (rw [show decide _ = true from decide_eq_true (by first | exact Or.inl (by assumption) | exact Or.inr (by assumption))]; rfl)
        | (rw [show decide _ = false from decide_eq_false (fun z => z.elim (by assumption) (by assumption))]; rfl)
    · refine cx_iconst (v := 1) hE d_Nm_isOutput_16 (by decide) ?_
      refine cx_goto (tgt := 21) hE d_Nm_isOutput_17 (by decide) ?_
      refine cx_iret hE d_Nm_isOutput_21 rfl rfl ?_
      refine ⟨?_, rfl⟩
      clear hE
      try simp only [Classical.not_not] at *
      first
        | (rw [show decide _ = true from decide_eq_true (by first | exact Or.inl (by assumption) | exact Or.inr (by assumption))]; rfl)
        | (rw [show decide _ = false from decide_eq_false (fun z => z.elim (by assumption) (by assumption))]; rfl)
set_option maxRecDepth 100000 in
theorem c_To_plain {k : cx_K} {l : Launch} {G : cx_G} {a : Nat} {t : tx_Tk} {nx w : Option Nat} (hG : tx_to G a t nx w) : cx_Sp k l m_To_plain 0 [.ref a] G (cx_rd (some (.int t.2.2.2.2.2.toInt32)) G) := by
  intro E hE
  have hG1 : G.1 a = some (.inr (7, [.int t.1, .int (nI t.2.1), .int (nI t.2.2.1), va_rf nx, va_rf w, .int t.2.2.2.2.1, .long t.2.2.2.2.2])) := hG
  refine cx_aload_n (i := 0) hE d_To_plain_0 rfl rfl ?_
  refine cx_get hE d_To_plain_1 f_To_21 (by assumption) (by rfl) ?_
  refine cx_l2i hE d_To_plain_4 ?_
  refine cx_iret hE d_To_plain_5 rfl rfl ?_
  exact ⟨rfl, rfl⟩

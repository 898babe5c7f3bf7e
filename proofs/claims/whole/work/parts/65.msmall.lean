/-! THE REFERENCE: its small methods. -/
theorem rm_s0 (P : Nat → Nat) (I : Nat → Int32) (v : Int32) : (rm_fs P I).set 0 (.int v) = rm_fs P (va_up I 0 v) := rfl
theorem rm_s2 (P : Nat → Nat) (I : Nat → Int32) (v : Int32) : (rm_fs P I).set 2 (.int v) = rm_fs P (va_up I 2 v) := rfl
theorem rm_s3 (P : Nat → Nat) (I : Nat → Int32) (v : Int32) : (rm_fs P I).set 3 (.int v) = rm_fs P (va_up I 3 v) := rfl
theorem rm_s7 (P : Nat → Nat) (I : Nat → Int32) (v : Int32) : (rm_fs P I).set 7 (.int v) = rm_fs P (va_up I 7 v) := rfl
theorem rm_s8 (P : Nat → Nat) (I : Nat → Int32) (v : Int32) : (rm_fs P I).set 8 (.int v) = rm_fs P (va_up I 8 v) := rfl
theorem rm_s9 (P : Nat → Nat) (I : Nat → Int32) (v : Int32) : (rm_fs P I).set 9 (.int v) = rm_fs P (va_up I 9 v) := rfl
theorem rm_s10 (P : Nat → Nat) (I : Nat → Int32) (v : Int32) : (rm_fs P I).set 10 (.int v) = rm_fs P (va_up I 10 v) := rfl
theorem rm_s11 (P : Nat → Nat) (I : Nat → Int32) (v : Int32) : (rm_fs P I).set 11 (.int v) = rm_fs P (va_up I 11 v) := rfl
theorem rm_s12 (P : Nat → Nat) (I : Nat → Int32) (v : Int32) : (rm_fs P I).set 12 (.int v) = rm_fs P (va_up I 12 v) := rfl
theorem rm_s18 (P : Nat → Nat) (I : Nat → Int32) (v : Int32) : (rm_fs P I).set 18 (.int v) = rm_fs P (va_up I 18 v) := rfl
theorem rm_s27 (P : Nat → Nat) (I : Nat → Int32) (v : Int32) : (rm_fs P I).set 27 (.int v) = rm_fs P (va_up I 27 v) := rfl
theorem rm_s31 (P : Nat → Nat) (I : Nat → Int32) (v : Int32) : (rm_fs P I).set 31 (.int v) = rm_fs P (va_up I 31 v) := rfl
theorem rm_s35 (P : Nat → Nat) (I : Nat → Int32) (v : Int32) : (rm_fs P I).set 35 (.int v) = rm_fs P (va_up I 35 v) := rfl
theorem rm_s38 (P : Nat → Nat) (I : Nat → Int32) (v : Int32) : (rm_fs P I).set 38 (.int v) = rm_fs P (va_up I 38 v) := rfl
theorem rm_s42 (P : Nat → Nat) (I : Nat → Int32) (v : Int32) : (rm_fs P I).set 42 (.int v) = rm_fs P (va_up I 42 v) := rfl
theorem rm_s44 (P : Nat → Nat) (I : Nat → Int32) (v : Int32) : (rm_fs P I).set 44 (.int v) = rm_fs P (va_up I 44 v) := rfl
theorem rm_s48 (P : Nat → Nat) (I : Nat → Int32) (v : Int32) : (rm_fs P I).set 48 (.int v) = rm_fs P (va_up I 48 v) := rfl
theorem rm_s50 (P : Nat → Nat) (I : Nat → Int32) (v : Int32) : (rm_fs P I).set 50 (.int v) = rm_fs P (va_up I 50 v) := rfl
theorem rm_s51 (P : Nat → Nat) (I : Nat → Int32) (v : Int32) : (rm_fs P I).set 51 (.int v) = rm_fs P (va_up I 51 v) := rfl
theorem rm_s54 (P : Nat → Nat) (I : Nat → Int32) (v : Int32) : (rm_fs P I).set 54 (.int v) = rm_fs P (va_up I 54 v) := rfl
theorem rm_s55 (P : Nat → Nat) (I : Nat → Int32) (v : Int32) : (rm_fs P I).set 55 (.int v) = rm_fs P (va_up I 55 v) := rfl
theorem rm_s57 (P : Nat → Nat) (I : Nat → Int32) (v : Int32) : (rm_fs P I).set 57 (.int v) = rm_fs P (va_up I 57 v) := rfl
def rm_fail (w p : Int32) (M : rm_M) : rm_M := if M.1 9 = 0 then (va_up (va_up M.1 9 w) 10 p, M.2) else M
set_option maxRecDepth 100000 in
theorem c_Mo_fail {k : cx_K} {l : Launch} {G : cx_G} {mo : Nat} {P : Nat → Nat} {M : rm_M} (hm : rm_R k G mo P M) {w p : Int32} : cx_Sp k l m_Mo_fail 0 [.ref mo, .int w, .int p] G (rm_q k G mo P none (rm_fail w p M)) := by
  intro E hE
  have hmo := hm.1
  refine cx_aload_n (i := 0) hE d_Mo_fail_0 rfl rfl ?_
  refine cx_get hE d_Mo_fail_1 f_Mo_187 (by assumption) (by rfl) ?_
  refine cx_if_ne (tgt := 17)  hE d_Mo_fail_4 (by decide) (fun c_4 => ?_) (fun c_4 => ?_)
  · have e9 : rm_fail w p M = M := if_neg c_4
    refine cx_vret hE d_Mo_fail_17 rfl ?_
    rw [e9]
    first
      | exact ⟨rfl, m14.1, m9.2.tr m14.2, (cx_pc g_14).trans (cx_pc g_9)⟩
      | exact ⟨rfl, hm, rm_st.rf _ _ _, rfl⟩
  · have e9 : rm_fail w p M = (va_up (va_up M.1 9 w) 10 p, M.2) := if_pos (by simpa using c_4)
    refine cx_aload_n (i := 0) hE d_Mo_fail_7 rfl rfl ?_
    refine cx_iload_n (i := 1) hE d_Mo_fail_8 rfl rfl ?_
    refine cx_putg hE d_Mo_fail_9 f_Mo_187 (by assumption) (Nat.le_of_ble_eq_true rfl) (by first | rfl | exact cx_nr _ _) (by first | rfl | exact cx_fr _ _) (fun G_9 g_9 h_9 => ?_)
    rw [rm_s9] at g_9 h_9
    have m9 := hm.pi g_9
    refine cx_aload_n (i := 0) hE d_Mo_fail_12 rfl rfl ?_
    refine cx_iload_n (i := 2) hE d_Mo_fail_13 rfl rfl ?_
    refine cx_putg hE d_Mo_fail_14 f_Mo_190 (by assumption) (Nat.le_of_ble_eq_true rfl) (by first | rfl | exact cx_nr _ _) (by first | rfl | exact cx_fr _ _) (fun G_14 g_14 h_14 => ?_)
    rw [rm_s10] at g_14 h_14
    have m14 := m9.1.pi g_14
    refine cx_vret hE d_Mo_fail_17 rfl ?_
    rw [e9]
    first
      | exact ⟨rfl, m14.1, m9.2.tr m14.2, (cx_pc g_14).trans (cx_pc g_9)⟩
      | exact ⟨rfl, hm, rm_st.rf _ _ _, rfl⟩
set_option maxRecDepth 100000 in
theorem c_Mo_kind {k : cx_K} {l : Launch} {G : cx_G} {mo : Nat} {P : Nat → Nat} {M : rm_M} (hm : rm_R k G mo P M) {i : Nat} (ht : M.1 8 = nI i) (hi : i < 65540)  : cx_Sp k l m_Mo_kind 0 [.ref mo] G (cx_rd (some (.int (M.2.1 4 i))) G) := by
  intro E hE
  have hmo := hm.1
  have h4 := hm.i 4 rfl
  have h5 := hm.i 5 rfl
  refine cx_aload_n (i := 0) hE d_Mo_kind_0 rfl rfl ?_
  refine cx_get hE d_Mo_kind_1 f_Mo_15 (by assumption) (by rfl) ?_
  refine cx_aload_n (i := 0) hE d_Mo_kind_4 rfl rfl ?_
  refine cx_get hE d_Mo_kind_5 f_Mo_193 (by assumption) (by rfl) ?_
  rw [ht]
  refine cx_iald 1 hE d_Mo_kind_8 rfl (by assumption) (vp_in_nI (by show _ < 65540; omega) (by show 65540 < 2147483648; omega)) ?_
  refine cx_iret hE d_Mo_kind_9 rfl rfl ?_
  rw [nI_clamp (by omega)]
  exact ⟨rfl, rfl⟩
/-- kinds of tokens: the class's, the reference's -/
def rm_kl : List (Int32 × Int32) := [(1, 300), (2, 301), (3, 302), (4, 303), (5, 304), (6, 305), (7, 306), (8, 307), (9, 308), (10, 309), (11, 310), (12, 311), (13, 312), (14, 313), (15, 314), (16, 315), (17, 316), (18, 317), (19, 400), (20, 401), (21, 402), (22, 403), (23, 404), (9766, 256), (31868, 257), (15677, 258), (8509, 259), (15421, 260), (15933, 261), (15420, 262), (15934, 263), (43, 43), (45, 45), (42, 42), (38, 38), (124, 124), (94, 94), (126, 126), (33, 33), (60, 60), (62, 62), (63, 63), (58, 58), (59, 59), (44, 44), (46, 46), (40, 40), (41, 41), (91, 91), (93, 93), (123, 123), (125, 125), (61, 61), (64, 64)]
/-- the tokens T lie in the reference's rows -/
def rm_tk (M : rm_M) (T : List tx_Tk) : Prop := T.length < 40000 ∧ (∀ i, i < T.length → (tx_ki T i, M.2.1 4 i) ∈ rm_kl ∧ M.2.1 5 i = nI (tx_ta T i).2.1) ∧ ∀ i, i < T.length → tx_ki T i ≠ 22 → tx_ki T i ≠ 23 → i + 1 < T.length
/-- all but the next token, the fault and the depth is as it was -/
def rm_sm (M M' : rm_M) : Prop := M'.2 = M.2 ∧ ∀ j, j ≠ 8 → j ≠ 9 → j ≠ 10 → j ≠ 11 → M'.1 j = M.1 j
def rm_lv (T : List tx_Tk) (M0 M : rm_M) (i f : Nat) : Prop := rm_sm M0 M ∧ M.1 8 = nI i ∧ i < T.length ∧ M.1 9 = 0 ∧ M.1 11 = nI (60 - f) ∧ f ≤ 60
def rm_dd (T : List tx_Tk) (M0 M : rm_M) (e : Int32 × Int32) : Prop := rm_sm M0 M ∧ (∃ i, M.1 8 = nI i ∧ i < T.length) ∧ M.1 9 = e.1 ∧ M.1 10 = e.2 ∧ e.1 ≠ 0
/-- the heap holds M, others' cells are as they were -/
def rm_h (k : cx_K) (G0 : cx_G) (mo : Nat) (P : Nat → Nat) (G : cx_G) (M : rm_M) : Prop := rm_R k G mo P M ∧ rm_st mo P G0 G ∧ G.2 = G0.2
def rm_o {α : Type} (k : cx_K) (G : cx_G) (mo : Nat) (P : Nat → Nat) (T : List tx_Tk) (M0 : rm_M) (f : Nat) (R : tx_R α) : cx_R → cx_G → Prop := fun r G' => ∃ M', r = .inl none ∧ rm_h k G mo P G' M' ∧ ((∃ a i s, R = .inr (a, i, s) ∧ rm_lv T M0 M' i f) ∨ ∃ e, R = .inl e ∧ rm_dd T M0 M' e)
def rm_x (k : cx_K) (G : cx_G) (mo : Nat) (P : Nat → Nat) (T : List tx_Tk) (M0 : rm_M) (e : Int32 × Int32) : cx_R → cx_G → Prop := fun r G' => ∃ M', r = .inl none ∧ rm_h k G mo P G' M' ∧ rm_dd T M0 M' e
theorem rm_sm.rf (M : rm_M) : rm_sm M M := ⟨rfl, fun _ _ _ _ _ => rfl⟩
theorem rm_sm.tr {M M1 M2 : rm_M} (h : rm_sm M M1) (h' : rm_sm M1 M2) : rm_sm M M2 := ⟨h'.1.trans h.1, fun j a b c d => (h'.2 j a b c d).trans (h.2 j a b c d)⟩
theorem rm_h.tr {k : cx_K} {G0 G1 G2 : cx_G} {mo : Nat} {P : Nat → Nat} {M1 M2 : rm_M} (h : rm_h k G0 mo P G1 M1) (h' : rm_h k G1 mo P G2 M2) : rm_h k G0 mo P G2 M2 := ⟨h'.1, h.2.1.tr h'.2.1, h'.2.2.trans h.2.2⟩
theorem rm_tk.sm {M M' : rm_M} {T : List tx_Tk} (h : rm_sm M M') (ht : rm_tk M T) : rm_tk M' T := by
  unfold rm_tk at ht ⊢
  rw [h.1]
  exact ht
theorem rm_kq {x y a c : Int32} (h : (x, y) ∈ rm_kl) (hd : ∀ p ∈ rm_kl, p.2 = c ↔ p.1 = a) : y = c ↔ x = a := hd _ h
def rm_c9 (M : rm_M) (i : Nat) (kd : Int32) : Bool := decide (M.1 9 = 0 ∧ M.2.1 4 i = kd)
def rm_no (i : Nat) (M : rm_M) : rm_M := rm_fail (if M.2.1 4 i = 404 then 1 else 2) (M.2.1 5 i) M
def rm_take (i : Nat) (kd : Int32) (M : rm_M) : rm_M := if M.1 9 = 0 ∧ M.2.1 4 i = kd then (va_up M.1 8 (nI (i + 1)), M.2) else rm_no i M
set_option maxRecDepth 100000 in
theorem c_Mo_is {k : cx_K} {l : Launch} {G : cx_G} {mo : Nat} {P : Nat → Nat} {M : rm_M} (hm : rm_R k G mo P M) {i : Nat} (ht : M.1 8 = nI i) (hi : i < 65540) {kd : Int32} : cx_Sp k l m_Mo_is 0 [.ref mo, .int kd] G (cx_rd (some (.int (cx_b (rm_c9 M i kd)))) G) := by
  intro E hE
  have hmo := hm.1
  have h4 := hm.i 4 rfl
  have h5 := hm.i 5 rfl
  refine cx_aload_n (i := 0) hE d_Mo_is_0 rfl rfl ?_
  refine cx_get hE d_Mo_is_1 f_Mo_187 (by assumption) (by rfl) ?_
  refine cx_if_ne (tgt := 24)  hE d_Mo_is_4 (by decide) (fun c_4 => ?_) (fun c_4 => ?_)
  · have e9 : rm_c9 M i kd = false := decide_eq_false (fun z => c_4 z.1)
    refine cx_iconst (v := 0) hE d_Mo_is_24 (by decide) ?_
    refine cx_iret hE d_Mo_is_25 rfl rfl ?_
    rw [e9]
    exact ⟨rfl, rfl⟩
  · refine cx_aload_n (i := 0) hE d_Mo_is_7 rfl rfl ?_
    refine cx_get hE d_Mo_is_8 f_Mo_15 (by assumption) (by rfl) ?_
    refine cx_aload_n (i := 0) hE d_Mo_is_11 rfl rfl ?_
    refine cx_get hE d_Mo_is_12 f_Mo_193 (by assumption) (by rfl) ?_
    rw [ht]
    refine cx_iald 1 hE d_Mo_is_15 rfl (by assumption) (vp_in_nI (by show _ < 65540; omega) (by show 65540 < 2147483648; omega)) ?_
    refine cx_iload_n (i := 1) hE d_Mo_is_16 rfl rfl ?_
    refine cx_icmp_ne (tgt := 24)  hE d_Mo_is_17 (by decide) (fun c_17 => ?_) (fun c_17 => ?_)
    · rw [nI_clamp (by omega)] at c_17
      have e9 : rm_c9 M i kd = false := decide_eq_false (fun z => c_17 z.2)
      refine cx_iconst (v := 0) hE d_Mo_is_24 (by decide) ?_
      refine cx_iret hE d_Mo_is_25 rfl rfl ?_
      rw [e9]
      exact ⟨rfl, rfl⟩
    · rw [nI_clamp (by omega)] at c_17
      have e9 : rm_c9 M i kd = true := decide_eq_true ⟨by simpa using c_4, c_17⟩
      refine cx_iconst (v := 1) hE d_Mo_is_20 (by decide) ?_
      refine cx_goto (tgt := 25) hE d_Mo_is_21 (by decide) ?_
      refine cx_iret hE d_Mo_is_25 rfl rfl ?_
      rw [e9]
      exact ⟨rfl, rfl⟩
set_option maxRecDepth 100000 in
theorem c_Mo_no {k : cx_K} {l : Launch} {G : cx_G} {mo : Nat} {P : Nat → Nat} {M : rm_M} (hm : rm_R k G mo P M) {i : Nat} (ht : M.1 8 = nI i) (hi : i < 65540)  : cx_Sp k l m_Mo_no 1 [.ref mo] G (rm_q k G mo P none (rm_no i M)) := by
  intro E hE
  have hmo := hm.1
  have h4 := hm.i 4 rfl
  have h5 := hm.i 5 rfl
  refine cx_aload_n (i := 0) hE d_Mo_no_0 rfl rfl ?_
  refine cx_aload_n (i := 0) hE d_Mo_no_1 rfl rfl ?_
  refine cx_get hE d_Mo_no_2 f_Mo_15 (by assumption) (by rfl) ?_
  refine cx_aload_n (i := 0) hE d_Mo_no_5 rfl rfl ?_
  refine cx_get hE d_Mo_no_6 f_Mo_193 (by assumption) (by rfl) ?_
  rw [ht]
  refine cx_iald 1 hE d_Mo_no_9 rfl (by assumption) (vp_in_nI (by show _ < 65540; omega) (by show 65540 < 2147483648; omega)) ?_
  refine cx_sipush (v := 404) hE d_Mo_no_10 (by decide) ?_
  refine cx_icmp_ne (tgt := 20)  hE d_Mo_no_13 (by decide) (fun c_13 => ?_) (fun c_13 => ?_)
  · rw [nI_clamp (by omega)] at c_13
    have e9 : rm_no i M = rm_fail 2 (M.2.1 5 i) M := by unfold rm_no; rw [if_neg c_13]
    refine cx_iconst (v := 2) hE d_Mo_no_20 (by decide) ?_
    refine cx_aload_n (i := 0) hE d_Mo_no_21 rfl rfl ?_
    refine cx_get hE d_Mo_no_22 f_Mo_19 (by assumption) (by rfl) ?_
    refine cx_aload_n (i := 0) hE d_Mo_no_25 rfl rfl ?_
    refine cx_get hE d_Mo_no_26 f_Mo_193 (by assumption) (by rfl) ?_
    rw [ht]
    refine cx_iald 1 hE d_Mo_no_29 rfl (by assumption) (vp_in_nI (by show _ < 65540; omega) (by show 65540 < 2147483648; omega)) ?_
    rw [nI_clamp (by omega)]
    refine cx_invV hE d_Mo_no_30 l_Mo_196 hmo (c_Mo_fail (w := 2) (p := M.2.1 5 i) hm) rfl (by omega) (Nat.le_of_ble_eq_true rfl) n_Mo_fail (by rfl) (fun v G1 q => ?_) (fun a G1 q => by cases q.1)
    obtain ⟨q0, m1, s1, c1⟩ := q
    cases q0
    show cx_V E _ _ [] G1
    refine cx_vret hE d_Mo_no_33 rfl ?_
    rw [e9]
    exact ⟨rfl, m1, s1, c1⟩
  · rw [nI_clamp (by omega)] at c_13
    have e9 : rm_no i M = rm_fail 1 (M.2.1 5 i) M := by unfold rm_no; rw [if_pos c_13]
    refine cx_iconst (v := 1) hE d_Mo_no_16 (by decide) ?_
    refine cx_goto (tgt := 21) hE d_Mo_no_17 (by decide) ?_
    refine cx_aload_n (i := 0) hE d_Mo_no_21 rfl rfl ?_
    refine cx_get hE d_Mo_no_22 f_Mo_19 (by assumption) (by rfl) ?_
    refine cx_aload_n (i := 0) hE d_Mo_no_25 rfl rfl ?_
    refine cx_get hE d_Mo_no_26 f_Mo_193 (by assumption) (by rfl) ?_
    rw [ht]
    refine cx_iald 1 hE d_Mo_no_29 rfl (by assumption) (vp_in_nI (by show _ < 65540; omega) (by show 65540 < 2147483648; omega)) ?_
    rw [nI_clamp (by omega)]
    refine cx_invV hE d_Mo_no_30 l_Mo_196 hmo (c_Mo_fail (w := 1) (p := M.2.1 5 i) hm) rfl (by omega) (Nat.le_of_ble_eq_true rfl) n_Mo_fail (by rfl) (fun v G1 q => ?_) (fun a G1 q => by cases q.1)
    obtain ⟨q0, m1, s1, c1⟩ := q
    cases q0
    show cx_V E _ _ [] G1
    refine cx_vret hE d_Mo_no_33 rfl ?_
    rw [e9]
    exact ⟨rfl, m1, s1, c1⟩
set_option maxRecDepth 100000 in
theorem c_Mo_take {k : cx_K} {l : Launch} {G : cx_G} {mo : Nat} {P : Nat → Nat} {M : rm_M} (hm : rm_R k G mo P M) {i : Nat} (ht : M.1 8 = nI i) (hi : i < 65540) {kd : Int32} : cx_Sp k l m_Mo_take 2 [.ref mo, .int kd] G (rm_q k G mo P none (rm_take i kd M)) := by
  intro E hE
  have hmo := hm.1
  have h4 := hm.i 4 rfl
  have h5 := hm.i 5 rfl
  refine cx_aload_n (i := 0) hE d_Mo_take_0 rfl rfl ?_
  refine cx_get hE d_Mo_take_1 f_Mo_187 (by assumption) (by rfl) ?_
  refine cx_if_ne (tgt := 33)  hE d_Mo_take_4 (by decide) (fun c_4 => ?_) (fun c_4 => ?_)
  · have e9 : rm_take i kd M = rm_no i M := if_neg (fun z => c_4 z.1)
    refine cx_aload_n (i := 0) hE d_Mo_take_33 rfl rfl ?_
    refine cx_invV hE d_Mo_take_34 l_Mo_200 hmo (c_Mo_no hm ht hi) rfl (by omega) (Nat.le_of_ble_eq_true rfl) n_Mo_no (by rfl) (fun v G1 q => ?_) (fun a G1 q => by cases q.1)
    obtain ⟨q0, m1, s1, c1⟩ := q
    cases q0
    show cx_V E _ _ [] G1
    refine cx_vret hE d_Mo_take_37 rfl ?_
    rw [e9]
    first
      | exact ⟨rfl, m27.1, m27.2, cx_pc g_27⟩
      | exact ⟨rfl, m1, s1, c1⟩
  · refine cx_aload_n (i := 0) hE d_Mo_take_7 rfl rfl ?_
    refine cx_get hE d_Mo_take_8 f_Mo_15 (by assumption) (by rfl) ?_
    refine cx_aload_n (i := 0) hE d_Mo_take_11 rfl rfl ?_
    refine cx_get hE d_Mo_take_12 f_Mo_193 (by assumption) (by rfl) ?_
    rw [ht]
    refine cx_iald 1 hE d_Mo_take_15 rfl (by assumption) (vp_in_nI (by show _ < 65540; omega) (by show 65540 < 2147483648; omega)) ?_
    refine cx_iload_n (i := 1) hE d_Mo_take_16 rfl rfl ?_
    refine cx_icmp_ne (tgt := 33)  hE d_Mo_take_17 (by decide) (fun c_17 => ?_) (fun c_17 => ?_)
    · rw [nI_clamp (by omega)] at c_17
      have e9 : rm_take i kd M = rm_no i M := if_neg (fun z => c_17 z.2)
      refine cx_aload_n (i := 0) hE d_Mo_take_33 rfl rfl ?_
      refine cx_invV hE d_Mo_take_34 l_Mo_200 hmo (c_Mo_no hm ht hi) rfl (by omega) (Nat.le_of_ble_eq_true rfl) n_Mo_no (by rfl) (fun v G1 q => ?_) (fun a G1 q => by cases q.1)
      obtain ⟨q0, m1, s1, c1⟩ := q
      cases q0
      show cx_V E _ _ [] G1
      refine cx_vret hE d_Mo_take_37 rfl ?_
      rw [e9]
      first
        | exact ⟨rfl, m27.1, m27.2, cx_pc g_27⟩
        | exact ⟨rfl, m1, s1, c1⟩
    · rw [nI_clamp (by omega)] at c_17
      have e9 : rm_take i kd M = (va_up M.1 8 (nI (i + 1)), M.2) := if_pos ⟨by simpa using c_4, c_17⟩
      refine cx_aload_n (i := 0) hE d_Mo_take_20 rfl rfl ?_
      refine cx_dup hE d_Mo_take_21 ?_
      refine cx_get hE d_Mo_take_22 f_Mo_193 (by assumption) (by rfl) ?_
      rw [ht]
      refine cx_iconst (v := 1) hE d_Mo_take_25 (by decide) ?_
      refine cx_iadd hE d_Mo_take_26 ?_
      show cx_V E _ _ [.int (nI i + 1), .ref mo] _
      rw [nI_1]
      refine cx_putg hE d_Mo_take_27 f_Mo_193 (by assumption) (Nat.le_of_ble_eq_true rfl) (by first | rfl | exact cx_nr _ _) (by first | rfl | exact cx_fr _ _) (fun G_27 g_27 h_27 => ?_)
      rw [rm_s8] at g_27 h_27
      have m27 := hm.pi g_27
      refine cx_goto (tgt := 37) hE d_Mo_take_30 (by decide) ?_
      refine cx_vret hE d_Mo_take_37 rfl ?_
      rw [e9]
      first
        | exact ⟨rfl, m27.1, m27.2, cx_pc g_27⟩
        | exact ⟨rfl, m1, s1, c1⟩

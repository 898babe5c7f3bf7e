/-! THE REFERENCE: a text is read. -/
theorem rr_nar {x : Int32} (hf : fits .byte (.int x) = true) : vp_nar .byte x = x := by
  have hf' : -128 ≤ x.toInt ∧ x.toInt ≤ 127 := by
    simp only [fits, Bool.and_eq_true, decide_eq_true_eq] at hf
    exact ⟨Int32.le_iff_toInt_le.mp hf.1, Int32.le_iff_toInt_le.mp hf.2⟩
  rw [vp_nar_byte]
  apply Int32.toInt_inj.mp
  rw [Int8.toInt_toInt32, Int32.toInt_toInt8, Int.bmod_def]
  omega
theorem rr_lex0 (n : Nat) (f : Nat → Int32) : 0 < (tx_lex n (tx_at n f)).length := by
  unfold tx_lex
  show 0 < (tx_lx n (tx_at n f) (n - 0) 0).length
  rw [tx_lx_r (n := n) (f := f) (Nat.le_refl _) (Nat.zero_le _)]
  exact Nat.succ_pos _
/-- what a reading must not change -/
def rr_f (M M' : rm_M) : Prop := (∀ j, j = 0 ∨ j = 2 ∨ j = 3 ∨ j = 51 ∨ j = 54 ∨ j = 55 → M'.1 j = M.1 j) ∧ ∀ j, j = 1 ∨ j = 52 ∨ j = 53 → M'.2.1 j = M.2.1 j
theorem rr_f.tr {M M1 M2 : rm_M} (h : rr_f M M1) (h' : rr_f M1 M2) : rr_f M M2 := ⟨fun j z => (h'.1 j z).trans (h.1 j z), fun j z => (h'.2 j z).trans (h.2 j z)⟩
/-- the tables of the modules us -/
def rr_T (T : List tx_Tk) (M : rm_M) (us : List tx_U) : Prop := M.1 12 = nI us.length ∧ us.length ≤ 3500 ∧ ∃ LO LI, LO ≤ 10241 ∧ LI ≤ 10241 ∧ ∀ (j : Nat) (v : tx_U), us[j]? = some v → rt_F T M LO LI j v
def rr_u (M : rm_M) : Prop := ∀ j, 10240 < j → tx_isU (M.2.1 4 j) = false
def rr_S (nn : Nat) (M M' : rm_M) : Prop := rr_f M M' ∧ rr_u M' ∧ match tx_dsg (tx_lex nn (tx_at nn (M.2.1 53))) 0 tx_s0 with
  | .inl e => M'.1 9 = e.1 ∧ M'.1 10 = e.2 ∧ e.1 ≠ 0
  | .inr (_, _, s) => if s.1.1 = 0 then M'.1 9 = 0 ∧ rm_T nn (tx_lex nn (tx_at nn (M.2.1 53))) M' ∧ rr_T (tx_lex nn (tx_at nn (M.2.1 53))) M' s.2.1 else M'.1 9 = s.1.1 ∧ M'.1 10 = s.1.2
section RRA
variable {k : cx_K} {l : Launch} {G : cx_G} {P : Nat → Nat} {mo : Nat} {b : Nat × Nat} {M M3 M4 : rm_M} {nn : Nat} {T : List tx_Tk}
theorem s_cut {K : rm_M → Prop} (hR : rm_R k G mo P M) (hQ : rm_Q b G M) (hn : M.1 2 = nI nn) (hn6 : nn ≤ 65536) (h : ∀ M', rm_cm nn M M' → rm_row M' (tx_lex nn (tx_at nn (M.2.1 53))) → K M') : cx_Sp k l m_Mo_cutTokens 4 [.ref mo] G (rp_P0 k mo b G P K) := (c_Mo_cutTokens hR hn hn6).weaken (fun r G' q => by
  obtain ⟨M', q1, q2, q3, q4, q5⟩ := q
  exact ⟨P, M', q1, (rm_W.rf hR hQ).q q2.1 q2.2.1 q2.2.2 (by rw [q3.2.2.1]), h M' q3 q4⟩)
theorem s_dgr {K : rm_M → Prop} (hR : rm_R k G mo P M) (hQ : rm_Q b G M) (hT : rm_tk M T) (h0 : 0 < T.length) (h9 : M.1 9 = 0) (h : ∀ M', ((∃ i s, tx_dsg T 0 tx_s0 = .inr ((), i, s) ∧ rm_lv T M M' i 60) ∨ ∃ e, tx_dsg T 0 tx_s0 = .inl e ∧ rm_dd T M M' e) → K M') : cx_Sp k l m_Mo_designGrammar 548 [.ref mo] G (rp_P0 k mo b G P K) := (c_Mo_designGrammar hT hR h0 h9 (s := tx_s0) rfl).weaken (fun r G' q => by
  obtain ⟨M', q1, q2, q3⟩ := q
  have e : M'.2.2.2 = M.2.2.2 := by
    rcases q3 with ⟨a, i, s, -, q4⟩ | ⟨e, -, q4⟩
    · rw [q4.1.1]
    · rw [q4.1.1]
  refine ⟨P, M', q1, (rm_W.rf hR hQ).q q2.1 q2.2.1 q2.2.2 e, h M' ?_⟩
  rcases q3 with ⟨a, i, s, q4, q5⟩ | ⟨e, q4, q5⟩
  · exact Or.inl ⟨i, s, q4, q5⟩
  · exact Or.inr ⟨e, q4, q5⟩)
/-- from the tokens on -/
theorem rr_f3 (hc : rm_cm nn (rp_int (rp_int M 9 0) 10 (-1)) M3) : rr_f M M3 := by
  constructor
  · intro j hj
    rw [hc.1 j (by omega) (by omega)]
    show va_up (va_up M.1 9 0) 10 (-1) j = _
    rw [va_up_ne _ _ (by omega), va_up_ne _ _ (by omega)]
  · intro j hj
    exact hc.2.1 j (by omega) (by omega) (by omega)
theorem rr_u3 (hu : rr_u M) (hn : nn ≤ 10240) (hc : rm_cm nn (rp_int (rp_int M 9 0) 10 (-1)) M3) : rr_u M3 := by
  intro j hj
  rw [hc.2.2.2 j (by omega)]
  exact hu j hj
theorem rr_T3 (hn : M.1 2 = nI nn) (hn6 : nn ≤ 10240) (hb : ∀ j, fits .byte (.int (M.2.1 53 j)) = true) (hu : rr_u M) (hc : rm_cm nn (rp_int (rp_int M 9 0) 10 (-1)) M3) (hr : rm_row M3 (tx_lex nn (tx_at nn (M.2.1 53)))) : rm_T nn (tx_lex nn (tx_at nn (M.2.1 53))) M3 := by
  have hf := rr_f3 hc
  have e53 := hf.2 53 (by simp)
  refine ⟨(hf.1 2 (by simp)).trans hn, hn6, by rw [e53], hr, by rw [e53]; exact hb, rr_u3 hu hn6 hc⟩
theorem rr_sm {M M' : rm_M} (h : rm_sm M M') : rr_f M M' := ⟨fun j hj => h.2 j (by omega) (by omega) (by omega) (by omega), fun j hj => by rw [h.1]⟩
theorem rr_S.bad {e : Int32 × Int32} (hu : rr_u M) (hn6 : nn ≤ 10240) (hc : rm_cm nn (rp_int (rp_int M 9 0) 10 (-1)) M3) (hR : tx_dsg (tx_lex nn (tx_at nn (M.2.1 53))) 0 tx_s0 = .inl e) (hd : rm_dd T M3 M4 e) : rr_S nn M M4 := by
  refine ⟨(rr_f3 hc).tr (rr_sm hd.1), ?_, ?_⟩
  · have := rr_u3 hu hn6 hc
    unfold rr_u at this ⊢
    rw [hd.1.1]
    exact this
  · rw [hR]
    exact ⟨hd.2.2.1, hd.2.2.2.1, hd.2.2.2.2⟩
theorem rr_dsg {i : Nat} {s : tx_S} (hn : M.1 2 = nI nn) (hn6 : nn ≤ 10240) (hb : ∀ j, fits .byte (.int (M.2.1 53 j)) = true) (hu : rr_u M) (hc : rm_cm nn (rp_int (rp_int M 9 0) 10 (-1)) M3) (hr : rm_row M3 (tx_lex nn (tx_at nn (M.2.1 53)))) (hR : tx_dsg (tx_lex nn (tx_at nn (M.2.1 53))) 0 tx_s0 = .inr ((), i, s)) (hl : rm_lv (tx_lex nn (tx_at nn (M.2.1 53))) M3 M4 i 60) : rp_dsg 65540 (rr_S nn M) M4 := by
  have hT3 := rr_T3 hn hn6 hb hu hc hr
  have hsm := hl.1
  have hT4 : rm_T nn (tx_lex nn (tx_at nn (M.2.1 53))) M4 := hT3.to (hsm.2 2 (by decide) (by decide) (by decide) (by decide)) (fun j _ => by rw [hsm.1])
  have hf4 : rr_f M M4 := (rr_f3 hc).tr (rr_sm hsm)
  refine rz_dsg (Nat.le_refl _) hT4 (rr_lex0 _ _) hl.2.2.2.1 hR (fun M' h _ => ?_) (fun M' e1 h => ?_)
  · have hz := h.1
    refine ⟨hf4.tr ⟨fun j hj => hz.1 j (by omega), fun j hj => hz.2 j (by omega)⟩, h.2.1.2.2.2.2.2, ?_⟩
    rw [hR]
    show (if s.1.1 = 0 then _ else _)
    have hl4 := hT4.len
    have hi := h.2.2.2.2.2.1
    obtain ⟨-, hT', ⟨LO, LI, FS, FA, LK, h12, h18, h27, h35, h38, h31, b1, b2, b3, b4, b5, b6, hF, -⟩, -, -, -, h9, h14, -⟩ := h
    rw [if_pos h14]
    exact ⟨h9, hT', h12, by omega, LO, LI, by omega, by omega, hF⟩
  · have hz := h.1
    refine ⟨hf4.tr ⟨fun j hj => hz.1 j (by omega), fun j hj => hz.2 j (by omega)⟩, ?_, ?_⟩
    · have := hT4.2.2.2.2.2
      unfold rr_u
      rw [hz.2 4 (by simp)]
      exact this
    · rw [hR]
      show (if s.1.1 = 0 then _ else _)
      rw [if_neg e1]
      exact ⟨h.2.1, h.2.2.1⟩
end RRA
set_option maxRecDepth 100000 in
theorem c_Mo_readSource {k : cx_K} {l : Launch} {G : cx_G} {mo : Nat} {P : Nat → Nat} {M : rm_M} {b : Nat × Nat} (hm : rm_R k G mo P M) (hQ : rm_Q b G M) {nn : Nat} (hn : M.1 2 = nI nn) (hn6 : nn ≤ 10240) (hb : ∀ j, fits .byte (.int (M.2.1 53 j)) = true) (hu : rr_u M)  : cx_Sp k l m_Mo_readSource 549 [.ref mo] G (rp_P0 k mo b G P (rr_S nn M)) := by
  intro E hE
  have W0 := rm_W.rf hm hQ
  have m0 := hm.1
  refine cx_aload_n (i := 0) hE d_Mo_readSource_0 rfl rfl ?_
  refine cx_iconst (v := 0) hE d_Mo_readSource_1 (by decide) ?_
  refine cx_putg hE d_Mo_readSource_2 f_Mo_187 (by assumption) (Nat.le_of_ble_eq_true rfl) (by first | rfl | exact cx_nr _ _) (by first | rfl | exact cx_fr _ _) (fun G_2 g_2 h_2 => ?_)
  rw [rm_s9] at g_2
  clear h_2
  have W_2 : rm_W k mo b G P G_2 P (rp_int M 9 0) := W0.pi g_2
  have m_2 := W_2.1.1
  refine cx_aload_n (i := 0) hE d_Mo_readSource_5 rfl rfl ?_
  refine cx_iconst (v := -1) hE d_Mo_readSource_6 (by decide) ?_
  refine cx_putg hE d_Mo_readSource_7 f_Mo_190 (by assumption) (Nat.le_of_ble_eq_true rfl) (by first | rfl | exact cx_nr _ _) (by first | rfl | exact cx_fr _ _) (fun G_7 g_7 h_7 => ?_)
  rw [rm_s10] at g_7
  clear h_7
  have W_7 : rm_W k mo b G P G_7 P (rp_int (rp_int M 9 0) 10 (-1)) := W_2.pi g_7
  have m_7 := W_7.1.1
  refine cx_aload_n (i := 0) hE d_Mo_readSource_10 rfl rfl ?_
  refine cx_w0 hE d_Mo_readSource_11 l_Mo_398 W_7 (s_cut (nn := nn) (K := fun Mq => rm_cm nn (rp_int (rp_int M 9 0) 10 (-1)) Mq ∧ rm_row Mq (tx_lex nn (tx_at nn (M.2.1 53)))) W_7.1 W_7.2.2 hn (by omega) (fun _ q1 q2 => ⟨q1, q2⟩)) rfl (by omega) (Nat.le_of_ble_eq_true rfl) n_Mo_cutTokens (by first | rfl | (simp only [List.map_cons, List.map_nil, cx_rfc]; rfl)) (fun G_11 P_11 M_11 W_11 K_11 => ?_)
  have m_11 := W_11.1.1
  have hT3 := rr_T3 hn hn6 hb hu K_11.1 K_11.2
  have h93 : M_11.1 9 = 0 := K_11.1.1 9 (by decide) (by decide)
  refine cx_aload_n (i := 0) hE d_Mo_readSource_14 rfl rfl ?_
  refine cx_w0 hE d_Mo_readSource_15 l_Mo_401 W_11 (s_dgr (K := fun Mq => (∃ i s, tx_dsg (tx_lex nn (tx_at nn (M.2.1 53))) 0 tx_s0 = .inr ((), i, s) ∧ rm_lv (tx_lex nn (tx_at nn (M.2.1 53))) M_11 Mq i 60) ∨ ∃ e, tx_dsg (tx_lex nn (tx_at nn (M.2.1 53))) 0 tx_s0 = .inl e ∧ rm_dd (tx_lex nn (tx_at nn (M.2.1 53))) M_11 Mq e) W_11.1 W_11.2.2 hT3.tk (rr_lex0 _ _) h93 (fun _ q => q)) rfl (by omega) (Nat.le_of_ble_eq_true rfl) n_Mo_designGrammar (by first | rfl | (simp only [List.map_cons, List.map_nil, cx_rfc]; rfl)) (fun G_15 P_15 M_15 W_15 K_15 => ?_)
  have m_15 := W_15.1.1
  refine cx_aload_n (i := 0) hE d_Mo_readSource_18 rfl rfl ?_
  refine cx_get hE d_Mo_readSource_19 f_Mo_187 (by assumption) (by rfl) ?_
  refine cx_if_ne (tgt := 29)  hE d_Mo_readSource_22 (by decide) (fun c_22 => ?_) (fun c_22 => ?_)
  · have hbad : rr_S nn M M_15 := by
      rcases K_15 with ⟨i, s, q1, q2⟩ | ⟨e, q1, q2⟩
      · exact absurd q2.2.2.2.1 c_22
      · exact rr_S.bad hu hn6 K_11.1 q1 q2
    refine cx_vret hE d_Mo_readSource_29 rfl ?_
    exact ⟨_, _, rfl, W_15, hbad⟩
  · have hdsg : rp_dsg 65540 (rr_S nn M) M_15 := by
      rcases K_15 with ⟨i, s, q1, q2⟩ | ⟨e, q1, q2⟩
      · exact rr_dsg hn hn6 hb hu K_11.1 K_11.2 q1 q2
      · exact absurd (q2.2.2.1.symm.trans c_22) q2.2.2.2.2
    refine cx_aload_n (i := 0) hE d_Mo_readSource_25 rfl rfl ?_
    refine cx_w0 hE d_Mo_readSource_26 l_Mo_404 W_15 (c_Mo_design (N := 65540) W_15.1 W_15.2.2 hdsg) rfl (by omega) (Nat.le_of_ble_eq_true rfl) n_Mo_design (by first | rfl | (simp only [List.map_cons, List.map_nil, cx_rfc]; rfl)) (fun G_26 P_26 M_26 W_26 K_26 => ?_)
    have m_26 := W_26.1.1
    refine cx_vret hE d_Mo_readSource_29 rfl ?_
    exact ⟨_, _, rfl, W_26, K_26⟩

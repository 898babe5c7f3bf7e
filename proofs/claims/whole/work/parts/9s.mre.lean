/-! THE REFERENCE: read. -/
/-- the object between two calls: n bytes f on the tape, the fault ft, the modules us -/
def rr_I (M : rm_M) (n : Nat) (f : Nat → Int32) (ft : Int32) (us : List tx_U) : Prop := M.1 54 = nI n ∧ n ≤ 10240 ∧ (∀ j, j < n → M.2.1 1 j = f j) ∧ M.1 3 = ft ∧ (∀ r, r = 1 ∨ r = 52 ∨ r = 53 → ∀ j, fits .byte (.int (M.2.1 r j)) = true) ∧ rr_u M ∧ ((M.1 51 = 0 ∧ us = []) ∨ ∃ (nn : Nat) (i : Nat) (s : tx_S), M.1 51 = 1 ∧ M.1 55 = nI nn ∧ nn ≤ 10240 ∧ (∀ j, j < nn → M.2.1 52 j = M.2.1 53 j) ∧ rm_T nn (tx_lex nn (tx_at nn (M.2.1 53))) M ∧ tx_dsg (tx_lex nn (tx_at nn (M.2.1 53))) 0 tx_s0 = .inr ((), i, s) ∧ s.1.1 = 0 ∧ us = s.2.1 ∧ rr_T (tx_lex nn (tx_at nn (M.2.1 53))) M us)
/-- k bytes of the row src were copied to the row dst -/
def rr_cp (src dst : Nat) (M M1 : rm_M) (k : Nat) : Prop := M1.1 = M.1 ∧ (∀ j, j ≠ dst → M1.2.1 j = M.2.1 j) ∧ M1.2.2 = M.2.2 ∧ (∀ j, j < k → M1.2.1 dst j = M.2.1 src j) ∧ ∀ j, fits .byte (.int (M1.2.1 dst j)) = true
theorem rr_cp.st {src dst k : Nat} {M M1 : rm_M} (h : rr_cp src dst M M1 k) (hne : src ≠ dst) (hf : ∀ j, fits .byte (.int (M.2.1 src j)) = true) : rr_cp src dst M (M1.1, va_up M1.2.1 dst (upd (M1.2.1 dst) k (vp_nar .byte (M1.2.1 src k))), M1.2.2) (k + 1) := by
  obtain ⟨h1, h2, h3, h4, h5⟩ := h
  refine ⟨h1, fun j hj => ?_, h3, fun j hj => ?_, fun j => ?_⟩
  · show va_up M1.2.1 dst _ j = _
    rw [va_up_ne _ _ hj]
    exact h2 j hj
  · show va_up M1.2.1 dst _ dst j = _
    rw [va_up_self]
    by_cases z : j = k
    · rw [z, pk_us, h2 src hne, rr_nar (hf k)]
    · rw [pk_un z]
      exact h4 j (by omega)
  · show fits .byte (.int (va_up M1.2.1 dst _ dst j)) = true
    rw [va_up_self]
    by_cases z : j = k
    · rw [z, pk_us, vp_nar_byte]
      exact pk_fb _
    · rw [pk_un z]
      exact h5 j
theorem rm_W.sb {k : cx_K} {mo : Nat} {b : Nat × Nat} {G G1 G2 : cx_G} {P P1 : Nat → Nat} {M1 : rm_M} (h : rm_W k mo b G P G1 P1 M1) (i : Nat) (hi : rm_ty i = 0) {g : Nat → Int32} (hG : cx_put G1 (P1 i) (.inl (k.2.1 0, rm_len M1.2.2.2 i, .inl g)) = G2) : rm_W k mo b G P G2 P1 (M1.1, va_up M1.2.1 i g, M1.2.2) := ⟨(h.1.si i 0 hi (Or.inl rfl) hG).1, h.2.1.tr (h.1.si i 0 hi (Or.inl rfl) hG).2.s2, h.2.2.eq (cx_pc hG) rfl⟩
theorem tx_at_eq {n : Nat} {f g : Nat → Int32} (h : ∀ j, j < n → f j = g j) : tx_at n f = tx_at n g := by
  funext p
  unfold tx_at
  by_cases z : p < n
  · rw [if_pos z, if_pos z, h p z]
  · rw [if_neg z, if_neg z]
section RRB
variable {M M1 M2 M4 M5 M6 : rm_M} {n nn : Nat} {f : Nat → Int32} {ft : Int32} {us : List tx_U}
/-- what a good reading leaves -/
theorem rr_ok {i : Nat} {s : tx_S} (hb1 : ∀ j, fits .byte (.int (M5.2.1 1 j)) = true) (hb53 : ∀ j, fits .byte (.int (M5.2.1 53 j)) = true) (hu : rr_u M5) (hR : tx_dsg (tx_lex n (tx_at n (M5.2.1 53))) 0 tx_s0 = .inr ((), i, s)) (h0 : s.1.1 = 0) (hT : rm_T n (tx_lex n (tx_at n (M5.2.1 53))) M5) (hrT : rr_T (tx_lex n (tx_at n (M5.2.1 53))) M5 s.2.1) (h54 : M5.1 54 = 0) (hc : rr_cp 53 52 (rp_int M5 3 ft) M6 n) : rr_I (rp_int (rp_int M6 55 (nI n)) 51 1) 0 f ft s.2.1 := by
  have e1 : M6.1 = (rp_int M5 3 ft).1 := hc.1
  have er : ∀ j, j ≠ 52 → M6.2.1 j = M5.2.1 j := hc.2.1
  have el : M6.2.2 = M5.2.2 := hc.2.2.1
  have i6 : ∀ j, j ≠ 3 → j ≠ 55 → j ≠ 51 → (rp_int (rp_int M6 55 (nI n)) 51 1).1 j = M5.1 j := by
    intro j d1 d2 d3
    show va_up (va_up M6.1 55 (nI n)) 51 1 j = _
    rw [va_up_ne _ _ d3, va_up_ne _ _ d2, e1]
    exact va_up_ne _ _ d1
  refine ⟨(i6 54 (by decide) (by decide) (by decide)).trans h54, by omega, fun j hj => absurd hj (Nat.not_lt_zero _), ?_, fun r hr j => ?_, ?_, Or.inr ⟨n, i, s, rfl, rfl, hT.2.1, fun j hj => ?_, ?_, ?_, h0, rfl, ?_⟩⟩
  · show M6.1 3 = _
    rw [e1]
    rfl
  · rcases hr with rfl | rfl | rfl
    · show fits .byte (.int (M6.2.1 1 j)) = true
      rw [er 1 (by decide)]; exact hb1 j
    · exact hc.2.2.2.2 j
    · show fits .byte (.int (M6.2.1 53 j)) = true
      rw [er 53 (by decide)]; exact hb53 j
  · intro j hj
    show tx_isU (M6.2.1 4 j) = false
    rw [er 4 (by decide)]; exact hu j hj
  · show M6.2.1 52 j = M6.2.1 53 j
    rw [er 53 (by decide)]
    exact hc.2.2.2.1 j hj
  · show rm_T n (tx_lex n (tx_at n (M6.2.1 53))) _
    rw [er 53 (by decide)]
    exact hT.to (i6 2 (by decide) (by decide) (by decide)) (fun j hj => er j (by omega))
  · show tx_dsg (tx_lex n (tx_at n (M6.2.1 53))) 0 tx_s0 = _
    rw [er 53 (by decide)]
    exact hR
  · show rr_T (tx_lex n (tx_at n (M6.2.1 53))) _ _
    rw [er 53 (by decide)]
    obtain ⟨g1, g2, LO, LI, g3, g4, g5⟩ := hrT
    refine ⟨(i6 12 (by decide) (by decide) (by decide)).trans g1, g2, LO, LI, g3, g4, fun j v hv => ?_⟩
    refine (g5 j v hv).to (mc := s.2.1.length) (tx_len hv) (rt_pre.of (fun j hj => er j (by omega)) (fun j _ => ?_)) (Nat.le_refl _) (Nat.le_refl _)
    show M6.2.2.1 j = _
    rw [el]
/-- a bad one, and there was none before -/
theorem rr_no {a : Nat} (hI : rr_I M a f ft us) (h51 : M.1 51 = 0) (hb53 : ∀ j, fits .byte (.int (M5.2.1 53 j)) = true) (hu : rr_u M5) (h1 : M5.2.1 1 = M.2.1 1) (h52 : M5.2.1 52 = M.2.1 52) (h54 : M5.1 54 = 0) (h51' : M5.1 51 = 0) (x : Int32) : rr_I (rp_int M5 3 x) 0 f x us := by
  obtain ⟨-, -, -, -, g5, -, g7⟩ := hI
  have hus : us = [] := by
    rcases g7 with ⟨-, y⟩ | ⟨nn, i, s, y, -⟩
    · exact y
    · rw [h51] at y; exact absurd y (by decide)
  refine ⟨h54, by omega, fun j hj => absurd hj (Nat.not_lt_zero _), rfl, fun r hr j => ?_, hu, Or.inl ⟨h51', hus⟩⟩
  rcases hr with rfl | rfl | rfl
  · show fits .byte (.int (M5.2.1 1 j)) = true
    rw [h1]; exact g5 1 (by simp) j
  · show fits .byte (.int (M5.2.1 52 j)) = true
    rw [h52]; exact g5 52 (by simp) j
  · exact hb53 j
/-- a bad one; the text before is read again -/
theorem rr_again {a i : Nat} {s : tx_S} (hI : rr_I M a f ft us) (h55 : M.1 55 = nI nn) (hnn : nn ≤ 10240) (h53 : ∀ j, j < nn → M.2.1 52 j = M.2.1 53 j) (hR : tx_dsg (tx_lex nn (tx_at nn (M.2.1 53))) 0 tx_s0 = .inr ((), i, s)) (h0 : s.1.1 = 0) (hus : us = s.2.1) (h1 : M5.2.1 1 = M.2.1 1) (h52 : M5.2.1 52 = M.2.1 52) (h54 : M5.1 54 = 0) (h51 : M5.1 51 = 1) (h55' : M5.1 55 = nI nn) (h3 : M5.1 3 = ft) (hc : ∀ j, j < nn → M5.2.1 53 j = M.2.1 52 j) (hb : ∀ j, fits .byte (.int (M5.2.1 53 j)) = true) (hS : rr_S nn M5 M6) : rr_I M6 0 f ft us := by
  obtain ⟨-, -, -, -, g5, -, -⟩ := hI
  obtain ⟨⟨s1, s2⟩, s3, s4⟩ := hS
  have ea : tx_at nn (M5.2.1 53) = tx_at nn (M.2.1 53) := tx_at_eq (fun j hj => (hc j hj).trans (h53 j hj))
  rw [ea, hR] at s4
  have s5 : M6.1 9 = 0 ∧ rm_T nn (tx_lex nn (tx_at nn (M.2.1 53))) M6 ∧ rr_T (tx_lex nn (tx_at nn (M.2.1 53))) M6 s.2.1 := by
    have : (if s.1.1 = 0 then _ else _) := s4
    rw [if_pos h0] at this
    exact this
  have e53 := s2 53 (by simp)
  refine ⟨(s1 54 (by simp)).trans h54, by omega, fun j hj => absurd hj (Nat.not_lt_zero _), (s1 3 (by simp)).trans h3, fun r hr j => ?_, s3, Or.inr ⟨nn, i, s, (s1 51 (by simp)).trans h51, (s1 55 (by simp)).trans h55', hnn, fun j hj => ?_, ?_, ?_, h0, hus, ?_⟩⟩
  · rcases hr with rfl | rfl | rfl
    · rw [s2 1 (by simp), h1]; exact g5 1 (by simp) j
    · rw [s2 52 (by simp), h52]; exact g5 52 (by simp) j
    · rw [e53]; exact hb j
  · rw [s2 52 (by simp), e53, h52]
    exact (hc j hj).symm
  · rw [e53, ea]; exact s5.2.1
  · rw [e53, ea]; exact hR
  · rw [e53, ea, hus]; exact s5.2.2
end RRB
set_option maxRecDepth 100000 in
theorem c_Mo_read1 {k : cx_K} {l : Launch} {G : cx_G} {mo : Nat} {P : Nat → Nat} {M : rm_M} {b : Nat × Nat} (hm : rm_R k G mo P M) (hQ : rm_Q b G M) {n : Nat} {f : Nat → Int32} {ft : Int32} {us : List tx_U} (hI : rr_I M n f ft us)  : cx_Sp k l m_Mo_read1 550 [.ref mo] G (rp_P k mo b G P (fun v M9 => v = (ct_rd n f us).1 ∧ M9.1 0 = 0 ∧ rr_I M9 0 f (ct_rd n f us).2.1 (ct_rd n f us).2.2)) := by
  intro E hE
  have W0 := rm_W.rf hm hQ
  have m0 := hm.1
  have hI0 := hI
  obtain ⟨g54, gn, gf, g3, gb, gu, gT⟩ := hI
  have h33 : ∀ (xk : Int32) (G1 : cx_G) (P1 : Nat → Nat) (M1 : rm_M), rr_cp 1 53 (rp_int M 0 0) M1 n → rm_W k mo b G P G1 P1 M1 → cx_V E 33 [(1, false, .int xk), (0, false, .ref mo)] [] G1 := by
    intro xk G1 P1 M1 hcp W1
    have m1 := W1.1.1
    have el : M1.1 54 = nI n := by rw [hcp.1]; exact g54
    have hat : tx_at n (M1.2.1 53) = tx_at n f := tx_at_eq (fun j hj => (hcp.2.2.2.1 j hj).trans (gf j hj))
    refine cx_aload_n (i := 0) hE d_Mo_read1_33 rfl rfl ?_
    refine cx_aload_n (i := 0) hE d_Mo_read1_34 rfl rfl ?_
    refine cx_get hE d_Mo_read1_35 f_Mo_407 (by assumption) (by rfl) ?_
    rw [el]
    refine cx_putg hE d_Mo_read1_38 f_Mo_126 (by assumption) (Nat.le_of_ble_eq_true rfl) (by first | rfl | exact cx_nr _ _) (by first | rfl | exact cx_fr _ _) (fun G_38 g_38 h_38 => ?_)
    rw [rm_s2] at g_38
    clear h_38
    have W_38 : rm_W k mo b G P G_38 P1 (rp_int M1 2 (nI n)) := W1.pi g_38
    have m_38 := W_38.1.1
    refine cx_aload_n (i := 0) hE d_Mo_read1_41 rfl rfl ?_
    refine cx_iconst (v := 0) hE d_Mo_read1_42 (by decide) ?_
    refine cx_putg hE d_Mo_read1_43 f_Mo_407 (by assumption) (Nat.le_of_ble_eq_true rfl) (by first | rfl | exact cx_nr _ _) (by first | rfl | exact cx_fr _ _) (fun G_43 g_43 h_43 => ?_)
    rw [rm_s54] at g_43
    clear h_43
    have W_43 : rm_W k mo b G P G_43 P1 (rp_int (rp_int M1 2 (nI n)) 54 0) := W_38.pi g_43
    have m_43 := W_43.1.1
    refine cx_aload_n (i := 0) hE d_Mo_read1_46 rfl rfl ?_
    refine cx_w0 hE d_Mo_read1_47 l_Mo_410 W_43 (c_Mo_readSource W_43.1 W_43.2.2 (nn := n) rfl gn hcp.2.2.2.2 (fun j hj => by show tx_isU (M1.2.1 4 j) = false; rw [hcp.2.1 4 (by decide)]; exact gu j hj)) rfl (by omega) (Nat.le_of_ble_eq_true rfl) n_Mo_readSource (by first | rfl | (simp only [List.map_cons, List.map_nil, cx_rfc]; rfl)) (fun G_47 P_47 M_47 W_47 K_47 => ?_)
    have m_47 := W_47.1.1
    obtain ⟨⟨q1_47, q2_47⟩, q3_47, q4_47⟩ := K_47
    rw [show tx_at n ((rp_int (rp_int M1 2 (nI n)) 54 0).2.1 53) = tx_at n f from hat] at q4_47
    have hb53 : ∀ j, fits .byte (.int (M_47.2.1 53 j)) = true := fun j => by rw [q2_47 53 (by simp)]; exact hcp.2.2.2.2 j
    have r1_47 : M_47.2.1 1 = M.2.1 1 := (q2_47 1 (by simp)).trans (hcp.2.1 1 (by decide))
    have r52_47 : M_47.2.1 52 = M.2.1 52 := (q2_47 52 (by simp)).trans (hcp.2.1 52 (by decide))
    have i54_47 : M_47.1 54 = 0 := q1_47 54 (by simp)
    have i51_47 : M_47.1 51 = M.1 51 := (q1_47 51 (by simp)).trans (by show M1.1 51 = _; rw [hcp.1]; rfl)
    have i55_47 : M_47.1 55 = M.1 55 := (q1_47 55 (by simp)).trans (by show M1.1 55 = _; rw [hcp.1]; rfl)
    have i2_47 : M_47.1 2 = nI n := q1_47 2 (by simp)
    have i0_47 : M_47.1 0 = 0 := (q1_47 0 (by simp)).trans (by show M1.1 0 = _; rw [hcp.1]; rfl)
    have hat5 : tx_at n (M_47.2.1 53) = tx_at n f := by rw [q2_47 53 (by simp)]; exact hat
    refine cx_aload_n (i := 0) hE d_Mo_read1_50 rfl rfl ?_
    refine cx_aload_n (i := 0) hE d_Mo_read1_51 rfl rfl ?_
    refine cx_get hE d_Mo_read1_52 f_Mo_187 (by assumption) (by rfl) ?_
    refine cx_putg hE d_Mo_read1_55 f_Mo_413 (by assumption) (Nat.le_of_ble_eq_true rfl) (by first | rfl | exact cx_nr _ _) (by first | rfl | exact cx_fr _ _) (fun G_55 g_55 h_55 => ?_)
    rw [rm_s3] at g_55
    clear h_55
    have W_55 : rm_W k mo b G P G_55 P_47 (rp_int M_47 3 (M_47.1 9)) := W_47.pi g_55
    have m_55 := W_55.1.1
    refine cx_aload_n (i := 0) hE d_Mo_read1_58 rfl rfl ?_
    refine cx_get hE d_Mo_read1_59 f_Mo_190 (by assumption) (by rfl) ?_
    refine cx_istore_n (i := 1) hE d_Mo_read1_62 rfl (by decide) ?_
    refine cx_aload_n (i := 0) hE d_Mo_read1_63 rfl rfl ?_
    refine cx_get hE d_Mo_read1_64 f_Mo_187 (by assumption) (by rfl) ?_
    refine cx_if_ne (tgt := 113)  hE d_Mo_read1_67 (by decide) (fun c_67 => ?_) (fun c_67 => ?_)
    · have hbad : (ct_rd n f us) = (M_47.1 10, M_47.1 9, us) := by
        unfold ct_rd
        cases hd : tx_dsg (tx_lex n (tx_at n f)) 0 tx_s0 with
        | inl e =>
          rw [hd] at q4_47
          rw [q4_47.1, q4_47.2.1]
        | inr y =>
          obtain ⟨y1, i, s⟩ := y
          rw [hd] at q4_47
          have q5 : (if s.1.1 = 0 then M_47.1 9 = 0 ∧ rm_T n (tx_lex n (tx_at n f)) M_47 ∧ rr_T (tx_lex n (tx_at n f)) M_47 s.2.1 else M_47.1 9 = s.1.1 ∧ M_47.1 10 = s.1.2) := q4_47
          show (if s.1.1 = 0 then (-1, 0, s.2.1) else (s.1.2, s.1.1, us)) = _
          by_cases z : s.1.1 = 0
          · rw [if_pos z] at q5
            exact absurd q5.1 c_67
          · rw [if_neg z] at q5 ⊢
            rw [q5.1, q5.2]
      refine cx_aload_n (i := 0) hE d_Mo_read1_113 rfl rfl ?_
      refine cx_get hE d_Mo_read1_114 f_Mo_419 (by assumption) (by rfl) ?_
      refine cx_if_eq (tgt := 160)  hE d_Mo_read1_117 (by decide) (fun c_117 => ?_) (fun c_117 => ?_)
      · have hfin0 : (fun v M9 => v = (ct_rd n f us).1 ∧ M9.1 0 = 0 ∧ rr_I M9 0 f (ct_rd n f us).2.1 (ct_rd n f us).2.2) (M_47.1 10) (rp_int M_47 3 (M_47.1 9)) := by
          rw [hbad]
          exact ⟨rfl, i0_47, rr_no hI0 (i51_47.symm.trans c_117) hb53 q3_47 r1_47 r52_47 i54_47 c_117 _⟩
        refine cx_iload_n (i := 1) hE d_Mo_read1_160 rfl rfl ?_
        refine cx_iret hE d_Mo_read1_161 rfl rfl ?_
        exact ⟨_, _, _, rfl, W_55, hfin0⟩
      · have hth : ∃ (nn : Nat) (i : Nat) (s : tx_S), M.1 51 = 1 ∧ M.1 55 = nI nn ∧ nn ≤ 10240 ∧ (∀ j, j < nn → M.2.1 52 j = M.2.1 53 j) ∧ rm_T nn (tx_lex nn (tx_at nn (M.2.1 53))) M ∧ tx_dsg (tx_lex nn (tx_at nn (M.2.1 53))) 0 tx_s0 = .inr ((), i, s) ∧ s.1.1 = 0 ∧ us = s.2.1 ∧ rr_T (tx_lex nn (tx_at nn (M.2.1 53))) M us := by
          rcases gT with ⟨y, -⟩ | y
          · exact absurd (i51_47.trans y) c_117
          · exact y
        obtain ⟨nn, i, s, t51, t55, tnn, t53, tT, tR, t0, tus, trT⟩ := hth
        have el122 : (rp_int M_47 3 (M_47.1 9)).1 55 = nI nn := i55_47.trans t55
        have hf122 : ∀ j, fits .byte (.int ((rp_int M_47 3 (M_47.1 9)).2.1 52 j)) = true := fun j => by show fits .byte (.int (M_47.2.1 52 j)) = true; rw [r52_47]; exact gb 52 (by simp) j
        have h148 : ∀ (xk : Int32) (G2 : cx_G) (P2 : Nat → Nat) (M2 : rm_M), rr_cp 52 53 (rp_int M_47 3 (M_47.1 9)) M2 nn → rm_W k mo b G P G2 P2 M2 → cx_V E 148 [(2, false, .int xk), (1, false, .int (M_47.1 10)), (0, false, .ref mo)] [] G2 := by
          intro xk G2 P2 M2 hcp2 W2
          have m2 := W2.1.1
          have el2 : M2.1 55 = nI nn := by rw [hcp2.1]; exact el122
          refine cx_aload_n (i := 0) hE d_Mo_read1_148 rfl rfl ?_
          refine cx_aload_n (i := 0) hE d_Mo_read1_149 rfl rfl ?_
          refine cx_get hE d_Mo_read1_150 f_Mo_416 (by assumption) (by rfl) ?_
          rw [el2]
          refine cx_putg hE d_Mo_read1_153 f_Mo_126 (by assumption) (Nat.le_of_ble_eq_true rfl) (by first | rfl | exact cx_nr _ _) (by first | rfl | exact cx_fr _ _) (fun G_153 g_153 h_153 => ?_)
          rw [rm_s2] at g_153
          clear h_153
          have W_153 : rm_W k mo b G P G_153 P2 (rp_int M2 2 (nI nn)) := W2.pi g_153
          have m_153 := W_153.1.1
          refine cx_aload_n (i := 0) hE d_Mo_read1_156 rfl rfl ?_
          refine cx_w0 hE d_Mo_read1_157 l_Mo_410 W_153 (c_Mo_readSource W_153.1 W_153.2.2 (nn := nn) rfl tnn hcp2.2.2.2.2 (fun j hj => by show tx_isU (M2.2.1 4 j) = false; rw [hcp2.2.1 4 (by decide)]; exact q3_47 j hj)) rfl (by omega) (Nat.le_of_ble_eq_true rfl) n_Mo_readSource (by first | rfl | (simp only [List.map_cons, List.map_nil, cx_rfc]; rfl)) (fun G_157 P_157 M_157 W_157 K_157 => ?_)
          have m_157 := W_157.1.1
          have hfin : (fun v M9 => v = (ct_rd n f us).1 ∧ M9.1 0 = 0 ∧ rr_I M9 0 f (ct_rd n f us).2.1 (ct_rd n f us).2.2) (M_47.1 10) M_157 := by
            rw [hbad]
            have ei : ∀ j, j ≠ 2 → j ≠ 3 → (rp_int M2 2 (nI nn)).1 j = M_47.1 j := fun j d1 d2 => by
              show va_up M2.1 2 (nI nn) j = _
              rw [va_up_ne _ _ d1, hcp2.1]
              exact va_up_ne _ _ d2
            have er : ∀ j, j ≠ 53 → (rp_int M2 2 (nI nn)).2.1 j = M_47.2.1 j := fun j d => hcp2.2.1 j d
            refine ⟨rfl, (K_157.1.1 0 (by simp)).trans ((ei 0 (by decide) (by decide)).trans i0_47), ?_⟩
            have h3 : (rp_int M2 2 (nI nn)).1 3 = M_47.1 9 := by
              show M2.1 3 = _
              rw [hcp2.1]
              rfl
            obtain ⟨-, z1, z2, -, z3, z4, z5⟩ := hI0
            have hI1 : rr_I (rp_int M 3 (M_47.1 9)) n f (M_47.1 9) us := by
              refine ⟨g54, z1, z2, rfl, z3, z4, Or.inr ⟨nn, i, s, t51, t55, tnn, t53, tT.to rfl (fun _ _ => rfl), tR, t0, tus, ?_⟩⟩
              obtain ⟨w1, w2, LO, LI, w3, w4, w5⟩ := trT
              exact ⟨w1, w2, LO, LI, w3, w4, w5⟩
            exact rr_again (M := rp_int M 3 (M_47.1 9)) (M5 := rp_int M2 2 (nI nn)) hI1 t55 tnn t53 tR t0 tus ((er 1 (by decide)).trans r1_47) ((er 52 (by decide)).trans r52_47) ((ei 54 (by decide) (by decide)).trans i54_47) ((ei 51 (by decide) (by decide)).trans (i51_47.trans t51)) ((ei 55 (by decide) (by decide)).trans (i55_47.trans t55)) h3 (fun j hj => (hcp2.2.2.2.1 j hj).trans (by show M_47.2.1 52 j = _; rw [r52_47]; rfl)) hcp2.2.2.2.2 K_157
          refine cx_iload_n (i := 1) hE d_Mo_read1_160 rfl rfl ?_
          refine cx_iret hE d_Mo_read1_161 rfl rfl ?_
          exact ⟨_, _, _, rfl, W_157, hfin⟩
        have h122 : ∀ (d kk : Nat) (G1 : cx_G) (P1 : Nat → Nat) (M1 : rm_M), kk + d = nn → rr_cp 52 53 (rp_int M_47 3 (M_47.1 9)) M1 kk → rm_W k mo b G P G1 P1 M1 → cx_V E 122 [(2, false, .int (nI kk)), (1, false, .int (M_47.1 10)), (0, false, .ref mo)] [] G1 := by
          intro d
          induction d using Nat.strongRecOn with
          | ind d ih =>
            intro kk G1 P1 M1 hkd hcp W1
            have m1 := W1.1.1
            have el : M1.1 55 = nI nn := by rw [hcp.1]; exact el122
            refine cx_iload_n (i := 2) hE d_Mo_read1_122 rfl rfl ?_
            refine cx_aload_n (i := 0) hE d_Mo_read1_123 rfl rfl ?_
            refine cx_get hE d_Mo_read1_124 f_Mo_416 (by assumption) (by rfl) ?_
            rw [el]
            refine cx_icmp_ge (tgt := 148)  hE d_Mo_read1_127 (by decide) (fun c_127 => ?_) (fun c_127 => ?_)
            · have ek : kk = nn := by
                have := (nI_leI (by omega) (by omega)).mp c_127
                omega
              rw [ek] at hcp
              refine cx_sub [0, 1, 2] rfl ?_
              exact h148 _ _ _ _ hcp W1
            · have hlt : kk < nn := by
                rcases Nat.lt_or_ge kk nn with y | y
                · exact y
                · exact absurd (nI_le y (by omega)) c_127
              refine cx_aload_n (i := 0) hE d_Mo_read1_130 rfl rfl ?_
              refine cx_get hE d_Mo_read1_131 f_Mo_116 (by assumption) (by rfl) ?_
              refine cx_iload_n (i := 2) hE d_Mo_read1_134 rfl rfl ?_
              refine cx_aload_n (i := 0) hE d_Mo_read1_135 rfl rfl ?_
              refine cx_get hE d_Mo_read1_136 f_Mo_113 (by assumption) (by rfl) ?_
              refine cx_iload_n (i := 2) hE d_Mo_read1_139 rfl rfl ?_
              refine cx_bald 0 hE d_Mo_read1_140 rfl (W1.1.b 52 rfl) (vp_in_nI (by show _ < 65536; omega) (by show 65536 < 2147483648; omega)) ?_
              rw [nI_clamp (by omega)]
              refine cx_bast 0 hE d_Mo_read1_141 rfl (W1.1.b 53 rfl) (vp_in_nI (by show _ < 65536; omega) (by show 65536 < 2147483648; omega)) ?_
              rw [nI_clamp (by omega)]
              refine cx_gen (fun G_141 g_141 => ?_)
              have W_141 := W1.sb 53 rfl g_141
              have m_141 := W_141.1.1
              refine cx_iinc (v := nI (kk + 1)) hE d_Mo_read1_142 rfl (nI_1 _) (by decide) ?_
              refine cx_goto (tgt := 122) hE d_Mo_read1_145 (by decide) ?_
              refine cx_sub [0, 1, 2] rfl ?_
              exact ih (d - 1) (by omega) (kk + 1) _ _ _ (by omega) (hcp.st (by decide) hf122) W_141
        refine cx_iconst (v := 0) hE d_Mo_read1_120 (by decide) ?_
        refine cx_istore_n (i := 2) hE d_Mo_read1_121 rfl (by decide) ?_
        refine cx_sub [0, 1, 2] rfl ?_
        exact h122 nn 0 _ _ _ (Nat.zero_add _) ⟨rfl, fun _ _ => rfl, rfl, fun j hj => absurd hj (Nat.not_lt_zero _), hb53⟩ W_55
    · have hok : ∃ i s, tx_dsg (tx_lex n (tx_at n f)) 0 tx_s0 = .inr ((), i, s) ∧ s.1.1 = 0 ∧ rm_T n (tx_lex n (tx_at n f)) M_47 ∧ rr_T (tx_lex n (tx_at n f)) M_47 s.2.1 := by
        cases hd : tx_dsg (tx_lex n (tx_at n f)) 0 tx_s0 with
        | inl e =>
          rw [hd] at q4_47
          exact absurd (q4_47.1.symm.trans c_67) q4_47.2.2
        | inr y =>
          obtain ⟨y1, i, s⟩ := y
          rw [hd] at q4_47
          have q5 : (if s.1.1 = 0 then M_47.1 9 = 0 ∧ rm_T n (tx_lex n (tx_at n f)) M_47 ∧ rr_T (tx_lex n (tx_at n f)) M_47 s.2.1 else M_47.1 9 = s.1.1 ∧ M_47.1 10 = s.1.2) := q4_47
          by_cases z : s.1.1 = 0
          · rw [if_pos z] at q5
            exact ⟨i, s, rfl, z, q5.2⟩
          · rw [if_neg z] at q5
            exact absurd (q5.1.symm.trans c_67) z
      obtain ⟨i, s, hR, h0, hT5, hrT5⟩ := hok
      have hct : ct_rd n f us = (-1, 0, s.2.1) := by
        unfold ct_rd
        rw [hR]
        exact if_pos h0
      have c_67' : M_47.1 9 = 0 := c_67
      have el72 : (rp_int M_47 3 (M_47.1 9)).1 2 = nI n := i2_47
      have hf72 : ∀ j, fits .byte (.int ((rp_int M_47 3 (M_47.1 9)).2.1 53 j)) = true := hb53
      have h98 : ∀ (xw xk : Int32) (G2 : cx_G) (P2 : Nat → Nat) (M2 : rm_M), rr_cp 53 52 (rp_int M_47 3 (M_47.1 9)) M2 n → rm_W k mo b G P G2 P2 M2 → cx_V E 98 [(2, false, .int xk), (1, false, .int xw), (0, false, .ref mo)] [] G2 := by
        intro xw xk G2 P2 M2 hcp2 W2
        have m2 := W2.1.1
        have el2 : M2.1 2 = nI n := by rw [hcp2.1]; exact i2_47
        refine cx_aload_n (i := 0) hE d_Mo_read1_98 rfl rfl ?_
        refine cx_aload_n (i := 0) hE d_Mo_read1_99 rfl rfl ?_
        refine cx_get hE d_Mo_read1_100 f_Mo_126 (by assumption) (by rfl) ?_
        rw [el2]
        refine cx_putg hE d_Mo_read1_103 f_Mo_416 (by assumption) (Nat.le_of_ble_eq_true rfl) (by first | rfl | exact cx_nr _ _) (by first | rfl | exact cx_fr _ _) (fun G_103 g_103 h_103 => ?_)
        rw [rm_s55] at g_103
        clear h_103
        have W_103 : rm_W k mo b G P G_103 P2 (rp_int M2 55 (nI n)) := W2.pi g_103
        have m_103 := W_103.1.1
        refine cx_aload_n (i := 0) hE d_Mo_read1_106 rfl rfl ?_
        refine cx_iconst (v := 1) hE d_Mo_read1_107 (by decide) ?_
        refine cx_putg hE d_Mo_read1_108 f_Mo_419 (by assumption) (Nat.le_of_ble_eq_true rfl) (by first | rfl | exact cx_nr _ _) (by first | rfl | exact cx_fr _ _) (fun G_108 g_108 h_108 => ?_)
        rw [rm_s51] at g_108
        clear h_108
        have W_108 : rm_W k mo b G P G_108 P2 (rp_int (rp_int M2 55 (nI n)) 51 1) := W_103.pi g_108
        have m_108 := W_108.1.1
        have hfin : (fun v M9 => v = (ct_rd n f us).1 ∧ M9.1 0 = 0 ∧ rr_I M9 0 f (ct_rd n f us).2.1 (ct_rd n f us).2.2) (-1) (rp_int (rp_int M2 55 (nI n)) 51 1) := by
          rw [hct]
          refine ⟨rfl, ?_, ?_⟩
          · show M2.1 0 = 0
            rw [hcp2.1]; exact i0_47
          · refine rr_ok (M5 := M_47) (i := i) (fun j => by rw [r1_47]; exact gb 1 (by simp) j) hb53 q3_47 (by rw [hat5]; exact hR) h0 (by rw [hat5]; exact hT5) (by rw [hat5]; exact hrT5) i54_47 ?_
            rw [c_67'] at hcp2
            exact hcp2
        refine cx_iconst (v := -1) hE d_Mo_read1_111 (by decide) ?_
        refine cx_iret hE d_Mo_read1_112 rfl rfl ?_
        exact ⟨_, _, _, rfl, W_108, hfin⟩
      have h72 : ∀ (d kk : Nat) (G1 : cx_G) (P1 : Nat → Nat) (M1 : rm_M), kk + d = n → rr_cp 53 52 (rp_int M_47 3 (M_47.1 9)) M1 kk → rm_W k mo b G P G1 P1 M1 → cx_V E 72 [(2, false, .int (nI kk)), (1, false, .int (M_47.1 10)), (0, false, .ref mo)] [] G1 := by
        intro d
        induction d using Nat.strongRecOn with
        | ind d ih =>
          intro kk G1 P1 M1 hkd hcp W1
          have m1 := W1.1.1
          have el : M1.1 2 = nI n := by rw [hcp.1]; exact el72
          refine cx_iload_n (i := 2) hE d_Mo_read1_72 rfl rfl ?_
          refine cx_aload_n (i := 0) hE d_Mo_read1_73 rfl rfl ?_
          refine cx_get hE d_Mo_read1_74 f_Mo_126 (by assumption) (by rfl) ?_
          rw [el]
          refine cx_icmp_ge (tgt := 98)  hE d_Mo_read1_77 (by decide) (fun c_77 => ?_) (fun c_77 => ?_)
          · have ek : kk = n := by
              have := (nI_leI (by omega) (by omega)).mp c_77
              omega
            rw [ek] at hcp
            refine cx_sub [0, 1, 2] rfl ?_
            exact h98 _ _ _ _ _ hcp W1
          · have hlt : kk < n := by
              rcases Nat.lt_or_ge kk n with y | y
              · exact y
              · exact absurd (nI_le y (by omega)) c_77
            refine cx_aload_n (i := 0) hE d_Mo_read1_80 rfl rfl ?_
            refine cx_get hE d_Mo_read1_81 f_Mo_113 (by assumption) (by rfl) ?_
            refine cx_iload_n (i := 2) hE d_Mo_read1_84 rfl rfl ?_
            refine cx_aload_n (i := 0) hE d_Mo_read1_85 rfl rfl ?_
            refine cx_get hE d_Mo_read1_86 f_Mo_116 (by assumption) (by rfl) ?_
            refine cx_iload_n (i := 2) hE d_Mo_read1_89 rfl rfl ?_
            refine cx_bald 0 hE d_Mo_read1_90 rfl (W1.1.b 53 rfl) (vp_in_nI (by show _ < 65536; omega) (by show 65536 < 2147483648; omega)) ?_
            rw [nI_clamp (by omega)]
            refine cx_bast 0 hE d_Mo_read1_91 rfl (W1.1.b 52 rfl) (vp_in_nI (by show _ < 65536; omega) (by show 65536 < 2147483648; omega)) ?_
            rw [nI_clamp (by omega)]
            refine cx_gen (fun G_91 g_91 => ?_)
            have W_91 := W1.sb 52 rfl g_91
            have m_91 := W_91.1.1
            refine cx_iinc (v := nI (kk + 1)) hE d_Mo_read1_92 rfl (nI_1 _) (by decide) ?_
            refine cx_goto (tgt := 72) hE d_Mo_read1_95 (by decide) ?_
            refine cx_sub [0, 1, 2] rfl ?_
            exact ih (d - 1) (by omega) (kk + 1) _ _ _ (by omega) (hcp.st (by decide) hf72) W_91
      refine cx_iconst (v := 0) hE d_Mo_read1_70 (by decide) ?_
      refine cx_istore_n (i := 2) hE d_Mo_read1_71 rfl (by decide) ?_
      refine cx_sub [0, 1, 2] rfl ?_
      exact h72 n 0 _ _ _ (Nat.zero_add _) ⟨rfl, fun _ _ => rfl, rfl, fun j hj => absurd hj (Nat.not_lt_zero _), fun j => by show fits .byte (.int (M_47.2.1 52 j)) = true; rw [r52_47]; exact gb 52 (by simp) j⟩ W_55
  have el7 : (rp_int M 0 0).1 54 = nI n := g54
  have hf7 : ∀ j, fits .byte (.int ((rp_int M 0 0).2.1 1 j)) = true := fun j => gb 1 (by simp) j
  have h7 : ∀ (d kk : Nat) (G1 : cx_G) (P1 : Nat → Nat) (M1 : rm_M), kk + d = n → rr_cp 1 53 (rp_int M 0 0) M1 kk → rm_W k mo b G P G1 P1 M1 → cx_V E 7 [(1, false, .int (nI kk)), (0, false, .ref mo)] [] G1 := by
    intro d
    induction d using Nat.strongRecOn with
    | ind d ih =>
      intro kk G1 P1 M1 hkd hcp W1
      have m1 := W1.1.1
      have el : M1.1 54 = nI n := by rw [hcp.1]; exact el7
      refine cx_iload_n (i := 1) hE d_Mo_read1_7 rfl rfl ?_
      refine cx_aload_n (i := 0) hE d_Mo_read1_8 rfl rfl ?_
      refine cx_get hE d_Mo_read1_9 f_Mo_407 (by assumption) (by rfl) ?_
      rw [el]
      refine cx_icmp_ge (tgt := 33)  hE d_Mo_read1_12 (by decide) (fun c_12 => ?_) (fun c_12 => ?_)
      · have ek : kk = n := by
          have := (nI_leI (by omega) (by omega)).mp c_12
          omega
        rw [ek] at hcp
        refine cx_sub [0, 1] rfl ?_
        exact h33 _ _ _ _ hcp W1
      · have hlt : kk < n := by
          rcases Nat.lt_or_ge kk n with y | y
          · exact y
          · exact absurd (nI_le y (by omega)) c_12
        refine cx_aload_n (i := 0) hE d_Mo_read1_15 rfl rfl ?_
        refine cx_get hE d_Mo_read1_16 f_Mo_116 (by assumption) (by rfl) ?_
        refine cx_iload_n (i := 1) hE d_Mo_read1_19 rfl rfl ?_
        refine cx_aload_n (i := 0) hE d_Mo_read1_20 rfl rfl ?_
        refine cx_get hE d_Mo_read1_21 f_Mo_8 (by assumption) (by rfl) ?_
        refine cx_iload_n (i := 1) hE d_Mo_read1_24 rfl rfl ?_
        refine cx_bald 0 hE d_Mo_read1_25 rfl (W1.1.b 1 rfl) (vp_in_nI (by show _ < 65536; omega) (by show 65536 < 2147483648; omega)) ?_
        rw [nI_clamp (by omega)]
        refine cx_bast 0 hE d_Mo_read1_26 rfl (W1.1.b 53 rfl) (vp_in_nI (by show _ < 65536; omega) (by show 65536 < 2147483648; omega)) ?_
        rw [nI_clamp (by omega)]
        refine cx_gen (fun G_26 g_26 => ?_)
        have W_26 := W1.sb 53 rfl g_26
        have m_26 := W_26.1.1
        refine cx_iinc (v := nI (kk + 1)) hE d_Mo_read1_27 rfl (nI_1 _) (by decide) ?_
        refine cx_goto (tgt := 7) hE d_Mo_read1_30 (by decide) ?_
        refine cx_sub [0, 1] rfl ?_
        exact ih (d - 1) (by omega) (kk + 1) _ _ _ (by omega) (hcp.st (by decide) hf7) W_26
  refine cx_aload_n (i := 0) hE d_Mo_read1_0 rfl rfl ?_
  refine cx_iconst (v := 0) hE d_Mo_read1_1 (by decide) ?_
  refine cx_putg hE d_Mo_read1_2 f_Mo_122 (by assumption) (Nat.le_of_ble_eq_true rfl) (by first | rfl | exact cx_nr _ _) (by first | rfl | exact cx_fr _ _) (fun G_2 g_2 h_2 => ?_)
  rw [rm_s0] at g_2
  clear h_2
  have W_2 : rm_W k mo b G P G_2 P (rp_int M 0 0) := W0.pi g_2
  have m_2 := W_2.1.1
  refine cx_iconst (v := 0) hE d_Mo_read1_5 (by decide) ?_
  refine cx_istore_n (i := 1) hE d_Mo_read1_6 rfl (by decide) ?_
  refine cx_sub [0, 1] rfl ?_
  exact h7 n 0 _ _ _ (Nat.zero_add _) ⟨rfl, fun _ _ => rfl, rfl, fun j hj => absurd hj (Nat.not_lt_zero _), fun j => gb 53 (by simp) j⟩ W_2

/-! THE SECOND PASS: conditions and the heap. -/
/-- a condition holds of an answer, the heap is as it was; holds of an answer and what the reference now holds -/
def rp_R (G : cx_G) (K : Int32 → Prop) : cx_R → cx_G → Prop := fun r G' => ∃ v, r = .inl (some (.int v)) ∧ G' = G ∧ K v
def rp_P (k : cx_K) (mo : Nat) (b : Nat × Nat) (G : cx_G) (P : Nat → Nat) (K : Int32 → rm_M → Prop) : cx_R → cx_G → Prop := fun r G' => ∃ v P' M', r = .inl (some (.int v)) ∧ rm_W k mo b G P G' P' M' ∧ K v M'
def rp_PL (k : cx_K) (mo : Nat) (b : Nat × Nat) (G : cx_G) (P : Nat → Nat) (K : Int64 → rm_M → Prop) : cx_R → cx_G → Prop := fun r G' => ∃ v P' M', r = .inl (some (.long v)) ∧ rm_W k mo b G P G' P' M' ∧ K v M'
def rp_P0 (k : cx_K) (mo : Nat) (b : Nat × Nat) (G : cx_G) (P : Nat → Nat) (K : rm_M → Prop) : cx_R → cx_G → Prop := fun r G' => ∃ P' M', r = .inl none ∧ rm_W k mo b G P G' P' M' ∧ K M'
theorem rp_ifp {c : Prop} [Decidable c] {A B : Prop} (h : if c then A else B) (hc : c) : A := by rwa [if_pos hc] at h
theorem rp_ifn {c : Prop} [Decidable c] {A B : Prop} (h : if c then A else B) (hc : ¬ c) : B := by rwa [if_neg hc] at h
section RPW
variable {k : cx_K} {mo : Nat} {b : Nat × Nat} {G G1 G2 : cx_G} {P P1 P2 : Nat → Nat} {M M1 M2 : rm_M}
theorem rm_W.pi (h : rm_W k mo b G P G1 P1 M1) {I : Nat → Int32} (hG : cx_put G1 mo (.inr (12, rm_fs P1 I)) = G2) : rm_W k mo b G P G2 P1 (I, M1.2) := ⟨(h.1.pi hG).1, h.2.1.tr (h.1.pi hG).2.s2, h.2.2.eq (cx_pc hG) rfl⟩
theorem rm_W.si (h : rm_W k mo b G P G1 P1 M1) (i : Nat) (hi : rm_ty i = 1) {g : Nat → Int32} (hG : cx_put G1 (P1 i) (.inl (k.2.1 1, rm_len M1.2.2.2 i, .inl g)) = G2) : rm_W k mo b G P G2 P1 (M1.1, va_up M1.2.1 i g, M1.2.2) := ⟨(h.1.si i 1 hi (Or.inr rfl) hG).1, h.2.1.tr (h.1.si i 1 hi (Or.inr rfl) hG).2.s2, h.2.2.eq (cx_pc hG) rfl⟩
theorem rm_W.sl (h : rm_W k mo b G P G1 P1 M1) (i : Nat) (hi : rm_ty i = 2) {g : Nat → Int64} (hG : cx_put G1 (P1 i) (.inl (k.2.1 2, rm_len M1.2.2.2 i, .inr (.inl g))) = G2) : rm_W k mo b G P G2 P1 (M1.1, M1.2.1, va_up M1.2.2.1 i g, M1.2.2.2) := ⟨(h.1.sl i hi hG).1, h.2.1.tr (h.1.sl i hi hG).2.s2, h.2.2.eq (cx_pc hG) rfl⟩
theorem rm_W.q (h : rm_W k mo b G P G1 P1 M1) (h1 : rm_R k G2 mo P1 M2) (h2 : rm_st mo P1 G1 G2) (h3 : G2.2 = G1.2) (h4 : M2.2.2.2 = M1.2.2.2) : rm_W k mo b G P G2 P1 M2 := ⟨h1, h.2.1.tr h2.s2, h.2.2.eq h3 h4⟩
theorem rm_W.rf (h : rm_R k G mo P M) (hQ : rm_Q b G M) : rm_W k mo b G P G P M := ⟨h, rm_st2.rf _ _ _, hQ⟩
theorem rm_W.base (h : rm_W k mo b G P G1 P1 M1) : rm_W k mo b G1 P1 G1 P1 M1 := ⟨h.1, rm_st2.rf _ _ _, h.2.2⟩
end RPW
section RPC
variable {E : cx_E} {k : cx_K} {l : Launch} {fr fr' : Nat} {X X' : cx_M} {G0 : cx_G} {Post : cx_R → cx_G → Prop} {pc idx : Nat} {lv : cx_L} {st stk av : List Value} {G G1 : cx_G} {P P1 : Nat → Nat} {mo : Nat} {b : Nat × Nat} {M1 : rm_M}
theorem cx_wR {K : Int32 → Prop} (hE : cx_C E k l fr X G0 Post) (hd : decode X.2.1 pc = .ok (.invokevirtual idx, 3)) (hL : cx_LV X.1.cls idx 12 X') (hW : rm_W k mo b G P G1 P1 M1) (hSp : cx_Sp k l X' fr' (.ref mo :: av) G1 (rp_R G1 K)) (hs : stk = av.reverse ++ .ref mo :: st) (hfr : fr' + 1 ≤ fr) (hw : (st.map fun v => v.category).sum ≤ 8) (hn : (parseMethodDescriptor X'.1.desc).map (fun d => d.parameters.length) = some av.length) (hav : (Value.ref mo :: av).map (fun v => v.category) = X'.2.2.2.2.2.map cx_cat)
    (h : ∀ v, K v → cx_V E (pc + 3) lv (.int v :: st) G1) : cx_V E pc lv stk G1 :=
  cx_invV hE hd hL hW.1.1 hSp hs hfr hw hn hav (fun v' G' q => by obtain ⟨v, q1, q2, q3⟩ := q; cases q1; subst q2; exact h v q3) (fun a G' q => by obtain ⟨v, q1, _⟩ := q; cases q1)
theorem cx_wS {K : Int32 → Prop} (hE : cx_C E k l fr X G0 Post) (hd : decode X.2.1 pc = .ok (.invokestatic idx, 3)) (hL : cx_LS X.1.cls idx X') (hSp : cx_Sp k l X' fr' av G1 (rp_R G1 K)) (hs : stk = av.reverse ++ st) (hfr : fr' + 1 ≤ fr) (hw : (st.map fun v => v.category).sum ≤ 8) (hn : (parseMethodDescriptor X'.1.desc).map (fun d => d.parameters.length) = some av.length) (hav : av.map (fun v => v.category) = X'.2.2.2.2.2.map cx_cat)
    (h : ∀ v, K v → cx_V E (pc + 3) lv (.int v :: st) G1) : cx_V E pc lv stk G1 :=
  cx_invS hE hd hL hSp hs hfr hw hn hav (fun v' G' q => by obtain ⟨v, q1, q2, q3⟩ := q; cases q1; subst q2; exact h v q3) (fun a G' q => by obtain ⟨v, q1, _⟩ := q; cases q1)
theorem cx_wP {K : Int32 → rm_M → Prop} (hE : cx_C E k l fr X G0 Post) (hd : decode X.2.1 pc = .ok (.invokevirtual idx, 3)) (hL : cx_LV X.1.cls idx 12 X') (hW : rm_W k mo b G P G1 P1 M1) (hSp : cx_Sp k l X' fr' (.ref mo :: av) G1 (rp_P k mo b G1 P1 K)) (hs : stk = av.reverse ++ .ref mo :: st) (hfr : fr' + 1 ≤ fr) (hw : (st.map fun v => v.category).sum ≤ 8) (hn : (parseMethodDescriptor X'.1.desc).map (fun d => d.parameters.length) = some av.length) (hav : (Value.ref mo :: av).map (fun v => v.category) = X'.2.2.2.2.2.map cx_cat)
    (h : ∀ v G2 P2 M2, rm_W k mo b G P G2 P2 M2 → K v M2 → cx_V E (pc + 3) lv (.int v :: st) G2) : cx_V E pc lv stk G1 :=
  cx_invV hE hd hL hW.1.1 hSp hs hfr hw hn hav (fun v' G' q => by obtain ⟨v, P2, M2, q1, q2, q3⟩ := q; cases q1; exact h v G' P2 M2 (hW.tr q2) q3) (fun a G' q => by obtain ⟨v, P2, M2, q1, _⟩ := q; cases q1)
theorem cx_wL {K : Int64 → rm_M → Prop} (hE : cx_C E k l fr X G0 Post) (hd : decode X.2.1 pc = .ok (.invokevirtual idx, 3)) (hL : cx_LV X.1.cls idx 12 X') (hW : rm_W k mo b G P G1 P1 M1) (hSp : cx_Sp k l X' fr' (.ref mo :: av) G1 (rp_PL k mo b G1 P1 K)) (hs : stk = av.reverse ++ .ref mo :: st) (hfr : fr' + 1 ≤ fr) (hw : (st.map fun v => v.category).sum ≤ 8) (hn : (parseMethodDescriptor X'.1.desc).map (fun d => d.parameters.length) = some av.length) (hav : (Value.ref mo :: av).map (fun v => v.category) = X'.2.2.2.2.2.map cx_cat)
    (h : ∀ v G2 P2 M2, rm_W k mo b G P G2 P2 M2 → K v M2 → cx_V E (pc + 3) lv (.long v :: st) G2) : cx_V E pc lv stk G1 :=
  cx_invV hE hd hL hW.1.1 hSp hs hfr hw hn hav (fun v' G' q => by obtain ⟨v, P2, M2, q1, q2, q3⟩ := q; cases q1; exact h v G' P2 M2 (hW.tr q2) q3) (fun a G' q => by obtain ⟨v, P2, M2, q1, _⟩ := q; cases q1)
theorem cx_w0 {K : rm_M → Prop} (hE : cx_C E k l fr X G0 Post) (hd : decode X.2.1 pc = .ok (.invokevirtual idx, 3)) (hL : cx_LV X.1.cls idx 12 X') (hW : rm_W k mo b G P G1 P1 M1) (hSp : cx_Sp k l X' fr' (.ref mo :: av) G1 (rp_P0 k mo b G1 P1 K)) (hs : stk = av.reverse ++ .ref mo :: st) (hfr : fr' + 1 ≤ fr) (hw : (st.map fun v => v.category).sum ≤ 8) (hn : (parseMethodDescriptor X'.1.desc).map (fun d => d.parameters.length) = some av.length) (hav : (Value.ref mo :: av).map (fun v => v.category) = X'.2.2.2.2.2.map cx_cat)
    (h : ∀ G2 P2 M2, rm_W k mo b G P G2 P2 M2 → K M2 → cx_V E (pc + 3) lv st G2) : cx_V E pc lv stk G1 :=
  cx_invV hE hd hL hW.1.1 hSp hs hfr hw hn hav (fun v' G' q => by obtain ⟨P2, M2, q1, q2, q3⟩ := q; cases q1; exact h G' P2 M2 (hW.tr q2) q3) (fun a G' q => by obtain ⟨P2, M2, q1, _⟩ := q; cases q1)
end RPC
section RPD
variable {k : cx_K} {l : Launch} {G : cx_G} {P : Nat → Nat} {mo : Nat} {b : Nat × Nat} {M : rm_M}
/-- the small methods, by their conditions -/
theorem s_is {kd : Int32} {K : Bool → Prop} (hR : rm_R k G mo P M) (h : rp_is M kd K) : cx_Sp k l m_Mo_is 0 [.ref mo, .int kd] G (rp_R G (fun v => ∃ b, v = cx_b b ∧ K b)) := by
  obtain ⟨i, h1, h2, h3⟩ := h
  exact (c_Mo_is hR h1 h2).weaken (fun r G' q => ⟨_, q.1, q.2, _, rfl, h3⟩)
theorem s_kind {K : Int32 → Prop} (hR : rm_R k G mo P M) (h : rp_kd M K) : cx_Sp k l m_Mo_kind 0 [.ref mo] G (rp_R G K) := by
  obtain ⟨i, h1, h2, h3⟩ := h
  exact (c_Mo_kind hR h1 h2).weaken (fun r G' q => ⟨_, q.1, q.2, h3⟩)
theorem s_rank (c : Int32) : cx_Sp k l m_Mo_rank 0 [.int c] G (rp_R G (fun v => v = rm_rank c)) := (c_Mo_rank c).weaken (fun r G' q => ⟨_, q.1, q.2, rfl⟩)
theorem s_isUnary (c : Int32) : cx_Sp k l m_Mo_isUnary 0 [.int c] G (rp_R G (fun v => v = cx_b (tx_isU c))) := (c_Mo_isUnary c).weaken (fun r G' q => ⟨_, q.1, q.2, rfl⟩)
theorem rm_fail_len (w p : Int32) (M : rm_M) : (rm_fail w p M).2.2.2 = M.2.2.2 := by
  unfold rm_fail
  split <;> rfl
theorem s_fail {w p : Int32} {K : rm_M → Prop} (hR : rm_R k G mo P M) (hQ : rm_Q b G M) (h : K (rm_fail w p M)) : cx_Sp k l m_Mo_fail 0 [.ref mo, .int w, .int p] G (rp_P0 k mo b G P K) := (c_Mo_fail hR).weaken (fun r G' q => ⟨P, _, q.1, (rm_W.rf hR hQ).q q.2.1 q.2.2.1 q.2.2.2 (rm_fail_len _ _ _), h⟩)
theorem s_cost {v : Int64} {K : rm_M → Prop} (hR : rm_R k G mo P M) (hQ : rm_Q b G M) (h : rp_cost v M K) : cx_Sp k l m_Mo_cost 0 [.ref mo, .long v] G (rp_P0 k mo b G P K) := by
  obtain ⟨mc, h1, h2, h3⟩ := h
  exact (c_Mo_cost hR h1 h2).weaken (fun r G' q => ⟨P, _, q.1, (rm_W.rf hR hQ).q q.2.1 q.2.2.1 q.2.2.2 rfl, h3⟩)
theorem s_lay {u v w : Int32} {K : rm_M → Prop} (hR : rm_R k G mo P M) (hQ : rm_Q b G M) (h : rp_lay u v w M K) : cx_Sp k l m_Mo_lay 0 [.ref mo, .int u, .int v, .int w] G (rp_P0 k mo b G P K) := by
  obtain ⟨x, h1, h2, h3, h4⟩ := h
  exact (c_Mo_lay hR hQ h1 h2 h3).weaken (fun r G' q => by obtain ⟨P', M', q1, q2, q3⟩ := q; exact ⟨P', M', q1, q2, h4 M' q3⟩)
theorem s_keep {v : Int64} {K : Int32 → rm_M → Prop} (hR : rm_R k G mo P M) (hQ : rm_Q b G M) (h : rp_keep M K) : cx_Sp k l m_Mo_keepNumber 0 [.ref mo, .long v] G (rp_P k mo b G P K) := by
  obtain ⟨y, h1, h2, h3, h4⟩ := h
  exact (c_Mo_keepNumber hR hQ h1 h2 h3).weaken (fun r G' q => by obtain ⟨P', M', q1, q2, q3⟩ := q; exact ⟨_, P', M', q1, q2, h4 M' q3⟩)
theorem s_push {w : Int32} {K : rm_M → Prop} (hR : rm_R k G mo P M) (hQ : rm_Q b G M) (h : rp_pw w M K) : cx_Sp k l m_Mo_pushWidth 0 [.ref mo, .int w] G (rp_P0 k mo b G P K) := by
  obtain ⟨bw, h1, h2, h3⟩ := h
  exact (c_Mo_pushWidth hR h1 h2).weaken (fun r G' q => ⟨P, _, q.1, (rm_W.rf hR hQ).q q.2.1 q.2.2.1 q.2.2.2 rfl, h3⟩)
theorem s_num {x : Int32} {K : Int64 → rm_M → Prop} (hR : rm_R k G mo P M) (hQ : rm_Q b G M) (h : rp_num x M K) : cx_Sp k l m_Mo_numberOf 3 [.ref mo, .int x] G (rp_PL k mo b G P K) := by
  obtain ⟨n, T, i, h1, rfl, h2, h3, h4⟩ := h
  have hl := h1.len
  have hn := h1.2.1
  have ht := h1.tok h2
  have hrow := h1.2.2.2.1 i h2
  have hk : (tx_tok n (tx_at n (M.2.1 53)) (tx_ta T i).2.1).1 = 20 ∨ (tx_tok n (tx_at n (M.2.1 53)) (tx_ta T i).2.1).1 = 21 := by rw [← ht.2]; exact h3
  have he : (tx_tok n (tx_at n (M.2.1 53)) (tx_ta T i).2.1).2.2.1 = (tx_ta T i).2.2.1 := by rw [← ht.2]
  have hv : (tx_tok n (tx_at n (M.2.1 53)) (tx_ta T i).2.1).2.2.2.2.2 = (tx_ta T i).2.2.2.2.2 := by rw [← ht.2]
  have hc := c_Mo_numberOf (l := l) hR h1.1 (by omega) hrow.2.1 (hrow.2.2 (by rcases h3 with z | z; exact Or.inr (Or.inl z); exact Or.inr (Or.inr z))) (by omega) hk he
  rw [hv] at hc
  exact hc.weaken (fun r G' q => by obtain ⟨M', q1, q2, q3⟩ := q; exact ⟨_, P, M', q1, (rm_W.rf hR hQ).q q3.1 q3.2.1 q3.2.2 (by rw [q2.1]), h4 M' q2⟩)
theorem s_wid {x : Int32} {K : Int32 → Prop} (hR : rm_R k G mo P M) (h : rp_wid x M K) : cx_Sp k l m_Mo_widthOfNumber 1 [.ref mo, .int x] G (rp_R G K) := by
  obtain ⟨n, T, i, h1, rfl, h2, h3, h4⟩ := h
  have hl := h1.len
  have hn := h1.2.1
  have ht := h1.tok h2
  have hrow := h1.2.2.2.1 i h2
  have hk : (tx_tok n (tx_at n (M.2.1 53)) (tx_ta T i).2.1).1 = 21 := by rw [← ht.2]; exact h3
  have hv : (tx_tok n (tx_at n (M.2.1 53)) (tx_ta T i).2.1).2.2.2.2.1 = (tx_ta T i).2.2.2.2.1 := by rw [← ht.2]
  have hc := c_Mo_widthOfNumber (l := l) hR h1.1 (by omega) hrow.2.1 (by omega) hk
  rw [hv] at hc
  exact hc.weaken (fun r G' q => ⟨_, q.1, q.2, h4⟩)
theorem s_here {x : Int32} {K : Int32 → Prop} (hR : rm_R k G mo P M) (h : rp_here x M K) : cx_Sp k l m_Mo_here 2 [.ref mo, .int x] G (rp_R G K) := by
  obtain ⟨n, T, i, mc, lo, hi, h1, rfl, h2, h3, h4, h5, h6, h7, h8, h9, h10, h11⟩ := h
  exact (c_Mo_here hR h1 h2 h3 h4 h5 h6 h7 h8 h9 h10).weaken (fun r G' q => ⟨_, q.1, q.2, h11⟩)
end RPD

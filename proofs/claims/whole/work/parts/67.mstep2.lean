/-! THE REFERENCE: steps of its first pass, within a method. -/
section RMT
variable {E : cx_E} {k : cx_K} {l : Launch} {fr : Nat} {X : cx_M} {G0 : cx_G} {Post : cx_R → cx_G → Prop} {pc : Nat} {lv : cx_L} {st stk : List Value} {G : cx_G} {α α' : Type} {mo : Nat} {P : Nat → Nat} {T : List tx_Tk} {M0 M : rm_M} {i f : Nat} {s : tx_S} {R0 : tx_R α} {kd a : Int32} {e : Int32 × Int32}
theorem rm_lv.ix (hT : rm_tk M0 T) (hl : rm_lv T M0 M i f) : i < 65540 := by
  have := hl.2.2.1
  have := hT.1
  omega
theorem rm_dd.ix (hT : rm_tk M0 T) (hd : rm_dd T M0 M e) : ∃ j, M.1 8 = nI j ∧ j < 65540 := by
  obtain ⟨j, h1, h2⟩ := hd.2.1
  have := hT.1
  exact ⟨j, h1, by omega⟩
theorem cx_mtk {g : tx_Tk → Nat → tx_S → tx_R α} (hE : cx_C E k l fr X G0 Post) (hd : decode X.2.1 pc = .ok (.invokevirtual 209, 3)) (hX : X.1.cls = "CircuitTextModel") (hT : rm_tk M0 T) (hh : rm_h k G0 mo P G M) (hl : rm_lv T M0 M i f) (hq : ∀ p ∈ rm_kl, p.2 = kd ↔ p.1 = a) (ha : a ≠ 22 ∧ a ≠ 23) (hR : R0 = (tx_tk T a i s).and g) (hfr : 3 ≤ fr) (hw : (st.map fun v => v.category).sum ≤ 8)
    (h1 : ∀ G1 M1, rm_h k G0 mo P G1 M1 → rm_lv T M0 M1 (i + 1) f → tx_ki T i = a → R0 = g (tx_ta T i) (i + 1) s → cx_V E (pc + 3) lv st G1) (h2 : ∀ G1 M1 e, rm_h k G0 mo P G1 M1 → rm_dd T M0 M1 e → R0 = .inl e → cx_V E (pc + 3) lv st G1) : cx_V E pc lv (.int kd :: .ref mo :: st) G := by
  refine cx_invV hE hd (hX ▸ l_Mo_209) hh.1.1 (c_Mo_take (kd := kd) hh.1 hl.2.1 (hl.ix hT)) rfl hfr hw n_Mo_take (by rfl) (fun v G' q => ?_) (fun x G' q => by cases q.1)
  obtain ⟨q0, q1, q2, q3⟩ := q
  cases q0
  have hh' := hh.tr ⟨q1, q2, q3⟩
  obtain ⟨t1, t2⟩ := hl.take hT hq ha
  by_cases z : tx_ki T i = a
  · exact h1 G' _ hh' (t1 z) z (by rw [hR]; unfold tx_tk; rw [if_pos z]; rfl)
  · exact h2 G' _ _ hh' (t2 z) (by rw [hR]; unfold tx_tk; rw [if_neg z]; rfl)
theorem cx_mop {g : Nat → tx_Tk → Nat → tx_S → tx_R α} (hE : cx_C E k l fr X G0 Post) (hd : decode X.2.1 pc = .ok (.invokevirtual 223, 3)) (hX : X.1.cls = "CircuitTextModel") (hT : rm_tk M0 T) (hh : rm_h k G0 mo P G M) (hl : rm_lv T M0 M i f) (hq : ∀ p ∈ rm_kl, p.2 = kd ↔ p.1 = a) (ha : a ≠ 22 ∧ a ≠ 23) (hR : R0 = tx_op T a f i s g) (hfr : 4 ≤ fr) (hw : (st.map fun v => v.category).sum ≤ 8)
    (h1 : ∀ f' G1 M1, f = f' + 1 → rm_h k G0 mo P G1 M1 → rm_lv T M0 M1 (i + 1) f' → tx_ki T i = a → R0 = g f' (tx_ta T i) (i + 1) s → cx_V E (pc + 3) lv st G1) (h2 : ∀ G1 M1 e, rm_h k G0 mo P G1 M1 → rm_dd T M0 M1 e → R0 = .inl e → cx_V E (pc + 3) lv st G1) : cx_V E pc lv (.int kd :: .ref mo :: st) G := by
  refine cx_invV hE hd (hX ▸ l_Mo_223) hh.1.1 (c_Mo_open (kd := kd) hh.1 hl.2.1 (hl.ix hT)) rfl hfr hw n_Mo_open (by rfl) (fun v G' q => ?_) (fun x G' q => by cases q.1)
  obtain ⟨q0, q1, q2, q3⟩ := q
  cases q0
  have hh' := hh.tr ⟨q1, q2, q3⟩
  obtain ⟨t1, t2, t3⟩ := hl.opn hT hq ha
  by_cases z : tx_ki T i = a
  · cases f with
    | zero => exact h2 G' _ _ hh' (t2 z rfl) (by rw [hR]; unfold tx_op; rw [if_pos z])
    | succ f' => exact h1 f' G' _ rfl hh' (t1 z f' rfl) z (by rw [hR]; unfold tx_op; rw [if_pos z])
  · exact h2 G' _ _ hh' (t3 z) (by rw [hR]; unfold tx_op; rw [if_neg z])
theorem cx_msh {g : tx_Tk → Nat → tx_S → tx_R α} (hE : cx_C E k l fr X G0 Post) (hd : decode X.2.1 pc = .ok (.invokevirtual 235, 3)) (hX : X.1.cls = "CircuitTextModel") (hT : rm_tk M0 T) (hh : rm_h k G0 mo P G M) (hl : rm_lv T M0 M i f) (hq : ∀ p ∈ rm_kl, p.2 = kd ↔ p.1 = a) (ha : a ≠ 22 ∧ a ≠ 23) (hf : f < 60) (hR : R0 = (tx_tk T a i s).and g) (hfr : 4 ≤ fr) (hw : (st.map fun v => v.category).sum ≤ 8)
    (h1 : ∀ G1 M1, rm_h k G0 mo P G1 M1 → rm_lv T M0 M1 (i + 1) (f + 1) → tx_ki T i = a → R0 = g (tx_ta T i) (i + 1) s → cx_V E (pc + 3) lv st G1) (h2 : ∀ G1 M1 e, rm_h k G0 mo P G1 M1 → rm_dd T M0 M1 e → R0 = .inl e → cx_V E (pc + 3) lv st G1) : cx_V E pc lv (.int kd :: .ref mo :: st) G := by
  refine cx_invV hE hd (hX ▸ l_Mo_235) hh.1.1 (c_Mo_shut (kd := kd) hh.1 hl.2.1 (hl.ix hT)) rfl hfr hw n_Mo_shut (by rfl) (fun v G' q => ?_) (fun x G' q => by cases q.1)
  obtain ⟨q0, q1, q2, q3⟩ := q
  cases q0
  have hh' := hh.tr ⟨q1, q2, q3⟩
  obtain ⟨t1, t2⟩ := hl.shut hT hq ha hf
  by_cases z : tx_ki T i = a
  · exact h1 G' _ hh' (t1 z) z (by rw [hR]; unfold tx_tk; rw [if_pos z]; rfl)
  · exact h2 G' _ _ hh' (t2 z) (by rw [hR]; unfold tx_tk; rw [if_neg z]; rfl)
theorem cx_mis (hE : cx_C E k l fr X G0 Post) (hd : decode X.2.1 pc = .ok (.invokevirtual 203, 3)) (hX : X.1.cls = "CircuitTextModel") (hT : rm_tk M0 T) (hh : rm_h k G0 mo P G M) (hl : rm_lv T M0 M i f) (hq : ∀ p ∈ rm_kl, p.2 = kd ↔ p.1 = a) (hfr : 1 ≤ fr) (hw : (st.map fun v => v.category).sum ≤ 8) (h : cx_V E (pc + 3) lv (.int (cx_b (decide (tx_ki T i = a))) :: st) G) : cx_V E pc lv (.int kd :: .ref mo :: st) G := by
  have hc := c_Mo_is (l := l) (kd := kd) hh.1 hl.2.1 (hl.ix hT)
  rw [hl.c9 hT hq] at hc
  exact cx_invV1 hE hd (hX ▸ l_Mo_203) hh.1.1 hc rfl hfr hw n_Mo_is (by rfl) h
theorem cx_mki (hE : cx_C E k l fr X G0 Post) (hd : decode X.2.1 pc = .ok (.invokevirtual 216, 3)) (hX : X.1.cls = "CircuitTextModel") (hT : rm_tk M0 T) (hh : rm_h k G0 mo P G M) (hl : rm_lv T M0 M i f) (hfr : 1 ≤ fr) (hw : (st.map fun v => v.category).sum ≤ 8) (h : ∀ y, (tx_ki T i, y) ∈ rm_kl → cx_V E (pc + 3) lv (.int y :: st) G) : cx_V E pc lv (.ref mo :: st) G :=
  cx_invV1 hE hd (hX ▸ l_Mo_216) hh.1.1 (c_Mo_kind (l := l) hh.1 hl.2.1 (hl.ix hT)) rfl hfr hw n_Mo_kind (by rfl) (h _ ((hT.sm hl.1).2.1 i hl.2.2.1).1)
theorem cx_mno (hE : cx_C E k l fr X G0 Post) (hd : decode X.2.1 pc = .ok (.invokevirtual 200, 3)) (hX : X.1.cls = "CircuitTextModel") (hT : rm_tk M0 T) (hh : rm_h k G0 mo P G M) (hl : rm_lv T M0 M i f) (hfr : 2 ≤ fr) (hw : (st.map fun v => v.category).sum ≤ 8) (h : ∀ G1 M1, rm_h k G0 mo P G1 M1 → rm_dd T M0 M1 (tx_no (tx_ta T i)) → cx_V E (pc + 3) lv st G1) : cx_V E pc lv (.ref mo :: st) G := by
  refine cx_invV hE hd (hX ▸ l_Mo_200) hh.1.1 (c_Mo_no hh.1 hl.2.1 (hl.ix hT)) rfl hfr hw n_Mo_no (by rfl) (fun v G' q => ?_) (fun x G' q => by cases q.1)
  obtain ⟨q0, q1, q2, q3⟩ := q
  cases q0
  exact h G' _ (hh.tr ⟨q1, q2, q3⟩) (hl.no hT)
/-- a method is called while all is well -/
theorem cx_msb {idx fr' : Nat} {X' : cx_M} {f2 : Nat} {R1 : tx_R α'} {g : α' → Nat → tx_S → tx_R α} (hE : cx_C E k l fr X G0 Post) (hd : decode X.2.1 pc = .ok (.invokevirtual idx, 3)) (hX : X.1.cls = "CircuitTextModel") (hL : cx_LV "CircuitTextModel" idx 12 X') (hh : rm_h k G0 mo P G M) (hl : rm_lv T M0 M i f) (hR : R0 = R1.and g) (hSp : cx_Sp k l X' fr' [.ref mo] G (rm_o k G mo P T M f2 R1)) (hfr : fr' + 1 ≤ fr) (hw : (st.map fun v => v.category).sum ≤ 8) (hn : (parseMethodDescriptor X'.1.desc).map (fun d => d.parameters.length) = some 0) (hav : [Value.ref mo].map (fun v => v.category) = X'.2.2.2.2.2.map cx_cat)
    (h1 : ∀ a i' s' G1 M1, R1 = .inr (a, i', s') → rm_h k G0 mo P G1 M1 → rm_lv T M0 M1 i' f2 → R0 = g a i' s' → cx_V E (pc + 3) lv st G1) (h2 : ∀ G1 M1 e, rm_h k G0 mo P G1 M1 → rm_dd T M0 M1 e → R0 = .inl e → cx_V E (pc + 3) lv st G1) : cx_V E pc lv (.ref mo :: st) G := by
  refine cx_invV (av := []) hE hd (hX ▸ hL) hh.1.1 hSp rfl hfr hw hn hav (fun v G' q => ?_) (fun x G' q => by obtain ⟨_, q, _⟩ := q; cases q)
  obtain ⟨M', q0, q1, q2⟩ := q
  cases q0
  have hh' := hh.tr q1
  rcases q2 with ⟨a, i', s', z1, z2, z3, z4, z5⟩ | ⟨e, z1, z2, z3, z4⟩
  · exact h1 a i' s' G' M' z1 hh' ⟨hl.1.tr z2, z3, z4, z5⟩ (by rw [hR, z1]; rfl)
  · exact h2 G' M' e hh' ⟨hl.1.tr z2, z3, z4⟩ (by rw [hR, z1]; rfl)
/-- a method is called behind a fault -/
theorem cx_msd {idx fr' : Nat} {X' : cx_M} (hE : cx_C E k l fr X G0 Post) (hd : decode X.2.1 pc = .ok (.invokevirtual idx, 3)) (hX : X.1.cls = "CircuitTextModel") (hL : cx_LV "CircuitTextModel" idx 12 X') (hh : rm_h k G0 mo P G M) (hl : rm_dd T M0 M e) (hSp : cx_Sp k l X' fr' [.ref mo] G (rm_x k G mo P T M e)) (hfr : fr' + 1 ≤ fr) (hw : (st.map fun v => v.category).sum ≤ 8) (hn : (parseMethodDescriptor X'.1.desc).map (fun d => d.parameters.length) = some 0) (hav : [Value.ref mo].map (fun v => v.category) = X'.2.2.2.2.2.map cx_cat)
    (h : ∀ G1 M1, rm_h k G0 mo P G1 M1 → rm_dd T M0 M1 e → cx_V E (pc + 3) lv st G1) : cx_V E pc lv (.ref mo :: st) G := by
  refine cx_invV (av := []) hE hd (hX ▸ hL) hh.1.1 hSp rfl hfr hw hn hav (fun v G' q => ?_) (fun x G' q => by obtain ⟨_, q, _⟩ := q; cases q)
  obtain ⟨M', q0, q1, z2, z3, z4⟩ := q
  cases q0
  exact h G' M' (hh.tr q1) ⟨hl.1.tr z2, z3, z4⟩
theorem cx_mtkd (hE : cx_C E k l fr X G0 Post) (hd : decode X.2.1 pc = .ok (.invokevirtual 209, 3)) (hX : X.1.cls = "CircuitTextModel") (hT : rm_tk M0 T) (hh : rm_h k G0 mo P G M) (hl : rm_dd T M0 M e) (hfr : 3 ≤ fr) (hw : (st.map fun v => v.category).sum ≤ 8) (h : ∀ G1 M1, rm_h k G0 mo P G1 M1 → rm_dd T M0 M1 e → cx_V E (pc + 3) lv st G1) : cx_V E pc lv (.int kd :: .ref mo :: st) G := by
  obtain ⟨j, h1, h2⟩ := hl.ix hT
  refine cx_invV hE hd (hX ▸ l_Mo_209) hh.1.1 (c_Mo_take (kd := kd) hh.1 h1 h2) rfl hfr hw n_Mo_take (by rfl) (fun v G' q => ?_) (fun x G' q => by cases q.1)
  obtain ⟨q0, q1, q2, q3⟩ := q
  cases q0
  exact h G' _ (hh.tr ⟨q1, q2, q3⟩) (by rw [hl.take]; exact hl)
theorem cx_mopd (hE : cx_C E k l fr X G0 Post) (hd : decode X.2.1 pc = .ok (.invokevirtual 223, 3)) (hX : X.1.cls = "CircuitTextModel") (hT : rm_tk M0 T) (hh : rm_h k G0 mo P G M) (hl : rm_dd T M0 M e) (hfr : 4 ≤ fr) (hw : (st.map fun v => v.category).sum ≤ 8) (h : ∀ G1 M1, rm_h k G0 mo P G1 M1 → rm_dd T M0 M1 e → cx_V E (pc + 3) lv st G1) : cx_V E pc lv (.int kd :: .ref mo :: st) G := by
  obtain ⟨j, h1, h2⟩ := hl.ix hT
  refine cx_invV hE hd (hX ▸ l_Mo_223) hh.1.1 (c_Mo_open (kd := kd) hh.1 h1 h2) rfl hfr hw n_Mo_open (by rfl) (fun v G' q => ?_) (fun x G' q => by cases q.1)
  obtain ⟨q0, q1, q2, q3⟩ := q
  cases q0
  exact h G' _ (hh.tr ⟨q1, q2, q3⟩) (by rw [hl.opn]; exact hl)
theorem cx_mshd (hE : cx_C E k l fr X G0 Post) (hd : decode X.2.1 pc = .ok (.invokevirtual 235, 3)) (hX : X.1.cls = "CircuitTextModel") (hT : rm_tk M0 T) (hh : rm_h k G0 mo P G M) (hl : rm_dd T M0 M e) (hfr : 4 ≤ fr) (hw : (st.map fun v => v.category).sum ≤ 8) (h : ∀ G1 M1, rm_h k G0 mo P G1 M1 → rm_dd T M0 M1 e → cx_V E (pc + 3) lv st G1) : cx_V E pc lv (.int kd :: .ref mo :: st) G := by
  obtain ⟨j, h1, h2⟩ := hl.ix hT
  refine cx_invV hE hd (hX ▸ l_Mo_235) hh.1.1 (c_Mo_shut (kd := kd) hh.1 h1 h2) rfl hfr hw n_Mo_shut (by rfl) (fun v G' q => ?_) (fun x G' q => by cases q.1)
  obtain ⟨q0, q1, q2, q3⟩ := q
  cases q0
  exact h G' _ (hh.tr ⟨q1, q2, q3⟩) hl.shut
theorem cx_misd (hE : cx_C E k l fr X G0 Post) (hd : decode X.2.1 pc = .ok (.invokevirtual 203, 3)) (hX : X.1.cls = "CircuitTextModel") (hT : rm_tk M0 T) (hh : rm_h k G0 mo P G M) (hl : rm_dd T M0 M e) (hfr : 1 ≤ fr) (hw : (st.map fun v => v.category).sum ≤ 8) (h : cx_V E (pc + 3) lv (.int 0 :: st) G) : cx_V E pc lv (.int kd :: .ref mo :: st) G := by
  obtain ⟨j, h1, h2⟩ := hl.ix hT
  have hc := c_Mo_is (l := l) (kd := kd) hh.1 h1 h2
  rw [hl.c9] at hc
  exact cx_invV1 hE hd (hX ▸ l_Mo_203) hh.1.1 hc rfl hfr hw n_Mo_is (by rfl) h
theorem cx_mnod (hE : cx_C E k l fr X G0 Post) (hd : decode X.2.1 pc = .ok (.invokevirtual 200, 3)) (hX : X.1.cls = "CircuitTextModel") (hT : rm_tk M0 T) (hh : rm_h k G0 mo P G M) (hl : rm_dd T M0 M e) (hfr : 2 ≤ fr) (hw : (st.map fun v => v.category).sum ≤ 8) (h : ∀ G1 M1, rm_h k G0 mo P G1 M1 → rm_dd T M0 M1 e → cx_V E (pc + 3) lv st G1) : cx_V E pc lv (.ref mo :: st) G := by
  obtain ⟨j, h1, h2⟩ := hl.ix hT
  refine cx_invV hE hd (hX ▸ l_Mo_200) hh.1.1 (c_Mo_no hh.1 h1 h2) rfl hfr hw n_Mo_no (by rfl) (fun v G' q => ?_) (fun x G' q => by cases q.1)
  obtain ⟨q0, q1, q2, q3⟩ := q
  cases q0
  exact h G' _ (hh.tr ⟨q1, q2, q3⟩) (by rw [hl.no]; exact hl)
end RMT

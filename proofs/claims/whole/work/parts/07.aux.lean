/-! SHORT FORMS: calls whose outcome is told; what a heap holds behind a put or a new cell. -/
/-- it returns v, and the heap is G1 then -/
def cx_rd (v : Option Value) (G1 : cx_G) : cx_R → cx_G → Prop := fun r G' => r = .inl v ∧ G' = G1
/-- it returns an int (a reference) of which P holds, with the heap -/
def cx_rP (P : Option Value → cx_G → Prop) : cx_R → cx_G → Prop := fun r G' => ∃ v, r = .inl v ∧ P v G'
section CXD
variable {E : cx_E} {k : cx_K} {l : Launch} {fr : Nat} {M : cx_M} {G0 : cx_G} {Post : cx_R → cx_G → Prop} {pc : Nat} {lv : cx_L} {st stk : List Value} {G G1 : cx_G} {fr' : Nat} {M' : cx_M} {idx : Nat} {av : List Value} {v : Value}
theorem cx_invS1 (hE : cx_C E k l fr M G0 Post) (hd : decode M.2.1 pc = .ok (.invokestatic idx, 3)) (hL : cx_LS M.1.cls idx M') (hSp : cx_Sp k l M' fr' av G (cx_rd (some v) G1)) (hs : stk = av.reverse ++ st) (hfr : fr' + 1 ≤ fr) (hw : (st.map fun v => v.category).sum ≤ 8) (hn : (parseMethodDescriptor M'.1.desc).map (fun d => d.parameters.length) = some av.length) (hav : av.map (fun v => v.category) = M'.2.2.2.2.2.map cx_cat)
    (h : cx_V E (pc + 3) lv (v :: st) G1) : cx_V E pc lv stk G :=
  cx_invS hE hd hL hSp hs hfr hw hn hav (fun v' G' q => by obtain ⟨q1, q2⟩ := q; cases q1; subst q2; exact h) (fun a G' q => by cases q.1)
theorem cx_invS0 (hE : cx_C E k l fr M G0 Post) (hd : decode M.2.1 pc = .ok (.invokestatic idx, 3)) (hL : cx_LS M.1.cls idx M') (hSp : cx_Sp k l M' fr' av G (cx_rd none G1)) (hs : stk = av.reverse ++ st) (hfr : fr' + 1 ≤ fr) (hw : (st.map fun v => v.category).sum ≤ 8) (hn : (parseMethodDescriptor M'.1.desc).map (fun d => d.parameters.length) = some av.length) (hav : av.map (fun v => v.category) = M'.2.2.2.2.2.map cx_cat)
    (h : cx_V E (pc + 3) lv st G1) : cx_V E pc lv stk G :=
  cx_invS hE hd hL hSp hs hfr hw hn hav (fun v' G' q => by obtain ⟨q1, q2⟩ := q; cases q1; subst q2; exact h) (fun a G' q => by cases q.1)
theorem cx_invV1 {ci a : Nat} {fs : List Value} (hE : cx_C E k l fr M G0 Post) (hd : decode M.2.1 pc = .ok (.invokevirtual idx, 3)) (hL : cx_LV M.1.cls idx ci M') (hG : G.1 a = some (.inr (ci, fs))) (hSp : cx_Sp k l M' fr' (.ref a :: av) G (cx_rd (some v) G1)) (hs : stk = av.reverse ++ .ref a :: st) (hfr : fr' + 1 ≤ fr) (hw : (st.map fun v => v.category).sum ≤ 8) (hn : (parseMethodDescriptor M'.1.desc).map (fun d => d.parameters.length) = some av.length) (hav : (Value.ref a :: av).map (fun v => v.category) = M'.2.2.2.2.2.map cx_cat)
    (h : cx_V E (pc + 3) lv (v :: st) G1) : cx_V E pc lv stk G :=
  cx_invV hE hd hL hG hSp hs hfr hw hn hav (fun v' G' q => by obtain ⟨q1, q2⟩ := q; cases q1; subst q2; exact h) (fun a G' q => by cases q.1)
theorem cx_invV0 {ci a : Nat} {fs : List Value} (hE : cx_C E k l fr M G0 Post) (hd : decode M.2.1 pc = .ok (.invokevirtual idx, 3)) (hL : cx_LV M.1.cls idx ci M') (hG : G.1 a = some (.inr (ci, fs))) (hSp : cx_Sp k l M' fr' (.ref a :: av) G (cx_rd none G1)) (hs : stk = av.reverse ++ .ref a :: st) (hfr : fr' + 1 ≤ fr) (hw : (st.map fun v => v.category).sum ≤ 8) (hn : (parseMethodDescriptor M'.1.desc).map (fun d => d.parameters.length) = some av.length) (hav : (Value.ref a :: av).map (fun v => v.category) = M'.2.2.2.2.2.map cx_cat)
    (h : cx_V E (pc + 3) lv st G1) : cx_V E pc lv stk G :=
  cx_invV hE hd hL hG hSp hs hfr hw hn hav (fun v' G' q => by obtain ⟨q1, q2⟩ := q; cases q1; subst q2; exact h) (fun a G' q => by cases q.1)
theorem cx_invI0 {a : Nat} (hE : cx_C E k l fr M G0 Post) (hd : decode M.2.1 pc = .ok (.invokespecial idx, 3)) (hL : cx_LI M.1.cls idx M') (hSp : cx_Sp k l M' fr' (.ref a :: av) G (cx_rd none G1)) (hs : stk = av.reverse ++ .ref a :: st) (hfr : fr' + 1 ≤ fr) (hw : (st.map fun v => v.category).sum ≤ 8) (hn : (parseMethodDescriptor M'.1.desc).map (fun d => d.parameters.length) = some av.length) (hav : (Value.ref a :: av).map (fun v => v.category) = M'.2.2.2.2.2.map cx_cat)
    (h : cx_V E (pc + 3) lv st G1) : cx_V E pc lv stk G :=
  cx_invI hE hd hL hSp hs hfr hw hn hav (fun v' G' q => by obtain ⟨q1, q2⟩ := q; cases q1; subst q2; exact h) (fun a G' q => by cases q.1)
/-- Object's constructor -/
theorem cx_objI {a : Nat} (hE : cx_C E k l fr M G0 Post) (hd : decode M.2.1 pc = .ok (.invokespecial idx, 3)) (hl : Cond.methodLink M.1.cls idx objectInit ∈ lw_tbl) (hi : Cond.instanceMethod objectInit ∈ lw_tbl) (hc : Cond.code objectInit ⟨#[0xb1]⟩ 1 none ∈ lw_tbl) (hfr : 1 ≤ fr) (hw : (st.map fun v => v.category).sum ≤ 8) (h : cx_V E (pc + 3) lv st G) : cx_V E pc lv (.ref a :: st) G := by
  obtain ⟨k', ⟨p, l', e, R, s, m, args, below, meth, c⟩, nL', fr0, c0, s0, Q⟩ := E
  obtain ⟨hx, hb, hml, rfl, hown, hSt, rfl, -, -, hRf, hRl, -⟩ := hE
  intro H locs ls cells slots h1 h2 h3 h4 h5
  have hm0 : 2 * (F0 m pc ls st).monitorRoom + (st.map fun v => v.category).sum ≤ 8 := lv_room hw
  refine W.objInit hx hb hown (hSt.1 _ hl rfl args) (hSt.1 _ hi rfl args) (hSt.1 _ hc rfl args) rfl (by rw [hml]; exact h3.1.1) rfl hd (by omega) ?_ (h H locs ls cells slots h1 h2 h3 h4 h5)
  show 2 * (F0 m pc ls st).monitorRoom + (st.map fun v => v.category).sum + 12 ≤ R.locals
  omega
end CXD
section CXP
variable {G G1 : cx_G} {a b n : Nat} {e f : va_E}
theorem cx_ps (h : cx_put G a e = G1) : G1.1 a = some e := by subst h; exact if_pos rfl
theorem cx_pn (h : cx_put G a e = G1) (hb : G.1 b = some f) (hne : b ≠ a) : G1.1 b = some f := by subst h; exact (if_neg hne).trans hb
theorem cx_ms (h : cx_mk G a e n = G1) : G1.1 a = some e := by subst h; exact if_pos rfl
theorem cx_mn (h : cx_mk G a e n = G1) (ha : G.1 a = none) (hb : G.1 b = some f) : G1.1 b = some f := by
  subst h
  have hne : b ≠ a := fun q => by rw [q, ha] at hb; cases hb
  exact (if_neg hne).trans hb
theorem cx_neO {c c' : Nat} {fs fs' : List Value} (ha : G.1 a = some (.inr (c, fs))) (hb : G.1 b = some (.inr (c', fs'))) (hc : c' ≠ c) : b ≠ a := fun q => by
  rw [q, ha] at hb
  cases hb
  exact hc rfl
theorem cx_neA {c' : Nat} {x : ClassId × vp_A} {fs' : List Value} (ha : G.1 a = some (.inl x)) (hb : G.1 b = some (.inr (c', fs'))) : b ≠ a := fun q => by
  rw [q, ha] at hb
  cases hb
theorem cx_neB {c' : Nat} {x : ClassId × vp_A} {fs' : List Value} (ha : G.1 a = some (.inr (c', fs'))) (hb : G.1 b = some (.inl x)) : b ≠ a := fun q => by
  rw [q, ha] at hb
  cases hb
theorem cx_pc (h : cx_put G a e = G1) : G1.2 = G.2 := by subst h; rfl
theorem cx_mc (h : cx_mk G a e n = G1) : G1.2.1 = G.2.1 + 1 ∧ G1.2.2 = G.2.2 + n := by subst h; exact ⟨rfl, rfl⟩
theorem cx_fr (C : String) (r : Option Nat) : fits (.object C) (va_rf r) = true := by cases r <;> rfl
theorem cx_nr (C : String) (r : Option Nat) : narrow (.object C) (va_rf r) = va_rf r := by cases r <;> rfl
end CXP

/-! SHORT FORMS: calls whose outcome is told; what a heap holds behind a put or a new cell. -/
/-- it returns v, and the heap is G1 then -/
def cx_rd (v : Option Value) (G1 : cx_G) : cx_R → cx_G → Prop := fun r G' => r = .inl v ∧ G' = G1
/-- it returns an int (a reference) of which P holds, with the heap -/
def cx_rP (P : Option Value → cx_G → Prop) : cx_R → cx_G → Prop := fun r G' => ∃ v, r = .inl v ∧ P v G'
section CXD
variable {E : cx_E} {k : cx_K} {l : Launch} {fr : Nat} {M : cx_M} {G0 : cx_G} {Post : cx_R → cx_G → Prop} {pc : Nat} {lv : cx_L} {st stk : List Value} {G G1 : cx_G} {fr' : Nat} {M' : cx_M} {idx : Nat} {av : List Value} {v : Value}
theorem cx_invS1 (hE : cx_C E k l fr M G0 Post) (hd : decode M.2.1 pc = .ok (.invokestatic idx, 3)) (hL : cx_LS M.1.cls idx M') (hSp : cx_Sp k l M' fr' av G (cx_rd (some v) G1)) (hs : stk = av.reverse ++ st) (hfr : fr' + 1 ≤ fr) (hw : (st.map fun v => v.category).sum ≤ 8) (hn : (parseMethodDescriptor M'.1.desc).map (fun d => d.parameters.length) = some av.length) (hav : av.map (fun v => v.category) = M'.2.2.2.2.2.map cx_cat)
    (h : cx_V E (pc + 3) lv (v :: st) G1) : cx_V E pc lv stk G :=
  cx_invS hE hd hL hSp hs hfr hw hn hav (fun v' G' q => by obtain ⟨q1, q2⟩ := q; cases q1; subst q2; exact h) (fun a G' q => by cases q.1)
theorem cx_invS0 (hE : cx_C E k l fr M G0 Post) (hd : decode M.2.1 pc = .ok (.invokestatic idx, 3)) (hL : cx_LS M.1.cls idx M') (hSp : cx_Sp k l M' fr' av G (cx_rd none G1)) (hs : stk = av.reverse ++ st) (hfr : fr' + 1 ≤ fr) (hw : (st.map fun v => v.category).sum ≤ 8) (hn : (parseMethodDescriptor M'.1.desc).map (fun d => d.parameters.length) = some av.length) (hav : av.map (fun v => v.category) = M'.2.2.2.2.2.map cx_cat)
    (h : cx_V E (pc + 3) lv st G1) : cx_V E pc lv stk G :=
  cx_invS hE hd hL hSp hs hfr hw hn hav (fun v' G' q => by obtain ⟨q1, q2⟩ := q; cases q1; subst q2; exact h) (fun a G' q => by cases q.1)
theorem cx_invV1 {ci a : Nat} {fs : List Value} (hE : cx_C E k l fr M G0 Post) (hd : decode M.2.1 pc = .ok (.invokevirtual idx, 3)) (hL : cx_LV M.1.cls idx ci M') (hG : G.1 a = some (.inr (ci, fs))) (hSp : cx_Sp k l M' fr' (.ref a :: av) G (cx_rd (some v) G1)) (hs : stk = av.reverse ++ .ref a :: st) (hfr : fr' + 1 ≤ fr) (hw : (st.map fun v => v.category).sum ≤ 8) (hn : (parseMethodDescriptor M'.1.desc).map (fun d => d.parameters.length) = some av.length) (hav : (Value.ref a :: av).map (fun v => v.category) = M'.2.2.2.2.2.map cx_cat)
    (h : cx_V E (pc + 3) lv (v :: st) G1) : cx_V E pc lv stk G :=
  cx_invV hE hd hL hG hSp hs hfr hw hn hav (fun v' G' q => by obtain ⟨q1, q2⟩ := q; cases q1; subst q2; exact h) (fun a G' q => by cases q.1)
theorem cx_invV0 {ci a : Nat} {fs : List Value} (hE : cx_C E k l fr M G0 Post) (hd : decode M.2.1 pc = .ok (.invokevirtual idx, 3)) (hL : cx_LV M.1.cls idx ci M') (hG : G.1 a = some (.inr (ci, fs))) (hSp : cx_Sp k l M' fr' (.ref a :: av) G (cx_rd none G1)) (hs : stk = av.reverse ++ .ref a :: st) (hfr : fr' + 1 ≤ fr) (hw : (st.map fun v => v.category).sum ≤ 8) (hn : (parseMethodDescriptor M'.1.desc).map (fun d => d.parameters.length) = some av.length) (hav : (Value.ref a :: av).map (fun v => v.category) = M'.2.2.2.2.2.map cx_cat)
    (h : cx_V E (pc + 3) lv st G1) : cx_V E pc lv stk G :=
  cx_invV hE hd hL hG hSp hs hfr hw hn hav (fun v' G' q => by obtain ⟨q1, q2⟩ := q; cases q1; subst q2; exact h) (fun a G' q => by cases q.1)
theorem cx_invI0 {a : Nat} (hE : cx_C E k l fr M G0 Post) (hd : decode M.2.1 pc = .ok (.invokespecial idx, 3)) (hL : cx_LI M.1.cls idx M') (hSp : cx_Sp k l M' fr' (.ref a :: av) G (cx_rd none G1)) (hs : stk = av.reverse ++ .ref a :: st) (hfr : fr' + 1 ≤ fr) (hw : (st.map fun v => v.category).sum ≤ 8) (hn : (parseMethodDescriptor M'.1.desc).map (fun d => d.parameters.length) = some av.length) (hav : (Value.ref a :: av).map (fun v => v.category) = M'.2.2.2.2.2.map cx_cat)
    (h : cx_V E (pc + 3) lv st G1) : cx_V E pc lv stk G :=
  cx_invI hE hd hL hSp hs hfr hw hn hav (fun v' G' q => by obtain ⟨q1, q2⟩ := q; cases q1; subst q2; exact h) (fun a G' q => by cases q.1)
/-- Object's constructor -/
theorem cx_objI {a : Nat} (hE : cx_C E k l fr M G0 Post) (hd : decode M.2.1 pc = .ok (.invokespecial idx, 3)) (hl : Cond.methodLink M.1.cls idx objectInit ∈ lw_tbl) (hi : Cond.instanceMethod objectInit ∈ lw_tbl) (hc : Cond.code objectInit ⟨#[0xb1]⟩ 1 none ∈ lw_tbl) (hfr : 1 ≤ fr) (hw : (st.map fun v => v.category).sum ≤ 8) (h : cx_V E (pc + 3) lv st G) : cx_V E pc lv (.ref a :: st) G := by
  obtain ⟨k', ⟨p, l', e, R, s, m, args, below, meth, c⟩, nL', fr0, c0, s0, Q⟩ := E
  obtain ⟨hx, hb, hml, rfl, hown, hSt, rfl, -, -, hRf, hRl, -⟩ := hE
  intro H locs ls cells slots h1 h2 h3 h4 h5
  have hm0 : 2 * (F0 m pc ls st).monitorRoom + (st.map fun v => v.category).sum ≤ 8 := lv_room hw
  refine W.objInit hx hb hown (hSt.1 _ hl rfl args) (hSt.1 _ hi rfl args) (hSt.1 _ hc rfl args) rfl (by rw [hml]; exact h3.1.1) rfl hd (by omega) ?_ (h H locs ls cells slots h1 h2 h3 h4 h5)
  show 2 * (F0 m pc ls st).monitorRoom + (st.map fun v => v.category).sum + 12 ≤ R.locals
  omega
end CXD
section CXP
variable {G G1 : cx_G} {a b n : Nat} {e f : va_E}
theorem cx_ps (h : cx_put G a e = G1) : G1.1 a = some e := by subst h; exact if_pos rfl
theorem cx_pn (h : cx_put G a e = G1) (hb : G.1 b = some f) (hne : b ≠ a) : G1.1 b = some f := by subst h; exact (if_neg hne).trans hb
theorem cx_ms (h : cx_mk G a e n = G1) : G1.1 a = some e := by subst h; exact if_pos rfl
theorem cx_mn (h : cx_mk G a e n = G1) (ha : G.1 a = none) (hb : G.1 b = some f) : G1.1 b = some f := by
  subst h
  have hne : b ≠ a := fun q => by rw [q, ha] at hb; cases hb
  exact (if_neg hne).trans hb
theorem cx_neO {c c' : Nat} {fs fs' : List Value} (ha : G.1 a = some (.inr (c, fs))) (hb : G.1 b = some (.inr (c', fs'))) (hc : c' ≠ c) : b ≠ a := fun q => by
  rw [q, ha] at hb
  cases hb
  exact hc rfl
theorem cx_neA {c' : Nat} {x : ClassId × vp_A} {fs' : List Value} (ha : G.1 a = some (.inl x)) (hb : G.1 b = some (.inr (c', fs'))) : b ≠ a := fun q => by
  rw [q, ha] at hb
  cases hb
theorem cx_neB {c' : Nat} {x : ClassId × vp_A} {fs' : List Value} (ha : G.1 a = some (.inr (c', fs'))) (hb : G.1 b = some (.inl x)) : b ≠ a := fun q => by
  rw [q, ha] at hb
  cases hb
theorem cx_pc (h : cx_put G a e = G1) : G1.2 = G.2 := by subst h; rfl
theorem cx_mc (h : cx_mk G a e n = G1) : G1.2.1 = G.2.1 + 1 ∧ G1.2.2 = G.2.2 + n := by subst h; exact ⟨rfl, rfl⟩
theorem cx_fr (C : String) (r : Option Nat) : fits (.object C) (va_rf r) = true := by cases r <;> rfl
theorem cx_nr (C : String) (r : Option Nat) : narrow (.object C) (va_rf r) = va_rf r := by cases r <;> rfl
end CXP
section CXQ
variable {E : cx_E} {k : cx_K} {l : Launch} {fr : Nat} {M : cx_M} {G0 : cx_G} {Post : cx_R → cx_G → Prop} {pc : Nat} {lv : cx_L} {st : List Value} {G : cx_G}
theorem cx_putg {idx ci i a : Nat} {ty : FieldType} {fs : List Value} {v : Value} (hE : cx_C E k l fr M G0 Post) (hd : decode M.2.1 pc = .ok (.putfield idx, 3)) (hF : cx_F M.1.cls idx ci i ty false) (hG : G.1 a = some (.inr (ci, fs))) (hl : i < fs.length) (hn : narrow ty v = v) (hf : fits ty v = true) (h : ∀ G1, cx_put G a (.inr (ci, fs.set i v)) = G1 → G1.1 a = some (.inr (ci, fs.set i v)) → cx_V E (pc + 3) lv st G1) : cx_V E pc lv (v :: .ref a :: st) G :=
  cx_putf hE hd hF hG hl hn hf (h _ rfl (cx_ps rfl))
theorem cx_putFg {idx ci i a : Nat} {ty : FieldType} {fs : List Value} {v : Value} (hE : cx_C E k l fr M G0 Post) (hd : decode M.2.1 pc = .ok (.putfield idx, 3)) (hF : cx_FF M.1.cls idx ci i ty) (hI : M.1.name = "<init>") (hG : G.1 a = some (.inr (ci, fs))) (hl : i < fs.length) (hn : narrow ty v = v) (hf : fits ty v = true) (h : ∀ G1, cx_put G a (.inr (ci, fs.set i v)) = G1 → G1.1 a = some (.inr (ci, fs.set i v)) → cx_V E (pc + 3) lv st G1) : cx_V E pc lv (v :: .ref a :: st) G :=
  cx_putF hE hd hF hI hG hl hn hf (h _ rfl (cx_ps rfl))
theorem cx_newg {idx ci : Nat} {fs : List Value} (hE : cx_C E k l fr M G0 Post) (hd : decode M.2.1 pc = .ok (.new idx, 3)) (hN : cx_N M.1.cls idx ci fs) (hn1 : G.2.1 + 1 ≤ room_1.cells) (hn2 : G.2.2 + fs.length ≤ room_1.slots) (h : ∀ a G1, G.1 a = none → k.2.2.1 ≤ a → cx_mk G a (.inr (ci, fs)) fs.length = G1 → G1.1 a = some (.inr (ci, fs)) → cx_V E (pc + 3) lv (.ref a :: st) G1) : cx_V E pc lv st G :=
  cx_new hE hd hN hn1 hn2 (fun a h1 h2 => h a _ h1 h2 rfl (cx_ms rfl))
theorem cx_newh {idx ci : Nat} {fs : List Value} (n : Nat) (hfn : fs.length = n) (hE : cx_C E k l fr M G0 Post) (hd : decode M.2.1 pc = .ok (.new idx, 3)) (hN : cx_N M.1.cls idx ci fs) (hn1 : G.2.1 + 1 ≤ 601024) (hn2 : G.2.2 + n ≤ 7293034) (h : ∀ a G1, G.1 a = none → k.2.2.1 ≤ a → cx_mk G a (.inr (ci, fs)) n = G1 → G1.1 a = some (.inr (ci, fs)) → cx_V E (pc + 3) lv (.ref a :: st) G1) : cx_V E pc lv st G := by
  subst hfn
  exact cx_newg hE hd hN hn1 hn2 h
theorem cx_mmin {idx : Nat} {x y : Int32} (hE : cx_C E k l fr M G0 Post) (hd : decode M.2.1 pc = .ok (.invokestatic idx, 3)) (hl : Cond.methodLink M.1.cls idx Lib.Math.min.name ∈ lw_tbl) (hs : Cond.static Lib.Math.min.name ∈ lw_tbl) (hi : Cond.initialized "java/lang/Math" ∈ lw_tbl) (hc : Cond.code Lib.Math.min.name Lib.Math.min.code 2 (some .int) ∈ lw_tbl) (hfr : 1 ≤ fr) (hw : (st.map fun v => v.category).sum ≤ 8) (h : cx_V E (pc + 3) lv (.int (if y < x then y else x) :: st) G) : cx_V E pc lv (.int y :: .int x :: st) G := by
  obtain ⟨k', ⟨p, l', e, R, s, m, args, below, meth, c⟩, nL', fr0, c0, s0, Q⟩ := E
  obtain ⟨hx, hb, hml, rfl, hown, hSt, rfl, -, -, hRf, hRl, hrc, hrs, -, -, -, -, -, -, rfl, rfl, -⟩ := hE
  intro H locs ls cells slots h1 h2 h3 h4 h5
  exact va_mmin hx hb (by rw [hml]; exact h3.1.1.symm) hown (hSt.1 _ hl rfl args) (hSt.1 _ hs rfl args) (hSt.1 _ hi rfl args) (hSt.1 _ hc rfl args) (by omega) (by omega) (by have := h1.1; omega) (by have := h1.2.1; omega) hd (h H locs ls cells slots h1 h2 h3 h4 h5)
theorem cx_mmax {idx : Nat} {x y : Int32} (hE : cx_C E k l fr M G0 Post) (hd : decode M.2.1 pc = .ok (.invokestatic idx, 3)) (hl : Cond.methodLink M.1.cls idx Lib.Math.max.name ∈ lw_tbl) (hs : Cond.static Lib.Math.max.name ∈ lw_tbl) (hi : Cond.initialized "java/lang/Math" ∈ lw_tbl) (hc : Cond.code Lib.Math.max.name Lib.Math.max.code 2 (some .int) ∈ lw_tbl) (hfr : 1 ≤ fr) (hw : (st.map fun v => v.category).sum ≤ 8) (h : cx_V E (pc + 3) lv (.int (if x < y then y else x) :: st) G) : cx_V E pc lv (.int y :: .int x :: st) G := by
  obtain ⟨k', ⟨p, l', e, R, s, m, args, below, meth, c⟩, nL', fr0, c0, s0, Q⟩ := E
  obtain ⟨hx, hb, hml, rfl, hown, hSt, rfl, -, -, hRf, hRl, hrc, hrs, -, -, -, -, -, -, rfl, rfl, -⟩ := hE
  intro H locs ls cells slots h1 h2 h3 h4 h5
  exact va_mmax hx hb (by rw [hml]; exact h3.1.1.symm) hown (hSt.1 _ hl rfl args) (hSt.1 _ hs rfl args) (hSt.1 _ hi rfl args) (hSt.1 _ hc rfl args) (by omega) (by omega) (by have := h1.1; omega) (by have := h1.2.1; omega) hd (h H locs ls cells slots h1 h2 h3 h4 h5)
end CXQ
theorem cx_pp (G : cx_G) (a : Nat) (e e' : va_E) : cx_put (cx_put G a e) a e' = cx_put G a e' := by
  unfold cx_put
  refine Prod.ext ?_ rfl
  funext j
  show (if j = a then some e' else if j = a then some e else G.1 j) = (if j = a then some e' else G.1 j)
  by_cases h : j = a
  · rw [if_pos h, if_pos h]
  · rw [if_neg h, if_neg h, if_neg h]
theorem cx_mp (G : cx_G) (a : Nat) (e e' : va_E) (n : Nat) : cx_put (cx_mk G a e n) a e' = cx_mk G a e' n := by
  unfold cx_put cx_mk
  refine Prod.ext ?_ rfl
  funext j
  show (if j = a then some e' else if j = a then some e else G.1 j) = (if j = a then some e' else G.1 j)
  by_cases h : j = a
  · rw [if_pos h, if_pos h]
  · rw [if_neg h, if_neg h, if_neg h]
/-- every cell that was there is there as it was -/
def cx_ext (G G' : cx_G) : Prop := ∀ (b : Nat) (e : va_E), G.1 b = some e → G'.1 b = some e
theorem cx_ext.rf (G : cx_G) : cx_ext G G := fun _ _ h => h
theorem cx_ext.tr {G G1 G2 : cx_G} (h : cx_ext G G1) (h' : cx_ext G1 G2) : cx_ext G G2 := fun b e q => h' b e (h b e q)
theorem cx_ext.pt {G G1 : cx_G} {a : Nat} {e : va_E} (h : cx_ext G G1) (ha : G.1 a = none) : cx_ext G (cx_put G1 a e) := fun b e' q => cx_pn rfl (h b e' q) (fun z => by rw [z, ha] at q; cases q)
theorem cx_ext.mk {G : cx_G} {a n : Nat} {e : va_E} (ha : G.1 a = none) : cx_ext G (cx_mk G a e n) := fun b e' q => cx_mn rfl ha q

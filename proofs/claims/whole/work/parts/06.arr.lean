/-! ARRAYS. -/
theorem cx_RAu {U : State} {c1 c2 : ClassId} {ty : FieldType} (h1 : va_RA U c1 ty) (h2 : va_RA U c2 ty) : c1 = c2 := by
  cases ty with
  | object C =>
    obtain ⟨_, _, _, _, _, e1⟩ := h1
    obtain ⟨_, _, _, _, _, e2⟩ := h2
    exact Option.some.inj (e1.symm.trans e2)
  | _ =>
    exact Option.some.inj (Eq.trans (Eq.symm h1) h2)
section CXA
variable {E : cx_E} {k : cx_K} {l : Launch} {fr : Nat} {M : cx_M} {G0 : cx_G} {Post : cx_R → cx_G → Prop} {pc : Nat} {lv : cx_L} {st : List Value} {G : cx_G} {a n : Nat} {i x : Int32} {f : Nat → Int32} {cA : ClassId}
theorem cx_bald (j : Nat) (hE : cx_C E k l fr M G0 Post) (hd : decode M.2.1 pc = .ok (.baload, 1)) (hT : (cx_tys k)[j]? = some (cA, .byte)) (hG : G.1 a = some (.inl (cA, n, .inl f))) (hi : vp_in i n) (h : cx_V E (pc + 1) lv (.int (f i.toNatClampNeg) :: st) G) : cx_V E pc lv (.int i :: .ref a :: st) G := by
  obtain ⟨k', ⟨p, l', e, R, s, m, args, below, meth, c⟩, nL', fr', c0, s0, Q⟩ := E
  obtain ⟨hx, hb, hml, rfl, hown, hSt, rfl, -⟩ := hE
  intro H locs ls cells slots h1 h2 h3 h4 h5
  obtain ⟨ws, q0, hP, hD, -, hq⟩ := h1.look hG
  exact va_bald hx hb hSt.2.1 hP q0 j hq hT hi hd (h H locs ls cells slots h1 h2 h3 h4 h5)
theorem cx_iald (j : Nat) (hE : cx_C E k l fr M G0 Post) (hd : decode M.2.1 pc = .ok (.iaload, 1)) (hT : (cx_tys k)[j]? = some (cA, .int)) (hG : G.1 a = some (.inl (cA, n, .inl f))) (hi : vp_in i n) (h : cx_V E (pc + 1) lv (.int (f i.toNatClampNeg) :: st) G) : cx_V E pc lv (.int i :: .ref a :: st) G := by
  obtain ⟨k', ⟨p, l', e, R, s, m, args, below, meth, c⟩, nL', fr', c0, s0, Q⟩ := E
  obtain ⟨hx, hb, hml, rfl, hown, hSt, rfl, -⟩ := hE
  intro H locs ls cells slots h1 h2 h3 h4 h5
  obtain ⟨ws, q0, hP, hD, -, hq⟩ := h1.look hG
  exact va_iald hx hb hSt.2.1 hP q0 j hq hT hi hd (h H locs ls cells slots h1 h2 h3 h4 h5)
theorem cx_lald {f : Nat → Int64} (j : Nat) (hE : cx_C E k l fr M G0 Post) (hd : decode M.2.1 pc = .ok (.laload, 1)) (hT : (cx_tys k)[j]? = some (cA, .long)) (hG : G.1 a = some (.inl (cA, n, .inr (.inl f)))) (hi : vp_in i n) (h : cx_V E (pc + 1) lv (.long (f i.toNatClampNeg) :: st) G) : cx_V E pc lv (.int i :: .ref a :: st) G := by
  obtain ⟨k', ⟨p, l', e, R, s, m, args, below, meth, c⟩, nL', fr', c0, s0, Q⟩ := E
  obtain ⟨hx, hb, hml, rfl, hown, hSt, rfl, -⟩ := hE
  intro H locs ls cells slots h1 h2 h3 h4 h5
  obtain ⟨ws, q0, hP, hD, -, hq⟩ := h1.look hG
  exact va_lald hx hb hSt.2.1 hP q0 j hq hT hi hd (h H locs ls cells slots h1 h2 h3 h4 h5)
theorem cx_aald {C : String} {f : Nat → Option Nat} (j : Nat) (hE : cx_C E k l fr M G0 Post) (hd : decode M.2.1 pc = .ok (.aaload, 1)) (hT : (cx_tys k)[j]? = some (cA, .object C)) (hG : G.1 a = some (.inl (cA, n, .inr (.inr (.inr (.inr f)))))) (hi : vp_in i n) (h : cx_V E (pc + 1) lv (va_rf (f i.toNatClampNeg) :: st) G) : cx_V E pc lv (.int i :: .ref a :: st) G := by
  obtain ⟨k', ⟨p, l', e, R, s, m, args, below, meth, c⟩, nL', fr', c0, s0, Q⟩ := E
  obtain ⟨hx, hb, hml, rfl, hown, hSt, rfl, -⟩ := hE
  intro H locs ls cells slots h1 h2 h3 h4 h5
  obtain ⟨ws, q0, hP, hD, -, hq⟩ := h1.look hG
  exact va_aldq hx hb hSt.2.1 hP q0 j hq hT hi hd (h H locs ls cells slots h1 h2 h3 h4 h5)
theorem cx_bast (j : Nat) (hE : cx_C E k l fr M G0 Post) (hd : decode M.2.1 pc = .ok (.bastore, 1)) (hT : (cx_tys k)[j]? = some (cA, .byte)) (hG : G.1 a = some (.inl (cA, n, .inl f))) (hi : vp_in i n) (h : cx_V E (pc + 1) lv st (cx_put G a (.inl (cA, n, .inl (upd f i.toNatClampNeg (vp_nar .byte x)))))) : cx_V E pc lv (.int x :: .int i :: .ref a :: st) G := by
  obtain ⟨k', ⟨p, l', e, R, s, m, args, below, meth, c⟩, nL', fr', c0, s0, Q⟩ := E
  obtain ⟨hx, hb, hml, rfl, hown, hSt, rfl, -⟩ := hE
  intro H locs ls cells slots h1 h2 h3 h4 h5
  obtain ⟨ws, q0, hP, hD, hw, hq⟩ := h1.look hG
  exact va_bast hx hb hSt.2.1 hP hD h2 q0 j hq hT hi hd (fun H1 locs1 hP1 hD1 hS1 => h H1 locs1 ls cells slots (cx_H.set h1.1 h1.2.1 hD hw hq hP1 hD1) hS1 h3 h4 h5)
theorem cx_iast (j : Nat) (hE : cx_C E k l fr M G0 Post) (hd : decode M.2.1 pc = .ok (.iastore, 1)) (hT : (cx_tys k)[j]? = some (cA, .int)) (hG : G.1 a = some (.inl (cA, n, .inl f))) (hi : vp_in i n) (h : cx_V E (pc + 1) lv st (cx_put G a (.inl (cA, n, .inl (upd f i.toNatClampNeg x))))) : cx_V E pc lv (.int x :: .int i :: .ref a :: st) G := by
  obtain ⟨k', ⟨p, l', e, R, s, m, args, below, meth, c⟩, nL', fr', c0, s0, Q⟩ := E
  obtain ⟨hx, hb, hml, rfl, hown, hSt, rfl, -⟩ := hE
  intro H locs ls cells slots h1 h2 h3 h4 h5
  obtain ⟨ws, q0, hP, hD, hw, hq⟩ := h1.look hG
  exact va_iast hx hb hSt.2.1 hP hD h2 q0 j hq hT hi hd (fun H1 locs1 hP1 hD1 hS1 => h H1 locs1 ls cells slots (cx_H.set h1.1 h1.2.1 hD hw hq hP1 hD1) hS1 h3 h4 h5)
theorem cx_last {f : Nat → Int64} {x : Int64} (j : Nat) (hE : cx_C E k l fr M G0 Post) (hd : decode M.2.1 pc = .ok (.lastore, 1)) (hT : (cx_tys k)[j]? = some (cA, .long)) (hG : G.1 a = some (.inl (cA, n, .inr (.inl f)))) (hi : vp_in i n) (h : cx_V E (pc + 1) lv st (cx_put G a (.inl (cA, n, .inr (.inl (vp_updL f i.toNatClampNeg x)))))) : cx_V E pc lv (.long x :: .int i :: .ref a :: st) G := by
  obtain ⟨k', ⟨p, l', e, R, s, m, args, below, meth, c⟩, nL', fr', c0, s0, Q⟩ := E
  obtain ⟨hx, hb, hml, rfl, hown, hSt, rfl, -⟩ := hE
  intro H locs ls cells slots h1 h2 h3 h4 h5
  obtain ⟨ws, q0, hP, hD, hw, hq⟩ := h1.look hG
  exact va_last hx hb hSt.2.1 hP hD h2 q0 j hq hT hi hd (fun H1 locs1 hP1 hD1 hS1 => h H1 locs1 ls cells slots (cx_H.set h1.1 h1.2.1 hD hw hq hP1 hD1) hS1 h3 h4 h5)
/-- objects of class ci may lie in rows of type C -/
def cx_asg (ci : Nat) (C : String) : Prop := ∃ r : vw_C, classes[ci]? = some r ∧ (r.1 = C ∨ Cond.castable r.1 C ∈ lw_tbl)
theorem cx_aast {C : String} {f : Nat → Option Nat} {v ci : Nat} {fs : List Value} (j : Nat) (hE : cx_C E k l fr M G0 Post) (hd : decode M.2.1 pc = .ok (.aastore, 1)) (hT : (cx_tys k)[j]? = some (cA, .object C)) (hG : G.1 a = some (.inl (cA, n, .inr (.inr (.inr (.inr f)))))) (hv : G.1 v = some (.inr (ci, fs))) (hc : ∃ r : vw_C, classes[ci]? = some r ∧ r.1 = C) (hi : vp_in i n) (h : cx_V E (pc + 1) lv st (cx_put G a (.inl (cA, n, .inr (.inr (.inr (.inr (va_up f i.toNatClampNeg (some v))))))))) : cx_V E pc lv (.ref v :: .int i :: .ref a :: st) G := by
  obtain ⟨k', ⟨p, l', e, R, s, m, args, below, meth, c⟩, nL', fr', c0, s0, Q⟩ := E
  obtain ⟨hx, hb, hml, rfl, hown, hSt, rfl, -⟩ := hE
  intro H locs ls cells slots h1 h2 h3 h4 h5
  obtain ⟨ws, q0, hP, hD, hw, hq⟩ := h1.look hG
  obtain ⟨qv, hqv⟩ := (hw v _).mp hv
  obtain ⟨r, hc1, rfl⟩ := hc
  exact va_astq hx hb hSt.2.1 hP hD h2 q0 j qv ci hq hT hqv hc1 hi hd (fun H1 locs1 hP1 hD1 hS1 => h H1 locs1 ls cells slots (cx_H.set h1.1 h1.2.1 hD hw hq hP1 hD1) hS1 h3 h4 h5)
theorem cx_alen (j : Nat) {y : vp_A} {ty : FieldType} {v : Int32} (hE : cx_C E k l fr M G0 Post) (hd : decode M.2.1 pc = .ok (.arraylength, 1)) (hT : (cx_tys k)[j]? = some (cA, ty)) (hG : G.1 a = some (.inl (cA, y))) (hv : Int32.ofNat y.1 = v) (h : cx_V E (pc + 1) lv (.int v :: st) G) : cx_V E pc lv (.ref a :: st) G := by
  obtain ⟨k', ⟨p, l', e, R, s, m, args, below, meth, c⟩, nL', fr', c0, s0, Q⟩ := E
  obtain ⟨hx, hb, hml, rfl, hown, hSt, rfl, -⟩ := hE
  intro H locs ls cells slots h1 h2 h3 h4 h5
  obtain ⟨ws, q0, hP, hD, -, hq⟩ := h1.look hG
  exact va_alen hx hb hSt.2.1 hP q0 j hq hT hv hd (h H locs ls cells slots h1 h2 h3 h4 h5)
theorem cx_newa {atype : ArrayType} {ty : FieldType} {N' : Nat} {a0 : vp_A} (j : Nat) (hE : cx_C E k l fr M G0 Post) (hd : decode M.2.1 pc = .ok (.newarray atype, 2)) (hw : Cond.arrayClass (newarray.typeOf atype) ∈ lw_tbl) (hty : newarray.typeOf atype = ty) (hT : (cx_tys k)[j]? = some (cA, ty)) (ha : ∀ cA : ClassId, vp_cell cA a0 = arrV cA N' (fun _ => defaultValue ty)) (hn : ¬ i < 0) (hN : i.toNatClampNeg = N') (hby : N' * componentBytes ty ≤ 536870912) (hn1 : G.2.1 + 1 ≤ room_1.cells) (hn2 : G.2.2 + N' ≤ room_1.slots)
    (h : ∀ a, G.1 a = none → k.2.2.1 ≤ a → cx_V E (pc + 2) lv (.ref a :: st) (cx_mk G a (.inl (cA, a0)) N')) : cx_V E pc lv (.int i :: st) G := by
  obtain ⟨k', ⟨p, l', e, R, s, m, args, below, meth, c⟩, nL', fr', c0, s0, Q⟩ := E
  obtain ⟨hx, hb, hml, rfl, hown, hSt, rfl, -, hb0, -, -, hrc, hrs, -, -, -, -, -, -, rfl, rfl, -⟩ := hE
  intro H locs ls cells slots h1 h2 h3 h4 h5
  obtain ⟨-, -, ws, hP, hD, hw2⟩ := h1
  refine va_newa hx hb (hSt.1 _ hw rfl args) hty hSt.2.1 hP hD h2 (fun q hq => Nat.le_trans hb0 hq) ha hn hN hby (by omega) (by omega) hd (fun q cB H1 hK1 hP1 hD1 hS1 => ?_)
  have e1 : cB = cA := cx_RAu (hK1.2 (cx_tys k').length (cB, ty) (by rw [List.getElem?_append_right (Nat.le_refl _), Nat.sub_self]; rfl)).2 (hSt.2.1.2 j _ hT).2
  subst e1
  obtain ⟨g1, g2, g3⟩ := cx_H.push (G := G) (n := N') hn1 hn2 hw2 hP1 hD1
  exact h q g2 g3 H1 locs ls (cells + 1) (slots + N') g1 hS1 h3 (by show _ = G.2.1 + 1; omega) (by show _ = G.2.2 + N'; omega)
theorem cx_newq {C : String} {idx N' : Nat} (j : Nat) (hE : cx_C E k l fr M G0 Post) (hd : decode M.2.1 pc = .ok (.anewarray idx, 3)) (hw : Cond.classLink M.1.cls idx C ∈ lw_tbl) (ho : Cond.arrayOver (.object C) ∈ lw_tbl) (hok : cx_ok (Cond.arrayOver (.object C)) = true) (hT : (cx_tys k)[j]? = some (cA, .object C)) (hn : ¬ i < 0) (hN : i.toNatClampNeg = N') (hby : N' * 4 ≤ 536870912) (hn1 : G.2.1 + 1 ≤ room_1.cells) (hn2 : G.2.2 + N' ≤ room_1.slots)
    (h : ∀ a, G.1 a = none → k.2.2.1 ≤ a → cx_V E (pc + 3) lv (.ref a :: st) (cx_mk G a (.inl (cA, N', .inr (.inr (.inr (.inr (fun _ => none)))))) N')) : cx_V E pc lv (.int i :: st) G := by
  obtain ⟨k', ⟨p, l', e, R, s, m, args, below, meth, c⟩, nL', fr', c0, s0, Q⟩ := E
  obtain ⟨hx, hb, hml, rfl, hown, hSt, rfl, -, hb0, -, -, hrc, hrs, -, -, -, -, -, -, rfl, rfl, -⟩ := hE
  intro H locs ls cells slots h1 h2 h3 h4 h5
  obtain ⟨-, -, ws, hP, hD, hw2⟩ := h1
  refine va_newq hx hb hown (hSt.1 _ hw rfl args) (hSt.1 _ ho hok #[]) hSt.2.1 hP hD h2 (fun q hq => Nat.le_trans hb0 hq) hn hN hby (by omega) (by omega) hd (fun q cB H1 hK1 hP1 hD1 hS1 => ?_)
  have e1 : cB = cA := cx_RAu (hK1.2 (cx_tys k').length (cB, .object C) (by rw [List.getElem?_append_right (Nat.le_refl _), Nat.sub_self]; rfl)).2 (hSt.2.1.2 j _ hT).2
  subst e1
  obtain ⟨g1, g2, g3⟩ := cx_H.push (G := G) (n := N') hn1 hn2 hw2 hP1 hD1
  exact h q g2 g3 H1 locs ls (cells + 1) (slots + N') g1 hS1 h3 (by show _ = G.2.1 + 1; omega) (by show _ = G.2.2 + N'; omega)
end CXA

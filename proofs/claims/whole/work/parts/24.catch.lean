/-! EXCEPTIONS: caught. -/
section CXY
variable {E : cx_E} {k : cx_K} {l : Launch} {fr : Nat} {M : cx_M} {G0 : cx_G} {Post : cx_R → cx_G → Prop} {pc : Nat} {lv : cx_L} {G : cx_G}
/-- a handler's row that a thrown object of class X passes -/
def cx_ps0 (own X : String) (y : Nat × Nat × Nat × Nat) : Prop := y.2.2.2 ≠ 0 ∧ X = "java/lang/IllegalArgumentException" ∧ Cond.classLink own y.2.2.2 "java/lang/IndexOutOfBoundsException" ∈ lw_tbl
theorem cx_T.catch {a ci s9 e9 tgt ct : Nat} {fs : List Value} {r : vw_C} {pre rest : List (Nat × Nat × Nat × Nat)} (hE : cx_C E k l fr M G0 Post) (hG : G.1 a = some (.inr (ci, fs))) (hc : classes[ci]? = some r) (hh : M.2.2.2.2.1 = pre ++ (s9, e9, tgt, ct) :: rest) (hpre : ∀ y ∈ pre, cx_ps0 M.1.cls r.1 y) (hcov : s9 ≤ pc ∧ pc < e9) (hct : ct ≠ 0) (hlink : Cond.classLink M.1.cls ct r.1 ∈ lw_tbl) (hcast : Cond.castable r.1 r.1 ∈ lw_tbl) (h : cx_V E tgt lv [.ref a] G) : cx_T E pc lv a G := by
  obtain ⟨k', ⟨p, l', e, R, s, m, args, below, meth, c⟩, nL', fr', c0, s0, Q⟩ := E
  obtain ⟨hx, hb, hml, rfl, hown, hSt, rfl, -, -, -, -, -, -, hret, hlk, -, hex, -, -, rfl, rfl, rfl⟩ := hE
  intro H locs ls cells slots st h1 h2 h3 h4 h5 T hT X
  rw [hh] at hex
  obtain ⟨pre9, rest9, e1, e2, e3⟩ := List.map_eq_append_iff.mp hex
  obtain ⟨x, rest8, e4, e5, e6⟩ := List.map_eq_cons_iff.mp e3
  subst e4
  obtain ⟨ws, q0, hP, hD, hw, hq⟩ := h1.look hG
  obtain ⟨cell, g1, g2, g3⟩ := va_recv hSt.2.1 hP hc hq
  obtain ⟨c3, c4, w1, w2, w3⟩ := Cond.castable_spec (hSt.1 _ hcast rfl args)
  cases w1.symm.trans g3
  cases w2.symm.trans w1
  obtain ⟨kc, hkc, -⟩ := Vm.findClass_spec g3
  have hpl : e.platform.magicAccessors = ({} : Platform).magicAccessors := by rw [X.admits.platform]
  cases e5
  obtain ⟨vm', X', step⟩ := X.caughtThrough a (g := F0 m pc ls st) rfl (cell := cell) (by rw [hT]; exact g1) g2 ⟨kc, hkc⟩ pre9 x rest8 e1 (fun y hy => by
      obtain ⟨z0, z1, z2⟩ := hpre _ (by rw [← e2]; exact List.mem_map_of_mem hy)
      obtain ⟨c', hc', hcl⟩ := Cond.classLink_spec hown (hSt.1 _ z2 rfl args) e.platform hpl
      exact Or.inr ⟨z0, c', hcl, hSt.2.2.2.2 _ _ (by rw [← z1]; exact g3) hc'⟩) (by simp only [covers, Bool.and_eq_true, decide_eq_true_eq]; exact hcov) (X.catches_of_link hown hct (hSt.1 _ hlink rfl args) g3 w3).1
  rw [← X.pushThrowing_eq (F0 m pc ls st) a] at step
  obtain ⟨t, a1, b1⟩ := h H locs ls cells slots h1 h2 h3 h4 h5 (T.setVm vm') hT X'
  exact ⟨t, step t a1, b1⟩
end CXY

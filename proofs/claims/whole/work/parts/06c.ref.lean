/-! ROWS OF REFERENCES: stores that an Object[] takes, their copies, class objects. -/
section CXM
variable {E : cx_E} {k : cx_K} {l : Launch} {fr : Nat} {M : cx_M} {G0 : cx_G} {Post : cx_R → cx_G → Prop} {pc : Nat} {lv : cx_L} {st : List Value} {G : cx_G} {cA : ClassId} {i : Int32} {a n : Nat}
/-- the object at v may lie in an Object[] -/
def cx_any (G : cx_G) (v : Nat) : Prop := ∃ (ci : Nat) (fs : List Value) (r : vw_C), G.1 v = some (.inr (ci, fs)) ∧ classes[ci]? = some r ∧ Cond.castable r.1 "java/lang/Object" ∈ lw_tbl
theorem cx_any.to {s : State} {H : Heap} {ws : va_W} {args : Array Value} {v : Nat} (hSt : cx_St k s) (hP : va_P k.1 classes ws H) (hw : ∀ (a : Nat) (e : va_E), G.1 a = some e ↔ ∃ i : Nat, ws[i]? = some (a, e)) (h : cx_any G v) : va_Any "java/lang/Object" s H v := by
  obtain ⟨ci, fs, r, h1, h2, h3⟩ := h
  obtain ⟨qv, hqv⟩ := (hw v _).mp h1
  refine va_rAny hSt.2.1 hP hqv h2 (fun comp c0 z1 z2 => ?_)
  obtain ⟨c3, c4, w1, w2, w3⟩ := Cond.castable_spec (hSt.1 _ h3 rfl args)
  cases w1.symm.trans z2
  cases w2.symm.trans z1
  exact w3
theorem cx_aastM {f : Nat → Option Nat} {v : Nat} (hE : cx_C E k l fr M G0 Post) (hd : decode M.2.1 pc = .ok (.aastore, 1)) (hG : G.1 a = some (.inl (k.2.1 3, n, .inr (.inr (.inr (.inr f)))))) (hv : cx_any G v) (hi : vp_in i n) (h : cx_V E (pc + 1) lv st (cx_put G a (.inl (k.2.1 3, n, .inr (.inr (.inr (.inr (va_up f i.toNatClampNeg (some v))))))))) : cx_V E pc lv (.ref v :: .int i :: .ref a :: st) G := by
  obtain ⟨k', ⟨p, l', e, R, s, m, args, below, meth, c⟩, nL', fr', c0, s0, Q⟩ := E
  obtain ⟨hx, hb, hml, rfl, hown, hSt, rfl, -⟩ := hE
  intro H locs ls cells slots h1 h2 h3 h4 h5
  obtain ⟨ws, q0, hP, hD, hw, hq⟩ := h1.look hG
  exact va_astqM hx hb hSt.2.1 hP hD h2 q0 3 hq rfl (hv.to (args := args) hSt hP hw) hi hd (fun H1 locs1 hP1 hD1 hS1 => h H1 locs1 ls cells slots (cx_H.set h1.1 h1.2.1 hD hw hq hP1 hD1) hS1 h3 h4 h5)
theorem cx_copyq {idx : Nat} {a0 a1 n0 n1 sp dp n : Nat} {f g : Nat → Option Nat} (hE : cx_C E k l fr M G0 Post) (hd : decode M.2.1 pc = .ok (.invokestatic idx, 3)) (hl : Cond.methodLink M.1.cls idx arraycopyName ∈ lw_tbl) (hnat : Cond.native arraycopyName ∈ lw_tbl) (hstat : Cond.static arraycopyName ∈ lw_tbl) (hini : Cond.initialized "java/lang/System" ∈ lw_tbl)
    (hG0 : G.1 a0 = some (.inl (k.2.1 3, n0, .inr (.inr (.inr (.inr f)))))) (hG1 : G.1 a1 = some (.inl (k.2.1 3, n1, .inr (.inr (.inr (.inr g)))))) (hs : sp < 2 ^ 31) (hdp : dp < 2 ^ 31) (hn : n < 2 ^ 31) (h4 : sp + n ≤ n0) (h5 : dp + n ≤ n1) (hfit : ∀ i, i < n → ∀ y, f (sp + i) = some y → cx_any G y) (hfr : 1 ≤ fr) (hw : (st.map fun v => v.category).sum ≤ 8)
    (h : cx_V E (pc + 3) lv st (cx_put G a1 (.inl (k.2.1 3, n1, .inr (.inr (.inr (.inr (va_cpy f g sp dp n)))))))) : cx_V E pc lv (.int (nI n) :: .int (nI dp) :: .ref a1 :: .int (nI sp) :: .ref a0 :: st) G := by
  obtain ⟨k', ⟨p, l', e, R, s, m, args, below, meth, c⟩, nL', fr', c0, s0, Q⟩ := E
  obtain ⟨hx, hb, hml, rfl, hown, hSt, rfl, hOd, hb0, hRf, hRl, -⟩ := hE
  intro H locs ls cells slots g1 g2 g3 g4 g5
  obtain ⟨ws, q1, hP, hD, hws, hq1⟩ := g1.look hG1
  obtain ⟨q0, hq0⟩ := (hws a0 _).mp hG0
  have e1 : (nI sp).toNatClampNeg = sp := nI_clamp hs
  have e2 : (nI dp).toNatClampNeg = dp := nI_clamp hdp
  have e3 : (nI n).toNatClampNeg = n := nI_clamp hn
  refine va_copyM hx hb (by rw [hml]; exact g3.1.1.symm) hown (hSt.1 _ hl rfl args) (hSt.1 _ hnat rfl args) (hSt.1 _ hstat rfl args) (hSt.1 _ hini rfl args) hSt.2.1 hP hD g2 q0 q1 3 3 hq0 hq1 rfl rfl (nI_pos hs) (nI_pos hdp) (nI_pos hn) (by rw [e1, e3]; exact h4) (by rw [e2, e3]; exact h5) (by rw [e1, e3]; exact fun i hi y hy => (hfit i hi y hy).to (args := args) hSt hP hws) (by omega) ?_ hd (fun H1 locs1 hP1 hD1 hS1 => ?_)
  · have : nativeFrameWords "java/lang/System" "arraycopy" 5 ≤ 20 := by decide +kernel
    omega
  · rw [e1, e2, e3] at hP1 hD1
    exact h H1 locs1 ls cells slots (cx_H.set g1.1 g1.2.1 hD hws hq1 hP1 hD1) hS1 g3 g4 g5
theorem cx_ldcM {idx : Nat} (hE : cx_C E k l fr M G0 Post) (hd : decode M.2.1 pc = .ok (.ldc idx, 2)) (hl : Cond.classLink M.1.cls idx "[Ljava/lang/Object;" ∈ lw_tbl) (h : cx_V E (pc + 2) lv (.ref (k.2.2.2.2.2.1 2) :: st) G) : cx_V E pc lv st G := by
  obtain ⟨k', ⟨p, l', e, R, s, m, args, below, meth, c⟩, nL', fr', c0, s0, Q⟩ := E
  obtain ⟨hx, hb, hml, rfl, hown, hSt, rfl, -⟩ := hE
  intro H locs ls cells slots h1 h2 h3 h4 h5
  exact va_ldcM hx hb hown (hSt.1 _ hl rfl args) hSt.2.2.2.1 hd (h H locs ls cells slots h1 h2 h3 h4 h5)
theorem cx_getC {idx : Nat} {f : Nat → Option Nat} (hE : cx_C E k l fr M G0 Post) (hd : decode M.2.1 pc = .ok (.invokevirtual idx, 3)) (hl : Cond.methodLink M.1.cls idx ⟨"java/lang/Object", "getClass", "()Ljava/lang/Class;"⟩ ∈ lw_tbl) (hG : G.1 a = some (.inl (k.2.1 3, n, .inr (.inr (.inr (.inr f)))))) (hfr : 1 ≤ fr) (hw : (st.map fun v => v.category).sum ≤ 8) (h : cx_V E (pc + 3) lv (.ref (k.2.2.2.2.2.1 2) :: st) G) : cx_V E pc lv (.ref a :: st) G := by
  obtain ⟨k', ⟨p, l', e, R, s, m, args, below, meth, c⟩, nL', fr', c0, s0, Q⟩ := E
  obtain ⟨hx, hb, hml, rfl, hown, hSt, rfl, hOd, hb0, hRf, hRl, -⟩ := hE
  intro H locs ls cells slots h1 h2 h3 h4 h5
  obtain ⟨ws, q0, hP, hD, hws, hq0⟩ := h1.look hG
  refine va_getC hx hb (by rw [hml]; exact h3.1.1.symm) hown (hSt.1 _ hl rfl args) (hSt.1 _ (in_8 (List.mem_of_getElem? (i := 139) rfl)) rfl args) (hSt.1 _ (in_8 (List.mem_of_getElem? (i := 138) rfl)) rfl args) (hSt.1 _ (in_4 (List.mem_of_getElem? (i := 213) rfl)) rfl args) (hSt.1 _ (in_4 (List.mem_of_getElem? (i := 235) rfl)) rfl args) hSt.2.2.2.1 ⟨_, hP q0 _ hq0, rfl, ?_⟩ (by omega) (by omega) hd (h H locs ls cells slots h1 h2 h3 h4 h5)
  exact va_nmO (hSt.2.1.2 3 _ rfl).2 rfl
end CXM

/-! LITERALS, STATICS, CASTS: rows over cells that nobody writes. -/
section CXL
variable {E : cx_E} {k : cx_K} {l : Launch} {fr : Nat} {M : cx_M} {G0 : cx_G} {Post : cx_R → cx_G → Prop} {pc : Nat} {lv : cx_L} {st : List Value} {G : cx_G}
theorem cx_ldcS {i idx : Nat} {q : String × Nat × String} (hE : cx_C E k l fr M G0 Post) (hd : decode M.2.1 pc = .ok (.ldc idx, 2)) (hq : cx_lit[i]? = some q) (h1 : q.1 = M.1.cls) (h2 : q.2.1 = idx) (h : cx_V E (pc + 2) lv (.ref (k.2.2.2.1 i) :: st) G) : cx_V E pc lv st G := by
  obtain ⟨k', ⟨p, l', e, R, s, m, args, below, meth, c⟩, nL', fr', c0, s0, Q⟩ := E
  obtain ⟨hx, hb, hml, rfl, hown, hSt, rfl, -⟩ := hE
  intro H locs ls cells slots g1 g2 g3 g4 g5
  have hr := hSt.2.2.1 i q hq
  rw [h1, h2] at hr
  exact va_ldcS hx hb hown hr hd (h H locs ls cells slots g1 g2 g3 g4 g5)
theorem cx_litv {i idx : Nat} (hE : cx_C E k l fr M G0 Post) (hd : decode M.2.1 pc = .ok (.getfield idx, 3)) (hl : Cond.fieldLink M.1.cls idx "java/lang/String" "value" "[B" ∈ lw_tbl) (hi : i < 11) (h : cx_V E (pc + 3) lv (.ref (k.2.2.2.2.1 i) :: st) G) : cx_V E pc lv (.ref (k.2.2.2.1 i) :: st) G := by
  obtain ⟨k', ⟨p, l', e, R, s, m, args, below, meth, c⟩, nL', fr', c0, s0, Q⟩ := E
  obtain ⟨hx, hb, hml, rfl, hown, hSt, rfl, hOd, -⟩ := hE
  intro H locs ls cells slots g1 g2 g3 g4 g5
  exact vk_getf hx hb (hOd.1.1 i hi).2.2.1 g2 hown (hSt.1 _ hl rfl args) (fun _ z => z) hd (h H locs ls cells slots g1 g2 g3 g4 g5)
theorem cx_litc {i idx : Nat} (hE : cx_C E k l fr M G0 Post) (hd : decode M.2.1 pc = .ok (.getfield idx, 3)) (hl : Cond.fieldLink M.1.cls idx "java/lang/String" "coder" "B" ∈ lw_tbl) (hi : i < 11) (h : cx_V E (pc + 3) lv (.int 0 :: st) G) : cx_V E pc lv (.ref (k.2.2.2.1 i) :: st) G := by
  obtain ⟨k', ⟨p, l', e, R, s, m, args, below, meth, c⟩, nL', fr', c0, s0, Q⟩ := E
  obtain ⟨hx, hb, hml, rfl, hown, hSt, rfl, hOd, -⟩ := hE
  intro H locs ls cells slots g1 g2 g3 g4 g5
  exact vk_getf hx hb (hOd.1.1 i hi).2.1 g2 hown (hSt.1 _ hl rfl args) (fun _ z => z) hd (h H locs ls cells slots g1 g2 g3 g4 g5)
theorem cx_litn {i : Nat} (hE : cx_C E k l fr M G0 Post) (hd : decode M.2.1 pc = .ok (.arraylength, 1)) (hi : i < 11) (h : cx_V E (pc + 1) lv (.int (nI (cx_len.getD i 0)) :: st) G) : cx_V E pc lv (.ref (k.2.2.2.2.1 i) :: st) G := by
  obtain ⟨k', ⟨p, l', e, R, s, m, args, below, meth, c⟩, nL', fr', c0, s0, Q⟩ := E
  obtain ⟨hx, hb, hml, rfl, hown, hSt, rfl, hOd, -⟩ := hE
  intro H locs ls cells slots g1 g2 g3 g4 g5
  exact va_tlen hx hb (hOd.1.1 i hi).2.2.2 g2 rfl hd (h H locs ls cells slots g1 g2 g3 g4 g5)
theorem cx_litb {i : Nat} {j : Int32} (hE : cx_C E k l fr M G0 Post) (hd : decode M.2.1 pc = .ok (.baload, 1)) (hi : i < 11) (hj : vp_in j (cx_len.getD i 0)) (h : cx_V E (pc + 1) lv (.int ((cx_byt.getD i []).getD j.toNatClampNeg 0) :: st) G) : cx_V E pc lv (.int j :: .ref (k.2.2.2.2.1 i) :: st) G := by
  obtain ⟨k', ⟨p, l', e, R, s, m, args, below, meth, c⟩, nL', fr', c0, s0, Q⟩ := E
  obtain ⟨hx, hb, hml, rfl, hown, hSt, rfl, hOd, -⟩ := hE
  intro H locs ls cells slots g1 g2 g3 g4 g5
  exact va_tb hx hb (hOd.1.1 i hi).2.2.2 g2 hj rfl hd (h H locs ls cells slots g1 g2 g3 g4 g5)
theorem cx_comp {idx : Nat} (hE : cx_C E k l fr M G0 Post) (hd : decode M.2.1 pc = .ok (.getstatic idx, 3)) (hl : Cond.fieldLink M.1.cls idx "java/lang/String" "COMPACT_STRINGS" "Z" ∈ lw_tbl) (h : cx_V E (pc + 3) lv (.int 1 :: st) G) : cx_V E pc lv st G := by
  obtain ⟨k', ⟨p, l', e, R, s, m, args, below, meth, c⟩, nL', fr', c0, s0, Q⟩ := E
  obtain ⟨hx, hb, hml, rfl, hown, hSt, rfl, hOd, -⟩ := hE
  intro H locs ls cells slots g1 g2 g3 g4 g5
  exact va_gets hx hb hOd.2.1 g2 hown (hSt.1 _ hl rfl args) (fun _ z => z) hd (h H locs ls cells slots g1 g2 g3 g4 g5)
theorem cx_sioo {idx : Nat} (hE : cx_C E k l fr M G0 Post) (hd : decode M.2.1 pc = .ok (.getstatic idx, 3)) (hl : Cond.fieldLink M.1.cls idx "jdk/internal/util/Preconditions" "SIOOBE_FORMATTER" "Ljava/util/function/BiFunction;" ∈ lw_tbl) (h : ∀ r : Option Nat, cx_V E (pc + 3) lv (va_rf r :: st) G) : cx_V E pc lv st G := by
  obtain ⟨k', ⟨p, l', e, R, s, m, args, below, meth, c⟩, nL', fr', c0, s0, Q⟩ := E
  obtain ⟨hx, hb, hml, rfl, hown, hSt, rfl, hOd, -⟩ := hE
  intro H locs ls cells slots g1 g2 g3 g4 g5
  rcases hOd.2.2.1 with hz | ⟨t, hz⟩
  · exact va_gets hx hb hz g2 hown (hSt.1 _ hl rfl args) (fun _ z => z) hd (h none H locs ls cells slots g1 g2 g3 g4 g5)
  · exact va_gets hx hb hz g2 hown (hSt.1 _ hl rfl args) (fun _ z => z) hd (h (some t) H locs ls cells slots g1 g2 g3 g4 g5)
theorem cx_dflt {idx : Nat} (hE : cx_C E k l fr M G0 Post) (hd : decode M.2.1 pc = .ok (.getstatic idx, 3)) (hl : Cond.fieldLink M.1.cls idx "java/util/ArrayList" "DEFAULTCAPACITY_EMPTY_ELEMENTDATA" "[Ljava/lang/Object;" ∈ lw_tbl) (h : cx_V E (pc + 3) lv (.ref (k.2.2.2.2.2.1 0) :: st) G) : cx_V E pc lv st G := by
  obtain ⟨k', ⟨p, l', e, R, s, m, args, below, meth, c⟩, nL', fr', c0, s0, Q⟩ := E
  obtain ⟨hx, hb, hml, rfl, hown, hSt, rfl, hOd, -⟩ := hE
  intro H locs ls cells slots g1 g2 g3 g4 g5
  exact va_gets hx hb hOd.2.2.2.1 g2 hown (hSt.1 _ hl rfl args) (fun _ z => z) hd (h H locs ls cells slots g1 g2 g3 g4 g5)
theorem cx_dfln (hE : cx_C E k l fr M G0 Post) (hd : decode M.2.1 pc = .ok (.arraylength, 1)) (h : cx_V E (pc + 1) lv (.int 0 :: st) G) : cx_V E pc lv (.ref (k.2.2.2.2.2.1 0) :: st) G := by
  obtain ⟨k', ⟨p, l', e, R, s, m, args, below, meth, c⟩, nL', fr', c0, s0, Q⟩ := E
  obtain ⟨hx, hb, hml, rfl, hown, hSt, rfl, hOd, -⟩ := hE
  intro H locs ls cells slots g1 g2 g3 g4 g5
  exact va_tlen hx hb hOd.2.2.2.2.1 g2 rfl hd (h H locs ls cells slots g1 g2 g3 g4 g5)
theorem cx_wrdS {idx : Nat} (hE : cx_C E k l fr M G0 Post) (hd : decode M.2.1 pc = .ok (.getstatic idx, 3)) (hl : Cond.fieldLink M.1.cls idx "CircuitTextModel" "WORDS" "[B" ∈ lw_tbl) (h : cx_V E (pc + 3) lv (.ref (k.2.2.2.2.2.1 1) :: st) G) : cx_V E pc lv st G := by
  obtain ⟨k', ⟨p, l', e, R, s, m, args, below, meth, c⟩, nL', fr', c0, s0, Q⟩ := E
  obtain ⟨hx, hb, hml, rfl, hown, hSt, rfl, hOd, -⟩ := hE
  intro H locs ls cells slots g1 g2 g3 g4 g5
  exact va_gets hx hb hOd.2.2.2.2.2.1 g2 hown (hSt.1 _ hl rfl args) (fun _ z => z) hd (h H locs ls cells slots g1 g2 g3 g4 g5)
theorem cx_wrdn (hE : cx_C E k l fr M G0 Post) (hd : decode M.2.1 pc = .ok (.arraylength, 1)) (h : cx_V E (pc + 1) lv (.int 113 :: st) G) : cx_V E pc lv (.ref (k.2.2.2.2.2.1 1) :: st) G := by
  obtain ⟨k', ⟨p, l', e, R, s, m, args, below, meth, c⟩, nL', fr', c0, s0, Q⟩ := E
  obtain ⟨hx, hb, hml, rfl, hown, hSt, rfl, hOd, -⟩ := hE
  intro H locs ls cells slots g1 g2 g3 g4 g5
  exact va_tlen hx hb hOd.2.2.2.2.2.2.1 g2 rfl hd (h H locs ls cells slots g1 g2 g3 g4 g5)
theorem cx_wrdb {j : Int32} (hE : cx_C E k l fr M G0 Post) (hd : decode M.2.1 pc = .ok (.baload, 1)) (hj : vp_in j 113) (h : cx_V E (pc + 1) lv (.int (cx_wrd.getD j.toNatClampNeg 0) :: st) G) : cx_V E pc lv (.int j :: .ref (k.2.2.2.2.2.1 1) :: st) G := by
  obtain ⟨k', ⟨p, l', e, R, s, m, args, below, meth, c⟩, nL', fr', c0, s0, Q⟩ := E
  obtain ⟨hx, hb, hml, rfl, hown, hSt, rfl, hOd, -⟩ := hE
  intro H locs ls cells slots g1 g2 g3 g4 g5
  exact va_tb hx hb hOd.2.2.2.2.2.2.1 g2 hj rfl hd (h H locs ls cells slots g1 g2 g3 g4 g5)
/-- checkcast to the object's own class -/
theorem cx_cast {a ci idx : Nat} {fs : List Value} {r : vw_C} (hE : cx_C E k l fr M G0 Post) (hd : decode M.2.1 pc = .ok (.checkcast idx, 3)) (hG : G.1 a = some (.inr (ci, fs))) (hc : classes[ci]? = some r) (hl : Cond.classLink M.1.cls idx r.1 ∈ lw_tbl) (h : cx_V E (pc + 3) lv (.ref a :: st) G) : cx_V E pc lv (.ref a :: st) G := by
  obtain ⟨k', ⟨p, l', e, R, s, m, args, below, meth, c⟩, nL', fr', c0, s0, Q⟩ := E
  obtain ⟨hx, hb, hml, rfl, hown, hSt, rfl, hOd, -⟩ := hE
  intro H locs ls cells slots g1 g2 g3 g4 g5
  obtain ⟨ws, q0, hP, hD, -, hq⟩ := g1.look hG
  exact va_castE hx hb hown (hSt.1 _ hl rfl args) (va_recv hSt.2.1 hP hc hq) hd (h H locs ls cells slots g1 g2 g3 g4 g5)
/-- a virtual call on a literal -/
theorem cx_invK {stk : List Value} {Post' : cx_R → cx_G → Prop} {fr' : Nat} {M' : cx_M} {idx i : Nat} {av : List Value} (hE : cx_C E k l fr M G0 Post) (hd : decode M.2.1 pc = .ok (.invokevirtual idx, 3)) (hl : Cond.methodLink M.1.cls idx M'.1 ∈ lw_tbl) (hW : cx_W M') (hin9 : Cond.instanceMethod M'.1 ∈ lw_tbl) (hsel : Cond.selects "java/lang/String" M'.1 M'.1 ∈ lw_tbl) (hi : i < 11) (hSp : cx_Sp k l M' fr' (.ref (k.2.2.2.1 i) :: av) G Post') (hs : stk = av.reverse ++ .ref (k.2.2.2.1 i) :: st) (hfr : fr' + 1 ≤ fr) (hw : (st.map fun v => v.category).sum ≤ 8) (hn : (parseMethodDescriptor M'.1.desc).map (fun d => d.parameters.length) = some av.length) (hav : (Value.ref (k.2.2.2.1 i) :: av).map (fun v => v.category) = M'.2.2.2.2.2.map cx_cat)
    (hr : ∀ v G', Post' (.inl v) G' → cx_V E (pc + 3) lv (v.toList ++ st) G') (ht : ∀ a G', Post' (.inr a) G' → cx_T E pc lv a G') : cx_V E pc lv stk G := by
  subst hs
  obtain ⟨k', ⟨p, l', e, R, s, m, args, below, meth, c⟩, nL', fr0, c0, s0, Q⟩ := E
  obtain ⟨hx, hb, hml, rfl, hown, hSt, rfl, hOd, hb0, hRf, hRl, hrc, hrs, hret, hlk, -, -, rfl, rfl, rfl, rfl, rfl⟩ := hE
  intro H locs ls cells slots h1 h2 h3 h4 h5 T hT X
  obtain ⟨mk, methM, cM, hkn⟩ := hW.kn hSt
  have hnamed := hkn.1
  have hmethM := hkn.2.1
  have hsig := hkn.2.2.2.2.2.2.2.2
  obtain ⟨mk2, methM2, hn2, hm2, hstM, habM⟩ := Cond.instanceMethod_spec (hSt.1 _ hin9 rfl args)
  cases hnamed.symm.trans hn2
  cases hmethM.symm.trans hm2
  obtain ⟨cellB, hcB, hoB, hclB⟩ := vk_recv hOd.1 hi h2
  obtain ⟨c2, r2, m2, z1, z2, z3, z4, kP, hkP, hkPi⟩ := Cond.selects_spec (hSt.1 _ hsel rfl args)
  cases hclB.symm.trans z1
  cases (State.methodFound?_of_named hnamed hW.2.2.2.2).symm.trans z2
  cases hnamed.symm.trans z3
  have hselP : selectMethod e.platform s.vm cellB.cls mk = .method mk := by rw [Launch.admits_selectMethod X.admits]; exact z4
  have hlen : av.length = methM.sig.parameters.length := by rw [hsig] at hn; exact (Option.some.inj hn).symm
  have hdg : decode c.code pc = .ok (.invokevirtual idx, 3) := by rw [hb]; exact hd
  have hcT : T.heap[k'.2.2.2.1 i]? = some cellB := by rw [hT]; exact hcB
  obtain ⟨vm', X₁, hstep⟩ := X.invokevirtual hx hown (hSt.1 _ hl rfl args) hnamed hmethM hstM hkP hkPi hW.2.2.2.2 (a := k'.2.2.2.1 i) (cell := cellB) hcT (fun z h => by rw [h] at hoB; cases hoB) hselP hmethM habM hkP hkPi (g := F0 m pc ls (av.reverse ++ .ref (k'.2.2.2.1 i) :: st)) rfl (argsL := av) (rest := st) hlen rfl hdg
  have h28 := hW.2.2.1
  have hm0 : 2 * (F0 m pc ls st).monitorRoom + (st.map fun v => v.category).sum ≤ 8 := lv_room hw
  obtain ⟨r, G', T', L, k1, n1, w1, w2, w3, w4, w5, w6, w7⟩ := cx_enter (g := F0 m pc ls st) (G := G) X₁ hx hSt hOd hb0 (by show cx_H k' G T.heap; rw [hT]; exact h1) (by show va_S (cx_A k') s.heap T.heap locs; rw [hT]; exact h2) rfl (by rw [hml]; exact h3.1.1) hdg hW hkn (fr' := fr') (by omega) (by show 2 * (F0 m pc ls st).monitorRoom + (st.map fun v => v.category).sum + _ + _ ≤ _; omega) (by have := h1.1; omega) (by have := h1.2.1; omega) hav hSp
  cases r with
  | inl v =>
    obtain ⟨t, a1, b1⟩ := hr v G' w1 T'.heap (locs ++ L) ls (cells + k1) (slots + n1) w3 w4 h3 (by omega) (by omega) T' rfl w2
    exact ⟨t, hstep t (fun acts => (w7 acts).trans a1), b1⟩
  | inr x =>
    obtain ⟨t, a1, b1⟩ := ht x G' w1 T'.heap (locs ++ L) ls (cells + k1) (slots + n1) st w3 w4 h3 (by omega) (by omega) T' rfl w2
    exact ⟨t, hstep t (fun acts => (w7 acts).trans a1), b1⟩
/-- System.arraycopy of bytes -/
theorem cx_copyb {idx : Nat} {a0 a1 n0 n1 sp dp n : Nat} {f g : Nat → Int32} (hE : cx_C E k l fr M G0 Post) (hd : decode M.2.1 pc = .ok (.invokestatic idx, 3)) (hl : Cond.methodLink M.1.cls idx arraycopyName ∈ lw_tbl) (hnat : Cond.native arraycopyName ∈ lw_tbl) (hstat : Cond.static arraycopyName ∈ lw_tbl) (hini : Cond.initialized "java/lang/System" ∈ lw_tbl)
    (hG0 : G.1 a0 = some (.inl (k.2.1 0, n0, .inl f))) (hG1 : G.1 a1 = some (.inl (k.2.1 0, n1, .inl g))) (hs : sp < 2 ^ 31) (hdp : dp < 2 ^ 31) (hn : n < 2 ^ 31) (h4 : sp + n ≤ n0) (h5 : dp + n ≤ n1) (hfit : ∀ i, i < n → fits .byte (.int (f (sp + i))) = true) (hfr : 1 ≤ fr) (hw : (st.map fun v => v.category).sum ≤ 8)
    (h : cx_V E (pc + 3) lv st (cx_put G a1 (.inl (k.2.1 0, n1, .inl (va_cpy f g sp dp n))))) : cx_V E pc lv (.int (nI n) :: .int (nI dp) :: .ref a1 :: .int (nI sp) :: .ref a0 :: st) G := by
  obtain ⟨k', ⟨p, l', e, R, s, m, args, below, meth, c⟩, nL', fr', c0, s0, Q⟩ := E
  obtain ⟨hx, hb, hml, rfl, hown, hSt, rfl, hOd, hb0, hRf, hRl, -⟩ := hE
  intro H locs ls cells slots g1 g2 g3 g4 g5
  obtain ⟨ws, q1, hP, hD, hws, hq1⟩ := g1.look hG1
  obtain ⟨q0, hq0⟩ := (hws a0 _).mp hG0
  have e1 : (nI sp).toNatClampNeg = sp := nI_clamp hs
  have e2 : (nI dp).toNatClampNeg = dp := nI_clamp hdp
  have e3 : (nI n).toNatClampNeg = n := nI_clamp hn
  refine va_copyi hx hb (by rw [hml]; exact g3.1.1.symm) hown (hSt.1 _ hl rfl args) (hSt.1 _ hnat rfl args) (hSt.1 _ hstat rfl args) (hSt.1 _ hini rfl args) hSt.2.1 hP hD g2 q0 q1 0 0 hq0 hq1 rfl rfl rfl (nI_pos hs) (nI_pos hdp) (nI_pos hn) (by rw [e1, e3]; exact h4) (by rw [e2, e3]; exact h5) (by rw [e1, e3]; exact hfit) (by omega) ?_ hd (fun H1 locs1 hP1 hD1 hS1 => ?_)
  · have : nativeFrameWords "java/lang/System" "arraycopy" 5 ≤ 20 := by decide +kernel
    omega
  · rw [e1, e2, e3] at hP1 hD1
    exact h H1 locs1 ls cells slots (cx_H.set g1.1 g1.2.1 hD hws hq1 hP1 hD1) hS1 g3 g4 g5
end CXL

/-! A METHOD'S ENDS, AND CALLS. -/
theorem cx_Wm {p : Program} {l : Launch} {e : Env} {R : Room} {s : State} {m : MethodId} {args : Array Value} {below : List Frame} {meth : Method} {c : Code} {H : Heap} {locs : List Loc} {cells slots : Nat} {Q Q' : State → Prop} {g : JFrame} (h : W p l e R s m args below meth c H locs cells slots Q g) (hq : ∀ t, Q t → Q' t) : W p l e R s m args below meth c H locs cells slots Q' g := by
  intro T hT X
  obtain ⟨t, a, b⟩ := h T hT X
  exact ⟨t, a, hq t b⟩
theorem cx_ends {k : cx_K} {below : List Frame} {s : State} {args : Array Value} {H : Heap} {locs : List Loc} {cells slots : Nat} {v : Option Value} {G G0 : cx_G} {Post : cx_R → cx_G → Prop} (h1 : cx_H k G H) (h2 : va_S (cx_A k) s.heap H locs) (h4 : G0.2.1 + cells = G.2.1) (h5 : G0.2.2 + slots = G.2.2) (hp : Post (.inl v) G) :
    ∀ t, MQ below (fun _ _ o t => o = .returned v ∧ t.heap = H) args s cells slots (cx_A k) t → cx_Q k below s G0 Post t := by
  rintro t ⟨o, q1, q2, ⟨rfl, q3⟩, L, ⟨-, q4, q5⟩, q6⟩
  exact ⟨.inl v, G, L, cells, slots, q1, q2, hp, by rw [q3]; exact h1, h2.F q3, h4, h5, q4, q5, q6⟩
section CXC
variable {E : cx_E} {k : cx_K} {l : Launch} {fr : Nat} {M : cx_M} {G0 : cx_G} {Post : cx_R → cx_G → Prop} {pc : Nat} {lv : cx_L} {st : List Value} {G : cx_G}
theorem cx_iret {v : Int32} {ty : FieldType} (hE : cx_C E k l fr M G0 Post) (hd : decode M.2.1 pc = .ok (.ireturn, 1)) (hr : M.2.2.2.1 = some ty) (hn : narrow ty (.int v) = .int v) (hp : Post (.inl (some (.int v))) G) : cx_V E pc lv [.int v] G := by
  obtain ⟨k', ⟨p, l', e, R, s, m, args, below, meth, c⟩, nL', fr', c0, s0, Q⟩ := E
  obtain ⟨hx, hb, hml, rfl, hown, hSt, rfl, -, -, -, -, -, -, hret, hlk, -, -, -, -, rfl, rfl, rfl⟩ := hE
  intro H locs ls cells slots h1 h2 h3 h4 h5
  exact cx_Wm (W.zret hx hb (hret.trans hr) hn (fun t ht hW => ⟨rfl, ht⟩) h2.2.2 hd hlk) (cx_ends h1 h2 h4 h5 hp)
theorem cx_lret {v : Int64} (hE : cx_C E k l fr M G0 Post) (hd : decode M.2.1 pc = .ok (.lreturn, 1)) (hr : M.2.2.2.1 = some .long) (hp : Post (.inl (some (.long v))) G) : cx_V E pc lv [.long v] G := by
  obtain ⟨k', ⟨p, l', e, R, s, m, args, below, meth, c⟩, nL', fr', c0, s0, Q⟩ := E
  obtain ⟨hx, hb, hml, rfl, hown, hSt, rfl, -, -, -, -, -, -, hret, hlk, -, -, -, -, rfl, rfl, rfl⟩ := hE
  intro H locs ls cells slots h1 h2 h3 h4 h5
  exact cx_Wm (W.lret hx hb (hret.trans hr) (fun t ht hW => ⟨rfl, ht⟩) h2.2.2 hd hlk) (cx_ends h1 h2 h4 h5 hp)
theorem cx_vret (hE : cx_C E k l fr M G0 Post) (hd : decode M.2.1 pc = .ok (.return_, 1)) (hr : M.2.2.2.1 = none) (hp : Post (.inl none) G) : cx_V E pc lv [] G := by
  obtain ⟨k', ⟨p, l', e, R, s, m, args, below, meth, c⟩, nL', fr', c0, s0, Q⟩ := E
  obtain ⟨hx, hb, hml, rfl, hown, hSt, rfl, -, -, -, -, -, -, hret, hlk, -, -, -, -, rfl, rfl, rfl⟩ := hE
  intro H locs ls cells slots h1 h2 h3 h4 h5
  exact cx_Wm (W.vret hx hb (hret.trans hr) (fun t ht hW => ⟨rfl, ht⟩) h2.2.2 hd hlk) (cx_ends h1 h2 h4 h5 hp)
theorem cx_aret {r : Option Nat} {rt : FieldType} (hE : cx_C E k l fr M G0 Post) (hd : decode M.2.1 pc = .ok (.areturn, 1)) (hr : M.2.2.2.1 = some rt) (hrt : (∃ n, rt = .object n) ∨ ∃ t, rt = .array t) (hp : Post (.inl (some (va_rf r))) G) : cx_V E pc lv [va_rf r] G := by
  obtain ⟨k', ⟨p, l', e, R, s, m, args, below, meth, c⟩, nL', fr', c0, s0, Q⟩ := E
  obtain ⟨hx, hb, hml, rfl, hown, hSt, rfl, -, -, -, -, -, -, hret, hlk, -, -, -, -, rfl, rfl, rfl⟩ := hE
  intro H locs ls cells slots h1 h2 h3 h4 h5
  exact cx_Wm (W.aret hx hb (hret.trans hr) hrt (by cases r with | none => exact Or.inl rfl | some a => exact Or.inr ⟨a, rfl⟩) (fun t ht hW => ⟨rfl, ht⟩) h2.2.2 hd hlk) (cx_ends h1 h2 h4 h5 hp)
theorem cx_athrow {a : Nat} (hE : cx_C E k l fr M G0 Post) (hd : decode M.2.1 pc = .ok (.athrow, 1)) (h : cx_T E pc lv a G) : cx_V E pc lv (.ref a :: st) G := by
  obtain ⟨k', ⟨p, l', e, R, s, m, args, below, meth, c⟩, nL', fr', c0, s0, Q⟩ := E
  obtain ⟨hx, hb, -⟩ := hE
  intro H locs ls cells slots h1 h2 h3 h4 h5 T hT X
  obtain ⟨t, a1, b1⟩ := h H locs ls cells slots st h1 h2 h3 h4 h5 T hT X
  refine ⟨t, ?_, b1⟩
  jvm_step X.here [hx, hb, hd, athrow.wp_sem]
  exact a1
theorem cx_T.out {a : Nat} (hE : cx_C E k l fr M G0 Post) (hh : M.2.2.2.2.1 = []) (hp : Post (.inr a) G) : cx_T E pc lv a G := by
  obtain ⟨k', ⟨p, l', e, R, s, m, args, below, meth, c⟩, nL', fr', c0, s0, Q⟩ := E
  obtain ⟨hx, hb, hml, rfl, hown, hSt, rfl, -, -, -, -, -, -, hret, hlk, -, hex, -, -, rfl, rfl, rfl⟩ := hE
  intro H locs ls cells slots st h1 h2 h3 h4 h5 T hT X
  have hnil : c.exceptionTable.toList = [] := List.map_eq_nil_iff.mp (hex.trans hh)
  obtain ⟨hw, hrun, hend, hwarm, hsame⟩ := X.leaveThrown a (g := F0 m pc ls st) rfl rfl rfl (by rw [hnil]; intro x hx9; cases hx9) hlk
  exact ⟨_, hw, .inr a, G, locs, cells, slots, hrun, hend, hp, by rw [show (T.setFrames (.throwing a :: below)).heap = H from hT]; exact h1, h2.F hT, h4, h5, hwarm, hsame, h2.2.2⟩
end CXC
theorem cx_weaken {tb : Tables} {e : Env} {g : Frame} {below : List Frame} {a b : State} (h : Steps tb e (g :: below) a b) : Steps tb e below a b := Steps.weaken (mid := [g]) h
theorem cx_entry {bs : List Bool} {av : List Value} {n : Nat} (hc : av.map (fun v => v.category) = bs.map cx_cat) (hw : (bs.map cx_cat).sum ≤ n) : cx_has ((lg_sl av ++ List.replicate (n - (lg_sl av).length) Slot.unset).toArray) n (cx_args 0 bs av) := by
  have hlen : ∀ (vs : List Value), (lg_sl vs).length = (vs.map (fun v => v.category)).sum := by
    intro vs
    induction vs with
    | nil => rfl
    | cons v vs ih =>
      show ((if v.category = 2 then [Slot.val v, Slot.second] else [Slot.val v]) ++ lg_sl vs).length = _
      rw [List.length_append, ih, List.map_cons, List.sum_cons]
      rcases lv_cat v with h | h <;> rw [h] <;> simp
  have hmap : ∀ (i : Nat) (bs : List Bool) (vs : List Value), vs.map (fun v => v.category) = bs.map cx_cat → (cx_args i bs vs).map cx_f = lv_args i vs := by
    intro i bs
    induction bs generalizing i with
    | nil =>
      intro vs h
      cases vs with
      | nil => rfl
      | cons v vs => cases h
    | cons b bs ih =>
      intro vs h
      cases vs with
      | nil => cases h
      | cons v vs =>
        rw [List.map_cons, List.map_cons] at h
        injection h with h1 h2
        show (i, v) :: (cx_args (i + cx_cat b) bs vs).map cx_f = (i, v) :: lv_args (if v.category = 2 then i + 2 else i + 1) vs
        rw [ih _ vs h2, h1]
        cases b <;> rfl
  have hcat : ∀ (i : Nat) (bs : List Bool) (vs : List Value), vs.map (fun v => v.category) = bs.map cx_cat → ∀ q ∈ cx_args i bs vs, q.2.2.category = cx_cat q.2.1 := by
    intro i bs
    induction bs generalizing i with
    | nil =>
      intro vs h q hq
      cases vs with
      | nil => cases hq
      | cons v vs => cases h
    | cons b bs ih =>
      intro vs h q hq
      cases vs with
      | nil => cases hq
      | cons v vs =>
        rw [List.map_cons, List.map_cons] at h
        injection h with h1 h2
        rcases List.mem_cons.mp hq with rfl | hq
        · exact h1
        · exact ih _ vs h2 q hq
  refine ⟨?_, hcat 0 bs av hc⟩
  rw [hmap 0 bs av hc]
  exact lv_entry av (by rw [hlen, hc]; exact hw)
/-- what is known of a method that is called -/
def cx_Kn (s : State) (M : cx_M) (mk : MethodId) (meth : Method) (c : Code) : Prop :=
  s.methodNamed? M.1 = some mk ∧ s.vm.method? mk = some meth ∧ meth.code = some c ∧ c.code = M.2.1 ∧ c.maxLocals = M.2.2.1 ∧ meth.sig.returnType = M.2.2.2.1 ∧ meth.locks = false ∧ c.exceptionTable.toList.map (fun h => (h.startPc, h.endPc, h.handlerPc, h.catchType)) = M.2.2.2.2.1 ∧ parseMethodDescriptor M.1.desc = some meth.sig
/-- the method's word among the tables', its name plain, its locals few, its arguments' words -/
def cx_W (M : cx_M) : Prop := (Cond.code M.1 M.2.1 M.2.2.1 M.2.2.2.1 ∈ lw_tbl ∧ M.2.2.2.2.1 = [] ∨ Cond.codeWith M.1 M.2.1 M.2.2.1 M.2.2.2.1 M.2.2.2.2.1 ∈ lw_tbl) ∧ plainFor M.1 = true ∧ M.2.2.1 ≤ 28 ∧ (M.2.2.2.2.2.map cx_cat).sum ≤ M.2.2.1 ∧
  (M.1.cls ≠ "java/lang/invoke/MethodHandle" ∧ M.1.cls ≠ "java/lang/invoke/VarHandle")
theorem cx_W.kn {k : cx_K} {s : State} {M : cx_M} (h : cx_W M) (hSt : cx_St k s) : ∃ mk meth c, cx_Kn s M mk meth c := by
  obtain ⟨h1, -⟩ := h
  rcases h1 with ⟨h1, h2⟩ | h1
  · have hc := hSt.1 _ h1 rfl #[]
    obtain ⟨mk, hn⟩ := Cond.code_named hc
    obtain ⟨meth, c, q1, q2, q3, q4, q5, q6, q7, q8⟩ := Cond.code_spec hn hc
    refine ⟨mk, meth, c, hn, q1, q2, q3, q4, q5, q6, ?_, q8⟩
    have : c.exceptionTable = #[] := Array.isEmpty_iff.mp q7
    rw [this, h2]
    rfl
  · have hc := hSt.1 _ h1 rfl #[]
    obtain ⟨mk, meth, c, hn, q1, q2, q3, q4, q5, q6, q7, q8⟩ := Cond.codeWith_spec hc
    exact ⟨mk, meth, c, hn, q1, q2, q3, q4, q6, q7, q5, q8⟩
/-- a call has been made: the callee's contract brings it to its end, and back -/
theorem cx_enter {p : Program} {l : Launch} {e : Env} {R : Room} {s : State} {m : MethodId} {args : Array Value} {below : List Frame} {meth : Method} {c : Code} {T : State} {locs : List Loc} {cells slots : Nat} {k : cx_K} {G : cx_G} (X : Stand p l e R s m args below meth c T locs cells slots) (hx : p.tables.exec = Jvm.exec) (hSt : cx_St k s) (hOd : cx_Od k s s.heap) (hb0 : k.2.2.1 ≤ s.heap.size) (hH : cx_H k G T.heap) (hS : va_S (cx_A k) s.heap T.heap locs)
    {g : JFrame} (hg : g.method = m) (hsize : g.locals.size = c.maxLocals) {ig : Instr} (hdg : decode c.code g.pc = .ok (ig, 3)) {M' : cx_M} (hM : cx_W M') {mk : MethodId} {methk : Method} {ck : Code} (hkn : cx_Kn s M' mk methk ck)
    {fr' : Nat} (hfr : fr' + 1 ≤ R.frames) (hlo : 2 * g.monitorRoom + (g.stack.map fun v => v.category).sum + (M'.2.2.1 + 11) + 48 * fr' ≤ R.locals) (hc : cells + (room_1.cells - G.2.1) ≤ R.cells) (hs : slots + (room_1.slots - G.2.2) ≤ R.slots)
    {av : List Value} (hav : av.map (fun v => v.category) = M'.2.2.2.2.2.map cx_cat) {Post' : cx_R → cx_G → Prop} (hSp : cx_Sp k l M' fr' av G Post') :
    ∃ (r : cx_R) (G' : cx_G) (T' : State) (L : List Loc) (k1 n1 : Nat), Post' r G' ∧ Stand p l e R s m args below meth c T' (locs ++ L) (cells + k1) (slots + n1) ∧ cx_H k G' T'.heap ∧ va_S (cx_A k) s.heap T'.heap (locs ++ L) ∧ G.2.1 + k1 = G'.2.1 ∧ G.2.2 + n1 = G'.2.2 ∧
      ∀ acts, match r with
        | .inl v => Steps p.tables e below (doInvoke e (T.setTop g) acts mk av.toArray).1 (T'.setTop { g with pc := g.pc + 3, stack := v.toList ++ g.stack })
        | .inr x => Steps p.tables e below (doInvoke e (T.setTop g) acts mk av.toArray).1 ((T'.setTop g).pushFrame (.throwing x)) := by
  obtain ⟨hn, hmk, hck, hbk, hlk, hrk, hlock, hexk, hsig⟩ := hkn
  obtain ⟨-, hpl, hl28, hwd, hnmh⟩ := hM
  have hmk' : T.vm.method? mk = some methk := by rw [X.warmed.alike.method?]; exact hmk
  have hpk : T.plainMethod mk := State.plainMethod.of_named hpl (X.named hn) hmk'
  obtain ⟨Y, hin⟩ := X.into hg hsize hdg av.toArray (R' := { frames := fr', locals := 48 * fr', cells := room_1.cells - G.2.1, slots := room_1.slots - G.2.2 }) hmk' hck hlock hpk hfr (by rw [hlk]; exact hlo) hc hs
  have hWs : s.WarmedH (T.calling g mk av.toArray).vm := X.warmed
  have hSt' : cx_St k (T.calling g mk av.toArray) := hSt.warm hWs
  have hOd' : cx_Od k (T.calling g mk av.toArray) T.heap := hOd.to hWs.alike hS.2.1
  have hC' : cx_C (k, (p, l, e, { frames := fr', locals := 48 * fr', cells := room_1.cells - G.2.1, slots := room_1.slots - G.2.2 }, T.calling g mk av.toArray, mk, av.toArray, .java g :: below, methk, ck), M'.2.2.1, fr', G.2.1, G.2.2, cx_Q k (.java g :: below) (T.calling g mk av.toArray) G Post') k l fr' M' G Post' := by
    refine ⟨hx, hbk, hlk, rfl, ?_, hSt', rfl, hOd', Nat.le_trans hb0 hS.1, Nat.le_refl _, Nat.le_refl _, ?_, ?_, hrk, hlock, ?_, hexk, rfl, rfl, rfl, rfl, rfl⟩
    · rw [hWs.alike.findClass]
      exact findClass_of_methodNamed hn
    · show room_1.cells ≤ G.2.1 + (room_1.cells - G.2.1); omega
    · show room_1.slots ≤ G.2.2 + (room_1.slots - G.2.2); omega
    · exact (name_of_methodNamed hn hmk).1
  have key := hSp _ hC' T.heap [] ((lg_sl av ++ List.replicate (M'.2.2.1 - (lg_sl av).length) Slot.unset).toArray) 0 0 hH va_S.rf (cx_entry hav hwd) rfl rfl ((T.setTop g).pushFrame (.java (entryFrame mk av.toArray ck.maxLocals))) rfl Y
  obtain ⟨t, hst, r, G', L, k1, n1, q1, q2, q3, q4, q5, q6, q7, q8, q9, q10⟩ := key
  have hst2 : ∀ acts, Steps p.tables e below (doInvoke e (T.setTop g) acts mk av.toArray).1 t := by
    intro acts
    rw [hin acts, hlk, lg_entry_eq]
    rw [hlk, lg_entry_eq] at hst
    exact cx_weaken hst
  have hS2 : va_S (cx_A k) s.heap t.heap (locs ++ L) := ⟨Nat.le_trans hS.1 q5.1, fun q z1 z2 => (q5.2 q (Nat.lt_of_lt_of_le z1 hS.1) z2).trans (hS.2.1 q z1 z2), fun q hq => by
    rcases List.mem_append.mp hq with z | z
    · exact hS.2.2 q z
    · exact q10 q z⟩
  cases r with
  | inl v =>
    obtain ⟨T', X', -, -, ht⟩ := X.outOf hg hdg (mk := mk) (a := av.toArray) q2 q8 q9
    have hh : t.heap = T'.heap := by rw [ht]; rfl
    refine ⟨.inl v, G', T', L, k1, n1, q3, X', by rw [← hh]; exact q4, by rw [← hh]; exact hS2, q6, q7, fun acts => ?_⟩
    have := hst2 acts
    rw [ht] at this
    exact this
  | inr x =>
    obtain ⟨T', X', -, -, ht⟩ := X.outOfThrown hg (mk := mk) (a := av.toArray) q2 q8 q9
    have hh : t.heap = T'.heap := by rw [ht]; rfl
    refine ⟨.inr x, G', T', L, k1, n1, q3, X', by rw [← hh]; exact q4, by rw [← hh]; exact hS2, q6, q7, fun acts => ?_⟩
    have := hst2 acts
    rw [ht] at this
    exact this
/-- links: the entry idx of own's pool is method M: static, virtual on objects of class ci, special -/
def cx_lnk (own : String) (idx : Nat) (y : MethodName) : Prop := Cond.methodLink own idx y ∈ lw_tbl ∨ ∃ host, Cond.methodLinkNest own idx y host ∈ lw_tbl
def cx_LS (own : String) (idx : Nat) (M : cx_M) : Prop := cx_lnk own idx M.1 ∧ cx_W M ∧ Cond.static M.1 ∈ lw_tbl ∧ Cond.initialized M.1.cls ∈ lw_tbl
def cx_LV (own : String) (idx ci : Nat) (M : cx_M) : Prop := cx_lnk own idx M.1 ∧ cx_W M ∧ Cond.instanceMethod M.1 ∈ lw_tbl ∧ ∃ r : vw_C, classes[ci]? = some r ∧ Cond.selects r.1 M.1 M.1 ∈ lw_tbl
def cx_LI (own : String) (idx : Nat) (M : cx_M) : Prop := cx_lnk own idx M.1 ∧ cx_W M ∧ Cond.instanceMethod M.1 ∈ lw_tbl ∧ M.1.name = "<init>" ∧ M.2.2.2.1 = none ∧ M.2.2.2.2.1 = [] ∧ Cond.code M.1 M.2.1 M.2.2.1 none ∈ lw_tbl
section CXI
variable {E : cx_E} {k : cx_K} {l : Launch} {fr : Nat} {M : cx_M} {G0 : cx_G} {Post : cx_R → cx_G → Prop} {pc : Nat} {lv : cx_L} {st stk : List Value} {G : cx_G} {Post' : cx_R → cx_G → Prop} {fr' : Nat} {M' : cx_M} {idx : Nat} {av : List Value}
theorem cx_invS (hE : cx_C E k l fr M G0 Post) (hd : decode M.2.1 pc = .ok (.invokestatic idx, 3)) (hL : cx_LS M.1.cls idx M') (hSp : cx_Sp k l M' fr' av G Post') (hs : stk = av.reverse ++ st) (hfr : fr' + 1 ≤ fr) (hw : (st.map fun v => v.category).sum ≤ 8) (hn : (parseMethodDescriptor M'.1.desc).map (fun d => d.parameters.length) = some av.length) (hav : av.map (fun v => v.category) = M'.2.2.2.2.2.map cx_cat)
    (hr : ∀ v G', Post' (.inl v) G' → cx_V E (pc + 3) lv (v.toList ++ st) G') (ht : ∀ a G', Post' (.inr a) G' → cx_T E pc lv a G') : cx_V E pc lv stk G := by
  subst hs
  obtain ⟨k', ⟨p, l', e, R, s, m, args, below, meth, c⟩, nL', fr0, c0, s0, Q⟩ := E
  obtain ⟨hx, hb, hml, rfl, hown, hSt, rfl, hOd, hb0, hRf, hRl, hrc, hrs, hret, hlk, -, -, rfl, rfl, rfl, rfl, rfl⟩ := hE
  intro H locs ls cells slots h1 h2 h3 h4 h5 T hT X
  obtain ⟨hl, hW, hst, hini⟩ := hL
  obtain ⟨mk, methM, cM, hkn⟩ := hW.kn hSt
  have hnamed := hkn.1
  have hmethM := hkn.2.1
  have hsig := hkn.2.2.2.2.2.2.2.2
  have hstatic : methM.isStatic = true := Cond.static_spec hnamed hmethM (hSt.1 _ hst rfl args)
  obtain ⟨kP, hkP, -⟩ := className_of_methodNamed hnamed
  have hinitP : kP.init = .initialized := Cond.initialized_spec (findClass_of_methodNamed hnamed) hkP (hSt.1 _ hini rfl args)
  have hlen : av.length = methM.sig.parameters.length := by rw [hsig] at hn; exact (Option.some.inj hn).symm
  have hdg : decode c.code pc = .ok (.invokestatic idx, 3) := by rw [hb]; exact hd
  have hgo : ∃ vm', Stand p l' e R s m args below meth c (T.setVm vm') locs cells slots ∧ ∀ target, (∀ acts, Steps p.tables e below (doInvoke e ((T.setVm vm').setTop (F0 m pc ls st)) acts mk av.toArray).1 target) → Steps p.tables e below (T.setTop (F0 m pc ls (av.reverse ++ st))) target := by
    rcases hl with hl | ⟨host, hl⟩
    · exact X.invokestatic hx hown (hSt.1 _ hl rfl args) hnamed hmethM hstatic hkP hinitP hW.2.2.2.2 (g := F0 m pc ls (av.reverse ++ st)) rfl hlen rfl hdg
    · exact X.invokestaticNest hx hown (hSt.1 _ hl rfl args) hnamed hmethM hstatic hkP hinitP hW.2.2.2.2 (g := F0 m pc ls (av.reverse ++ st)) rfl hlen rfl hdg
  obtain ⟨vm', X₁, hstep⟩ := hgo
  have h28 := hW.2.2.1
  have hm0 : 2 * (F0 m pc ls st).monitorRoom + (st.map fun v => v.category).sum ≤ 8 := lv_room hw
  obtain ⟨r, G', T', L, k1, n1, w1, w2, w3, w4, w5, w6, w7⟩ := cx_enter (g := F0 m pc ls st) (G := G) X₁ hx hSt hOd hb0 (by show cx_H k' G T.heap; rw [hT]; exact h1) (by show va_S (cx_A k') s.heap T.heap locs; rw [hT]; exact h2) rfl (by rw [hml]; exact h3.1.1) hdg hW hkn (fr' := fr') (by omega) (by show 2 * (F0 m pc ls st).monitorRoom + (st.map fun v => v.category).sum + _ + _ ≤ _; omega) (by have := h1.1; omega) (by have := h1.2.1; omega) hav hSp
  cases r with
  | inl v =>
    obtain ⟨t, a1, b1⟩ := hr v G' w1 T'.heap (locs ++ L) ls (cells + k1) (slots + n1) w3 w4 h3 (by omega) (by omega) T' rfl w2
    exact ⟨t, hstep t (fun acts => (w7 acts).trans a1), b1⟩
  | inr x =>
    obtain ⟨t, a1, b1⟩ := ht x G' w1 T'.heap (locs ++ L) ls (cells + k1) (slots + n1) st w3 w4 h3 (by omega) (by omega) T' rfl w2
    exact ⟨t, hstep t (fun acts => (w7 acts).trans a1), b1⟩
theorem cx_invV {ci a : Nat} {fs : List Value} (hE : cx_C E k l fr M G0 Post) (hd : decode M.2.1 pc = .ok (.invokevirtual idx, 3)) (hL : cx_LV M.1.cls idx ci M') (hG : G.1 a = some (.inr (ci, fs))) (hSp : cx_Sp k l M' fr' (.ref a :: av) G Post') (hs : stk = av.reverse ++ .ref a :: st) (hfr : fr' + 1 ≤ fr) (hw : (st.map fun v => v.category).sum ≤ 8) (hn : (parseMethodDescriptor M'.1.desc).map (fun d => d.parameters.length) = some av.length) (hav : (Value.ref a :: av).map (fun v => v.category) = M'.2.2.2.2.2.map cx_cat)
    (hr : ∀ v G', Post' (.inl v) G' → cx_V E (pc + 3) lv (v.toList ++ st) G') (ht : ∀ a G', Post' (.inr a) G' → cx_T E pc lv a G') : cx_V E pc lv stk G := by
  subst hs
  obtain ⟨k', ⟨p, l', e, R, s, m, args, below, meth, c⟩, nL', fr0, c0, s0, Q⟩ := E
  obtain ⟨hx, hb, hml, rfl, hown, hSt, rfl, hOd, hb0, hRf, hRl, hrc, hrs, hret, hlk, -, -, rfl, rfl, rfl, rfl, rfl⟩ := hE
  intro H locs ls cells slots h1 h2 h3 h4 h5 T hT X
  obtain ⟨hl, hW, hin9, rc, hrc9, hsel⟩ := hL
  obtain ⟨mk, methM, cM, hkn⟩ := hW.kn hSt
  have hnamed := hkn.1
  have hmethM := hkn.2.1
  have hsig := hkn.2.2.2.2.2.2.2.2
  obtain ⟨mk2, methM2, hn2, hm2, hstM, habM⟩ := Cond.instanceMethod_spec (hSt.1 _ hin9 rfl args)
  cases hnamed.symm.trans hn2
  cases hmethM.symm.trans hm2
  obtain ⟨ws, q0, hP, hD, -, hq⟩ := h1.look hG
  obtain ⟨cellB, hcB, hoB, hclB⟩ := va_recv hSt.2.1 hP hrc9 hq
  obtain ⟨c2, r2, m2, z1, z2, z3, z4, kP, hkP, hkPi⟩ := Cond.selects_spec (hSt.1 _ hsel rfl args)
  cases hclB.symm.trans z1
  cases (State.methodFound?_of_named hnamed hW.2.2.2.2).symm.trans z2
  cases hnamed.symm.trans z3
  have hselP : selectMethod e.platform s.vm cellB.cls mk = .method mk := by rw [Launch.admits_selectMethod X.admits]; exact z4
  have hlen : av.length = methM.sig.parameters.length := by rw [hsig] at hn; exact (Option.some.inj hn).symm
  have hdg : decode c.code pc = .ok (.invokevirtual idx, 3) := by rw [hb]; exact hd
  have hcT : T.heap[a]? = some cellB := by rw [hT]; exact hcB
  have hgo : ∃ vm', Stand p l' e R s m args below meth c (T.setVm vm') locs cells slots ∧ ∀ target, (∀ acts, Steps p.tables e below (doInvoke e ((T.setVm vm').setTop (F0 m pc ls st)) acts mk (Value.ref a :: av).toArray).1 target) → Steps p.tables e below (T.setTop (F0 m pc ls (av.reverse ++ .ref a :: st))) target := by
    rcases hl with hl | ⟨host, hl⟩
    · exact X.invokevirtual hx hown (hSt.1 _ hl rfl args) hnamed hmethM hstM hkP hkPi hW.2.2.2.2 (a := a) (cell := cellB) hcT (fun z h => by rw [h] at hoB; cases hoB) hselP hmethM habM hkP hkPi (g := F0 m pc ls (av.reverse ++ .ref a :: st)) rfl (argsL := av) (rest := st) hlen rfl hdg
    · exact X.invokevirtualNest hx hown (hSt.1 _ hl rfl args) hnamed hmethM hstM hkP hkPi hW.2.2.2.2 (a := a) (cell := cellB) hcT (fun z h => by rw [h] at hoB; cases hoB) hselP hmethM habM hkP hkPi (g := F0 m pc ls (av.reverse ++ .ref a :: st)) rfl (argsL := av) (rest := st) hlen rfl hdg
  obtain ⟨vm', X₁, hstep⟩ := hgo
  have h28 := hW.2.2.1
  have hm0 : 2 * (F0 m pc ls st).monitorRoom + (st.map fun v => v.category).sum ≤ 8 := lv_room hw
  obtain ⟨r, G', T', L, k1, n1, w1, w2, w3, w4, w5, w6, w7⟩ := cx_enter (g := F0 m pc ls st) (G := G) X₁ hx hSt hOd hb0 (by show cx_H k' G T.heap; rw [hT]; exact h1) (by show va_S (cx_A k') s.heap T.heap locs; rw [hT]; exact h2) rfl (by rw [hml]; exact h3.1.1) hdg hW hkn (fr' := fr') (by omega) (by show 2 * (F0 m pc ls st).monitorRoom + (st.map fun v => v.category).sum + _ + _ ≤ _; omega) (by have := h1.1; omega) (by have := h1.2.1; omega) hav hSp
  cases r with
  | inl v =>
    obtain ⟨t, a1, b1⟩ := hr v G' w1 T'.heap (locs ++ L) ls (cells + k1) (slots + n1) w3 w4 h3 (by omega) (by omega) T' rfl w2
    exact ⟨t, hstep t (fun acts => (w7 acts).trans a1), b1⟩
  | inr x =>
    obtain ⟨t, a1, b1⟩ := ht x G' w1 T'.heap (locs ++ L) ls (cells + k1) (slots + n1) st w3 w4 h3 (by omega) (by omega) T' rfl w2
    exact ⟨t, hstep t (fun acts => (w7 acts).trans a1), b1⟩
theorem cx_invI {a : Nat} (hE : cx_C E k l fr M G0 Post) (hd : decode M.2.1 pc = .ok (.invokespecial idx, 3)) (hL : cx_LI M.1.cls idx M') (hSp : cx_Sp k l M' fr' (.ref a :: av) G Post') (hs : stk = av.reverse ++ .ref a :: st) (hfr : fr' + 1 ≤ fr) (hw : (st.map fun v => v.category).sum ≤ 8) (hn : (parseMethodDescriptor M'.1.desc).map (fun d => d.parameters.length) = some av.length) (hav : (Value.ref a :: av).map (fun v => v.category) = M'.2.2.2.2.2.map cx_cat)
    (hr : ∀ v G', Post' (.inl v) G' → cx_V E (pc + 3) lv (v.toList ++ st) G') (ht : ∀ a G', Post' (.inr a) G' → cx_T E pc lv a G') : cx_V E pc lv stk G := by
  subst hs
  obtain ⟨k', ⟨p, l', e, R, s, m, args, below, meth, c⟩, nL', fr0, c0, s0, Q⟩ := E
  obtain ⟨hx, hb, hml, rfl, hown, hSt, rfl, hOd, hb0, hRf, hRl, hrc, hrs, hret, hlk, -, -, rfl, rfl, rfl, rfl, rfl⟩ := hE
  intro H locs ls cells slots h1 h2 h3 h4 h5 T hT X
  obtain ⟨hl, hW, hin9, hy1, hrn, hhn, hcd⟩ := hL
  obtain ⟨mk, methM, cM, hkn⟩ := hW.kn hSt
  have hnamed := hkn.1
  have hlen : ∀ sig, parseMethodDescriptor M'.1.desc = some sig → av.length = sig.parameters.length := fun sig h => by rw [h] at hn; exact (Option.some.inj hn).symm
  have hdg : decode c.code pc = .ok (.invokespecial idx, 3) := by rw [hb]; exact hd
  have hpl : e.platform.magicAccessors = ({} : Platform).magicAccessors := by rw [X.admits.platform]
  have hgo : ∃ vm', Stand p l' e R s m args below meth c (T.setVm vm') locs cells slots ∧ ∀ target, (∀ acts, Steps p.tables e below (doInvoke e ((T.setVm vm').setTop (F0 m pc ls st)) acts mk (Value.ref a :: av).toArray).1 target) → Steps p.tables e below (T.setTop (F0 m pc ls (av.reverse ++ .ref a :: st))) target := by
    rcases hl with hl | ⟨host, hl⟩
    · obtain ⟨mk2, methM2, cM2, kP, vm₁, hn2, -, -, -, -, -, -, -, hW₁, hstep₁⟩ := Steps.initColdArgs (e := e) X.here hx X.warmed hpl hown hy1 hW.2.2.2.2 (hSt.1 _ hl rfl args) (hSt.1 _ hin9 rfl args) (hSt.1 _ hcd rfl args) (f := F0 m pc ls (av.reverse ++ .ref a :: st)) rfl hlen rfl hdg
      cases hnamed.symm.trans hn2
      exact ⟨vm₁, X.noted hW₁, hstep₁⟩
    · obtain ⟨mk2, methM2, cM2, kP, vm₁, hn2, -, -, -, -, -, -, -, hW₁, hstep₁⟩ := Steps.initColdArgsNest (e := e) X.here hx X.warmed hpl hown hy1 hW.2.2.2.2 (hSt.1 _ hl rfl args) (hSt.1 _ hin9 rfl args) (hSt.1 _ hcd rfl args) (f := F0 m pc ls (av.reverse ++ .ref a :: st)) rfl hlen rfl hdg
      cases hnamed.symm.trans hn2
      exact ⟨vm₁, X.noted hW₁, hstep₁⟩
  obtain ⟨vm', X₁, hstep⟩ := hgo
  have h28 := hW.2.2.1
  have hm0 : 2 * (F0 m pc ls st).monitorRoom + (st.map fun v => v.category).sum ≤ 8 := lv_room hw
  obtain ⟨r, G', T', L, k1, n1, w1, w2, w3, w4, w5, w6, w7⟩ := cx_enter (g := F0 m pc ls st) (G := G) X₁ hx hSt hOd hb0 (by show cx_H k' G T.heap; rw [hT]; exact h1) (by show va_S (cx_A k') s.heap T.heap locs; rw [hT]; exact h2) rfl (by rw [hml]; exact h3.1.1) hdg hW hkn (fr' := fr') (by omega) (by show 2 * (F0 m pc ls st).monitorRoom + (st.map fun v => v.category).sum + _ + _ ≤ _; omega) (by have := h1.1; omega) (by have := h1.2.1; omega) hav hSp
  cases r with
  | inl v =>
    obtain ⟨t, a1, b1⟩ := hr v G' w1 T'.heap (locs ++ L) ls (cells + k1) (slots + n1) w3 w4 h3 (by omega) (by omega) T' rfl w2
    exact ⟨t, hstep t (fun acts => (w7 acts).trans a1), b1⟩
  | inr x =>
    obtain ⟨t, a1, b1⟩ := ht x G' w1 T'.heap (locs ++ L) ls (cells + k1) (slots + n1) st w3 w4 h3 (by omega) (by omega) T' rfl w2
    exact ⟨t, hstep t (fun acts => (w7 acts).trans a1), b1⟩
end CXI

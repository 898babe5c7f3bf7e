/-! THE GHOST HEAP: what each cell holds, as a function of its address; how many cells and slots have been made. A judgement over it (cx_V), a contract over it (cx_Sp: it returns, or it throws), and a row an instruction. -/
abbrev cx_G : Type := (Nat → Option va_E) × Nat × Nat
abbrev cx_Z : Type := Program × Launch × Env × Room × State × MethodId × Array Value × List Frame × Method × Code
/-- a method's outcome: it returned, or it threw -/
abbrev cx_R : Type := Option Value ⊕ Nat
def cx_o : cx_R → Outcome
  | .inl v => .returned v
  | .inr a => .threw a
def cx_put (G : cx_G) (a : Nat) (e : va_E) : cx_G := (fun j => if j = a then some e else G.1 j, G.2.1, G.2.2)
def cx_mk (G : cx_G) (a : Nat) (e : va_E) (n : Nat) : cx_G := (fun j => if j = a then some e else G.1 j, G.2.1 + 1, G.2.2 + n)
def cx_H (k : cx_K) (G : cx_G) (H : Heap) : Prop := G.2.1 ≤ room_1.cells ∧ G.2.2 ≤ room_1.slots ∧ ∃ ws : va_W, va_P k.1 classes ws H ∧ va_D (cx_A k) ws ∧ ∀ (a : Nat) (e : va_E), G.1 a = some e ↔ ∃ i : Nat, ws[i]? = some (a, e)
/-- words that stay true under warmer tables -/
def cx_nw : Cond → Bool
  | .arrayClass _ => true
  | .fieldLinkNest .. => true
  | .methodLinkNest .. => true
  | .castable .. => true
  | .arrayOver (.object _) => true
  | .declares _ => true
  | _ => false
def cx_ok (w : Cond) : Bool := (w.onTables && w.keeps) || cx_nw w
theorem cx_nw_c {w : Cond} (h : cx_nw w = true) : (∃ t, w = .arrayClass t) ∨ (∃ a i b n d h, w = .fieldLinkNest a i b n d h) ∨ (∃ a i x h, w = .methodLinkNest a i x h) ∨ (∃ a b, w = .castable a b) ∨ (∃ C, w = .arrayOver (.object C)) ∨ (∃ x, w = .declares x) := by
  unfold cx_nw at h
  split at h
  · exact Or.inl ⟨_, rfl⟩
  · exact Or.inr (Or.inl ⟨_, _, _, _, _, _, rfl⟩)
  · exact Or.inr (Or.inr (Or.inl ⟨_, _, _, _, rfl⟩))
  · exact Or.inr (Or.inr (Or.inr (Or.inl ⟨_, _, rfl⟩)))
  · exact Or.inr (Or.inr (Or.inr (Or.inr (Or.inl ⟨_, rfl⟩))))
  · exact Or.inr (Or.inr (Or.inr (Or.inr (Or.inr ⟨_, rfl⟩))))
  · cases h
theorem cx_warm {w : Cond} (h : cx_ok w = true) {s U : State} {a a' : Array Value} (hW : s.WarmedH U.vm) (hq : w.before a s = true) : w.before a' U = true := by
  by_cases hk : (w.onTables && w.keeps) = true
  · exact word_at hW (Or.inl hk) hq
  · have h2 : cx_nw w = true := by
      unfold cx_ok at h
      rw [Bool.or_eq_true] at h
      rcases h with h | h
      · exact absurd h hk
      · exact h
    rcases cx_nw_c h2 with ⟨t, rfl⟩ | ⟨x1, x2, x3, x4, x5, x6, rfl⟩ | ⟨x1, x2, x3, x4, rfl⟩ | ⟨x1, x2, rfl⟩ | ⟨x1, rfl⟩ | ⟨x1, rfl⟩
    · exact word_at hW (Or.inr ⟨_, rfl⟩) hq
    · exact va_Nw.use rfl (va_Nw.warmF hW (va_Nw.of rfl hq))
    · exact va_Nw.use rfl (va_Nw.warmM hW (va_Nw.of rfl hq))
    · exact va_Nw.use rfl (va_Nw.warmC hW (va_Nw.of rfl hq))
    · exact (va_AO.moved hW.alike (va_AO.of hq)).use
    · exact va_Nw.use rfl (va_Nw.warmD hW (va_Nw.of rfl hq))
/-- what stays true of the tables -/
def cx_St (k : cx_K) (U : State) : Prop := (∀ w ∈ lw_tbl, cx_ok w = true → ∀ a : Array Value, w.before a U = true) ∧ va_K k.1 classes (cx_tys k) U ∧ cx_Xt k U
theorem cx_St.warm {k : cx_K} {s U : State} (hW : s.WarmedH U.vm) (h : cx_St k s) : cx_St k U :=
  ⟨fun w hw ho a => cx_warm ho (a := #[]) hW (h.1 w hw ho #[]), va_K.moved hW.alike h.2.1, cx_Xt.warm hW h.2.2⟩
/-- where a walk stands: constants, machine, its locals' number, frames that it may use, cells and slots made before it, its goal -/
abbrev cx_E : Type := cx_K × cx_Z × Nat × Nat × Nat × Nat × (State → Prop)
/-- locals: place, whether it is of two words, value -/
abbrev cx_L : Type := List (Nat × Bool × Value)
def cx_f (q : Nat × Bool × Value) : Nat × Value := (q.1, q.2.2)
def cx_cat (b : Bool) : Nat := match b with | true => 2 | false => 1
def cx_has (ls : Array Slot) (nL : Nat) (lv : cx_L) : Prop := lv_has ls nL (lv.map cx_f) ∧ ∀ q ∈ lv, q.2.2.category = cx_cat q.2.1
def cx_V (E : cx_E) (pc : Nat) (lv : cx_L) (st : List Value) (G : cx_G) : Prop :=
  match E with
  | (k, (p, l, e, R, s, m, args, below, meth, c), nL, _, c0, s0, Q) =>
    ∀ (H : Heap) (locs : List Loc) (ls : Array Slot) (cells slots : Nat), cx_H k G H → va_S (cx_A k) s.heap H locs → cx_has ls nL lv → c0 + cells = G.2.1 → s0 + slots = G.2.2 →
      W p l e R s m args below meth c H locs cells slots Q (F0 m pc ls st)
/-- an exception a is on its way out of the instruction at pc -/
def cx_T (E : cx_E) (pc : Nat) (lv : cx_L) (a : Nat) (G : cx_G) : Prop :=
  match E with
  | (k, (p, l, e, R, s, m, args, below, meth, c), nL, _, c0, s0, Q) =>
    ∀ (H : Heap) (locs : List Loc) (ls : Array Slot) (cells slots : Nat) (st : List Value), cx_H k G H → va_S (cx_A k) s.heap H locs → cx_has ls nL lv → c0 + cells = G.2.1 → s0 + slots = G.2.2 →
      ∀ T : State, T.heap = H → Stand p l e R s m args below meth c T locs cells slots → ∃ t, Steps p.tables e below ((T.setTop (F0 m pc ls st)).pushFrame (.throwing a)) t ∧ Q t
/-- a method's end -/
def cx_Q (k : cx_K) (below : List Frame) (s : State) (G : cx_G) (Post : cx_R → cx_G → Prop) : State → Prop := fun t =>
  ∃ (r : cx_R) (G' : cx_G) (L : List Loc) (k1 n1 : Nat), t.status = .running ∧ Ended t below (cx_o r) ∧ Post r G' ∧ cx_H k G' t.heap ∧ va_F (cx_A k) s t ∧ G.2.1 + k1 = G'.2.1 ∧ G.2.2 + n1 = G'.2.2 ∧
    s.WarmedH t.vm ∧ s.sameButNew ({ t with vm := s.vm } : State) L k1 n1 ∧ ∀ q ∈ L, cx_A k q.base
/-- a method: its name, its bytes, how many locals, its answer's type, its handlers, which of its arguments are of two words -/
abbrev cx_M : Type := MethodName × ByteArray × Nat × Option FieldType × List (Nat × Nat × Nat × Nat) × List Bool
/-- the arguments as locals -/
def cx_args : Nat → List Bool → List Value → cx_L
  | i, b :: bs, v :: vs => (i, b, v) :: cx_args (i + cx_cat b) bs vs
  | _, _, _ => []
/-- the walk of method M, with constants k, at launch l, with fr frames to use, begun over G0, with the goal Post -/
def cx_C (E : cx_E) (k : cx_K) (l : Launch) (fr : Nat) (M : cx_M) (G0 : cx_G) (Post : cx_R → cx_G → Prop) : Prop :=
  match E with
  | (k', (p, l', _, R, s, m, _, below, meth, c), nL', fr', c0, s0, Q) =>
    p.tables.exec = Jvm.exec ∧ c.code = M.2.1 ∧ c.maxLocals = M.2.2.1 ∧ nL' = M.2.2.1 ∧ s.vm.findClass M.1.cls = some m.cls ∧ cx_St k s ∧ k' = k ∧ cx_Od k s s.heap ∧ k.2.2.1 ≤ s.heap.size ∧ fr ≤ R.frames ∧ 48 * fr ≤ R.locals ∧ room_1.cells ≤ G0.2.1 + R.cells ∧ room_1.slots ≤ G0.2.2 + R.slots ∧
      meth.sig.returnType = M.2.2.2.1 ∧ meth.locks = false ∧ meth.name = M.1.name ∧ c.exceptionTable.toList.map (fun h => (h.startPc, h.endPc, h.handlerPc, h.catchType)) = M.2.2.2.2.1 ∧
      l' = l ∧ fr' = fr ∧ c0 = G0.2.1 ∧ s0 = G0.2.2 ∧ Q = cx_Q k below s G0 Post
/-- THE CONTRACT of a method: with these arguments, over this heap, with so many frames to use: it comes to an end of which Post holds -/
def cx_Sp (k : cx_K) (l : Launch) (M : cx_M) (fr : Nat) (av : List Value) (G : cx_G) (Post : cx_R → cx_G → Prop) : Prop :=
  ∀ E : cx_E, cx_C E k l fr M G Post → cx_V E 0 (cx_args 0 M.2.2.2.2.2 av) [] G
theorem cx_Sp.more {k : cx_K} {l : Launch} {M : cx_M} {fr fr' : Nat} {av : List Value} {G : cx_G} {Post : cx_R → cx_G → Prop} (h : cx_Sp k l M fr av G Post) (hf : fr ≤ fr') : cx_Sp k l M fr' av G Post := by
  intro E hE
  obtain ⟨k1, ⟨p, l1, e, R, s, m, args, below, meth, c⟩, n1, f1, c1, s1, Q⟩ := E
  obtain ⟨h1, h2, h3, h4, h5, h6, rfl, h7, h8, h9, h10, h11, h12, h13, h14, h15, h16, rfl, rfl, rfl, rfl, rfl⟩ := hE
  exact h (k1, (p, l1, e, R, s, m, args, below, meth, c), n1, fr, G.2.1, G.2.2, cx_Q k1 below s G Post) ⟨h1, h2, h3, h4, h5, h6, rfl, h7, h8, by omega, by omega, h11, h12, h13, h14, h15, h16, rfl, rfl, rfl, rfl, rfl⟩
theorem cx_Q.weaken {k : cx_K} {below : List Frame} {s t : State} {G : cx_G} {Post Post' : cx_R → cx_G → Prop} (h : cx_Q k below s G Post t) (hp : ∀ r G', Post r G' → Post' r G') : cx_Q k below s G Post' t := by
  obtain ⟨r, G', L, k1, n1, q1, q2, q3, q4⟩ := h
  exact ⟨r, G', L, k1, n1, q1, q2, hp r G' q3, q4⟩
theorem cx_Sp.weaken {k : cx_K} {l : Launch} {M : cx_M} {fr : Nat} {av : List Value} {G : cx_G} {Post Post' : cx_R → cx_G → Prop} (h : cx_Sp k l M fr av G Post) (hp : ∀ r G', Post r G' → Post' r G') : cx_Sp k l M fr av G Post' := by
  intro E hE
  obtain ⟨k1, ⟨p, l1, e, R, s, m, args, below, meth, c⟩, n1, f1, c1, s1, Q⟩ := E
  obtain ⟨h1, h2, h3, h4, h5, h6, rfl, h7, h8, h9, h10, h11, h12, h13, h14, h15, h16, rfl, rfl, rfl, rfl, rfl⟩ := hE
  have key := h (k1, (p, l1, e, R, s, m, args, below, meth, c), n1, f1, G.2.1, G.2.2, cx_Q k1 below s G Post) ⟨h1, h2, h3, h4, h5, h6, rfl, h7, h8, h9, h10, h11, h12, h13, h14, h15, h16, rfl, rfl, rfl, rfl, rfl⟩
  intro H locs ls cells slots q1 q2 q3 q4 q5 T hT X
  obtain ⟨t, a1, b1⟩ := key H locs ls cells slots q1 q2 q3 q4 q5 T hT X
  exact ⟨t, a1, b1.weaken hp⟩
theorem cx_rf (r : Option Nat) : (va_rf r).isRef = true := by cases r <;> rfl
theorem cx_rfc (r : Option Nat) : (va_rf r).category = 1 := by cases r <;> rfl
/-- the local i -/
def cx_lk : cx_L → Nat → Option Value
  | [], _ => none
  | q :: r, i => match Nat.beq q.1 i with
    | true => some q.2.2
    | false => cx_lk r i
theorem cx_lk_mem {i : Nat} {v : Value} : ∀ {lv : cx_L}, cx_lk lv i = some v → ∃ b, (i, b, v) ∈ lv := by
  intro lv
  induction lv with
  | nil => intro h; cases h
  | cons q r ih =>
    intro h
    unfold cx_lk at h
    cases hq : Nat.beq q.1 i with
    | true =>
      rw [hq] at h
      have e1 : q.1 = i := Nat.eq_of_beq_eq_true hq
      have e2 : q.2.2 = v := Option.some.inj h
      refine ⟨q.2.1, ?_⟩
      rw [← e1, ← e2]
      exact List.mem_cons_self
    | false =>
      rw [hq] at h
      obtain ⟨b, hb⟩ := ih h
      exact ⟨b, List.mem_cons_of_mem _ hb⟩
theorem cx_lkm {lv : cx_L} {i : Nat} {v : Value} (hl : cx_lk lv i = some v) : (i, v) ∈ lv.map cx_f := by
  obtain ⟨b, hb⟩ := cx_lk_mem hl
  exact List.mem_map.mpr ⟨_, hb, rfl⟩
theorem cx_lkh {nL : Nat} {lv : cx_L} {ls : Array Slot} {i : Nat} {v : Value} (h : cx_has ls nL lv) (hl : cx_lk lv i = some v) : ls[i]? = some (.val v) := h.1.2.2 (i, v) (cx_lkm hl)
/-- the locals after a store of one word, and of two -/
def cx_k1 (i : Nat) (q : Nat × Bool × Value) : Bool := !(Nat.beq q.1 i) && !(Nat.beq (q.1 + 1) i && q.2.1)
def cx_k2 (i : Nat) (q : Nat × Bool × Value) : Bool := !(Nat.beq q.1 i) && (!(Nat.beq q.1 (i + 1)) && !(Nat.beq (q.1 + 1) i && q.2.1))
def cx_s1 (lv : cx_L) (i : Nat) (v : Value) : cx_L := (i, false, v) :: lv.filter (cx_k1 i)
def cx_s2 (lv : cx_L) (i : Nat) (v : Value) : cx_L := (i, true, v) :: lv.filter (cx_k2 i)
theorem cx_beqn (a b : Nat) : (a == b) = Nat.beq a b := by
  cases h : Nat.beq a b with
  | true =>
    have e := Nat.eq_of_beq_eq_true h
    subst e
    simp
  | false =>
    have e := Nat.ne_of_beq_eq_false h
    simp [e]
theorem cx_catb (b : Bool) : (cx_cat b == 2) = b := by cases b <;> rfl
theorem cx_fil {f : Nat × Value → Bool} {g : Nat × Bool × Value → Bool} : ∀ {lv : cx_L}, (∀ q ∈ lv, f (cx_f q) = g q) → (lv.map cx_f).filter f = (lv.filter g).map cx_f := by
  intro lv
  induction lv with
  | nil => intro _; rfl
  | cons q r ih =>
    intro h
    have h1 := h q List.mem_cons_self
    have h2 := ih (fun z hz => h z (List.mem_cons_of_mem _ hz))
    rw [List.map_cons, List.filter_cons, List.filter_cons, h1, h2]
    cases g q <;> rfl
theorem cx_has.s1 {nL i : Nat} {lv : cx_L} {ls ls' : Array Slot} {v : Value} (h : cx_has ls nL lv) (hc : v.category = 1) (h' : lv_has ls' nL ((i, v) :: (lv.map cx_f).filter (fun q => !(q.1 == i) && !(q.1 + 1 == i && q.2.category == 2)))) : cx_has ls' nL (cx_s1 lv i v) := by
  refine ⟨?_, ?_⟩
  · rw [cx_fil (g := cx_k1 i) (fun q hq => by show (!(q.1 == i) && !(q.1 + 1 == i && q.2.2.category == 2)) = _; rw [h.2 q hq, cx_catb, cx_beqn, cx_beqn]; rfl)] at h'
    exact h'
  · intro q hq
    rcases List.mem_cons.mp hq with rfl | hq
    · exact hc
    · exact h.2 q (List.mem_filter.mp hq).1
theorem cx_has.s2 {nL i : Nat} {lv : cx_L} {ls ls' : Array Slot} {v : Value} (h : cx_has ls nL lv) (hc : v.category = 2) (h' : lv_has ls' nL ((i, v) :: (lv.map cx_f).filter (fun q => !(q.1 == i) && (!(q.1 == i + 1) && !(q.1 + 1 == i && q.2.category == 2))))) : cx_has ls' nL (cx_s2 lv i v) := by
  refine ⟨?_, ?_⟩
  · rw [cx_fil (g := cx_k2 i) (fun q hq => by show (!(q.1 == i) && (!(q.1 == i + 1) && !(q.1 + 1 == i && q.2.2.category == 2))) = _; rw [h.2 q hq, cx_catb, cx_beqn, cx_beqn, cx_beqn]; rfl)] at h'
    exact h'
  · intro q hq
    rcases List.mem_cons.mp hq with rfl | hq
    · exact hc
    · exact h.2 q (List.mem_filter.mp hq).1
section CXR
variable {E : cx_E} {k : cx_K} {l : Launch} {fr : Nat} {M : cx_M} {G0 : cx_G} {Post : cx_R → cx_G → Prop} {pc : Nat} {lv : cx_L} {st : List Value} {G : cx_G}
theorem cx_iconst {n : Int} {v : Int32} (hE : cx_C E k l fr M G0 Post) (hd : decode M.2.1 pc = .ok (.iconst n, 1)) (hv : Int32.ofInt n = v) (h : cx_V E (pc + 1) lv (.int v :: st) G) : cx_V E pc lv (st) G := by
  obtain ⟨k', ⟨p, l', e, R, s, m, args, below, meth, c⟩, nL', fr', c0, s0, Q⟩ := E
  obtain ⟨hx, hb, hml, rfl, hown, hSt, -⟩ := hE
  intro H locs ls cells slots h1 h2 h3 h4 h5
  exact lv_iconst hx hb hd hv (h H locs ls cells slots h1 h2 h3 h4 h5)
theorem cx_bipush {n : Int} {v : Int32} (hE : cx_C E k l fr M G0 Post) (hd : decode M.2.1 pc = .ok (.bipush n, 2)) (hv : (Int8.ofInt n).toInt32 = v) (h : cx_V E (pc + 2) lv (.int v :: st) G) : cx_V E pc lv (st) G := by
  obtain ⟨k', ⟨p, l', e, R, s, m, args, below, meth, c⟩, nL', fr', c0, s0, Q⟩ := E
  obtain ⟨hx, hb, hml, rfl, hown, hSt, -⟩ := hE
  intro H locs ls cells slots h1 h2 h3 h4 h5
  exact lv_bipush hx hb hd hv (h H locs ls cells slots h1 h2 h3 h4 h5)
theorem cx_sipush {n : Int} {v : Int32} (hE : cx_C E k l fr M G0 Post) (hd : decode M.2.1 pc = .ok (.sipush n, 3)) (hv : (Int16.ofInt n).toInt32 = v) (h : cx_V E (pc + 3) lv (.int v :: st) G) : cx_V E pc lv (st) G := by
  obtain ⟨k', ⟨p, l', e, R, s, m, args, below, meth, c⟩, nL', fr', c0, s0, Q⟩ := E
  obtain ⟨hx, hb, hml, rfl, hown, hSt, -⟩ := hE
  intro H locs ls cells slots h1 h2 h3 h4 h5
  exact lv_sipush hx hb hd hv (h H locs ls cells slots h1 h2 h3 h4 h5)
theorem cx_lconst {n : Fin 2} {v : Int64} (hE : cx_C E k l fr M G0 Post) (hd : decode M.2.1 pc = .ok (.lconst n, 1)) (hv : Int64.ofNat (n : Nat) = v) (h : cx_V E (pc + 1) lv (.long v :: st) G) : cx_V E pc lv (st) G := by
  obtain ⟨k', ⟨p, l', e, R, s, m, args, below, meth, c⟩, nL', fr', c0, s0, Q⟩ := E
  obtain ⟨hx, hb, hml, rfl, hown, hSt, -⟩ := hE
  intro H locs ls cells slots h1 h2 h3 h4 h5
  exact lv_lconst hx hb hd hv (h H locs ls cells slots h1 h2 h3 h4 h5)
theorem cx_null (hE : cx_C E k l fr M G0 Post) (hd : decode M.2.1 pc = .ok (.aconst_null, 1)) (h : cx_V E (pc + 1) lv (.null :: st) G) : cx_V E pc lv (st) G := by
  obtain ⟨k', ⟨p, l', e, R, s, m, args, below, meth, c⟩, nL', fr', c0, s0, Q⟩ := E
  obtain ⟨hx, hb, hml, rfl, hown, hSt, -⟩ := hE
  intro H locs ls cells slots h1 h2 h3 h4 h5
  exact lv_null hx hb hd (h H locs ls cells slots h1 h2 h3 h4 h5)
theorem cx_ldc {index : Nat} {v : Int32} (hE : cx_C E k l fr M G0 Post) (hd : decode M.2.1 pc = .ok (.ldc index, 2)) (hw : Cond.constant M.1.cls index v ∈ lw_tbl) (h : cx_V E (pc + 2) lv (.int v :: st) G) : cx_V E pc lv (st) G := by
  obtain ⟨k', ⟨p, l', e, R, s, m, args, below, meth, c⟩, nL', fr', c0, s0, Q⟩ := E
  obtain ⟨hx, hb, hml, rfl, hown, hSt, -⟩ := hE
  intro H locs ls cells slots h1 h2 h3 h4 h5
  exact lv_ldc hx hb hown (hSt.1 _ hw rfl _) hd (h H locs ls cells slots h1 h2 h3 h4 h5)
theorem cx_ldc2 {index : Nat} {v : Int64} (hE : cx_C E k l fr M G0 Post) (hd : decode M.2.1 pc = .ok (.ldc2_w index, 3)) (hw : Cond.constantLong M.1.cls index v ∈ lw_tbl) (h : cx_V E (pc + 3) lv (.long v :: st) G) : cx_V E pc lv (st) G := by
  obtain ⟨k', ⟨p, l', e, R, s, m, args, below, meth, c⟩, nL', fr', c0, s0, Q⟩ := E
  obtain ⟨hx, hb, hml, rfl, hown, hSt, -⟩ := hE
  intro H locs ls cells slots h1 h2 h3 h4 h5
  exact lv_ldc2 hx hb hown (hSt.1 _ hw rfl _) hd (h H locs ls cells slots h1 h2 h3 h4 h5)
theorem cx_iload_n {j : Fin 4} {i : Nat} {x : Int32} (hE : cx_C E k l fr M G0 Post) (hd : decode M.2.1 pc = .ok (.iload_n j, 1)) (hi : (j : Nat) = i) (hl : cx_lk lv i = some (.int x)) (h : cx_V E (pc + 1) lv (.int x :: st) G) : cx_V E pc lv (st) G := by
  obtain ⟨k', ⟨p, l', e, R, s, m, args, below, meth, c⟩, nL', fr', c0, s0, Q⟩ := E
  obtain ⟨hx, hb, hml, rfl, hown, hSt, -⟩ := hE
  intro H locs ls cells slots h1 h2 h3 h4 h5
  exact lv_iload_n hx hb hd hi (cx_lkh h3 hl) (h H locs ls cells slots h1 h2 h3 h4 h5)
theorem cx_iload {i : Nat} {x : Int32} (hE : cx_C E k l fr M G0 Post) (hd : decode M.2.1 pc = .ok (.iload i, 2)) (hl : cx_lk lv i = some (.int x)) (h : cx_V E (pc + 2) lv (.int x :: st) G) : cx_V E pc lv (st) G := by
  obtain ⟨k', ⟨p, l', e, R, s, m, args, below, meth, c⟩, nL', fr', c0, s0, Q⟩ := E
  obtain ⟨hx, hb, hml, rfl, hown, hSt, -⟩ := hE
  intro H locs ls cells slots h1 h2 h3 h4 h5
  exact lv_iload hx hb hd (cx_lkh h3 hl) (h H locs ls cells slots h1 h2 h3 h4 h5)
theorem cx_lload_n {j : Fin 4} {i : Nat} {x : Int64} (hE : cx_C E k l fr M G0 Post) (hd : decode M.2.1 pc = .ok (.lload_n j, 1)) (hi : (j : Nat) = i) (hl : cx_lk lv i = some (.long x)) (h : cx_V E (pc + 1) lv (.long x :: st) G) : cx_V E pc lv (st) G := by
  obtain ⟨k', ⟨p, l', e, R, s, m, args, below, meth, c⟩, nL', fr', c0, s0, Q⟩ := E
  obtain ⟨hx, hb, hml, rfl, hown, hSt, -⟩ := hE
  intro H locs ls cells slots h1 h2 h3 h4 h5
  exact lv_lload_n hx hb hd hi (cx_lkh h3 hl) (h H locs ls cells slots h1 h2 h3 h4 h5)
theorem cx_lload {i : Nat} {x : Int64} (hE : cx_C E k l fr M G0 Post) (hd : decode M.2.1 pc = .ok (.lload i, 2)) (hl : cx_lk lv i = some (.long x)) (h : cx_V E (pc + 2) lv (.long x :: st) G) : cx_V E pc lv (st) G := by
  obtain ⟨k', ⟨p, l', e, R, s, m, args, below, meth, c⟩, nL', fr', c0, s0, Q⟩ := E
  obtain ⟨hx, hb, hml, rfl, hown, hSt, -⟩ := hE
  intro H locs ls cells slots h1 h2 h3 h4 h5
  exact lv_lload hx hb hd (cx_lkh h3 hl) (h H locs ls cells slots h1 h2 h3 h4 h5)
theorem cx_aload_n {j : Fin 4} {i : Nat} {v : Value} (hE : cx_C E k l fr M G0 Post) (hd : decode M.2.1 pc = .ok (.aload_n j, 1)) (hi : (j : Nat) = i) (hl : cx_lk lv i = some v) (h : cx_V E (pc + 1) lv (v :: st) G) (hv : v.isRef = true := by first | rfl | exact cx_rf _) : cx_V E pc lv ( st) G := by
  obtain ⟨k', ⟨p, l', e, R, s, m, args, below, meth, c⟩, nL', fr', c0, s0, Q⟩ := E
  obtain ⟨hx, hb, hml, rfl, hown, hSt, -⟩ := hE
  intro H locs ls cells slots h1 h2 h3 h4 h5
  have hl := cx_lkh h3 hl
  cases v with
  | null => exact lv_aload_nN hx hb hd hi hl (h H locs ls cells slots h1 h2 h3 h4 h5)
  | ref a => exact lv_aload_n hx hb hd hi hl (h H locs ls cells slots h1 h2 h3 h4 h5)
  | _ => cases hv
theorem cx_aload {i : Nat} {v : Value} (hE : cx_C E k l fr M G0 Post) (hd : decode M.2.1 pc = .ok (.aload i, 2)) (hl : cx_lk lv i = some v) (h : cx_V E (pc + 2) lv (v :: st) G) (hv : v.isRef = true := by first | rfl | exact cx_rf _) : cx_V E pc lv ( st) G := by
  obtain ⟨k', ⟨p, l', e, R, s, m, args, below, meth, c⟩, nL', fr', c0, s0, Q⟩ := E
  obtain ⟨hx, hb, hml, rfl, hown, hSt, -⟩ := hE
  intro H locs ls cells slots h1 h2 h3 h4 h5
  have hl := cx_lkh h3 hl
  cases v with
  | null => exact lv_aloadN hx hb hd hl (h H locs ls cells slots h1 h2 h3 h4 h5)
  | ref a => exact lv_aload hx hb hd hl (h H locs ls cells slots h1 h2 h3 h4 h5)
  | _ => cases hv
theorem cx_istore_n {j : Fin 4} {i : Nat} {x : Int32} (hE : cx_C E k l fr M G0 Post) (hd : decode M.2.1 pc = .ok (.istore_n j, 1)) (hi : (j : Nat) = i) (hn : i < M.2.2.1) (h : cx_V E (pc + 1) (cx_s1 lv i (.int x)) st G) : cx_V E pc lv (.int x :: st) G := by
  obtain ⟨k', ⟨p, l', e, R, s, m, args, below, meth, c⟩, nL', fr', c0, s0, Q⟩ := E
  obtain ⟨hx, hb, hml, rfl, hown, hSt, -⟩ := hE
  intro H locs ls cells slots h1 h2 h3 h4 h5
  exact lv_istore_n hx hb hd hi h3.1 hn rfl (fun ls' h3' => h H locs ls' cells slots h1 h2 (h3.s1 rfl h3') h4 h5)
theorem cx_istore {i : Nat} {x : Int32} (hE : cx_C E k l fr M G0 Post) (hd : decode M.2.1 pc = .ok (.istore i, 2)) (hn : i < M.2.2.1) (h : cx_V E (pc + 2) (cx_s1 lv i (.int x)) st G) : cx_V E pc lv (.int x :: st) G := by
  obtain ⟨k', ⟨p, l', e, R, s, m, args, below, meth, c⟩, nL', fr', c0, s0, Q⟩ := E
  obtain ⟨hx, hb, hml, rfl, hown, hSt, -⟩ := hE
  intro H locs ls cells slots h1 h2 h3 h4 h5
  exact lv_istore hx hb hd h3.1 hn rfl (fun ls' h3' => h H locs ls' cells slots h1 h2 (h3.s1 rfl h3') h4 h5)
theorem cx_lstore_n {j : Fin 4} {i : Nat} {x : Int64} (hE : cx_C E k l fr M G0 Post) (hd : decode M.2.1 pc = .ok (.lstore_n j, 1)) (hi : (j : Nat) = i) (hn : i + 1 < M.2.2.1) (h : cx_V E (pc + 1) (cx_s2 lv i (.long x)) st G) : cx_V E pc lv (.long x :: st) G := by
  obtain ⟨k', ⟨p, l', e, R, s, m, args, below, meth, c⟩, nL', fr', c0, s0, Q⟩ := E
  obtain ⟨hx, hb, hml, rfl, hown, hSt, -⟩ := hE
  intro H locs ls cells slots h1 h2 h3 h4 h5
  exact lv_lstore_n hx hb hd hi h3.1 hn rfl (fun ls' h3' => h H locs ls' cells slots h1 h2 (h3.s2 rfl h3') h4 h5)
theorem cx_lstore {i : Nat} {x : Int64} (hE : cx_C E k l fr M G0 Post) (hd : decode M.2.1 pc = .ok (.lstore i, 2)) (hn : i + 1 < M.2.2.1) (h : cx_V E (pc + 2) (cx_s2 lv i (.long x)) st G) : cx_V E pc lv (.long x :: st) G := by
  obtain ⟨k', ⟨p, l', e, R, s, m, args, below, meth, c⟩, nL', fr', c0, s0, Q⟩ := E
  obtain ⟨hx, hb, hml, rfl, hown, hSt, -⟩ := hE
  intro H locs ls cells slots h1 h2 h3 h4 h5
  exact lv_lstore hx hb hd h3.1 hn rfl (fun ls' h3' => h H locs ls' cells slots h1 h2 (h3.s2 rfl h3') h4 h5)
theorem cx_astore_n {j : Fin 4} {i : Nat} {v : Value} (hE : cx_C E k l fr M G0 Post) (hd : decode M.2.1 pc = .ok (.astore_n j, 1)) (hi : (j : Nat) = i) (hn : i < M.2.2.1) (h : cx_V E (pc + 1) (cx_s1 lv i v) st G) (hv : v.isRef = true := by first | rfl | exact cx_rf _) : cx_V E pc lv (v :: st) G := by
  obtain ⟨k', ⟨p, l', e, R, s, m, args, below, meth, c⟩, nL', fr', c0, s0, Q⟩ := E
  obtain ⟨hx, hb, hml, rfl, hown, hSt, -⟩ := hE
  intro H locs ls cells slots h1 h2 h3 h4 h5
  cases v with
  | null => exact lv_astore_nN hx hb hd hi h3.1 hn rfl (fun ls' h3' => h H locs ls' cells slots h1 h2 (h3.s1 rfl h3') h4 h5)
  | ref a => exact lv_astore_n hx hb hd hi h3.1 hn rfl (fun ls' h3' => h H locs ls' cells slots h1 h2 (h3.s1 rfl h3') h4 h5)
  | _ => cases hv
theorem cx_astore {i : Nat} {v : Value} (hE : cx_C E k l fr M G0 Post) (hd : decode M.2.1 pc = .ok (.astore i, 2)) (hn : i < M.2.2.1) (h : cx_V E (pc + 2) (cx_s1 lv i v) st G) (hv : v.isRef = true := by first | rfl | exact cx_rf _) : cx_V E pc lv (v :: st) G := by
  obtain ⟨k', ⟨p, l', e, R, s, m, args, below, meth, c⟩, nL', fr', c0, s0, Q⟩ := E
  obtain ⟨hx, hb, hml, rfl, hown, hSt, -⟩ := hE
  intro H locs ls cells slots h1 h2 h3 h4 h5
  cases v with
  | null => exact lv_astoreN hx hb hd h3.1 hn rfl (fun ls' h3' => h H locs ls' cells slots h1 h2 (h3.s1 rfl h3') h4 h5)
  | ref a => exact lv_astore hx hb hd h3.1 hn rfl (fun ls' h3' => h H locs ls' cells slots h1 h2 (h3.s1 rfl h3') h4 h5)
  | _ => cases hv
theorem cx_iinc {i : Nat} {n : Int} {x v : Int32} (hE : cx_C E k l fr M G0 Post) (hd : decode M.2.1 pc = .ok (.iinc i n, 3)) (hl : cx_lk lv i = some (.int x)) (hv : x + Int32.ofInt n = v) (hn : i < M.2.2.1) (h : cx_V E (pc + 3) (cx_s1 lv i (.int v)) st G) : cx_V E pc lv (st) G := by
  obtain ⟨k', ⟨p, l', e, R, s, m, args, below, meth, c⟩, nL', fr', c0, s0, Q⟩ := E
  obtain ⟨hx, hb, hml, rfl, hown, hSt, -⟩ := hE
  intro H locs ls cells slots h1 h2 h3 h4 h5
  obtain ⟨k9, hk9⟩ := List.getElem?_of_mem (cx_lkm hl)
  exact lv_iinc hx hb hd h3.1 hk9 hv hn rfl (fun ls' h3' => h H locs ls' cells slots h1 h2 (h3.s1 rfl h3') h4 h5)
theorem cx_iadd {x y : Int32} (hE : cx_C E k l fr M G0 Post) (hd : decode M.2.1 pc = .ok (.iadd, 1)) (h : cx_V E (pc + 1) lv (.int (x + y) :: st) G) : cx_V E pc lv (.int y :: .int x :: st) G := by
  obtain ⟨k', ⟨p, l', e, R, s, m, args, below, meth, c⟩, nL', fr', c0, s0, Q⟩ := E
  obtain ⟨hx, hb, hml, rfl, hown, hSt, -⟩ := hE
  intro H locs ls cells slots h1 h2 h3 h4 h5
  exact lv_iadd hx hb hd (h H locs ls cells slots h1 h2 h3 h4 h5)
theorem cx_isub {x y : Int32} (hE : cx_C E k l fr M G0 Post) (hd : decode M.2.1 pc = .ok (.isub, 1)) (h : cx_V E (pc + 1) lv (.int (x - y) :: st) G) : cx_V E pc lv (.int y :: .int x :: st) G := by
  obtain ⟨k', ⟨p, l', e, R, s, m, args, below, meth, c⟩, nL', fr', c0, s0, Q⟩ := E
  obtain ⟨hx, hb, hml, rfl, hown, hSt, -⟩ := hE
  intro H locs ls cells slots h1 h2 h3 h4 h5
  exact lv_isub hx hb hd (h H locs ls cells slots h1 h2 h3 h4 h5)
theorem cx_imul {x y : Int32} (hE : cx_C E k l fr M G0 Post) (hd : decode M.2.1 pc = .ok (.imul, 1)) (h : cx_V E (pc + 1) lv (.int (x * y) :: st) G) : cx_V E pc lv (.int y :: .int x :: st) G := by
  obtain ⟨k', ⟨p, l', e, R, s, m, args, below, meth, c⟩, nL', fr', c0, s0, Q⟩ := E
  obtain ⟨hx, hb, hml, rfl, hown, hSt, -⟩ := hE
  intro H locs ls cells slots h1 h2 h3 h4 h5
  exact lv_imul hx hb hd (h H locs ls cells slots h1 h2 h3 h4 h5)
theorem cx_iand {x y : Int32} (hE : cx_C E k l fr M G0 Post) (hd : decode M.2.1 pc = .ok (.iand, 1)) (h : cx_V E (pc + 1) lv (.int (x &&& y) :: st) G) : cx_V E pc lv (.int y :: .int x :: st) G := by
  obtain ⟨k', ⟨p, l', e, R, s, m, args, below, meth, c⟩, nL', fr', c0, s0, Q⟩ := E
  obtain ⟨hx, hb, hml, rfl, hown, hSt, -⟩ := hE
  intro H locs ls cells slots h1 h2 h3 h4 h5
  exact lv_iand hx hb hd (h H locs ls cells slots h1 h2 h3 h4 h5)
theorem cx_ior {x y : Int32} (hE : cx_C E k l fr M G0 Post) (hd : decode M.2.1 pc = .ok (.ior, 1)) (h : cx_V E (pc + 1) lv (.int (x ||| y) :: st) G) : cx_V E pc lv (.int y :: .int x :: st) G := by
  obtain ⟨k', ⟨p, l', e, R, s, m, args, below, meth, c⟩, nL', fr', c0, s0, Q⟩ := E
  obtain ⟨hx, hb, hml, rfl, hown, hSt, -⟩ := hE
  intro H locs ls cells slots h1 h2 h3 h4 h5
  exact lv_ior hx hb hd (h H locs ls cells slots h1 h2 h3 h4 h5)
theorem cx_ixor {x y : Int32} (hE : cx_C E k l fr M G0 Post) (hd : decode M.2.1 pc = .ok (.ixor, 1)) (h : cx_V E (pc + 1) lv (.int (x ^^^ y) :: st) G) : cx_V E pc lv (.int y :: .int x :: st) G := by
  obtain ⟨k', ⟨p, l', e, R, s, m, args, below, meth, c⟩, nL', fr', c0, s0, Q⟩ := E
  obtain ⟨hx, hb, hml, rfl, hown, hSt, -⟩ := hE
  intro H locs ls cells slots h1 h2 h3 h4 h5
  exact lv_ixor hx hb hd (h H locs ls cells slots h1 h2 h3 h4 h5)
theorem cx_ladd {x y : Int64} (hE : cx_C E k l fr M G0 Post) (hd : decode M.2.1 pc = .ok (.ladd, 1)) (h : cx_V E (pc + 1) lv (.long (x + y) :: st) G) : cx_V E pc lv (.long y :: .long x :: st) G := by
  obtain ⟨k', ⟨p, l', e, R, s, m, args, below, meth, c⟩, nL', fr', c0, s0, Q⟩ := E
  obtain ⟨hx, hb, hml, rfl, hown, hSt, -⟩ := hE
  intro H locs ls cells slots h1 h2 h3 h4 h5
  exact lv_ladd hx hb hd (h H locs ls cells slots h1 h2 h3 h4 h5)
theorem cx_lsub {x y : Int64} (hE : cx_C E k l fr M G0 Post) (hd : decode M.2.1 pc = .ok (.lsub, 1)) (h : cx_V E (pc + 1) lv (.long (x - y) :: st) G) : cx_V E pc lv (.long y :: .long x :: st) G := by
  obtain ⟨k', ⟨p, l', e, R, s, m, args, below, meth, c⟩, nL', fr', c0, s0, Q⟩ := E
  obtain ⟨hx, hb, hml, rfl, hown, hSt, -⟩ := hE
  intro H locs ls cells slots h1 h2 h3 h4 h5
  exact lv_lsub hx hb hd (h H locs ls cells slots h1 h2 h3 h4 h5)
theorem cx_lmul {x y : Int64} (hE : cx_C E k l fr M G0 Post) (hd : decode M.2.1 pc = .ok (.lmul, 1)) (h : cx_V E (pc + 1) lv (.long (x * y) :: st) G) : cx_V E pc lv (.long y :: .long x :: st) G := by
  obtain ⟨k', ⟨p, l', e, R, s, m, args, below, meth, c⟩, nL', fr', c0, s0, Q⟩ := E
  obtain ⟨hx, hb, hml, rfl, hown, hSt, -⟩ := hE
  intro H locs ls cells slots h1 h2 h3 h4 h5
  exact lv_lmul hx hb hd (h H locs ls cells slots h1 h2 h3 h4 h5)
theorem cx_land {x y : Int64} (hE : cx_C E k l fr M G0 Post) (hd : decode M.2.1 pc = .ok (.land, 1)) (h : cx_V E (pc + 1) lv (.long (x &&& y) :: st) G) : cx_V E pc lv (.long y :: .long x :: st) G := by
  obtain ⟨k', ⟨p, l', e, R, s, m, args, below, meth, c⟩, nL', fr', c0, s0, Q⟩ := E
  obtain ⟨hx, hb, hml, rfl, hown, hSt, -⟩ := hE
  intro H locs ls cells slots h1 h2 h3 h4 h5
  exact lv_land hx hb hd (h H locs ls cells slots h1 h2 h3 h4 h5)
theorem cx_lor {x y : Int64} (hE : cx_C E k l fr M G0 Post) (hd : decode M.2.1 pc = .ok (.lor, 1)) (h : cx_V E (pc + 1) lv (.long (x ||| y) :: st) G) : cx_V E pc lv (.long y :: .long x :: st) G := by
  obtain ⟨k', ⟨p, l', e, R, s, m, args, below, meth, c⟩, nL', fr', c0, s0, Q⟩ := E
  obtain ⟨hx, hb, hml, rfl, hown, hSt, -⟩ := hE
  intro H locs ls cells slots h1 h2 h3 h4 h5
  exact lv_lor hx hb hd (h H locs ls cells slots h1 h2 h3 h4 h5)
theorem cx_lxor {x y : Int64} (hE : cx_C E k l fr M G0 Post) (hd : decode M.2.1 pc = .ok (.lxor, 1)) (h : cx_V E (pc + 1) lv (.long (x ^^^ y) :: st) G) : cx_V E pc lv (.long y :: .long x :: st) G := by
  obtain ⟨k', ⟨p, l', e, R, s, m, args, below, meth, c⟩, nL', fr', c0, s0, Q⟩ := E
  obtain ⟨hx, hb, hml, rfl, hown, hSt, -⟩ := hE
  intro H locs ls cells slots h1 h2 h3 h4 h5
  exact lv_lxor hx hb hd (h H locs ls cells slots h1 h2 h3 h4 h5)
theorem cx_ishl {x y : Int32} (hE : cx_C E k l fr M G0 Post) (hd : decode M.2.1 pc = .ok (.ishl, 1)) (h : cx_V E (pc + 1) lv (.int (x <<< (y &&& 31)) :: st) G) : cx_V E pc lv (.int y :: .int x :: st) G := by
  obtain ⟨k', ⟨p, l', e, R, s, m, args, below, meth, c⟩, nL', fr', c0, s0, Q⟩ := E
  obtain ⟨hx, hb, hml, rfl, hown, hSt, -⟩ := hE
  intro H locs ls cells slots h1 h2 h3 h4 h5
  exact lv_ishl hx hb hd (h H locs ls cells slots h1 h2 h3 h4 h5)
theorem cx_ishr {x y : Int32} (hE : cx_C E k l fr M G0 Post) (hd : decode M.2.1 pc = .ok (.ishr, 1)) (h : cx_V E (pc + 1) lv (.int (x >>> (y &&& 31)) :: st) G) : cx_V E pc lv (.int y :: .int x :: st) G := by
  obtain ⟨k', ⟨p, l', e, R, s, m, args, below, meth, c⟩, nL', fr', c0, s0, Q⟩ := E
  obtain ⟨hx, hb, hml, rfl, hown, hSt, -⟩ := hE
  intro H locs ls cells slots h1 h2 h3 h4 h5
  exact lv_ishr hx hb hd (h H locs ls cells slots h1 h2 h3 h4 h5)
theorem cx_idiv {x y : Int32} (hE : cx_C E k l fr M G0 Post) (hd : decode M.2.1 pc = .ok (.idiv, 1)) (hne : ¬ y = 0) (h : cx_V E (pc + 1) lv (.int (x / y) :: st) G) : cx_V E pc lv (.int y :: .int x :: st) G := by
  obtain ⟨k', ⟨p, l', e, R, s, m, args, below, meth, c⟩, nL', fr', c0, s0, Q⟩ := E
  obtain ⟨hx, hb, hml, rfl, hown, hSt, -⟩ := hE
  intro H locs ls cells slots h1 h2 h3 h4 h5
  exact lv_idiv hx hb hd hne (h H locs ls cells slots h1 h2 h3 h4 h5)
theorem cx_irem {x y : Int32} (hE : cx_C E k l fr M G0 Post) (hd : decode M.2.1 pc = .ok (.irem, 1)) (hne : ¬ y = 0) (h : cx_V E (pc + 1) lv (.int (x - x / y * y) :: st) G) : cx_V E pc lv (.int y :: .int x :: st) G := by
  obtain ⟨k', ⟨p, l', e, R, s, m, args, below, meth, c⟩, nL', fr', c0, s0, Q⟩ := E
  obtain ⟨hx, hb, hml, rfl, hown, hSt, -⟩ := hE
  intro H locs ls cells slots h1 h2 h3 h4 h5
  exact lv_irem hx hb hd hne (h H locs ls cells slots h1 h2 h3 h4 h5)
theorem cx_ineg {x : Int32} (hE : cx_C E k l fr M G0 Post) (hd : decode M.2.1 pc = .ok (.ineg, 1)) (h : cx_V E (pc + 1) lv (.int (-x) :: st) G) : cx_V E pc lv (.int x :: st) G := by
  obtain ⟨k', ⟨p, l', e, R, s, m, args, below, meth, c⟩, nL', fr', c0, s0, Q⟩ := E
  obtain ⟨hx, hb, hml, rfl, hown, hSt, -⟩ := hE
  intro H locs ls cells slots h1 h2 h3 h4 h5
  exact lv_ineg hx hb hd (h H locs ls cells slots h1 h2 h3 h4 h5)
theorem cx_i2l {x : Int32} (hE : cx_C E k l fr M G0 Post) (hd : decode M.2.1 pc = .ok (.i2l, 1)) (h : cx_V E (pc + 1) lv (.long (x.toInt64) :: st) G) : cx_V E pc lv (.int x :: st) G := by
  obtain ⟨k', ⟨p, l', e, R, s, m, args, below, meth, c⟩, nL', fr', c0, s0, Q⟩ := E
  obtain ⟨hx, hb, hml, rfl, hown, hSt, -⟩ := hE
  intro H locs ls cells slots h1 h2 h3 h4 h5
  exact lv_i2l hx hb hd rfl (h H locs ls cells slots h1 h2 h3 h4 h5)
theorem cx_l2i {x : Int64} (hE : cx_C E k l fr M G0 Post) (hd : decode M.2.1 pc = .ok (.l2i, 1)) (h : cx_V E (pc + 1) lv (.int (x.toInt32) :: st) G) : cx_V E pc lv (.long x :: st) G := by
  obtain ⟨k', ⟨p, l', e, R, s, m, args, below, meth, c⟩, nL', fr', c0, s0, Q⟩ := E
  obtain ⟨hx, hb, hml, rfl, hown, hSt, -⟩ := hE
  intro H locs ls cells slots h1 h2 h3 h4 h5
  exact lv_l2i hx hb hd rfl (h H locs ls cells slots h1 h2 h3 h4 h5)
theorem cx_i2b {x : Int32} (hE : cx_C E k l fr M G0 Post) (hd : decode M.2.1 pc = .ok (.i2b, 1)) (h : cx_V E (pc + 1) lv (.int (x.toInt8.toInt32) :: st) G) : cx_V E pc lv (.int x :: st) G := by
  obtain ⟨k', ⟨p, l', e, R, s, m, args, below, meth, c⟩, nL', fr', c0, s0, Q⟩ := E
  obtain ⟨hx, hb, hml, rfl, hown, hSt, -⟩ := hE
  intro H locs ls cells slots h1 h2 h3 h4 h5
  exact lv_i2b hx hb hd rfl (h H locs ls cells slots h1 h2 h3 h4 h5)
theorem cx_i2c {x : Int32} (hE : cx_C E k l fr M G0 Post) (hd : decode M.2.1 pc = .ok (.i2c, 1)) (h : cx_V E (pc + 1) lv (.int ((x.toUInt32 % 65536).toInt32) :: st) G) : cx_V E pc lv (.int x :: st) G := by
  obtain ⟨k', ⟨p, l', e, R, s, m, args, below, meth, c⟩, nL', fr', c0, s0, Q⟩ := E
  obtain ⟨hx, hb, hml, rfl, hown, hSt, -⟩ := hE
  intro H locs ls cells slots h1 h2 h3 h4 h5
  exact lv_i2c hx hb hd rfl (h H locs ls cells slots h1 h2 h3 h4 h5)
theorem cx_i2s {x : Int32} (hE : cx_C E k l fr M G0 Post) (hd : decode M.2.1 pc = .ok (.i2s, 1)) (h : cx_V E (pc + 1) lv (.int (x.toInt16.toInt32) :: st) G) : cx_V E pc lv (.int x :: st) G := by
  obtain ⟨k', ⟨p, l', e, R, s, m, args, below, meth, c⟩, nL', fr', c0, s0, Q⟩ := E
  obtain ⟨hx, hb, hml, rfl, hown, hSt, -⟩ := hE
  intro H locs ls cells slots h1 h2 h3 h4 h5
  exact lv_i2s hx hb hd rfl (h H locs ls cells slots h1 h2 h3 h4 h5)
theorem cx_iushr {x y : Int32} (hE : cx_C E k l fr M G0 Post) (hd : decode M.2.1 pc = .ok (.iushr, 1)) (h : cx_V E (pc + 1) lv (.int ((x.toUInt32 >>> (y.toUInt32 &&& Int32.toUInt32 31)).toInt32) :: st) G) : cx_V E pc lv (.int y :: .int x :: st) G := by
  obtain ⟨k', ⟨p, l', e, R, s, m, args, below, meth, c⟩, nL', fr', c0, s0, Q⟩ := E
  obtain ⟨hx, hb, hml, rfl, hown, hSt, -⟩ := hE
  intro H locs ls cells slots h1 h2 h3 h4 h5
  exact lv_iushr hx hb hd rfl (h H locs ls cells slots h1 h2 h3 h4 h5)
theorem cx_lushr {x : Int64} {y : Int32} (hE : cx_C E k l fr M G0 Post) (hd : decode M.2.1 pc = .ok (.lushr, 1)) (h : cx_V E (pc + 1) lv (.long ((x.toUInt64 >>> (y.toInt64.toUInt64 &&& Int64.toUInt64 63)).toInt64) :: st) G) : cx_V E pc lv (.int y :: .long x :: st) G := by
  obtain ⟨k', ⟨p, l', e, R, s, m, args, below, meth, c⟩, nL', fr', c0, s0, Q⟩ := E
  obtain ⟨hx, hb, hml, rfl, hown, hSt, -⟩ := hE
  intro H locs ls cells slots h1 h2 h3 h4 h5
  exact lv_lushr hx hb hd rfl (h H locs ls cells slots h1 h2 h3 h4 h5)
theorem cx_lshl {x : Int64} {y : Int32} (hE : cx_C E k l fr M G0 Post) (hd : decode M.2.1 pc = .ok (.lshl, 1)) (h : cx_V E (pc + 1) lv (.long (x <<< (y.toInt64 &&& 63)) :: st) G) : cx_V E pc lv (.int y :: .long x :: st) G := by
  obtain ⟨k', ⟨p, l', e, R, s, m, args, below, meth, c⟩, nL', fr', c0, s0, Q⟩ := E
  obtain ⟨hx, hb, hml, rfl, hown, hSt, -⟩ := hE
  intro H locs ls cells slots h1 h2 h3 h4 h5
  exact lv_lshl hx hb hd rfl (h H locs ls cells slots h1 h2 h3 h4 h5)
theorem cx_lshr {x : Int64} {y : Int32} (hE : cx_C E k l fr M G0 Post) (hd : decode M.2.1 pc = .ok (.lshr, 1)) (h : cx_V E (pc + 1) lv (.long (x >>> (y.toInt64 &&& 63)) :: st) G) : cx_V E pc lv (.int y :: .long x :: st) G := by
  obtain ⟨k', ⟨p, l', e, R, s, m, args, below, meth, c⟩, nL', fr', c0, s0, Q⟩ := E
  obtain ⟨hx, hb, hml, rfl, hown, hSt, -⟩ := hE
  intro H locs ls cells slots h1 h2 h3 h4 h5
  exact lv_lshr hx hb hd rfl (h H locs ls cells slots h1 h2 h3 h4 h5)
theorem cx_lcmp {x y : Int64} (hE : cx_C E k l fr M G0 Post) (hd : decode M.2.1 pc = .ok (.lcmp, 1)) (h : cx_V E (pc + 1) lv (.int (lg_cmp x y) :: st) G) : cx_V E pc lv (.long y :: .long x :: st) G := by
  obtain ⟨k', ⟨p, l', e, R, s, m, args, below, meth, c⟩, nL', fr', c0, s0, Q⟩ := E
  obtain ⟨hx, hb, hml, rfl, hown, hSt, -⟩ := hE
  intro H locs ls cells slots h1 h2 h3 h4 h5
  exact W.lcmp hx hb hd (h H locs ls cells slots h1 h2 h3 h4 h5)
theorem cx_dup {a : Value} (hE : cx_C E k l fr M G0 Post) (hd : decode M.2.1 pc = .ok (.dup, 1)) (h : cx_V E (pc + 1) lv (a :: a :: st) G) (ha : a.category = 1 := by first | rfl | exact cx_rfc _) : cx_V E pc lv (a :: st) G := by
  obtain ⟨k', ⟨p, l', e, R, s, m, args, below, meth, c⟩, nL', fr', c0, s0, Q⟩ := E
  obtain ⟨hx, hb, hml, rfl, hown, hSt, -⟩ := hE
  intro H locs ls cells slots h1 h2 h3 h4 h5
  exact lv_dup hx hb hd ha (h H locs ls cells slots h1 h2 h3 h4 h5)
theorem cx_pop {a : Value} (hE : cx_C E k l fr M G0 Post) (hd : decode M.2.1 pc = .ok (.pop, 1)) (h : cx_V E (pc + 1) lv st G) (ha : a.category = 1 := by first | rfl | exact cx_rfc _) : cx_V E pc lv (a :: st) G := by
  obtain ⟨k', ⟨p, l', e, R, s, m, args, below, meth, c⟩, nL', fr', c0, s0, Q⟩ := E
  obtain ⟨hx, hb, hml, rfl, hown, hSt, -⟩ := hE
  intro H locs ls cells slots h1 h2 h3 h4 h5
  exact lv_pop hx hb hd ha (h H locs ls cells slots h1 h2 h3 h4 h5)
theorem cx_dup_x1 {a b : Value} (hE : cx_C E k l fr M G0 Post) (hd : decode M.2.1 pc = .ok (.dup_x1, 1)) (h : cx_V E (pc + 1) lv (a :: b :: a :: st) G) (ha : a.category = 1 := by first | rfl | exact cx_rfc _) (hb9 : b.category = 1 := by first | rfl | exact cx_rfc _) : cx_V E pc lv (a :: b :: st) G := by
  obtain ⟨k', ⟨p, l', e, R, s, m, args, below, meth, c⟩, nL', fr', c0, s0, Q⟩ := E
  obtain ⟨hx, hb, hml, rfl, hown, hSt, -⟩ := hE
  intro H locs ls cells slots h1 h2 h3 h4 h5
  exact lv_dup_x1 hx hb hd ha hb9 (h H locs ls cells slots h1 h2 h3 h4 h5)
theorem cx_dup_x2 {a b d : Value} (hE : cx_C E k l fr M G0 Post) (hd : decode M.2.1 pc = .ok (.dup_x2, 1)) (h : cx_V E (pc + 1) lv (a :: b :: d :: a :: st) G) (ha : a.category = 1 := by first | rfl | exact cx_rfc _) (hb9 : b.category = 1 := by first | rfl | exact cx_rfc _) (hd9 : d.category = 1 := by first | rfl | exact cx_rfc _) : cx_V E pc lv (a :: b :: d :: st) G := by
  obtain ⟨k', ⟨p, l', e, R, s, m, args, below, meth, c⟩, nL', fr', c0, s0, Q⟩ := E
  obtain ⟨hx, hb, hml, rfl, hown, hSt, -⟩ := hE
  intro H locs ls cells slots h1 h2 h3 h4 h5
  exact lv_dup_x2 hx hb hd ha hb9 hd9 (h H locs ls cells slots h1 h2 h3 h4 h5)
theorem cx_dup2 {a b : Value} (hE : cx_C E k l fr M G0 Post) (hd : decode M.2.1 pc = .ok (.dup2, 1)) (h : cx_V E (pc + 1) lv (a :: b :: a :: b :: st) G) (ha : a.category = 1 := by first | rfl | exact cx_rfc _) (hb9 : b.category = 1 := by first | rfl | exact cx_rfc _) : cx_V E pc lv (a :: b :: st) G := by
  obtain ⟨k', ⟨p, l', e, R, s, m, args, below, meth, c⟩, nL', fr', c0, s0, Q⟩ := E
  obtain ⟨hx, hb, hml, rfl, hown, hSt, -⟩ := hE
  intro H locs ls cells slots h1 h2 h3 h4 h5
  exact lv_dup2_11 hx hb hd ha hb9 (h H locs ls cells slots h1 h2 h3 h4 h5)
theorem cx_pop2 {x : Int64} (hE : cx_C E k l fr M G0 Post) (hd : decode M.2.1 pc = .ok (.pop2, 1)) (h : cx_V E (pc + 1) lv st G) : cx_V E pc lv (.long x :: st) G := by
  obtain ⟨k', ⟨p, l', e, R, s, m, args, below, meth, c⟩, nL', fr', c0, s0, Q⟩ := E
  obtain ⟨hx, hb, hml, rfl, hown, hSt, -⟩ := hE
  intro H locs ls cells slots h1 h2 h3 h4 h5
  exact lv_pop2_2 hx hb hd rfl (h H locs ls cells slots h1 h2 h3 h4 h5)
theorem cx_if_eq {x : Int32} {off : Int} {tgt : Nat} (hE : cx_C E k l fr M G0 Post) (hd : decode M.2.1 pc = .ok (.ifCond .eq off, 3)) (ht : (pc : Int) + off = (tgt : Int)) (kt : x = 0 → cx_V E tgt lv st G) (kf : ¬ x = 0 → cx_V E (pc + 3) lv st G) : cx_V E pc lv (.int x :: st) G := by
  obtain ⟨k', ⟨p, l', e, R, s, m, args, below, meth, c⟩, nL', fr', c0, s0, Q⟩ := E
  obtain ⟨hx, hb, hml, rfl, hown, hSt, -⟩ := hE
  intro H locs ls cells slots h1 h2 h3 h4 h5
  exact lv_if_eq hx hb hd ht (fun q => kt q H locs ls cells slots h1 h2 h3 h4 h5) (fun q => kf q H locs ls cells slots h1 h2 h3 h4 h5)
theorem cx_icmp_eq {x y : Int32} {off : Int} {tgt : Nat} (hE : cx_C E k l fr M G0 Post) (hd : decode M.2.1 pc = .ok (.if_icmp .eq off, 3)) (ht : (pc : Int) + off = (tgt : Int)) (kt : x = y → cx_V E tgt lv st G) (kf : ¬ x = y → cx_V E (pc + 3) lv st G) : cx_V E pc lv (.int y :: .int x :: st) G := by
  obtain ⟨k', ⟨p, l', e, R, s, m, args, below, meth, c⟩, nL', fr', c0, s0, Q⟩ := E
  obtain ⟨hx, hb, hml, rfl, hown, hSt, -⟩ := hE
  intro H locs ls cells slots h1 h2 h3 h4 h5
  exact lv_icmp_eq hx hb hd ht (fun q => kt q H locs ls cells slots h1 h2 h3 h4 h5) (fun q => kf q H locs ls cells slots h1 h2 h3 h4 h5)
theorem cx_if_ne {x : Int32} {off : Int} {tgt : Nat} (hE : cx_C E k l fr M G0 Post) (hd : decode M.2.1 pc = .ok (.ifCond .ne off, 3)) (ht : (pc : Int) + off = (tgt : Int)) (kt : ¬ x = 0 → cx_V E tgt lv st G) (kf : x = 0 → cx_V E (pc + 3) lv st G) : cx_V E pc lv (.int x :: st) G := by
  obtain ⟨k', ⟨p, l', e, R, s, m, args, below, meth, c⟩, nL', fr', c0, s0, Q⟩ := E
  obtain ⟨hx, hb, hml, rfl, hown, hSt, -⟩ := hE
  intro H locs ls cells slots h1 h2 h3 h4 h5
  exact lv_if_ne hx hb hd ht (fun q => kt q H locs ls cells slots h1 h2 h3 h4 h5) (fun q => kf q H locs ls cells slots h1 h2 h3 h4 h5)
theorem cx_icmp_ne {x y : Int32} {off : Int} {tgt : Nat} (hE : cx_C E k l fr M G0 Post) (hd : decode M.2.1 pc = .ok (.if_icmp .ne off, 3)) (ht : (pc : Int) + off = (tgt : Int)) (kt : ¬ x = y → cx_V E tgt lv st G) (kf : x = y → cx_V E (pc + 3) lv st G) : cx_V E pc lv (.int y :: .int x :: st) G := by
  obtain ⟨k', ⟨p, l', e, R, s, m, args, below, meth, c⟩, nL', fr', c0, s0, Q⟩ := E
  obtain ⟨hx, hb, hml, rfl, hown, hSt, -⟩ := hE
  intro H locs ls cells slots h1 h2 h3 h4 h5
  exact lv_icmp_ne hx hb hd ht (fun q => kt q H locs ls cells slots h1 h2 h3 h4 h5) (fun q => kf q H locs ls cells slots h1 h2 h3 h4 h5)
theorem cx_if_lt {x : Int32} {off : Int} {tgt : Nat} (hE : cx_C E k l fr M G0 Post) (hd : decode M.2.1 pc = .ok (.ifCond .lt off, 3)) (ht : (pc : Int) + off = (tgt : Int)) (kt : x < 0 → cx_V E tgt lv st G) (kf : ¬ x < 0 → cx_V E (pc + 3) lv st G) : cx_V E pc lv (.int x :: st) G := by
  obtain ⟨k', ⟨p, l', e, R, s, m, args, below, meth, c⟩, nL', fr', c0, s0, Q⟩ := E
  obtain ⟨hx, hb, hml, rfl, hown, hSt, -⟩ := hE
  intro H locs ls cells slots h1 h2 h3 h4 h5
  exact lv_if_lt hx hb hd ht (fun q => kt q H locs ls cells slots h1 h2 h3 h4 h5) (fun q => kf q H locs ls cells slots h1 h2 h3 h4 h5)
theorem cx_icmp_lt {x y : Int32} {off : Int} {tgt : Nat} (hE : cx_C E k l fr M G0 Post) (hd : decode M.2.1 pc = .ok (.if_icmp .lt off, 3)) (ht : (pc : Int) + off = (tgt : Int)) (kt : x < y → cx_V E tgt lv st G) (kf : ¬ x < y → cx_V E (pc + 3) lv st G) : cx_V E pc lv (.int y :: .int x :: st) G := by
  obtain ⟨k', ⟨p, l', e, R, s, m, args, below, meth, c⟩, nL', fr', c0, s0, Q⟩ := E
  obtain ⟨hx, hb, hml, rfl, hown, hSt, -⟩ := hE
  intro H locs ls cells slots h1 h2 h3 h4 h5
  exact lv_icmp_lt hx hb hd ht (fun q => kt q H locs ls cells slots h1 h2 h3 h4 h5) (fun q => kf q H locs ls cells slots h1 h2 h3 h4 h5)
theorem cx_if_ge {x : Int32} {off : Int} {tgt : Nat} (hE : cx_C E k l fr M G0 Post) (hd : decode M.2.1 pc = .ok (.ifCond .ge off, 3)) (ht : (pc : Int) + off = (tgt : Int)) (kt : 0 ≤ x → cx_V E tgt lv st G) (kf : ¬ 0 ≤ x → cx_V E (pc + 3) lv st G) : cx_V E pc lv (.int x :: st) G := by
  obtain ⟨k', ⟨p, l', e, R, s, m, args, below, meth, c⟩, nL', fr', c0, s0, Q⟩ := E
  obtain ⟨hx, hb, hml, rfl, hown, hSt, -⟩ := hE
  intro H locs ls cells slots h1 h2 h3 h4 h5
  exact lv_if_ge hx hb hd ht (fun q => kt q H locs ls cells slots h1 h2 h3 h4 h5) (fun q => kf q H locs ls cells slots h1 h2 h3 h4 h5)
theorem cx_icmp_ge {x y : Int32} {off : Int} {tgt : Nat} (hE : cx_C E k l fr M G0 Post) (hd : decode M.2.1 pc = .ok (.if_icmp .ge off, 3)) (ht : (pc : Int) + off = (tgt : Int)) (kt : y ≤ x → cx_V E tgt lv st G) (kf : ¬ y ≤ x → cx_V E (pc + 3) lv st G) : cx_V E pc lv (.int y :: .int x :: st) G := by
  obtain ⟨k', ⟨p, l', e, R, s, m, args, below, meth, c⟩, nL', fr', c0, s0, Q⟩ := E
  obtain ⟨hx, hb, hml, rfl, hown, hSt, -⟩ := hE
  intro H locs ls cells slots h1 h2 h3 h4 h5
  exact lv_icmp_ge hx hb hd ht (fun q => kt q H locs ls cells slots h1 h2 h3 h4 h5) (fun q => kf q H locs ls cells slots h1 h2 h3 h4 h5)
theorem cx_if_gt {x : Int32} {off : Int} {tgt : Nat} (hE : cx_C E k l fr M G0 Post) (hd : decode M.2.1 pc = .ok (.ifCond .gt off, 3)) (ht : (pc : Int) + off = (tgt : Int)) (kt : 0 < x → cx_V E tgt lv st G) (kf : ¬ 0 < x → cx_V E (pc + 3) lv st G) : cx_V E pc lv (.int x :: st) G := by
  obtain ⟨k', ⟨p, l', e, R, s, m, args, below, meth, c⟩, nL', fr', c0, s0, Q⟩ := E
  obtain ⟨hx, hb, hml, rfl, hown, hSt, -⟩ := hE
  intro H locs ls cells slots h1 h2 h3 h4 h5
  exact lv_if_gt hx hb hd ht (fun q => kt q H locs ls cells slots h1 h2 h3 h4 h5) (fun q => kf q H locs ls cells slots h1 h2 h3 h4 h5)
theorem cx_icmp_gt {x y : Int32} {off : Int} {tgt : Nat} (hE : cx_C E k l fr M G0 Post) (hd : decode M.2.1 pc = .ok (.if_icmp .gt off, 3)) (ht : (pc : Int) + off = (tgt : Int)) (kt : y < x → cx_V E tgt lv st G) (kf : ¬ y < x → cx_V E (pc + 3) lv st G) : cx_V E pc lv (.int y :: .int x :: st) G := by
  obtain ⟨k', ⟨p, l', e, R, s, m, args, below, meth, c⟩, nL', fr', c0, s0, Q⟩ := E
  obtain ⟨hx, hb, hml, rfl, hown, hSt, -⟩ := hE
  intro H locs ls cells slots h1 h2 h3 h4 h5
  exact lv_icmp_gt hx hb hd ht (fun q => kt q H locs ls cells slots h1 h2 h3 h4 h5) (fun q => kf q H locs ls cells slots h1 h2 h3 h4 h5)
theorem cx_if_le {x : Int32} {off : Int} {tgt : Nat} (hE : cx_C E k l fr M G0 Post) (hd : decode M.2.1 pc = .ok (.ifCond .le off, 3)) (ht : (pc : Int) + off = (tgt : Int)) (kt : x ≤ 0 → cx_V E tgt lv st G) (kf : ¬ x ≤ 0 → cx_V E (pc + 3) lv st G) : cx_V E pc lv (.int x :: st) G := by
  obtain ⟨k', ⟨p, l', e, R, s, m, args, below, meth, c⟩, nL', fr', c0, s0, Q⟩ := E
  obtain ⟨hx, hb, hml, rfl, hown, hSt, -⟩ := hE
  intro H locs ls cells slots h1 h2 h3 h4 h5
  exact lv_if_le hx hb hd ht (fun q => kt q H locs ls cells slots h1 h2 h3 h4 h5) (fun q => kf q H locs ls cells slots h1 h2 h3 h4 h5)
theorem cx_icmp_le {x y : Int32} {off : Int} {tgt : Nat} (hE : cx_C E k l fr M G0 Post) (hd : decode M.2.1 pc = .ok (.if_icmp .le off, 3)) (ht : (pc : Int) + off = (tgt : Int)) (kt : x ≤ y → cx_V E tgt lv st G) (kf : ¬ x ≤ y → cx_V E (pc + 3) lv st G) : cx_V E pc lv (.int y :: .int x :: st) G := by
  obtain ⟨k', ⟨p, l', e, R, s, m, args, below, meth, c⟩, nL', fr', c0, s0, Q⟩ := E
  obtain ⟨hx, hb, hml, rfl, hown, hSt, -⟩ := hE
  intro H locs ls cells slots h1 h2 h3 h4 h5
  exact lv_icmp_le hx hb hd ht (fun q => kt q H locs ls cells slots h1 h2 h3 h4 h5) (fun q => kf q H locs ls cells slots h1 h2 h3 h4 h5)
theorem cx_acmp_eq {rx ry : Option Nat} {off : Int} {tgt : Nat} (hE : cx_C E k l fr M G0 Post) (hd : decode M.2.1 pc = .ok (.if_acmp .eq off, 3)) (ht : (pc : Int) + off = (tgt : Int)) (kt : rx = ry → cx_V E tgt lv st G) (kf : ¬ rx = ry → cx_V E (pc + 3) lv st G) : cx_V E pc lv (va_rf ry :: va_rf rx :: st) G := by
  obtain ⟨k', ⟨p, l', e, R, s, m, args, below, meth, c⟩, nL', fr', c0, s0, Q⟩ := E
  obtain ⟨hx, hb, hml, rfl, hown, hSt, -⟩ := hE
  intro H locs ls cells slots h1 h2 h3 h4 h5
  exact lv_acmp_eq hx hb hd ht (fun q => kt q H locs ls cells slots h1 h2 h3 h4 h5) (fun q => kf q H locs ls cells slots h1 h2 h3 h4 h5)
theorem cx_acmp_ne {rx ry : Option Nat} {off : Int} {tgt : Nat} (hE : cx_C E k l fr M G0 Post) (hd : decode M.2.1 pc = .ok (.if_acmp .ne off, 3)) (ht : (pc : Int) + off = (tgt : Int)) (kt : ¬ rx = ry → cx_V E tgt lv st G) (kf : rx = ry → cx_V E (pc + 3) lv st G) : cx_V E pc lv (va_rf ry :: va_rf rx :: st) G := by
  obtain ⟨k', ⟨p, l', e, R, s, m, args, below, meth, c⟩, nL', fr', c0, s0, Q⟩ := E
  obtain ⟨hx, hb, hml, rfl, hown, hSt, -⟩ := hE
  intro H locs ls cells slots h1 h2 h3 h4 h5
  exact lv_acmp_ne hx hb hd ht (fun q => kt q H locs ls cells slots h1 h2 h3 h4 h5) (fun q => kf q H locs ls cells slots h1 h2 h3 h4 h5)
theorem cx_ifnull {r : Option Nat} {off : Int} {tgt : Nat} (hE : cx_C E k l fr M G0 Post) (hd : decode M.2.1 pc = .ok (.ifnull off, 3)) (ht : (pc : Int) + off = (tgt : Int)) (kt : r = none → cx_V E tgt lv st G) (kf : ∀ a, r = some a → cx_V E (pc + 3) lv st G) : cx_V E pc lv (va_rf r :: st) G := by
  obtain ⟨k', ⟨p, l', e, R, s, m, args, below, meth, c⟩, nL', fr', c0, s0, Q⟩ := E
  obtain ⟨hx, hb, hml, rfl, hown, hSt, -⟩ := hE
  intro H locs ls cells slots h1 h2 h3 h4 h5
  cases r with
  | none => exact lv_ifnullN hx hb hd ht (kt rfl H locs ls cells slots h1 h2 h3 h4 h5)
  | some a => exact lv_ifnull hx hb hd (kf a rfl H locs ls cells slots h1 h2 h3 h4 h5)
theorem cx_ifnonnull {r : Option Nat} {off : Int} {tgt : Nat} (hE : cx_C E k l fr M G0 Post) (hd : decode M.2.1 pc = .ok (.ifnonnull off, 3)) (ht : (pc : Int) + off = (tgt : Int)) (kt : ∀ a, r = some a → cx_V E tgt lv st G) (kf : r = none → cx_V E (pc + 3) lv st G) : cx_V E pc lv (va_rf r :: st) G := by
  obtain ⟨k', ⟨p, l', e, R, s, m, args, below, meth, c⟩, nL', fr', c0, s0, Q⟩ := E
  obtain ⟨hx, hb, hml, rfl, hown, hSt, -⟩ := hE
  intro H locs ls cells slots h1 h2 h3 h4 h5
  cases r with
  | none => exact lv_ifnonnullN hx hb hd (kf rfl H locs ls cells slots h1 h2 h3 h4 h5)
  | some a => exact lv_ifnonnull hx hb hd ht (kt a rfl H locs ls cells slots h1 h2 h3 h4 h5)
theorem cx_goto {off : Int} {tgt : Nat} (hE : cx_C E k l fr M G0 Post) (hd : decode M.2.1 pc = .ok (.goto off, 3)) (ht : (pc : Int) + off = (tgt : Int)) (h : cx_V E tgt lv st G) : cx_V E pc lv (st) G := by
  obtain ⟨k', ⟨p, l', e, R, s, m, args, below, meth, c⟩, nL', fr', c0, s0, Q⟩ := E
  obtain ⟨hx, hb, hml, rfl, hown, hSt, -⟩ := hE
  intro H locs ls cells slots h1 h2 h3 h4 h5
  exact lv_goto hx hb hd ht (h H locs ls cells slots h1 h2 h3 h4 h5)
theorem cx_lookup {dflt : Int} {ps : Array (Int × Int)} {len : Nat} {x : Int32} {off : Int} {tgt : Nat} (hE : cx_C E k l fr M G0 Post) (hd : decode M.2.1 pc = .ok (.lookupswitch dflt ps, len)) (hp : (ps.toList.zip (ps.toList.drop 1)).all (fun (a, next) => a.1 < next.1) = true) (ho : Op.lookupswitch.offset ps.toList dflt x.toInt = off) (ht : (pc : Int) + off = (tgt : Int)) (h : cx_V E tgt lv st G) : cx_V E pc lv (.int x :: st) G := by
  obtain ⟨k', ⟨p, l', e, R, s, m, args, below, meth, c⟩, nL', fr', c0, s0, Q⟩ := E
  obtain ⟨hx, hb, hml, rfl, hown, hSt, -⟩ := hE
  intro H locs ls cells slots h1 h2 h3 h4 h5
  exact lv_lookup hx hb hd hp ho ht (h H locs ls cells slots h1 h2 h3 h4 h5)
theorem cx_tableOut {dflt lo hi : Int} {offs : Array Int} {len : Nat} {x : Int32} {tgt : Nat} (hE : cx_C E k l fr M G0 Post) (hd : decode M.2.1 pc = .ok (.tableswitch dflt lo hi offs, len)) (hq : x.toInt < lo ∨ hi < x.toInt) (ht : (pc : Int) + dflt = (tgt : Int)) (h : cx_V E tgt lv st G) : cx_V E pc lv (.int x :: st) G := by
  obtain ⟨k', ⟨p, l', e, R, s, m, args, below, meth, c⟩, nL', fr', c0, s0, Q⟩ := E
  obtain ⟨hx, hb, hml, rfl, hown, hSt, -⟩ := hE
  intro H locs ls cells slots h1 h2 h3 h4 h5
  exact lv_tableOut hx hb hd hq ht (h H locs ls cells slots h1 h2 h3 h4 h5)
theorem cx_tableIn {dflt lo hi : Int} {offs : Array Int} {len : Nat} {x : Int32} {off : Int} {tgt : Nat} (hE : cx_C E k l fr M G0 Post) (hd : decode M.2.1 pc = .ok (.tableswitch dflt lo hi offs, len)) (hq1 : ¬ x.toInt < lo) (hq2 : ¬ hi < x.toInt) (ho : offs[(x.toInt - lo).toNat]? = some off) (ht : (pc : Int) + off = (tgt : Int)) (h : cx_V E tgt lv st G) : cx_V E pc lv (.int x :: st) G := by
  obtain ⟨k', ⟨p, l', e, R, s, m, args, below, meth, c⟩, nL', fr', c0, s0, Q⟩ := E
  obtain ⟨hx, hb, hml, rfl, hown, hSt, -⟩ := hE
  intro H locs ls cells slots h1 h2 h3 h4 h5
  exact lv_tableIn hx hb hd hq1 hq2 ho ht (h H locs ls cells slots h1 h2 h3 h4 h5)
end CXR

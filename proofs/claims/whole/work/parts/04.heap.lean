/-! THE HEAP'S ROWS: fields, new objects, arrays; a method's ends; calls. -/
/-- the entry idx of own's pool is field i of class ci, of type ty, final or not -/
def cx_F (own : String) (idx ci i : Nat) (ty : FieldType) (fin : Bool) : Prop :=
  ∃ (C : String) (T : u_T) (N : Nat) (t : Nat → FieldType), cx_cls ci C T N t ∧ i < N ∧ t i = ty ∧ (T i).2.2.2 = fin ∧
    (Cond.fieldLink own idx (T i).1 (T i).2.1 (T i).2.2.1 ∈ lw_tbl ∨ ∃ host, Cond.fieldLinkNest own idx (T i).1 (T i).2.1 (T i).2.2.1 host ∈ lw_tbl)
/-- the same, in own's constructor: a final field that own declares -/
def cx_FF (own : String) (idx ci i : Nat) (ty : FieldType) : Prop :=
  ∃ (C : String) (T : u_T) (N : Nat) (t : Nat → FieldType), cx_cls ci C T N t ∧ i < N ∧ t i = ty ∧ (T i).2.2.2 = true ∧ (T i).1 = own ∧ Cond.fieldLink own idx (T i).1 (T i).2.1 (T i).2.2.1 ∈ lw_tbl
/-- the entry idx of own's pool is class ci, whose new objects hold fs -/
def cx_N (own : String) (idx ci : Nat) (fs : List Value) : Prop :=
  ∃ (C : String) (T : u_T) (t : Nat → FieldType), cx_cls ci C T fs.length t ∧ Cond.classLink own idx C ∈ lw_tbl ∧ Cond.instantiable C fs.length ∈ lw_tbl ∧ Cond.initialized C ∈ lw_tbl ∧ ∀ j, j < fs.length → defaultValue (t j) = vp_V fs j
theorem cx_ok_lay (C : String) (T : u_T) (N : Nat) : ∀ w ∈ u_ws C T N, cx_ok w = true := by
  intro w hw
  obtain ⟨i, -, rfl⟩ := List.mem_map.mp hw
  unfold u_lay
  split <;> rfl
theorem cx_H.look {k : cx_K} {G : cx_G} {H : Heap} (h : cx_H k G H) {a : Nat} {e : va_E} (ha : G.1 a = some e) : ∃ (ws : va_W) (i : Nat), va_P k.1 classes ws H ∧ va_D (cx_A k) ws ∧ (∀ (a : Nat) (e : va_E), G.1 a = some e ↔ ∃ i : Nat, ws[i]? = some (a, e)) ∧ ws[i]? = some (a, e) := by
  obtain ⟨-, -, ws, h1, h2, h3⟩ := h
  obtain ⟨i, hi⟩ := (h3 a e).mp ha
  exact ⟨ws, i, h1, h2, h3, hi⟩
theorem cx_H.lt {k : cx_K} {G : cx_G} {H : Heap} (h : cx_H k G H) {a : Nat} {e : va_E} (ha : G.1 a = some e) : a < H.size ∧ k.2.2.1 ≤ a := by
  obtain ⟨ws, i, h1, h2, -, hi⟩ := h.look ha
  exact ⟨(h1 i _ hi).lt, h2.2 i _ hi⟩
theorem cx_H.set {k : cx_K} {G : cx_G} {H1 : Heap} {ws : va_W} {i a : Nat} {e0 e : va_E} (hn1 : G.2.1 ≤ room_1.cells) (hn2 : G.2.2 ≤ room_1.slots) (hD0 : va_D (cx_A k) ws) (hw : ∀ (a : Nat) (e : va_E), G.1 a = some e ↔ ∃ i : Nat, ws[i]? = some (a, e)) (hi : ws[i]? = some (a, e0))
    (hP : va_P k.1 classes (ws.set i (a, e)) H1) (hD : va_D (cx_A k) (ws.set i (a, e))) : cx_H k (cx_put G a e) H1 := by
  refine ⟨hn1, hn2, ws.set i (a, e), hP, hD, fun b f => ?_⟩
  have hl : i < ws.length := (List.getElem?_eq_some_iff.mp hi).1
  show (if b = a then some e else G.1 b) = some f ↔ _
  by_cases hb : b = a
  · subst hb
    rw [if_pos rfl]
    constructor
    · intro h
      cases h
      exact ⟨i, List.getElem?_set_self hl⟩
    · rintro ⟨j, hj⟩
      have hij : j = i := hD.1 j i _ _ hj (List.getElem?_set_self hl) rfl
      subst hij
      rw [List.getElem?_set_self hl] at hj
      cases hj
      rfl
  · rw [if_neg hb, hw b f]
    constructor
    · rintro ⟨j, hj⟩
      have hij : i ≠ j := fun e9 => by
        subst e9
        rw [hi] at hj
        cases hj
        exact hb rfl
      exact ⟨j, by rw [List.getElem?_set_ne hij]; exact hj⟩
    · rintro ⟨j, hj⟩
      have hij : i ≠ j := fun e9 => by
        subst e9
        rw [List.getElem?_set_self hl] at hj
        cases hj
        exact hb rfl
      exact ⟨j, by rw [List.getElem?_set_ne hij] at hj; exact hj⟩
theorem cx_H.push {k : cx_K} {G : cx_G} {H1 : Heap} {ws : va_W} {a n : Nat} {e : va_E} (hn1 : G.2.1 + 1 ≤ room_1.cells) (hn2 : G.2.2 + n ≤ room_1.slots) (hw : ∀ (a : Nat) (e : va_E), G.1 a = some e ↔ ∃ i : Nat, ws[i]? = some (a, e))
    (hP : va_P k.1 classes (ws ++ [(a, e)]) H1) (hD : va_D (cx_A k) (ws ++ [(a, e)])) : cx_H k (cx_mk G a e n) H1 ∧ G.1 a = none ∧ k.2.2.1 ≤ a := by
  have hlast : (ws ++ [(a, e)])[ws.length]? = some (a, e) := by rw [List.getElem?_append_right (Nat.le_refl _), Nat.sub_self]; rfl
  have hin : ∀ (j : Nat) (q : Nat × va_E), ws[j]? = some q → (ws ++ [(a, e)])[j]? = some q := fun j q hj => by
    rw [List.getElem?_append_left (List.getElem?_eq_some_iff.mp hj).1]; exact hj
  have hne : ∀ (j : Nat) (q : Nat × va_E), ws[j]? = some q → q.1 ≠ a := fun j q hj e9 => by
    have := hD.1 j ws.length q (a, e) (hin j q hj) hlast e9
    have hl := (List.getElem?_eq_some_iff.mp hj).1
    omega
  refine ⟨⟨hn1, hn2, ws ++ [(a, e)], hP, hD, fun b f => ?_⟩, ?_, hD.2 _ _ hlast⟩
  · show (if b = a then some e else G.1 b) = some f ↔ _
    by_cases hb : b = a
    · subst hb
      rw [if_pos rfl]
      constructor
      · intro h
        cases h
        exact ⟨_, hlast⟩
      · rintro ⟨j, hj⟩
        have hij := hD.1 j ws.length _ _ hj hlast rfl
        subst hij
        rw [hlast] at hj
        cases hj
        rfl
    · rw [if_neg hb, hw b f]
      constructor
      · rintro ⟨j, hj⟩
        exact ⟨j, hin j _ hj⟩
      · rintro ⟨j, hj⟩
        by_cases hl : j < ws.length
        · exact ⟨j, by rw [List.getElem?_append_left hl] at hj; exact hj⟩
        · have hij : j = ws.length := by
            have := (List.getElem?_eq_some_iff.mp hj).1
            rw [List.length_append, List.length_singleton] at this
            omega
          subst hij
          rw [hlast] at hj
          cases hj
          exact absurd rfl hb
  · cases hg : G.1 a with
    | none => rfl
    | some f =>
      obtain ⟨j, hj⟩ := (hw a f).mp hg
      exact absurd rfl (hne j _ hj)
section CXH
variable {E : cx_E} {k : cx_K} {l : Launch} {fr : Nat} {M : cx_M} {G0 : cx_G} {Post : cx_R → cx_G → Prop} {pc : Nat} {lv : cx_L} {st : List Value} {G : cx_G}
theorem cx_get {idx ci i a : Nat} {ty : FieldType} {fin : Bool} {fs : List Value} {v : Value} (hE : cx_C E k l fr M G0 Post) (hd : decode M.2.1 pc = .ok (.getfield idx, 3)) (hF : cx_F M.1.cls idx ci i ty fin) (hG : G.1 a = some (.inr (ci, fs))) (hv : fs[i]? = some v) (h : cx_V E (pc + 3) lv (v :: st) G) : cx_V E pc lv (.ref a :: st) G := by
  obtain ⟨k', ⟨p, l', e, R, s, m, args, below, meth, c⟩, nL', fr', c0, s0, Q⟩ := E
  obtain ⟨hx, hb, hml, rfl, hown, hSt, rfl, -⟩ := hE
  intro H locs ls cells slots h1 h2 h3 h4 h5
  obtain ⟨ws, q0, hP, hD, -, hq⟩ := h1.look hG
  obtain ⟨C, T, N, t, ⟨c1, c2, c3, c4⟩, hi, -, -, hl⟩ := hF
  have hts : ∀ w ∈ u_ws C T N, w.before args s = true := fun w hw => hSt.1 w (c2 w hw) (cx_ok_lay C T N w hw) args
  rcases hl with hl | ⟨host, hl⟩
  · exact va_get hx hb hts (fun w hw => hw) hown hSt.2.1 hP q0 hq c1 i hi (hSt.1 _ hl rfl args) (fun _ h9 => h9) hv hd (h H locs ls cells slots h1 h2 h3 h4 h5)
  · exact va_getN hx hb hts (fun w hw => hw) hown hSt.2.1 hP q0 hq c1 i hi (hSt.1 _ hl rfl args) (fun _ h9 => h9) hv hd (h H locs ls cells slots h1 h2 h3 h4 h5)
theorem cx_putf {idx ci i a : Nat} {ty : FieldType} {fs : List Value} {v : Value} (hE : cx_C E k l fr M G0 Post) (hd : decode M.2.1 pc = .ok (.putfield idx, 3)) (hF : cx_F M.1.cls idx ci i ty false) (hG : G.1 a = some (.inr (ci, fs))) (hl : i < fs.length) (hn : narrow ty v = v) (hf : fits ty v = true) (h : cx_V E (pc + 3) lv st (cx_put G a (.inr (ci, fs.set i v)))) : cx_V E pc lv (v :: .ref a :: st) G := by
  obtain ⟨k', ⟨p, l', e, R, s, m, args, below, meth, c⟩, nL', fr', c0, s0, Q⟩ := E
  obtain ⟨hx, hb, hml, rfl, hown, hSt, rfl, -⟩ := hE
  intro H locs ls cells slots h1 h2 h3 h4 h5
  obtain ⟨ws, q0, hP, hD, hw, hq⟩ := h1.look hG
  obtain ⟨C, T, N, t, ⟨c1, c2, c3, c4⟩, hi, hty, hfin, hlk⟩ := hF
  have hts : ∀ w ∈ u_ws C T N, w.before args s = true := fun w hw => hSt.1 w (c2 w hw) (cx_ok_lay C T N w hw) args
  have hdesc : parseFieldDescriptor (T i).2.2.1 = some ty := by rw [c3 i hi, hty]
  rcases hlk with hlk | ⟨host, hlk⟩
  · exact va_put hx hb hts (fun w hw => hw) t c3 c4 hown hSt.2.1 hP hD h2 q0 hq c1 i hi (hSt.1 _ hlk rfl args) (fun _ h9 => h9) hfin hdesc hn hf hl hd (fun H1 locs1 hP1 hD1 hS1 => h H1 locs1 ls cells slots (cx_H.set h1.1 h1.2.1 hD hw hq hP1 hD1) hS1 h3 h4 h5)
  · exact va_putN hx hb hts (fun w hw => hw) t c3 c4 hown hSt.2.1 hP hD h2 q0 hq c1 i hi (hSt.1 _ hlk rfl args) (fun _ h9 => h9) hfin hdesc hn hf hl hd (fun H1 locs1 hP1 hD1 hS1 => h H1 locs1 ls cells slots (cx_H.set h1.1 h1.2.1 hD hw hq hP1 hD1) hS1 h3 h4 h5)
theorem cx_putF {idx ci i a : Nat} {ty : FieldType} {fs : List Value} {v : Value} (hE : cx_C E k l fr M G0 Post) (hd : decode M.2.1 pc = .ok (.putfield idx, 3)) (hF : cx_FF M.1.cls idx ci i ty) (hI : M.1.name = "<init>") (hG : G.1 a = some (.inr (ci, fs))) (hl : i < fs.length) (hn : narrow ty v = v) (hf : fits ty v = true) (h : cx_V E (pc + 3) lv st (cx_put G a (.inr (ci, fs.set i v)))) : cx_V E pc lv (v :: .ref a :: st) G := by
  obtain ⟨k', ⟨p, l', e, R, s, m, args, below, meth, c⟩, nL', fr', c0, s0, Q⟩ := E
  obtain ⟨hx, hb, hml, rfl, hown, hSt, rfl, -, -, -, -, -, -, -, -, hnm, -⟩ := hE
  intro H locs ls cells slots h1 h2 h3 h4 h5
  obtain ⟨ws, q0, hP, hD, hw, hq⟩ := h1.look hG
  obtain ⟨C, T, N, t, ⟨c1, c2, c3, c4⟩, hi, hty, hfin, hdcl, hlk⟩ := hF
  have hts : ∀ w ∈ u_ws C T N, w.before args s = true := fun w hw => hSt.1 w (c2 w hw) (cx_ok_lay C T N w hw) args
  have hdesc : parseFieldDescriptor (T i).2.2.1 = some ty := by rw [c3 i hi, hty]
  exact va_putF hx hb hts (fun w hw => hw) t c3 c4 hown hSt.2.1 hP hD h2 q0 hq c1 i hi (hSt.1 _ hlk rfl args) (fun _ h9 => h9) hfin (hnm.trans hI) hdcl hdesc hn hf hl hd (fun H1 locs1 hP1 hD1 hS1 => h H1 locs1 ls cells slots (cx_H.set h1.1 h1.2.1 hD hw hq hP1 hD1) hS1 h3 h4 h5)
theorem cx_new {idx ci : Nat} {fs : List Value} (hE : cx_C E k l fr M G0 Post) (hd : decode M.2.1 pc = .ok (.new idx, 3)) (hN : cx_N M.1.cls idx ci fs) (hn1 : G.2.1 + 1 ≤ room_1.cells) (hn2 : G.2.2 + fs.length ≤ room_1.slots) (h : ∀ a, G.1 a = none → k.2.2.1 ≤ a → cx_V E (pc + 3) lv (.ref a :: st) (cx_mk G a (.inr (ci, fs)) fs.length)) : cx_V E pc lv st G := by
  obtain ⟨k', ⟨p, l', e, R, s, m, args, below, meth, c⟩, nL', fr', c0, s0, Q⟩ := E
  obtain ⟨hx, hb, hml, rfl, hown, hSt, rfl, -, hb0, -, -, hrc, hrs, -, -, -, -, -, -, rfl, rfl, -⟩ := hE
  intro H locs ls cells slots h1 h2 h3 h4 h5
  obtain ⟨-, -, ws, hP, hD, hw⟩ := h1
  obtain ⟨C, T, t, ⟨c1, c2, c3, c4⟩, hlk, hinst, hini, hdef⟩ := hN
  have hts : ∀ w ∈ u_ws C T fs.length, w.before args s = true := fun w hw => hSt.1 w (c2 w hw) (cx_ok_lay C T fs.length w hw) args
  refine va_new (c0 := c) hx hb hts (fun w hw => hw) t c3 hown (hSt.1 _ hlk rfl args) (hSt.1 _ hinst rfl args) (hSt.1 _ hini rfl args) hSt.2.1 hP hD h2 (fun q hq => Nat.le_trans hb0 hq) c1 hdef (by omega) (by omega) hd (fun q H1 hP1 hD1 hS1 => ?_)
  obtain ⟨g1, g2, g3⟩ := cx_H.push (G := G) (n := fs.length) hn1 hn2 hw hP1 hD1
  exact h q g2 g3 H1 locs ls (cells + 1) (slots + fs.length) g1 hS1 h3 (by show _ = G.2.1 + 1; omega) (by show _ = G.2.2 + fs.length; omega)
end CXH

/-! GRAMMAR: steps of methods that declare. -/
def tx_A.mw (A : tx_A) : Nat × (List Int32 → Option Nat) := (A.me, A.wf)
/-- what a method of Grammar leaves that may declare -/
def tx_gd {α : Type} (k : cx_K) (F : Nat → Prop) (L : tx_Ls) (gr : Nat) (b : Nat × Nat) (G0 : cx_G) (me : Nat × (List Int32 → Option Nat)) (ve : Nat) (f : Nat) (enc : α → Option Value) (Q : List Nat × Option Nat → Prop) (R : tx_R α) : cx_R → cx_G → Prop := fun r G' => (∃ a i s A', R = .inr (a, i, s) ∧ r = .inl (enc a) ∧ A'.mw = me ∧ A'.ve = ve ∧ tx_g k F L gr b G' A' i f s ∧ tx_gs F gr G0 G' ∧ Q (tx_shp s)) ∨ ∃ e x, R = .inl e ∧ r = .inr x ∧ tx_gt F L gr b G0 ve e x G'
section TXH
variable {k : cx_K} {F : Nat → Prop} {L : tx_Ls} {gr : Nat} {b : Nat × Nat} {G G' : cx_G} {A A' : tx_A} {i f : Nat} {s s' : tx_S}
/-- Meaning has made cells: they are paid by the token that was taken -/
theorem tx_g.grow (hg : tx_g k F L gr b G A (i + 1) f s) (hm : tx_m k F G' A' s') (hst : tx_st F G G') (e1 : A'.me = A.me) (e2 : A'.ve = A.ve) (e3 : A'.wf = A.wf) (hA : tx_gA b G' A' (tx_shp s') (i + 1)) : tx_g k F L gr b G' A' (i + 1) f s' := by
  obtain ⟨-, g2, ⟨g3, g4⟩, ⟨g5, g6, g7⟩, -⟩ := hg
  have ew : ∀ x, A'.w x = A.w x := fun x => by unfold tx_A.w; rw [e3]
  refine ⟨hm, fun c hF => ?_, ⟨⟨fun j x hx => hst.t (g3.1 j x hx), g3.2⟩, fun x hx => ?_⟩, ⟨g5, g6, ?_⟩, hA⟩
  · obtain ⟨e, he⟩ := g2 c hF
    exact ⟨e, hst _ _ (Or.inl hF) he⟩
  · rw [ew, e3]
    exact g4 x hx
  · rw [e1, e2]
    exact hst _ _ (Or.inr (fun z => by rcases z with z | z | z | z | z | z <;> exact absurd z (by decide))) g7
theorem tx_shp.ad {s : tx_S} {n0 : Nat} (h : (tx_shp s).2 = some n0) (r : tx_N) : tx_shp (s.ad r) = ((tx_shp s).1, some (n0 + 1)) := by
  obtain ⟨u, hu, hl⟩ := tx_shp.cur h
  unfold tx_shp tx_S.ad
  show (_, (s.2.2.1.map (tx_adn r)).map _) = _
  rw [hu]
  show (_, some (u.2.2.1 ++ [r]).length) = _
  rw [List.length_append, hl]
  rfl
theorem tx_shp.dcl {s : tx_S} {n0 : Nat} (h : (tx_shp s).2 = some n0) (t : tx_Tk) (kd wd : Int32) : tx_shp (tx_dcl t kd wd s) = ((tx_shp s).1, some (n0 + 1)) := by
  unfold tx_dcl
  rw [tx_shp.ad (by rw [tx_shp.ck]; exact h), tx_shp.ck]
theorem tx_shp.l1 {s : tx_S} {p : List Nat × Option Nat} (h : tx_shp s = p) : s.2.1.length = p.1.length := by
  rw [← h]
  exact (List.length_map ..).symm
theorem tx_lpo_ok {u : tx_U} {q : Nat} {r : tx_N} {t : tx_Tk} (hI : tx_mI s) (hu : s.2.2.1 = some u) (hr : u.2.2.1[q]? = some r) {x : Nat × Nat} (h : (tx_lpo q t s).1 = some x) : ∃ ux : tx_U, s.all[x.1]? = some ux ∧ x.2 < ux.2.2.1.length := by
  have h1 : tx_lpt q t s = some x := by
    unfold tx_lpo at h
    cases hl : tx_lpt q t s with
    | none => rw [hl] at h; cases h
    | some y =>
      rw [hl] at h
      have h9 : (if (s.rj y.1 y.2).2.2.2.2.2.2.2.2.2 = some (s.2.1.length, q) then ((none, tx_ck false 23 (nI t.2.1) s) : Option (Nat × Nat) × tx_S) else (some y, ((tx_ck true 23 (nI t.2.1) s).mn y.1 y.2 (tx_lb (some (s.2.1.length, q)))).mn s.2.1.length q tx_lc)).1 = some x := h
      split at h9
      · cases h9
      · exact h9
  unfold tx_lpt at h1
  rw [tx_S.rc_of hu hr] at h1
  cases hof : r.2.2.2.2.2.2.2.1 with
  | none => rw [hof] at h1; cases h1
  | some j =>
    rw [hof] at h1
    have h2 : (tx_port (s.un j) t.2.2.2.1).map (fun i => (j, i)) = some x := h1
    have hj := ((hI.2.2.2 _ u (tx_S.cur hu)).2 q r hr).1 j hof
    have hal : s.all[j]? = some (s.2.1[j]) := by unfold tx_S.all; rw [List.getElem?_append_left hj]; exact List.getElem?_eq_getElem hj
    rw [tx_S.un_of hal] at h2
    cases hp : tx_port s.2.1[j] t.2.2.2.1 with
    | none => rw [hp] at h2; cases h2
    | some i =>
      rw [hp] at h2
      cases h2
      exact ⟨_, hal, tx_port_lt hp⟩
theorem tx_g.dq (hg : tx_g k F L gr b G A (i + 1) f s) (hac : tx_gA b G A (tx_shp s) i) {n0 : Nat} (hn0 : (tx_shp s).2 = some n0) (hsh : tx_shp s' = ((tx_shp s).1, some (n0 + 1))) {r : cx_R} (hq : tx_dq k F G A s.2.1.length n0 s' r G') : ∃ A' : tx_A, r = .inl (some (.ref (A'.na s.2.1.length n0))) ∧ A'.mw = A.mw ∧ A'.ve = A.ve ∧ A'.ua = A.ua ∧ tx_g k F L gr b G' A' (i + 1) f s' ∧ tx_gs F gr G G' := by
  obtain ⟨A', q1, q2, q3, q4, q5, q6, q7, q8, q9, q10, q11, q12⟩ := hq
  refine ⟨A', q1, (by unfold tx_A.mw; rw [q2, q4]), q3, q6, hg.grow q7 q8 q2 q3 q4 ?_, q8.gs⟩
  obtain ⟨a1, a2, a3, a4⟩ := hac
  have e1 : (tx_shp s).1.length = s.2.1.length := List.length_map ..
  rw [hn0, e1] at a2
  rw [hn0] at a4
  rw [e1] at a3
  rw [hsh]
  simp only [Option.getD_some] at a2 a4
  refine ⟨by omega, ?_, ?_, ?_⟩
  · show G'.2.2 + 8 * (tx_shp s).1.length + 8 * (n0 + 1) ≤ b.2 + 80 * (i + 1) + 4 * A'.uc + 4 * A'.nc (tx_shp s).1.length
    rw [e1]
    omega
  · show (tx_shp s).1.length ≤ _
    omega
  · show n0 + 1 ≤ _
    omega
/-- a module begins -/
theorem tx_g.bq (hg : tx_g k F L gr b G A (i + 1) f s) (hac : tx_gA b G A (tx_shp s) i) {p1 : List Nat} (hp : tx_shp s = (p1, none)) (hsh : tx_shp s' = (p1, some 0)) (q2 : A'.me = A.me) (q3 : A'.ve = A.ve) (q4 : A'.wf = A.wf) (q5 : A'.uc = A.uc) (q6 : A'.nc s.2.1.length = 0) (q7 : tx_m k F G' A' s') (q8 : tx_st F G G') (q9 : G'.2.1 = G.2.1 + 2) (q10 : G'.2.2 = G.2.2 + 13) : tx_g k F L gr b G' A' (i + 1) f s' := by
  refine hg.grow q7 q8 q2 q3 q4 ?_
  obtain ⟨a1, a2, a3, a4⟩ := hac
  rw [hp] at a2 a3 a4
  have a2' : G.2.2 + 8 * p1.length + 8 * 0 ≤ b.2 + 80 * i + 4 * A.uc + 4 * 0 := a2
  have a3' : p1.length ≤ i := a3
  rw [hsh]
  refine ⟨by omega, ?_, ?_, ?_⟩
  · show G'.2.2 + 8 * p1.length + 8 * 0 ≤ b.2 + 80 * (i + 1) + 4 * A'.uc + 4 * A'.nc p1.length
    omega
  · show p1.length ≤ _
    omega
  · show 0 ≤ _
    omega
/-- a module ends -/
theorem tx_g.fq {n0 : Nat} (hg : tx_g k F L gr b G A (i + 1) f s) (hac : tx_gA b G A (tx_shp s) i) {p1 : List Nat} (hp : tx_shp s = (p1, some n0)) (hsh : tx_shp s' = (p1 ++ [n0], none)) (q2 : A'.me = A.me) (q3 : A'.ve = A.ve) (q4 : A'.wf = A.wf) (q7 : tx_m k F G' A' s') (q8 : tx_st F G G') (q9 : G'.2.1 ≤ G.2.1 + 1) (q10 : G'.2.2 + 4 * A.uc ≤ G.2.2 + 4 * A'.uc) : tx_g k F L gr b G' A' (i + 1) f s' := by
  obtain ⟨u, hu, hul⟩ := tx_shp.cur (s := s) (n := n0) (by rw [hp])
  have hcap := (hg.1.2.2.2.2.1 _ u (tx_S.cur hu)).le
  rw [List.length_map, List.length_range, tx_shp.l1 hp, hul] at hcap
  have hcap' : 4 * A.nc p1.length ≤ 40 + 8 * n0 := hcap
  refine hg.grow q7 q8 q2 q3 q4 ?_
  obtain ⟨a1, a2, a3, a4⟩ := hac
  rw [hp] at a2 a3 a4
  have a2' : G.2.2 + 8 * p1.length + 8 * n0 ≤ b.2 + 80 * i + 4 * A.uc + 4 * A.nc p1.length := a2
  have a3' : p1.length ≤ i := a3
  rw [hsh]
  have hl : (p1 ++ [n0]).length = p1.length + 1 := by rw [List.length_append]; rfl
  refine ⟨by omega, ?_, ?_, ?_⟩
  · show G'.2.2 + 8 * (p1 ++ [n0]).length + 8 * 0 ≤ b.2 + 80 * (i + 1) + 4 * A'.uc + 4 * 0
    omega
  · show (p1 ++ [n0]).length ≤ _
    omega
  · show 0 ≤ _
    omega
/-- a count of the module that is being read grows -/
theorem tx_g.um {u : tx_U} (hg : tx_g k F L gr b G A i f s) (hu : s.2.2.1 = some u) {g : tx_U → tx_U} (hn : ∀ u, (g u).2.2.1 = u.2.2.1) {e : va_E} (he : e = tx_um A s.2.1.length (g u)) (hG : cx_put G (A.ua s.2.1.length) e = G') : tx_g k F L gr b G' A i f (s.cu g) ∧ tx_gs F gr G G' ∧ tx_shp (s.cu g) = tx_shp s := by
  subst he
  have h := hg.1.um (g := g) (tx_S.cur hu) hn
  have hsh : tx_shp (s.cu g) = tx_shp s := tx_shp.mu s _ (fun u => by rw [hn])
  rw [hG] at h
  exact ⟨hg.mq h.1 h.2 (cx_pc hG) hsh, h.2.gs, hsh⟩
theorem tx_ad_inj (hg : tx_g k F L gr b G A i f s) {j j' : Nat} (hj : j < L.length) (hj' : j' < L.length) (h : tx_ad L j = tx_ad L j') : j = j' := by
  have x1 := List.getElem?_eq_getElem hj
  have x2 := List.getElem?_eq_getElem hj'
  rw [tx_ad_of x1, tx_ad_of x2] at h
  exact hg.2.2.1.1.2 j j' _ _ x1 x2 h
theorem tx_shp.bu (s : tx_S) (t : tx_Tk) : tx_shp (tx_bun t s) = ((tx_shp s).1, some 0) := by
  unfold tx_bun
  show ((tx_shp (tx_ck _ _ _ s)).1, some 0) = _
  rw [tx_shp.ck]
theorem tx_shp.fck : ∀ l : List tx_N, ∀ s : tx_S, tx_shp (l.foldl tx_fck s) = tx_shp s := by
  intro l
  induction l with
  | nil => intro s; rfl
  | cons x l ih => intro s; exact (ih _).trans (tx_shp.ck ..)
theorem tx_shp.fu {s : tx_S} {n0 : Nat} (h : (tx_shp s).2 = some n0) : tx_shp (tx_fun s) = ((tx_shp s).1 ++ [n0], none) := by
  have h9 := tx_shp.fck s.uu.2.2.1 s
  unfold tx_fun
  generalize s.uu.2.2.1.foldl tx_fck s = s9 at h9
  rw [← h9] at h ⊢
  obtain ⟨u, hu, hl⟩ := tx_shp.cur h
  unfold tx_shp tx_S.fu tx_S.uu
  rw [hu]
  show ((s9.2.1 ++ [u]).map _, none) = _
  rw [List.map_append]
  show (_ ++ [u.2.2.1.length], none) = _
  rw [hl]
end TXH
section TXJ
variable {E : cx_E} {k : cx_K} {l : Launch} {fr : Nat} {M : cx_M} {G0 : cx_G} {Post : cx_R → cx_G → Prop} {pc : Nat} {lv : cx_L} {st stk : List Value} {G : cx_G} {α : Type} {F : Nat → Prop} {L : tx_Ls} {gr : Nat} {b : Nat × Nat} {A : tx_A} {i f : Nat} {s s' : tx_S} {R0 : tx_R α} {me : Nat × (List Int32 → Option Nat)} {ve : Nat}
/-- a method of Grammar that may declare is called -/
theorem cx_gdU {idx fr' : Nat} {M' : cx_M} {av : List Value} {f2 : Nat} {R1 : tx_R Unit} {g : Unit → Nat → tx_S → tx_R α} {Q : List Nat × Option Nat → Prop} (hE : cx_C E k l fr M G0 Post) (hd : decode M.2.1 pc = .ok (.invokevirtual idx, 3)) (hM : M.1.cls = "CircuitText$Grammar") (hh : M.2.2.2.2.1 = []) (hL : cx_LV "CircuitText$Grammar" idx 1 M') (hT : ∀ e x G', R0 = .inl e → tx_gt F L gr b G0 ve e x G' → Post (.inr x) G') (hg : tx_g k F L gr b G A i f s) (hs : tx_gs F gr G0 G) (hR : R0 = R1.and g) (hSp : cx_Sp k l M' fr' (.ref gr :: av) G (tx_gd k F L gr b G me ve f2 (fun _ => none) Q R1)) (hst : stk = av.reverse ++ .ref gr :: st) (hfr : fr' + 1 ≤ fr) (hw : (st.map fun v => v.category).sum ≤ 8) (hn : (parseMethodDescriptor M'.1.desc).map (fun d => d.parameters.length) = some av.length) (hav : (Value.ref gr :: av).map (fun v => v.category) = M'.2.2.2.2.2.map cx_cat)
    (h : ∀ a i' s' A' G1, R1 = .inr (a, i', s') → A'.mw = me → A'.ve = ve → tx_g k F L gr b G1 A' i' f2 s' → tx_gs F gr G0 G1 → Q (tx_shp s') → R0 = g a i' s' → cx_V E (pc + 3) lv st G1) : cx_V E pc lv stk G := by
  refine cx_invV hE hd (hM ▸ hL) hg.cel hSp hst hfr hw hn hav (fun v G' q => ?_) (fun x G' q => ?_)
  · rcases q with ⟨a, i', s', A', q1, q2, q3, q4, q5, q6, q7⟩ | ⟨e, x, q1, q2, q3⟩
    · cases q2
      exact h a i' s' A' G' q1 q3 q4 q5 (hs.tr q6) q7 (by rw [hR, q1]; rfl)
    · cases q2
  · rcases q with ⟨a, i', s', A', q1, q2, q3⟩ | ⟨e, y, q1, q2, q3⟩
    · cases q2
    · cases q2
      exact cx_T.out hE hh (hT _ _ _ (by rw [hR, q1]; rfl) (tx_gt.of hs q3))
/-- Meaning declares a name -/
theorem cx_gdq {idx fr' : Nat} {M' : cx_M} {av : List Value} {n0 : Nat} {p1 : List Nat} (hE : cx_C E k l fr M G0 Post) (hd : decode M.2.1 pc = .ok (.invokevirtual idx, 3)) (hM : M.1.cls = "CircuitText$Grammar") (hL : cx_LV "CircuitText$Grammar" idx 3 M') (hme : A.mw = me) (hve : A.ve = ve) (hg : tx_g k F L gr b G A (i + 1) f s) (hs : tx_gs F gr G0 G) (hac : tx_gA b G A (tx_shp s) i) (hn0 : tx_shp s = (p1, some n0)) (hsh : tx_shp s' = ((tx_shp s).1, some (n0 + 1))) (hSp : cx_Sp k l M' fr' (.ref A.me :: av) G (tx_dq k F G A s.2.1.length n0 s')) (hst : stk = av.reverse ++ .ref A.me :: st) (hfr : fr' + 1 ≤ fr) (hw : (st.map fun v => v.category).sum ≤ 8) (hn : (parseMethodDescriptor M'.1.desc).map (fun d => d.parameters.length) = some av.length) (hav : (Value.ref A.me :: av).map (fun v => v.category) = M'.2.2.2.2.2.map cx_cat)
    (h : ∀ A' G1, A'.mw = me → A'.ve = ve → A'.ua = A.ua → tx_g k F L gr b G1 A' (i + 1) f s' → tx_gs F gr G0 G1 → tx_shp s' = (p1, some (n0 + 1)) → cx_V E (pc + 3) lv (.ref (A'.na p1.length n0) :: st) G1) : cx_V E pc lv stk G := by
  obtain ⟨y, hce, -⟩ := hg.1.2.1
  refine cx_invV hE hd (hM ▸ hL) hce hSp hst hfr hw hn hav (fun v G' q => ?_) (fun x G' q => by obtain ⟨_, q, _⟩ := q; cases q)
  obtain ⟨A', q1, q2, q3, q4, q5, q6⟩ := hg.dq hac (by rw [hn0]) hsh q
  rw [tx_shp.l1 hn0] at q1
  cases q1
  exact h A' G' (q2.trans hme) (q3.trans hve) q4 q5 (hs.tr q6) (by rw [hsh, hn0])
end TXJ

/-! GRAMMAR: steps of its methods. -/
/-- what a method of Grammar leaves that declares nothing -/
def tx_gp {α : Type} (k : cx_K) (F : Nat → Prop) (L : tx_Ls) (gr : Nat) (b : Nat × Nat) (G0 : cx_G) (A : tx_A) (f : Nat) (enc : α → Option Value) (s0 : tx_S) (R : tx_R α) : cx_R → cx_G → Prop := fun r G' => (∃ a i s, R = .inr (a, i, s) ∧ r = .inl (enc a) ∧ tx_g k F L gr b G' A i f s ∧ tx_gs F gr G0 G' ∧ tx_shp s = tx_shp s0) ∨ ∃ e x, R = .inl e ∧ r = .inr x ∧ tx_gt F L gr b G0 A.ve e x G'
theorem tx_R.and_id {α : Type} (r : tx_R α) : r = r.and (fun a i s => .inr (a, i, s)) := by
  unfold tx_R.and
  split <;> rfl
theorem tx_gu.gt {k : cx_K} {F : Nat → Prop} {L : tx_Ls} {gr : Nat} {b : Nat × Nat} {G0 G G' : cx_G} {A : tx_A} {i f : Nat} {s : tx_S} {ve x : Nat} {e : Int32 × Int32} (hg : tx_g k F L gr b G A i f s) (hs : tx_gs F gr G0 G) (h : tx_gu F gr G ve e x G') : tx_gt F L gr b G0 ve e x G' := by
  obtain ⟨h1, h2, h3, h4, h5⟩ := h
  have hr := hg.room
  have hi := hg.lt
  exact ⟨h1, h2, hs.tr h3, by omega, by omega⟩
theorem tx_gt.of {F : Nat → Prop} {L : tx_Ls} {gr : Nat} {b : Nat × Nat} {G0 G G' : cx_G} {ve x : Nat} {e : Int32 × Int32} (hs : tx_gs F gr G0 G) (h : tx_gt F L gr b G ve e x G') : tx_gt F L gr b G0 ve e x G' := by
  obtain ⟨h1, h2, h3, h4, h5⟩ := h
  exact ⟨h1, h2, hs.tr h3, h4, h5⟩
/-- kinds that are plain to take -/
def tx_pk (kd : Int32) : Bool := decide (kd ≠ 22 ∧ kd ≠ 23) && !tx_kop kd && !tx_kcl kd
theorem tx_pk.of {kd : Int32} (h : tx_pk kd = true) : kd ≠ 22 ∧ kd ≠ 23 ∧ tx_kop kd = false ∧ tx_kcl kd = false := by
  unfold tx_pk at h
  simp only [Bool.and_eq_true, decide_eq_true_eq, Bool.not_eq_true'] at h
  exact ⟨h.1.1.1, h.1.1.2, h.1.2, h.2⟩
theorem tx_kop.of {kd : Int32} (h : tx_kop kd = true) : kd ≠ 22 ∧ kd ≠ 23 := by
  have h9 := of_decide_eq_true h
  refine ⟨fun z => ?_, fun z => ?_⟩ <;> (subst z; exact absurd h9 (by decide))
theorem tx_kcl.of {kd : Int32} (h : tx_kcl kd = true) : kd ≠ 22 ∧ kd ≠ 23 ∧ tx_kop kd = false := by
  have h9 := of_decide_eq_true h
  refine ⟨fun z => ?_, fun z => ?_, ?_⟩
  · subst z; exact absurd h9 (by decide)
  · subst z; exact absurd h9 (by decide)
  · rcases h9 with z | z | z | z | z <;> (subst z; decide)
theorem tx_o60 : ∀ f : Nat, f ≤ 60 → nI (60 - f) ≤ 60 := by decide
theorem tx_o61 : ∀ f : Nat, f < 60 → nI (60 - (f + 1)) + 1 = nI (60 - f) := by decide
theorem tx_o62 : ∀ f : Nat, f < 60 → nI (60 - f) - 1 = nI (60 - (f + 1)) := by decide
/-- a cell of class c that is none of Grammar's or Meaning's was written -/
theorem tx_g.wr {k : cx_K} {F : Nat → Prop} {L : tx_Ls} {gr : Nat} {b : Nat × Nat} {G G' : cx_G} {A : tx_A} {i f : Nat} {s : tx_S} (hg : tx_g k F L gr b G A i f s) {a : Nat} {fs : List Value} {e : va_E} (ha : G.1 a = some (.inr (5, fs))) (hG : cx_put G a e = G') : tx_g k F L gr b G' A i f s := by
  obtain ⟨g1, g2, ⟨g3, g4⟩, ⟨g5, g6, g7⟩, g8⟩ := hg
  have hk : tx_kp (tx_is 5) G G' := by rw [← hG]; exact tx_kp.put ha
  obtain ⟨q1, q2, q3, q4, q5, q6, q7, q8, q9, q10⟩ := g1
  have n : ∀ (c : Nat) (fs : List Value), c ≠ 5 → ¬ tx_is 5 (.inr (c, fs)) := fun c fs h => tx_is_ne h
  refine ⟨⟨q1.kp hk (fun _ => n _ _ (by decide)), q2.kp hk (fun _ => n _ _ (by decide)), q3.kp hk (fun _ => n _ _ (by decide)) (fun _ => tx_is_na), q4.kp hk (fun _ => n _ _ (by decide)), q5.kp hk (fun _ => n _ _ (by decide)) (fun _ => tx_is_na), q6.kp hk (fun _ => n _ _ (by decide)), q7.kp hk (fun _ => n _ _ (by decide)) (fun _ => tx_is_na), q8, q9, q10⟩, fun c hF => ?_, ⟨⟨fun j x hx => hk _ _ (n _ _ (by decide)) (g3.1 j x hx), g3.2⟩, g4⟩, ⟨g5, g6, hk _ _ (n _ _ (by decide)) g7⟩, ?_⟩
  · obtain ⟨e', he⟩ := g2 c hF
    by_cases z : c = a
    · exact ⟨_, by rw [z]; exact cx_ps hG⟩
    · exact ⟨e', cx_pn hG he z⟩
  · unfold tx_gA at g8 ⊢
    rw [cx_pc hG]
    exact g8
/-- operators that wait lie in a chain -/
def tx_pd (L : tx_Ls) (G : cx_G) : tx_Wt → Option Nat → Prop
  | [], o => o = none
  | x :: W, o => ∃ (a j : Nat) (nx : Option Nat), o = some a ∧ j < L.length ∧ x.1 = tx_ta (tx_tks L) j ∧ G.1 a = some (.inr (5, [.ref (tx_ad L j), .int x.2, va_rf nx])) ∧ tx_pd L G W nx
theorem tx_pd.kp {L : tx_Ls} {G G' : cx_G} (h : ∀ a fs, G.1 a = some (.inr (5, fs)) → G'.1 a = some (.inr (5, fs))) : ∀ (W : tx_Wt) (o : Option Nat), tx_pd L G W o → tx_pd L G' W o := by
  intro W
  induction W with
  | nil => exact fun o h => h
  | cons x W ih =>
    intro o ⟨a, j, nx, h1, h2, h3, h4, h5⟩
    exact ⟨a, j, nx, h1, h2, h3, h _ _ h4, ih nx h5⟩
theorem tx_pd.gs {F : Nat → Prop} {L : tx_Ls} {gr : Nat} {G G' : cx_G} {fs : List Value} (h : tx_gs F gr G G') (hgr : G.1 gr = some (.inr (1, fs))) {W : tx_Wt} {o : Option Nat} (hp : tx_pd L G W o) : tx_pd L G' W o :=
  tx_pd.kp (fun a fs' ha => h _ _ (Or.inr (fun z => by rcases z with z | z | z | z | z | z <;> exact absurd z (by decide))) (cx_neO hgr ha (by decide)) ha) W o hp
section TXS
variable {E : cx_E} {k : cx_K} {l : Launch} {fr : Nat} {M : cx_M} {G0 : cx_G} {Post : cx_R → cx_G → Prop} {pc : Nat} {lv : cx_L} {st stk : List Value} {G : cx_G} {α α' : Type} {F : Nat → Prop} {L : tx_Ls} {gr : Nat} {b : Nat × Nat} {A : tx_A} {i f : Nat} {s s' : tx_S} {R0 : tx_R α} {kd : Int32} {ve : Nat}
theorem cx_tac {g : tx_Tk → Nat → tx_S → tx_R α} (hE : cx_C E k l fr M G0 Post) (hd : decode M.2.1 pc = .ok (.invokevirtual 55, 3)) (hM : M.1.cls = "CircuitText$Grammar") (hh : M.2.2.2.2.1 = []) (hfl : l.flags = flags0) (hb : tx_gb L b) (hT : ∀ e x G', R0 = .inl e → tx_gt F L gr b G0 ve e x G' → Post (.inr x) G') (hve : A.ve = ve) (hg : tx_g k F L gr b G A i f s) (hs : tx_gs F gr G0 G) (hR : R0 = (tx_tk (tx_tks L) kd i s).and g) (hk : tx_pk kd = true) (hfr : 7 ≤ fr) (hw : (st.map fun v => v.category).sum ≤ 8)
    (h : ∀ G1, tx_ki (tx_tks L) i = kd → tx_g k F L gr b G1 A (i + 1) f s → tx_gs F gr G0 G1 → R0 = g (tx_ta (tx_tks L) i) (i + 1) s → tx_gA b G1 A (tx_shp s) i → cx_V E (pc + 3) lv (.ref (tx_ad L i) :: st) G1) : cx_V E pc lv (.int kd :: .ref gr :: st) G := by
  obtain ⟨k1, k2, k3, k4⟩ := tx_pk.of hk
  have hov : tx_ov kd (nI (60 - f)) = nI (60 - f) := by unfold tx_ov; rw [k3, k4]; rfl
  have hro := hg.room
  have hil := hg.lt
  obtain ⟨hb1, hb2, hb3, hb4⟩ := id hb
  refine cx_invV hE hd (hM ▸ l_Gr_55) hg.cel (c_Gr_take hfl (hb.2.2.2 i hg.lt) (by omega) (by omega) k1 k2 hg) rfl hfr hw n_Gr_take (by rfl) (fun v G' q => ?_) (fun x G' q => ?_)
  · rcases q with ⟨q1, q2, q3, q4, q5⟩ | ⟨q1, x, q2, q3⟩
    · cases q4
      rw [hov] at q5
      exact h G' q1 (hg.mv q3 (by omega) hg.le q5) (hs.tr (tx_gs.put q5)) (by rw [hR]; unfold tx_tk; rw [if_pos q1]; rfl) (by have hc := cx_pc q5; obtain ⟨a1, a2, a3, a4⟩ := hg.2.2.2.2; exact ⟨by rw [hc]; exact a1, by rw [hc]; exact a2, a3, a4⟩)
    · cases q2
  · rcases q with ⟨q1, q2, q3, q4, q5⟩ | ⟨q1, y, q2, q3⟩
    · cases q4
    · cases q2
      have hki : ¬ tx_ki (tx_tks L) i = kd := fun z => q1 ⟨z, by rw [hov]; exact tx_o60 f hg.le⟩
      rw [if_neg hki] at q3
      refine cx_T.out hE hh (hT _ _ _ ?_ (tx_gu.gt hg hs (hve ▸ q3)))
      rw [hR]
      unfold tx_tk
      rw [if_neg hki]
      rfl
theorem cx_tak {g : tx_Tk → Nat → tx_S → tx_R α} (hE : cx_C E k l fr M G0 Post) (hd : decode M.2.1 pc = .ok (.invokevirtual 55, 3)) (hM : M.1.cls = "CircuitText$Grammar") (hh : M.2.2.2.2.1 = []) (hfl : l.flags = flags0) (hb : tx_gb L b) (hT : ∀ e x G', R0 = .inl e → tx_gt F L gr b G0 ve e x G' → Post (.inr x) G') (hve : A.ve = ve) (hg : tx_g k F L gr b G A i f s) (hs : tx_gs F gr G0 G) (hR : R0 = (tx_tk (tx_tks L) kd i s).and g) (hk : tx_pk kd = true) (hfr : 7 ≤ fr) (hw : (st.map fun v => v.category).sum ≤ 8)
    (h : ∀ G1, tx_ki (tx_tks L) i = kd → tx_g k F L gr b G1 A (i + 1) f s → tx_gs F gr G0 G1 → R0 = g (tx_ta (tx_tks L) i) (i + 1) s → cx_V E (pc + 3) lv (.ref (tx_ad L i) :: st) G1) : cx_V E pc lv (.int kd :: .ref gr :: st) G :=
  cx_tac hE hd hM hh hfl hb hT hve hg hs hR hk hfr hw (fun G1 h1 h2 h3 h4 _ => h G1 h1 h2 h3 h4)
theorem cx_opn {g : Nat → tx_Tk → Nat → tx_S → tx_R α} (hE : cx_C E k l fr M G0 Post) (hd : decode M.2.1 pc = .ok (.invokevirtual 55, 3)) (hM : M.1.cls = "CircuitText$Grammar") (hh : M.2.2.2.2.1 = []) (hfl : l.flags = flags0) (hb : tx_gb L b) (hT : ∀ e x G', R0 = .inl e → tx_gt F L gr b G0 ve e x G' → Post (.inr x) G') (hve : A.ve = ve) (hg : tx_g k F L gr b G A i f s) (hs : tx_gs F gr G0 G) (hR : R0 = tx_op (tx_tks L) kd f i s g) (hk : tx_kop kd = true) (hfr : 7 ≤ fr) (hw : (st.map fun v => v.category).sum ≤ 8)
    (h : ∀ f' G1, f = f' + 1 → tx_ki (tx_tks L) i = kd → tx_g k F L gr b G1 A (i + 1) f' s → tx_gs F gr G0 G1 → R0 = g f' (tx_ta (tx_tks L) i) (i + 1) s → cx_V E (pc + 3) lv (.ref (tx_ad L i) :: st) G1) : cx_V E pc lv (.int kd :: .ref gr :: st) G := by
  obtain ⟨k1, k2⟩ := tx_kop.of hk
  have hov : tx_ov kd (nI (60 - f)) = nI (60 - f) + 1 := by unfold tx_ov; rw [hk]; rfl
  have hle := hg.le
  have hro := hg.room
  have hil := hg.lt
  obtain ⟨hb1, hb2, hb3, hb4⟩ := id hb
  refine cx_invV hE hd (hM ▸ l_Gr_55) hg.cel (c_Gr_take hfl (hb.2.2.2 i hg.lt) (by omega) (by omega) k1 k2 hg) rfl hfr hw n_Gr_take (by rfl) (fun v G' q => ?_) (fun x G' q => ?_)
  · rcases q with ⟨q1, q2, q3, q4, q5⟩ | ⟨q1, x, q2, q3⟩
    · cases q4
      rw [hov] at q5 q2
      cases f with
      | zero => exact absurd q2 (by decide)
      | succ f' =>
        rw [tx_o61 f' (by omega)] at q5
        exact h f' G' rfl q1 (hg.mv q3 (by omega) (by omega) q5) (hs.tr (tx_gs.put q5)) (by rw [hR]; unfold tx_op; rw [if_pos q1])
    · cases q2
  · rcases q with ⟨q1, q2, q3, q4, q5⟩ | ⟨q1, y, q2, q3⟩
    · cases q4
    · cases q2
      by_cases hki : tx_ki (tx_tks L) i = kd
      · rw [if_pos hki] at q3
        refine cx_T.out hE hh (hT _ _ _ ?_ (tx_gu.gt hg hs (hve ▸ q3)))
        cases f with
        | zero =>
          rw [hR]
          unfold tx_op
          rw [if_pos hki]
        | succ f' => exact absurd ⟨hki, by rw [hov, tx_o61 f' (by omega)]; exact tx_o60 f' (by omega)⟩ q1
      · rw [if_neg hki] at q3
        refine cx_T.out hE hh (hT _ _ _ ?_ (tx_gu.gt hg hs (hve ▸ q3)))
        rw [hR]
        unfold tx_op
        rw [if_neg hki]
theorem cx_clo {g : tx_Tk → Nat → tx_S → tx_R α} (hE : cx_C E k l fr M G0 Post) (hd : decode M.2.1 pc = .ok (.invokevirtual 55, 3)) (hM : M.1.cls = "CircuitText$Grammar") (hh : M.2.2.2.2.1 = []) (hfl : l.flags = flags0) (hb : tx_gb L b) (hT : ∀ e x G', R0 = .inl e → tx_gt F L gr b G0 ve e x G' → Post (.inr x) G') (hve : A.ve = ve) (hg : tx_g k F L gr b G A i f s) (hs : tx_gs F gr G0 G) (hR : R0 = (tx_tk (tx_tks L) kd i s).and g) (hk : tx_kcl kd = true) (hf : f < 60) (hfr : 7 ≤ fr) (hw : (st.map fun v => v.category).sum ≤ 8)
    (h : ∀ G1, tx_ki (tx_tks L) i = kd → tx_g k F L gr b G1 A (i + 1) (f + 1) s → tx_gs F gr G0 G1 → R0 = g (tx_ta (tx_tks L) i) (i + 1) s → cx_V E (pc + 3) lv (.ref (tx_ad L i) :: st) G1) : cx_V E pc lv (.int kd :: .ref gr :: st) G := by
  obtain ⟨k1, k2, k3⟩ := tx_kcl.of hk
  have hov : tx_ov kd (nI (60 - f)) = nI (60 - (f + 1)) := by
    unfold tx_ov
    rw [k3, hk]
    exact tx_o62 f hf
  have hro := hg.room
  have hil := hg.lt
  obtain ⟨hb1, hb2, hb3, hb4⟩ := id hb
  refine cx_invV hE hd (hM ▸ l_Gr_55) hg.cel (c_Gr_take hfl (hb.2.2.2 i hg.lt) (by omega) (by omega) k1 k2 hg) rfl hfr hw n_Gr_take (by rfl) (fun v G' q => ?_) (fun x G' q => ?_)
  · rcases q with ⟨q1, q2, q3, q4, q5⟩ | ⟨q1, x, q2, q3⟩
    · cases q4
      rw [hov] at q5
      exact h G' q1 (hg.mv q3 (by omega) (by omega) q5) (hs.tr (tx_gs.put q5)) (by rw [hR]; unfold tx_tk; rw [if_pos q1]; rfl)
    · cases q2
  · rcases q with ⟨q1, q2, q3, q4, q5⟩ | ⟨q1, y, q2, q3⟩
    · cases q4
    · cases q2
      have hki : ¬ tx_ki (tx_tks L) i = kd := fun z => q1 ⟨z, by rw [hov]; exact tx_o60 (f + 1) (by omega)⟩
      rw [if_neg hki] at q3
      refine cx_T.out hE hh (hT _ _ _ ?_ (tx_gu.gt hg hs (hve ▸ q3)))
      rw [hR]
      unfold tx_tk
      rw [if_neg hki]
      rfl
/-- a token is taken while a cell a is new: an operator that will wait -/
theorem cx_taN {g : tx_Tk → Nat → tx_S → tx_R α} {a : Nat} {G2 : cx_G} (hE : cx_C E k l fr M G0 Post) (hd : decode M.2.1 pc = .ok (.invokevirtual 55, 3)) (hM : M.1.cls = "CircuitText$Grammar") (hh : M.2.2.2.2.1 = []) (hfl : l.flags = flags0) (hb : tx_gb L b) (hT : ∀ e x G', R0 = .inl e → tx_gt F L gr b G0 ve e x G' → Post (.inr x) G') (hve : A.ve = ve) (hg : tx_g k F L gr b G2 A i f s) (hs : tx_gs F gr G0 G2) (ha : G2.1 a = none) (hG : cx_mk G2 a (.inr (5, [.null, .int 0, .null])) 3 = G) (hR : R0 = (tx_tk (tx_tks L) kd i s).and g) (hk : tx_pk kd = true) (hfr : 7 ≤ fr) (hw : (st.map fun v => v.category).sum ≤ 8)
    (h : ∀ G1, tx_ki (tx_tks L) i = kd → tx_g k F L gr b G1 A (i + 1) f s → G1.1 a = some (.inr (5, [.null, .int 0, .null])) → (∀ c e, G2.1 c = some e → c ≠ gr → G1.1 c = some e) → R0 = g (tx_ta (tx_tks L) i) (i + 1) s → cx_V E (pc + 3) lv (.ref (tx_ad L i) :: st) G1) : cx_V E pc lv (.int kd :: .ref gr :: st) G := by
  obtain ⟨k1, k2, k3, k4⟩ := tx_pk.of hk
  have hov : tx_ov kd (nI (60 - f)) = nI (60 - f) := by unfold tx_ov; rw [k3, k4]; rfl
  have hext : cx_ext G2 G := by rw [← hG]; exact cx_ext.mk ha
  have hc := cx_mc hG
  have hro := hg.room
  have hil := hg.lt
  obtain ⟨hb1, hb2, hb3, hb4⟩ := id hb
  obtain ⟨a1, a2, a3, a4⟩ := hg.2.2.2.2
  have hg' : tx_g k F L gr (b.1 + 1, b.2 + 3) G A i f s := by
    obtain ⟨g1, g2, ⟨g3, g4⟩, ⟨g5, g6, g7⟩, -⟩ := hg
    exact ⟨g1.ext hext, fun c hF => (by obtain ⟨e, he⟩ := g2 c hF; exact ⟨e, hext _ _ he⟩), ⟨⟨fun j x hx => hext _ _ (g3.1 j x hx), g3.2⟩, g4⟩, ⟨g5, g6, hext _ _ g7⟩, by rw [hc.1]; show _ ≤ b.1 + 1 + 5 * i; omega, by rw [hc.2]; show _ ≤ b.2 + 3 + 80 * i + _ + _; omega, a3, a4⟩
  have hagr : a ≠ gr := fun z => by have := hg.cel; rw [← z, ha] at this; cases this
  have haG : G.1 a = some (.inr (5, [.null, .int 0, .null])) := cx_ms hG
  refine cx_invV hE hd (hM ▸ l_Gr_55) hg'.cel (c_Gr_take hfl (hb.2.2.2 i hg.lt) (by omega) (by omega) k1 k2 hg') rfl hfr hw n_Gr_take (by rfl) (fun v G' q => ?_) (fun x G' q => ?_)
  · rcases q with ⟨q1, q2, q3, q4, q5⟩ | ⟨q1, x, q2, q3⟩
    · cases q4
      rw [hov] at q5
      obtain ⟨m1, m2, m3, m4, -⟩ := hg'.mv q3 (by omega) hg.le q5
      have hc5 := cx_pc q5
      exact h G' q1 ⟨m1, m2, m3, m4, by rw [hc5, hc.1]; omega, by rw [hc5, hc.2]; omega, by omega, by omega⟩ (cx_pn q5 haG hagr) (fun c e hc9 hn => cx_pn q5 (hext _ _ hc9) hn) (by rw [hR]; unfold tx_tk; rw [if_pos q1]; rfl)
    · cases q2
  · rcases q with ⟨q1, q2, q3, q4, q5⟩ | ⟨q1, y, q2, q3⟩
    · cases q4
    · cases q2
      have hki : ¬ tx_ki (tx_tks L) i = kd := fun z => q1 ⟨z, by rw [hov]; exact tx_o60 f hg.le⟩
      rw [if_neg hki] at q3
      obtain ⟨u1, u2, u3, u4, u5⟩ := q3
      refine cx_T.out hE hh (hT _ _ _ ?_ ⟨u1, hve ▸ u2, hs.tr ((tx_gs.ext hext).tr u3), by omega, by omega⟩)
      rw [hR]
      unfold tx_tk
      rw [if_neg hki]
      rfl
/-- a method of Grammar is called -/
theorem cx_gsub {idx fr' : Nat} {M' : cx_M} {av : List Value} {f2 : Nat} {enc : α' → Option Value} {R1 : tx_R α'} {g : α' → Nat → tx_S → tx_R α} {p0 : List Nat × Option Nat} (hE : cx_C E k l fr M G0 Post) (hd : decode M.2.1 pc = .ok (.invokevirtual idx, 3)) (hM : M.1.cls = "CircuitText$Grammar") (hh : M.2.2.2.2.1 = []) (hL : cx_LV "CircuitText$Grammar" idx 1 M') (hT : ∀ e x G', R0 = .inl e → tx_gt F L gr b G0 ve e x G' → Post (.inr x) G') (hve : A.ve = ve) (hg : tx_g k F L gr b G A i f s) (hs : tx_gs F gr G0 G) (hp : tx_shp s = p0) (hR : R0 = R1.and g) (hSp : cx_Sp k l M' fr' (.ref gr :: av) G (tx_gp k F L gr b G A f2 enc s R1)) (hst : stk = av.reverse ++ .ref gr :: st) (hfr : fr' + 1 ≤ fr) (hw : (st.map fun v => v.category).sum ≤ 8) (hn : (parseMethodDescriptor M'.1.desc).map (fun d => d.parameters.length) = some av.length) (hav : (Value.ref gr :: av).map (fun v => v.category) = M'.2.2.2.2.2.map cx_cat)
    (h : ∀ a i' s' G1, R1 = .inr (a, i', s') → tx_g k F L gr b G1 A i' f2 s' → tx_gs F gr G0 G1 → tx_shp s' = p0 → R0 = g a i' s' → tx_gs F gr G G1 → cx_V E (pc + 3) lv ((enc a).toList ++ st) G1) : cx_V E pc lv stk G := by
  refine cx_invV hE hd (hM ▸ hL) hg.cel hSp hst hfr hw hn hav (fun v G' q => ?_) (fun x G' q => ?_)
  · rcases q with ⟨a, i', s', q1, q2, q3, q4, q5⟩ | ⟨e, x, q1, q2, q3⟩
    · cases q2
      exact h a i' s' G' q1 q3 (hs.tr q4) (q5.trans hp) (by rw [hR, q1]; rfl) q4
    · cases q2
  · rcases q with ⟨a, i', s', q1, q2, q3, q4, q5⟩ | ⟨e, y, q1, q2, q3⟩
    · cases q2
    · cases q2
      exact cx_T.out hE hh (hT _ _ _ (by rw [hR, q1]; rfl) (tx_gt.of hs (hve ▸ q3)))
/-- a method of Meaning (or of Verdict) is called that makes nothing -/
theorem cx_gmq {idx fr' ci a : Nat} {M' : cx_M} {av fs : List Value} {v : Option Value} {p0 : List Nat × Option Nat} (hE : cx_C E k l fr M G0 Post) (hd : decode M.2.1 pc = .ok (.invokevirtual idx, 3)) (hM : M.1.cls = "CircuitText$Grammar") (hL : cx_LV "CircuitText$Grammar" idx ci M') (hG : G.1 a = some (.inr (ci, fs))) (hg : tx_g k F L gr b G A i f s) (hs : tx_gs F gr G0 G) (hp : tx_shp s = p0) (hSp : cx_Sp k l M' fr' (.ref a :: av) G (tx_mq k F G A s' v)) (hsh : tx_shp s' = tx_shp s) (hst : stk = av.reverse ++ .ref a :: st) (hfr : fr' + 1 ≤ fr) (hw : (st.map fun v => v.category).sum ≤ 8) (hn : (parseMethodDescriptor M'.1.desc).map (fun d => d.parameters.length) = some av.length) (hav : (Value.ref a :: av).map (fun v => v.category) = M'.2.2.2.2.2.map cx_cat)
    (h : ∀ G1, tx_g k F L gr b G1 A i f s' → tx_gs F gr G0 G1 → tx_shp s' = p0 → tx_gs F gr G G1 → cx_V E (pc + 3) lv (v.toList ++ st) G1) : cx_V E pc lv stk G := by
  refine cx_invV hE hd (hM ▸ hL) hG hSp hst hfr hw hn hav (fun v' G' q => ?_) (fun x G' q => by cases q.1)
  obtain ⟨q1, q2, q3, q4⟩ := q
  cases q1
  exact h G' (hg.mq q2 q3 q4 hsh) (hs.tr q3.gs) (hsh.trans hp) q3.gs
theorem cx_gsubI {idx fr' : Nat} {M' : cx_M} {av : List Value} {f2 : Nat} {R1 : tx_R Int32} {g : Int32 → Nat → tx_S → tx_R α} {p0 : List Nat × Option Nat} (hE : cx_C E k l fr M G0 Post) (hd : decode M.2.1 pc = .ok (.invokevirtual idx, 3)) (hM : M.1.cls = "CircuitText$Grammar") (hh : M.2.2.2.2.1 = []) (hL : cx_LV "CircuitText$Grammar" idx 1 M') (hT : ∀ e x G', R0 = .inl e → tx_gt F L gr b G0 ve e x G' → Post (.inr x) G') (hve : A.ve = ve) (hg : tx_g k F L gr b G A i f s) (hs : tx_gs F gr G0 G) (hp : tx_shp s = p0) (hR : R0 = R1.and g) (hSp : cx_Sp k l M' fr' (.ref gr :: av) G (tx_gp k F L gr b G A f2 (fun w => some (.int w)) s R1)) (hst : stk = av.reverse ++ .ref gr :: st) (hfr : fr' + 1 ≤ fr) (hw : (st.map fun v => v.category).sum ≤ 8) (hn : (parseMethodDescriptor M'.1.desc).map (fun d => d.parameters.length) = some av.length) (hav : (Value.ref gr :: av).map (fun v => v.category) = M'.2.2.2.2.2.map cx_cat)
    (h : ∀ a i' s' G1, R1 = .inr (a, i', s') → tx_g k F L gr b G1 A i' f2 s' → tx_gs F gr G0 G1 → tx_shp s' = p0 → R0 = g a i' s' → tx_gs F gr G G1 → cx_V E (pc + 3) lv (.int a :: st) G1) : cx_V E pc lv stk G :=
  cx_gsub hE hd hM hh hL hT hve hg hs hp hR hSp hst hfr hw hn hav h
theorem cx_gsubU {idx fr' : Nat} {M' : cx_M} {av : List Value} {f2 : Nat} {R1 : tx_R Unit} {g : Unit → Nat → tx_S → tx_R α} {p0 : List Nat × Option Nat} (hE : cx_C E k l fr M G0 Post) (hd : decode M.2.1 pc = .ok (.invokevirtual idx, 3)) (hM : M.1.cls = "CircuitText$Grammar") (hh : M.2.2.2.2.1 = []) (hL : cx_LV "CircuitText$Grammar" idx 1 M') (hT : ∀ e x G', R0 = .inl e → tx_gt F L gr b G0 ve e x G' → Post (.inr x) G') (hve : A.ve = ve) (hg : tx_g k F L gr b G A i f s) (hs : tx_gs F gr G0 G) (hp : tx_shp s = p0) (hR : R0 = R1.and g) (hSp : cx_Sp k l M' fr' (.ref gr :: av) G (tx_gp k F L gr b G A f2 (fun _ => none) s R1)) (hst : stk = av.reverse ++ .ref gr :: st) (hfr : fr' + 1 ≤ fr) (hw : (st.map fun v => v.category).sum ≤ 8) (hn : (parseMethodDescriptor M'.1.desc).map (fun d => d.parameters.length) = some av.length) (hav : (Value.ref gr :: av).map (fun v => v.category) = M'.2.2.2.2.2.map cx_cat)
    (h : ∀ a i' s' G1, R1 = .inr (a, i', s') → tx_g k F L gr b G1 A i' f2 s' → tx_gs F gr G0 G1 → tx_shp s' = p0 → R0 = g a i' s' → tx_gs F gr G G1 → cx_V E (pc + 3) lv st G1) : cx_V E pc lv stk G :=
  cx_gsub hE hd hM hh hL hT hve hg hs hp hR hSp hst hfr hw hn hav h
theorem cx_gmq1 {idx fr' ci a : Nat} {M' : cx_M} {av fs : List Value} {v : Value} {p0 : List Nat × Option Nat} (hE : cx_C E k l fr M G0 Post) (hd : decode M.2.1 pc = .ok (.invokevirtual idx, 3)) (hM : M.1.cls = "CircuitText$Grammar") (hL : cx_LV "CircuitText$Grammar" idx ci M') (hG : G.1 a = some (.inr (ci, fs))) (hg : tx_g k F L gr b G A i f s) (hs : tx_gs F gr G0 G) (hp : tx_shp s = p0) (hSp : cx_Sp k l M' fr' (.ref a :: av) G (tx_mq k F G A s' (some v))) (hsh : tx_shp s' = tx_shp s) (hst : stk = av.reverse ++ .ref a :: st) (hfr : fr' + 1 ≤ fr) (hw : (st.map fun v => v.category).sum ≤ 8) (hn : (parseMethodDescriptor M'.1.desc).map (fun d => d.parameters.length) = some av.length) (hav : (Value.ref a :: av).map (fun v => v.category) = M'.2.2.2.2.2.map cx_cat)
    (h : ∀ G1, tx_g k F L gr b G1 A i f s' → tx_gs F gr G0 G1 → tx_shp s' = p0 → tx_gs F gr G G1 → cx_V E (pc + 3) lv (v :: st) G1) : cx_V E pc lv stk G :=
  cx_gmq hE hd hM hL hG hg hs hp hSp hsh hst hfr hw hn hav h
theorem cx_gmq0 {idx fr' ci a : Nat} {M' : cx_M} {av fs : List Value} {p0 : List Nat × Option Nat} (hE : cx_C E k l fr M G0 Post) (hd : decode M.2.1 pc = .ok (.invokevirtual idx, 3)) (hM : M.1.cls = "CircuitText$Grammar") (hL : cx_LV "CircuitText$Grammar" idx ci M') (hG : G.1 a = some (.inr (ci, fs))) (hg : tx_g k F L gr b G A i f s) (hs : tx_gs F gr G0 G) (hp : tx_shp s = p0) (hSp : cx_Sp k l M' fr' (.ref a :: av) G (tx_mq k F G A s' none)) (hsh : tx_shp s' = tx_shp s) (hst : stk = av.reverse ++ .ref a :: st) (hfr : fr' + 1 ≤ fr) (hw : (st.map fun v => v.category).sum ≤ 8) (hn : (parseMethodDescriptor M'.1.desc).map (fun d => d.parameters.length) = some av.length) (hav : (Value.ref a :: av).map (fun v => v.category) = M'.2.2.2.2.2.map cx_cat)
    (h : ∀ G1, tx_g k F L gr b G1 A i f s' → tx_gs F gr G0 G1 → tx_shp s' = p0 → tx_gs F gr G G1 → cx_V E (pc + 3) lv st G1) : cx_V E pc lv stk G :=
  cx_gmq hE hd hM hL hG hg hs hp hSp hsh hst hfr hw hn hav h
end TXS

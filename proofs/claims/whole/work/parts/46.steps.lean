/-! GRAMMAR: steps of its methods. -/
/-- what a method of Grammar leaves that declares nothing -/
def tx_gp {α : Type} (k : cx_K) (F : Nat → Prop) (L : tx_Ls) (gr : Nat) (b : Nat × Nat) (G0 : cx_G) (A : tx_A) (f : Nat) (enc : α → Option Value) (s0 : tx_S) (R : tx_R α) : cx_R → cx_G → Prop := fun r G' => (∃ a i s, R = .inr (a, i, s) ∧ r = .inl (enc a) ∧ tx_g k F L gr b G' A i f s ∧ tx_gs F gr G0 G' ∧ tx_shp s = tx_shp s0) ∨ ∃ e x, R = .inl e ∧ r = .inr x ∧ tx_gt F L gr b G0 A.ve e x G'
theorem tx_R.and_id {α : Type} (r : tx_R α) : r = r.and (fun a i s => .inr (a, i, s)) := by
  unfold tx_R.and
  split <;> rfl
theorem tx_gt.of {F : Nat → Prop} {L : tx_Ls} {gr : Nat} {b : Nat × Nat} {G0 G G' : cx_G} {ve x : Nat} {e : Int32 × Int32} (hs : tx_gs F gr G0 G) (h : tx_gt F L gr b G ve e x G') : tx_gt F L gr b G0 ve e x G' := by
  obtain ⟨h1, h2, h3, h4, h5⟩ := h
  exact ⟨h1, h2, hs.tr h3, h4, h5⟩
/-- kinds that are plain to take -/
def tx_pk (kd : Int32) : Bool := decide (kd ≠ 22 ∧ kd ≠ 23) && !tx_kop kd && !tx_kcl kd
theorem tx_pk.of {kd : Int32} (h : tx_pk kd = true) : kd ≠ 22 ∧ kd ≠ 23 ∧ tx_kop kd = false ∧ tx_kcl kd = false := by
  unfold tx_pk at h
  simp only [Bool.and_eq_true, decide_eq_true_eq, Bool.not_eq_true'] at h
  exact ⟨h.1.1.1, h.1.1.2, h.1.2, h.2⟩
theorem tx_kop.of {kd : Int32} (h : tx_kop kd = true) : kd ≠ 22 ∧ kd ≠ 23 := by
  have h9 := of_decide_eq_true h
  refine ⟨fun z => ?_, fun z => ?_⟩ <;> (subst z; exact absurd h9 (by decide))
theorem tx_kcl.of {kd : Int32} (h : tx_kcl kd = true) : kd ≠ 22 ∧ kd ≠ 23 ∧ tx_kop kd = false := by
  have h9 := of_decide_eq_true h
  refine ⟨fun z => ?_, fun z => ?_, ?_⟩
  · subst z; exact absurd h9 (by decide)
  · subst z; exact absurd h9 (by decide)
  · rcases h9 with z | z | z | z | z <;> (subst z; decide)
theorem tx_o60 : ∀ f : Nat, f ≤ 60 → nI (60 - f) ≤ 60 := by decide
theorem tx_o61 : ∀ f : Nat, f < 60 → nI (60 - (f + 1)) + 1 = nI (60 - f) := by decide
theorem tx_o62 : ∀ f : Nat, f < 60 → nI (60 - f) - 1 = nI (60 - (f + 1)) := by decide
section TXS
variable {E : cx_E} {k : cx_K} {l : Launch} {fr : Nat} {M : cx_M} {G0 : cx_G} {Post : cx_R → cx_G → Prop} {pc : Nat} {lv : cx_L} {st stk : List Value} {G : cx_G} {α α' : Type} {F : Nat → Prop} {L : tx_Ls} {gr : Nat} {b : Nat × Nat} {A : tx_A} {i f : Nat} {s s' : tx_S} {R0 : tx_R α} {kd : Int32} {ve : Nat}
theorem cx_tak {g : tx_Tk → Nat → tx_S → tx_R α} (hE : cx_C E k l fr M G0 Post) (hd : decode M.2.1 pc = .ok (.invokevirtual 55, 3)) (hM : M.1.cls = "CircuitText$Grammar") (hh : M.2.2.2.2.1 = []) (hfl : l.flags = flags0) (hb : tx_gb L b) (hT : ∀ e x G', R0 = .inl e → tx_gt F L gr b G0 ve e x G' → Post (.inr x) G') (hve : A.ve = ve) (hg : tx_g k F L gr b G A i f s) (hs : tx_gs F gr G0 G) (hR : R0 = (tx_tk (tx_tks L) kd i s).and g) (hk : tx_pk kd = true) (hfr : 7 ≤ fr) (hw : (st.map fun v => v.category).sum ≤ 8)
    (h : ∀ G1, tx_ki (tx_tks L) i = kd → tx_g k F L gr b G1 A (i + 1) f s → tx_gs F gr G0 G1 → R0 = g (tx_ta (tx_tks L) i) (i + 1) s → cx_V E (pc + 3) lv (.ref (tx_ad L i) :: st) G1) : cx_V E pc lv (.int kd :: .ref gr :: st) G := by
  obtain ⟨k1, k2, k3, k4⟩ := tx_pk.of hk
  have hov : tx_ov kd (nI (60 - f)) = nI (60 - f) := by unfold tx_ov; rw [k3, k4]; rfl
  refine cx_invV hE hd (hM ▸ l_Gr_55) hg.cel (c_Gr_take hfl hb k1 k2 hg) rfl hfr hw n_Gr_take (by rfl) (fun v G' q => ?_) (fun x G' q => ?_)
  · rcases q with ⟨q1, q2, q3, q4, q5⟩ | ⟨q1, x, q2, q3⟩
    · cases q4
      rw [hov] at q5
      exact h G' q1 (hg.mv q3 (by omega) hg.le q5) (hs.tr (tx_gs.put q5)) (by rw [hR]; unfold tx_tk; rw [if_pos q1]; rfl)
    · cases q2
  · rcases q with ⟨q1, q2, q3, q4, q5⟩ | ⟨q1, y, q2, q3⟩
    · cases q4
    · cases q2
      have hki : ¬ tx_ki (tx_tks L) i = kd := fun z => q1 ⟨z, by rw [hov]; exact tx_o60 f hg.le⟩
      rw [if_neg hki] at q3
      refine cx_T.out hE hh (hT _ _ _ ?_ (tx_gt.of hs (hve ▸ q3)))
      rw [hR]
      unfold tx_tk
      rw [if_neg hki]
      rfl
theorem cx_opn {g : Nat → tx_Tk → Nat → tx_S → tx_R α} (hE : cx_C E k l fr M G0 Post) (hd : decode M.2.1 pc = .ok (.invokevirtual 55, 3)) (hM : M.1.cls = "CircuitText$Grammar") (hh : M.2.2.2.2.1 = []) (hfl : l.flags = flags0) (hb : tx_gb L b) (hT : ∀ e x G', R0 = .inl e → tx_gt F L gr b G0 ve e x G' → Post (.inr x) G') (hve : A.ve = ve) (hg : tx_g k F L gr b G A i f s) (hs : tx_gs F gr G0 G) (hR : R0 = tx_op (tx_tks L) kd f i s g) (hk : tx_kop kd = true) (hfr : 7 ≤ fr) (hw : (st.map fun v => v.category).sum ≤ 8)
    (h : ∀ f' G1, f = f' + 1 → tx_ki (tx_tks L) i = kd → tx_g k F L gr b G1 A (i + 1) f' s → tx_gs F gr G0 G1 → R0 = g f' (tx_ta (tx_tks L) i) (i + 1) s → cx_V E (pc + 3) lv (.ref (tx_ad L i) :: st) G1) : cx_V E pc lv (.int kd :: .ref gr :: st) G := by
  obtain ⟨k1, k2⟩ := tx_kop.of hk
  have hov : tx_ov kd (nI (60 - f)) = nI (60 - f) + 1 := by unfold tx_ov; rw [hk]; rfl
  have hle := hg.le
  refine cx_invV hE hd (hM ▸ l_Gr_55) hg.cel (c_Gr_take hfl hb k1 k2 hg) rfl hfr hw n_Gr_take (by rfl) (fun v G' q => ?_) (fun x G' q => ?_)
  · rcases q with ⟨q1, q2, q3, q4, q5⟩ | ⟨q1, x, q2, q3⟩
    · cases q4
      rw [hov] at q5 q2
      cases f with
      | zero => exact absurd q2 (by decide)
      | succ f' =>
        rw [tx_o61 f' (by omega)] at q5
        exact h f' G' rfl q1 (hg.mv q3 (by omega) (by omega) q5) (hs.tr (tx_gs.put q5)) (by rw [hR]; unfold tx_op; rw [if_pos q1])
    · cases q2
  · rcases q with ⟨q1, q2, q3, q4, q5⟩ | ⟨q1, y, q2, q3⟩
    · cases q4
    · cases q2
      by_cases hki : tx_ki (tx_tks L) i = kd
      · rw [if_pos hki] at q3
        refine cx_T.out hE hh (hT _ _ _ ?_ (tx_gt.of hs (hve ▸ q3)))
        cases f with
        | zero =>
          rw [hR]
          unfold tx_op
          rw [if_pos hki]
        | succ f' => exact absurd ⟨hki, by rw [hov, tx_o61 f' (by omega)]; exact tx_o60 f' (by omega)⟩ q1
      · rw [if_neg hki] at q3
        refine cx_T.out hE hh (hT _ _ _ ?_ (tx_gt.of hs (hve ▸ q3)))
        rw [hR]
        unfold tx_op
        rw [if_neg hki]
theorem cx_cls {g : tx_Tk → Nat → tx_S → tx_R α} (hE : cx_C E k l fr M G0 Post) (hd : decode M.2.1 pc = .ok (.invokevirtual 55, 3)) (hM : M.1.cls = "CircuitText$Grammar") (hh : M.2.2.2.2.1 = []) (hfl : l.flags = flags0) (hb : tx_gb L b) (hT : ∀ e x G', R0 = .inl e → tx_gt F L gr b G0 ve e x G' → Post (.inr x) G') (hve : A.ve = ve) (hg : tx_g k F L gr b G A i f s) (hs : tx_gs F gr G0 G) (hR : R0 = (tx_tk (tx_tks L) kd i s).and g) (hk : tx_kcl kd = true) (hf : f < 60) (hfr : 7 ≤ fr) (hw : (st.map fun v => v.category).sum ≤ 8)
    (h : ∀ G1, tx_ki (tx_tks L) i = kd → tx_g k F L gr b G1 A (i + 1) (f + 1) s → tx_gs F gr G0 G1 → R0 = g (tx_ta (tx_tks L) i) (i + 1) s → cx_V E (pc + 3) lv (.ref (tx_ad L i) :: st) G1) : cx_V E pc lv (.int kd :: .ref gr :: st) G := by
  obtain ⟨k1, k2, k3⟩ := tx_kcl.of hk
  have hov : tx_ov kd (nI (60 - f)) = nI (60 - (f + 1)) := by
    unfold tx_ov
    rw [k3, hk]
    exact tx_o62 f hf
  refine cx_invV hE hd (hM ▸ l_Gr_55) hg.cel (c_Gr_take hfl hb k1 k2 hg) rfl hfr hw n_Gr_take (by rfl) (fun v G' q => ?_) (fun x G' q => ?_)
  · rcases q with ⟨q1, q2, q3, q4, q5⟩ | ⟨q1, x, q2, q3⟩
    · cases q4
      rw [hov] at q5
      exact h G' q1 (hg.mv q3 (by omega) (by omega) q5) (hs.tr (tx_gs.put q5)) (by rw [hR]; unfold tx_tk; rw [if_pos q1]; rfl)
    · cases q2
  · rcases q with ⟨q1, q2, q3, q4, q5⟩ | ⟨q1, y, q2, q3⟩
    · cases q4
    · cases q2
      have hki : ¬ tx_ki (tx_tks L) i = kd := fun z => q1 ⟨z, by rw [hov]; exact tx_o60 (f + 1) (by omega)⟩
      rw [if_neg hki] at q3
      refine cx_T.out hE hh (hT _ _ _ ?_ (tx_gt.of hs (hve ▸ q3)))
      rw [hR]
      unfold tx_tk
      rw [if_neg hki]
      rfl
/-- a method of Grammar is called -/
theorem cx_gsub {idx fr' : Nat} {M' : cx_M} {av : List Value} {f2 : Nat} {enc : α' → Option Value} {R1 : tx_R α'} {g : α' → Nat → tx_S → tx_R α} {p0 : Nat × Option Nat} (hE : cx_C E k l fr M G0 Post) (hd : decode M.2.1 pc = .ok (.invokevirtual idx, 3)) (hM : M.1.cls = "CircuitText$Grammar") (hh : M.2.2.2.2.1 = []) (hL : cx_LV "CircuitText$Grammar" idx 1 M') (hT : ∀ e x G', R0 = .inl e → tx_gt F L gr b G0 ve e x G' → Post (.inr x) G') (hve : A.ve = ve) (hg : tx_g k F L gr b G A i f s) (hs : tx_gs F gr G0 G) (hp : tx_shp s = p0) (hR : R0 = R1.and g) (hSp : cx_Sp k l M' fr' (.ref gr :: av) G (tx_gp k F L gr b G A f2 enc s R1)) (hst : stk = av.reverse ++ .ref gr :: st) (hfr : fr' + 1 ≤ fr) (hw : (st.map fun v => v.category).sum ≤ 8) (hn : (parseMethodDescriptor M'.1.desc).map (fun d => d.parameters.length) = some av.length) (hav : (Value.ref gr :: av).map (fun v => v.category) = M'.2.2.2.2.2.map cx_cat)
    (h : ∀ a i' s' G1, R1 = .inr (a, i', s') → tx_g k F L gr b G1 A i' f2 s' → tx_gs F gr G0 G1 → tx_shp s' = p0 → R0 = g a i' s' → cx_V E (pc + 3) lv ((enc a).toList ++ st) G1) : cx_V E pc lv stk G := by
  refine cx_invV hE hd (hM ▸ hL) hg.cel hSp hst hfr hw hn hav (fun v G' q => ?_) (fun x G' q => ?_)
  · rcases q with ⟨a, i', s', q1, q2, q3, q4, q5⟩ | ⟨e, x, q1, q2, q3⟩
    · cases q2
      exact h a i' s' G' q1 q3 (hs.tr q4) (q5.trans hp) (by rw [hR, q1]; rfl)
    · cases q2
  · rcases q with ⟨a, i', s', q1, q2, q3, q4, q5⟩ | ⟨e, y, q1, q2, q3⟩
    · cases q2
    · cases q2
      exact cx_T.out hE hh (hT _ _ _ (by rw [hR, q1]; rfl) (tx_gt.of hs (hve ▸ q3)))
/-- a method of Meaning (or of Verdict) is called that makes nothing -/
theorem cx_gmq {idx fr' ci a : Nat} {M' : cx_M} {av fs : List Value} {v : Option Value} {p0 : Nat × Option Nat} (hE : cx_C E k l fr M G0 Post) (hd : decode M.2.1 pc = .ok (.invokevirtual idx, 3)) (hM : M.1.cls = "CircuitText$Grammar") (hL : cx_LV "CircuitText$Grammar" idx ci M') (hG : G.1 a = some (.inr (ci, fs))) (hg : tx_g k F L gr b G A i f s) (hs : tx_gs F gr G0 G) (hp : tx_shp s = p0) (hSp : cx_Sp k l M' fr' (.ref a :: av) G (tx_mq k F G A s' v)) (hsh : tx_shp s' = tx_shp s) (hst : stk = av.reverse ++ .ref a :: st) (hfr : fr' + 1 ≤ fr) (hw : (st.map fun v => v.category).sum ≤ 8) (hn : (parseMethodDescriptor M'.1.desc).map (fun d => d.parameters.length) = some av.length) (hav : (Value.ref a :: av).map (fun v => v.category) = M'.2.2.2.2.2.map cx_cat)
    (h : ∀ G1, tx_g k F L gr b G1 A i f s' → tx_gs F gr G0 G1 → tx_shp s' = p0 → cx_V E (pc + 3) lv (v.toList ++ st) G1) : cx_V E pc lv stk G := by
  refine cx_invV hE hd (hM ▸ hL) hG hSp hst hfr hw hn hav (fun v' G' q => ?_) (fun x G' q => by cases q.1)
  obtain ⟨q1, q2, q3, q4⟩ := q
  cases q1
  exact h G' (hg.mq q2 q3 q4 hsh) (hs.tr q3.gs) (hsh.trans hp)
theorem cx_gsubI {idx fr' : Nat} {M' : cx_M} {av : List Value} {f2 : Nat} {R1 : tx_R Int32} {g : Int32 → Nat → tx_S → tx_R α} {p0 : Nat × Option Nat} (hE : cx_C E k l fr M G0 Post) (hd : decode M.2.1 pc = .ok (.invokevirtual idx, 3)) (hM : M.1.cls = "CircuitText$Grammar") (hh : M.2.2.2.2.1 = []) (hL : cx_LV "CircuitText$Grammar" idx 1 M') (hT : ∀ e x G', R0 = .inl e → tx_gt F L gr b G0 ve e x G' → Post (.inr x) G') (hve : A.ve = ve) (hg : tx_g k F L gr b G A i f s) (hs : tx_gs F gr G0 G) (hp : tx_shp s = p0) (hR : R0 = R1.and g) (hSp : cx_Sp k l M' fr' (.ref gr :: av) G (tx_gp k F L gr b G A f2 (fun w => some (.int w)) s R1)) (hst : stk = av.reverse ++ .ref gr :: st) (hfr : fr' + 1 ≤ fr) (hw : (st.map fun v => v.category).sum ≤ 8) (hn : (parseMethodDescriptor M'.1.desc).map (fun d => d.parameters.length) = some av.length) (hav : (Value.ref gr :: av).map (fun v => v.category) = M'.2.2.2.2.2.map cx_cat)
    (h : ∀ a i' s' G1, R1 = .inr (a, i', s') → tx_g k F L gr b G1 A i' f2 s' → tx_gs F gr G0 G1 → tx_shp s' = p0 → R0 = g a i' s' → cx_V E (pc + 3) lv (.int a :: st) G1) : cx_V E pc lv stk G :=
  cx_gsub hE hd hM hh hL hT hve hg hs hp hR hSp hst hfr hw hn hav h
theorem cx_gsubU {idx fr' : Nat} {M' : cx_M} {av : List Value} {f2 : Nat} {R1 : tx_R Unit} {g : Unit → Nat → tx_S → tx_R α} {p0 : Nat × Option Nat} (hE : cx_C E k l fr M G0 Post) (hd : decode M.2.1 pc = .ok (.invokevirtual idx, 3)) (hM : M.1.cls = "CircuitText$Grammar") (hh : M.2.2.2.2.1 = []) (hL : cx_LV "CircuitText$Grammar" idx 1 M') (hT : ∀ e x G', R0 = .inl e → tx_gt F L gr b G0 ve e x G' → Post (.inr x) G') (hve : A.ve = ve) (hg : tx_g k F L gr b G A i f s) (hs : tx_gs F gr G0 G) (hp : tx_shp s = p0) (hR : R0 = R1.and g) (hSp : cx_Sp k l M' fr' (.ref gr :: av) G (tx_gp k F L gr b G A f2 (fun _ => none) s R1)) (hst : stk = av.reverse ++ .ref gr :: st) (hfr : fr' + 1 ≤ fr) (hw : (st.map fun v => v.category).sum ≤ 8) (hn : (parseMethodDescriptor M'.1.desc).map (fun d => d.parameters.length) = some av.length) (hav : (Value.ref gr :: av).map (fun v => v.category) = M'.2.2.2.2.2.map cx_cat)
    (h : ∀ a i' s' G1, R1 = .inr (a, i', s') → tx_g k F L gr b G1 A i' f2 s' → tx_gs F gr G0 G1 → tx_shp s' = p0 → R0 = g a i' s' → cx_V E (pc + 3) lv st G1) : cx_V E pc lv stk G :=
  cx_gsub hE hd hM hh hL hT hve hg hs hp hR hSp hst hfr hw hn hav h
theorem cx_gmq1 {idx fr' ci a : Nat} {M' : cx_M} {av fs : List Value} {v : Value} {p0 : Nat × Option Nat} (hE : cx_C E k l fr M G0 Post) (hd : decode M.2.1 pc = .ok (.invokevirtual idx, 3)) (hM : M.1.cls = "CircuitText$Grammar") (hL : cx_LV "CircuitText$Grammar" idx ci M') (hG : G.1 a = some (.inr (ci, fs))) (hg : tx_g k F L gr b G A i f s) (hs : tx_gs F gr G0 G) (hp : tx_shp s = p0) (hSp : cx_Sp k l M' fr' (.ref a :: av) G (tx_mq k F G A s' (some v))) (hsh : tx_shp s' = tx_shp s) (hst : stk = av.reverse ++ .ref a :: st) (hfr : fr' + 1 ≤ fr) (hw : (st.map fun v => v.category).sum ≤ 8) (hn : (parseMethodDescriptor M'.1.desc).map (fun d => d.parameters.length) = some av.length) (hav : (Value.ref a :: av).map (fun v => v.category) = M'.2.2.2.2.2.map cx_cat)
    (h : ∀ G1, tx_g k F L gr b G1 A i f s' → tx_gs F gr G0 G1 → tx_shp s' = p0 → cx_V E (pc + 3) lv (v :: st) G1) : cx_V E pc lv stk G :=
  cx_gmq hE hd hM hL hG hg hs hp hSp hsh hst hfr hw hn hav h
theorem cx_gmq0 {idx fr' ci a : Nat} {M' : cx_M} {av fs : List Value} {p0 : Nat × Option Nat} (hE : cx_C E k l fr M G0 Post) (hd : decode M.2.1 pc = .ok (.invokevirtual idx, 3)) (hM : M.1.cls = "CircuitText$Grammar") (hL : cx_LV "CircuitText$Grammar" idx ci M') (hG : G.1 a = some (.inr (ci, fs))) (hg : tx_g k F L gr b G A i f s) (hs : tx_gs F gr G0 G) (hp : tx_shp s = p0) (hSp : cx_Sp k l M' fr' (.ref a :: av) G (tx_mq k F G A s' none)) (hsh : tx_shp s' = tx_shp s) (hst : stk = av.reverse ++ .ref a :: st) (hfr : fr' + 1 ≤ fr) (hw : (st.map fun v => v.category).sum ≤ 8) (hn : (parseMethodDescriptor M'.1.desc).map (fun d => d.parameters.length) = some av.length) (hav : (Value.ref a :: av).map (fun v => v.category) = M'.2.2.2.2.2.map cx_cat)
    (h : ∀ G1, tx_g k F L gr b G1 A i f s' → tx_gs F gr G0 G1 → tx_shp s' = p0 → cx_V E (pc + 3) lv st G1) : cx_V E pc lv stk G :=
  cx_gmq hE hd hM hL hG hg hs hp hSp hsh hst hfr hw hn hav h
end TXS

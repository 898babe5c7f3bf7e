/-! MEANING: what a token names. -/
section TXL
variable {k : cx_K} {F : Nat → Prop} {G : cx_G} {A : tx_A} {s : tx_S}
theorem tx_S.cur {s : tx_S} {u : tx_U} (h : s.2.2.1 = some u) : s.all[s.2.1.length]? = some u := by
  unfold tx_S.all
  rw [List.getElem?_append_right (Nat.le_refl _), Nat.sub_self, h]
  rfl
theorem tx_S.lt {s : tx_S} {j : Nat} {u : tx_U} (h : s.all[j]? = some u) : j < 1000000 ∨ ¬ tx_mI s := by
  by_cases hI : tx_mI s
  · left
    have := (List.getElem?_eq_some_iff.mp h).1
    have := hI.2.2.1
    omega
  · exact Or.inr hI
theorem tx_m.ui (hm : tx_m k F G A s) {j j' : Nat} {u u' : tx_U} (h : s.all[j]? = some u) (h' : s.all[j']? = some u') (e : A.ua j = A.ua j') : j = j' := by
  have hI := hm.2.2.2.2.2.2.2.2.1
  have l1 := (tx_S.lt h).resolve_right (fun z => z hI)
  have l2 := (tx_S.lt h').resolve_right (fun z => z hI)
  have c1 := hm.2.2.2.1 j u h
  have c2 := hm.2.2.2.1 j' u' h'
  rw [e, c2] at c1
  unfold tx_um at c1
  simp only [Option.some.injEq, Sum.inr.injEq, Prod.mk.injEq, List.cons.injEq, Value.int.injEq] at c1
  exact ((nI_eq (by omega) (by omega)).mp c1.2.2.2.1).symm
theorem tx_S.da_some {s : tx_S} {x : tx_X} {q : Nat} (h : s.da x = some q) : ∃ T, x = some T ∧ s.2.2.2.2 T = some (s.2.1.length, q) ∧ ∃ u, s.2.2.1 = some u := by
  unfold tx_S.da at h
  cases hx : x with
  | none => rw [hx] at h; cases h
  | some T =>
    rw [hx] at h
    refine ⟨T, rfl, ?_⟩
    cases hd : s.2.2.2.2 T with
    | none => rw [show (some T : tx_X).bind s.2.2.2.2 = none from hd] at h; cases h
    | some p =>
      obtain ⟨j, q'⟩ := p
      rw [show (some T : tx_X).bind s.2.2.2.2 = some (j, q') from hd] at h
      have h9 : (if j = s.2.1.length ∧ s.2.2.1.isSome = true then some q' else none) = some q := h
      by_cases z : j = s.2.1.length ∧ s.2.2.1.isSome = true
      · rw [if_pos z] at h9
        cases h9
        obtain ⟨u, hu⟩ := Option.isSome_iff_exists.mp z.2
        exact ⟨by rw [z.1], u, hu⟩
      · rw [if_neg z] at h9
        cases h9
theorem tx_S.da_of {s : tx_S} {T : List Int32} {j q : Nat} {u : tx_U} (hu : s.2.2.1 = some u) (h : s.2.2.2.2 T = some (j, q)) : s.da (some T) = if j = s.2.1.length then some q else none := by
  unfold tx_S.da
  rw [show (some T : tx_X).bind s.2.2.2.2 = some (j, q) from h]
  show (if j = s.2.1.length ∧ s.2.2.1.isSome = true then some q else none) = _
  rw [hu]
  by_cases z : j = s.2.1.length
  · rw [if_pos ⟨z, rfl⟩, if_pos z]
  · rw [if_neg (fun y => z y.1), if_neg z]
theorem tx_S.da_no {s : tx_S} {T : List Int32} (h : s.2.2.2.2 T = none) : s.da (some T) = none := by
  unfold tx_S.da
  rw [show (some T : tx_X).bind s.2.2.2.2 = none from h]
/-- the record of a name that is there -/
theorem tx_S.nm_of {s : tx_S} (hI : tx_mI s) {T : List Int32} {j q : Nat} (h : s.2.2.2.2 T = some (j, q)) : ∃ u r, s.all[j]? = some u ∧ u.2.2.1[q]? = some r := by
  obtain ⟨u, h1, h2⟩ := hI.2.1 T (j, q) h
  exact ⟨u, _, h1, List.getElem?_eq_getElem h2⟩
end TXL
set_option maxRecDepth 100000 in
theorem c_Me_moduleOf {k : cx_K} {l : Launch} {G : cx_G} {F : Nat → Prop} {A : tx_A} {s : tx_S} {a : Nat} {t : tx_Tk} (hm : tx_m k F G A s) (ht : tx_tw G A a t) : cx_Sp k l m_Me_moduleOf 0 [.ref a] G (cx_rd (some (va_rf ((s.mo t.2.2.2.1).map A.ua))) G) := by
  intro E hE
  obtain ⟨nx, ht0, hwf⟩ := ht
  cases hx : t.2.2.2.1 with
  | none =>
    have hta : G.1 a = some (.inr (7, [.int t.1, .int (nI t.2.1), .int (nI t.2.2.1), va_rf nx, .null, .int t.2.2.2.2.1, .long t.2.2.2.2.2])) := by
      have := ht0
      unfold tx_to at this
      rw [this, hx]
      rfl
    refine cx_aload_n (i := 0) hE d_Me_moduleOf_0 rfl rfl ?_
    refine cx_get hE d_Me_moduleOf_1 f_Me_89 (by assumption) (by rfl) ?_
    refine cx_ifnonnull (tgt := 11) (r := none) hE d_Me_moduleOf_4 (by decide) (fun a_4 c_4 => ?_) (fun c_4 => ?_)
    · cases c_4
      -- end
    · refine cx_null hE d_Me_moduleOf_7 ?_
      refine cx_goto (tgt := 18) hE d_Me_moduleOf_8 (by decide) ?_
      refine cx_aret (r := none) hE d_Me_moduleOf_18 rfl (by first | exact Or.inl ⟨_, rfl⟩ | exact Or.inr ⟨_, rfl⟩) ?_
      refine ⟨?_, rfl⟩
      rw [hx]
      rfl
  | some T =>
    obtain ⟨w, hw⟩ := hwf T hx
    obtain ⟨wx, kd, tb, hw1, hw2⟩ := hm.2.2.2.2.2.2.1 T w hw
    have hta : G.1 a = some (.inr (7, [.int t.1, .int (nI t.2.1), .int (nI t.2.2.1), va_rf nx, .ref w, .int t.2.2.2.2.1, .long t.2.2.2.2.2])) := by
      have := ht0
      unfold tx_to at this
      rw [this, hx]
      show some (Sum.inr (7, [_, _, _, _, va_rf ((some T : tx_X).bind A.wf), _, _])) = _
      rw [show (some T : tx_X).bind A.wf = some w from hw]
      rfl
    refine cx_aload_n (i := 0) hE d_Me_moduleOf_0 rfl rfl ?_
    refine cx_get hE d_Me_moduleOf_1 f_Me_89 (by assumption) (by rfl) ?_
    refine cx_ifnonnull (tgt := 11) (r := some w) hE d_Me_moduleOf_4 (by decide) (fun a_4 c_4 => ?_) (fun c_4 => ?_)
    · refine cx_aload_n (i := 0) hE d_Me_moduleOf_11 rfl rfl ?_
      refine cx_get hE d_Me_moduleOf_12 f_Me_89 (by assumption) (by rfl) ?_
      refine cx_get hE d_Me_moduleOf_15 f_Me_80 (by assumption) (by rfl) ?_
      refine cx_aret (r := (s.2.2.2.1 T).map A.ua) hE d_Me_moduleOf_18 rfl (by first | exact Or.inl ⟨_, rfl⟩ | exact Or.inr ⟨_, rfl⟩) ?_
      refine ⟨?_, rfl⟩
      rw [hx]
      rfl
    · cases c_4
      -- end
set_option maxRecDepth 100000 in
theorem c_Me_declaredAs {k : cx_K} {l : Launch} {G : cx_G} {F : Nat → Prop} {A : tx_A} {s : tx_S} {u : tx_U} {a : Nat} {t : tx_Tk} (hm : tx_m k F G A s) (hu : s.2.2.1 = some u) (ht : tx_tw G A a t) : cx_Sp k l m_Me_declaredAs 0 [.ref A.me, .ref a] G (cx_rd (some (va_rf ((s.da t.2.2.2.1).map (A.na s.2.1.length)))) G) := by
  intro E hE
  obtain ⟨nx, ht0, hwf⟩ := ht
  obtain ⟨x, hme, hxu⟩ := hm.2.1
  have hxu := hxu u hu
  subst hxu
  cases hx : t.2.2.2.1 with
  | none =>
    have hta : G.1 a = some (.inr (7, [.int t.1, .int (nI t.2.1), .int (nI t.2.2.1), va_rf nx, .null, .int t.2.2.2.2.1, .long t.2.2.2.2.2])) := by
      have := ht0
      unfold tx_to at this
      rw [this, hx]
      rfl
    refine cx_aload_n (i := 1) hE d_Me_declaredAs_0 rfl rfl ?_
    refine cx_get hE d_Me_declaredAs_1 f_Me_89 (by assumption) (by rfl) ?_
    refine cx_ifnonnull (tgt := 11) (r := none) hE d_Me_declaredAs_4 (by decide) (fun a_4 c_4 => ?_) (fun c_4 => ?_)
    · cases c_4
      -- end
    · refine cx_null hE d_Me_declaredAs_7 ?_
      refine cx_goto (tgt := 18) hE d_Me_declaredAs_8 (by decide) ?_
      refine cx_astore_n (i := 2) hE d_Me_declaredAs_18 rfl (by decide) ?_
      refine cx_aload_n (i := 2) hE d_Me_declaredAs_19 rfl rfl ?_
      refine cx_ifnull (tgt := 38) (r := none) hE d_Me_declaredAs_20 (by decide) (fun c_20 => ?_) (fun a_20 c_20 => ?_)
      · refine cx_null hE d_Me_declaredAs_38 ?_
        refine cx_aret (r := none) hE d_Me_declaredAs_39 rfl (by first | exact Or.inl ⟨_, rfl⟩ | exact Or.inr ⟨_, rfl⟩) ?_
        refine ⟨?_, rfl⟩
        rw [hx]
        rfl
      · cases c_20
        -- end
  | some T =>
    obtain ⟨w, hw⟩ := hwf T hx
    obtain ⟨wx, kd, tb, hw1, hw2⟩ := hm.2.2.2.2.2.2.1 T w hw
    have hta : G.1 a = some (.inr (7, [.int t.1, .int (nI t.2.1), .int (nI t.2.2.1), va_rf nx, .ref w, .int t.2.2.2.2.1, .long t.2.2.2.2.2])) := by
      have := ht0
      unfold tx_to at this
      rw [this, hx]
      show some (Sum.inr (7, [_, _, _, _, va_rf ((some T : tx_X).bind A.wf), _, _])) = _
      rw [show (some T : tx_X).bind A.wf = some w from hw]
      rfl
    cases hd : s.2.2.2.2 T with
    | none =>
      rw [hd] at hw1
      refine cx_aload_n (i := 1) hE d_Me_declaredAs_0 rfl rfl ?_
      refine cx_get hE d_Me_declaredAs_1 f_Me_89 (by assumption) (by rfl) ?_
      refine cx_ifnonnull (tgt := 11) (r := some w) hE d_Me_declaredAs_4 (by decide) (fun a_4 c_4 => ?_) (fun c_4 => ?_)
      · refine cx_aload_n (i := 1) hE d_Me_declaredAs_11 rfl rfl ?_
        refine cx_get hE d_Me_declaredAs_12 f_Me_89 (by assumption) (by rfl) ?_
        refine cx_get hE d_Me_declaredAs_15 f_Me_97 (by assumption) (by rfl) ?_
        refine cx_astore_n (i := 2) hE d_Me_declaredAs_18 rfl (by decide) ?_
        refine cx_aload_n (i := 2) hE d_Me_declaredAs_19 rfl rfl ?_
        refine cx_ifnull (tgt := 38) (r := none) hE d_Me_declaredAs_20 (by decide) (fun c_20 => ?_) (fun a_20 c_20 => ?_)
        · refine cx_null hE d_Me_declaredAs_38 ?_
          refine cx_aret (r := none) hE d_Me_declaredAs_39 rfl (by first | exact Or.inl ⟨_, rfl⟩ | exact Or.inr ⟨_, rfl⟩) ?_
          refine ⟨?_, rfl⟩
          rw [hx, tx_S.da_no hd]
          rfl
        · cases c_20
          -- end
      · cases c_4
        -- end
    | some p =>
      obtain ⟨j, q⟩ := p
      rw [hd] at hw1
      obtain ⟨u9, r9, hj, hr⟩ := tx_S.nm_of hm.2.2.2.2.2.2.2.2.1 hd
      have hn9 := hm.2.2.2.2.2.1 j u9 hj q r9 hr
      unfold tx_nm at hn9
      refine cx_aload_n (i := 1) hE d_Me_declaredAs_0 rfl rfl ?_
      refine cx_get hE d_Me_declaredAs_1 f_Me_89 (by assumption) (by rfl) ?_
      refine cx_ifnonnull (tgt := 11) (r := some w) hE d_Me_declaredAs_4 (by decide) (fun a_4 c_4 => ?_) (fun c_4 => ?_)
      · refine cx_aload_n (i := 1) hE d_Me_declaredAs_11 rfl rfl ?_
        refine cx_get hE d_Me_declaredAs_12 f_Me_89 (by assumption) (by rfl) ?_
        refine cx_get hE d_Me_declaredAs_15 f_Me_97 (by assumption) (by rfl) ?_
        refine cx_astore_n (i := 2) hE d_Me_declaredAs_18 rfl (by decide) ?_
        refine cx_aload_n (i := 2) hE d_Me_declaredAs_19 rfl rfl ?_
        refine cx_ifnull (tgt := 38) (r := some (A.na j q)) hE d_Me_declaredAs_20 (by decide) (fun c_20 => ?_) (fun a_20 c_20 => ?_)
        · cases c_20
          -- end
        · refine cx_aload_n (i := 2) hE d_Me_declaredAs_23 rfl rfl ?_
          refine cx_get hE d_Me_declaredAs_24 f_Me_109 (by assumption) (by rfl) ?_
          refine cx_aload_n (i := 0) hE d_Me_declaredAs_27 rfl rfl ?_
          refine cx_get hE d_Me_declaredAs_28 f_Me_28 (by assumption) (by rfl) ?_
          refine cx_acmp_ne (tgt := 38) (rx := some (A.ua j)) (ry := some (A.ua s.2.1.length)) hE d_Me_declaredAs_31 (by decide) (fun c_31 => ?_) (fun c_31 => ?_)
          · have q_j : ¬ j = s.2.1.length := fun z => c_31 (by rw [z])
            refine cx_null hE d_Me_declaredAs_38 ?_
            refine cx_aret (r := none) hE d_Me_declaredAs_39 rfl (by first | exact Or.inl ⟨_, rfl⟩ | exact Or.inr ⟨_, rfl⟩) ?_
            refine ⟨?_, rfl⟩
            rw [hx, tx_S.da_of hu hd]
            first
              | (rw [if_pos q_j, ← q_j]; rfl)
              | (rw [if_neg q_j]; rfl)
          · have q_j : j = s.2.1.length := hm.ui hj (tx_S.cur hu) (Option.some.inj c_31)
            refine cx_aload_n (i := 2) hE d_Me_declaredAs_34 rfl rfl ?_
            refine cx_goto (tgt := 39) hE d_Me_declaredAs_35 (by decide) ?_
            refine cx_aret (r := some (A.na j q)) hE d_Me_declaredAs_39 rfl (by first | exact Or.inl ⟨_, rfl⟩ | exact Or.inr ⟨_, rfl⟩) ?_
            refine ⟨?_, rfl⟩
            rw [hx, tx_S.da_of hu hd]
            first
              | (rw [if_pos q_j, ← q_j]; rfl)
              | (rw [if_neg q_j]; rfl)
      · cases c_4
        -- end

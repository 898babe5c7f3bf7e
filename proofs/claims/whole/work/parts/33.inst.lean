/-! MEANING: instances and links. -/
section TXW
variable {k : cx_K} {F : Nat → Prop} {G : cx_G} {A : tx_A} {s : tx_S}
theorem tx_m.wi (hm : tx_m k F G A s) {T T' : List Int32} {a : Nat} (h : A.wf T = some a) (h' : A.wf T' = some a) : T = T' := by
  obtain ⟨nx, kd, tb, q1, g, q2, q3⟩ := hm.2.2.2.2.2.2.1 T a h
  obtain ⟨nx', kd', tb', q1', g', q2', q3'⟩ := hm.2.2.2.2.2.2.1 T' a h'
  rw [q1] at q1'
  simp only [Option.some.injEq, Sum.inr.injEq, Prod.mk.injEq, List.cons.injEq, Value.ref.injEq] at q1'
  obtain ⟨-, e, -⟩ := q1'
  subst e
  rw [q2] at q2'
  simp only [Option.some.injEq, Sum.inl.injEq, Prod.mk.injEq] at q2'
  obtain ⟨-, e1, e2⟩ := q2'
  subst e2
  exact tx_leq e1 (fun j hj => by rw [← q3.1 j hj, q3'.1 j (by omega)])
theorem tx_m.we (hm : tx_m k F G A s) {x y : tx_X} (hx : ∀ T, x = some T → ∃ w, A.wf T = some w) (hy : ∀ T, y = some T → ∃ w, A.wf T = some w) : A.w x = A.w y ↔ x = y := by
  refine ⟨fun e => ?_, fun e => by rw [e]⟩
  cases hx1 : x with
  | none =>
    cases hy1 : y with
    | none => rfl
    | some T =>
      obtain ⟨w, hw⟩ := hy T hy1
      rw [hx1, hy1] at e
      have e2 : none = A.wf T := e
      rw [hw] at e2
      cases e2
  | some T =>
    obtain ⟨w, hw⟩ := hx T hx1
    cases hy1 : y with
    | none =>
      rw [hx1, hy1] at e
      have e2 : A.wf T = none := e
      rw [hw] at e2
      cases e2
    | some T' =>
      obtain ⟨w', hw'⟩ := hy T' hy1
      rw [hx1, hy1] at e
      have e2 : A.wf T = A.wf T' := e
      rw [hw, hw'] at e2
      cases e2
      rw [hm.wi hw hw']
end TXW
def tx_S.un (s : tx_S) (j : Nat) : tx_U := s.all.getD j tx_u0
theorem tx_S.un_of {s : tx_S} {j : Nat} {u : tx_U} (h : s.all[j]? = some u) : s.un j = u := by
  unfold tx_S.un
  rw [List.getD_eq_getElem?_getD, h]
  rfl
theorem tx_S.lt_all {s : tx_S} {j : Nat} (h : j < s.2.1.length) : ∃ u, s.all[j]? = some u := by
  have hl : j < s.all.length := by
    unfold tx_S.all
    rw [List.length_append]
    omega
  exact ⟨_, List.getElem?_eq_getElem hl⟩
/-- the port of that text, from place k on -/
def tx_po (u : tx_U) (x : tx_X) : Nat → Nat → Option Nat
  | 0, _ => none
  | m + 1, q => if nI q < u.2.2.2.1 then (if (u.2.2.1.getD q tx_n0).1 = x then some q else tx_po u x m (q + 1)) else none
def tx_port (u : tx_U) (x : tx_X) : Option Nat := tx_po u x u.2.2.1.length 0
def tx_fini (q : Nat) (s : tx_S) : tx_S := tx_ck (match (s.rc q).2.2.2.2.2.2.2.1 with | none => false | some j => decide ((s.rc q).2.2.2.2.2.2.2.2.1 = (s.un j).2.2.2.1)) 24 (nI (s.rc q).2.2.2.1) s
set_option maxRecDepth 100000 in
theorem c_Me_finishInstance {k : cx_K} {l : Launch} {G : cx_G} {F : Nat → Prop} {A : tx_A} {s : tx_S} {u : tx_U} (hu : s.2.2.1 = some u) {q : Nat} {r : tx_N} (hr : u.2.2.1[q]? = some r) (hm : tx_m k F G A s)  : cx_Sp k l m_Me_finishInstance 1 [.ref A.me, .ref (A.na s.2.1.length q)] G (tx_mq k F G A (tx_fini q s) none) := by
  intro E hE
  obtain ⟨x0, hme, hxu⟩ := hm.2.1
  have hn9 := hm.2.2.2.2.2.1 _ u (tx_S.cur hu) q r hr
  unfold tx_nm at hn9
  have hrc := tx_S.rc_of hu hr
  cases hof : r.2.2.2.2.2.2.2.1 with
  | none =>
    rw [hof] at hn9
    refine cx_aload_n (i := 1) hE d_Me_finishInstance_0 rfl rfl ?_
    refine cx_get hE d_Me_finishInstance_1 f_Me_143 (by assumption) (by rfl) ?_
    refine cx_ifnull (tgt := 25) (r := none) hE d_Me_finishInstance_4 (by decide) (fun c_4 => ?_) (fun a_4 c_4 => ?_)
    · refine cx_iconst (v := 0) hE d_Me_finishInstance_25 (by decide) ?_
      refine cx_istore_n (i := 2) hE d_Me_finishInstance_26 rfl (by decide) ?_
      refine cx_aload_n (i := 0) hE d_Me_finishInstance_27 rfl rfl ?_
      refine cx_get hE d_Me_finishInstance_28 f_Me_32 (by assumption) (by rfl) ?_
      refine cx_iload_n (i := 2) hE d_Me_finishInstance_31 rfl rfl ?_
      refine cx_bipush (v := 24) hE d_Me_finishInstance_32 (by decide) ?_
      refine cx_aload_n (i := 1) hE d_Me_finishInstance_34 rfl rfl ?_
      refine cx_get hE d_Me_finishInstance_35 f_Me_71 (by assumption) (by rfl) ?_
      refine cx_invV hE d_Me_finishInstance_38 l_Me_44 hm.1 (c_ck (right := false) (code := 24) (place := (nI r.2.2.2.1)) hm) rfl (by omega) (Nat.le_of_ble_eq_true rfl) n_Ve_check (by rfl) (fun v G1 q => ?_) (fun a G1 q => by cases q.1)
      obtain ⟨q0, hm1, hs1, hc1⟩ := q
      cases q0
      show cx_V E _ _ [] G1
      refine cx_vret hE d_Me_finishInstance_41 rfl ?_
      rw [show tx_fini q s = tx_ck false 24 (nI r.2.2.2.1) s by unfold tx_fini; rw [hrc, hof]]
      exact ⟨rfl, hm1, hs1, hc1⟩
    · cases c_4
      -- end
  | some j =>
    rw [hof] at hn9
    obtain ⟨uj, huj⟩ := tx_S.lt_all (((hm.2.2.2.2.2.2.2.2.1.2.2.2 _ u (tx_S.cur hu)).2 q r hr).1 j hof)
    have hun := hm.2.2.2.1 j uj huj
    unfold tx_um at hun
    have hunj := tx_S.un_of huj
    refine cx_aload_n (i := 1) hE d_Me_finishInstance_0 rfl rfl ?_
    refine cx_get hE d_Me_finishInstance_1 f_Me_143 (by assumption) (by rfl) ?_
    refine cx_ifnull (tgt := 25) (r := some (A.ua j)) hE d_Me_finishInstance_4 (by decide) (fun c_4 => ?_) (fun a_4 c_4 => ?_)
    · cases c_4
      -- end
    · refine cx_aload_n (i := 1) hE d_Me_finishInstance_7 rfl rfl ?_
      refine cx_get hE d_Me_finishInstance_8 f_Me_156 (by assumption) (by rfl) ?_
      refine cx_aload_n (i := 1) hE d_Me_finishInstance_11 rfl rfl ?_
      refine cx_get hE d_Me_finishInstance_12 f_Me_143 (by assumption) (by rfl) ?_
      refine cx_get hE d_Me_finishInstance_15 f_Me_162 (by assumption) (by rfl) ?_
      refine cx_icmp_ne (tgt := 25)  hE d_Me_finishInstance_18 (by decide) (fun c_18 => ?_) (fun c_18 => ?_)
      · refine cx_iconst (v := 0) hE d_Me_finishInstance_25 (by decide) ?_
        refine cx_istore_n (i := 2) hE d_Me_finishInstance_26 rfl (by decide) ?_
        refine cx_aload_n (i := 0) hE d_Me_finishInstance_27 rfl rfl ?_
        refine cx_get hE d_Me_finishInstance_28 f_Me_32 (by assumption) (by rfl) ?_
        refine cx_iload_n (i := 2) hE d_Me_finishInstance_31 rfl rfl ?_
        refine cx_bipush (v := 24) hE d_Me_finishInstance_32 (by decide) ?_
        refine cx_aload_n (i := 1) hE d_Me_finishInstance_34 rfl rfl ?_
        refine cx_get hE d_Me_finishInstance_35 f_Me_71 (by assumption) (by rfl) ?_
        refine cx_invV hE d_Me_finishInstance_38 l_Me_44 hm.1 (c_ck (right := false) (code := 24) (place := (nI r.2.2.2.1)) hm) rfl (by omega) (Nat.le_of_ble_eq_true rfl) n_Ve_check (by rfl) (fun v G1 q => ?_) (fun a G1 q => by cases q.1)
        obtain ⟨q0, hm1, hs1, hc1⟩ := q
        cases q0
        show cx_V E _ _ [] G1
        refine cx_vret hE d_Me_finishInstance_41 rfl ?_
        first
          | (rw [show tx_fini q s = tx_ck true 24 (nI r.2.2.2.1) s by
               unfold tx_fini
               rw [hrc, hof]
               show tx_ck (decide (r.2.2.2.2.2.2.2.2.1 = (s.un j).2.2.2.1)) _ _ _ = _
               rw [hunj, decide_eq_true c_18]]
             exact ⟨rfl, hm1, hs1, hc1⟩)
          | (rw [show tx_fini q s = tx_ck false 24 (nI r.2.2.2.1) s by
               unfold tx_fini
               rw [hrc, hof]
               show tx_ck (decide (r.2.2.2.2.2.2.2.2.1 = (s.un j).2.2.2.1)) _ _ _ = _
               rw [hunj, decide_eq_false c_18]]
             exact ⟨rfl, hm1, hs1, hc1⟩)
      · refine cx_iconst (v := 1) hE d_Me_finishInstance_21 (by decide) ?_
        refine cx_goto (tgt := 26) hE d_Me_finishInstance_22 (by decide) ?_
        refine cx_istore_n (i := 2) hE d_Me_finishInstance_26 rfl (by decide) ?_
        refine cx_aload_n (i := 0) hE d_Me_finishInstance_27 rfl rfl ?_
        refine cx_get hE d_Me_finishInstance_28 f_Me_32 (by assumption) (by rfl) ?_
        refine cx_iload_n (i := 2) hE d_Me_finishInstance_31 rfl rfl ?_
        refine cx_bipush (v := 24) hE d_Me_finishInstance_32 (by decide) ?_
        refine cx_aload_n (i := 1) hE d_Me_finishInstance_34 rfl rfl ?_
        refine cx_get hE d_Me_finishInstance_35 f_Me_71 (by assumption) (by rfl) ?_
        refine cx_invV hE d_Me_finishInstance_38 l_Me_44 hm.1 (c_ck (right := true) (code := 24) (place := (nI r.2.2.2.1)) hm) rfl (by omega) (Nat.le_of_ble_eq_true rfl) n_Ve_check (by rfl) (fun v G1 q => ?_) (fun a G1 q => by cases q.1)
        obtain ⟨q0, hm1, hs1, hc1⟩ := q
        cases q0
        show cx_V E _ _ [] G1
        refine cx_vret hE d_Me_finishInstance_41 rfl ?_
        first
          | (rw [show tx_fini q s = tx_ck true 24 (nI r.2.2.2.1) s by
               unfold tx_fini
               rw [hrc, hof]
               show tx_ck (decide (r.2.2.2.2.2.2.2.2.1 = (s.un j).2.2.2.1)) _ _ _ = _
               rw [hunj, decide_eq_true c_18]]
             exact ⟨rfl, hm1, hs1, hc1⟩)
          | (rw [show tx_fini q s = tx_ck false 24 (nI r.2.2.2.1) s by
               unfold tx_fini
               rw [hrc, hof]
               show tx_ck (decide (r.2.2.2.2.2.2.2.2.1 = (s.un j).2.2.2.1)) _ _ _ = _
               rw [hunj, decide_eq_false c_18]]
             exact ⟨rfl, hm1, hs1, hc1⟩)
set_option maxRecDepth 100000 in
theorem c_Un_portOf {k : cx_K} {l : Launch} {G : cx_G} {F : Nat → Prop} {A : tx_A} {s : tx_S} {j : Nat} {u : tx_U} {x : tx_X} (hj : s.all[j]? = some u) (hx : ∀ T, x = some T → ∃ w, A.wf T = some w) (hm : tx_m k F G A s)  : cx_Sp k l m_Un_portOf 3 [.ref (A.ua j), va_rf (A.w x)] G (cx_rd (some (va_rf ((tx_port u x).map (A.na j)))) G) := by
  intro E hE
  have hun := hm.2.2.2.1 j u hj
  unfold tx_um at hun
  have hll := hm.2.2.2.2.1 j u hj
  obtain ⟨⟨mc, hlc⟩, hl2⟩ := id hll
  have hxl : ((List.range u.2.2.1.length).map (A.na j)).length = u.2.2.1.length := by rw [List.length_map, List.length_range]
  rw [hxl] at hlc
  have hbd := (hm.2.2.2.2.2.2.2.2.1.2.2.2 j u hj).1
  have hcap : A.nc j < 2 ^ 31 := by
    rcases hl2 with ⟨z, _⟩ | ⟨f, _, _, _, z, _⟩
    · omega
    · rw [hxl] at z; omega
  have hge : ∀ q, q < u.2.2.1.length → ((List.range u.2.2.1.length).map (A.na j)).getD q 0 = A.na j q := by
    intro q hq
    rw [List.getD_eq_getElem?_getD, List.getElem?_map, List.getElem?_range hq]
    rfl
  have hloop : ∀ (m q : Nat), u.2.2.1.length - q = m → q ≤ u.2.2.1.length → tx_po u x m q = tx_port u x → cx_V E 2 [(2, false, .int (nI q)), (0, false, .ref (A.ua j)), (1, false, va_rf (A.w x))] [] G := by
    intro m
    induction m with
    | zero =>
      intro q hm9 hq hr9
      refine cx_iload_n (i := 2) hE d_Un_portOf_2 rfl rfl ?_
      refine cx_aload_n (i := 0) hE d_Un_portOf_3 rfl rfl ?_
      refine cx_get hE d_Un_portOf_4 f_Un_16 (by assumption) (by rfl) ?_
      refine cx_icmp_ge (tgt := 57)  hE d_Un_portOf_7 (by decide) (fun c_7 => ?_) (fun c_7 => ?_)
      · refine cx_null hE d_Un_portOf_57 ?_
        refine cx_aret (r := none) hE d_Un_portOf_58 rfl (by first | exact Or.inl ⟨_, rfl⟩ | exact Or.inr ⟨_, rfl⟩) ?_
        refine ⟨?_, rfl⟩
        rw [← hr9]
        rfl
      · refine cx_iload_n (i := 2) hE d_Un_portOf_10 rfl rfl ?_
        refine cx_aload_n (i := 0) hE d_Un_portOf_11 rfl rfl ?_
        refine cx_get hE d_Un_portOf_12 f_Un_10 (by assumption) (by rfl) ?_
        refine cx_invV1 hE d_Un_portOf_15 l_Un_49 hlc (c_AL_size hll) rfl (by omega) (Nat.le_of_ble_eq_true rfl) n_AL_size (by rfl) ?_
        rw [hxl]
        refine cx_icmp_ge (tgt := 57)  hE d_Un_portOf_18 (by decide) (fun c_18 => ?_) (fun c_18 => ?_)
        · refine cx_null hE d_Un_portOf_57 ?_
          refine cx_aret (r := none) hE d_Un_portOf_58 rfl (by first | exact Or.inl ⟨_, rfl⟩ | exact Or.inr ⟨_, rfl⟩) ?_
          refine ⟨?_, rfl⟩
          rw [← hr9]
          rfl
        · exact absurd (nJ_lt (by omega) c_18) (by omega)
          -- end
    | succ m ih =>
      intro q hm9 hq hr9
      have hql : q < u.2.2.1.length := by omega
      have hqr : u.2.2.1[q]? = some (u.2.2.1.getD q tx_n0) := by
        rw [List.getD_eq_getElem?_getD, List.getElem?_eq_getElem hql]
        rfl
      generalize hrr : u.2.2.1.getD q tx_n0 = r at hqr
      have hn9 := hm.2.2.2.2.2.1 j u hj q r hqr
      unfold tx_nm at hn9
      have hwe := hm.we (fun T hT => hm.2.2.2.2.2.2.2.1.2.2.2.2.2 j u hj q r hqr T hT) hx
      refine cx_iload_n (i := 2) hE d_Un_portOf_2 rfl rfl ?_
      refine cx_aload_n (i := 0) hE d_Un_portOf_3 rfl rfl ?_
      refine cx_get hE d_Un_portOf_4 f_Un_16 (by assumption) (by rfl) ?_
      refine cx_icmp_ge (tgt := 57)  hE d_Un_portOf_7 (by decide) (fun c_7 => ?_) (fun c_7 => ?_)
      · have q_7 : ¬ nI q < u.2.2.2.1 := Int32.not_lt.mpr c_7
        refine cx_null hE d_Un_portOf_57 ?_
        refine cx_aret (r := none) hE d_Un_portOf_58 rfl (by first | exact Or.inl ⟨_, rfl⟩ | exact Or.inr ⟨_, rfl⟩) ?_
        refine ⟨?_, rfl⟩
        rw [← hr9]
        unfold tx_po
        first
          | (rw [if_neg q_7]; rfl)
          | (rw [if_pos q_7, hrr, if_pos q_36]; rfl)
      · have q_7 : nI q < u.2.2.2.1 := Int32.not_le.mp c_7
        refine cx_iload_n (i := 2) hE d_Un_portOf_10 rfl rfl ?_
        refine cx_aload_n (i := 0) hE d_Un_portOf_11 rfl rfl ?_
        refine cx_get hE d_Un_portOf_12 f_Un_10 (by assumption) (by rfl) ?_
        refine cx_invV1 hE d_Un_portOf_15 l_Un_49 hlc (c_AL_size hll) rfl (by omega) (Nat.le_of_ble_eq_true rfl) n_AL_size (by rfl) ?_
        rw [hxl]
        refine cx_icmp_ge (tgt := 57)  hE d_Un_portOf_18 (by decide) (fun c_18 => ?_) (fun c_18 => ?_)
        · exact absurd c_18 (nI_ge (a := q) (b := u.2.2.1.length) (by omega) (by omega))
          -- end
        · refine cx_aload_n (i := 0) hE d_Un_portOf_21 rfl rfl ?_
          refine cx_get hE d_Un_portOf_22 f_Un_10 (by assumption) (by rfl) ?_
          refine cx_iload_n (i := 2) hE d_Un_portOf_25 rfl rfl ?_
          refine cx_invV1 hE d_Un_portOf_26 l_Un_53 hlc (c_AL_get (i := q) hll (by rw [hxl]; omega) (by omega)) rfl (by omega) (Nat.le_of_ble_eq_true rfl) n_AL_get (by rfl) ?_
          rw [hge q (by omega)]
          refine cx_cast hE d_Un_portOf_29 hn9 rfl (in_5 (List.mem_of_getElem? (i := 195) rfl)) ?_
          refine cx_get hE d_Un_portOf_32 f_Un_59 (by assumption) (by rfl) ?_
          refine cx_aload_n (i := 1) hE d_Un_portOf_35 rfl rfl ?_
          refine cx_acmp_ne (tgt := 51) (rx := A.w r.1) (ry := A.w x) hE d_Un_portOf_36 (by decide) (fun c_36 => ?_) (fun c_36 => ?_)
          · have q_36 : ¬ r.1 = x := fun z => c_36 (hwe.mpr z)
            refine cx_iinc (v := nI (q + 1)) hE d_Un_portOf_51 rfl (nI_1 _) (by decide) ?_
            refine cx_goto (tgt := 2) hE d_Un_portOf_54 (by decide) ?_
            refine cx_sub [0, 1, 2] rfl ?_
            have e9 : tx_po u x (m + 1) q = tx_po u x m (q + 1) := by
              show (if nI q < u.2.2.2.1 then (if (u.2.2.1.getD q tx_n0).1 = x then some q else tx_po u x m (q + 1)) else none) = _
              rw [if_pos q_7, hrr, if_neg q_36]
            exact ih (q + 1) (by omega) (by omega) (by rw [← hr9, e9])
          · have q_36 := hwe.mp c_36
            refine cx_aload_n (i := 0) hE d_Un_portOf_39 rfl rfl ?_
            refine cx_get hE d_Un_portOf_40 f_Un_10 (by assumption) (by rfl) ?_
            refine cx_iload_n (i := 2) hE d_Un_portOf_43 rfl rfl ?_
            refine cx_invV1 hE d_Un_portOf_44 l_Un_53 hlc (c_AL_get (i := q) hll (by rw [hxl]; omega) (by omega)) rfl (by omega) (Nat.le_of_ble_eq_true rfl) n_AL_get (by rfl) ?_
            rw [hge q (by omega)]
            refine cx_cast hE d_Un_portOf_47 hn9 rfl (in_5 (List.mem_of_getElem? (i := 195) rfl)) ?_
            refine cx_aret (r := some (A.na j q)) hE d_Un_portOf_50 rfl (by first | exact Or.inl ⟨_, rfl⟩ | exact Or.inr ⟨_, rfl⟩) ?_
            refine ⟨?_, rfl⟩
            rw [← hr9]
            unfold tx_po
            first
              | (rw [if_neg q_7]; rfl)
              | (rw [if_pos q_7, hrr, if_pos q_36]; rfl)
  refine cx_iconst (v := 0) hE d_Un_portOf_0 (by decide) ?_
  refine cx_istore_n (i := 2) hE d_Un_portOf_1 rfl (by decide) ?_
  refine cx_sub [0, 1, 2] rfl ?_
  exact hloop _ 0 rfl (Nat.zero_le _) rfl

/-! MEANING: a port is linked. -/
def tx_lb (v : Option (Nat × Nat)) (r : tx_N) : tx_N := (r.1, r.2.1, r.2.2.1, r.2.2.2.1, r.2.2.2.2.1, r.2.2.2.2.2.1, r.2.2.2.2.2.2.1, r.2.2.2.2.2.2.2.1, r.2.2.2.2.2.2.2.2.1, v)
def tx_lc (r : tx_N) : tx_N := (r.1, r.2.1, r.2.2.1, r.2.2.2.1, r.2.2.2.2.1, r.2.2.2.2.2.1, r.2.2.2.2.2.2.1, r.2.2.2.2.2.2.2.1, r.2.2.2.2.2.2.2.2.1 + 1, r.2.2.2.2.2.2.2.2.2)
def tx_S.rj (s : tx_S) (j q : Nat) : tx_N := (s.un j).2.2.1.getD q tx_n0
def tx_lpt (q : Nat) (t : tx_Tk) (s : tx_S) : Option (Nat × Nat) := (s.rc q).2.2.2.2.2.2.2.1.bind (fun j => (tx_port (s.un j) t.2.2.2.1).map (fun i => (j, i)))
def tx_lpo (q : Nat) (t : tx_Tk) (s : tx_S) : Option (Nat × Nat) × tx_S := match tx_lpt q t s with
  | none => (none, tx_ck false 23 (nI t.2.1) s)
  | some x => if (s.rj x.1 x.2).2.2.2.2.2.2.2.2.2 = some (s.2.1.length, q) then (none, tx_ck false 23 (nI t.2.1) s) else (some x, ((tx_ck true 23 (nI t.2.1) s).mn x.1 x.2 (tx_lb (some (s.2.1.length, q)))).mn s.2.1.length q tx_lc)
theorem tx_po_lt {u : tx_U} {x : tx_X} : ∀ (m q : Nat), ∀ i, tx_po u x m q = some i → i < q + m := by
  intro m
  induction m with
  | zero => intro q i h; cases h
  | succ m ih =>
    intro q i h
    have h9 : (if nI q < u.2.2.2.1 then (if (u.2.2.1.getD q tx_n0).1 = x then some q else tx_po u x m (q + 1)) else none) = some i := h
    by_cases e : nI q < u.2.2.2.1
    · rw [if_pos e] at h9
      by_cases e2 : (u.2.2.1.getD q tx_n0).1 = x
      · rw [if_pos e2] at h9
        cases h9
        omega
      · rw [if_neg e2] at h9
        have := ih (q + 1) i h9
        omega
    · rw [if_neg e] at h9
      cases h9
theorem tx_port_lt {u : tx_U} {x : tx_X} {i : Nat} (h : tx_port u x = some i) : i < u.2.2.1.length := by
  have := tx_po_lt _ _ _ h
  omega
set_option maxRecDepth 100000 in
theorem c_Me_linkedPort {k : cx_K} {l : Launch} {G : cx_G} {F : Nat → Prop} {A : tx_A} {s : tx_S} {u : tx_U} (hu : s.2.2.1 = some u) {q : Nat} {r : tx_N} (hr : u.2.2.1[q]? = some r) {a : Nat} {t : tx_Tk} (ht : tx_tw G A a t) (hm : tx_m k F G A s)  : cx_Sp k l m_Me_linkedPort 4 [.ref A.me, .ref (A.na s.2.1.length q), .ref a] G (tx_mq k F G A (tx_lpo q t s).2 (some (va_rf ((tx_lpo q t s).1.map (fun x => A.na x.1 x.2))))) := by
  intro E hE
  obtain ⟨x0, hme, hxu⟩ := hm.2.1
  obtain ⟨nx, ht0, hwf⟩ := id ht
  have hta : G.1 a = some (.inr (7, [.int t.1, .int (nI t.2.1), .int (nI t.2.2.1), va_rf nx, va_rf (A.w t.2.2.2.1), .int t.2.2.2.2.1, .long t.2.2.2.2.2])) := ht0
  have hn9 := hm.2.2.2.2.2.1 _ u (tx_S.cur hu) q r hr
  unfold tx_nm at hn9
  have hrc := tx_S.rc_of hu hr
  cases hof : r.2.2.2.2.2.2.2.1 with
  | none =>
    rw [hof] at hn9
    have hlp : tx_lpt q t s = none := by unfold tx_lpt; rw [hrc, hof]; rfl
    refine cx_aload_n (i := 1) hE d_Me_linkedPort_0 rfl rfl ?_
    refine cx_get hE d_Me_linkedPort_1 f_Me_143 (by assumption) (by rfl) ?_
    refine cx_ifnonnull (tgt := 11) (r := none) hE d_Me_linkedPort_4 (by decide) (fun a_4 c_4 => ?_) (fun c_4 => ?_)
    · cases c_4
      -- end
    · refine cx_null hE d_Me_linkedPort_7 ?_
      refine cx_goto (tgt := 22) hE d_Me_linkedPort_8 (by decide) ?_
      refine cx_astore_n (i := 3) hE d_Me_linkedPort_22 rfl (by decide) ?_
      refine cx_aload_n (i := 3) hE d_Me_linkedPort_23 rfl rfl ?_
      refine cx_ifnull (tgt := 39) (r := none) hE d_Me_linkedPort_24 (by decide) (fun c_24 => ?_) (fun a_24 c_24 => ?_)
      · refine cx_iconst (v := 0) hE d_Me_linkedPort_39 (by decide) ?_
        refine cx_istore hE d_Me_linkedPort_40 (by decide) ?_
        refine cx_aload_n (i := 0) hE d_Me_linkedPort_42 rfl rfl ?_
        refine cx_get hE d_Me_linkedPort_43 f_Me_32 (by assumption) (by rfl) ?_
        refine cx_iload hE d_Me_linkedPort_46 rfl ?_
        refine cx_bipush (v := 23) hE d_Me_linkedPort_48 (by decide) ?_
        refine cx_aload_n (i := 2) hE d_Me_linkedPort_50 rfl rfl ?_
        refine cx_get hE d_Me_linkedPort_51 f_Me_40 (by assumption) (by rfl) ?_
        refine cx_invV hE d_Me_linkedPort_54 l_Me_44 hm.1 (c_ck (right := false) (code := 23) (place := (nI t.2.1)) hm) rfl (by omega) (Nat.le_of_ble_eq_true rfl) n_Ve_check (by rfl) (fun v G1 q => ?_) (fun a G1 q => by cases q.1)
        obtain ⟨q0, hm1, hs1, hc1⟩ := q
        cases q0
        show cx_V E _ _ [] G1
        refine cx_iload hE d_Me_linkedPort_57 rfl ?_
        refine cx_if_eq (tgt := 77)  hE d_Me_linkedPort_59 (by decide) (fun c_59 => ?_) (fun c_59 => ?_)
        · refine cx_iload hE d_Me_linkedPort_77 rfl ?_
          refine cx_if_eq (tgt := 86)  hE d_Me_linkedPort_79 (by decide) (fun c_79 => ?_) (fun c_79 => ?_)
          · refine cx_null hE d_Me_linkedPort_86 ?_
            refine cx_aret (r := none) hE d_Me_linkedPort_87 rfl (by first | exact Or.inl ⟨_, rfl⟩ | exact Or.inr ⟨_, rfl⟩) ?_
            rw [show tx_lpo q t s = (none, tx_ck false 23 (nI t.2.1) s) by unfold tx_lpo; rw [hlp]]
            exact ⟨rfl, hm1, hs1, hc1⟩
          · exact absurd rfl c_79
            -- end
        · exact absurd rfl c_59
          -- end
      · cases c_24
        -- end
  | some j =>
    rw [hof] at hn9
    have hjl := ((hm.2.2.2.2.2.2.2.2.1.2.2.2 _ u (tx_S.cur hu)).2 q r hr).1 j hof
    obtain ⟨uj, huj⟩ := tx_S.lt_all hjl
    have hun := hm.2.2.2.1 j uj huj
    unfold tx_um at hun
    have hunj := tx_S.un_of huj
    have hpo := c_Un_portOf (l := l) (x := t.2.2.2.1) huj hwf hm
    cases hp : tx_port uj t.2.2.2.1 with
    | none =>
      rw [hp] at hpo
      have hlp : tx_lpt q t s = none := by unfold tx_lpt; rw [hrc, hof]; show (tx_port (s.un j) _).map _ = _; rw [hunj, hp]; rfl
      refine cx_aload_n (i := 1) hE d_Me_linkedPort_0 rfl rfl ?_
      refine cx_get hE d_Me_linkedPort_1 f_Me_143 (by assumption) (by rfl) ?_
      refine cx_ifnonnull (tgt := 11) (r := some (A.ua j)) hE d_Me_linkedPort_4 (by decide) (fun a_4 c_4 => ?_) (fun c_4 => ?_)
      · refine cx_aload_n (i := 1) hE d_Me_linkedPort_11 rfl rfl ?_
        refine cx_get hE d_Me_linkedPort_12 f_Me_143 (by assumption) (by rfl) ?_
        refine cx_aload_n (i := 2) hE d_Me_linkedPort_15 rfl rfl ?_
        refine cx_get hE d_Me_linkedPort_16 f_Me_89 (by assumption) (by rfl) ?_
        refine cx_invV1 hE d_Me_linkedPort_19 l_Me_149 hun hpo rfl (by omega) (Nat.le_of_ble_eq_true rfl) n_Un_portOf (by simp only [List.map_cons, List.map_nil, cx_rfc]; rfl) ?_
        refine cx_astore_n (i := 3) hE d_Me_linkedPort_22 rfl (by decide) ?_
        refine cx_aload_n (i := 3) hE d_Me_linkedPort_23 rfl rfl ?_
        refine cx_ifnull (tgt := 39) (r := none) hE d_Me_linkedPort_24 (by decide) (fun c_24 => ?_) (fun a_24 c_24 => ?_)
        · refine cx_iconst (v := 0) hE d_Me_linkedPort_39 (by decide) ?_
          refine cx_istore hE d_Me_linkedPort_40 (by decide) ?_
          refine cx_aload_n (i := 0) hE d_Me_linkedPort_42 rfl rfl ?_
          refine cx_get hE d_Me_linkedPort_43 f_Me_32 (by assumption) (by rfl) ?_
          refine cx_iload hE d_Me_linkedPort_46 rfl ?_
          refine cx_bipush (v := 23) hE d_Me_linkedPort_48 (by decide) ?_
          refine cx_aload_n (i := 2) hE d_Me_linkedPort_50 rfl rfl ?_
          refine cx_get hE d_Me_linkedPort_51 f_Me_40 (by assumption) (by rfl) ?_
          refine cx_invV hE d_Me_linkedPort_54 l_Me_44 hm.1 (c_ck (right := false) (code := 23) (place := (nI t.2.1)) hm) rfl (by omega) (Nat.le_of_ble_eq_true rfl) n_Ve_check (by rfl) (fun v G1 q => ?_) (fun a G1 q => by cases q.1)
          obtain ⟨q0, hm1, hs1, hc1⟩ := q
          cases q0
          show cx_V E _ _ [] G1
          refine cx_iload hE d_Me_linkedPort_57 rfl ?_
          refine cx_if_eq (tgt := 77)  hE d_Me_linkedPort_59 (by decide) (fun c_59 => ?_) (fun c_59 => ?_)
          · refine cx_iload hE d_Me_linkedPort_77 rfl ?_
            refine cx_if_eq (tgt := 86)  hE d_Me_linkedPort_79 (by decide) (fun c_79 => ?_) (fun c_79 => ?_)
            · refine cx_null hE d_Me_linkedPort_86 ?_
              refine cx_aret (r := none) hE d_Me_linkedPort_87 rfl (by first | exact Or.inl ⟨_, rfl⟩ | exact Or.inr ⟨_, rfl⟩) ?_
              rw [show tx_lpo q t s = (none, tx_ck false 23 (nI t.2.1) s) by unfold tx_lpo; rw [hlp]]
              exact ⟨rfl, hm1, hs1, hc1⟩
            · exact absurd rfl c_79
              -- end
          · exact absurd rfl c_59
            -- end
        · cases c_24
          -- end
      · cases c_4
        -- end
    | some i =>
      rw [hp] at hpo
      have hlp : tx_lpt q t s = some (j, i) := by unfold tx_lpt; rw [hrc, hof]; show (tx_port (s.un j) _).map _ = _; rw [hunj, hp]; rfl
      have hil := tx_port_lt hp
      obtain ⟨ri, hri⟩ : ∃ ri, uj.2.2.1[i]? = some ri := ⟨_, List.getElem?_eq_getElem hil⟩
      have hrj : s.rj j i = ri := by unfold tx_S.rj; rw [hunj, List.getD_eq_getElem?_getD, hri]; rfl
      have hni := hm.2.2.2.2.2.1 j uj huj i ri hri
      unfold tx_nm at hni
      have hql : q < u.2.2.1.length := (List.getElem?_eq_some_iff.mp hr).1
      have hlbq : ri.2.2.2.2.2.2.2.2.2.map (fun x => A.na x.1 x.2) = some (A.na s.2.1.length q) ↔ ri.2.2.2.2.2.2.2.2.2 = some (s.2.1.length, q) := by
        cases hlb : ri.2.2.2.2.2.2.2.2.2 with
        | none => exact ⟨fun z => (by cases z), fun z => (by cases z)⟩
        | some x =>
          obtain ⟨ux, hux, hxl⟩ := ((hm.2.2.2.2.2.2.2.2.1.2.2.2 j uj huj).2 i ri hri).2 x hlb
          refine ⟨fun z => ?_, fun z => by cases z; rfl⟩
          obtain ⟨z1, z2⟩ := hm.2.2.2.2.2.2.2.1.2.2.2.2.1 x.1 ux _ u hux (tx_S.cur hu) x.2 q hxl hql (Option.some.inj z)
          rw [← z1, ← z2]
      refine cx_aload_n (i := 1) hE d_Me_linkedPort_0 rfl rfl ?_
      refine cx_get hE d_Me_linkedPort_1 f_Me_143 (by assumption) (by rfl) ?_
      refine cx_ifnonnull (tgt := 11) (r := some (A.ua j)) hE d_Me_linkedPort_4 (by decide) (fun a_4 c_4 => ?_) (fun c_4 => ?_)
      · refine cx_aload_n (i := 1) hE d_Me_linkedPort_11 rfl rfl ?_
        refine cx_get hE d_Me_linkedPort_12 f_Me_143 (by assumption) (by rfl) ?_
        refine cx_aload_n (i := 2) hE d_Me_linkedPort_15 rfl rfl ?_
        refine cx_get hE d_Me_linkedPort_16 f_Me_89 (by assumption) (by rfl) ?_
        refine cx_invV1 hE d_Me_linkedPort_19 l_Me_149 hun hpo rfl (by omega) (Nat.le_of_ble_eq_true rfl) n_Un_portOf (by simp only [List.map_cons, List.map_nil, cx_rfc]; rfl) ?_
        refine cx_astore_n (i := 3) hE d_Me_linkedPort_22 rfl (by decide) ?_
        refine cx_aload_n (i := 3) hE d_Me_linkedPort_23 rfl rfl ?_
        refine cx_ifnull (tgt := 39) (r := some (A.na j i)) hE d_Me_linkedPort_24 (by decide) (fun c_24 => ?_) (fun a_24 c_24 => ?_)
        · cases c_24
          -- end
        · refine cx_aload_n (i := 3) hE d_Me_linkedPort_27 rfl rfl ?_
          refine cx_get hE d_Me_linkedPort_28 f_Me_153 (by assumption) (by rfl) ?_
          refine cx_aload_n (i := 1) hE d_Me_linkedPort_31 rfl rfl ?_
          refine cx_acmp_eq (tgt := 39) (rx := ri.2.2.2.2.2.2.2.2.2.map (fun x => A.na x.1 x.2)) (ry := some (A.na s.2.1.length q)) hE d_Me_linkedPort_32 (by decide) (fun c_32 => ?_) (fun c_32 => ?_)
          · have q_32 := hlbq.mp c_32
            refine cx_iconst (v := 0) hE d_Me_linkedPort_39 (by decide) ?_
            refine cx_istore hE d_Me_linkedPort_40 (by decide) ?_
            refine cx_aload_n (i := 0) hE d_Me_linkedPort_42 rfl rfl ?_
            refine cx_get hE d_Me_linkedPort_43 f_Me_32 (by assumption) (by rfl) ?_
            refine cx_iload hE d_Me_linkedPort_46 rfl ?_
            refine cx_bipush (v := 23) hE d_Me_linkedPort_48 (by decide) ?_
            refine cx_aload_n (i := 2) hE d_Me_linkedPort_50 rfl rfl ?_
            refine cx_get hE d_Me_linkedPort_51 f_Me_40 (by assumption) (by rfl) ?_
            refine cx_invV hE d_Me_linkedPort_54 l_Me_44 hm.1 (c_ck (right := false) (code := 23) (place := (nI t.2.1)) hm) rfl (by omega) (Nat.le_of_ble_eq_true rfl) n_Ve_check (by rfl) (fun v G1 q => ?_) (fun a G1 q => by cases q.1)
            obtain ⟨q0, hm1, hs1, hc1⟩ := q
            cases q0
            show cx_V E _ _ [] G1
            refine cx_iload hE d_Me_linkedPort_57 rfl ?_
            refine cx_if_eq (tgt := 77)  hE d_Me_linkedPort_59 (by decide) (fun c_59 => ?_) (fun c_59 => ?_)
            · refine cx_iload hE d_Me_linkedPort_77 rfl ?_
              refine cx_if_eq (tgt := 86)  hE d_Me_linkedPort_79 (by decide) (fun c_79 => ?_) (fun c_79 => ?_)
              · refine cx_null hE d_Me_linkedPort_86 ?_
                refine cx_aret (r := none) hE d_Me_linkedPort_87 rfl (by first | exact Or.inl ⟨_, rfl⟩ | exact Or.inr ⟨_, rfl⟩) ?_
                first
                  | (have e9 : tx_lpo q t s = (some (j, i), ((tx_ck true 23 (nI t.2.1) s).mn j i (tx_lb (some (s.2.1.length, q)))).mn s.2.1.length q tx_lc) := by
                       unfold tx_lpo
                       rw [hlp]
                       show (if (s.rj j i).2.2.2.2.2.2.2.2.2 = some (s.2.1.length, q) then _ else _) = _
                       rw [hrj, if_neg q_32]
                     rw [e9]
                     have hp2 := hp1.1.nm (f := tx_lc) hall2 hr (fun j' hj' => by
                       rw [show ((tx_ck true 23 (nI t.2.1) s).mn j i (tx_lb (some (s.2.1.length, q)))).2.1.length = s.2.1.length from (tx_S.mu_len _ _ _).1.trans (tx_ck_l ..)]
                       exact ((hm.2.2.2.2.2.2.2.2.1.2.2.2 _ u (tx_S.cur hu)).2 q r hr).1 j' hj')
                     have e1 : G_74 = cx_put G_64 (A.na s.2.1.length q) (tx_nm A s.2.1.length (tx_lc r)) := by rw [← g_74]; rfl
                     rw [e1]
                     exact ⟨rfl, hp2.1, hs1.tr (hp1.2.tr hp2.2), by rw [e64]; exact hc1⟩)
                  | (have e9 : tx_lpo q t s = (none, tx_ck false 23 (nI t.2.1) s) := by
                       unfold tx_lpo
                       rw [hlp]
                       show (if (s.rj j i).2.2.2.2.2.2.2.2.2 = some (s.2.1.length, q) then _ else _) = _
                       rw [hrj, if_pos q_32]
                     rw [e9]
                     exact ⟨rfl, hm1, hs1, hc1⟩)
              · exact absurd rfl c_79
                -- end
            · exact absurd rfl c_59
              -- end
          · have q_32 : ¬ ri.2.2.2.2.2.2.2.2.2 = some (s.2.1.length, q) := fun z => c_32 (hlbq.mpr z)
            refine cx_iconst (v := 1) hE d_Me_linkedPort_35 (by decide) ?_
            refine cx_goto (tgt := 40) hE d_Me_linkedPort_36 (by decide) ?_
            refine cx_istore hE d_Me_linkedPort_40 (by decide) ?_
            refine cx_aload_n (i := 0) hE d_Me_linkedPort_42 rfl rfl ?_
            refine cx_get hE d_Me_linkedPort_43 f_Me_32 (by assumption) (by rfl) ?_
            refine cx_iload hE d_Me_linkedPort_46 rfl ?_
            refine cx_bipush (v := 23) hE d_Me_linkedPort_48 (by decide) ?_
            refine cx_aload_n (i := 2) hE d_Me_linkedPort_50 rfl rfl ?_
            refine cx_get hE d_Me_linkedPort_51 f_Me_40 (by assumption) (by rfl) ?_
            refine cx_invV hE d_Me_linkedPort_54 l_Me_44 hm.1 (c_ck (right := true) (code := 23) (place := (nI t.2.1)) hm) rfl (by omega) (Nat.le_of_ble_eq_true rfl) n_Ve_check (by rfl) (fun v G1 q => ?_) (fun a G1 q => by cases q.1)
            obtain ⟨q0, hm1, hs1, hc1⟩ := q
            cases q0
            show cx_V E _ _ [] G1
            have hall1 := tx_S.cur hu
            rw [← tx_ck_a true 23 (nI t.2.1) s] at hall1
            have huj1 := huj
            rw [← tx_ck_a true 23 (nI t.2.1) s] at huj1
            have hni1 := hm1.2.2.2.2.2.1 j uj huj1 i ri hri
            unfold tx_nm at hni1
            have hp1 := hm1.nm (f := tx_lb (some (s.2.1.length, q))) huj1 hri (fun j' hj' => by rw [tx_ck_l]; exact ((hm.2.2.2.2.2.2.2.2.1.2.2.2 j uj huj).2 i ri hri).1 j' hj') (Or.inr (fun x hx => by cases hx; exact ⟨u, hall1, hql⟩))
            have hall2 : ((tx_ck true 23 (nI t.2.1) s).mn j i (tx_lb (some (s.2.1.length, q)))).all[s.2.1.length]? = some u := by
              unfold tx_S.mn
              rw [tx_S.mu_get, if_neg (by omega)]
              exact hall1
            refine cx_iload hE d_Me_linkedPort_57 rfl ?_
            refine cx_if_eq (tgt := 77)  hE d_Me_linkedPort_59 (by decide) (fun c_59 => ?_) (fun c_59 => ?_)
            · exact absurd c_59 (by decide)
              -- end
            · refine cx_aload_n (i := 3) hE d_Me_linkedPort_62 rfl rfl ?_
              refine cx_aload_n (i := 1) hE d_Me_linkedPort_63 rfl rfl ?_
              refine cx_putg hE d_Me_linkedPort_64 f_Me_153 (by assumption) (Nat.le_of_ble_eq_true rfl) (by first | rfl | exact cx_nr _ _) (by first | rfl | exact cx_fr _ _) (fun G_64 g_64 h_64 => ?_)
              have e64 : G_64 = cx_put G1 (A.na j i) (tx_nm A j (tx_lb (some (s.2.1.length, q)) ri)) := by rw [← g_64]; rfl
              rw [← e64] at hp1
              have hn2 := hp1.1.2.2.2.2.2.1 _ u hall2 q r hr
              unfold tx_nm at hn2
              refine cx_aload_n (i := 1) hE d_Me_linkedPort_67 rfl rfl ?_
              refine cx_dup hE d_Me_linkedPort_68 ?_
              refine cx_get hE d_Me_linkedPort_69 f_Me_156 (by assumption) (by rfl) ?_
              refine cx_iconst (v := 1) hE d_Me_linkedPort_72 (by decide) ?_
              refine cx_iadd hE d_Me_linkedPort_73 ?_
              refine cx_putg hE d_Me_linkedPort_74 f_Me_156 (by assumption) (Nat.le_of_ble_eq_true rfl) (by first | rfl | exact cx_nr _ _) (by first | rfl | exact cx_fr _ _) (fun G_74 g_74 h_74 => ?_)
              refine cx_iload hE d_Me_linkedPort_77 rfl ?_
              refine cx_if_eq (tgt := 86)  hE d_Me_linkedPort_79 (by decide) (fun c_79 => ?_) (fun c_79 => ?_)
              · exact absurd c_79 (by decide)
                -- end
              · refine cx_aload_n (i := 3) hE d_Me_linkedPort_82 rfl rfl ?_
                refine cx_goto (tgt := 87) hE d_Me_linkedPort_83 (by decide) ?_
                refine cx_aret (r := some (A.na j i)) hE d_Me_linkedPort_87 rfl (by first | exact Or.inl ⟨_, rfl⟩ | exact Or.inr ⟨_, rfl⟩) ?_
                first
                  | (have e9 : tx_lpo q t s = (some (j, i), ((tx_ck true 23 (nI t.2.1) s).mn j i (tx_lb (some (s.2.1.length, q)))).mn s.2.1.length q tx_lc) := by
                       unfold tx_lpo
                       rw [hlp]
                       show (if (s.rj j i).2.2.2.2.2.2.2.2.2 = some (s.2.1.length, q) then _ else _) = _
                       rw [hrj, if_neg q_32]
                     rw [e9]
                     have hp2 := hp1.1.nm (f := tx_lc) hall2 hr (fun j' hj' => by
                       rw [show ((tx_ck true 23 (nI t.2.1) s).mn j i (tx_lb (some (s.2.1.length, q)))).2.1.length = s.2.1.length from (tx_S.mu_len _ _ _).1.trans (tx_ck_l ..)]
                       exact ((hm.2.2.2.2.2.2.2.2.1.2.2.2 _ u (tx_S.cur hu)).2 q r hr).1 j' hj')
                     have e1 : G_74 = cx_put G_64 (A.na s.2.1.length q) (tx_nm A s.2.1.length (tx_lc r)) := by rw [← g_74]; rfl
                     rw [e1]
                     exact ⟨rfl, hp2.1, hs1.tr (hp1.2.tr hp2.2), by rw [e64]; exact hc1⟩)
                  | (have e9 : tx_lpo q t s = (none, tx_ck false 23 (nI t.2.1) s) := by
                       unfold tx_lpo
                       rw [hlp]
                       show (if (s.rj j i).2.2.2.2.2.2.2.2.2 = some (s.2.1.length, q) then _ else _) = _
                       rw [hrj, if_pos q_32]
                     rw [e9]
                     exact ⟨rfl, hm1, hs1, hc1⟩)
      · cases c_4
        -- end

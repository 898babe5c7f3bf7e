/-! THE SECOND PASS: a link follows the reader. -/
section RJR
variable {n N : Nat} {T : List tx_Tk} {s s1 : tx_S} {M0 M M' : rm_M} {u : tx_U} {lo li fa a fs b5 i i' p b I f c dp it m q lk0 loj ow pl : Nat} {e : Int32 × Int32} {px : Option Nat}
theorem tx_lp_e {x0 : Nat} {y : Option (Nat × Nat)} (hm : m < s.2.1.length) : (s.mn m x0 (tx_lb y)).mn s.2.1.length q tx_lc = (s.1, s.2.1.modify m (tx_nq x0 (tx_lb y)), s.2.2.1.map (tx_nq q tx_lc), s.2.2.2) := by
  have el : (s.2.1.modify m (tx_nq x0 (tx_lb y))).length = s.2.1.length := by rw [List.length_modify]
  rw [tx_mn_lo hm]
  have := tx_mn_cu (s.1, s.2.1.modify m (tx_nq x0 (tx_lb y)), s.2.2.1, s.2.2.2) q tx_lc
  rw [el] at this
  exact this
theorem tx_un_lo {v : tx_U} (hv : s.2.1[m]? = some v) : s.un m = v := tx_S.un_of (by
  unfold tx_S.all
  rw [List.getElem?_append_left (tx_len hv)]
  exact hv)
theorem rj_L.lnk {K : rm_M → Prop} {s' : tx_S} (hN : 65540 ≤ N) (hf : f ≤ 60) (hm : m < 3600) (h : rj_L n T M0 it m q lk0 loj ow none M s i p) (hR : tx_lnk T q f i s = .inr ((), i', s')) (hK : ∀ M', rj_L n T M0 it m q lk0 loj ow none M' s' i' p → i < i' → K M') (hD : ∀ M', s'.1.1 ≠ 0 → rj_D M0 it m loj M' s'.1 30000 → K M') : rp_lnk N m K M := by
  have hl := h.1.len
  have hends := h.1.ends
  have hi0 := h.1.2.2.2.2.2.1
  unfold tx_lnk at hR
  obtain ⟨k46, hR⟩ := tx_tka hR
  obtain ⟨k19, hR⟩ := tx_tka hR
  obtain ⟨f1, hf1, k40, hR⟩ := tx_op_r hR
  obtain ⟨w, j, s2, hR1, hR⟩ := tx_and_r hR
  obtain ⟨k41, hR⟩ := tx_tka hR
  cases hR
  have l1 := hends i hi0 (by rw [k46]; decide) (by rw [k46]; decide)
  have l2 := hends _ l1 (by rw [k19]; decide) (by rw [k19]; decide)
  have l3 := hends _ l2 (by rw [k40]; decide) (by rw [k40]; decide)
  obtain ⟨c, hc, hB, hL, hk, hz, m1, m2⟩ := rj_x h.1
  obtain ⟨v, hv, hF⟩ := h.F
  obtain ⟨lk, e31, hlk0, hlk⟩ := h.lks
  have hmv := tx_len hv
  have h1 := h.i1 (by rw [k46]; decide) (by rw [k46]; decide)
  obtain ⟨X, hX⟩ := h.1.2.1.nam l1 k19
  have hT1 : rm_T n T (rp_i M 1) := h1.1.2.1
  obtain ⟨H1, H2, ⟨U, LO, LI, FA, A, FS, B5, LK, C, H3, H7, H8, H9⟩, H10, H11, H12, H13, H14, H15⟩ := id h.1
  obtain ⟨v', lk', r0, a1, a2, a3, a4, a5, a6, a7, a8, a9, a10, a11, a12⟩ := id h.2.2.2.2
  have ev : v' = v := by
    rw [hv] at a1
    cases a1
    rfl
  subst ev
  have elk : lk' = lk := (nI_eq (by omega) (by omega)).mp (a2.symm.trans e31)
  subst elk
  rw [tx_uu_of H3.1.1] at a7
  have erc : s.rc q = r0 := tx_S.rc_of H3.1.1 a7
  have eun : s.un m = v' := tx_un_lo hv
  have hlpt : ∀ Y, tx_port v' (some X) = Y → tx_lpt q (tx_ta T (i + 1)) s = Y.map (fun x => (m, x)) := by
    intro Y hY
    unfold tx_lpt
    rw [erc, a8, hX]
    show (tx_port (s.un m) (some X)).map _ = _
    rw [eun, hY]
  have hlpo0 : tx_port v' (some X) = none → tx_lpo q (tx_ta T (i + 1)) s = (none, tx_ck false 23 (nI (tx_ta T (i + 1)).2.1) s) := fun hp => by
    unfold tx_lpo
    rw [hlpt none hp]
    rfl
  unfold rp_lnk
  refine hL.bg hB ?_
  refine ⟨n, T, i + 1, loj, loj + v'.2.2.1.countP rt_sg, hT1, by rw [hL.2.2.1, nI_1], l1, k19, hm, hF.1, hF.2.1, by omega, hF.2.2.1, hF.nN, ?_⟩
  rw [show loj + v'.2.2.1.countP rt_sg - loj = v'.2.2.1.countP rt_sg by omega]
  obtain ⟨c1, hc1, hB1, hL1, -⟩ := rj_x h1.1
  refine hL1.bg hB1 ?_
  have hf23 : tx_lpo q (tx_ta T (i + 1)) s = (none, tx_ck false 23 (nI (tx_ta T (i + 1)).2.1) s) → K (rm_fail 23 (nI (tx_ta T (i + 1)).2.1) (rp_i M 1)) := by
    intro e
    have hck : tx_ck false 23 (nI (tx_ta T (i + 1)).2.1) s = ((23, nI (tx_ta T (i + 1)).2.1), s.2) := by
      unfold tx_ck
      rw [if_pos ⟨rfl, H14⟩]
    rw [e] at hR1 hD
    rw [hck] at hR1
    have hg := tx_gd.exp (e := (23, nI (tx_ta T (i + 1)).2.1)) hends (f := f1) l3 (s := ((23, nI (tx_ta T (i + 1)).2.1), s.2)) (fun _ => rfl) _ _ _ hR1
    have es := hg.2.2 (show (23 : Int32) ≠ 0 by decide)
    have hd := h1.fail (w := 23) (x := nI (tx_ta T (i + 1)).2.1) (b := 30000) (by decide) (by omega)
    refine hD _ ?_ ?_
    · show s2.1.1 ≠ 0
      rw [es]
      exact (by decide : (23 : Int32) ≠ 0)
    · show rj_D M0 it m loj _ s2.1 _
      rw [es]
      exact hd
  have hF1 : rj_F T (rp_i M 1) m v' loj := hF
  rcases hF1.sN hl.1 hX with ⟨b1, b2⟩ | ⟨x0, rx, b1, b2, b3, b4⟩
  · rw [b1, if_pos (show rm_on none < 0 by decide)]
    exact hf23 (hlpo0 (hF.po0 (fun x r hx e h3 => by
      have := b2 x r hx e
      rw [rj_p_sg r (decide_eq_true h3)] at this
      cases this)))
  have hs := hF.2.2.2.1 x0 rx b2 b4
  have hlt := rt_lt (P := rt_sg) b2 b4
  have hle := hF.2.2.1
  have hp0 : loj + rt_k v'.2.2.1 x0 < 11000 := by
    unfold rt_k
    omega
  rw [b1, show rm_on (some (loj + rt_k v'.2.2.1 x0)) = nI (loj + rt_k v'.2.2.1 x0) from rfl, if_neg (nI_pos (by omega))]
  refine ⟨loj + rt_k v'.2.2.1 x0, rfl, hp0, ?_⟩
  rw [hs.2.2.2.1]
  have hk5 := hs.2.2.2.2.2.2.1
  have h23 : (2 < rx.2.1) ↔ ¬ rx.2.1 < 3 := by
    rcases hk5 with z | z | z | z | z <;> rw [z] <;> decide
  by_cases z3 : rx.2.1 < 3
  case neg =>
    rw [if_pos (h23.mpr z3)]
    exact hf23 (hlpo0 (hF.po0 (fun x r hx e h3 => z3 (by
      have := hF.2.2.2.2.2.2.1 x x0 r rx hx b2 (e.trans b3.symm)
      subst this
      rw [b2] at hx
      cases hx
      exact h3))))
  rw [if_neg (fun y => h23.mp y z3)]
  have hpo := hF.po b2 b3 z3
  have erj : s.rj m x0 = rx := by
    unfold tx_S.rj
    rw [eun, List.getD_eq_getElem?_getD, b2]
    rfl
  refine ⟨it, lk0, lk', h.2.1, h.2.2.1, h.2.2.2.1, e31, hlk0, by omega, ?_⟩
  show (if (0 : Int32) ≤ rm_on (rm_lk ((rp_i M 1).2.1 32) (nI (loj + rt_k v'.2.2.1 x0)) lk0 (lk' - lk0)) then _ else _)
  have hby := a12 x0 rx b2 b4
  by_cases zb : rj_by s.2.1.length q rx = true
  · obtain ⟨k, k1, k2, k3⟩ : ∃ k, lk0 ≤ k ∧ k < lk' ∧ M.2.1 32 k = nI (loj + rt_k v'.2.2.1 x0) := by
      rcases hby.mp zb with y | y
      · cases y
      · exact y
    obtain ⟨k', e1, e2⟩ := rm_lk_ex (g := M.2.1 32) (x := nI (loj + rt_k v'.2.2.1 x0)) (d := lk' - lk0) (lo := lk0) (k := k) k1 (by omega) k3
    rw [show rm_lk ((rp_i M 1).2.1 32) (nI (loj + rt_k v'.2.2.1 x0)) lk0 (lk' - lk0) = some k' from e1, show rm_on (some k') = nI k' from rfl, if_pos (nI_pos' (by omega))]
    refine hf23 ?_
    unfold tx_lpo
    rw [hlpt (some x0) hpo]
    show (if (s.rj m x0).2.2.2.2.2.2.2.2.2 = some (s.2.1.length, q) then _ else _) = _
    rw [erj, if_pos (of_decide_eq_true zb)]
  have hno : rm_lk (M.2.1 32) (nI (loj + rt_k v'.2.2.1 x0)) lk0 (lk' - lk0) = none := rm_lk_none (fun k k1 k2 k3 => zb (hby.mpr (Or.inr ⟨k, k1, by omega, k3⟩)))
  rw [show rm_lk ((rp_i M 1).2.1 32) (nI (loj + rt_k v'.2.2.1 x0)) lk0 (lk' - lk0) = none from hno, if_neg (show ¬ (0 : Int32) ≤ rm_on none by decide)]
  have elpo : tx_lpo q (tx_ta T (i + 1)) s = (some (m, x0), (s.mn m x0 (tx_lb (some (s.2.1.length, q)))).mn s.2.1.length q tx_lc) := by
    unfold tx_lpo
    rw [hlpt (some x0) hpo]
    show (if (s.rj m x0).2.2.2.2.2.2.2.2.2 = some (s.2.1.length, q) then _ else _) = _
    rw [erj, if_neg (fun y => zb (decide_eq_true y)), tx_ck_true]
  rw [elpo] at hR1 hK hD
  have hqU : q < U.2.2.1.length := tx_len a7
  have hlU : (s.mn m x0 (tx_lb (some (s.2.1.length, q)))).2.1.length = s.2.1.length := by
    rw [tx_mn_lo hmv]
    exact List.length_modify ..
  have hJ0 : rj_L n T M0 it m q lk0 loj ow (some x0) M ((s.mn m x0 (tx_lb (some (s.2.1.length, q)))).mn s.2.1.length q tx_lc) i p := by
    have hU := (H3.lb (x := x0) hmv hqU).lc (q := q)
    rw [hlU] at hU
    exact ⟨⟨H1, H2, ⟨tx_nq q tx_lc U, LO, LI, FA, A, FS, B5, LK, C, hU, H7, H8, H9⟩, H10, H11, H12, H13, H14, H15⟩, h.2.1, h.2.2.1, h.2.2.2.1, h.2.2.2.2.lp H3.1.1 hv b2 z3 (by simpa using zb)⟩
  have hs1e := tx_lp_e (s := s) (m := m) (x0 := x0) (q := q) (y := some (s.2.1.length, q)) hmv
  generalize (s.mn m x0 (tx_lb (some (s.2.1.length, q)))).mn s.2.1.length q tx_lc = s1 at hR1 hK hD hJ0 hs1e
  have hR1' : tx_exp T f1 (i + 1 + 1 + 1) s1 = .inr (w, j, s2) := hR1
  have hv1 : s1.2.1[m]? = some (tx_nq x0 (tx_lb (some (s.2.1.length, q))) v') := by
    rw [hs1e]
    show (s.2.1.modify m _)[m]? = _
    rw [tx_gm, if_pos rfl, hv]
    rfl
  have hs1v : s1.1.1 = 0 := by
    rw [hs1e]
    exact H14
  have hJ3 := (hJ0.i1 (by rw [k46]; decide) (by rw [k46]; decide)).i2 (by rw [k19]; decide) (by rw [k19]; decide) (by rw [k40]; decide) (by rw [k40]; decide)
  have hJ3 := hJ3.le (p' := p) (by omega)
  obtain ⟨c3, hc3, hB3, hL3, hk3, hz3, m13, m23⟩ := rj_x hJ3.1
  refine ⟨i + 1 + 1 + 1, hL3.2.2.1, by omega, ?_⟩
  refine rz_exp hN (by omega) hB3 hk3 hL3 hs1v hc3 hR1' (fun c' M4 e4 h4 hw ilt => ?_) (fun w' M4 e4 h4 ilt => ?_)
  case refine_2 =>
    rw [if_neg (by rw [h4.2.2.1]; exact h4.2.2.2.2.1)]
    have hfx := tx_fx.link (e := s2.1) (s := s2) (dt := tx_ta T i) (p := some (m, x0)) (t := tx_ta T (i + 1 + 1 + 1)) (al := decide (tx_ki T (i + 1 + 1 + 1) = 19 ∧ j = i + 1 + 1 + 1 + 1)) (w := w) (fun _ => rfl)
    have es := hfx e4
    have fy := h4.1.y
    refine hD _ ?_ ?_
    · show (tx_link _ (some (m, x0)) _ _ _ _).1.1 ≠ 0
      rw [es]; exact e4
    · show rj_D M0 it m loj _ (tx_link _ (some (m, x0)) _ _ _ _).1 _
      rw [es]
      refine ⟨(rx_D.z hz3 m23 m13 h4).le (by omega), ?_, h.2.2.1, ?_⟩
      · rw [fy.1 27 (by decide) (by decide) (by decide) (by decide) (by decide) (by decide)]
        exact hJ3.2.1
      · rw [h4.1.1.2.1 14 (by decide) (by decide) (by decide) (by decide)]
        exact hF.1
  -- live
  have hg1 := tx_gd.exp (e := (0, 0)) hends (f := f1) l3 (s := s1) (fun y => absurd rfl y) _ _ _ hR1'
  have hj1 := hends j hg1.2.1 (by rw [k41]; decide) (by rw [k41]; decide)
  have fy := h4.1.y
  have hL4 : rz_L n T 0 M0 (rj_v it M4) s2 j p := by
    rw [e4]
    exact rj_of hJ3.1 hs1v (Nat.le_of_lt ilt) h4
  have rows : ∀ j, j ≠ 41 → j ≠ 46 → j ≠ 47 → j ≠ 49 → M4.2.1 j = M.2.1 j := fun j d1 d2 d3 d4 => h4.1.1.2.1 j d1 d2 d3 d4
  have i27 : M4.1 27 = nI it := (fy.1 27 (by decide) (by decide) (by decide) (by decide) (by decide) (by decide)).trans hJ3.2.1
  have i31 : M4.1 31 = nI lk' := (fy.1 31 (by decide) (by decide) (by decide) (by decide) (by decide) (by decide)).trans e31
  have hJ4 : rj_L n T M0 it m q lk0 loj ow (some x0) M4 s2 j p := by
    refine ⟨hL4, i27, h.2.2.1, ?_, ?_⟩
    · rw [rows 30 (by decide) (by decide) (by decide) (by decide)]
      exact h.2.2.2.1
    · rw [e4]
      refine (hJ3.2.2.2.2.to (M' := M4) ?_ ?_ ?_).ex _ _
      · exact fy.1 31 (by decide) (by decide) (by decide) (by decide) (by decide) (by decide)
      · exact h4.1.1.2.1 14 (by decide) (by decide) (by decide) (by decide)
      · exact h4.1.1.2.1 32 (by decide) (by decide) (by decide) (by decide)
  have hv2 : s2.2.1[m]? = some (tx_nq x0 (tx_lb (some (s.2.1.length, q))) v') := by
    rw [e4]
    exact hv1
  have hF4 : rj_F T M4 m (tx_nq x0 (tx_lb (some (s.2.1.length, q))) v') loj := by
    obtain ⟨v2, g1, g2⟩ := hJ4.F
    rw [hv2] at g1
    cases g1
    exact g2
  have hrx2 : (tx_nq x0 (tx_lb (some (s.2.1.length, q))) v').2.2.1[x0]? = some (tx_lb (some (s.2.1.length, q)) rx) := by
    show (v'.2.2.1.modify x0 _)[x0]? = _
    rw [tx_gm, if_pos rfl, b2]
    rfl
  have erk : rt_k (tx_nq x0 (tx_lb (some (s.2.1.length, q))) v').2.2.1 x0 = rt_k v'.2.2.1 x0 := (rt_mod (L := v'.2.2.1) (q := x0) (g := tx_lb (some (s.2.1.length, q))) (fun _ => rfl)).2.1 x0
  have erj2 : s2.rj m x0 = tx_lb (some (s.2.1.length, q)) rx := by
    unfold tx_S.rj
    rw [tx_un_lo hv2, List.getD_eq_getElem?_getD, hrx2]
    rfl
  have e21 : M4.2.1 21 (loj + rt_k v'.2.2.1 x0) = rx.2.1 := by
    rw [rows 21 (by decide) (by decide) (by decide) (by decide)]
    exact hs.2.2.2.1
  have e20 : M4.2.1 20 (loj + rt_k v'.2.2.1 x0) = rx.2.2.1 := by
    rw [rows 20 (by decide) (by decide) (by decide) (by decide)]
    exact hs.2.1
  have hs2v := hL4.2.2.2.2.2.2.2.1
  rw [if_pos h4.2.2.2.2.1, e21]
  have hD' : ∀ M' (e : Int32 × Int32), tx_link (tx_ta T i) (some (m, x0)) (tx_ta T (i + 1 + 1 + 1)) (decide (tx_ki T (i + 1 + 1 + 1) = 19 ∧ j = i + 1 + 1 + 1 + 1)) w s2 = (e, (tx_link (tx_ta T i) (some (m, x0)) (tx_ta T (i + 1 + 1 + 1)) (decide (tx_ki T (i + 1 + 1 + 1) = 19 ∧ j = i + 1 + 1 + 1 + 1)) w s2).2) → e.1 ≠ 0 → rj_D M0 it m loj M' e 30000 → K M' := by
    intro M' e he h0 hd
    have he1 : (tx_link (tx_ta T i) (some (m, x0)) (tx_ta T (i + 1 + 1 + 1)) (decide (tx_ki T (i + 1 + 1 + 1) = 19 ∧ j = i + 1 + 1 + 1 + 1)) w s2).1 = e := by rw [he]
    refine hD M' ?_ ?_
    · show (tx_link _ (some (m, x0)) _ _ _ _).1.1 ≠ 0
      rw [he1]; exact h0
    · show rj_D M0 it m loj _ (tx_link _ (some (m, x0)) _ _ _ _).1 _
      rw [he1]; exact hd
  have hck : ∀ (w p : Int32), tx_ck false w p s2 = ((w, p), s2.2) := fun w p => by
    unfold tx_ck
    rw [if_pos ⟨rfl, hs2v⟩]
  by_cases zk : rx.2.1 = 0
  · rw [if_pos zk]
    have hout : tx_out s2 (m, x0) = false := by
      unfold tx_out
      rw [show (s2.rj (m, x0).1 (m, x0).2) = tx_lb (some (s.2.1.length, q)) rx from erj2]
      show decide (rx.2.1 = 1 ∨ rx.2.1 = 2) = false
      rw [zk]
      decide
    have es : tx_link (tx_ta T i) (some (m, x0)) (tx_ta T (i + 1 + 1 + 1)) (decide (tx_ki T (i + 1 + 1 + 1) = 19 ∧ j = i + 1 + 1 + 1 + 1)) w s2 = tx_ck (decide (rx.2.2.1 = w)) 30 (nI (tx_ta T i).2.1) s2 := by
      show tx_lks _ (m, x0) _ _ w s2 = _
      unfold tx_lks
      rw [hout, Bool.false_and, if_neg (by decide), Bool.not_false, Bool.or_true, tx_ck_true, show (s2.rj (m, x0).1 (m, x0).2) = tx_lb (some (s.2.1.length, q)) rx from erj2]
      rfl
    refine ⟨lk', i31, by omega, ?_⟩
    rw [if_neg (by decide), e20]
    by_cases zw : w = rx.2.2.1
    · rw [if_pos zw]
      rw [decide_eq_true zw.symm, tx_ck_true] at es
      refine hK _ ?_ (by omega)
      show rj_L n T M0 it m q lk0 loj ow none _ (tx_link _ (some (m, x0)) _ _ _ _) _ _
      rw [es]
      have := hJ4.wA (fm := M.1 42) (x := M4.1 42) hv2 hrx2 b4 hF4 i31 (by omega) hj1
      rw [erk] at this
      exact this
    · rw [if_neg zw]
      rw [show decide (rx.2.2.1 = w) = false from decide_eq_false (fun y => zw y.symm), hck] at es
      refine hD' _ (30, nI (tx_ta T i).2.1) (by rw [es]) (show (30 : Int32) ≠ 0 by decide) ?_
      have hd := (hJ4.fail (w := 30) (x := nI (tx_ta T i).2.1) (b := 20000) (by decide) (by omega)).w (lk := lk') (p0 := loj + rt_k v'.2.2.1 x0) (fm := M.1 42) (x := M4.1 42)
      exact (hd.mv (d := 1) (x := 1) rfl).le (by omega)
  rw [if_neg zk]
  have zk12 : rx.2.1 = 1 ∨ rx.2.1 = 2 := by
    rcases hk5 with z | z | z | z | z
    · exact absurd z zk
    · exact Or.inl z
    · exact Or.inr z
    · rw [z] at z3; exact absurd z3 (by decide)
    · rw [z] at z3; exact absurd z3 (by decide)
  have hout : tx_out s2 (m, x0) = true := by
    unfold tx_out
    rw [show (s2.rj (m, x0).1 (m, x0).2) = tx_lb (some (s.2.1.length, q)) rx from erj2]
    exact decide_eq_true zk12
  have es : ∀ dv, tx_lks (tx_ta T i) (m, x0) (tx_ta T (i + 1 + 1 + 1)) dv w s2 = if tx_dvb s2 dv = true then tx_drive (dv.getD 0) (tx_ta T (i + 1 + 1 + 1)) (tx_ck (decide (rx.2.2.1 = w)) 30 (nI (tx_ta T i).2.1) s2) else tx_ck (decide (rx.2.2.1 = w)) 30 (nI (tx_ta T i).2.1) (tx_ck false 25 (nI (tx_ta T (i + 1 + 1 + 1)).2.1) s2) := by
    intro dv
    unfold tx_lks
    rw [hout, Bool.true_and, show (s2.rj (m, x0).1 (m, x0).2) = tx_lb (some (s.2.1.length, q)) rx from erj2]
    cases hd : tx_dvb s2 dv with
    | true =>
      rw [if_pos rfl, if_pos rfl, Bool.true_or, tx_ck_true]
      rfl
    | false =>
      rw [if_neg (by decide), if_neg (by decide)]
      rfl
  have h5 : M4.2.1 5 (i + 1 + 1 + 1) = nI (tx_ta T (i + 1 + 1 + 1)).2.1 := (hL4.2.1.tk.2.1 (i + 1 + 1 + 1) l3).2
  have hf25 : ∀ dv, tx_link (tx_ta T i) (some (m, x0)) (tx_ta T (i + 1 + 1 + 1)) (decide (tx_ki T (i + 1 + 1 + 1) = 19 ∧ j = i + 1 + 1 + 1 + 1)) w s2 = tx_lks (tx_ta T i) (m, x0) (tx_ta T (i + 1 + 1 + 1)) dv w s2 → tx_dvb s2 dv = false → K (rm_fail 25 (M4.2.1 5 (i + 1 + 1 + 1)) M4) := by
    intro dv hdl hdv
    rw [h5]
    have e1 : tx_link (tx_ta T i) (some (m, x0)) (tx_ta T (i + 1 + 1 + 1)) (decide (tx_ki T (i + 1 + 1 + 1) = 19 ∧ j = i + 1 + 1 + 1 + 1)) w s2 = tx_ck (decide (rx.2.2.1 = w)) 30 (nI (tx_ta T i).2.1) ((25, nI (tx_ta T (i + 1 + 1 + 1)).2.1), s2.2) := by
      rw [hdl, es, hdv, if_neg (by decide), hck]
    have e2 : tx_ck (decide (rx.2.2.1 = w)) 30 (nI (tx_ta T i).2.1) ((25, nI (tx_ta T (i + 1 + 1 + 1)).2.1), s2.2) = ((25, nI (tx_ta T (i + 1 + 1 + 1)).2.1), s2.2) := by
      unfold tx_ck
      rw [if_neg (fun y => absurd y.2 (show ¬ (25 : Int32) = 0 by decide))]
    rw [e2] at e1
    refine hD' _ (25, nI (tx_ta T (i + 1 + 1 + 1)).2.1) (by rw [e1]) (show (25 : Int32) ≠ 0 by decide) ?_
    exact (hJ4.fail (w := 25) (x := nI (tx_ta T (i + 1 + 1 + 1)).2.1) (b := 20000) (by decide) (by omega)).le (by omega)
  have h400 : (M4.2.1 4 (i + 1 + 1 + 1) = 400 ∧ M4.1 8 = nI (i + 1 + 1 + 1) + 1) ↔ (tx_ki T (i + 1 + 1 + 1) = 19 ∧ j = i + 1 + 1 + 1 + 1) := by
    have hy : (tx_ki T (i + 1 + 1 + 1), M4.2.1 4 (i + 1 + 1 + 1)) ∈ rm_kl := (hL4.2.1.tk.2.1 (i + 1 + 1 + 1) l3).1
    rw [rm_kq hy (c := 400) (a := 19) (by decide), h4.2.2.1, nI_1, nI_eq (by omega) (by omega)]
  by_cases zal : tx_ki T (i + 1 + 1 + 1) = 19 ∧ j = i + 1 + 1 + 1 + 1
  case neg =>
    rw [if_neg (fun y => zal (h400.mp y))]
    exact hf25 none (by rw [decide_eq_false zal]; rfl) rfl
  rw [if_pos (h400.mpr zal)]
  have hf25 := hf25 (s2.da (tx_ta T (i + 1 + 1 + 1)).2.2.2.1) (by rw [decide_eq_true zal]; rfl)
  obtain ⟨-, -, ⟨U4, LO4, LI4, FA4, A4, FS4, B54, LK4, C4, U3, -⟩, -⟩ := id hL4
  have hC4 : rt_C T s2 M4 U4 LO4 LI4 := U3.1.to rfl rfl (fun _ _ => rfl) rfl
  obtain ⟨Y, hY⟩ := hL4.2.1.nam l3 zal.1
  have hT4 : rm_T n T M4 := hL4.2.1
  refine hC4.here hT4 rfl l3 zal.1 ?_
  rcases hC4.sN hl.1 hY with ⟨d1, d2⟩ | ⟨qd, rd, d1, d2, d3, d4, d5⟩
  · rw [d1, if_pos (show rm_on none < 0 by decide)]
    refine hf25 ?_
    show tx_dvb s2 (s2.da (tx_ta T (i + 1 + 1 + 1)).2.2.2.1) = false
    rw [hY]
    cases hda : s2.da (some Y) with
    | none => rfl
    | some q1 =>
      obtain ⟨r1, r2, r3⟩ := hC4.da.mp hda
      have hs5 := d2 q1 r1 r2 r3
      have k5 : r1.2.1 = 5 := by
        unfold rt_sg at hs5
        simpa using hs5
      show decide ((s2.rc q1).2.1 = 1 ∨ (s2.rc q1).2.1 = 3) = false
      rw [tx_S.rc_of hC4.1 r2, k5]
      decide
  have hsd := (hC4.2.2.2.2.2.2.2.1 qd rd d2).1 d4
  have hltd := rt_lt (P := rt_sg) d2 d4
  have hled := hC4.2.2.2.2.2.2.1
  have hpd : LO4 + rt_k U4.2.2.1 qd < 11000 := by
    unfold rt_k
    omega
  have erd : s2.rc qd = rd := tx_S.rc_of hC4.1 d2
  rw [d1, show rm_on (some (LO4 + rt_k U4.2.2.1 qd)) = nI (LO4 + rt_k U4.2.2.1 qd) from rfl, if_neg (nI_pos (by omega))]
  refine ⟨LO4 + rt_k U4.2.2.1 qd, rfl, hpd, ?_⟩
  rw [hsd.2.2.2.1]
  by_cases zd : rd.2.1 = 1 ∨ rd.2.1 = 3
  case neg =>
    rw [if_neg zd]
    refine hf25 ?_
    show tx_dvb s2 (s2.da (tx_ta T (i + 1 + 1 + 1)).2.2.2.1) = false
    rw [hY, d5]
    show decide ((s2.rc qd).2.1 = 1 ∨ (s2.rc qd).2.1 = 3) = false
    rw [erd]
    exact decide_eq_false zd
  rw [if_pos zd]
  have hdv : tx_dvb s2 (s2.da (tx_ta T (i + 1 + 1 + 1)).2.2.2.1) = true := by
    rw [hY, d5]
    show decide ((s2.rc qd).2.1 = 1 ∨ (s2.rc qd).2.1 = 3) = true
    rw [erd]
    exact decide_eq_true zd
  have es2 : tx_link (tx_ta T i) (some (m, x0)) (tx_ta T (i + 1 + 1 + 1)) (decide (tx_ki T (i + 1 + 1 + 1) = 19 ∧ j = i + 1 + 1 + 1 + 1)) w s2 = tx_drive qd (tx_ta T (i + 1 + 1 + 1)) (tx_ck (decide (rx.2.2.1 = w)) 30 (nI (tx_ta T i).2.1) s2) := by
    rw [decide_eq_true zal]
    show tx_lks _ (m, x0) _ (s2.da (tx_ta T (i + 1 + 1 + 1)).2.2.2.1) w s2 = _
    rw [es, hdv, if_pos rfl, hY, d5]
    rfl
  refine ⟨lk', i31, by omega, ?_⟩
  rw [if_pos rfl]
  refine ⟨LO4 + rt_k U4.2.2.1 qd, rfl, hpd, ?_⟩
  rw [e20]
  by_cases zw : w = rx.2.2.1
  · rw [if_pos zw]
    rw [decide_eq_true zw.symm, tx_ck_true] at es2
    cases hdr : rd.2.2.2.2.2.1 with
    | false =>
      have e23 : M4.2.1 23 (LO4 + rt_k U4.2.2.1 qd) = 0 := hsd.2.2.2.2.2.1.mpr hdr
      rw [if_pos e23]
      have es3 : tx_link (tx_ta T i) (some (m, x0)) (tx_ta T (i + 1 + 1 + 1)) (decide (tx_ki T (i + 1 + 1 + 1) = 19 ∧ j = i + 1 + 1 + 1 + 1)) w s2 = s2.mn s2.2.1.length qd tx_drv := by
        rw [es2]
        unfold tx_drive
        rw [erd, hdr]
        show (tx_ck true 31 _ s2).mn _ _ _ = _
        rw [tx_ck_true]
      refine hK _ ?_ (by omega)
      show rj_L n T M0 it m q lk0 loj ow none _ (tx_link _ (some (m, x0)) _ _ _ _) _ _
      rw [es3]
      have := hJ4.wB (fm := M.1 42) (x := M4.1 42) (y := M4.1 27) (z := nI (loj + rt_k v'.2.2.1 x0)) hv2 hrx2 b4 hF4 i31 (by omega) hj1 hC4 d2 d4 e23
      rw [erk] at this
      exact this
    | true =>
      have e23 : ¬ M4.2.1 23 (LO4 + rt_k U4.2.2.1 qd) = 0 := fun y => by
        have := hsd.2.2.2.2.2.1.mp y
        rw [hdr] at this
        cases this
      rw [if_neg e23, h5]
      have es3 : (tx_link (tx_ta T i) (some (m, x0)) (tx_ta T (i + 1 + 1 + 1)) (decide (tx_ki T (i + 1 + 1 + 1) = 19 ∧ j = i + 1 + 1 + 1 + 1)) w s2).1 = (31, nI (tx_ta T (i + 1 + 1 + 1)).2.1) := by
        rw [es2]
        unfold tx_drive
        rw [erd, hdr]
        show (tx_ck false 31 _ s2).1 = _
        rw [hck]
      refine hD' _ (31, nI (tx_ta T (i + 1 + 1 + 1)).2.1) (by rw [← es3]) (show (31 : Int32) ≠ 0 by decide) ?_
      have hd := ((hJ4.fail (w := 31) (x := nI (tx_ta T (i + 1 + 1 + 1)).2.1) (b := 20000) (by decide) (by omega)).w (lk := lk') (p0 := loj + rt_k v'.2.2.1 x0) (fm := M.1 42) (x := M4.1 42)).dr (j := LO4 + rt_k U4.2.2.1 qd) (x := 2) (y := M4.1 27) (z := nI (loj + rt_k v'.2.2.1 x0))
      exact (hd.mv (d := 1) (x := 1) rfl).le (by omega)
  · rw [if_neg zw]
    have es3 : (tx_link (tx_ta T i) (some (m, x0)) (tx_ta T (i + 1 + 1 + 1)) (decide (tx_ki T (i + 1 + 1 + 1) = 19 ∧ j = i + 1 + 1 + 1 + 1)) w s2).1 = (30, nI (tx_ta T i).2.1) := by
      rw [es2, show decide (rx.2.2.1 = w) = false from decide_eq_false (fun y => zw y.symm), hck]
      have hfx := tx_fx.drive (e := (30, nI (tx_ta T i).2.1)) (q := qd) (t := tx_ta T (i + 1 + 1 + 1)) (s := ((30, nI (tx_ta T i).2.1), s2.2)) (fun _ => rfl)
      exact hfx (show (30 : Int32) ≠ 0 by decide)
    have hdead := hJ4.fail (w := 30) (x := nI (tx_ta T i).2.1) (b := 20000) (by decide) (by omega)
    have hno2 : ∀ x y, rm_fail x y (rm_fail 30 (nI (tx_ta T i).2.1) M4) = rm_fail 30 (nI (tx_ta T i).2.1) M4 := fun x y => by
      unfold rm_fail at hdead ⊢
      rw [if_pos (show M4.1 9 = 0 from h4.2.2.2.2.1)]
      exact if_neg (show ¬ (30 : Int32) = 0 by decide)
    have hd := (hdead.w (lk := lk') (p0 := loj + rt_k v'.2.2.1 x0) (fm := M.1 42) (x := M4.1 42)).dr (j := LO4 + rt_k U4.2.2.1 qd) (x := 2) (y := M4.1 27) (z := nI (loj + rt_k v'.2.2.1 x0))
    rw [hno2, ite_self]
    refine hD' _ (30, nI (tx_ta T i).2.1) (by rw [← es3]) (show (30 : Int32) ≠ 0 by decide) ?_
    exact (hd.mv (d := 1) (x := 1) rfl).le (by omega)
end RJR

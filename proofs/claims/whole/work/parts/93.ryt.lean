/-! THE SECOND PASS: a register is set. -/
def rt_kk (L : List tx_N) : List Int32 := L.map (fun r => r.2.1)
theorem rt_k_kk (L : List tx_N) (q : Nat) : rt_k L q = ((rt_kk L).take q).countP (fun k => decide (¬ k = 5)) := by
  unfold rt_k rt_kk rt_sg
  rw [← List.map_take, List.countP_map]
  rfl
theorem rt_j_kk (L : List tx_N) (q : Nat) : rt_j L q = ((rt_kk L).take q).countP (fun k => !decide (¬ k = 5)) := by
  unfold rt_j rt_kk rt_sg
  rw [← List.map_take, List.countP_map]
  rfl
theorem rt_c_kk (L : List tx_N) : L.countP rt_sg = (rt_kk L).countP (fun k => decide (¬ k = 5)) := by
  unfold rt_kk rt_sg
  rw [List.countP_map]
  rfl
theorem rt_kk_mod {L : List tx_N} {q : Nat} {g : tx_N → tx_N} (hg : ∀ r, (g r).2.1 = r.2.1) : rt_kk (L.modify q g) = rt_kk L := by
  unfold rt_kk
  apply List.ext_getElem?
  intro j
  rw [List.getElem?_map, List.getElem?_map, tx_gm]
  by_cases z : j = q
  · rw [if_pos z, Option.map_map]
    congr 1
    funext r
    exact hg r
  · rw [if_neg z]
theorem rt_mod {L : List tx_N} {q : Nat} {g : tx_N → tx_N} (hg : ∀ r, (g r).2.1 = r.2.1) : (L.modify q g).countP rt_sg = L.countP rt_sg ∧ (∀ x, rt_k (L.modify q g) x = rt_k L x) ∧ ∀ x, rt_j (L.modify q g) x = rt_j L x := by
  refine ⟨?_, fun x => ?_, fun x => ?_⟩
  · rw [rt_c_kk, rt_c_kk, rt_kk_mod hg]
  · rw [rt_k_kk, rt_k_kk, rt_kk_mod hg]
  · rw [rt_j_kk, rt_j_kk, rt_kk_mod hg]
theorem tx_mn_cu (s : tx_S) (q : Nat) (g : tx_N → tx_N) : s.mn s.2.1.length q g = (s.1, s.2.1, s.2.2.1.map (tx_nq q g), s.2.2.2) := by
  unfold tx_S.mn tx_S.mu
  rw [tx_mod_len, if_pos rfl]
section RYT
variable {n N : Nat} {T : List tx_Tk} {Z : tx_S → Prop} {s : tx_S} {M0 M M' : rm_M} {u : tx_U} {lo li fa a i p b I f : Nat} {e v : Int32 × Int32}
/-- a name changes, and so do the rows -/
theorem rt_C.mn (h : rt_C T s M u lo li) {q : Nat} {g : tx_N → tx_N} (hg1 : ∀ r, (g r).2.1 = r.2.1) (hg2 : ∀ r, (g r).1 = r.1) (h12 : M'.1 12 = M.1 12) (h18 : M'.1 18 = M.1 18) (hr : ∀ j, j = 14 ∨ j = 15 → M'.2.1 j = M.2.1 j)
    (hs : ∀ (x : Nat) (r : tx_N), u.2.2.1[x]? = some r → rt_sg r = true → rt_sig T M (lo + rt_k u.2.2.1 x) r → rt_sig T M' (lo + rt_k u.2.2.1 x) (if x = q then g r else r)) (hi : ∀ (x : Nat) (r : tx_N), u.2.2.1[x]? = some r → rt_sg r = false → rt_ins T M (li + rt_j u.2.2.1 x) r → rt_ins T M' (li + rt_j u.2.2.1 x) (if x = q then g r else r)) (v : Int32 × Int32) : rt_C T (v, (s.mn s.2.1.length q g).2) M' (tx_nq q g u) lo li := by
  obtain ⟨h1, h2, h3, h4, h5, h6, h7, h8, h9, h10⟩ := h
  obtain ⟨m1, m2, m3⟩ := rt_mod (L := u.2.2.1) (q := q) hg1
  rw [tx_mn_cu]
  have gx : ∀ (x : Nat) (r : tx_N), (tx_nq q g u).2.2.1[x]? = some r → ∃ r0, u.2.2.1[x]? = some r0 ∧ r = if x = q then g r0 else r0 := by
    intro x r hx
    have hx' : (u.2.2.1.modify q g)[x]? = some r := hx
    rw [tx_gm] at hx'
    by_cases z : x = q
    · rw [if_pos z] at hx'
      cases hu : u.2.2.1[x]? with
      | none => rw [hu] at hx'; cases hx'
      | some r0 =>
        rw [hu] at hx'
        cases hx'
        exact ⟨r0, rfl, by rw [if_pos z]⟩
    · rw [if_neg z] at hx'
      exact ⟨r, hx', by rw [if_neg z]⟩
  have gsg : ∀ (x : Nat) (r0 : tx_N), rt_sg (if x = q then g r0 else r0) = rt_sg r0 := by
    intro x r0
    split
    · unfold rt_sg; rw [hg1]
    · rfl
  have gtx : ∀ (x : Nat) (r0 : tx_N), (if x = q then g r0 else r0).1 = r0.1 := by
    intro x r0
    split
    · rw [hg2]
    · rfl
  refine ⟨by show s.2.2.1.map _ = _; rw [h1]; rfl, by rw [h12]; exact h2, h3, by rw [hr 14 (by simp)]; exact h4, by rw [hr 15 (by simp)]; exact h5, ?_, ?_, fun x r hx => ?_, fun x r hx => ?_, fun X x hX => ?_⟩
  · rw [h18, h6]
    show nI _ = nI (lo + (u.2.2.1.modify q g).countP rt_sg)
    rw [m1]
  · show lo + (u.2.2.1.modify q g).countP rt_sg ≤ 11000
    rw [m1]; exact h7
  · obtain ⟨r0, g1, g2⟩ := gx x r hx
    show (_ → rt_sig T M' (lo + rt_k (u.2.2.1.modify q g) x) r) ∧ (_ → rt_ins T M' (li + rt_j (u.2.2.1.modify q g) x) r)
    rw [m2, m3, g2, gsg]
    exact ⟨fun z => hs x r0 g1 z ((h8 x r0 g1).1 z), fun z => hi x r0 g1 z ((h8 x r0 g1).2 z)⟩
  · obtain ⟨r0, g1, g2⟩ := gx x r hx
    rw [g2, gtx]
    exact h9 x r0 g1
  · obtain ⟨r0, r1, r2⟩ := h10 X x hX
    refine ⟨if x = q then g r0 else r0, ?_, by rw [gtx]; exact r2⟩
    show (u.2.2.1.modify q g)[x]? = _
    rw [tx_gm, r1]
    split <;> rfl
theorem rt_C.here {K : Int32 → Prop} (hT : rm_T n T M) (h : rt_C T s M u lo li) {x : Int32} {j : Nat} (hx : x = nI j) (hj : j < T.length) (hk : tx_ki T j = 19) (hK : K (rm_on (rm_sN T (M.2.1 19) j lo (u.2.2.1.countP rt_sg)))) : rp_here x M K := by
  refine ⟨n, T, j, s.2.1.length, lo, lo + u.2.2.1.countP rt_sg, hT, hx, hj, hk, h.2.1, h.2.2.1, h.2.2.2.1, h.2.2.2.2.2.1, by omega, h.2.2.2.2.2.2.1, h.nN, ?_⟩
  rw [show lo + u.2.2.1.countP rt_sg - lo = u.2.2.1.countP rt_sg by omega]
  exact hK
theorem tx_stg_e {i' : Nat} (h : tx_setr s (tx_ta T i) = tx_setr (e, s.2) (tx_ta T i)) : tx_stg T f i s = tx_stg T f i (e, s.2) := by
  unfold tx_stg tx_tk
  by_cases z : tx_ki T i = 19
  · rw [if_pos z, if_pos z]
    show (if _ then _ else _) = (if _ then _ else _)
    rw [h]
  · rw [if_neg z, if_neg z]
/-- the rest, behind a fault -/
theorem ry_D.sgt {K : rm_M → Prop} {j : Nat} {part sg : Int32} (hB : rx_B n T s M) (hk : rx_k 1 M) (hN : 65540 ≤ N) (h : ry_D M0 M e b I (p + 3)) (hb : 10241 ≤ b) (hb2 : b < 65000) (hK : ∀ M', ry_D M0 M' e (b + 1) I p → K M') : rp_sgt N j part sg K M := by
  unfold rp_sgt
  refine h.exp hB hk hN hb hb2 (fun M1 h1 f1 => ?_)
  have hB1 := f1.y.B hB
  rw [h1.ff]
  refine h1.cost hB1.2.1 hB1.2.2.1 (fun M2 h2 _ => ?_)
  refine h2.lay (fun M3 h3 _ => ?_)
  exact hK _ (h3.mv (d := 1) rfl)
theorem ry_L.sgt {K : rm_M → Prop} {j : Nat} {sg : tx_Tk} {h l i' : Nat} {s' : tx_S} (hN : 65540 ≤ N) (hf : f ≤ 60) (hh : h < 64) (hl : l ≤ h) (hL : ry_L n T Z M0 M s i (p + 3)) (hR : ((tx_exp T f i s).and fun x i s => (tx_tk T 59 i (tx_spend (nI (h - l + 1)) (tx_ck (decide (nI (h - l + 1) = x)) 30 (nI sg.2.1) s))).and fun _ i s => (.inr ((), i, s) : tx_R Unit)) = .inr ((), i', s'))
    (hK : ∀ M', ry_L n T Z M0 M' s' i' p → i < i' → K M') (hD : ∀ M', s'.1.1 ≠ 0 → ry_D M0 M' s'.1 (20001 + 30 * f) i' p → i < i' → K M') : rp_sgt N j (nI (256 * h + l)) (nI sg.2.1) K M := by
  obtain ⟨w, i1, s1, hR1, hR⟩ := tx_and_r hR
  obtain ⟨k59, hR⟩ := tx_tka hR
  cases hR
  obtain ⟨r1, r2⟩ := nI_part hh hl
  rw [r1] at r2
  unfold rp_sgt
  rw [r1, r2, pk_sub hl, nI_1]
  refine hL.exp hN hf hR1 (fun M1 c' e1 h1 f1 hw ilt => ?_) (fun w' M1 e1 h1 f1 ilt => ?_)
  · obtain ⟨k, k1, k2, k3⟩ := hw
    by_cases z : h - l + 1 = k
    · have ez : nI (h - l + 1) = w := by rw [k1, z]
      rw [h1.ff (fun y => y ez.symm)]
      refine h1.cl (nI_l (by omega)) (by omega) (fun M2 h2 _ => ?_)
      refine hK _ ?_ (by omega)
      rw [decide_eq_true ez, tx_ck_true]
      exact (h2.i1 (by rw [k59]; decide) (by rw [k59]; decide)).le (by omega)
    · have ez : ¬ nI (h - l + 1) = w := fun y => z ((nI_eq (by omega) (by omega)).mp (y.trans k1))
      have hx := h1.2.2.2.2.2.1
      have hlen := h1.len
      have h2 := h1.ffD (x := w ≠ nI (h - l + 1)) (w := 30) (q := nI sg.2.1) (b := 20000 + 30 * f) (fun y => ez y.symm) (by decide) (by omega)
      have es : (tx_spend (nI (h - l + 1)) (tx_ck (decide (nI (h - l + 1) = w)) 30 (nI sg.2.1) s1)).1 = (30, nI sg.2.1) := by
        rw [decide_eq_false ez]
        show (tx_ck false 30 (nI sg.2.1) s1).1 = _
        unfold tx_ck
        rw [if_pos ⟨rfl, h1.2.2.2.2.2.2.2.1⟩]
      obtain ⟨_, _, hB1, _⟩ := h1.x
      have hB2 := (((rx_o.ff (w ≠ nI (h - l + 1)) 30 (nI sg.2.1) M1).f (rx_f.rf M1)).y).B hB1
      refine h2.cost hB2.2.1 hB2.2.2.1 (fun M2 h3 _ => ?_)
      refine h3.lay (fun M3 h4 _ => ?_)
      have h5 := h4.mv (d := 1) (x := 1) rfl
      rw [← es] at h5
      have hx1 := h1.ends i1 hx (by rw [k59]; decide) (by rw [k59]; decide)
      exact hD _ (by rw [es]; exact (by decide : (30 : Int32) ≠ 0)) (h5.le (by omega) (by omega) (by omega) (by omega)) (by omega)
  · obtain ⟨_, _, hB0, _⟩ := hL.x
    have hB1 := f1.y.B hB0
    have hlen := hL.len
    have hi1 := (tx_gd.exp (e := (0, 0)) hL.ends (f := f) hL.2.2.2.2.2.1 (s := s) (fun y => absurd rfl y) _ _ _ hR1).2.1
    have hx1 := hL.ends i1 hi1 (by rw [k59]; decide) (by rw [k59]; decide)
    rw [h1.ff]
    refine h1.cost hB1.2.1 hB1.2.2.1 (fun M2 h3 _ => ?_)
    refine h3.lay (fun M3 h4 _ => ?_)
    have h5 := h4.mv (d := 1) (x := 1) rfl
    have es : (tx_spend (nI (h - l + 1)) (tx_ck (decide (nI (h - l + 1) = w)) 30 (nI sg.2.1) s1)).1 = s1.1 := by
      have : tx_fx s1.1 (tx_spend (nI (h - l + 1)) (tx_ck (decide (nI (h - l + 1) = w)) 30 (nI sg.2.1) s1)) := tx_fx.sp (tx_fx.ck (fun _ => rfl))
      exact this e1
    rw [← es] at h5
    exact hD _ (by rw [es]; exact e1) (h5.le (by omega) (by omega) (by omega) (by omega)) (by omega)
theorem ry_L.prt {K : Int32 → rm_M → Prop} {q : Nat} {w w' : Int32} {i' : Nat} {s' : tx_S} (h : ry_L n T Z M0 M s i p) (h91 : tx_ki T i = 91) (hq : q < 11000) (hw : M.2.1 20 q = w) (hwd : rx_wd w) (hR : tx_prt T (tx_ta T i) w (i + 1) s = .inr (w', i', s'))
    (hK : ∀ h l M', h < 64 → l ≤ h → w' = nI (h - l + 1) → s' = s → i < i' → ry_L n T Z M0 M' s i' (p + 24) → rx_f M M' → K (nI (256 * h + l)) M') (hD : ∀ M', s'.1.1 ≠ 0 → i < i' → ry_D M0 M' s'.1 20000 i' (p + 24) → rx_f M M' → K 0 M') : rp_prt q K M := by
  obtain ⟨c, hc, hB, hL⟩ := h.x
  have hv := h.2.2.2.2.2.2.2.1
  rw [← hc] at hR
  refine rx_L.prt hB hL h91 hq hw hwd hv hR (fun hh ll M1 b1 b2 b3 b4 b5 b6 b7 => ?_) (fun M1 b1 b2 b3 => ?_)
  · refine hK hh ll M1 b1 b2 b4 (by rw [b5, hc]) b6 ?_ b7.1
    have := h.of hv b7
    rw [hc] at this
    exact this
  · exact hD M1 b1 b2 (b3.y h.1) b3.1
end RYT

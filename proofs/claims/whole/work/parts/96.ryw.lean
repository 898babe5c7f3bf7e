/-! THE SECOND PASS: a case; a statement. -/
section RYW
variable {n N : Nat} {T : List tx_Tk} {Z : tx_S → Prop} {s : tx_S} {M0 M M' : rm_M} {i p b I f : Nat} {e v : Int32 × Int32} {S' : Nat → Nat → tx_S → tx_R Unit} {S : rp_S}
/-- the end of a case -/
theorem ry_D.patK {K : rm_M → Prop} {te : Int32} {x0 : Nat} {L : List Nat} (hN : 65540 ≤ N) (h : ry_D M0 M e b I p) (hx0 : rx_x M0 ≤ x0) (hch : ry_ch (M.2.1 41) x0 (rx_x M) L te) (hK : ∀ M', ry_D M0 M' e (b + 1) I p → K M') : rp_pat (fun M => K (rp_i M 1)) N te M := by
  have hc := h.2.1
  have h1 := hc.2.1
  have h2 := hc.2.2.1
  have h3 := hc.pos
  have h4 := hch.len
  exact ry_pat L (rx_x M) N te M (by omega) (by omega) h1 hch (fun M' q => hK _ ((h.pt q hx0).mv (d := 1) rfl))
theorem ry_ch.la {x0 : Nat} {L : List Nat} {te : Int32} {x y z : Int32} (h : ry_ch (M.2.1 41) x0 (rx_x M) L te) (q : rm_la (rx_x M) x y z M M') (hc : rx_c I p M) : ry_ch (M'.2.1 41) x0 (rx_x M') L te := by
  have e := q.xx hc
  exact (h.to (fun j _ hj => q.2.2.1 j hj)).le (by omega)
theorem ry_D.cas {K : rm_M → Prop} {w te : Int32} {x0 m : Nat} {L : List Nat} (hN : 65540 ≤ N) (hm : 0 < m) (hb : b < 65000) (h : ry_D M0 M e b I (p + 3)) (hx0 : rx_x M0 ≤ x0) (hch : ry_ch (M.2.1 41) x0 (rx_x M) L te) (hK : ∀ M', ry_D M0 M' e (b + 1) I p → K M') : rp_cas N S w K m te M := by
  obtain ⟨m, rfl⟩ : ∃ m', m = m' + 1 := ⟨m - 1, by omega⟩
  unfold rp_cas
  refine h.is (by omega) ?_
  rw [if_neg (by decide)]
  refine h.lay (fun M1 h1 q1 => ?_)
  refine h1.is (by omega) ?_
  rw [if_neg (by decide)]
  exact h1.patK hN hx0 (hch.la q1 h.2.1) hK
/-- behind the labels -/
theorem ry_D.arm {K : rm_M → Prop} {w te tb : Int32} {x0 x1 m : Nat} {L Lb : List Nat} (hN : 65540 ≤ N) (hm : 0 < m) (hb : b < 65000) (hSD : ry_SD S) (h : ry_D M0 M e b I (p + 12)) (hx0 : rx_x M0 ≤ x0) (hx1 : x0 ≤ x1) (hx2 : x1 ≤ rx_x M) (hch : ry_ch (M.2.1 41) x0 x1 L te) (hcb : ry_ch (M.2.1 41) x1 (rx_x M) Lb tb) (hK : ∀ M', ry_D M0 M' e (b + 1) I p → K M') :
    ∃ x, M.1 42 = nI x ∧ rp_lay 11 0 0 M fun M => rp_pat (fun M => rp_lay 13 0 0 M fun M => S (fun M => rp_lay 11 te 0 M fun M => rp_cd (x + 1) M fun M => rp_cas N S w K m (M.1 42 - 3) M) M) N tb M := by
  refine ⟨rx_x M, h.2.1.1, ?_⟩
  refine (h.le (p' := p + 9 + 3) (Nat.le_refl _) (by omega) (Nat.le_refl _) h.2.1.pos).lay (fun M1 h1 q1 => ?_)
  have e1 := q1.xx h.2.1
  have c1 := h1.2.1
  have l1 := c1.2.1
  have l2 := c1.2.2.1
  have l3 := c1.pos
  have hlb := hcb.len
  refine ry_pat Lb (rx_x M) N tb M1 (by omega) (by omega) (by omega) (hcb.to (fun j _ hj => q1.2.2.1 j hj)) (fun M2 q2 => ?_)
  have h2 := h1.pt q2 (by omega)
  have e2 := q2.x
  refine (h2.le (p' := p + 6 + 3) (Nat.le_refl _) (by omega) (Nat.le_refl _) l3).lay (fun M3 h3 q3 => ?_)
  have e3 := q3.xx h2.2.1
  refine hSD M3 _ h3.n9 ?_
  refine (h3.le (p' := p + 3 + 3) (Nat.le_refl _) (by omega) (Nat.le_refl _) l3).lay (fun M4 h4 q4 => ?_)
  have e4 := q4.xx h3.2.1
  refine h4.cd (by omega) (by omega) (fun M5 h5 q5 q5' => ?_)
  have e5 := q5.x
  have i42 : M5.1 42 - 3 = nI (rx_x M3) := by
    rw [h5.2.1.1, e5, e4, show (3 : Int32) = nI 3 from rfl, pk_sub (by omega)]
    congr 1
  rw [i42]
  have r : ∀ j, j < x1 → M5.2.1 41 j = M.2.1 41 j := fun j hj => (q5.2.2.2 j (by omega)).trans ((q4.2.2.1 j (by omega)).trans ((q3.2.2.1 j (by omega)).trans ((q2.2.2.2 j hj).trans (q1.2.2.1 j (by omega)))))
  refine h5.cas (L := rx_x M3 :: L) hN hm hb hx0 ⟨rfl, by omega, by omega, ?_⟩ hK
  have e41 : M5.2.1 41 (rx_x M3 + 1) = te := by
    have : M4.2.1 41 (rx_x M3 + 1) = te := q4.2.2.2.2.2.2.2.1
    rw [← this]
    exact q5' _ (by omega)
  rw [e41]
  exact (hch.to (fun j _ hj => r j hj)).le (by omega)
theorem ry_L.cas {K : rm_M → Prop} {kw x0 i' : Nat} {s' : tx_S} (hw1 : 1 ≤ kw) (hw2 : kw ≤ 64) (hN : 65540 ≤ N) (hf : f ≤ 60) (hS : ry_SS n T Z S' S f) (hSD : ry_SD S) (hG : ∀ e f i s, i < T.length → tx_fx e s → (S' f i s).gd T i e) (hx0 : rx_x M0 ≤ x0)
    (hK : ∀ M', ry_L n T Z M0 M' s' i' p → K M') (hD : ∀ M', s'.1.1 ≠ 0 → ry_D M0 M' s'.1 (21001 + 30 * f) i' p → K M') :
    ∀ (m m' i : Nat) (s : tx_S) (M : rm_M) (te : Int32) (L : List Nat), T.length ≤ i + m → T.length ≤ i + m' → x0 ≤ rx_x M → ry_L n T Z M0 M s i (p + 3) → ry_ch (M.2.1 41) x0 (rx_x M) L te → ((tx_cas T S' f (nI kw) m i s).and fun _ i s => (if tx_ki T i = 17 then (tx_tk T 17 i s).and fun _ i s => (tx_tk T 58 i s).and fun _ i s => S' f i s else .inr ((), i, s)).and fun _ i s => (tx_tk T 16 i s).and fun _ i s => .inr ((), i, s)) = .inr ((), i', s') → rp_cas N S (nI kw) K m' te M := by
  intro m
  induction m with
  | zero => intro m' i s M te L h1 _ _ h; have := h.2.2.2.2.2.1; omega
  | succ m ih =>
    intro m' i s M te L h1 h2 hx0M h hch hR
    have hlen := h.len
    have hends := h.ends
    have hi := h.2.2.2.2.2.1
    obtain ⟨m', rfl⟩ : ∃ m1, m' = m1 + 1 := ⟨m' - 1, by omega⟩
    obtain ⟨wr, ir, sr, hRc, hRr⟩ := tx_and_r hR
    -- the rest keeps a fault
    have hrest : ∀ e i s, i < T.length → tx_fx e s → ((if tx_ki T i = 17 then (tx_tk T 17 i s).and fun _ i s => (tx_tk T 58 i s).and fun _ i s => S' f i s else (.inr ((), i, s) : tx_R Unit)).and fun _ i s => (tx_tk T 16 i s).and fun _ i s => (.inr ((), i, s) : tx_R Unit)).gd T (i + 1) e := by
      intro e i s hi hs wA iA sA hRA
      obtain ⟨w1, i1, s1, hR1, hR2⟩ := tx_and_r hRA
      have hg1 : (if tx_ki T i = 17 then (tx_tk T 17 i s).and fun _ i s => (tx_tk T 58 i s).and fun _ i s => S' f i s else (.inr ((), i, s) : tx_R Unit)).gd T i e := tx_gd.i (fun _ => (tx_gd.tk hends hi (by omega) hs (by decide)).and fun _ j1 t1 q1 q2 q3 => (tx_gd.tk hends q2 (by omega) q3 (by decide)).and fun _ j2 t2 q4 q5 q6 => (hG e _ _ _ q5 q6).le q4) (fun _ => tx_gd.r (Nat.le_refl _) hi hs)
      have q1 := hg1 _ _ _ hR1
      obtain ⟨k16, hR2⟩ := tx_tka hR2
      cases hR2
      exact ⟨by omega, hends _ q1.2.1 (by rw [k16]; decide) (by rw [k16]; decide), q1.2.2⟩
    have hgc : ∀ e m i s, i < T.length → tx_fx e s → (tx_cas T S' f (nI kw) m i s).gd T i e := fun e m i s hi hs => tx_gd.cas hends (fun f i s => hG e f i s) m i s hi hs
    have hgr := hgc (0, 0) (m + 1) i s hi (fun y => absurd rfl y) _ _ _ hRc
    have hge := hrest (0, 0) ir sr hgr.2.1 (fun y => absurd rfl y) _ _ _ hRr
    unfold rp_cas
    refine h.is (a := 21) (by decide) ?_
    unfold tx_cas at hRc
    by_cases z : tx_ki T i = 21
    · rw [decide_eq_true z, if_pos rfl]
      rw [if_pos z] at hRc
      obtain ⟨-, hRc⟩ := tx_tka hRc
      refine ry_L.cvl (M0 := M) (p := p + 3) (x1 := rx_x M) (i0 := i) (g := fun i s => (S' f i s).and fun _ i s => tx_cas T S' f (nI kw) m i s) (x := (wr, ir, sr)) hw1 hw2 (fun e i s hi hs => (hG e f i s hi hs).and fun _ j1 t1 q1 q2 q3 => (hgc e m j1 t1 q2 q3).le q1) (fun i2 s2 M2 tb Lb hii2 hL2 hg2 hcb hlow => ?_) (fun M2 tb Lb e2 hD2 hcb hlow => ?_) T.length N i s M (-1) [] (Nat.le_refl _) (by omega) (by omega) (Nat.le_refl _) h.base z (show (-1 : Int32) < 0 by decide) (fun _ _ => rfl) hRc
      · -- labels are well
        have hx2 := hL2.1.2.2.2.1
        have hL2' := hL2.at h.1
        have hch2 : ry_ch (M2.2.1 41) x0 (rx_x M) L te := hch.to (fun j _ hj => hlow j hj)
        obtain ⟨w3, i3, s3, hR3, hR4⟩ := tx_and_r hg2
        refine ⟨rx_x M2, hL2.2.2.2.1.1, ?_⟩
        refine (hL2'.le (p' := p + 3 + 9 + 3) (by omega)).lay (fun M3 h3 q3 => ?_)
        have c2 := hL2.2.2.2.1
        have l1 := c2.2.1
        have l2 := c2.2.2.1
        have l3 := c2.pos
        have e3 := q3.xx c2
        have hlb := hcb.len
        have l4 := h3.2.2.2.1.2.1
        refine ry_pat Lb (rx_x M2) N tb M3 (by omega) (by omega) (by omega) (hcb.to (fun j _ hj => q3.2.2.1 j hj)) (fun M4 q4 => ?_)
        have h4 := h3.pt q4 (by omega)
        have e4 := q4.x
        refine (h4.le (p' := p + 3 + 6 + 3) (by omega)).lay (fun M5 h5 q5 => ?_)
        have e5 := q5.xx h4.2.2.2.1
        have hi2 := hL2.2.2.2.2.2.1
        refine hS M5 M5 s2 i2 (p + 3 + 6) i3 s3 _ h5.base hR3 (fun M6 h6 ilt => ?_) (fun M6 e6 h6 ilt => ?_)
        · have h6' := h6.at h5.1
          have hx6 := h6.1.2.2.2.1
          refine (h6'.le (p' := p + 3 + 3) (by omega)).lay (fun M7 h7 q7 => ?_)
          have c6 := h6.2.2.2.1
          have l62 := c6.2.2.1
          have l63 := c6.pos
          have e7 := q7.xx c6
          refine h7.cd (by omega) (by omega) (fun M8 h8 q8 q8' => ?_)
          have e8 := q8.x
          have i42 : M8.1 42 - 3 = nI (rx_x M6) := by
            rw [h8.2.2.2.1.1, e8, e7, show (3 : Int32) = nI 3 from rfl, pk_sub (by omega)]
            congr 1
          rw [i42]
          have r : ∀ j, j < rx_x M → M8.2.1 41 j = M.2.1 41 j := fun j hj => (q8.2.2.2 j (by omega)).trans ((q7.2.2.1 j (by omega)).trans ((h6.1.2.2.2.2 j (by omega)).trans ((q5.2.2.1 j (by omega)).trans ((q4.2.2.2 j hj).trans ((q3.2.2.1 j (by omega)).trans (hlow j hj))))))
          have e41 : M8.2.1 41 (rx_x M6 + 1) = te := (q8' _ (by omega)).trans q7.2.2.2.2.2.2.2.1
          refine ih m' i3 s3 M8 (nI (rx_x M6)) (rx_x M6 :: L) (by omega) (by omega) (by omega) h8 ⟨rfl, by omega, by omega, ?_⟩ (by rw [hR4]; exact hRr)
          rw [e41]
          exact (hch.to (fun j _ hj => r j hj)).le (by omega)
        · have h6' := h6.at h5.1
          have hx6 := h6.1.2.2.2.1
          have hi3 := (hG (0, 0) f i2 s2 hi2 (fun y => absurd rfl y) _ _ _ hR3).2.1
          have hg4 := hgc s3.1 m i3 s3 hi3 (fun _ => rfl) _ _ _ hR4
          have hg5 := hrest s3.1 ir sr hg4.2.1 hg4.2.2 _ _ _ hRr
          have es := hg5.2.2 e6
          refine (h6'.le (p' := p + 3 + 3) (Nat.le_refl _) (by omega) (Nat.le_refl _) h6'.2.1.pos).lay (fun M7 h7 q7 => ?_)
          have c6 := h6.2.1
          have l62 := c6.2.2.1
          have l63 := c6.pos
          have e7 := q7.xx c6
          refine h7.cd (by omega) (by omega) (fun M8 h8 q8 q8' => ?_)
          have e8 := q8.x
          have i42 : M8.1 42 - 3 = nI (rx_x M6) := by
            rw [h8.2.1.1, e8, e7, show (3 : Int32) = nI 3 from rfl, pk_sub (by omega)]
            congr 1
          rw [i42]
          have r : ∀ j, j < rx_x M → M8.2.1 41 j = M.2.1 41 j := fun j hj => (q8.2.2.2 j (by omega)).trans ((q7.2.2.1 j (by omega)).trans ((h6.1.2.2.2.2 j (by omega)).trans ((q5.2.2.1 j (by omega)).trans ((q4.2.2.2 j hj).trans ((q3.2.2.1 j (by omega)).trans (hlow j hj))))))
          have e41 : M8.2.1 41 (rx_x M6 + 1) = te := (q8' _ (by omega)).trans q7.2.2.2.2.2.2.2.1
          refine (h8.le (I' := i') (p' := p + 3) (Nat.le_refl _) (by omega) (by omega) (by omega)).cas (x0 := x0) (L := rx_x M6 :: L) hN (by omega) (by omega) hx0 ⟨rfl, by omega, by omega, ?_⟩ (fun M9 h9 => ?_)
          · rw [e41]
            exact (hch.to (fun j _ hj => r j hj)).le (by omega)
          · rw [← es] at h9
            exact hD M9 (by rw [es]; exact e6) (h9.le (by omega) (Nat.le_refl _) (Nat.le_refl _) (by omega))
      · -- a label is otherwise
        have e2' : sr.1.1 ≠ 0 := e2
        have hg5 := hrest sr.1 ir sr hgr.2.1 (fun _ => rfl) _ _ _ hRr
        have es := hg5.2.2 e2'
        have hx2 := hD2.1.2.2.2.1
        have hch2 : ry_ch (M2.2.1 41) x0 (rx_x M) L te := hch.to (fun j _ hj => hlow j hj)
        have hD3 : ry_D M0 M2 sr.1 20000 i' (p + 12) := (hD2.at h.1).le (Nat.le_refl _) (by show 12 * ir + (p + 12) ≤ 12 * i' + (p + 3 + 12); omega) (by show ir ≤ i'; omega) (by omega)
        refine hD3.arm hN (by omega) (by omega) hSD hx0 hx0M hx2 hch2 hcb (fun M9 h9 => ?_)
        rw [← es] at h9
        exact hD M9 (by rw [es]; exact e2') (h9.le (by omega) (Nat.le_refl _) (Nat.le_refl _) (by omega))
    · rw [decide_eq_false z, if_neg (by decide)]
      rw [if_neg z] at hRc
      cases hRc
      refine h.lay (fun M1 h3 q3 => ?_)
      have hch1 := hch.la q3 h.2.2.2.1
      have e3 := q3.xx h.2.2.2.1
      refine h3.is (a := 17) (by decide) ?_
      obtain ⟨w5, i5, s5, hR5, hR6⟩ := tx_and_r hRr
      obtain ⟨k16, hR6⟩ := tx_tka hR6
      cases hR6
      by_cases z17 : tx_ki T i = 17
      · rw [decide_eq_true z17, if_pos rfl]
        rw [if_pos z17] at hR5
        obtain ⟨-, hR5⟩ := tx_tka hR5
        obtain ⟨k58, hR5⟩ := tx_tka hR5
        have h4 := h3.i2 (by rw [z17]; decide) (by rw [z17]; decide) (by rw [k58]; decide) (by rw [k58]; decide)
        have hch4 : ry_ch ((rp_i M1 2).2.1 41) x0 (rx_x (rp_i M1 2)) L te := hch1
        refine hS (rp_i M1 2) (rp_i M1 2) s (i + 2) p i5 s' _ (h4.base.le (by omega)) hR5 (fun M6 h6 ilt => ?_) (fun M6 e6 h6 ilt => ?_)
        · have hx6 := h6.1.2.2.2.1
          have hch6 : ry_ch (M6.2.1 41) x0 (rx_x M6) L te := (hch4.to (fun j _ hj => h6.1.2.2.2.2 j hj)).le hx6
          have c6 := h6.2.2.2.1
          have l1 := c6.2.1
          have l2 := c6.2.2.1
          have l3 := c6.pos
          have hl6 := hch6.len
          refine ry_pat L (rx_x M6) N te M6 (by omega) (by omega) l1 hch6 (fun M7 q7 => ?_)
          have h7 := (h6.at h4.1).pt q7 hx0
          exact hK _ ((h7.i1 (by rw [k16]; decide) (by rw [k16]; decide)).le (by omega))
        · have hx6 := h6.1.2.2.2.1
          have hch6 : ry_ch (M6.2.1 41) x0 (rx_x M6) L te := (hch4.to (fun j _ hj => h6.1.2.2.2.2 j hj)).le hx6
          refine (h6.at h4.1).patK hN hx0 hch6 (fun M7 h7 => ?_)
          exact hD M7 e6 (h7.le (by omega) (by omega) (by omega) (by omega))
      · rw [decide_eq_false z17, if_neg (by decide)]
        rw [if_neg z17] at hR5
        cases hR5
        have c6 := h3.2.2.2.1
        have l1 := c6.2.1
        have l2 := c6.2.2.1
        have l3 := c6.pos
        have hl6 := hch1.len
        refine ry_pat L (rx_x M1) N te M1 (by omega) (by omega) l1 hch1 (fun M7 q7 => ?_)
        have h7 := h3.pt q7 hx0
        exact hK _ ((h7.i1 (by rw [k16]; decide) (by rw [k16]; decide)).le (by omega))
theorem ry_L.css {K : rm_M → Prop} {i' : Nat} {s' : tx_S} (hN : 65540 ≤ N) (hf : f ≤ 60) (hS : ∀ f', f' < f → ry_SS n T Z S' S f') (hSD : 0 < f → ry_SD S) (hG : ∀ e f i s, i < T.length → tx_fx e s → (S' f i s).gd T i e) (h : ry_L n T Z M0 M s i p) (hR : tx_css T S' f i s = .inr ((), i', s'))
    (hK : ∀ M', ry_L n T Z M0 M' s' i' p → i < i' → K M') (hD : ∀ M', s'.1.1 ≠ 0 → ry_D M0 M' s'.1 (21000 + 30 * f) i' p → i < i' → K M') : rp_css N S K M := by
  have hlen := h.len
  have hends := h.ends
  have hgall := tx_gd.css (e := (0, 0)) hends (fun f i s => hG _ f i s) (f := f) h.2.2.2.2.2.1 (s := s) (fun y => absurd rfl y) _ _ _ hR
  unfold tx_css at hR
  obtain ⟨f1, rfl, k15, hR⟩ := tx_op_r hR
  obtain ⟨f2, rfl, k40, hR⟩ := tx_op_r hR
  obtain ⟨w1, i1, s1, hR1, hR⟩ := tx_and_r hR
  obtain ⟨k41, hR⟩ := tx_tka hR
  have n15 : tx_ki T i ≠ 22 ∧ tx_ki T i ≠ 23 := by rw [k15]; decide
  have n40 : tx_ki T (i + 1) ≠ 22 ∧ tx_ki T (i + 1) ≠ 23 := by rw [k40]; decide
  have n41 : tx_ki T i1 ≠ 22 ∧ tx_ki T i1 ≠ 23 := by rw [k41]; decide
  have hi := h.2.2.2.2.2.1
  have hii := hends (i + 1) (hends i hi n15.1 n15.2) n40.1 n40.2
  have hi1 := (tx_gd.exp (e := (0, 0)) hends (f := f2) hii (s := s) (fun y => absurd rfl y) _ _ _ hR1)
  have hi11 := hends i1 hi1.2.1 n41.1 n41.2
  unfold rp_css
  have h1 := h.i2 n15.1 n15.2 n40.1 n40.2
  refine h1.exp hN (by omega) hR1 (fun M1 c' e1 h2 fr1 hw ilt => ?_) (fun w' M1 e1 h2 fr1 ilt => ?_)
  · obtain ⟨k, q1, q2, q3⟩ := hw
    rw [q1]
    rw [q1] at hR
    have h3 := h2.i1 n41.1 n41.2
    have hx := h3.1.2.2.2.1
    refine ry_L.cas (x0 := rx_x (rp_i M1 1)) q2 q3 hN (by omega) (hS (f2 + 1) (by omega)) (hSD (by omega)) hG hx (fun M' h4 => hK M' h4 (by omega)) (fun M' e4 h4 => hD M' e4 (h4.le (by omega) (Nat.le_refl _) (Nat.le_refl _) h4.2.1.pos) (by omega)) T.length N (i1 + 1) s1 _ (-1) [] (by omega) (by omega) (Nat.le_refl _) (h3.le (by omega)) (show (-1 : Int32) < 0 by decide) hR
  · have hx := h2.1.2.2.2.1
    have hrest : ((tx_cas T S' (f2 + 1) w1 T.length (i1 + 1) s1).and fun _ i s => (if tx_ki T i = 17 then (tx_tk T 17 i s).and fun _ i s => (tx_tk T 58 i s).and fun _ i s => S' (f2 + 1) i s else (.inr ((), i, s) : tx_R Unit)).and fun _ i s => (tx_tk T 16 i s).and fun _ i s => (.inr ((), i, s) : tx_R Unit)).gd T (i1 + 1) s1.1 := (tx_gd.cas hends (fun f i s => hG _ f i s) T.length (i1 + 1) s1 hi11 (fun _ => rfl)).and fun _ j1 t1 q1 q2 q3 => (tx_gd.i (fun _ => (tx_gd.tk hends q2 (by omega) q3 (by decide)).and fun _ j2 t2 q4 q5 q6 => (tx_gd.tk hends q5 (by omega) q6 (by decide)).and fun _ j3 t3 q7 q8 q9 => (hG _ _ _ _ q8 q9).le q7) (fun _ => tx_gd.r q1 q2 q3) : tx_R.gd T (i1 + 1) s1.1 _).and fun _ j4 t4 q10 q11 q12 => (tx_gd.tk hends q11 (by omega) q12 (by decide)).and fun _ j5 t5 q13 q14 q15 => tx_gd.r q13 q14 q15
    obtain ⟨g1, g2, g3⟩ := hrest _ _ _ hR
    have es := g3 e1
    have h3 := h2.mv (d := 1) (x := 1) rfl
    refine (h3.le (b' := 20002 + 30 * (f2 + 1)) (I' := i') (p' := p + 3) (by omega) (by omega) (by omega) (by omega)).cas (x0 := rx_x (rp_i M1 1)) (L := []) hN (by omega) (by omega) hx (show (-1 : Int32) < 0 by decide) (fun M9 h9 => ?_)
    rw [← es] at h9
    exact hD M9 (by rw [es]; exact e1) (h9.le (by omega) (Nat.le_refl _) (Nat.le_refl _) (by omega)) (by omega)
theorem ry_SD_stf (m : Nat) : ry_SD (rp_stf N (m + 1)) := by
  intro M K h hK
  show rp_st1 N (rp_stf N m) K M
  unfold rp_st1
  rw [if_neg h]
  exact hK
theorem ry_L.st1 {K : rm_M → Prop} {i' : Nat} {s' : tx_S} (hN : 65540 ≤ N) (hf : f ≤ 60) (hS : ∀ f', f' < f → ry_SS n T Z S' S f') (hSD : 0 < f → ry_SD S) (hG : ∀ e f i s, i < T.length → tx_fx e s → (S' f i s).gd T i e) (h : ry_L n T Z M0 M s i p) (hR : tx_st1 T S' f i s = .inr ((), i', s'))
    (hK : ∀ M', ry_L n T Z M0 M' s' i' p → i < i' → K M') (hD : ∀ M', s'.1.1 ≠ 0 → ry_D M0 M' s'.1 (21000 + 30 * f) i' p → i < i' → K M') : rp_st1 N S K M := by
  have hlen := h.len
  have hends := h.ends
  have hi := h.2.2.2.2.2.1
  unfold rp_st1
  rw [if_pos h.2.2.2.2.2.2.1]
  refine h.kd (fun y hy => ?_)
  unfold tx_st1 at hR
  by_cases z11 : tx_ki T i = 11
  · rw [if_pos ((rm_kq hy (c := 310) (a := 11) (by decide)).mpr z11)]
    rw [if_pos z11] at hR
    obtain ⟨f1, rfl, -, hR⟩ := tx_op_r hR
    obtain ⟨w1, i1, s1, hR1, hR⟩ := tx_and_r hR
    obtain ⟨k12, hR⟩ := tx_tka hR
    cases hR
    have h1 := h.i1 (by rw [z11]; decide) (by rw [z11]; decide)
    have hi1 := tx_gd.blk (e := (0, 0)) hends (fun f i s => hG _ f i s) (f := f1) T.length (i + 1) s h1.2.2.2.2.2.1 (fun y => absurd rfl y) _ _ _ hR1
    have hi2 := hends i1 hi1.2.1 (by rw [k12]; decide) (by rw [k12]; decide)
    refine ry_L.blk (p := p) (hS f1 (by omega)) hG (fun M1 h2 _ => ?_) (fun M1 e2 h2 => ?_) T.length N (i + 1) s _ (by omega) (by omega) (h1.le (by omega)) hR1
    · exact hK _ ((h2.i1 (by rw [k12]; decide) (by rw [k12]; decide)).le (by omega)) (by omega)
    · exact hD _ e2 ((h2.mv (d := 1) (x := 1) rfl).le (by omega) (by omega) (by omega) (by omega)) (by omega)
  rw [if_neg (fun q => z11 ((rm_kq hy (c := 310) (a := 11) (by decide)).mp q))]
  rw [if_neg z11] at hR
  by_cases z13 : tx_ki T i = 13
  · rw [if_pos ((rm_kq hy (c := 312) (a := 13) (by decide)).mpr z13)]
    rw [if_pos z13] at hR
    exact ry_L.iff hN hf hS hSD hG h hR hK hD
  rw [if_neg (fun q => z13 ((rm_kq hy (c := 312) (a := 13) (by decide)).mp q))]
  rw [if_neg z13] at hR
  by_cases z15 : tx_ki T i = 15
  · rw [if_pos ((rm_kq hy (c := 314) (a := 15) (by decide)).mpr z15)]
    rw [if_pos z15] at hR
    exact ry_L.css hN hf hS hSD hG h hR hK hD
  rw [if_neg (fun q => z15 ((rm_kq hy (c := 314) (a := 15) (by decide)).mp q))]
  rw [if_neg z15] at hR
  exact ry_L.stg hN hf h hR hK hD
theorem ry_SS_stf (hT : tx_ends T) (hN : 65540 ≤ N) : ∀ (m f : Nat), f < m → f ≤ 60 → ry_SS n T Z (tx_stf T m) (rp_stf N m) f := by
  intro m
  induction m with
  | zero => intro f hf; omega
  | succ m ih =>
    intro f hf hf60 M0 M s i p i' s' K h hR hK hD
    refine ry_L.st1 hN hf60 (fun f' h' => ih f' (by omega) (by omega)) (fun h0 => ?_) (fun e f i s hi hs => tx_gd.stf hT m f i s hi hs) h hR hK hD
    obtain ⟨m, rfl⟩ : ∃ m', m = m' + 1 := ⟨m - 1, by omega⟩
    exact ry_SD_stf m
end RYW

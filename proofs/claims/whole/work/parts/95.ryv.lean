/-! THE SECOND PASS: blocks, choices, cases. -/
def ry_SS (n : Nat) (T : List tx_Tk) (Z : tx_S → Prop) (S' : Nat → Nat → tx_S → tx_R Unit) (S : rp_S) (f : Nat) : Prop := ∀ (M0 M : rm_M) (s : tx_S) (i p i' : Nat) (s' : tx_S) (K : rm_M → Prop), ry_L n T Z M0 M s i p → S' f i s = .inr ((), i', s') → (∀ M', ry_L n T Z M0 M' s' i' p → i < i' → K M') → (∀ M', s'.1.1 ≠ 0 → ry_D M0 M' s'.1 (21000 + 30 * f) i' p → i < i' → K M') → S K M
def ry_SD (S : rp_S) : Prop := ∀ (M : rm_M) (K : rm_M → Prop), ¬ M.1 9 = 0 → K M → S K M
section RYV
variable {n N : Nat} {T : List tx_Tk} {Z : tx_S → Prop} {s : tx_S} {M0 M M' : rm_M} {i p b I f : Nat} {e v : Int32 × Int32} {S' : Nat → Nat → tx_S → tx_R Unit} {S : rp_S}
theorem rm_la.xx {x y z : Int32} (h : rm_la (rx_x M) x y z M M') (hc : rx_c I p M) : rx_x M' = rx_x M + 3 := by
  have h1 := hc.2.2.1
  have h2 := hc.2.2.2.2.2.2
  exact (rm_la.g (M0 := M) hc.1 (by omega) h (rx_g.rf _)).2.1
theorem ry_D.n9 (h : ry_D M0 M e b I p) : ¬ M.1 9 = 0 := by
  rw [h.2.2.1]
  exact h.2.2.2.2.1
theorem ry_D.blk {K : rm_M → Prop} (h : ry_D M0 M e b I p) (hN : 0 < N) (hK : K M) : rp_blk S K N M := by
  obtain ⟨N, rfl⟩ : ∃ N', N = N' + 1 := ⟨N - 1, by omega⟩
  unfold rp_blk
  rw [if_neg h.n9]
  exact hK
theorem ry_L.blk {K : rm_M → Prop} {i' : Nat} {s' : tx_S} (hS : ry_SS n T Z S' S f) (hG : ∀ e f i s, i < T.length → tx_fx e s → (S' f i s).gd T i e) (hK : ∀ M', ry_L n T Z M0 M' s' i' p → tx_ki T i' = 12 → K M') (hD : ∀ M', s'.1.1 ≠ 0 → ry_D M0 M' s'.1 (21000 + 30 * f) i' p → K M') :
    ∀ (m N i : Nat) (s : tx_S) (M : rm_M), T.length ≤ i + m → T.length ≤ i + N → ry_L n T Z M0 M s i p → tx_blk T S' f m i s = .inr ((), i', s') → rp_blk S K N M := by
  intro m
  induction m with
  | zero => intro N i s M h1 _ h; have := h.2.2.2.2.2.1; omega
  | succ m ih =>
    intro N i s M h1 h2 h hR
    have hi := h.2.2.2.2.2.1
    obtain ⟨N, rfl⟩ : ∃ N', N = N' + 1 := ⟨N - 1, by omega⟩
    unfold rp_blk
    rw [if_pos h.2.2.2.2.2.2.1]
    refine h.kd (fun y hy => ?_)
    unfold tx_blk at hR
    by_cases z : tx_ki T i = 12
    · rw [if_pos ((rm_kq hy (c := 311) (a := 12) (by decide)).mpr z)]
      rw [if_pos z] at hR
      cases hR
      exact hK M h z
    · rw [if_neg (fun q => z ((rm_kq hy (c := 311) (a := 12) (by decide)).mp q))]
      rw [if_neg z] at hR
      obtain ⟨w1, i1, s1, hR1, hR⟩ := tx_and_r hR
      refine hS M0 M s i p i1 s1 _ h hR1 (fun M1 h3 ilt => ih N i1 s1 M1 (by omega) (by omega) h3 hR) (fun M1 e1 h3 ilt => ?_)
      have hi1 := (hG (0, 0) f i s hi (fun y => absurd rfl y) _ _ _ hR1).2.1
      have hlen := h.len
      obtain ⟨g1, g2, g3⟩ := tx_gd.blk (e := s1.1) h.ends (fun f i s => hG _ f i s) (f := f) m i1 s1 hi1 (fun _ => rfl) _ _ _ hR
      have es := g3 e1
      refine h3.blk (by omega) ?_
      rw [← es] at h3
      exact hD M1 (by rw [es]; exact e1) (h3.le (Nat.le_refl _) (by omega) g1 (by omega))
theorem ry_L.iff {K : rm_M → Prop} {i' : Nat} {s' : tx_S} (hN : 65540 ≤ N) (hf : f ≤ 60) (hS : ∀ f', f' < f → ry_SS n T Z S' S f') (hSD : 0 < f → ry_SD S) (hG : ∀ e f i s, i < T.length → tx_fx e s → (S' f i s).gd T i e) (h : ry_L n T Z M0 M s i p) (hR : tx_chc T S' f i s = .inr ((), i', s'))
    (hK : ∀ M', ry_L n T Z M0 M' s' i' p → i < i' → K M') (hD : ∀ M', s'.1.1 ≠ 0 → ry_D M0 M' s'.1 (21000 + 30 * f) i' p → i < i' → K M') : rp_iff N S K M := by
  have hlen := h.len
  have hends := h.ends
  have hx0 := h.1.2.2.2.1
  unfold tx_chc at hR
  obtain ⟨f1, rfl, k13, hR⟩ := tx_op_r hR
  obtain ⟨f2, rfl, k40, hR⟩ := tx_op_r hR
  obtain ⟨w1, i1, s1, hR1, hR⟩ := tx_and_r hR
  obtain ⟨k41, hR⟩ := tx_tka hR
  obtain ⟨w2, i2, s2, hR2, hR⟩ := tx_and_r hR
  have n13 : tx_ki T i ≠ 22 ∧ tx_ki T i ≠ 23 := by rw [k13]; decide
  have n40 : tx_ki T (i + 1) ≠ 22 ∧ tx_ki T (i + 1) ≠ 23 := by rw [k40]; decide
  have n41 : tx_ki T i1 ≠ 22 ∧ tx_ki T i1 ≠ 23 := by rw [k41]; decide
  have hi := h.2.2.2.2.2.1
  have hii := hends (i + 1) (hends i hi n13.1 n13.2) n40.1 n40.2
  have hi1 := (tx_gd.exp (e := (0, 0)) hends (f := f2) hii (s := s) (fun y => absurd rfl y) _ _ _ hR1)
  have hi11 := hends i1 hi1.2.1 n41.1 n41.2
  have hi2 := (hG (0, 0) (f2 + 1) (i1 + 1) (tx_spend w1 s1) hi11 (fun y => absurd rfl y) _ _ _ hR2)
  -- the reader's rest keeps a fault
  have hgr : ∀ e, tx_fx e s2 → (if tx_ki T i2 = 14 then (tx_tk T 14 i2 s2).and fun _ i s => S' (f2 + 1) i s else (.inr ((), i2, s2) : tx_R Unit)).gd T i2 e := fun e hs => tx_gd.i (fun _ => (tx_gd.tk hends hi2.2.1 (by omega) hs (by decide)).and fun _ j1 t1 q1 q2 q3 => (hG e _ _ _ q2 q3).le q1) (fun _ => tx_gd.r (Nat.le_refl _) hi2.2.1 hs)
  have hgi := hgr (0, 0) (fun y => absurd rfl y) _ _ _ hR
  unfold rp_iff
  have h1 := h.i2 n13.1 n13.2 n40.1 n40.2
  refine h1.exp hN (by omega) hR1 (fun M1 c' e1 h2 fr1 hw ilt => ?_) (fun w' M1 e1 h2 fr1 ilt => ?_)
  · obtain ⟨k, q1, q2, q3⟩ := hw
    have h3 := h2.i1 n41.1 n41.2
    have hx1 := h2.2.2.2.1.1
    have hx01 := h2.1.2.2.2.1
    have hcl : rp_cost w1.toInt64 (rp_i M1 1) (fun M => rp_lay 10 0 0 M fun M => S (fun M => rp_is M 313 fun b => if b = true then (∃ y, M.1 42 = nI y ∧ rp_lay 11 0 0 (rp_i M 1) fun M => rp_cd (rx_x M1 + 1) M fun M => S (fun M => rp_cd (y + 1) M K) M) else rp_cd (rx_x M1 + 1) M K) M) := by
      rw [q1]
      refine (h3.le (p' := p + 3 + 3) (by omega)).cl (d := k) (nI_l (by omega)) (by omega) (fun M2 h4 hx4 => ?_)
      rw [q1] at hR2
      have hx4' : rx_x M2 = rx_x M1 + 3 := hx4
      refine hS (f2 + 1) (by omega) M2 M2 (tx_spend (nI k) s1) (i1 + 1) (p + 3) i2 s2 _ h4.base hR2 (fun M3 h5 ilt2 => ?_) (fun M3 e2 h5 ilt2 => ?_)
      · have hx5 := h5.1.2.2.2.1
        have h5' := h5.at h4.1
        refine h5.is (a := 14) (by decide) ?_
        by_cases z : tx_ki T i2 = 14
        · rw [decide_eq_true z, if_pos rfl]
          rw [if_pos z] at hR
          obtain ⟨-, hR⟩ := tx_tka hR
          have h6 := h5'.i1 (by rw [z]; decide) (by rw [z]; decide)
          refine ⟨rx_x M3, h5.2.2.2.1.1, ?_⟩
          refine (h6.le (p' := p + 3) (by omega)).lay (fun M4 h7 q7 => ?_)
          have hx7 : rx_x M4 = rx_x M3 + 3 := q7.xx h6.2.2.2.1
          refine h7.cd (by omega) (by omega) (fun M5 h8 p8 _ => ?_)
          have hx8 := p8.x
          refine hS (f2 + 1) (by omega) M5 M5 s2 (i2 + 1) p i' s' _ h8.base hR (fun M6 h9 ilt3 => ?_) (fun M6 e3 h9 ilt3 => ?_)
          · have hx9 := h9.1.2.2.2.1
            refine (h9.at h8.1).cd (by omega) (by omega) (fun M7 h10 _ _ => hK M7 h10 (by omega))
          · have hx9 := h9.1.2.2.2.1
            refine (h9.at h8.1).cd (by omega) (by omega) (fun M7 h10 _ _ => hD M7 e3 (h10.le (by omega) (Nat.le_refl _) (Nat.le_refl _) h10.2.1.pos) (by omega))
        · rw [decide_eq_false z, if_neg (by decide)]
          rw [if_neg z] at hR
          cases hR
          exact (h5'.le (p' := p) (by omega)).cd (by omega) (by omega) (fun M7 h10 _ _ => hK M7 h10 (by omega))
      · have hx5 := h5.1.2.2.2.1
        have h5' := h5.at h4.1
        have hg := hgr s2.1 (fun _ => rfl) _ _ _ hR
        have es := hg.2.2 e2
        refine h5.is (by omega) ?_
        rw [if_neg (by decide)]
        refine h5'.cd (by omega) (by omega) (fun M7 h10 _ _ => ?_)
        rw [← es] at h10
        exact hD M7 (by rw [es]; exact e2) (h10.le (by omega) (by omega) hg.1 (by omega)) (by omega)
    obtain ⟨mc, c1, c2, c3⟩ := hcl
    exact ⟨mc, c1, c2, rx_x M1, hx1, c3⟩
  · have hx1 := h2.2.1.1
    have hx01 := h2.1.2.2.2.1
    obtain ⟨_, _, hB0, _⟩ := h1.x
    have hB1 := fr1.y.B hB0
    have hg2 := hG s1.1 (f2 + 1) (i1 + 1) (tx_spend w1 s1) hi11 (fun _ => rfl) _ _ _ hR2
    have es2 := hg2.2.2 e1
    have hg := hgr s1.1 hg2.2.2 _ _ _ hR
    have es := hg.2.2 e1
    refine h2.cost hB1.2.1 hB1.2.2.1 (fun M2 h3 o3 => ?_)
    have hx3 := o3.x
    refine ⟨rx_x M2, h3.2.1.1, ?_⟩
    refine ((h3.mv (d := 1) (x := 1) rfl).le (b' := 21000 + 30 * (f2 + 1 + 1)) (I' := i') (p' := p + 3) (by omega) (by omega) (by omega) (by omega)).lay (fun M3 h4 q4 => ?_)
    have hx4 : rx_x M3 = rx_x M2 + 3 := q4.xx (h3.mv (d := 1) (x := 1) rfl).2.1
    refine hSD (by omega) M3 _ h4.n9 ?_
    refine h4.is (by omega) ?_
    rw [if_neg (by decide)]
    refine h4.cd (by omega) (by omega) (fun M7 h10 _ _ => ?_)
    rw [← es] at h10
    exact hD M7 (by rw [es]; exact e1) h10 (by omega)
/-- a label of a case: cost, its number, a step -/
theorem ry_lab {K : rm_M → Prop} {mc : Nat} {cv : Int64} {tb : Int32} (hT : rm_T n T M) (h12 : M.1 12 = nI mc) (hmc : mc < 3600) (hc : rx_c i p M) (h8 : M.1 8 = nI i) (hi : i < T.length) (k21 : tx_ki T i = 21)
    (hK : ∀ M', rx_f M M' → (∀ j, j ≠ 42 → j ≠ 44 → j ≠ 57 → M'.1 j = M.1 j) → M'.2.2.1 45 mc = M.2.2.1 45 mc + cv → rx_x M' = rx_x M + 3 → M'.1 42 = nI (rx_x M + 3) → rx_x M + 3 ≤ M'.2.2.2.1 → M'.1 44 = nI (rx_y M + 1) → rx_y M' = rx_y M + 1 → rx_y M + 1 ≤ M'.2.2.2.2 → M'.2.1 41 (rx_x M + 1) = tb → K M') : rp_cost cv M fun M => rp_num (M.1 8) M fun _ M => rp_keep M fun q M => rp_lay 12 tb q M K := by
  refine ⟨mc, h12, hmc, ?_⟩
  have oc := rx_o.cm M mc cv
  refine ⟨n, T, i, hT, h8, hi, Or.inr k21, fun Ma qa => ?_⟩
  have oa := oc.tr (rx_o.n57 qa)
  have ca := hc.o oa
  have xa := oa.x
  have ya := oa.y
  obtain ⟨ca1, ca2, ca3, ca4, ca5, ca6, ca7⟩ := ca
  refine ⟨rx_y Ma, ca4, ca5, by omega, fun Mb qb => ?_⟩
  obtain ⟨b1, b2, b3, b4, b5⟩ := qb
  have xb : rx_x Mb = rx_x Ma := by
    unfold rx_x
    rw [b1, va_up_ne _ _ (by decide)]
  refine ⟨rx_x Mb, by rw [xb, b1, va_up_ne _ _ (by decide)]; exact ca1, by rw [xb, b4]; exact ca2, by omega, fun Mc qc => ?_⟩
  obtain ⟨c1, c2, c3, c4, c5, c6, c7, c8, c9⟩ := qc
  have hx : rx_x Mb = rx_x M := by omega
  have ia : ∀ j, j ≠ 57 → Ma.1 j = M.1 j := fun j hj => (qa.2 j hj).trans rfl
  have ic : ∀ j, j ≠ 42 → j ≠ 44 → j ≠ 57 → Mc.1 j = M.1 j := fun j h1 h2 h3 => by
    rw [c1, va_up_ne _ _ h1, b1, va_up_ne _ _ h2, ia j h3]
  have ra : ∀ j, Ma.2.1 j = M.2.1 j := fun j => by rw [qa.1]; rfl
  have rc : ∀ j, j ≠ 41 → Mc.2.1 j = M.2.1 j := fun j hj => by rw [c2 j hj, b2, ra]
  have xc : rx_x Mc = rx_x M + 3 := by
    show (Mc.1 42).toNatClampNeg = _
    rw [c1, va_up_self, nI_clamp (by omega), hx]
  refine hK Mc ⟨⟨fun j _ _ _ d4 d5 d6 d7 d8 => ic j d4 d5 d8, fun j d1 _ _ _ => rc j d1, fun j d1 d2 => ?_, ⟨?_, fun j _ => by rw [rc 46 (by decide), rc 47 (by decide)]; exact ⟨rfl, rfl⟩⟩, ⟨?_, fun j _ => by rw [rc 49 (by decide)]⟩, by omega, fun j hj => ?_⟩, ic 48 (by decide) (by decide) (by decide), ic 50 (by decide) (by decide) (by decide)⟩ ic ?_ xc ?_ ?_ ?_ ?_ ?_ ?_
  · rw [c4, b3 j d1, qa.1]
    show va_up M.2.2.1 45 _ j = _
    rw [va_up_ne _ _ d2]
  · unfold rx_w
    rw [ic 48 (by decide) (by decide) (by decide)]
    exact Nat.le_refl _
  · unfold rx_b
    rw [ic 50 (by decide) (by decide) (by decide)]
    exact Nat.le_refl _
  · rw [c3 j (by omega), b2, ra]
  · rw [c4, b3 45 (by decide), qa.1]
    show va_up M.2.2.1 45 (vp_updL (M.2.2.1 45) mc (M.2.2.1 45 mc + cv)) 45 mc = _
    rw [va_up_self, pk_uLs]
  · rw [c1, va_up_self, hx]
  · rw [← hx]; exact c5
  · rw [c1, va_up_ne _ _ (by decide), b1, va_up_self, ya]
  · show (Mc.1 44).toNatClampNeg = _
    rw [c1, va_up_ne _ _ (by decide), b1, va_up_self, nI_clamp (by omega), ya]
  · rw [c6, ← ya]; exact b5
  · rw [← hx]; exact c8
/-- labels of a case -/
theorem ry_L.cvl {K : Int32 → rm_M → Prop} {kw : Nat} (hw1 : 1 ≤ kw) (hw2 : kw ≤ 64) {α : Type} {g : Nat → tx_S → tx_R α} {x : α × Nat × tx_S} {x1 i0 : Nat} (hgd : ∀ e i s, i < T.length → tx_fx e s → (g i s).gd T i e)
    (hK : ∀ i2 s2 M2 tb L, i0 < i2 → ry_L n T Z M0 M2 s2 i2 (p + 12) → g i2 s2 = .inr x → ry_ch (M2.2.1 41) x1 (rx_x M2) L tb → (∀ j, j < x1 → M2.2.1 41 j = M0.2.1 41 j) → K tb M2) (hD : ∀ M2 tb L, x.2.2.1.1 ≠ 0 → ry_D M0 M2 x.2.2.1 20000 x.2.1 (p + 12) → ry_ch (M2.2.1 41) x1 (rx_x M2) L tb → (∀ j, j < x1 → M2.2.1 41 j = M0.2.1 41 j) → K tb M2) :
    ∀ (m N i : Nat) (s : tx_S) (M : rm_M) (tb : Int32) (L : List Nat), i0 ≤ i → T.length ≤ i + m → T.length + 1 ≤ i + N → x1 ≤ rx_x M → ry_L n T Z M0 M s i p → tx_ki T i = 21 → ry_ch (M.2.1 41) x1 (rx_x M) L tb → (∀ j, j < x1 → M.2.1 41 j = M0.2.1 41 j) → ((tx_cvs T (nI kw) m (i + 1) (tx_csv (tx_ta T i) (nI kw) s)).and fun _ i s => (tx_tk T 58 i s).and fun _ i s => g i s) = .inr x → rp_cvl (nI kw) K N true tb M := by
  intro m
  induction m with
  | zero => intro N i s M tb L _ h1 _ _ h; have := h.2.2.2.2.2.1; omega
  | succ m ih =>
    intro N i s M tb L hi0 h1 h2 hx1 h k21 hch hlow hR
    have hlen := h.len
    have hends := h.ends
    have hi := h.2.2.2.2.2.1
    have n21 : tx_ki T i ≠ 22 ∧ tx_ki T i ≠ 23 := by rw [k21]; decide
    have hi1 := hends i hi n21.1 n21.2
    have h8 := h.2.2.2.2.1
    obtain ⟨N, rfl⟩ : ∃ N', N = N' + 1 := ⟨N - 1, by omega⟩
    -- what stands behind the label
    have hnext : tx_ki T (i + 1) = 44 ∨ tx_ki T (i + 1) = 58 := by
      unfold tx_cvs at hR
      by_cases z : tx_ki T (i + 1) = 44
      · exact Or.inl z
      · rw [if_neg z] at hR
        exact Or.inr (tx_tka hR).1
    have n44 : tx_ki T (i + 1) ≠ 22 ∧ tx_ki T (i + 1) ≠ 23 := by
      rcases hnext with z | z <;> rw [z] <;> decide
    have hi2 := hends (i + 1) hi1 n44.1 n44.2
    unfold rp_cvl
    rw [if_pos ⟨rfl, h.2.2.2.2.2.2.1⟩]
    refine ⟨n, T, i, h.2.1, h8, hi, k21, ?_⟩
    refine h.bg ?_
    obtain ⟨c, hc, hB, hL⟩ := h.x
    obtain ⟨m1, m2⟩ := hL.m hB
    have h10 := h.2.2.2.1
    have e3 : nI (rx_x M + 3) - 3 = nI (rx_x M) := by
      rw [show (3 : Int32) = nI 3 from rfl, pk_sub (by omega)]
      congr 1
    by_cases z : (tx_ta T i).2.2.2.2.1 = nI kw
    · rw [if_pos z]
      have hs : tx_csv (tx_ta T i) (nI kw) s = tx_spend (nI kw) s := by
        unfold tx_csv
        rw [decide_eq_true z, tx_ck_true]
      rw [hs] at hR
      refine ry_lab h.2.1 m1 m2 h10 h8 hi k21 (fun M1 fx ii c45 xx i42 l42 i44 yy l44 tb1 => ?_)
      have fx2 : rx_f M (rp_i (rp_i M1 1) 1) := ((rx_o.t M1 (M1.1 8 + 1)).tr (rx_o.t (rp_i M1 1) ((rp_i M1 1).1 8 + 1))).f fx
      have e8 : M1.1 8 = nI i := (ii 8 (by decide) (by decide) (by decide)).trans h8
      have e82 : (rp_i (rp_i M1 1) 1).1 8 = nI (i + 2) := by
        show M1.1 8 + 1 + 1 = _
        rw [e8, nI_1, nI_1]
      have em : rx_m (rp_i (rp_i M1 1) 1) = rx_m M := fx2.y.m
      have hc10 := h10
      obtain ⟨d1, d2, d3, d4, d5, d6, d7⟩ := hc10
      have hL2 : rx_L T M (rp_i (rp_i M1 1) 1) (i + 2) (c + kw) (p + 12) := by
        refine ⟨fx2, ⟨?_, ?_, ?_, ?_, ?_, ?_, by omega⟩, e82, hi2, (ii 9 (by decide) (by decide) (by decide)).trans h.2.2.2.2.2.2.1, ?_, ?_⟩
        · show M1.1 42 = nI (rx_x M1)
          rw [i42, xx]
        · show rx_x M1 ≤ M1.2.2.2.1
          omega
        · show rx_x M1 + (p + 12) ≤ _
          omega
        · show M1.1 44 = nI (rx_y M1)
          rw [i44, yy]
        · show rx_y M1 ≤ M1.2.2.2.2
          omega
        · show rx_y M1 ≤ _
          omega
        · rw [em]
          show M1.2.2.1 45 (rx_m M) = _
          rw [c45, hL.2.2.2.2.2.1, nI_l (by omega), lN_add]
        · show _ ≤ 2000 * rx_x M1 + _
          have := hL.2.2.2.2.2.2
          omega
      have hY2 := h.of h.2.2.2.2.2.2.2.1 hL2
      rw [← tx_ex_spend (by omega), hc] at hY2
      have hch2 : ry_ch ((rp_i (rp_i M1 1) 1).2.1 41) x1 (rx_x (rp_i (rp_i M1 1) 1)) (rx_x M :: L) (nI (rx_x M)) := by
        refine ⟨rfl, hx1, by show rx_x M + 3 ≤ rx_x M1; omega, ?_⟩
        show ry_ch (M1.2.1 41) x1 (rx_x M) L (M1.2.1 41 (rx_x M + 1))
        rw [tb1]
        exact hch.to (fun j _ hj => fx.1.2.2.2.2.2.2 j hj)
      have hlow2 : ∀ j, j < x1 → (rp_i (rp_i M1 1) 1).2.1 41 j = M0.2.1 41 j := fun j hj => (fx.1.2.2.2.2.2.2 j (by omega)).trans (hlow j hj)
      have hT1 := fx.y.tt h.2.1
      have hkl := (hT1.tk.2.1 (i + 1) hi1).1
      refine ⟨i + 1, by show M1.1 8 + 1 = _; rw [e8, nI_1], by omega, ?_⟩
      show rp_cvl (nI kw) K N (decide (M1.2.1 4 (i + 1) = 44)) (M1.1 42 - 3) _
      rw [i42, e3]
      unfold tx_cvs at hR
      by_cases z44 : tx_ki T (i + 1) = 44
      · rw [decide_eq_true ((rm_kq hkl (c := 44) (a := 44) (by decide)).mpr z44)]
        rw [if_pos z44] at hR
        obtain ⟨wA, iA, sA, hRA, hR⟩ := tx_and_r hR
        obtain ⟨-, hRA⟩ := tx_tka hRA
        obtain ⟨kA, hRA⟩ := tx_tka hRA
        refine ih N (i + 2) _ _ _ (rx_x M :: L) (by omega) (by omega) (by omega) (by show x1 ≤ rx_x M1; omega) (hY2.le (by omega)) kA hch2 hlow2 ?_
        rw [hRA]
        exact hR
      · rw [decide_eq_false (fun y => z44 ((rm_kq hkl (c := 44) (a := 44) (by decide)).mp y))]
        rw [if_neg z44] at hR
        obtain ⟨-, hR⟩ := tx_tka hR
        obtain ⟨N, rfl⟩ : ∃ N', N = N' + 1 := ⟨N - 1, by omega⟩
        unfold rp_cvl
        rw [if_neg (fun y => absurd y.1 (by decide))]
        exact hK _ _ _ _ (rx_x M :: L) (by omega) hY2 hR hch2 hlow2
    · rw [if_neg z]
      have hs : (tx_csv (tx_ta T i) (nI kw) s).1 = (30, nI (tx_ta T i).2.1) := by
        unfold tx_csv
        rw [decide_eq_false z]
        show (tx_ck false 30 _ s).1 = _
        unfold tx_ck
        rw [if_pos ⟨rfl, h.2.2.2.2.2.2.2.1⟩]
      have hrest : ((tx_cvs T (nI kw) (m + 1) (i + 1) (tx_csv (tx_ta T i) (nI kw) s)).and fun _ i s => (tx_tk T 58 i s).and fun _ i s => g i s).gd T (i + 1) (30, nI (tx_ta T i).2.1) := (tx_gd.cvs hends (m + 1) (i + 1) _ hi1 (fun _ => hs)).and fun _ j1 t1 q1 q2 q3 => (tx_gd.tk hends q2 (by omega) q3 (by decide)).and fun _ j2 t2 q4 q5 q6 => (hgd _ j2 t2 q5 q6).le q4
      obtain ⟨g1, g2, g3⟩ := hrest x.1 x.2.1 x.2.2 hR
      have es := g3 (show (30 : Int32) ≠ 0 by decide)
      have of := rx_o.fail 30 (nI (tx_ta T i).2.1) M
      have hd := h.fail (w := 30) (q := nI (tx_ta T i).2.1) (b := i) (by decide) (Nat.le_refl _)
      have ff := of.f (rx_f.rf M)
      have e8f : (rm_fail 30 (nI (tx_ta T i).2.1) M).1 8 = nI i := by
        unfold rm_fail
        rw [if_pos h.2.2.2.2.2.2.1]
        exact h8
      have xf := of.x
      have yf := of.y
      have i2' : i + 2 ≤ x.2.1 := by
        have hq : ((tx_cvs T (nI kw) (m + 1) (i + 1) (tx_csv (tx_ta T i) (nI kw) s)).and fun _ i s => (tx_tk T 58 i s).and fun _ i s => g i s).gd T (i + 2) (0, 0) := by
          intro wA iA sA hRA
          obtain ⟨w1, i1, s1, hR1, hR2⟩ := tx_and_r hRA
          have q1 := tx_gd.cvs (e := (0, 0)) hends (w := nI kw) (m + 1) (i + 1) (tx_csv (tx_ta T i) (nI kw) s) hi1 (fun y => absurd rfl y) _ _ _ hR1
          obtain ⟨k58, hR2⟩ := tx_tka hR2
          have q2 := hgd (0, 0) (i1 + 1) s1 (hends i1 q1.2.1 (by rw [k58]; decide) (by rw [k58]; decide)) (fun y => absurd rfl y) _ _ _ hR2
          exact ⟨by omega, q2.2⟩
        exact (hq x.1 x.2.1 x.2.2 hR).1
      refine ry_lab (ff.y.tt h.2.1) ((ff.y.1 12 (by decide) (by decide) (by decide) (by decide) (by decide) (by decide)).trans m1) m2 hd.2.1 e8f hi k21 (fun M1 fx ii c45 xx i42 l42 i44 yy l44 tb1 => ?_)
      have e8 : M1.1 8 = nI i := (ii 8 (by decide) (by decide) (by decide)).trans e8f
      obtain ⟨d1, d2, d3, d4, d5, d6, d7⟩ := h10
      rw [xf] at xx i42 l42 tb1
      rw [yf] at i44 yy l44
      have hD2 : ry_D M0 (rp_i (rp_i M1 1) 1) (30, nI (tx_ta T i).2.1) 20000 x.2.1 (p + 12) := by
        refine ⟨h.1.tr (ff.y.tr ((((rx_o.t M1 (M1.1 8 + 1)).tr (rx_o.t (rp_i M1 1) ((rp_i M1 1).1 8 + 1))).f fx).y)), ⟨?_, ?_, ?_, ?_, ?_, ?_, by omega⟩, (ii 9 (by decide) (by decide) (by decide)).trans hd.2.2.1, (ii 10 (by decide) (by decide) (by decide)).trans hd.2.2.2.1, hd.2.2.2.2.1, i + 2, by omega, ?_⟩
        · show M1.1 42 = nI (rx_x M1)
          rw [i42, xx]
        · show rx_x M1 ≤ M1.2.2.2.1
          omega
        · show rx_x M1 + (p + 12) ≤ _
          omega
        · show M1.1 44 = nI (rx_y M1)
          rw [i44, yy]
        · show rx_y M1 ≤ M1.2.2.2.2
          omega
        · show rx_y M1 ≤ _
          omega
        · show M1.1 8 + 1 + 1 = _
          rw [e8, nI_1, nI_1]
      have r41 : ∀ j, j < rx_x M → M1.2.1 41 j = M.2.1 41 j := fun j hj => (fx.1.2.2.2.2.2.2 j (by omega)).trans (ff.1.2.2.2.2.2.2 j hj)
      have hch2 : ry_ch ((rp_i (rp_i M1 1) 1).2.1 41) x1 (rx_x (rp_i (rp_i M1 1) 1)) (rx_x M :: L) (nI (rx_x M)) := by
        refine ⟨rfl, hx1, by show rx_x M + 3 ≤ rx_x M1; omega, ?_⟩
        show ry_ch (M1.2.1 41) x1 (rx_x M) L (M1.2.1 41 (rx_x M + 1))
        rw [tb1]
        exact hch.to (fun j _ hj => r41 j hj)
      have hlow2 : ∀ j, j < x1 → (rp_i (rp_i M1 1) 1).2.1 41 j = M0.2.1 41 j := fun j hj => (r41 j (by omega)).trans (hlow j hj)
      refine ⟨i + 1, by show M1.1 8 + 1 = _; rw [e8, nI_1], by omega, ?_⟩
      show rp_cvl (nI kw) K N (decide (M1.2.1 4 (i + 1) = 44)) (M1.1 42 - 3) _
      rw [i42, e3]
      obtain ⟨N, rfl⟩ : ∃ N', N = N' + 1 := ⟨N - 1, by omega⟩
      unfold rp_cvl
      rw [if_neg (fun y => hD2.n9 y.2)]
      rw [← es] at hD2
      exact hD _ _ (rx_x M :: L) (by rw [es]; exact (by decide : (30 : Int32) ≠ 0)) hD2 hch2 hlow2
end RYV

/-! THE SECOND PASS: blocks and assertions. -/
/-- statements change no name but where it was set -/
def tz_u (u1 u2 : tx_U) : Prop := u2.1 = u1.1 ∧ u2.2.1 = u1.2.1 ∧ u2.2.2.1.map (tx_sin 0) = u1.2.2.1.map (tx_sin 0) ∧ u2.2.2.2.1 = u1.2.2.2.1 ∧ u2.2.2.2.2.1 = u1.2.2.2.2.1 ∧ u2.2.2.2.2.2.1 = u1.2.2.2.2.2.1 ∧ u2.2.2.2.2.2.2.1 = u1.2.2.2.2.2.2.1 ∧ u2.2.2.2.2.2.2.2.1 = u1.2.2.2.2.2.2.2.1
def tz_r (s1 s2 : tx_S) : Prop := s2.2.1 = s1.2.1 ∧ s2.2.2.2 = s1.2.2.2 ∧ ∃ u1 u2, s1.2.2.1 = some u1 ∧ s2.2.2.1 = some u2 ∧ tz_u u1 u2
theorem tz_r.rf {s : tx_S} {u : tx_U} (h : s.2.2.1 = some u) : tz_r s s := ⟨rfl, rfl, u, u, h, h, rfl, rfl, rfl, rfl, rfl, rfl, rfl, rfl⟩
theorem tz_r_cl (s0 : tx_S) : tz_cl (tz_r s0) := by
  constructor
  · intro s v c h
    obtain ⟨h1, h2, u1, u2, h3, h4, h5⟩ := h
    refine ⟨h1, h2, u1, tx_cs c u2, h3, ?_, h5⟩
    show s.2.2.1.map _ = _
    rw [h4]
    rfl
  · intro s q v h
    obtain ⟨h1, h2, u1, u2, h3, h4, h5, h6, h7, h8⟩ := h
    rw [tx_mn_cu]
    refine ⟨h1, h2, u1, tx_nq q (tx_sin v) u2, h3, ?_, h5, h6, ?_, h8⟩
    · show s.2.2.1.map _ = _
      rw [h4]
      rfl
    · rw [← h7]
      show (u2.2.2.1.modify q (tx_sin v)).map (tx_sin 0) = _
      apply List.ext_getElem?
      intro j
      rw [List.getElem?_map, List.getElem?_map, tx_gm]
      by_cases z : j = q
      · rw [if_pos z, Option.map_map]
        rfl
      · rw [if_neg z]
theorem tz_u.kk {u1 u2 : tx_U} (h : tz_u u1 u2) : rt_kk u2.2.2.1 = rt_kk u1.2.2.1 := by
  have e : ∀ L : List tx_N, rt_kk L = (L.map (tx_sin 0)).map (fun r => r.2.1) := fun L => by
    unfold rt_kk
    rw [List.map_map]
    rfl
  rw [e, e, h.2.2.1]
theorem tz_u.get {u1 u2 : tx_U} (h : tz_u u1 u2) {q : Nat} {r : tx_N} (hq : u2.2.2.1[q]? = some r) : ∃ r0, u1.2.2.1[q]? = some r0 ∧ tx_sin 0 r = tx_sin 0 r0 := by
  have h1 : (u2.2.2.1.map (tx_sin 0))[q]? = some (tx_sin 0 r) := by
    rw [List.getElem?_map, hq]
    rfl
  rw [h.2.2.1, List.getElem?_map] at h1
  cases hr : u1.2.2.1[q]? with
  | none => rw [hr] at h1; cases h1
  | some r0 =>
    rw [hr] at h1
    exact ⟨r0, rfl, (Option.some.inj h1).symm⟩
theorem rt_c5_kk (L : List tx_N) : L.countP (fun r => !rt_sg r) = (rt_kk L).countP (fun k => !decide (¬ k = 5)) := by
  unfold rt_kk rt_sg
  rw [List.countP_map]
  rfl
section RZH
variable {n N : Nat} {T : List tx_Tk} {s s1 : tx_S} {M0 M M' : rm_M} {u : tx_U} {lo li fa a fs b5 lk i i' p b I f c dp : Nat} {e v : Int32 × Int32}
theorem rt_or.kk {L L' : List tx_N} (h : rt_or M lo li i L) (hk : rt_kk L' = rt_kk L) (h19 : M'.2.1 19 = M.2.1 19) (h29 : M'.2.1 29 = M.2.1 29) : rt_or M' lo li i L' := by
  have hyq : ∀ (q : Nat) (r r' : tx_N), r.2.1 = r'.2.1 → rt_yq M' lo li L' q r' = rt_yq M lo li L q r := by
    intro q r r' e
    unfold rt_yq
    rw [rt_k_kk, rt_k_kk, rt_j_kk, rt_j_kk, hk, h19, h29]
    unfold rt_sg
    rw [e]
  intro q r' hq
  obtain ⟨r, h1, h2⟩ := rt_kk_get hk hq
  obtain ⟨y, k1, k2, k3⟩ := h q r h1
  refine ⟨y, by rw [hyq q r r' h2]; exact k1, k2, fun q' r'' hq' hlt => ?_⟩
  obtain ⟨r3, h3, h4⟩ := rt_kk_get hk hq'
  obtain ⟨y', k4, k5⟩ := k3 q' r3 h3 hlt
  exact ⟨y', by rw [hyq q' r3 r'' h4]; exact k4, k5⟩
theorem rt_ct.kk {u' : tx_U} (h : rt_ct M lo dp u) (hk : rt_kk u'.2.2.1 = rt_kk u.2.2.1) (h1 : u'.2.2.2.1 = u.2.2.2.1) (h2 : u'.2.2.2.2.1 = u.2.2.2.2.1) (h3 : u'.2.2.2.2.2.2.1 = u.2.2.2.2.2.2.1) (h21 : M'.2.1 21 = M.2.1 21) (h23 : M'.2.1 23 = M.2.1 23) : rt_ct M' lo dp u' := by
  obtain ⟨⟨x, x1, x2⟩, x3, x4, x5⟩ := h
  have e : u'.2.2.1.countP rt_sg = u.2.2.1.countP rt_sg := by rw [rt_c_kk, rt_c_kk, hk]
  refine ⟨⟨x, h1.trans x1, ?_⟩, ?_, ?_, x5.kk hk⟩
  · rw [e, h21]; exact x2
  · rw [e, h23, h2]; exact x3
  · rw [rt_c5_kk, hk, ← rt_c5_kk, h3]; exact x4
/-- behind a fault within a statement -/
theorem ry_D.z {I : Nat} (hf : rz_f M0 M) {mc : Nat} (hmc : mc < 3600) (h12 : M.1 12 = nI mc) (h : ry_D M M' e b I p) : rz_D M0 M' e b := ⟨hf.tr h.1.z, h.2.2.1, h.2.2.2.1, h.2.2.2.2.1, h.2.2.2.2.2, mc, hmc, by rw [h.1.1 12 (by decide) (by decide) (by decide) (by decide) (by decide) (by decide)]; exact h12⟩
theorem rz_L.alh {K : rm_M → Prop} {s' : tx_S} (hN : 65540 ≤ N) (hf : f ≤ 60) (h : rz_L n T 0 M0 M s i p) (hR : ((tx_alh T f i s).and fun _ i s => tx_stm T f i s) = .inr ((), i', s'))
    (hK : ∀ M', rz_L n T 0 M0 M' s' i' p → i < i' → K M') (hD : ∀ M', s'.1.1 ≠ 0 → rz_D M0 M' s'.1 25000 → K M') : ∃ a, M.1 38 = nI a ∧ a < 6600 ∧ rp_stm N (fun M => ∃ a, M.1 38 = nI a ∧ a < 6600 ∧ K (rp_int (rp_set M 40 a (M.1 42)) 38 (nI (a + 1)))) (rp_set (rp_i M 6) 39 a (M.1 42)) := by
  have hl := h.len
  have hends := h.ends
  obtain ⟨w1, i1, s1, hR1, hR⟩ := tx_and_r hR
  unfold tx_alh at hR1
  obtain ⟨k8, hR1⟩ := tx_tka hR1
  obtain ⟨k64, hR1⟩ := tx_tka hR1
  obtain ⟨f1, -, k40, hR1⟩ := tx_op_r hR1
  obtain ⟨k9, hR1⟩ := tx_tka hR1
  obtain ⟨k10, hR1⟩ := tx_tka hR1
  obtain ⟨k41, hR1⟩ := tx_tka hR1
  cases hR1
  have l1 := hends i h.2.2.2.2.2.1 (by rw [k8]; decide) (by rw [k8]; decide)
  have l2 := hends _ l1 (by rw [k64]; decide) (by rw [k64]; decide)
  have l3 := hends _ l2 (by rw [k40]; decide) (by rw [k40]; decide)
  have l4 := hends _ l3 (by rw [k9]; decide) (by rw [k9]; decide)
  have l5 := hends _ l4 (by rw [k10]; decide) (by rw [k10]; decide)
  have l6 := hends _ l5 (by rw [k41]; decide) (by rw [k41]; decide)
  obtain ⟨m1, m2⟩ := h.m
  have h0 := h
  obtain ⟨H1, H2, ⟨U, LO, LI, FA, A, FS, B5, LK, C, H3, H7, H8, H9⟩, H10, H11, H12, H13, H14, H15⟩ := h0
  obtain ⟨u1, u2, u3, u4, u5, u6, u7, u8, u9, u10, u11, u12, u13, u14, u15, u16, u17, u18, u19⟩ := H3
  refine ⟨FA + A, u3, by omega, ?_⟩
  have hC1 : rt_C T (s.cu tx_alu) (rp_set (rp_i M 6) 39 (FA + A) (M.1 42)) (tx_alu U) LO LI := (u1.cu (g := tx_alu) (fun _ => rfl)).to rfl rfl (fun j hj => by rcases hj with rfl | rfl | rfl | rfl | rfl | rfl | rfl | rfl <;> rfl) rfl
  have hs1 : (s.cu tx_alu).2.1 = s.2.1 := by rw [tx_cu_eq]
  have hs2 : (s.cu tx_alu).2.2.2 = s.2.2.2 := by rw [tx_cu_eq]
  have hT1 : rm_T n T (rp_set (rp_i M 6) 39 (FA + A) (M.1 42)) := H2.to rfl (fun j hj => by rcases hj with rfl | rfl | rfl | rfl <;> rfl)
  have hL1 : ry_L n T (tz_r (s.cu tx_alu)) (rp_set (rp_i M 6) 39 (FA + A) (M.1 42)) (rp_set (rp_i M 6) 39 (FA + A) (M.1 42)) (s.cu tx_alu) (i + 6) p := by
    refine ⟨ry_f.rf _, hT1, ⟨tx_alu U, LO, LI, FA, A + 1, hC1, ⟨?_, ?_, by omega, u2.2.2.2⟩, by omega, ?_, C, H7, ?_, H9⟩, ?_, ?_, by omega, H13, H14, H15, tz_r.rf hC1.1, tz_r_cl _⟩
    · rw [hs1]; exact u2.1
    · show U.2.2.2.2.2.1 + 1 = _
      rw [u2.2.1, nI_1]
    · show M.1 38 + 1 = _
      rw [u3, nI_1]
      rfl
    · show C ≤ 2000 * rx_x M + _
      omega
    · exact (H10.to rfl rfl rfl : rx_c i p (rp_set (rp_i M 6) 39 (FA + A) (M.1 42))).le (by omega) (by omega) (by omega)
    · show M.1 8 + 6 = _
      rw [H11]
      exact nI_add i 6
  have hz1 : rz_f M (rp_set (rp_i M 6) 39 (FA + A) (M.1 42)) := ⟨fun j hj => by show va_up M.1 8 (M.1 8 + 6) j = _; rw [va_up_ne _ _ (by omega)], fun j hj => va_up_ne _ _ (by omega)⟩
  refine ry_SS_stf hends hN 61 f (by omega) hf _ _ _ _ _ _ _ _ hL1 hR (fun M2 h2 ilt => ?_) (fun M2 e2 h2 ilt => ?_)
  · obtain ⟨g1, g2, ⟨u', lo', li', fa', a', c1, c2, c3, c4, cc, c5, c6, c7⟩, g10, g11, g12, g13, g14, g15, g16, g17⟩ := h2
    obtain ⟨z1, z2, U1, U2, z3, z4, z5⟩ := g16
    have e1 : U1 = tx_alu U := by
      have := hC1.1
      rw [z3] at this
      cases this
      rfl
    have e2 : U2 = u' := by
      have := c1.1
      rw [z4] at this
      cases this
      rfl
    subst e1 e2
    have hlen : s'.2.1.length = s.2.1.length := by rw [z1, hs1]
    have rows : ∀ j, j ≠ 26 → j ≠ 41 → j ≠ 46 → j ≠ 47 → j ≠ 49 → j ≠ 39 → M2.2.1 j = M.2.1 j := fun j d1 d2 d3 d4 d5 d6 => (g1.2.1 j d1 d2 d3 d4 d5).trans (va_up_ne _ _ d6)
    have ints : ∀ j, j ≠ 8 → j ≠ 9 → j ≠ 10 → j ≠ 42 → j ≠ 44 → j ≠ 57 → M2.1 j = M.1 j := fun j d1 d2 d3 d4 d5 d6 => (g1.1 j d1 d2 d3 d4 d5 d6).trans (va_up_ne _ _ d1)
    have elo : lo' = LO := by
      have q1 := c1.2.2.2.1
      rw [hlen, rows 14 (by decide) (by decide) (by decide) (by decide) (by decide) (by decide), u1.2.2.2.1] at q1
      have := c1.2.2.2.2.2.2.1
      have := u1.2.2.2.2.2.2.1
      exact ((nI_eq (by omega) (by omega)).mp q1).symm
    have hkk := z5.kk
    have hkk' : rt_kk U2.2.2.1 = rt_kk U.2.2.1 := hkk
    have ec5 : U2.2.2.1.countP (fun r => !rt_sg r) = U.2.2.1.countP (fun r => !rt_sg r) := by rw [rt_c5_kk, rt_c5_kk, hkk']
    have ecs : U2.2.2.1.countP rt_sg = U.2.2.1.countP rt_sg := by rw [rt_c_kk, rt_c_kk, hkk']
    have efa : fa' = FA := by
      have q1 := c2.1
      rw [hlen, rows 17 (by decide) (by decide) (by decide) (by decide) (by decide) (by decide), u2.1] at q1
      have := c2.2.2.1
      have := u2.2.2.1
      exact ((nI_eq (by omega) (by omega)).mp q1).symm
    have ea : a' = A + 1 := by
      have q1 := c2.2.1
      have q2 : U2.2.2.2.2.2.1 = U.2.2.2.2.2.1 + 1 := z5.2.2.2.2.2.1
      rw [q2, u2.2.1, nI_1] at q1
      have := c2.2.2.1
      exact ((nI_eq (by omega) (by omega)).mp q1).symm
    subst elo efa ea
    have eli : M2.2.1 15 s'.2.1.length = nI LI := by
      rw [hlen, rows 15 (by decide) (by decide) (by decide) (by decide) (by decide) (by decide)]
      exact u1.2.2.2.2.1
    have hLl : rt_L T M2 lo' LI U2.2.2.1 := by
      intro q r hq
      refine ⟨fun z => ((c1.2.2.2.2.2.2.2.1 q r hq).1 z), fun z => ?_⟩
      obtain ⟨r0, r1, r2⟩ := z5.get hq
      have r1' : U.2.2.1[q]? = some r0 := r1
      have ej : rt_j U2.2.2.1 q = rt_j U.2.2.1 q := by rw [rt_j_kk, rt_j_kk, hkk']
      have ek : r.2.1 = r0.2.1 := congrArg (fun x => x.2.1) r2
      have hz : rt_sg r0 = false := by
        unfold rt_sg at z ⊢
        rw [← ek]; exact z
      have hin := (u1.2.2.2.2.2.2.2.1 q r0 r1').2 hz
      have ex1 : r.1 = r0.1 := congrArg (fun x => x.1) r2
      have ex2 : r.2.2.2.1 = r0.2.2.2.1 := congrArg (fun x => x.2.2.2.1) r2
      have ex3 : r.2.2.2.2.2.2.2.1 = r0.2.2.2.2.2.2.2.1 := congrArg (fun x => x.2.2.2.2.2.2.2.1) r2
      have ex4 : r.2.2.1 = r0.2.2.1 := congrArg (fun x => x.2.2.1) r2
      have ex5 : r.2.2.2.2.1 = r0.2.2.2.2.1 := congrArg (fun x => x.2.2.2.2.1) r2
      unfold rt_ins at hin ⊢
      rw [ej, ex1, ex2, ex3, ex4, ex5, rows 28 (by decide) (by decide) (by decide) (by decide) (by decide) (by decide), rows 29 (by decide) (by decide) (by decide) (by decide) (by decide) (by decide)]
      exact hin
    have e38 : M2.1 38 = nI (fa' + A) := (ints 38 (by decide) (by decide) (by decide) (by decide) (by decide) (by decide)).trans u3
    refine ⟨fa' + A, e38, by omega, hK _ ?_ (by omega)⟩
    have hC3 : rt_C T s' (rp_int (rp_set M2 40 (fa' + A) (M2.1 42)) 38 (nI (fa' + A + 1))) U2 lo' LI := by
      have : rt_C T s' M2 U2 lo' LI := ⟨c1.1, c1.2.1, c1.2.2.1, c1.2.2.2.1, eli, c1.2.2.2.2.2.1, c1.2.2.2.2.2.2.1, hLl, c1.2.2.2.2.2.2.2.2⟩
      exact this.to rfl rfl (fun j hj => by rcases hj with rfl | rfl | rfl | rfl | rfl | rfl | rfl | rfl <;> rfl) rfl
    have hz3 : rz_f M2 (rp_int (rp_set M2 40 (fa' + A) (M2.1 42)) 38 (nI (fa' + A + 1))) := ⟨fun j hj => va_up_ne _ _ (by omega), fun j hj => va_up_ne _ _ (by omega)⟩
    have r3 : ∀ j, j ≠ 40 → (rp_int (rp_set M2 40 (fa' + A) (M2.1 42)) 38 (nI (fa' + A + 1))).2.1 j = M2.2.1 j := fun j hj => va_up_ne _ _ hj
    refine ⟨((H1.tr hz1).tr g1.z).tr hz3, hz3.tt g2, ⟨U2, lo', LI, fa', A + 1, FS, B5, LK, cc, ⟨hC3, ?_, rfl, by omega, ?_, by omega, by omega, ?_, ?_, ?_, by omega, ?_, by omega, ?_, ?_, ?_, by rw [hlen]; omega, fun j w hw => ?_, ?_⟩, ?_, ?_, c7⟩, g10.to rfl rfl rfl, g11, g12, g13, g14, g15⟩
    · exact ⟨c2.1, c2.2.1, c2.2.2.1, c2.2.2.2⟩
    · show M2.1 27 = _
      rw [ints 27 (by decide) (by decide) (by decide) (by decide) (by decide) (by decide), ec5]
      exact u5
    · show M2.2.1 16 s'.2.1.length = _
      rw [hlen, rows 16 (by decide) (by decide) (by decide) (by decide) (by decide) (by decide)]
      exact u8
    · show M2.1 35 = _
      rw [ints 35 (by decide) (by decide) (by decide) (by decide) (by decide) (by decide)]
      exact u9
    · rw [z5.2.2.2.2.2.2.2]
      exact u10
    · show M2.1 31 = _
      rw [ints 31 (by decide) (by decide) (by decide) (by decide) (by decide) (by decide)]
      exact u12
    · refine (rt_or.kk (M' := rp_int (rp_set M2 40 (fa' + A) (M2.1 42)) 38 (nI (fa' + A + 1))) u14 hkk' ?_ ?_).le (by omega)
      · rw [r3 19 (by decide)]
        exact rows 19 (by decide) (by decide) (by decide) (by decide) (by decide) (by decide)
      · rw [r3 29 (by decide)]
        exact rows 29 (by decide) (by decide) (by decide) (by decide) (by decide) (by decide)
    · refine u15.kk hkk' z5.2.2.2.1 z5.2.2.2.2.1 z5.2.2.2.2.2.2.1 ?_ ?_
      · rw [r3 21 (by decide)]
        exact rows 21 (by decide) (by decide) (by decide) (by decide) (by decide) (by decide)
      · rw [r3 23 (by decide)]
        exact rows 23 (by decide) (by decide) (by decide) (by decide) (by decide) (by decide)
    · obtain ⟨y, y1, y2⟩ := u16
      refine ⟨y, ?_, ?_⟩
      · rw [r3 13 (by decide), hlen, rows 13 (by decide) (by decide) (by decide) (by decide) (by decide) (by decide)]
        exact y1
      · rw [z5.1, z5.2.1]
        exact y2
    · rw [z1, hs1] at hw
      refine (u18 j w hw).to (tx_len hw) (rt_pre.of (fun j hj => ?_) (fun j hj => ?_)) (Nat.le_refl _) (Nat.le_refl _)
      · rw [r3 j (by omega)]
        exact rows j (by omega) (by omega) (by omega) (by omega) (by omega) (by omega)
      · show M2.2.2.1 j = _
        exact g1.2.2.1 j (by omega) (by omega)
    · obtain ⟨v1, v2, v3, v4, v5⟩ := u19
      have hl2 : U2.2.2.1.length = U.2.2.1.length := by
        have := congrArg List.length z5.2.2.1
        rw [List.length_map, List.length_map] at this
        exact this
      have e3 : s.uu = U := by
        unfold tx_S.uu
        rw [u1.1]
        rfl
      have e4 : s'.uu = U2 := by
        unfold tx_S.uu
        rw [z4]
        rfl
      have hlb : rt_lb s' := by
        refine ⟨fun j v q r x hv hr hx => ?_, fun w q r hw hr => ?_⟩
        · rw [z1, hs1] at hv
          have := v5.1 j v q r x hv hr hx
          rw [e3] at this
          rw [hlen, e4, hl2]
          exact this
        · rw [z4] at hw
          cases hw
          obtain ⟨r0, r1, r2⟩ := z5.get hr
          have ex : r.2.2.2.2.2.2.2.2.2 = r0.2.2.2.2.2.2.2.2.2 := congrArg (fun x => x.2.2.2.2.2.2.2.2.2) r2
          rw [ex]
          exact v5.2 U q r0 u1.1 r1
      unfold rt_uf
      rw [z1, z2, hs1, hs2]
      refine ⟨v1, v2, v3, fun w X hw hX => ?_, hlb⟩
      rw [z4] at hw
      cases hw
      rw [z5.1] at hX
      exact v4 U X u1.1 hX
    · exact c5
    · exact c6
  · have h3 := h2.z (M0 := M0) (H1.tr hz1) m2 m1
    have e38 : M2.1 38 = nI (FA + A) := (h2.1.1 38 (by decide) (by decide) (by decide) (by decide) (by decide) (by decide)).trans u3
    refine ⟨FA + A, e38, by omega, hD _ e2 ?_⟩
    refine (h3.to (M' := rp_int (rp_set M2 40 (FA + A) (M2.1 42)) 38 (nI (FA + A + 1))) ⟨fun j hj => va_up_ne _ _ (by omega), fun j hj => va_up_ne _ _ (by omega)⟩ rfl rfl rfl rfl).le (by omega)
end RZH

/-! THE SECOND PASS: assertions and assignments. -/
section RZI
variable {n N : Nat} {T : List tx_Tk} {s s1 : tx_S} {M0 M M' : rm_M} {u : tx_U} {lo li fa a fs b5 lk i i' p b I f c dp : Nat} {e v : Int32 × Int32}
/-- the names of the module change, their kinds and texts and blocks don't -/
theorem rz_U.ma {q dp' : Nat} {g : tx_N → tx_N} (h : rz_U T s M u lo li fa a fs b5 lk i dp) (hi : i ≤ i') (hg1 : ∀ r, (g r).2.1 = r.2.1) (hg2 : ∀ r, (g r).1 = r.1) (hg3 : ∀ r, (g r).2.2.2.2.2.2.1 = r.2.2.2.2.2.2.1) (hn : ∀ j, j = 12 ∨ j = 18 ∨ j = 27 ∨ j = 31 ∨ j = 35 ∨ j = 38 → M'.1 j = M.1 j) (hr : ∀ j, j = 13 ∨ j = 14 ∨ j = 15 ∨ j = 16 ∨ j = 17 ∨ j = 19 ∨ j = 26 ∨ j = 29 → M'.2.1 j = M.2.1 j) (hlow : ∀ j, j = 20 ∨ j = 21 ∨ j = 23 → ∀ k, k < lo → M'.2.1 j k = M.2.1 j k) (hlow2 : ∀ k, k < li → M'.2.1 28 k = M.2.1 28 k) (hl : ∀ k, k < lo → M'.2.2.1 22 k = M.2.2.1 22 k) (h56 : M'.2.2.1 56 = M.2.2.1 56)
    (hs : ∀ (x : Nat) (r : tx_N), u.2.2.1[x]? = some r → rt_sg r = true → rt_sig T M (lo + rt_k u.2.2.1 x) r → rt_sig T M' (lo + rt_k u.2.2.1 x) (if x = q then g r else r)) (hin : ∀ (x : Nat) (r : tx_N), u.2.2.1[x]? = some r → rt_sg r = false → rt_ins T M (li + rt_j u.2.2.1 x) r → rt_ins T M' (li + rt_j u.2.2.1 x) (if x = q then g r else r)) (hct : rt_ct M' lo dp' (tx_nq q g (tx_asu u))) (v : Int32 × Int32) (hg4 : ∀ r, (g r).2.2.2.2.2.2.2.2.2 = r.2.2.2.2.2.2.2.2.2 := by exact fun _ => rfl) : rz_U T (v, ((s.cu tx_asu).mn s.2.1.length q g).2) M' (tx_nq q g (tx_asu u)) lo li fa a fs b5 lk i' dp' := by
  obtain ⟨h1, h2, h3, h4, h5, h6, h7, h8, h9, h10, h11, h12, h13, h14, h15, h16, h17, h18, h19⟩ := h
  obtain ⟨m1, m2, m3⟩ := rt_mod (L := u.2.2.1) (q := q) hg1
  have m4 : (u.2.2.1.modify q g).countP (fun r => !rt_sg r) = u.2.2.1.countP (fun r => !rt_sg r) := by
    have e : ∀ L : List tx_N, L.countP (fun r => !rt_sg r) = (rt_kk L).countP (fun k => !decide (¬ k = 5)) := fun L => by
      unfold rt_kk rt_sg
      rw [List.countP_map]
      rfl
    rw [e, e, rt_kk_mod hg1]
  have gx : ∀ (x : Nat) (r : tx_N), (u.2.2.1.modify q g)[x]? = some r → ∃ r0, u.2.2.1[x]? = some r0 ∧ (r = r0 ∨ r = g r0) := by
    intro x r hx
    rw [tx_gm] at hx
    by_cases z : x = q
    · rw [if_pos z] at hx
      cases hu : u.2.2.1[x]? with
      | none => rw [hu] at hx; cases hx
      | some r0 =>
        rw [hu] at hx
        cases hx
        exact ⟨r0, rfl, Or.inr rfl⟩
    · rw [if_neg z] at hx
      exact ⟨r, hx, Or.inl rfl⟩
  have hsg : ∀ r0, rt_sg (g r0) = rt_sg r0 := fun r0 => by unfold rt_sg; rw [hg1]
  have hmn : (s.cu tx_asu).mn s.2.1.length q g = (s.1, s.2.1, (s.2.2.1.map tx_asu).map (tx_nq q g), s.2.2.2) := by
    rw [tx_cu_eq]
    exact tx_mn_cu (s.1, s.2.1, s.2.2.1.map tx_asu, s.2.2.2) q g
  have e0 : (s.cu tx_asu).2.1 = s.2.1 := by rw [tx_cu_eq]
  have hC := (h1.cu (g := tx_asu) (fun _ => rfl)).mn (q := q) (M' := M') hg1 hg2 (hn 12 (by simp)) (hn 18 (by simp)) (fun j hj => hr j (by omega)) hs hin v
  rw [e0] at hC
  have hlen : (v, ((s.cu tx_asu).mn s.2.1.length q g).2).2.1.length = s.2.1.length := by
    rw [hmn]
  have hall : (v, ((s.cu tx_asu).mn s.2.1.length q g).2).2.1 = s.2.1 := by
    rw [hmn]
  have hlook : (v, ((s.cu tx_asu).mn s.2.1.length q g).2).2.2.2 = s.2.2.2 := by
    rw [hmn]
  refine ⟨hC, ⟨?_, h2.2.1, h2.2.2.1, fun x r hx hrs => ?_⟩, by rw [hn 38 (by simp)]; exact h3, by omega, ?_, ?_, ?_, ?_, by rw [hn 35 (by simp)]; exact h9, h10, by omega, by rw [hn 31 (by simp)]; exact h12, by omega, fun x r hx => ?_, hct, ?_, ?_, ?_, ?_⟩
  · rw [hlen, hr 17 (by simp)]; exact h2.1
  · obtain ⟨r0, g1, g2⟩ := gx x r hx
    show (_ ∧ M'.2.1 26 (lo + rt_k (u.2.2.1.modify q g) x) = 0) ∨ ∃ v, 1 ≤ v ∧ v ≤ 10241 ∧ r.2.2.2.2.2.2.1 = nI v ∧ M'.2.1 26 (lo + rt_k (u.2.2.1.modify q g) x) = nI (fa + v)
    rw [m2, hr 26 (by simp)]
    have hr0 : rt_sg r0 = true := by
      rcases g2 with g2 | g2
      · rw [← g2]; exact hrs
      · rw [g2, hsg] at hrs; exact hrs
    have e : r.2.2.2.2.2.2.1 = r0.2.2.2.2.2.2.1 := by
      rcases g2 with g2 | g2
      · rw [g2]
      · rw [g2, hg3]
    rw [e]
    exact h2.2.2.2 x r0 g1 hr0
  · rw [hn 27 (by simp), h5]
    show nI _ = nI (li + (u.2.2.1.modify q g).countP (fun r => !rt_sg r))
    rw [m4]
  · show li + (u.2.2.1.modify q g).countP (fun r => !rt_sg r) ≤ i'
    rw [m4]; omega
  · show lo + (u.2.2.1.modify q g).countP rt_sg ≤ i'
    rw [m1]; omega
  · rw [hlen, hr 16 (by simp)]; exact h8
  · obtain ⟨r0, g1, g2⟩ := gx x r hx
    have hyq : ∀ (x : Nat) (r r0 : tx_N), (r = r0 ∨ r = g r0) → rt_yq M' lo li (u.2.2.1.modify q g) x r = rt_yq M lo li u.2.2.1 x r0 := by
      intro x r r0 e
      unfold rt_yq
      rw [m2, m3, hr 19 (by simp), hr 29 (by simp)]
      rcases e with e | e
      · rw [e]
      · rw [e, hsg]
    obtain ⟨y0, k1, k2, k3⟩ := h14 x r0 g1
    refine ⟨y0, by rw [show (tx_nq q g (tx_asu u)).2.2.1 = u.2.2.1.modify q g from rfl, hyq x r r0 g2]; exact k1, by omega, fun x' r' hx' hlt => ?_⟩
    obtain ⟨r0', g1', g2'⟩ := gx x' r' hx'
    obtain ⟨y', k4, k5⟩ := k3 x' r0' g1' hlt
    exact ⟨y', by rw [show (tx_nq q g (tx_asu u)).2.2.1 = u.2.2.1.modify q g from rfl, hyq x' r' r0' g2']; exact k4, k5⟩
  · obtain ⟨y, y1, y2⟩ := h16
    exact ⟨y, by rw [hlen, hr 13 (by simp)]; exact y1, y2⟩
  · rw [hlen]; omega
  · intro j w hw
    rw [hall] at hw
    refine (h18 j w hw).to (tx_len hw) ⟨fun j _ => by rw [hr 13 (by simp)], fun r hr' j _ => by rw [hr r (by omega)], fun r hr' j hj => ?_, fun r hr' j hj => ?_, hl, fun j _ => by rw [h56]⟩ (Nat.le_refl _) (Nat.le_refl _)
    · rcases hr' with rfl | rfl | rfl | rfl
      · rw [hr 19 (by simp)]
      · exact hlow 20 (by simp) j hj
      · exact hlow 21 (by simp) j hj
      · exact hlow 23 (by simp) j hj
    · rcases hr' with rfl | rfl
      · exact hlow2 j hj
      · rw [hr 29 (by simp)]
  · exact h19.mp (s1 := (v, ((s.cu tx_asu).mn s.2.1.length q g).2)) hall hlook (g := fun u => tx_nq q g (tx_asu u)) (by rw [hmn]; cases s.2.2.1 <;> rfl) (fun _ => rfl) (fun u => rt_nq_len (tx_asu u) q g) (fun u _ _ h => rt_lb_nq (u := tx_asu u) hg4 h)
/-- an assertion is counted -/
theorem rz_U.atu (h : rz_U T s M u lo li fa a fs b5 lk i dp) (hi : i ≤ i') (h2i : 2 * (fs + (b5 + 1)) ≤ i') (hn : ∀ j, j = 12 ∨ j = 18 ∨ j = 27 ∨ j = 31 ∨ j = 38 → M'.1 j = M.1 j) (h35 : M'.1 35 = nI (fs + (b5 + 1))) (hr : ∀ j, j = 13 ∨ j = 14 ∨ j = 15 ∨ j = 16 ∨ j = 17 ∨ j = 19 ∨ j = 20 ∨ j = 21 ∨ j = 23 ∨ j = 26 ∨ j = 28 ∨ j = 29 → M'.2.1 j = M.2.1 j) (hl : ∀ j, j = 22 ∨ j = 56 → M'.2.2.1 j = M.2.2.1 j) : rz_U T (s.cu tx_atu) M' (tx_atu u) lo li fa a fs (b5 + 1) lk i' dp := by
  obtain ⟨h1, h2, h3, h4, h5, h6, h7, h8, h9, h10, h11, h12, h13, h14, h15, h16, h17, h18, h19⟩ := h
  have hC := ((h1.cu (g := tx_atu) (fun _ => rfl)).to (M' := M') (hn 12 (by simp)) (hn 18 (by simp)) (fun j hj => hr j (by omega)) (hl 22 (by simp)))
  have e0 : (s.cu tx_atu).2.1 = s.2.1 := by rw [tx_cu_eq]
  have e1 : (s.cu tx_atu).2.2.2 = s.2.2.2 := by rw [tx_cu_eq]
  have hA := h2.to (M' := M') (hr 17 (by simp)) (hr 26 (by simp))
  refine ⟨hC, ⟨by rw [e0]; exact hA.1, hA.2.1, hA.2.2.1, hA.2.2.2⟩, by rw [hn 38 (by simp)]; exact h3, by omega, by rw [hn 27 (by simp)]; exact h5, ?_, ?_, by rw [e0, hr 16 (by simp)]; exact h8, h35, ?_, by omega, by rw [hn 31 (by simp)]; exact h12, by omega, (h14.to (Nat.le_refl _) (Nat.le_refl _) (fun k _ => by rw [hr 19 (by simp)]) (fun k _ => by rw [hr 29 (by simp)])).le hi, h15.kk rfl rfl rfl rfl (hr 21 (by simp)) (hr 23 (by simp)), ?_, by rw [e0]; omega, fun j w hw => ?_, ?_⟩
  · show li + u.2.2.1.countP (fun r => !rt_sg r) ≤ i'
    omega
  · show lo + u.2.2.1.countP rt_sg ≤ i'
    omega
  · show u.2.2.2.2.2.2.2.1 + 1 = _
    rw [h10, nI_1]
  · obtain ⟨y, y1, y2⟩ := h16
    exact ⟨y, by rw [e0, hr 13 (by simp)]; exact y1, y2⟩
  · rw [e0] at hw
    exact (h18 j w hw).to (tx_len hw) (rt_pre.of (fun j hj => hr j (by omega)) hl) (Nat.le_refl _) (Nat.le_refl _)
  · exact h19.mp e0 e1 (g := tx_atu) (by rw [tx_cu_eq]) (fun _ => rfl)
theorem rz_L.ast {K : rm_M → Prop} {s' : tx_S} (hN : 65540 ≤ N) (hf : f ≤ 60) (h : rz_L n T 0 M0 M s i p) (hR : tx_ast T f i s = .inr ((), i', s'))
    (hK : ∀ M', rz_L n T 0 M0 M' s' i' p → i < i' → K M') (hD : ∀ M', s'.1.1 ≠ 0 → rz_D M0 M' s'.1 25000 → K M') : ∃ a, M.1 35 = nI a ∧ a < 6600 ∧ rp_exp N (fun w M => rp_cost w.toInt64 M fun M => ∃ a, M.1 35 = nI a ∧ a < 6600 ∧ K (rp_i (rp_int (rp_set M 37 a (M.1 42)) 35 (nI (a + 1))) 2)) (rp_set (rp_i M 2) 36 a (M.1 42)) := by
  have hl := h.len
  have hends := h.ends
  unfold tx_ast at hR
  obtain ⟨k18, hR⟩ := tx_tka hR
  obtain ⟨f1, rfl, k40, hR⟩ := tx_op_r hR
  obtain ⟨w1, i1, s1, hR1, hR⟩ := tx_and_r hR
  obtain ⟨k41, hR⟩ := tx_tka hR
  obtain ⟨k59, hR⟩ := tx_tka hR
  cases hR
  have l1 := hends i h.2.2.2.2.2.1 (by rw [k18]; decide) (by rw [k18]; decide)
  have l2 := hends _ l1 (by rw [k40]; decide) (by rw [k40]; decide)
  obtain ⟨m1, m2⟩ := h.m
  have h0 := h
  obtain ⟨H1, H2, ⟨U, LO, LI, FA, A, FS, B5, LK, C, H3, H7, H8, H9⟩, H10, H11, H12, H13, H14, H15⟩ := h0
  have u9 := H3.2.2.2.2.2.2.2.2.1
  have u11 := H3.2.2.2.2.2.2.2.2.2.2.1
  refine ⟨FS + B5, u9, by omega, ?_⟩
  have e0 : (s.cu tx_atu).2.1 = s.2.1 := by rw [tx_cu_eq]
  have hC1 : rt_C T (s.cu tx_atu) (rp_set (rp_i M 2) 36 (FS + B5) (M.1 42)) (tx_atu U) LO LI := (H3.1.cu (g := tx_atu) (fun _ => rfl)).to rfl rfl (fun j hj => by rcases hj with rfl | rfl | rfl | rfl | rfl | rfl | rfl | rfl <;> rfl) rfl
  have hT1 : rm_T n T (rp_set (rp_i M 2) 36 (FS + B5) (M.1 42)) := H2.to rfl (fun j hj => by rcases hj with rfl | rfl | rfl | rfl <;> rfl)
  have hB1 := hC1.B hT1
  have hL1 : rx_L T (rp_set (rp_i M 2) 36 (FS + B5) (M.1 42)) (rp_set (rp_i M 2) 36 (FS + B5) (M.1 42)) (i + 1 + 1) C p := by
    refine ⟨rx_f.rf _, (H10.to rfl rfl rfl : rx_c i p (rp_set (rp_i M 2) 36 (FS + B5) (M.1 42))).le (by omega) (by omega) (by omega), ?_, l2, H13, H7, ?_⟩
    · show M.1 8 + 2 = _
      rw [H11]
      exact nI_add i 2
    · show C ≤ 2000 * rx_x M + _
      omega
  have hz1 : rz_f M (rp_set (rp_i M 2) 36 (FS + B5) (M.1 42)) := ⟨fun j hj => by show va_up M.1 8 (M.1 8 + 2) j = _; rw [va_up_ne _ _ (by omega)], fun j hj => va_up_ne _ _ (by omega)⟩
  have hv1 : (s.cu tx_atu).1.1 = 0 := by rw [tx_cu_eq]; exact H14
  have hcx : (s.cu tx_atu).ex (s.cu tx_atu).1 C = s.cu tx_atu := tx_ex_id hC1.1 H9
  refine rz_exp hN (by omega) hB1 H15 hL1 hv1 hcx hR1 (fun c' M2 e1 h2 hw ilt => ?_) (fun w' M2 e1 h2 ilt => ?_)
  · obtain ⟨k, q1, q2, q3⟩ := hw
    have hB2 := h2.B hB1
    have fy := h2.1.y
    have hi1 := h2.2.2.2.1
    have hi2 := hends _ hi1 (by rw [k41]; decide) (by rw [k41]; decide)
    have hi3 := hends _ hi2 (by rw [k59]; decide) (by rw [k59]; decide)
    refine ⟨rx_m M2, hB2.2.1, hB2.2.2.1, FS + B5, ?_, by omega, hK _ ?_ (by omega)⟩
    · show M2.1 35 = _
      rw [fy.1 35 (by decide) (by decide) (by decide) (by decide) (by decide) (by decide)]
      exact u9
    · generalize hM4 : rp_i (rp_int (rp_set (rp_cm M2 (rx_m M2) w1.toInt64) 37 (FS + B5) ((rp_cm M2 (rx_m M2) w1.toInt64).1 42)) 35 (nI (FS + B5 + 1))) 2 = M4
      have i4 : ∀ j, j ≠ 8 → j ≠ 35 → M4.1 j = M2.1 j := fun j d1 d2 => by
        rw [← hM4]
        show va_up (va_up M2.1 35 (nI (FS + B5 + 1))) 8 _ j = _
        rw [va_up_ne _ _ d1, va_up_ne _ _ d2]
      have r4 : ∀ j, j ≠ 37 → M4.2.1 j = M2.2.1 j := fun j d1 => by
        rw [← hM4]
        exact va_up_ne _ _ d1
      have l4 : ∀ j, j ≠ 45 → M4.2.2.1 j = M2.2.2.1 j := fun j d1 => by
        rw [← hM4]
        exact va_up_ne _ _ d1
      have hz4 : rz_f M2 M4 := ⟨fun j hj => i4 j (by omega) (by omega), fun j hj => r4 j (by omega)⟩
      have hU := (H3.atu (M' := M4) (i' := i1 + 1 + 1) (by omega) (by omega) (fun j hj => by
        rw [i4 j (by omega) (by omega), fy.1 j (by omega) (by omega) (by omega) (by omega) (by omega) (by omega)]
        show va_up M.1 8 (M.1 8 + 2) j = _
        rw [va_up_ne _ _ (by omega)]) (by rw [← hM4]; rfl) (fun j hj => by
        rw [r4 j (by omega), h2.1.1.2.1 j (by omega) (by omega) (by omega) (by omega)]
        exact va_up_ne _ _ (by omega)) (fun j hj => by
        rw [l4 j (by omega), fy.2.2.1 j (by omega) (by omega)]
        rfl)).ex (s.cu tx_atu).1 (c' + k)
      rw [q1, e1, tx_ex_spend (by omega)]
      refine ⟨((H1.tr hz1).tr fy.z).tr hz4, hz4.tt (fy.tt hT1), ⟨_, LO, LI, FA, A, FS, B5 + 1, LK, c' + k, hU, ?_, ?_, rfl⟩, ?_, ?_, hi3, ?_, hv1, ?_⟩
      · have em : rx_m M4 = rx_m M2 := by unfold rx_m; rw [i4 12 (by decide) (by decide)]
        rw [em, ← hM4]
        show va_up M2.2.2.1 45 (vp_updL (M2.2.2.1 45) (rx_m M2) (M2.2.2.1 45 (rx_m M2) + w1.toInt64)) 45 (rx_m M2) = _
        rw [va_up_self, pk_uLs, h2.2.2.2.2.2.1, q1, nI_l (by omega), lN_add]
      · have ex : rx_x M4 = rx_x M2 := by unfold rx_x; rw [i4 42 (by decide) (by decide)]
        have := h2.2.2.2.2.2.2
        rw [ex]
        omega
      · exact (h2.2.1.to (i4 42 (by decide) (by decide)) (i4 44 (by decide) (by decide)) (by rw [← hM4]; rfl) : rx_c i1 p M4).le (by omega) (by omega) (by omega)
      · rw [← hM4]
        show M2.1 8 + 2 = _
        rw [h2.2.2.1]
        exact nI_add i1 2
      · rw [i4 9 (by decide) (by decide)]
        exact h2.2.2.2.2.1
      · have hk2 := fy.k H15
        unfold rx_k rx_w rx_b at hk2 ⊢
        rw [i4 48 (by decide) (by decide), i4 50 (by decide) (by decide)]
        exact hk2
  · have hB2 := h2.B hB1
    have fy := h2.1.y
    have hd := rx_D.z (M0 := M0) (H1.tr hz1) m2 m1 h2
    refine ⟨rx_m M2, hB2.2.1, hB2.2.2.1, FS + B5, ?_, by omega, hD _ e1 ?_⟩
    · show M2.1 35 = _
      rw [fy.1 35 (by decide) (by decide) (by decide) (by decide) (by decide) (by decide)]
      exact u9
    · have hd2 : rz_D M0 (rp_int (rp_set (rp_cm M2 (rx_m M2) w'.toInt64) 37 (FS + B5) ((rp_cm M2 (rx_m M2) w'.toInt64).1 42)) 35 (nI (FS + B5 + 1))) s1.1 (20000 + 30 * f1) := hd.to ⟨fun j hj => va_up_ne _ _ (by omega), fun j hj => va_up_ne _ _ (by omega)⟩ rfl rfl rfl rfl
      exact (hd2.mv (d := 2) (x := 2) rfl).le (by omega)
/-- what an exp asks of names -/
theorem rx_B.sx (h : rx_B n T s M) (hd : ∀ X, s1.da X = s.da X) (hr : ∀ q, (s1.rc q).2.1 = (s.rc q).2.1 ∧ (s1.rc q).2.2.1 = (s.rc q).2.2.1) : rx_B n T s1 M := by
  have hu : ∀ t, (tx_used s1 t).1 = (tx_used s t).1 := by
    intro t
    unfold tx_used
    rw [hd]
    cases hh : s.da t.2.2.2.1 with
    | none => rfl
    | some q =>
      show (if (s1.rc q).2.1 = 5 then _ else _ : Option Nat × tx_S).1 = (if (s.rc q).2.1 = 5 then _ else _ : Option Nat × tx_S).1
      rw [(hr q).1]
      split <;> rfl
  have hw : ∀ q, s1.wo (some q) = s.wo (some q) := fun q => (hr q).2
  obtain ⟨h1, h2, h3, lo, hi, h4, h5, h6, h7, h8, h9⟩ := h
  refine ⟨h1, h2, h3, lo, hi, h4, h5, h6, h7, h8, fun x hx hk => ?_⟩
  rcases h9 x hx hk with ⟨a1, a2⟩ | ⟨j, q, a1, a2, a3, a4, a5⟩
  · exact Or.inl ⟨a1, (hu _).trans a2⟩
  · exact Or.inr ⟨j, q, a1, (hu _).trans a2, a3, by rw [hw]; exact a4, by rw [hw]; exact a5⟩
end RZI

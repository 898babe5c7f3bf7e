/-! THE SECOND PASS: an assignment. -/
section RZJ
variable {n N : Nat} {T : List tx_Tk} {s s1 : tx_S} {M0 M M' : rm_M} {u : tx_U} {lo li fa a fs b5 lk i i' p b I f c dp : Nat} {e v : Int32 × Int32}
theorem tx_asn_e (h : tx_asg (s.cu tx_asu) (tx_ta T (i + 1)) = tx_asg (tx_S.cu (e, s.2) tx_asu) (tx_ta T (i + 1))) : tx_asn T f i s = tx_asn T f i (e, s.2) := by
  unfold tx_asn tx_tk
  by_cases z : tx_ki T i = 7
  · rw [if_pos z, if_pos z]
    show (if _ then _ else _ : tx_R tx_Tk).and _ = (if _ then _ else _ : tx_R tx_Tk).and _
    by_cases y : tx_ki T (i + 1) = 19
    · rw [if_pos y, if_pos y]
      show (if _ then _ else _ : tx_R tx_Tk).and _ = (if _ then _ else _ : tx_R tx_Tk).and _
      rw [h]
    · rw [if_neg y, if_neg y]
  · rw [if_neg z, if_neg z]
theorem tx_mnA (s : tx_S) (q : Nat) (g : tx_N → tx_N) : (s.cu tx_asu).mn s.2.1.length q g = (s.1, s.2.1, (s.2.2.1.map tx_asu).map (tx_nq q g), s.2.2.2) := by
  rw [tx_cu_eq]
  exact tx_mn_cu (s.1, s.2.1, s.2.2.1.map tx_asu, s.2.2.2) q g
theorem rz_L.asg {K : rm_M → Prop} {s' : tx_S} (hN : 65540 ≤ N) (hf : f ≤ 60) (h : rz_L n T 0 M0 M s i p) (hR : tx_asn T f i s = .inr ((), i', s'))
    (hK : ∀ M', rz_L n T 0 M0 M' s' i' p → i < i' → K M') (hD : ∀ M', s'.1.1 ≠ 0 → rz_D M0 M' s'.1 25000 → K M') : rp_asg N K M := by
  have hl := h.len
  have hends := h.ends
  have hR0 := hR
  unfold tx_asn at hR0
  obtain ⟨k7, hR0⟩ := tx_tka hR0
  obtain ⟨k19, hR0⟩ := tx_tka hR0
  obtain ⟨k61, hR0⟩ := tx_tka hR0
  have h1 := h.i1 (by rw [k7]; decide) (by rw [k7]; decide)
  have hi1 := h1.2.2.2.2.2.1
  have hi2 := hends _ hi1 (by rw [k19]; decide) (by rw [k19]; decide)
  have hi3 := hends _ hi2 (by rw [k61]; decide) (by rw [k61]; decide)
  obtain ⟨m1, m2⟩ := h.m
  have h0 := h
  obtain ⟨H1, H2, ⟨U, LO, LI, FA, A, FS, B5, LK, C, H3, H7, H8, H9⟩, H10, H11, H12, H13, H14, H15⟩ := h0
  have hC := H3.1
  have hC1 : rt_C T s (rp_i M 1) U LO LI := hC.to rfl rfl (fun j hj => by rcases hj with rfl | rfl | rfl | rfl | rfl | rfl | rfl | rfl <;> rfl) rfl
  obtain ⟨X, hX⟩ := H2.nam hi1 k19
  have hfail : ∀ (w : Int32), w ≠ 0 → tx_asg (s.cu tx_asu) (tx_ta T (i + 1)) = tx_asg (tx_S.cu ((w, nI (tx_ta T (i + 1)).2.1), s.2) tx_asu) (tx_ta T (i + 1)) → s'.1 = (w, nI (tx_ta T (i + 1)).2.1) ∧ i + 1 ≤ i' ∧ i' < T.length := by
    intro w hw he
    have hg := tx_gd.asn (e := (w, nI (tx_ta T (i + 1)).2.1)) hends (f := f) H12 (s := ((w, nI (tx_ta T (i + 1)).2.1), s.2)) (fun _ => rfl)
    rw [tx_asn_e he] at hR
    obtain ⟨g1, g2, g3⟩ := hg _ _ _ hR
    exact ⟨g3 hw, g1, g2⟩
  have hcu : ∀ v, tx_S.cu (v, s.2) tx_asu = (v, s.2.1, s.2.2.1.map tx_asu, s.2.2.2) := fun v => tx_cu_eq (v, s.2) tx_asu
  have hf22 : (∀ v, tx_asg (tx_S.cu (v, s.2) tx_asu) (tx_ta T (i + 1)) = (none, tx_ck false 22 (nI (tx_ta T (i + 1)).2.1) (tx_S.cu (v, s.2) tx_asu))) → K (rm_fail 22 (nI (tx_ta T (i + 1)).2.1) (rp_i M 1)) := by
    intro q2
    obtain ⟨es, g1, g2⟩ := hfail 22 (by decide) (by
      have q1 := q2 s.1
      rw [show tx_S.cu s tx_asu = tx_S.cu (s.1, s.2) tx_asu from rfl, q1, q2, hcu, hcu]
      unfold tx_ck
      rw [if_pos ⟨rfl, H14⟩, if_neg (fun y => absurd y.2 (show ¬ (22 : Int32) = 0 by decide))])
    have hd := h1.fail (w := 22) (q := nI (tx_ta T (i + 1)).2.1) (b := 25000) (by decide) (by omega)
    rw [← es] at hd
    exact hD _ (by rw [es]; exact (by decide : (22 : Int32) ≠ 0)) hd
  have hda : ∀ v, (tx_S.cu (v, s.2) tx_asu).da (some X) = s.da (some X) := by
    intro v
    rw [hcu]
    unfold tx_S.da
    cases hu : s.2.2.1 <;> rfl
  have hrc : ∀ v q, (tx_S.cu (v, s.2) tx_asu).rc q = s.rc q := by
    intro v q
    rw [hcu]
    unfold tx_S.rc
    rw [hC.1]
    rfl
  unfold rp_asg
  refine hC1.here h1.2.1 (by rw [H11, nI_1]) hi1 k19 ?_
  refine h1.bg ?_
  rcases hC1.sN hl.1 hX with ⟨a1, a2⟩ | ⟨q, r, a1, a2, a3, a4, a5⟩
  · rw [a1, if_pos (show rm_on none < 0 by decide)]
    refine hf22 (fun v => ?_)
    unfold tx_asg
    rw [hX]
    show (match (tx_S.cu (v, s.2) tx_asu).da (some X) with | none => _ | some q => _) = _
    rw [hda]
    cases hd : s.da (some X) with
    | none => rfl
    | some q =>
      obtain ⟨r, r1, r2⟩ := hC.da.mp hd
      have hs := a2 q r r1 r2
      have k5 : r.2.1 = 5 := by
        unfold rt_sg at hs
        simpa using hs
      show (if ((tx_S.cu (v, s.2) tx_asu).rc q).2.1 = 1 ∨ ((tx_S.cu (v, s.2) tx_asu).rc q).2.1 = 3 then _ else _) = _
      rw [hrc, tx_S.rc_of hC.1 r1, k5, if_neg (by decide)]
  · have hs := (hC.2.2.2.2.2.2.2.1 q r a2).1 a4
    have hlt : rt_k U.2.2.1 q < U.2.2.1.countP rt_sg := rt_lt a2 a4
    have hk11 := hC.2.2.2.2.2.2.1
    have er : s.rc q = r := tx_S.rc_of hC.1 a2
    rw [a1, show rm_on (some (LO + rt_k U.2.2.1 q)) = nI (LO + rt_k U.2.2.1 q) from rfl, if_neg (nI_pos (by omega))]
    refine ⟨LO + rt_k U.2.2.1 q, rfl, by omega, ?_⟩
    rw [hs.2.2.2.1]
    by_cases zr : r.2.1 = 1 ∨ r.2.1 = 3
    · rw [if_pos zr]
      have hset : ∀ v, tx_asg (tx_S.cu (v, s.2) tx_asu) (tx_ta T (i + 1)) = (some q, (tx_ck (!r.2.2.2.2.2.1) 31 (nI (tx_ta T (i + 1)).2.1) (tx_S.cu (v, s.2) tx_asu)).mn s.2.1.length q tx_drv) := by
        intro v
        unfold tx_asg
        rw [hX]
        show (match (tx_S.cu (v, s.2) tx_asu).da (some X) with | none => _ | some q => _) = _
        rw [hda, a5]
        show (if ((tx_S.cu (v, s.2) tx_asu).rc q).2.1 = 1 ∨ ((tx_S.cu (v, s.2) tx_asu).rc q).2.1 = 3 then _ else _) = _
        rw [hrc, er, if_pos zr, tx_ck_true]
        unfold tx_drive
        rw [hrc, er]
        congr 2
        rw [hcu]
      obtain ⟨wx, i4, s4, hR4, hR5⟩ := tx_and_r hR0
      obtain ⟨k59, hR5⟩ := tx_tka hR5
      cases hR5
      have hset0 := hset s.1
      obtain ⟨kw, w1, w2, w3⟩ := hs.2.2.1
      cases hdr : r.2.2.2.2.2.1 with
      | false =>
        have e23 : M.2.1 23 (LO + rt_k U.2.2.1 q) = 0 := hs.2.2.2.2.2.1.mpr hdr
        rw [if_pos e23]
        rw [hdr] at hset0
        have es1 : tx_asg (s.cu tx_asu) (tx_ta T (i + 1)) = (some q, (s.1, s.2.1, (s.2.2.1.map tx_asu).map (tx_nq q tx_drv), s.2.2.2)) := by
          have : tx_asg (s.cu tx_asu) (tx_ta T (i + 1)) = _ := hset0
          rw [this]
          show (some q, (tx_ck true 31 _ (s.cu tx_asu)).mn _ q tx_drv) = _
          rw [tx_ck_true, tx_mnA]
        rw [es1] at hR4 hK hD
        have h2 := h1.i1 (by rw [k19]; decide) (by rw [k19]; decide)
        have h3 := h2.i1 (by rw [k61]; decide) (by rw [k61]; decide)
        refine h2.bg ?_
        obtain ⟨c3, hc3, hB3, hL3⟩ := h3.x
        have hrc1 : ∀ x, tx_S.rc (s.1, s.2.1, (s.2.2.1.map tx_asu).map (tx_nq q tx_drv), s.2.2.2) x = if x = q then tx_drv (s.rc x) else s.rc x := by
          intro x
          unfold tx_S.rc
          rw [hC.1]
          show ((U.2.2.1.modify q tx_drv)[x]?).getD tx_n0 = if x = q then tx_drv ((U.2.2.1[x]?).getD tx_n0) else (U.2.2.1[x]?).getD tx_n0
          rw [tx_gm]
          by_cases zx : x = q
          · rw [if_pos zx, if_pos zx, zx, a2]
            rfl
          · rw [if_neg zx, if_neg zx]
        have hB3' : rx_B n T (s.1, s.2.1, (s.2.2.1.map tx_asu).map (tx_nq q tx_drv), s.2.2.2) (rp_i (rp_i (rp_i M 1) 1) 1) := by
          refine hB3.sx (fun Y => ?_) (fun x => ?_)
          · unfold tx_S.da
            rw [hC.1]
            rfl
          · rw [hrc1]
            split <;> exact ⟨rfl, rfl⟩
        have hc3' : tx_S.ex (s.1, s.2.1, (s.2.2.1.map tx_asu).map (tx_nq q tx_drv), s.2.2.2) s.1 C = (s.1, s.2.1, (s.2.2.1.map tx_asu).map (tx_nq q tx_drv), s.2.2.2) := by
          refine tx_ex_id (u := tx_nq q tx_drv (tx_asu U)) ?_ H9
          show (s.2.2.1.map tx_asu).map _ = _
          rw [hC.1]
          rfl
        have hL3' : rx_L T (rp_i (rp_i (rp_i M 1) 1) 1) (rp_i (rp_i (rp_i M 1) 1) 1) (i + 1 + 1 + 1) C p := by
          obtain ⟨q1, q2, q3, q4, q5, q6, q7⟩ := hL3
          exact ⟨q1, q2.le (by omega) (Nat.le_refl _) q2.pos, q3, q4, q5, H7, by show C ≤ 2000 * rx_x M + _; omega⟩
        have ewo : tx_S.wo (s.1, s.2.1, (s.2.2.1.map tx_asu).map (tx_nq q tx_drv), s.2.2.2) (some q) = r.2.2.1 := by
          show (tx_S.rc _ q).2.2.1 = _
          rw [hrc1, if_pos rfl, er]
          rfl
        simp only [ewo] at hK hD
        refine rz_exp hN hf hB3' H15 hL3' H14 hc3' hR4 (fun c' M4 e4 h4 hw ilt => ?_) (fun w' M4 e4 h4 ilt => ?_)
        · obtain ⟨k, q1, q2, q3⟩ := hw
          have fy := h4.1.y
          have hi5 := h4.2.2.2.1
          have hi6 := hends _ hi5 (by rw [k59]; decide) (by rw [k59]; decide)
          have e20 : M4.2.1 20 (LO + rt_k U.2.2.1 q) = r.2.2.1 := by
            rw [h4.1.1.2.1 20 (by decide) (by decide) (by decide) (by decide)]
            exact hs.2.1
          rw [e20]
          by_cases z : r.2.2.1 = wx
          · rw [h4.ff (fun y => y z.symm)]
            rw [decide_eq_true z, tx_ck_true, e4] at hK
            refine hK _ ?_ (by omega)
            generalize hM5 : rp_i (rp_drv M4 (LO + rt_k U.2.2.1 q) 1 (M.1 42) (M4.1 42)) 1 = M5
            have i5 : ∀ j, j ≠ 8 → M5.1 j = M4.1 j := fun j d1 => by
              rw [← hM5]
              exact va_up_ne _ _ d1
            have r5 : ∀ j, j ≠ 23 → j ≠ 24 → j ≠ 25 → M5.2.1 j = M4.2.1 j := fun j d1 d2 d3 => by
              rw [← hM5]
              show va_up (va_up (va_up M4.2.1 23 _) 24 _) 25 _ j = _
              rw [va_up_ne _ _ d3, va_up_ne _ _ d2, va_up_ne _ _ d1]
            have r23 : ∀ x, x ≠ LO + rt_k U.2.2.1 q → M5.2.1 23 x = M4.2.1 23 x := fun x d1 => by
              rw [← hM5]
              exact pk_un d1
            have s23 : M5.2.1 23 (LO + rt_k U.2.2.1 q) = 1 := by
              rw [← hM5]
              exact pk_us
            have l5 : M5.2.2 = M4.2.2 := by rw [← hM5]; rfl
            have iM : ∀ j, j ≠ 8 → j ≠ 9 → j ≠ 10 → j ≠ 42 → j ≠ 44 → j ≠ 57 → M4.1 j = M.1 j := fun j d1 d2 d3 d4 d5 d6 => by
              rw [fy.1 j d1 d2 d3 d4 d5 d6]
              show va_up (va_up (va_up M.1 8 _) 8 _) 8 _ j = _
              rw [va_up_ne _ _ d1, va_up_ne _ _ d1, va_up_ne _ _ d1]
            have rM : ∀ j, j ≠ 41 → j ≠ 46 → j ≠ 47 → j ≠ 49 → M4.2.1 j = M.2.1 j := fun j d1 d2 d3 d4 => h4.1.1.2.1 j d1 d2 d3 d4
            have lM : ∀ j, j ≠ 43 → j ≠ 45 → M4.2.2.1 j = M.2.2.1 j := fun j d1 d2 => fy.2.2.1 j d1 d2
            have hz5 : rz_f M4 M5 := ⟨fun j hj => i5 j (by omega), fun j hj => r5 j (by omega) (by omega) (by omega)⟩
            have hrs : ∀ (x : Nat) (r' : tx_N), U.2.2.1[x]? = some r' → rt_sg r' = true → x ≠ q → rt_k U.2.2.1 x ≠ rt_k U.2.2.1 q := by
              intro x r' hx hr' zx
              rcases Nat.lt_or_gt_of_ne zx with y | y
              · have := rt_inj hx a2 hr' y
                unfold rt_k; omega
              · have := rt_inj a2 hx a4 y
                unfold rt_k; omega
            have hU := H3.ma (M' := M5) (i' := i4 + 1) (dp' := 0) (q := q) (g := tx_drv) (by omega) (fun _ => rfl) (fun _ => rfl) (fun _ => rfl) (fun j hj => by rw [i5 j (by omega)]; exact iM j (by omega) (by omega) (by omega) (by omega) (by omega) (by omega)) (fun j hj => by rw [r5 j (by omega) (by omega) (by omega)]; exact rM j (by omega) (by omega) (by omega) (by omega)) (fun j hj x hx => by
              rcases hj with rfl | rfl | rfl
              · rw [r5 20 (by decide) (by decide) (by decide), rM 20 (by decide) (by decide) (by decide) (by decide)]
              · rw [r5 21 (by decide) (by decide) (by decide), rM 21 (by decide) (by decide) (by decide) (by decide)]
              · rw [r23 x (by omega), rM 23 (by decide) (by decide) (by decide) (by decide)]) (fun x hx => by rw [r5 28 (by decide) (by decide) (by decide), rM 28 (by decide) (by decide) (by decide) (by decide)]) (fun x hx => by rw [l5, lM 22 (by decide) (by decide)]) (by rw [l5, lM 56 (by decide) (by decide)]) (fun x r' hx hr' hsg => by
              by_cases zx : x = q
              · rw [if_pos zx]
                rw [zx, a2] at hx
                cases hx
                rw [zx] at hsg ⊢
                obtain ⟨t1, t2, t3, t4, t5, t6, t7⟩ := hsg
                refine ⟨?_, ?_, t3, ?_, ?_, ?_, t7⟩
                · rw [r5 19 (by decide) (by decide) (by decide), rM 19 (by decide) (by decide) (by decide) (by decide)]; exact t1
                · rw [r5 20 (by decide) (by decide) (by decide), rM 20 (by decide) (by decide) (by decide) (by decide)]; exact t2
                · rw [r5 21 (by decide) (by decide) (by decide), rM 21 (by decide) (by decide) (by decide) (by decide)]; exact t4
                · rw [l5, lM 22 (by decide) (by decide)]; exact t5
                · rw [s23]
                  exact ⟨fun y => absurd y (by decide), fun y => by cases y⟩
              · rw [if_neg zx]
                have hne := hrs x r' hx hr' zx
                refine hsg.to (fun j hj => ?_) (by rw [l5, lM 22 (by decide) (by decide)])
                rcases hj with rfl | rfl | rfl | rfl
                · rw [r5 19 (by decide) (by decide) (by decide), rM 19 (by decide) (by decide) (by decide) (by decide)]
                · rw [r5 20 (by decide) (by decide) (by decide), rM 20 (by decide) (by decide) (by decide) (by decide)]
                · rw [r5 21 (by decide) (by decide) (by decide), rM 21 (by decide) (by decide) (by decide) (by decide)]
                · rw [r23 _ (by omega), rM 23 (by decide) (by decide) (by decide) (by decide)]) (fun x r' hx hr' hin => by
              have hin' : rt_ins T M5 (LI + rt_j U.2.2.1 x) r' := hin.to (fun j hj => by
                rcases hj with rfl | rfl
                · rw [r5 28 (by decide) (by decide) (by decide), rM 28 (by decide) (by decide) (by decide) (by decide)]
                · rw [r5 29 (by decide) (by decide) (by decide), rM 29 (by decide) (by decide) (by decide) (by decide)])
              split
              · exact hin'
              · exact hin') (by
              obtain ⟨⟨x, x1, x2⟩, x3, x4, x5⟩ := H3.2.2.2.2.2.2.2.2.2.2.2.2.2.2.1
              obtain ⟨mm1, -, -⟩ := rt_mod (L := U.2.2.1) (q := q) (g := tx_drv) (fun _ => rfl)
              have mm4 : (U.2.2.1.modify q tx_drv).countP (fun r => !rt_sg r) = U.2.2.1.countP (fun r => !rt_sg r) := by
                rw [rt_c5_kk, rt_c5_kk, rt_kk_mod (g := tx_drv) (fun _ => rfl)]
              refine ⟨⟨x, x1, ?_⟩, ?_, ?_, x5.kk (rt_kk_mod (g := tx_drv) (fun _ => rfl))⟩
              · show x + 0 % 2 = rt_cn _ LO ((U.2.2.1.modify q tx_drv).countP rt_sg)
                rw [mm1, r5 21 (by decide) (by decide) (by decide), rM 21 (by decide) (by decide) (by decide) (by decide)]
                exact x2
              · show U.2.2.2.2.1 + 1 = nI (rt_cn _ LO ((U.2.2.1.modify q tx_drv).countP rt_sg))
                rw [mm1, x3, nI_1]
                congr 1
                refine (rt_cn_up (k := LO + rt_k U.2.2.1 q) (by omega) (by omega) ?_ ?_ (fun j hj => ?_)).symm
                · show decide (M.2.1 23 (LO + rt_k U.2.2.1 q) = 1) = false
                  rw [e23]
                  rfl
                · show decide (M5.2.1 23 (LO + rt_k U.2.2.1 q) = 1) = true
                  rw [s23]
                  rfl
                · show decide (M5.2.1 23 j = 1) = decide (M.2.1 23 j = 1)
                  rw [r23 j hj, rM 23 (by decide) (by decide) (by decide) (by decide)]
              · show U.2.2.2.2.2.2.1 = nI ((U.2.2.1.modify q tx_drv).countP (fun r => !rt_sg r))
                rw [mm4]; exact x4) s.1
            rw [tx_mnA] at hU
            refine ⟨((H1.tr ((((rx_o.t M (M.1 8 + 1)).tr (rx_o.t (rp_i M 1) ((rp_i M 1).1 8 + 1))).tr (rx_o.t (rp_i (rp_i M 1) 1) ((rp_i (rp_i M 1) 1).1 8 + 1))).f (rx_f.rf M)).y.z).tr fy.z).tr hz5, hz5.tt (fy.tt h3.2.1), ⟨_, LO, LI, FA, A, FS, B5, LK, c', hU.ex s.1 c', ?_, ?_, rfl⟩, ?_, ?_, hi6, ?_, H14, ?_⟩
            · have em : rx_m M5 = rx_m M4 := by unfold rx_m; rw [i5 12 (by decide)]
              rw [em, l5]
              exact h4.2.2.2.2.2.1
            · have ex : rx_x M5 = rx_x M4 := by unfold rx_x; rw [i5 42 (by decide)]
              have := h4.2.2.2.2.2.2
              rw [ex]
              omega
            · exact (h4.2.1.to (i5 42 (by decide)) (i5 44 (by decide)) (by rw [l5]) : rx_c i4 p M5).le (by omega) (by omega) (by omega)
            · rw [← hM5]
              show M4.1 8 + 1 = _
              rw [h4.2.2.1, nI_1]
            · rw [i5 9 (by decide)]
              exact h4.2.2.2.2.1
            · have hk2 := fy.k H15
              unfold rx_k rx_w rx_b at hk2 ⊢
              rw [i5 48 (by decide), i5 50 (by decide)]
              exact hk2
          · have h5 := h4.ffD (x := wx ≠ r.2.2.1) (w := 30) (q := nI (tx_ta T (i + 1 + 1)).2.1) (b := 20000) (fun y => z y.symm) (by decide) (by omega)
            have h6 := rx_D.z (M0 := M0) h3.1 m2 (show (rp_i (rp_i (rp_i M 1) 1) 1).1 12 = nI s.2.1.length from m1) h5
            have es : (tx_ck (decide (r.2.2.1 = wx)) 30 (nI (tx_ta T (i + 1 + 1)).2.1) s4).1 = (30, nI (tx_ta T (i + 1 + 1)).2.1) := by
              rw [decide_eq_false z, e4]
              unfold tx_ck
              rw [if_pos ⟨rfl, H14⟩]
            refine hD _ (by rw [es]; exact (by decide : (30 : Int32) ≠ 0)) ?_
            rw [es]
            refine (((h6.to (M' := rp_drv _ _ _ _ _) ⟨fun _ _ => rfl, fun j hj => ?_⟩ rfl rfl rfl rfl).mv (d := 1) (x := 1) rfl)).le (by omega)
            show va_up (va_up (va_up _ 23 _) 24 _) 25 _ j = _
            rw [va_up_ne _ _ (by omega), va_up_ne _ _ (by omega), va_up_ne _ _ (by omega)]
        · rw [h4.ff]
          have h6 := rx_D.z (M0 := M0) h3.1 m2 (show (rp_i (rp_i (rp_i M 1) 1) 1).1 12 = nI s.2.1.length from m1) h4
          have es : (tx_ck (decide (r.2.2.1 = wx)) 30 (nI (tx_ta T (i + 1 + 1)).2.1) s4).1 = s4.1 := (tx_fx.ck (fun _ => rfl) : tx_fx s4.1 _) e4
          refine hD _ (by rw [es]; exact e4) ?_
          rw [es]
          refine (((h6.to (M' := rp_drv _ _ _ _ _) ⟨fun _ _ => rfl, fun j hj => ?_⟩ rfl rfl rfl rfl).mv (d := 1) (x := 1) rfl)).le (by omega)
          show va_up (va_up (va_up _ 23 _) 24 _) 25 _ j = _
          rw [va_up_ne _ _ (by omega), va_up_ne _ _ (by omega), va_up_ne _ _ (by omega)]
      | true =>
        have e23 : ¬ M.2.1 23 (LO + rt_k U.2.2.1 q) = 0 := fun y => by
          have := hs.2.2.2.2.2.1.mp y
          rw [hdr] at this
          cases this
        rw [if_neg e23]
        have hck : ∀ v, tx_ck (!true) 31 (nI (tx_ta T (i + 1)).2.1) (tx_S.cu (v, s.2) tx_asu) = if v.1 = 0 then tx_S.cu ((31, nI (tx_ta T (i + 1)).2.1), s.2) tx_asu else tx_S.cu (v, s.2) tx_asu := by
          intro v
          rw [hcu, hcu]
          unfold tx_ck
          by_cases y : v.1 = 0
          · rw [if_pos ⟨rfl, y⟩, if_pos y]
          · rw [if_neg (fun w => y w.2), if_neg y]
        obtain ⟨es, g1, g2⟩ := hfail 31 (by decide) (by
          have q1 := hset s.1
          have q2 := hset (31, nI (tx_ta T (i + 1)).2.1)
          rw [hdr, hck, if_pos H14] at q1
          rw [hdr, hck, if_neg (show ¬ (31 : Int32) = 0 by decide)] at q2
          exact q1.trans q2.symm)
        obtain ⟨c1, hc1, hB1, hL1⟩ := h1.x
        have hd1 := hL1.fail (w := 31) (q := nI (tx_ta T (i + 1)).2.1) (b := 15000) (by decide) (by omega)
        have hd2 := (hd1.mv (d := 1) (x := 1) rfl)
        have hd3 := (hd2.mv (d := 1) (x := 1) rfl)
        have hB3 := hd3.B hB1
        refine ⟨i + 1 + 1, ?_, by omega, ?_⟩
        · show (rm_fail 31 _ (rp_i M 1)).1 8 + 1 = _
          have : (rm_fail 31 (nI (tx_ta T (i + 1)).2.1) (rp_i M 1)).1 8 = nI (i + 1) := by
            unfold rm_fail
            rw [if_pos h1.2.2.2.2.2.2.1]
            exact h1.2.2.2.2.1
          rw [this, nI_1]
        · have hk3 : rx_k 1 (rp_i (rp_i (rm_fail 31 (nI (tx_ta T (i + 1)).2.1) (rp_i M 1)) 1) 1) := hd3.1.y.k (h1.2.2.2.2.2.2.2.2.le (by omega))
          refine rx_SD_exf (n := n) (T := T) (s := s) (by omega) (by omega) 60 _ _ _ 15002 (i + 1) (p + 12) _ hB3 hk3 hd3.base (by omega) (by omega) (fun M4 h4 => ?_)
          rw [h4.ff]
          have h5 : rx_D (rp_i M 1) M4 (31, nI (tx_ta T (i + 1)).2.1) 15002 (i + 1) (p + 12) := h4.at hd3.1
          have h6 := rx_D.z (M0 := M0) h1.1 m2 (show (rp_i M 1).1 12 = nI s.2.1.length from m1) h5
          refine hD _ (by rw [es]; exact (by decide : (31 : Int32) ≠ 0)) ?_
          rw [es]
          refine (((h6.to (M' := rp_drv _ _ _ _ _) ⟨fun _ _ => rfl, fun j hj => ?_⟩ rfl rfl rfl rfl).mv (d := 1) (x := 1) rfl)).le (by omega)
          show va_up (va_up (va_up _ 23 _) 24 _) 25 _ j = _
          rw [va_up_ne _ _ (by omega), va_up_ne _ _ (by omega), va_up_ne _ _ (by omega)]
    · rw [if_neg zr]
      refine hf22 (fun v => ?_)
      unfold tx_asg
      rw [hX]
      show (match (tx_S.cu (v, s.2) tx_asu).da (some X) with | none => _ | some q => _) = _
      rw [hda, a5]
      show (if ((tx_S.cu (v, s.2) tx_asu).rc q).2.1 = 1 ∨ ((tx_S.cu (v, s.2) tx_asu).rc q).2.1 = 3 then _ else _) = _
      rw [hrc, er, if_neg zr]
end RZJ

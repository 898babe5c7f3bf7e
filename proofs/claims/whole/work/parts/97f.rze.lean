/-! THE SECOND PASS: declarations with a beginning; ports, wires, registers. -/
theorem tx_cu_eq (s : tx_S) (g : tx_U → tx_U) : s.cu g = (s.1, s.2.1, s.2.2.1.map g, s.2.2.2) := by
  unfold tx_S.cu tx_S.mu
  rw [tx_mod_len, if_pos rfl]
section RZF
variable {n N : Nat} {T : List tx_Tk} {s s1 : tx_S} {M0 M M' : rm_M} {u : tx_U} {lo li fa a fs b5 lk i i' p b I f c dp : Nat} {e v : Int32 × Int32}
theorem rt_ct.nq {q : Nat} {g : tx_N → tx_N} (h : rt_ct M lo dp u) (hg1 : ∀ r, (g r).2.1 = r.2.1) : rt_ct M lo dp (tx_nq q g u) := by
  obtain ⟨m1, m2, m3⟩ := rt_mod (L := u.2.2.1) (q := q) hg1
  have m4 : (u.2.2.1.modify q g).countP (fun r => !rt_sg r) = u.2.2.1.countP (fun r => !rt_sg r) := by
    have e : ∀ L : List tx_N, L.countP (fun r => !rt_sg r) = (rt_kk L).countP (fun k => !decide (¬ k = 5)) := fun L => by
      unfold rt_kk rt_sg
      rw [List.countP_map]
      rfl
    rw [e, e, rt_kk_mod hg1]
  obtain ⟨⟨x, x1, x2⟩, x3, x4, x5⟩ := h
  refine ⟨⟨x, x1, ?_⟩, ?_, ?_, x5.kk (rt_kk_mod hg1)⟩
  · show x + dp % 2 = rt_cn _ lo ((u.2.2.1.modify q g).countP rt_sg)
    rw [m1]; exact x2
  · show u.2.2.2.2.1 = nI (rt_cn _ lo ((u.2.2.1.modify q g).countP rt_sg))
    rw [m1]; exact x3
  · show u.2.2.2.2.2.2.1 = nI ((u.2.2.1.modify q g).countP (fun r => !rt_sg r))
    rw [m4]; exact x4
/-- counters of the module change -/
theorem rt_C.cu {g : tx_U → tx_U} (h : rt_C T s M u lo li) (hg : ∀ u, (g u).2.2.1 = u.2.2.1) : rt_C T (s.cu g) M (g u) lo li := by
  obtain ⟨h1, h2, h3, h4, h5, h6, h7, h8, h9, h10⟩ := h
  rw [tx_cu_eq]
  refine ⟨by show s.2.2.1.map g = _; rw [h1]; rfl, h2, h3, h4, h5, by rw [hg]; exact h6, by rw [hg]; exact h7, by rw [hg]; exact h8, ?_, ?_⟩
  · rw [hg]; exact h9
  · rw [hg]; exact h10
theorem rz_U.pru (h : rz_U T s M u lo li fa a fs b5 lk i 3) : rz_U T (s.cu tx_pru) M (tx_pru u) lo li fa a fs b5 lk i 2 := by
  obtain ⟨h1, h2, h3, h4, h5, h6, h7, h8, h9, h10, h11, h12, h13, h14, h15, h16, h17, h18, h19⟩ := h
  have hC := h1.cu (g := tx_pru) (fun _ => rfl)
  obtain ⟨⟨x, x1, x2⟩, x3, x4, x5⟩ := h15
  rw [tx_cu_eq] at hC ⊢
  refine ⟨hC, h2, h3, h4, h5, h6, h7, h8, h9, h10, h11, h12, h13, h14, ⟨⟨x + 1, ?_, x2⟩, x3, x4, ⟨fun _ => x5.1 (by omega), x5.2⟩⟩, h16, h17, h18, h19.mp rfl rfl (g := tx_pru) rfl (fun _ => rfl)⟩
  show u.2.2.2.1 + 1 = _
  rw [x1, nI_1]
theorem rz_L.pru (h : rz_L n T 3 M0 M s i p) : rz_L n T 2 M0 M (s.cu tx_pru) i p := by
  obtain ⟨h1, h2, ⟨u, lo, li, fa, a, fs, b5, lk, c, h3, h7, h8, h9⟩, h10, h11, h12, h13, h14, h15⟩ := h
  exact ⟨h1, h2, ⟨tx_pru u, lo, li, fa, a, fs, b5, lk, c, h3.pru, h7, h8, h9⟩, h10, h11, h12, h13, by rw [tx_cu_eq]; exact h14, h15⟩
/-- no more ports -/
theorem rz_L.p0 (h : rz_L n T 2 M0 M s i p) : rz_L n T 0 M0 M s i p := by
  obtain ⟨h1, h2, ⟨u, lo, li, fa, a, fs, b5, lk, c, h3, h7, h8, h9⟩, h10⟩ := h
  obtain ⟨u1, u2, u3, u4, u5, u6, u7, u8, u9, u10, u11, u12, u13, u14, ⟨x2, x3, x4, x5⟩, u16⟩ := h3
  exact ⟨h1, h2, ⟨u, lo, li, fa, a, fs, b5, lk, c, ⟨u1, u2, u3, u4, u5, u6, u7, u8, u9, u10, u11, u12, u13, u14, ⟨x2, x3, x4, fun z => absurd z (by omega), x5.2⟩, u16⟩, h7, h8, h9⟩, h10⟩
/-- with a beginning -/
theorem rz_L.dclb {K : rm_M → Prop} {kd w : Int32} (h : rz_L n T dp M0 M s i p) (k19 : tx_ki T i = 19) (k61 : tx_ki T (i + 1) = 61) (k21 : tx_ki T (i + 2) = 21) (hw : rx_wd w) (hkd : kd = 0 ∨ kd = 1 ∨ kd = 2 ∨ kd = 3 ∨ kd = 4) (hdp : dp = if kd < 3 then 2 else 0)
    (hK : ∀ M', rz_L n T (dp + if kd < 3 then 1 else 0) M0 M' (tx_beg s.uu.2.2.1.length (tx_ta T (i + 2)) (tx_dcl (tx_ta T i) kd w s)) (i + 3) p → K M') (hD : ∀ M', (tx_beg s.uu.2.2.1.length (tx_ta T (i + 2)) (tx_dcl (tx_ta T i) kd w s)).1.1 ≠ 0 → rz_D M0 M' (tx_beg s.uu.2.2.1.length (tx_ta T (i + 2)) (tx_dcl (tx_ta T i) kd w s)).1 15010 → K M') : rp_dcl kd w K M := by
  have hl := h.len
  have hends := h.ends
  have hi := h.2.2.2.2.2.1
  obtain ⟨X, hX⟩ := h.2.1.nam hi k19
  unfold rp_dcl
  rw [if_pos h.2.2.2.2.2.2.1]
  have h0 := h
  obtain ⟨h1, h2, ⟨u, lo, li, fa, a, fs, b5, lk, c, h3, h7, h8, h9⟩, h10, h11, h12, h13, h14, h15⟩ := h0
  have euu : s.uu = u := by
    unfold tx_S.uu
    rw [h3.1.1]
    rfl
  rw [euu] at hK hD
  refine h3.dup h2 h11 h12 k19 (by omega) ?_
  refine h.bg ?_
  cases hd : (s.da (tx_ta T i).2.2.2.1).isSome with
  | false =>
    rw [if_neg (by decide)]
    have hda : s.da (tx_ta T i).2.2.2.1 = none := by
      cases hd' : s.da (tx_ta T i).2.2.2.1 with
      | none => rfl
      | some q => rw [hd'] at hd; cases hd
    rw [tx_dcl_ok hda] at hK hD
    obtain ⟨k, e18, hk, hL, u', lo', eu', ek, e14, hlo'⟩ := h.dc (kd := kd) (w := w) k19 hX (by rw [← hX]; exact hda) hw hkd hdp
    have eu : u' = u := by rw [h3.1.1] at eu'; cases eu'; rfl
    subst eu
    have elo : lo' = lo := by
      have := h3.1.2.2.2.1
      rw [e14] at this
      have hlo := h3.1.2.2.2.2.2.2.1
      exact (nI_eq (by omega) (by omega)).mp this
    subst elo
    refine ⟨k, e18, hk, ?_⟩
    refine hL.is (a := 61) (by decide) ?_
    rw [decide_eq_true k61, if_pos rfl]
    have hL1 := hL.i1 (by rw [k61]; decide) (by rw [k61]; decide)
    have hi2 := hL1.2.2.2.2.2.1
    have hi3 := hends (i + 1 + 1) hi2 (by rw [show i + 1 + 1 = i + 2 from rfl, k21]; decide) (by rw [show i + 1 + 1 = i + 2 from rfl, k21]; decide)
    refine ⟨n, T, i + 2, hL1.2.1, hL1.2.2.2.2.1, hi2, k21, ?_⟩
    refine hL1.bg ?_
    -- the name's record
    obtain ⟨H1, H2, ⟨U, LO, LI, FA, A, FS, B5, LK, C, H3, H7, H8, H9⟩, H10, H11, H12, H13, H14, H15⟩ := hL1
    have eU : U = tx_adn (tx_new0 (tx_ta T i) kd w) u' := by
      have q1 := H3.1.1
      have q2 : (s.ad (tx_new0 (tx_ta T i) kd w)).2.2.1 = some (tx_adn (tx_new0 (tx_ta T i) kd w) u') := by
        show s.2.2.1.map _ = _
        rw [h3.1.1]
        rfl
      rw [q2] at q1
      cases q1
      rfl
    have hname : U.2.2.1[u'.2.2.1.length]? = some (tx_new0 (tx_ta T i) kd w) := by
      rw [eU]
      show (u'.2.2.1 ++ [tx_new0 (tx_ta T i) kd w])[u'.2.2.1.length]? = _
      rw [List.getElem?_append_right (Nat.le_refl _), Nat.sub_self]
      rfl
    have hsg : rt_sg (tx_new0 (tx_ta T i) kd w) = true := by
      show decide (¬ kd = 5) = true
      rcases hkd with rfl | rfl | rfl | rfl | rfl <;> rfl
    have hrk : rt_k U.2.2.1 u'.2.2.1.length = u'.2.2.1.countP rt_sg := by
      rw [eU]
      show rt_k (u'.2.2.1 ++ [tx_new0 (tx_ta T i) kd w]) u'.2.2.1.length = _
      unfold rt_k
      rw [rt_take (Nat.le_refl _), List.take_length]
    have eLO : LO = lo' := by
      have q1 := H3.1.2.2.2.1
      have q2 : (rp_i (rp_dc M k kd w) 1).2.1 14 (s.ad (tx_new0 (tx_ta T i) kd w)).2.1.length = nI lo' := e14
      rw [q2] at q1
      have hlo := H3.1.2.2.2.2.2.2.1
      exact ((nI_eq (by omega) (by omega)).mp q1).symm
    have erc : (s.ad (tx_new0 (tx_ta T i) kd w)).rc u'.2.2.1.length = tx_new0 (tx_ta T i) kd w := tx_S.rc_of H3.1.1 hname
    have ebeg : tx_beg u'.2.2.1.length (tx_ta T (i + 2)) (s.ad (tx_new0 (tx_ta T i) kd w)) = (tx_ck (decide (w = (tx_ta T (i + 2)).2.2.2.2.1)) 30 (nI (tx_ta T (i + 2)).2.1) (s.ad (tx_new0 (tx_ta T i) kd w))).mn s.2.1.length u'.2.2.1.length (tx_bgn (tx_ta T (i + 2)).2.2.2.2.2) := by
      unfold tx_beg
      rw [erc]
      rfl
    have hL1 : rz_L n T (dp + if kd < 3 then 1 else 0) M0 (rp_i (rp_dc M k kd w) 1) (s.ad (tx_new0 (tx_ta T i) kd w)) (i + 1 + 1) (p + 12 + 12) := ⟨H1, H2, ⟨U, LO, LI, FA, A, FS, B5, LK, C, H3, H7, H8, H9⟩, H10, H11, H12, H13, H14, H15⟩
    by_cases z : (tx_ta T (i + 2)).2.2.2.2.1 = w
    · rw [if_pos z]
      rw [ebeg, decide_eq_true z.symm, tx_ck_true] at hK
      refine hL1.num (j := i + 2) hL1.2.2.2.2.1 hi2 (Or.inr k21) (fun M2 hL2 q2 => ?_)
      refine hK _ ?_
      have e57 : ∀ j, M2.2.1 j = (rp_i (rp_dc M k kd w) 1).2.1 j := fun j => by rw [q2.1]
      have hU := (H3.to (M' := M2) (Nat.le_refl _) (fun j hj => q2.2 j (by omega)) (fun j _ => e57 j) (fun j _ => by rw [q2.1]))
      have hbg : rz_U T (s.1, ((s.ad (tx_new0 (tx_ta T i) kd w)).mn (s.ad (tx_new0 (tx_ta T i) kd w)).2.1.length u'.2.2.1.length (tx_bgn (tx_ta T (i + 2)).2.2.2.2.2)).2) (rp_i (rp_lset M2 22 k (tx_ta T (i + 2)).2.2.2.2.2) 1) (tx_nq u'.2.2.1.length (tx_bgn (tx_ta T (i + 2)).2.2.2.2.2) U) LO LI FA A FS B5 LK (i + 3) (dp + if kd < 3 then 1 else 0) := by
        refine hU.mn (M' := rp_i (rp_lset M2 22 k (tx_ta T (i + 2)).2.2.2.2.2) 1) (i' := i + 3) (q := u'.2.2.1.length) (g := tx_bgn (tx_ta T (i + 2)).2.2.2.2.2) (by omega) (fun _ => rfl) (fun _ => rfl) (fun _ => rfl) (fun j hj => by show va_up M2.1 8 (M2.1 8 + 1) j = _; rw [va_up_ne _ _ (by omega)]) (fun j _ => rfl) (fun j _ k' _ => rfl) (fun k' _ => rfl) (fun k' hk' => ?_) rfl (fun x r hx hr hs => ?_) (fun x r hx hr hs => ?_) ?_ s.1
        · show vp_updL (M2.2.2.1 22) k _ k' = _
          rw [pk_uLn (by omega)]
        · by_cases zx : x = u'.2.2.1.length
          · rw [if_pos zx]
            rw [zx, hname] at hx
            cases hx
            rw [zx, hrk, eLO, ← ek] at hs ⊢
            obtain ⟨t1, t2, t3, t4, t5, t6, t7⟩ := hs
            exact ⟨t1, t2, t3, t4, pk_uLs, t6, t7⟩
          · rw [if_neg zx]
            refine hs.to (fun _ _ => rfl) ?_
            show vp_updL (M2.2.2.1 22) k _ _ = _
            refine pk_uLn ?_
            have hne : rt_k U.2.2.1 x ≠ rt_k U.2.2.1 u'.2.2.1.length := by
              rcases Nat.lt_or_gt_of_ne zx with y | y
              · have := rt_inj hx hname hr y
                unfold rt_k; omega
              · have := rt_inj hname hx hsg y
                unfold rt_k; omega
            rw [hrk] at hne
            omega
        · rw [if_neg (fun zx => by
            rw [zx, hname] at hx
            cases hx
            rw [hsg] at hr
            cases hr)]
          exact hs
        · exact rt_ct.nq (M := rp_i (rp_lset M2 22 k (tx_ta T (i + 2)).2.2.2.2.2) 1) hU.2.2.2.2.2.2.2.2.2.2.2.2.2.2.1 (fun _ => rfl)
      have hf2 : rz_f M2 (rp_i (rp_lset M2 22 k (tx_ta T (i + 2)).2.2.2.2.2) 1) := ⟨fun j hj => by show va_up M2.1 8 (M2.1 8 + 1) j = _; rw [va_up_ne _ _ (by omega)], fun j _ => rfl⟩
      refine ⟨hL2.1.tr hf2, hf2.tt hL2.2.1, ⟨_, LO, LI, FA, A, FS, B5, LK, C, hbg, ?_, ?_, H9⟩, ?_, ?_, hi3, ?_, h14, ?_⟩
      · show M2.2.2.1 45 (rx_m M2) = _
        have em : rx_m M2 = rx_m (rp_i (rp_dc M k kd w) 1) := by unfold rx_m; rw [q2.2 12 (by decide)]
        rw [q2.1, em]
        exact H7
      · show C ≤ 2000 * rx_x M2 + _
        have ex : rx_x M2 = rx_x (rp_i (rp_dc M k kd w) 1) := (rx_o.n57 q2).x
        rw [ex]
        omega
      · exact (hL2.2.2.2.1.to rfl rfl rfl : rx_c (i + 1 + 1) (p + 12 + 12) (rp_i (rp_lset M2 22 k (tx_ta T (i + 2)).2.2.2.2.2) 1)).le (by omega) (by omega) (by omega)
      · show M2.1 8 + 1 = _
        rw [hL2.2.2.2.2.1, nI_1]
      · exact hL2.2.2.2.2.2.2.1
      · exact hL2.2.2.2.2.2.2.2.2
    · rw [if_neg z]
      have es : (tx_beg u'.2.2.1.length (tx_ta T (i + 2)) (s.ad (tx_new0 (tx_ta T i) kd w))).1 = (30, nI (tx_ta T (i + 2)).2.1) := by
        rw [ebeg, decide_eq_false (fun y => z y.symm)]
        show (tx_ck false 30 _ (s.ad (tx_new0 (tx_ta T i) kd w))).1 = _
        unfold tx_ck
        rw [if_pos ⟨rfl, h14⟩]
      have hdd := hL1.fail (w := 30) (q := nI (tx_ta T (i + 1 + 1)).2.1) (b := 15000) (by decide) (by omega)
      have ff := ((rx_o.fail 30 (nI (tx_ta T (i + 1 + 1)).2.1) (rp_i (rp_dc M k kd w) 1)).f (rx_f.rf _)).y
      refine ⟨n, T, i + 2, ff.tt hL1.2.1, hL1.2.2.2.2.1, hi2, Or.inr k21, fun M2 q2 => ?_⟩
      have hd2 : rz_D M0 M2 (30, nI (tx_ta T (i + 1 + 1)).2.1) 15000 := hdd.to ((rx_o.n57 q2).f (rx_f.rf _)).y.z (q2.2 8 (by decide)) (q2.2 9 (by decide)) (q2.2 10 (by decide)) (q2.2 12 (by decide))
      have hd3 : rz_D M0 (rp_lset M2 22 k (tx_ta T (i + 2)).2.2.2.2.2) (30, nI (tx_ta T (i + 1 + 1)).2.1) 15000 := hd2.to ⟨fun _ _ => rfl, fun _ _ => rfl⟩ rfl rfl rfl rfl
      have hd4 := hd3.mv (d := 1) (x := 1) rfl
      refine hD _ (by rw [es]; exact (by decide : (30 : Int32) ≠ 0)) ?_
      rw [es]
      exact hd4.le (by omega)
  | true =>
    rw [if_pos rfl]
    have es := tx_dcl_no (kd := kd) (w := w) hd h14
    have hfx : tx_fx (21, nI (tx_ta T i).2.1) (tx_beg u.2.2.1.length (tx_ta T (i + 2)) (tx_dcl (tx_ta T i) kd w s)) := tx_fx.beg (fun _ => es)
    have es2 := hfx (show (21 : Int32) ≠ 0 by decide)
    have hdd := h.fail (w := 21) (q := nI (tx_ta T i).2.1) (b := 15000) (by decide) (by omega)
    have e18 : (rm_fail 21 (nI (tx_ta T i).2.1) M).1 18 = nI (lo + u.2.2.1.countP rt_sg) := by
      rw [(rx_o.fail _ _ M).1 18 (by decide) (by decide) (by decide) (by decide)]
      exact h3.1.2.2.2.2.2.1
    refine hdd.dl2 (by omega) e18 (by have := h3.2.2.2.2.2.2.1; omega) (fun M' h' => ?_)
    rw [← es2] at h'
    exact hD M' (by rw [es2]; exact (by decide : (21 : Int32) ≠ 0)) (h'.le (by omega))
end RZF

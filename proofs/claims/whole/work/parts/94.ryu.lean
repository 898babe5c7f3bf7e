/-! THE SECOND PASS: statements. -/
section RYU
variable {n N : Nat} {T : List tx_Tk} {Z : tx_S → Prop} {s : tx_S} {M0 M M' : rm_M} {u : tx_U} {lo li fa a i p b I f : Nat} {e v : Int32 × Int32}
theorem ry_L.at {p' : Nat} {s' : tx_S} {i' : Nat} (hf : ry_f M0 M) (h : ry_L n T Z M M' s' i' p') : ry_L n T Z M0 M' s' i' p' := ⟨hf.tr h.1, h.2⟩
theorem ry_D.at {p' : Nat} {e : Int32 × Int32} {b I : Nat} (hf : ry_f M0 M) (h : ry_D M M' e b I p') : ry_D M0 M' e b I p' := ⟨hf.tr h.1, h.2⟩
theorem ry_L.base (h : ry_L n T Z M0 M s i p) : ry_L n T Z M M s i p := ⟨ry_f.rf M, h.2⟩
theorem ry_D.base (h : ry_D M0 M e b I p) : ry_D M M e b I p := ⟨ry_f.rf M, h.2⟩
theorem ry_f.s26 {j : Nat} {x : Int32} : ry_f M (rp_set M 26 j x) := ⟨fun _ _ _ _ _ _ _ => rfl, fun k h _ _ _ _ => va_up_ne _ _ h, fun _ _ _ => rfl, Nat.le_refl _, fun _ _ => rfl⟩
theorem ry_D.bg {K : Int32 → Prop} (h : ry_D M0 M e b I p) (hb : b < 65540) (hK : ∀ y, K y) : rp_bg M K := by
  obtain ⟨-, -, -, -, -, j, a6, a7⟩ := h
  exact ⟨j, a7, by omega, hK _⟩
theorem rx_c.pos (h : rx_c I p M) : I ≤ 10241 := h.2.2.2.2.2.2
theorem ry_L.stg {K : rm_M → Prop} {i' : Nat} {s' : tx_S} (hN : 65540 ≤ N) (hf : f ≤ 60) (h : ry_L n T Z M0 M s i p) (hR : tx_stg T f i s = .inr ((), i', s'))
    (hK : ∀ M', ry_L n T Z M0 M' s' i' p → i < i' → K M') (hD : ∀ M', s'.1.1 ≠ 0 → ry_D M0 M' s'.1 (21000 + 30 * f) i' p → i < i' → K M') : rp_stg N K M := by
  have h0 := h
  have hlen := h.len
  have hends := h.ends
  obtain ⟨h1, h2, ⟨u, lo, li, fa, a, h3, h4, h5, h6, c, h7, h8, h9⟩, h10, h11, h12, h13, h14, h15⟩ := h
  have k19 : tx_ki T i = 19 := by
    have hR' := hR
    unfold tx_stg at hR'
    exact (tx_tka hR').1
  have n19 : tx_ki T i ≠ 22 ∧ tx_ki T i ≠ 23 := by rw [k19]; decide
  have hi1 := hends i h12 n19.1 n19.2
  obtain ⟨X, hX⟩ := h2.nam h12 k19
  -- a fault at once
  have hfail : ∀ (w : Int32) (M1 : rm_M), w ≠ 0 → tx_setr s (tx_ta T i) = tx_setr ((w, nI (tx_ta T i).2.1), s.2) (tx_ta T i) → ∃ hs : s'.1 = (w, nI (tx_ta T i).2.1), i + 1 ≤ i' ∧ i' < T.length := by
    intro w M1 hw he
    have hg := tx_gd.stg (e := (w, nI (tx_ta T i).2.1)) hends (f := f) h12 (s := ((w, nI (tx_ta T i).2.1), s.2)) (fun _ => rfl)
    rw [tx_stg_e (i' := i') he] at hR
    obtain ⟨g1, g2, g3⟩ := hg _ _ _ hR
    exact ⟨g3 hw, g1, g2⟩
  have hf22 : (tx_setr s (tx_ta T i)) = (none, tx_ck false 22 (nI (tx_ta T i).2.1) s) → (∀ v, tx_setr (v, s.2) (tx_ta T i) = (none, tx_ck false 22 (nI (tx_ta T i).2.1) (v, s.2))) → K (rm_fail 22 (nI (tx_ta T i).2.1) M) := by
    intro q1 q2
    obtain ⟨es, g1, g2⟩ := hfail 22 M (by decide) (by
      rw [q1, q2]
      unfold tx_ck
      rw [if_pos ⟨rfl, h14⟩, if_neg (fun y => absurd y.2 (by decide : ¬ (22 : Int32) = 0))])
    have hd := h0.fail (w := 22) (q := nI (tx_ta T i).2.1) (b := 21000 + 30 * f) (by decide) (by omega)
    rw [← es] at hd
    exact hD _ (by rw [es]; exact (by decide : (22 : Int32) ≠ 0)) (hd.le (Nat.le_refl _) (by omega) (by omega) (by omega)) (by omega)
  unfold rp_stg
  refine h3.here h2 h11 h12 k19 ?_
  refine h0.bg ?_
  rcases h3.sN hlen.1 hX with ⟨a1, a2⟩ | ⟨q, r, a1, a2, a3, a4, a5⟩
  · rw [a1, if_pos (show rm_on none < 0 by decide)]
    have hno : ∀ v, tx_setr (v, s.2) (tx_ta T i) = (none, tx_ck false 22 (nI (tx_ta T i).2.1) (v, s.2)) := by
      intro v
      unfold tx_setr
      rw [hX]
      show (match s.da (some X) with | none => _ | some q => _) = _
      cases hd : s.da (some X) with
      | none => rfl
      | some q =>
        obtain ⟨r, r1, r2⟩ := h3.da.mp hd
        have hs := a2 q r r1 r2
        have e5 : tx_S.rc (v, s.2) q = r := tx_S.rc_of (u := u) h3.1 r1
        have k5 : r.2.1 = 5 := by
          unfold rt_sg at hs
          simpa using hs
        show (if (tx_S.rc (v, s.2) q).2.1 = 2 ∨ (tx_S.rc (v, s.2) q).2.1 = 4 then _ else _) = _
        rw [e5, k5, if_neg (by decide)]
    exact hf22 (hno s.1) hno
  · have hs := (h3.2.2.2.2.2.2.2.1 q r a2).1 a4
    have hlt : rt_k u.2.2.1 q < u.2.2.1.countP rt_sg := rt_lt a2 a4
    have hk11 := h3.2.2.2.2.2.2.1
    rw [a1, show rm_on (some (lo + rt_k u.2.2.1 q)) = nI (lo + rt_k u.2.2.1 q) from rfl, if_neg (nI_pos (by omega))]
    refine ⟨lo + rt_k u.2.2.1 q, rfl, by omega, ?_⟩
    rw [hs.2.2.2.1]
    have erc : ∀ v, tx_S.rc (v, s.2) q = r := fun v => tx_S.rc_of (u := u) h3.1 a2
    have euu : ∀ v, tx_S.uu (v, s.2) = u := fun v => by
      show (s.2.2.1).getD tx_u0 = u
      rw [h3.1]
      rfl
    by_cases zr : r.2.1 = 2 ∨ r.2.1 = 4
    · rw [if_pos zr]
      -- what the reader says
      have hset : ∀ v, tx_setr (v, s.2) (tx_ta T i) = (some q, (tx_ck (decide (r.2.2.2.2.2.2.1 = 0 ∨ r.2.2.2.2.2.2.1 = u.2.2.2.2.2.1)) 32 (nI (tx_ta T i).2.1) (v, s.2)).mn s.2.1.length q (tx_sin u.2.2.2.2.2.1)) := by
        intro v
        unfold tx_setr
        rw [hX]
        show (match s.da (some X) with | none => _ | some q => _) = _
        rw [a5]
        show (if (tx_S.rc (v, s.2) q).2.1 = 2 ∨ (tx_S.rc (v, s.2) q).2.1 = 4 then _ else _) = _
        rw [erc, euu, if_pos zr, tx_ck_true]
      obtain ⟨h41, h42, h43, h44⟩ := h4
      have hset26 := h44 q r a2 a4
      have ec : (¬ M.2.1 26 (lo + rt_k u.2.2.1 q) = 0 ∧ ¬ M.2.1 26 (lo + rt_k u.2.2.1 q) = M.1 38 + 1) ↔ ¬ (r.2.2.2.2.2.2.1 = 0 ∨ r.2.2.2.2.2.2.1 = u.2.2.2.2.2.1) := by
        rw [h6, h42]
        rcases hset26 with ⟨b1, b2⟩ | ⟨vv, b1, b2, b3, b4⟩
        · rw [b1, b2]
          constructor
          · intro y; exact absurd rfl y.1
          · intro y; exact absurd (Or.inl rfl) y
        · rw [b3, b4, nI_eq (by omega) (by omega), show (0 : Int32) = nI 0 from rfl, nI_eq (by omega) (by omega), nI_eq (by omega) (by omega), nI_eq (by omega) (by omega)]
          omega
      have hwd20 : M.2.1 20 (lo + rt_k u.2.2.1 q) = r.2.2.1 := hs.2.1
      obtain ⟨kw, w1, w2, w3⟩ := hs.2.2.1
      by_cases zc : r.2.2.2.2.2.2.1 = 0 ∨ r.2.2.2.2.2.2.1 = u.2.2.2.2.2.1
      · -- all is well
        have es1 : tx_setr s (tx_ta T i) = (some q, s.mn s.2.1.length q (tx_sin u.2.2.2.2.2.1)) := by
          have := hset s.1
          rw [decide_eq_true zc, tx_ck_true] at this
          exact this
        rw [if_neg (fun y => ec.mp y zc)]
        generalize hM1 : rp_i (rp_set M 26 (lo + rt_k u.2.2.1 q) (M.1 38 + 1)) 1 = M1
        have f1 : ry_f M M1 := by
          rw [← hM1]
          exact ry_f.s26.tr ((rx_o.t _ _).f (rx_f.rf _)).y
        have hC1 : rt_C T (s.mn s.2.1.length q (tx_sin u.2.2.2.2.2.1)) M1 (tx_nq q (tx_sin u.2.2.2.2.2.1) u) lo li := by
          refine (h3.fr f1).mn (q := q) (g := tx_sin u.2.2.2.2.2.1) (fun r => rfl) (fun r => rfl) rfl rfl (fun _ _ => rfl) (fun x r' _ _ z => ?_) (fun x r' _ _ z => ?_) s.1
          · split
            · exact z
            · exact z
          · split
            · exact z
            · exact z
        have hL1 : ry_L n T Z M0 M1 (s.mn s.2.1.length q (tx_sin u.2.2.2.2.2.1)) (i + 1) (p + 12) := by
          have hi17 : M1.2.1 17 = M.2.1 17 := f1.2.1 17 (by decide) (by decide) (by decide) (by decide) (by decide)
          have ex : rx_x M1 = rx_x M := by rw [← hM1]; rfl
          refine ⟨h1.tr f1, f1.tt h2, ⟨_, lo, li, fa, a, hC1, ⟨?_, h42, h43, fun x r' hx hr' => ?_⟩, h5, ?_, c, ?_, ?_, h9⟩, ?_, ?_, hi1, ?_, h14, f1.k h15.1, h15.2.2.2 _ _ _ h15.2.1, h15.2.2⟩
          · show M1.2.1 17 (s.mn s.2.1.length q (tx_sin u.2.2.2.2.2.1)).2.1.length = _
            rw [tx_mn_cu, hi17]
            exact h41
          · obtain ⟨m1, m2, m3⟩ := rt_mod (L := u.2.2.1) (q := q) (g := tx_sin u.2.2.2.2.2.1) (fun r => rfl)
            have hx' : (u.2.2.1.modify q (tx_sin u.2.2.2.2.2.1))[x]? = some r' := hx
            show _ ∨ ∃ v, 1 ≤ v ∧ v ≤ 10241 ∧ r'.2.2.2.2.2.2.1 = nI v ∧ M1.2.1 26 (lo + rt_k (u.2.2.1.modify q (tx_sin u.2.2.2.2.2.1)) x) = nI (fa + v)
            show (r'.2.2.2.2.2.2.1 = 0 ∧ M1.2.1 26 (lo + rt_k (u.2.2.1.modify q (tx_sin u.2.2.2.2.2.1)) x) = 0) ∨ _
            rw [m2]
            rw [tx_gm] at hx'
            by_cases zx : x = q
            · rw [if_pos zx, zx, a2] at hx'
              cases hx'
              refine Or.inr ⟨a, h5, by omega, h42, ?_⟩
              rw [zx, ← hM1]
              show upd (M.2.1 26) _ _ _ = _
              rw [pk_us, h6]
            · rw [if_neg zx] at hx'
              have hne : rt_k u.2.2.1 x ≠ rt_k u.2.2.1 q := by
                rcases Nat.lt_or_gt_of_ne zx with y | y
                · have := rt_inj hx' a2 hr' y
                  unfold rt_k; omega
                · have := rt_inj a2 hx' a4 y
                  unfold rt_k; omega
              have e26 : M1.2.1 26 (lo + rt_k u.2.2.1 x) = M.2.1 26 (lo + rt_k u.2.2.1 x) := by
                rw [← hM1]
                show upd (M.2.1 26) _ _ _ = _
                rw [pk_un (by omega)]
              rw [e26]
              exact h44 x r' hx' hr'
          · rw [f1.1 38 (by decide) (by decide) (by decide) (by decide) (by decide) (by decide)]; exact h6
          · rw [f1.m, ← hM1]; exact h7
          · rw [ex]; omega
          · exact ((h10.to (by rw [← hM1]; rfl) (by rw [← hM1]; rfl) (by rw [← hM1]; rfl) : rx_c i p M1)).le (by omega) (by omega) (by omega)
          · rw [← hM1]
            show M.1 8 + 1 = _
            rw [h11, nI_1]
          · rw [← hM1]; exact h13
        unfold tx_stg at hR
        obtain ⟨-, hR⟩ := tx_tka hR
        rw [es1] at hR
        have ewo : (s.mn s.2.1.length q (tx_sin u.2.2.2.2.2.1)).wo (some q) = r.2.2.1 := by
          show (tx_S.rc _ q).2.2.1 = _
          rw [tx_S.rc_of (u := tx_nq q (tx_sin u.2.2.2.2.2.1) u) (r := tx_sin u.2.2.2.2.2.1 r) hC1.1 (by
            show (u.2.2.1.modify q _)[q]? = _
            rw [tx_gm, if_pos rfl, a2]
            rfl)]
          rfl
        simp only [ewo] at hR
        refine hL1.kd (fun y hy => ?_)
        by_cases z91 : tx_ki T (i + 1) = 91
        · rw [if_pos ((rm_kq hy (c := 91) (a := 91) (by decide)).mpr z91)]
          rw [if_pos z91] at hR
          obtain ⟨f0, -, -, hR⟩ := tx_op_r hR
          obtain ⟨wp, ip, sp, hRp, hR⟩ := tx_and_r hR
          have e20 : M1.2.1 20 (lo + rt_k u.2.2.1 q) = r.2.2.1 := by
            rw [f1.2.1 20 (by decide) (by decide) (by decide) (by decide) (by decide)]
            exact hwd20
          unfold tx_str at hR
          obtain ⟨k15, hR⟩ := tx_tka hR
          refine hL1.prt z91 (by omega) e20 ⟨kw, w1, w2, w3⟩ hRp (fun hh ll M2 b1 b2 b3 b4 b5 hL2 f2 => ?_) (fun M2 b1 b2 hD2 f2 => ?_)
          · refine hL2.bg ?_
            rw [b3, b4] at hR
            have hL3 := hL2.i1 (by rw [k15]; decide) (by rw [k15]; decide)
            exact ry_L.sgt hN hf b1 b2 (hL3.le (p' := p + 3) (by omega)) hR (fun M3 q1 q2 => hK M3 q1 (by omega)) (fun M3 q1 q2 q3 => hD M3 q1 (q2.le (by omega) (Nat.le_refl _) (Nat.le_refl _) q2.2.1.pos) (by omega))
          · obtain ⟨_, _, hB1, _⟩ := hL1.x
            have hB2 := f2.y.B hB1
            have hip := (tx_gd.prt (e := (0, 0)) hends (f := f) (br := tx_ta T (i + 1)) (w := r.2.2.1) (s := s.mn s.2.1.length q (tx_sin u.2.2.2.2.2.1)) (hends (i + 1) hi1 (by rw [z91]; decide) (by rw [z91]; decide)) (fun y => absurd rfl y) _ _ _ hRp).2.1
            have hip1 := hends ip hip (by rw [k15]; decide) (by rw [k15]; decide)
            have hg : ((tx_exp T f (ip + 1) sp).and fun x i s => (tx_tk T 59 i (tx_spend wp (tx_ck (decide (wp = x)) 30 (nI (tx_ta T ip).2.1) s))).and fun _ i s => (.inr ((), i, s) : tx_R Unit)).gd T (ip + 1) sp.1 := ((tx_gd.exp hends hip1 (fun _ => rfl)).le (by omega)).and fun x j1 t1 q1 q2 q3 => (tx_gd.tk hends q2 (by omega) (tx_fx.sp (tx_fx.ck q3)) (by decide)).and fun _ j2 t2 q4 q5 q6 => tx_gd.r q4 q5 q6
            obtain ⟨g1, g2, g3⟩ := hg _ _ _ hR
            have es := g3 b1
            refine hD2.bg (by omega) (fun yy => ?_)
            have hD3 := hD2.mv (d := 1) (x := 1) rfl
            have f3 : ry_f M1 (rp_i M2 1) := f2.y.tr ((rx_o.t _ _).f (rx_f.rf _)).y
            have hk3 : rx_k 1 (rp_i M2 1) := f3.k ((f1.k h15.1).le (by omega))
            refine (hD3.le (b' := 20001) (I' := i') (p' := p + 3) (Nat.le_refl _) (by omega) (by omega) (by omega)).sgt (f3.B hB1) hk3 hN (by omega) (by omega) (fun M3 h3 => ?_)
            rw [← es] at h3
            exact hD M3 (by rw [es]; exact b1) (h3.le (by omega) (Nat.le_refl _) (Nat.le_refl _) (by omega)) (by omega)
        · rw [if_neg (fun y => z91 ((rm_kq hy (c := 91) (a := 91) (by decide)).mp y))]
          rw [if_neg z91] at hR
          unfold tx_str at hR
          obtain ⟨k15, hR⟩ := tx_tka hR
          refine hL1.bg ?_
          have hL3 := hL1.i1 (by rw [k15]; decide) (by rw [k15]; decide)
          have ep : 256 * (M.2.1 20 (lo + rt_k u.2.2.1 q) - 1) = nI (256 * (kw - 1) + 0) := by
            rw [hwd20, w1, show (1 : Int32) = nI 1 from rfl, pk_sub w2, show (256 : Int32) = nI 256 from rfl, pk_mul]
            rfl
          have ew : r.2.2.1 = nI (kw - 1 - 0 + 1) := by
            rw [w1]
            congr 1
            omega
          rw [ep]
          rw [ew] at hR
          exact ry_L.sgt hN hf (by omega) (by omega) (hL3.le (p' := p + 3) (by omega)) hR (fun M3 q1 q2 => hK M3 q1 (by omega)) (fun M3 q1 q2 q3 => hD M3 q1 (q2.le (by omega) (Nat.le_refl _) (Nat.le_refl _) q2.2.1.pos) (by omega))
      · -- set in another block
        rw [if_pos (ec.mpr zc)]
        have he32 : ∀ v, tx_ck (decide (r.2.2.2.2.2.2.1 = 0 ∨ r.2.2.2.2.2.2.1 = u.2.2.2.2.2.1)) 32 (nI (tx_ta T i).2.1) (v, s.2) = if v.1 = 0 then ((32, nI (tx_ta T i).2.1), s.2) else (v, s.2) := by
          intro v
          rw [decide_eq_false zc]
          unfold tx_ck
          by_cases y : v.1 = 0
          · rw [if_pos ⟨rfl, y⟩, if_pos y]
          · rw [if_neg (fun w => y w.2), if_neg y]
        have hee : tx_setr s (tx_ta T i) = tx_setr ((32, nI (tx_ta T i).2.1), s.2) (tx_ta T i) := by
          have q1 := hset s.1
          have q2 := hset (32, nI (tx_ta T i).2.1)
          rw [he32, if_pos h14] at q1
          rw [he32, if_neg (show ¬ (32 : Int32) = 0 by decide)] at q2
          exact q1.trans q2.symm
        obtain ⟨es, g1, g2⟩ := hfail 32 M (by decide) hee
        have hd := h0.fail (w := 32) (q := nI (tx_ta T i).2.1) (b := 15000) (by decide) (by omega)
        have ffail : ry_f M (rm_fail 32 (nI (tx_ta T i).2.1) M) := ((rx_o.fail _ _ M).f (rx_f.rf M)).y
        have e8f : (rm_fail 32 (nI (tx_ta T i).2.1) M).1 8 = nI i := by
          unfold rm_fail
          rw [if_pos h13]
          exact h11
        generalize hM1 : rp_i (rp_set (rm_fail 32 (nI (tx_ta T i).2.1) M) 26 (lo + rt_k u.2.2.1 q) (M.1 38 + 1)) 1 = M1
        have f1 : ry_f M M1 := by
          rw [← hM1]
          exact ffail.tr (ry_f.s26.tr ((rx_o.t _ _).f (rx_f.rf _)).y)
        have e8 : M1.1 8 = nI (i + 1) := by
          rw [← hM1]
          show (rm_fail 32 (nI (tx_ta T i).2.1) M).1 8 + 1 = _
          rw [e8f, nI_1]
        have hD1 : ry_D M0 M1 (32, nI (tx_ta T i).2.1) 15000 i' (p + 3) := by
          obtain ⟨d1, d2, d3, d4, d5, -⟩ := hd
          refine ⟨h1.tr f1, ((d2.to (by rw [← hM1]; rfl) (by rw [← hM1]; rfl) (by rw [← hM1]; rfl) : rx_c i p M1)).le (by omega) (by omega) (by omega), by rw [← hM1]; exact d3, by rw [← hM1]; exact d4, d5, i + 1, by omega, e8⟩
        obtain ⟨_, _, hB0, _⟩ := h0.x
        have hT1 := f1.tt h2
        have fin : ∀ (part sg : Int32) (M2 : rm_M) (b : Nat), 10241 ≤ b → b ≤ 20000 → ry_D M0 M2 (32, nI (tx_ta T i).2.1) b i' (p + 3) → ry_f M M2 → rp_sgt N (lo + rt_k u.2.2.1 q) part sg K (rp_i M2 1) := by
          intro part sg M2 b hb1 hb2 hD2 f2
          have f3 : ry_f M (rp_i M2 1) := f2.tr ((rx_o.t _ _).f (rx_f.rf _)).y
          refine (hD2.mv (d := 1) (x := 1) rfl).sgt (f3.B hB0) (f3.k (h15.1.le (by omega))) hN (by omega) (by omega) (fun M3 h3 => ?_)
          rw [← es] at h3
          exact hD M3 (by rw [es]; exact (by decide : (32 : Int32) ≠ 0)) (h3.le (by omega) (Nat.le_refl _) (Nat.le_refl _) (by omega)) (by omega)
        have hkl := (hT1.tk.2.1 (i + 1) hi1).1
        refine ⟨i + 1, e8, by omega, ?_⟩
        show (if M1.2.1 4 (i + 1) = 91 then _ else _)
        by_cases z91 : tx_ki T (i + 1) = 91
        · rw [if_pos ((rm_kq hkl (c := 91) (a := 91) (by decide)).mpr z91)]
          unfold tx_stg at hR
          obtain ⟨-, hR⟩ := tx_tka hR
          rw [if_pos z91] at hR
          obtain ⟨f0, -, -, hR⟩ := tx_op_r hR
          obtain ⟨wp, ip, sp, hRp, hR⟩ := tx_and_r hR
          refine hD1.prt hT1 e8 hi1 z91 (by omega) (by omega) (by omega) hRp (fun x M2 hD2 f2 => ?_)
          refine hD2.bg (by omega) (fun yy => ?_)
          exact fin _ _ M2 15000 (by omega) (by omega) hD2 (f1.tr f2)
        · rw [if_neg (fun y => z91 ((rm_kq hkl (c := 91) (a := 91) (by decide)).mp y))]
          refine hD1.bg (by omega) (fun yy => ?_)
          exact fin _ _ M1 15000 (by omega) (by omega) hD1 f1
    · rw [if_neg zr]
      have hno : ∀ v, tx_setr (v, s.2) (tx_ta T i) = (none, tx_ck false 22 (nI (tx_ta T i).2.1) (v, s.2)) := by
        intro v
        unfold tx_setr
        rw [hX]
        show (match s.da (some X) with | none => _ | some q => _) = _
        rw [a5]
        show (if (tx_S.rc (v, s.2) q).2.1 = 2 ∨ (tx_S.rc (v, s.2) q).2.1 = 4 then _ else _) = _
        rw [erc, if_neg zr]
      exact hf22 (hno s.1) hno
end RYU

/-! THE SECOND PASS: a link is written down. -/
def rj_w (M : rm_M) (lk p0 : Nat) (fm x : Int32) : rm_M := rp_int (rp_set (rp_set (rp_set M 32 lk (nI p0)) 33 lk fm) 34 lk x) 31 (nI (lk + 1))
theorem rp_int2 {M : rm_M} {j : Nat} {x y : Int32} (h : M.1 j = y) : rp_int (rp_int M j x) j y = M := by
  have : va_up (va_up M.1 j x) j y = M.1 := by
    funext k
    by_cases z : k = j
    · subst z
      rw [va_up_self, h]
    · rw [va_up_ne _ _ z, va_up_ne _ _ z]
  show (va_up (va_up M.1 j x) j y, M.2) = M
  rw [this]
section RJQ
variable {n N : Nat} {T : List tx_Tk} {s s1 : tx_S} {M0 M M' : rm_M} {u : tx_U} {lo li fa a fs b5 lk i i' p b I f c dp it m q lk0 loj ow pl : Nat} {e v : Int32 × Int32} {px : Option Nat}
theorem rz_U.l31' {lk' : Nat} {x : Int32} (h : rz_U T s (rp_int M 31 x) u lo li fa a fs b5 lk i dp) (h31 : M.1 31 = nI lk') (hle : lk' ≤ i) : rz_U T s M u lo li fa a fs b5 lk' i dp := by
  have := h.l31 hle
  rw [rp_int2 h31] at this
  exact this
/-- what is written down of a step -/
theorem rz_L.wr {s' : tx_S} (h : rz_L n T 0 M0 M s i p) (hs : s'.1 = s.1) (hii : i ≤ i') (hi1 : i' < T.length) (hz : rz_f M M') (hU : ∀ u lo li fa a fs b5 lk, rz_U T s M u lo li fa a fs b5 lk i 0 → ∃ u' lk', rz_U T s' M' u' lo li fa a fs b5 lk' i' 0 ∧ u'.2.2.2.2.2.2.2.2 = u.2.2.2.2.2.2.2.2) (h8 : M'.1 8 = nI i') (h9 : M'.1 9 = M.1 9) (hn : ∀ j, j = 12 ∨ j = 42 ∨ j = 44 ∨ j = 48 ∨ j = 50 → M'.1 j = M.1 j) (h2 : M'.2.2 = M.2.2) : rz_L n T 0 M0 M' s' i' p := by
  have hl := h.len
  obtain ⟨H1, H2, ⟨U, LO, LI, FA, A, FS, B5, LK, C, H3, H7, H8, H9⟩, H10, H11, H12, H13, H14, H15⟩ := h
  obtain ⟨u', lk', g1, g2⟩ := hU _ _ _ _ _ _ _ _ H3
  refine ⟨H1.tr hz, hz.tt H2, ⟨u', LO, LI, FA, A, FS, B5, lk', C, g1, ?_, ?_, g2.trans H9⟩, ?_, h8, hi1, h9.trans H13, by rw [hs]; exact H14, ?_⟩
  · have em : rx_m M' = rx_m M := by unfold rx_m; rw [hn 12 (by simp)]
    rw [em, h2]
    exact H7
  · have ex : rx_x M' = rx_x M := by unfold rx_x; rw [hn 42 (by simp)]
    rw [ex]
    omega
  · exact (H10.to (hn 42 (by simp)) (hn 44 (by simp)) (by rw [h2]) : rx_c i p M').le (by omega) (by omega) (by omega)
  · unfold rx_k rx_w rx_b at H15 ⊢
    rw [hn 48 (by simp), hn 50 (by simp)]
    exact H15
theorem rj_w_f (M : rm_M) (lk p0 : Nat) (fm x : Int32) : rz_f M (rj_w M lk p0 fm x) := by
  constructor
  · intro j hj
    exact va_up_ne _ _ (by omega)
  · intro j hj
    show va_up (va_up (va_up M.2.1 32 _) 33 _) 34 _ j = _
    rw [va_up_ne _ _ (by omega), va_up_ne _ _ (by omega), va_up_ne _ _ (by omega)]
theorem rp_drv_f (M : rm_M) (j : Nat) (x y z : Int32) : rz_f M (rp_drv M j x y z) := by
  constructor
  · intro k hk
    rfl
  · intro k hk
    show va_up (va_up (va_up M.2.1 23 _) 24 _) 25 _ k = _
    rw [va_up_ne _ _ (by omega), va_up_ne _ _ (by omega), va_up_ne _ _ (by omega)]
theorem rj_D.w {p0 : Nat} {fm x : Int32} (h : rj_D M0 it m loj M e b) : rj_D M0 it m loj (rj_w M lk p0 fm x) e b := ⟨h.1.to (rj_w_f _ _ _ _ _) rfl rfl rfl rfl, h.2.1, h.2.2.1, h.2.2.2⟩
theorem rj_D.dr {j : Nat} {x y z : Int32} (h : rj_D M0 it m loj M e b) : rj_D M0 it m loj (rp_drv M j x y z) e b := ⟨h.1.to (rp_drv_f _ _ _ _ _) rfl rfl rfl rfl, h.2.1, h.2.2.1, h.2.2.2⟩
/-- an input is linked -/
theorem rj_L.wA {x0 : Nat} {rx : tx_N} {v : tx_U} {fm x : Int32} (h : rj_L n T M0 it m q lk0 loj ow (some x0) M s i p) (hv : s.2.1[m]? = some v) (hx : v.2.2.1[x0]? = some rx) (hsx : rt_sg rx = true) (hF : rj_F T M m v loj) (h31 : M.1 31 = nI lk) (hlk : lk ≤ i) (hi1 : i + 1 < T.length) : rj_L n T M0 it m q lk0 loj ow none (rp_i (rj_w M lk (loj + rt_k v.2.2.1 x0) fm x) 1) s (i + 1) p := by
  have hl := h.1.len
  refine ⟨?_, h.2.1, h.2.2.1, h.2.2.2.1, h.2.2.2.2.add hv hx hsx hF.2.2.1 h31 (by omega) rfl rfl rfl⟩
  refine h.1.wr rfl (Nat.le_succ _) hi1 ?_ (fun u lo li fa a fs b5 lk' hU => ⟨u, lk + 1, ?_, rfl⟩) ?_ rfl (fun j hj => ?_) rfl
  · constructor
    · intro j hj
      show va_up (va_up (va_up M.1 31 _) 8 _) 27 _ j = va_up M.1 27 _ j
      rw [va_up_ne _ _ (by omega), va_up_ne _ _ (by omega), va_up_ne _ _ (by omega), va_up_ne _ _ (by omega)]
    · intro j hj
      exact (rj_w_f M lk (loj + rt_k v.2.2.1 x0) fm x).2 j hj
  · refine rz_U.l31' (x := nI lk') (hU.to (M' := rp_int (rj_v it (rp_i (rj_w M lk (loj + rt_k v.2.2.1 x0) fm x) 1)) 31 (nI lk')) (Nat.le_succ _) (fun j hj => ?_) (fun j hj => ?_) (fun j hj => rfl)) rfl (by omega)
    · show va_up (va_up (va_up (va_up M.1 31 _) 8 _) 27 _) 31 _ j = va_up M.1 27 _ j
      by_cases z : j = 31
      · subst z
        rw [va_up_self]
        exact hU.2.2.2.2.2.2.2.2.2.2.2.1.symm
      · rw [va_up_ne _ _ z]
        by_cases y : j = 27
        · subst y
          rw [va_up_self, va_up_self]
        · rw [va_up_ne _ _ y, va_up_ne _ _ (by omega), va_up_ne _ _ z, va_up_ne _ _ y]
    · show va_up (va_up (va_up M.2.1 32 _) 33 _) 34 _ j = _
      rw [va_up_ne _ _ (by omega), va_up_ne _ _ (by omega), va_up_ne _ _ (by omega)]
      rfl
  · show M.1 8 + 1 = _
    have : M.1 8 = nI i := h.1.2.2.2.2.1
    rw [this, nI_1]
  · rcases hj with rfl | rfl | rfl | rfl | rfl <;> rfl
/-- a local is driven by an instance's port -/
theorem rz_U.dr {q' lk' : Nat} {r : tx_N} (h : rz_U T s M u lo li fa a fs b5 lk i 0) (hi : i ≤ i') (hlk : lk' ≤ i') (hq : u.2.2.1[q']? = some r) (hsg : rt_sg r = true) (e23 : M.2.1 23 (lo + rt_k u.2.2.1 q') = 0) (hn : ∀ j, j = 12 ∨ j = 18 ∨ j = 27 ∨ j = 35 ∨ j = 38 → M'.1 j = M.1 j) (h31 : M'.1 31 = nI lk') (hr : ∀ j, j = 13 ∨ j = 14 ∨ j = 15 ∨ j = 16 ∨ j = 17 ∨ j = 19 ∨ j = 20 ∨ j = 21 ∨ j = 26 ∨ j = 28 ∨ j = 29 → M'.2.1 j = M.2.1 j) (r23 : ∀ k, k ≠ lo + rt_k u.2.2.1 q' → M'.2.1 23 k = M.2.1 23 k) (s23 : M'.2.1 23 (lo + rt_k u.2.2.1 q') = 2) (h22 : M'.2.2.1 = M.2.2.1) : rz_U T (s.mn s.2.1.length q' tx_drv) M' (tx_nq q' tx_drv u) lo li fa a fs b5 lk' i' 0 := by
  have hrs : ∀ (x : Nat) (r' : tx_N), u.2.2.1[x]? = some r' → rt_sg r' = true → x ≠ q' → rt_k u.2.2.1 x ≠ rt_k u.2.2.1 q' := by
    intro x r' hx hr' zx
    rcases Nat.lt_or_gt_of_ne zx with y | y
    · have := rt_inj hx hq hr' y
      unfold rt_k; omega
    · have := rt_inj hq hx hsg y
      unfold rt_k; omega
  have hU := h.mn (M' := rp_int M' 31 (M.1 31)) (i' := i') (dp' := 0) (q := q') (g := tx_drv) hi (fun _ => rfl) (fun _ => rfl) (fun _ => rfl) (fun j hj => by
    show va_up M'.1 31 (M.1 31) j = M.1 j
    by_cases z : j = 31
    · subst z
      rw [va_up_self]
    · rw [va_up_ne _ _ z]
      exact hn j (by omega)) (fun j hj => hr j (by omega)) (fun j hj x hx => by
    rcases hj with rfl | rfl | rfl
    · show M'.2.1 20 x = _
      rw [hr 20 (by simp)]
    · show M'.2.1 21 x = _
      rw [hr 21 (by simp)]
    · exact r23 x (by omega)) (fun x hx => by show M'.2.1 28 x = _; rw [hr 28 (by simp)]) (fun x hx => by show M'.2.2.1 22 x = _; rw [h22]) (by show M'.2.2.1 56 = _; rw [h22]) (fun x r' hx hr' hs => by
    by_cases zx : x = q'
    · rw [if_pos zx]
      rw [zx, hq] at hx
      cases hx
      rw [zx] at hs ⊢
      obtain ⟨t1, t2, t3, t4, t5, t6, t7⟩ := hs
      refine ⟨?_, ?_, t3, ?_, ?_, ?_, t7⟩
      · show ∃ y, M'.2.1 19 _ = nI y ∧ _
        rw [hr 19 (by simp)]; exact t1
      · show M'.2.1 20 _ = _
        rw [hr 20 (by simp)]; exact t2
      · show M'.2.1 21 _ = _
        rw [hr 21 (by simp)]; exact t4
      · show M'.2.2.1 22 _ = _
        rw [h22]; exact t5
      · show M'.2.1 23 _ = 0 ↔ _
        rw [s23]
        exact ⟨fun y => absurd y (by decide), fun y => by cases y⟩
    · rw [if_neg zx]
      have hne := hrs x r' hx hr' zx
      refine hs.to (fun j hj => ?_) (by show M'.2.2.1 22 _ = _; rw [h22])
      rcases hj with rfl | rfl | rfl | rfl
      · show M'.2.1 19 _ = _
        rw [hr 19 (by simp)]
      · show M'.2.1 20 _ = _
        rw [hr 20 (by simp)]
      · show M'.2.1 21 _ = _
        rw [hr 21 (by simp)]
      · exact r23 _ (by omega)) (fun x r' hx hr' hin => by
    have hin' : rt_ins T (rp_int M' 31 (M.1 31)) (li + rt_j u.2.2.1 x) r' := hin.to (fun j hj => by
      rcases hj with rfl | rfl
      · show M'.2.1 28 _ = _
        rw [hr 28 (by simp)]
      · show M'.2.1 29 _ = _
        rw [hr 29 (by simp)])
    split
    · exact hin'
    · exact hin') (by
    obtain ⟨⟨x, x1, x2⟩, x3, x4, x5⟩ := h.2.2.2.2.2.2.2.2.2.2.2.2.2.2.1
    obtain ⟨mm1, -, -⟩ := rt_mod (L := u.2.2.1) (q := q') (g := tx_drv) (fun _ => rfl)
    have mm4 : (u.2.2.1.modify q' tx_drv).countP (fun r => !rt_sg r) = u.2.2.1.countP (fun r => !rt_sg r) := by
      rw [rt_c5_kk, rt_c5_kk, rt_kk_mod (g := tx_drv) (fun _ => rfl)]
    refine ⟨⟨x, x1, ?_⟩, ?_, ?_, x5.kk (rt_kk_mod (g := tx_drv) (fun _ => rfl))⟩
    · show x + 0 % 2 = rt_cn (fun k => decide (M'.2.1 21 k < 3)) lo ((u.2.2.1.modify q' tx_drv).countP rt_sg)
      rw [mm1, hr 21 (by simp)]
      exact x2
    · show u.2.2.2.2.1 = nI (rt_cn (fun k => decide (M'.2.1 23 k = 1)) lo ((u.2.2.1.modify q' tx_drv).countP rt_sg))
      rw [mm1, x3]
      congr 1
      refine (rt_cn_eq (fun j _ _ => ?_)).symm
      show decide (M'.2.1 23 j = 1) = decide (M.2.1 23 j = 1)
      by_cases z : j = lo + rt_k u.2.2.1 q'
      · rw [z, s23, e23]
        rfl
      · rw [r23 j z]
    · show u.2.2.2.2.2.2.1 = nI ((u.2.2.1.modify q' tx_drv).countP (fun r => !rt_sg r))
      rw [mm4]; exact x4) s.1
  exact rz_U.l31' (x := M.1 31) hU h31 hlk
/-- an output is linked -/
theorem rj_L.wB {x0 q' : Nat} {rx r : tx_N} {v : tx_U} {fm x y z : Int32} (h : rj_L n T M0 it m q lk0 loj ow (some x0) M s i p) (hv : s.2.1[m]? = some v) (hx : v.2.2.1[x0]? = some rx) (hsx : rt_sg rx = true) (hF : rj_F T M m v loj) (h31 : M.1 31 = nI lk) (hlk : lk ≤ i) (hi1 : i + 1 < T.length) (hC : rt_C T s M u lo li) (hq : u.2.2.1[q']? = some r) (hsg : rt_sg r = true) (e23 : M.2.1 23 (lo + rt_k u.2.2.1 q') = 0) : rj_L n T M0 it m q lk0 loj ow none (rp_i (rp_drv (rj_w M lk (loj + rt_k v.2.2.1 x0) fm x) (lo + rt_k u.2.2.1 q') 2 y z) 1) (s.mn s.2.1.length q' tx_drv) (i + 1) p := by
  have hl := h.1.len
  have hK := h.2.2.2.2.add (M' := rp_i (rp_drv (rj_w M lk (loj + rt_k v.2.2.1 x0) fm x) (lo + rt_k u.2.2.1 q') 2 y z) 1) hv hx hsx hF.2.2.1 h31 (by omega) rfl rfl rfl
  refine ⟨?_, h.2.1, h.2.2.1, h.2.2.2.1, hK.mn (fun _ => ⟨rfl, rfl, rfl⟩)⟩
  refine h.1.wr rfl (Nat.le_succ _) hi1 ?_ (fun u' lo' li' fa a fs b5 lk' hU => ?_) ?_ rfl (fun j hj => ?_) rfl
  · constructor
    · intro j hj
      show va_up (va_up (va_up M.1 31 _) 8 _) 27 _ j = va_up M.1 27 _ j
      rw [va_up_ne _ _ (by omega), va_up_ne _ _ (by omega), va_up_ne _ _ (by omega), va_up_ne _ _ (by omega)]
    · intro j hj
      exact ((rj_w_f M lk (loj + rt_k v.2.2.1 x0) fm x).2 j hj ▸ (rp_drv_f (rj_w M lk (loj + rt_k v.2.2.1 x0) fm x) (lo + rt_k u.2.2.1 q') 2 y z).2 j hj)
  · have eu : u' = u := by
      have := hU.1.1
      rw [hC.1] at this
      cases this
      rfl
    subst eu
    have elo : lo' = lo := by
      have q1 : M.2.1 14 s.2.1.length = nI lo' := hU.1.2.2.2.1
      have q2 := hC.2.2.2.1
      have := hU.1.2.2.2.2.2.2.1
      have := hC.2.2.2.2.2.2.1
      exact (nI_eq (by omega) (by omega)).mp (q1.symm.trans q2)
    subst elo
    refine ⟨tx_nq q' tx_drv u', lk + 1, ?_, rfl⟩
    refine hU.dr (M' := rj_v it (rp_i (rp_drv (rj_w M lk (loj + rt_k v.2.2.1 x0) fm x) (lo' + rt_k u'.2.2.1 q') 2 y z) 1)) (Nat.le_succ _) (by omega) hq hsg e23 (fun j hj => ?_) rfl (fun j hj => ?_) (fun k hk => ?_) ?_ rfl
    · show va_up (va_up (va_up M.1 31 _) 8 _) 27 _ j = va_up M.1 27 _ j
      by_cases y : j = 27
      · subst y
        rw [va_up_self, va_up_self]
      · rw [va_up_ne _ _ y, va_up_ne _ _ (by omega), va_up_ne _ _ (by omega), va_up_ne _ _ y]
    · show va_up (va_up (va_up (va_up (va_up (va_up M.2.1 32 _) 33 _) 34 _) 23 _) 24 _) 25 _ j = _
      rw [va_up_ne _ _ (by omega), va_up_ne _ _ (by omega), va_up_ne _ _ (by omega), va_up_ne _ _ (by omega), va_up_ne _ _ (by omega), va_up_ne _ _ (by omega)]
      rfl
    · show upd (M.2.1 23) (lo' + rt_k u'.2.2.1 q') 2 k = _
      exact pk_un hk
    · show upd (M.2.1 23) (lo' + rt_k u'.2.2.1 q') 2 (lo' + rt_k u'.2.2.1 q') = _
      exact pk_us
  · show M.1 8 + 1 = _
    have : M.1 8 = nI i := h.1.2.2.2.2.1
    rw [this, nI_1]
  · rcases hj with rfl | rfl | rfl | rfl | rfl <;> rfl
theorem rj_L.i2 (h : rj_L n T M0 it m q lk0 loj ow px M s i p) (h1 : tx_ki T i ≠ 22) (h2 : tx_ki T i ≠ 23) (h3 : tx_ki T (i + 1) ≠ 22) (h4 : tx_ki T (i + 1) ≠ 23) : rj_L n T M0 it m q lk0 loj ow px (rp_i M 2) s (i + 2) (p + 24) := ⟨by rw [rj_v_i]; exact h.1.i2 h1 h2 h3 h4, h.2.1, h.2.2.1, h.2.2.2.1, h.2.2.2.2.to rfl rfl rfl⟩
end RJQ

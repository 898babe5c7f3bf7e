/-! THE SECOND PASS: what holds within an instance's brackets. -/
/-- the instance is counted already -/
def rj_v (it : Nat) (M : rm_M) : rm_M := rp_int M 27 (nI (it + 1))
/-- the links of the instance q, of the module m; px: a port that is linked but not yet written down -/
def rj_K (s : tx_S) (M : rm_M) (m q lk0 loj pl : Nat) (px : Option Nat) : Prop := ∃ (v : tx_U) (lk : Nat) (r0 : tx_N), s.2.1[m]? = some v ∧ M.1 31 = nI lk ∧ lk0 ≤ lk ∧ lk < 2000000 ∧ M.2.1 14 m = nI loj ∧ loj ≤ 11000 ∧ s.uu.2.2.1[q]? = some r0 ∧ r0.2.2.2.2.2.2.2.1 = some m ∧ r0.2.2.2.1 = pl ∧ r0.2.2.2.2.2.2.2.2.1 = nI (v.2.2.1.countP (rj_by s.2.1.length q)) ∧ (∀ (x : Nat) (r : tx_N), v.2.2.1[x]? = some r → rj_by s.2.1.length q r = true → r.2.1 < 3) ∧ ∀ (x : Nat) (r : tx_N), v.2.2.1[x]? = some r → rt_sg r = true → (rj_by s.2.1.length q r = true ↔ (px = some x ∨ ∃ k, lk0 ≤ k ∧ k < lk ∧ M.2.1 32 k = nI (loj + rt_k v.2.2.1 x)))
def rj_L (n : Nat) (T : List tx_Tk) (M0 : rm_M) (it m q lk0 loj ow : Nat) (px : Option Nat) (M : rm_M) (s : tx_S) (i p : Nat) : Prop := rz_L n T 0 M0 (rj_v it M) s i p ∧ M.1 27 = nI it ∧ it < 11000 ∧ M.2.1 30 it = nI lk0 ∧ rj_K s M m q lk0 loj (tx_ta T ow).2.1 px
def rj_D (M0 : rm_M) (it m loj : Nat) (M : rm_M) (e : Int32 × Int32) (b : Nat) : Prop := rz_D M0 M e b ∧ M.1 27 = nI it ∧ it < 11000 ∧ M.2.1 14 m = nI loj
theorem rj_v_t (it : Nat) (x : Int32) (M : rm_M) : rj_v it (rp_t M x) = rp_t (rj_v it M) x := by
  have : va_up (va_up M.1 8 x) 27 (nI (it + 1)) = va_up (va_up M.1 27 (nI (it + 1))) 8 x := by
    funext j
    by_cases z : j = 27
    · subst z
      rfl
    · rw [va_up_ne _ _ z]
      by_cases y : j = 8
      · subst y
        rfl
      · rw [va_up_ne _ _ y, va_up_ne _ _ y, va_up_ne _ _ z]
  show (va_up (va_up M.1 8 x) 27 (nI (it + 1)), M.2) = (va_up (va_up M.1 27 (nI (it + 1))) 8 x, M.2)
  rw [this]
theorem rj_v_i (it : Nat) (d : Int32) (M : rm_M) : rj_v it (rp_i M d) = rp_i (rj_v it M) d := rj_v_t it (M.1 8 + d) M
theorem rj_cm {P : tx_N → Bool} {g : tx_N → tx_N} : ∀ {L : List tx_N} {x : Nat} {r : tx_N}, L[x]? = some r → P r = false → P (g r) = true → (L.modify x g).countP P = L.countP P + 1
  | [], x, r, h, _, _ => by simp at h
  | a :: L, 0, r, h, h1, h2 => by
    cases h
    show (g a :: L).countP P = _
    rw [List.countP_cons_of_pos h2, List.countP_cons_of_neg (by rw [h1]; decide)]
  | a :: L, x + 1, r, h, h1, h2 => by
    show (a :: L.modify x g).countP P = _
    have := rj_cm (L := L) (x := x) (r := r) h h1 h2
    by_cases z : P a = true
    · rw [List.countP_cons_of_pos z, List.countP_cons_of_pos z, this]
    · rw [List.countP_cons_of_neg z, List.countP_cons_of_neg z, this]
section RJP
variable {n N : Nat} {T : List tx_Tk} {s s1 : tx_S} {M0 M M' : rm_M} {u : tx_U} {lo li fa a fs b5 lk i i' p b I f c dp it m q lk0 loj ow pl : Nat} {e v : Int32 × Int32} {px : Option Nat}
theorem rz_f.vv (h : rz_f M0 (rj_v it M)) : rz_f M0 M := ⟨fun j hj => by
  have h1 : va_up M.1 27 (nI (it + 1)) j = M0.1 j := h.1 j hj
  rw [va_up_ne _ _ (by omega)] at h1
  exact h1, h.2⟩
theorem rx_f.vv {M M1 : rm_M} (h : rx_f M M1) : rx_f (rj_v it M) (rj_v it M1) := by
  obtain ⟨⟨h1, h2⟩, h3, h4⟩ := h
  refine ⟨⟨fun j d1 d2 d3 d4 d5 d6 d7 d8 => ?_, h2⟩, h3, h4⟩
  show va_up M1.1 27 (nI (it + 1)) j = va_up M.1 27 (nI (it + 1)) j
  by_cases z : j = 27
  · subst z
    rw [va_up_self, va_up_self]
  · rw [va_up_ne _ _ z, va_up_ne _ _ z]
    exact h1 j d1 d2 d3 d4 d5 d6 d7 d8
theorem rj_x (h : rz_L n T 0 M0 (rj_v it M) s i p) : ∃ c, s.ex s.1 c = s ∧ rx_B n T s M ∧ rx_L T M M i c p ∧ rx_k 61 M ∧ rz_f M0 M ∧ M.1 12 = nI s.2.1.length ∧ s.2.1.length < 3600 := by
  obtain ⟨c, hc, hB, hL⟩ := h.x
  obtain ⟨m1, m2⟩ := h.m
  have hk := h.2.2.2.2.2.2.2.2
  have hf := h.1.vv
  exact ⟨c, hc, hB, ⟨rx_f.rf M, hL.2⟩, hk, hf, m1, m2⟩
theorem rj_of {M1 : rm_M} {c' p' : Nat} (h : rz_L n T 0 M0 (rj_v it M) s i p) (hv : v.1 = 0) (hi : i ≤ i') (h' : rx_L T M M1 i' c' p') : rz_L n T 0 M0 (rj_v it M1) (s.ex v c') i' p' := h.of hv hi ⟨h'.1.vv, h'.2⟩
theorem rj_K.to (h : rj_K s M m q lk0 loj pl px) (h31 : M'.1 31 = M.1 31) (h14 : M'.2.1 14 = M.2.1 14) (h32 : M'.2.1 32 = M.2.1 32) : rj_K s M' m q lk0 loj pl px := by
  unfold rj_K at h ⊢
  rw [h31, h14, h32]
  exact h
theorem rj_K.ss (h : rj_K s M m q lk0 loj pl px) (h1 : s1.2.1 = s.2.1) (hq : ∀ r0 : tx_N, s.uu.2.2.1[q]? = some r0 → ∃ r1 : tx_N, s1.uu.2.2.1[q]? = some r1 ∧ r1.2.2.2.2.2.2.2.1 = r0.2.2.2.2.2.2.2.1 ∧ r1.2.2.2.1 = r0.2.2.2.1 ∧ r1.2.2.2.2.2.2.2.2.1 = r0.2.2.2.2.2.2.2.2.1) : rj_K s1 M m q lk0 loj pl px := by
  obtain ⟨v, lk, r0, a1, a2, a3, a4, a5, a6, a7, a8, a9, a10, a11⟩ := h
  obtain ⟨r1, b1, b2, b3, b4⟩ := hq r0 a7
  unfold rj_K
  rw [h1]
  exact ⟨v, lk, r1, a1, a2, a3, a4, a5, a6, b1, b2.trans a8, b3.trans a9, b4.trans a10, a11⟩
theorem tx_ex_uu (s : tx_S) (v : Int32 × Int32) (c : Nat) : (s.ex v c).uu.2.2.1 = s.uu.2.2.1 := by
  unfold tx_S.uu tx_S.ex
  cases s.2.2.1 <;> rfl
theorem rj_K.ex (h : rj_K s M m q lk0 loj pl px) (v : Int32 × Int32) (c : Nat) : rj_K (s.ex v c) M m q lk0 loj pl px := h.ss rfl (fun r0 h0 => ⟨r0, by rw [tx_ex_uu]; exact h0, rfl, rfl, rfl⟩)
theorem rj_K.mn {x : Nat} {g : tx_N → tx_N} (hg : ∀ r, (g r).2.2.2.2.2.2.2.1 = r.2.2.2.2.2.2.2.1 ∧ (g r).2.2.2.1 = r.2.2.2.1 ∧ (g r).2.2.2.2.2.2.2.2.1 = r.2.2.2.2.2.2.2.2.1) (h : rj_K s M m q lk0 loj pl px) : rj_K (s.mn s.2.1.length x g) M m q lk0 loj pl px := by
  rw [tx_mn_cu]
  refine h.ss rfl (fun r0 h0 => ?_)
  unfold tx_S.uu at h0 ⊢
  cases hu : s.2.2.1 with
  | none =>
    rw [hu] at h0
    have h0' : ([] : List tx_N)[q]? = some r0 := h0
    simp at h0'
  | some u =>
    rw [hu] at h0
    have h0' : u.2.2.1[q]? = some r0 := h0
    show ∃ r1, (u.2.2.1.modify x g)[q]? = some r1 ∧ _
    rw [tx_gm, h0']
    by_cases z : q = x
    · rw [if_pos z]
      exact ⟨g r0, rfl, hg r0⟩
    · rw [if_neg z]
      exact ⟨r0, rfl, rfl, rfl, rfl⟩
/-- a port is linked -/
theorem rj_K.lp {x0 : Nat} {rx : tx_N} {v : tx_U} (h : rj_K s M m q lk0 loj pl none) (hu : s.2.2.1 = some u) (hv : s.2.1[m]? = some v) (hx : v.2.2.1[x0]? = some rx) (hk : rx.2.1 < 3) (hb : rj_by s.2.1.length q rx = false) : rj_K ((s.mn m x0 (tx_lb (some (s.2.1.length, q)))).mn s.2.1.length q tx_lc) M m q lk0 loj pl (some x0) := by
  have hm := tx_len hv
  have el : (s.2.1.modify m (tx_nq x0 (tx_lb (some (s.2.1.length, q))))).length = s.2.1.length := by rw [List.length_modify]
  have e1 : (s.mn m x0 (tx_lb (some (s.2.1.length, q)))).mn s.2.1.length q tx_lc = (s.1, s.2.1.modify m (tx_nq x0 (tx_lb (some (s.2.1.length, q)))), s.2.2.1.map (tx_nq q tx_lc), s.2.2.2) := by
    rw [tx_mn_lo hm]
    have := tx_mn_cu (s.1, s.2.1.modify m (tx_nq x0 (tx_lb (some (s.2.1.length, q)))), s.2.2.1, s.2.2.2) q tx_lc
    rw [el] at this
    exact this
  rw [e1]
  obtain ⟨v', lk, r0, a1, a2, a3, a4, a5, a6, a7, a8, a9, a10, a11, a12⟩ := h
  rw [hv] at a1
  cases a1
  rw [tx_uu_of hu] at a7
  have hsg : ∀ r : tx_N, rt_sg (tx_lb (some (s.2.1.length, q)) r) = rt_sg r := fun _ => rfl
  obtain ⟨m1, m2, m3⟩ := rt_mod (L := v.2.2.1) (q := x0) (g := tx_lb (some (s.2.1.length, q))) (fun _ => rfl)
  have gx : ∀ (x : Nat) (r : tx_N), (v.2.2.1.modify x0 (tx_lb (some (s.2.1.length, q))))[x]? = some r → ∃ r1, v.2.2.1[x]? = some r1 ∧ r = if x = x0 then tx_lb (some (s.2.1.length, q)) r1 else r1 := by
    intro x r hr
    rw [tx_gm] at hr
    by_cases z : x = x0
    · rw [if_pos z] at hr
      cases hh : v.2.2.1[x]? with
      | none => rw [hh] at hr; cases hr
      | some r1 =>
        rw [hh] at hr
        cases hr
        exact ⟨r1, rfl, by rw [if_pos z]⟩
    · rw [if_neg z] at hr
      exact ⟨r, hr, by rw [if_neg z]⟩
  have hby : rj_by s.2.1.length q (tx_lb (some (s.2.1.length, q)) rx) = true := decide_eq_true rfl
  refine ⟨tx_nq x0 (tx_lb (some (s.2.1.length, q))) v, lk, tx_lc r0, ?_, a2, a3, a4, a5, a6, ?_, a8, a9, ?_, fun x r hr hr2 => ?_, fun x r hr hr2 => ?_⟩
  · show (s.2.1.modify m _)[m]? = _
    rw [tx_gm, if_pos rfl, hv]
    rfl
  · rw [tx_uu_of (u := tx_nq q tx_lc u) (by show s.2.2.1.map _ = _; rw [hu]; rfl)]
    show (u.2.2.1.modify q tx_lc)[q]? = _
    rw [tx_gm, if_pos rfl, a7]
    rfl
  · show r0.2.2.2.2.2.2.2.2.1 + 1 = nI ((v.2.2.1.modify x0 (tx_lb (some (s.2.1.length, q)))).countP (rj_by (s.2.1.modify m _).length q))
    rw [el, rj_cm hx hb hby, a10, nI_1]
  · rw [show (s.1, s.2.1.modify m (tx_nq x0 (tx_lb (some (s.2.1.length, q)))), s.2.2.1.map (tx_nq q tx_lc), s.2.2.2).2.1.length = s.2.1.length from el] at hr2
    obtain ⟨r1, g1, g2⟩ := gx x r hr
    by_cases z : x = x0
    · rw [if_pos z] at g2
      rw [z, hx] at g1
      cases g1
      rw [g2]
      exact hk
    · rw [if_neg z] at g2
      rw [g2] at hr2 ⊢
      exact a11 x r1 g1 hr2
  · rw [show (s.1, s.2.1.modify m (tx_nq x0 (tx_lb (some (s.2.1.length, q)))), s.2.2.1.map (tx_nq q tx_lc), s.2.2.2).2.1.length = s.2.1.length from el]
    obtain ⟨r1, g1, g2⟩ := gx x r hr
    show _ ↔ (some x0 = some x ∨ ∃ k, lk0 ≤ k ∧ k < lk ∧ M.2.1 32 k = nI (loj + rt_k (v.2.2.1.modify x0 (tx_lb (some (s.2.1.length, q)))) x))
    rw [m2]
    by_cases z : x = x0
    · rw [if_pos z] at g2
      rw [z, hx] at g1
      cases g1
      rw [g2, z]
      exact ⟨fun _ => Or.inl rfl, fun _ => hby⟩
    · rw [if_neg z] at g2
      rw [g2] at hr2 ⊢
      rw [a12 x r1 g1 hr2]
      constructor
      · rintro (y | y)
        · cases y
        · exact Or.inr y
      · rintro (y | y)
        · cases y; exact absurd rfl z
        · exact Or.inr y
/-- the link is written down -/
theorem rj_K.add {x0 lk : Nat} {rx : tx_N} {v : tx_U} (h : rj_K s M m q lk0 loj pl (some x0)) (hv : s.2.1[m]? = some v) (hx : v.2.2.1[x0]? = some rx) (hsx : rt_sg rx = true) (hc : loj + v.2.2.1.countP rt_sg ≤ 11000) (h31 : M.1 31 = nI lk) (hlk : lk < 1000000) (h31' : M'.1 31 = nI (lk + 1)) (h14 : M'.2.1 14 = M.2.1 14) (h32 : M'.2.1 32 = upd (M.2.1 32) lk (nI (loj + rt_k v.2.2.1 x0))) : rj_K s M' m q lk0 loj pl none := by
  obtain ⟨v', lk', r0, a1, a2, a3, a4, a5, a6, a7, a8, a9, a10, a11, a12⟩ := h
  rw [hv] at a1
  cases a1
  have elk : lk' = lk := (nI_eq (by omega) (by omega)).mp (a2.symm.trans h31)
  subst elk
  refine ⟨v, lk' + 1, r0, hv, h31', by omega, by omega, by rw [h14]; exact a5, a6, a7, a8, a9, a10, a11, fun x r hr hr2 => ?_⟩
  rw [a12 x r hr hr2, h32]
  have hltx := rt_lt (P := rt_sg) hr hr2
  have hlt0 := rt_lt (P := rt_sg) hx hsx
  constructor
  · rintro (y | ⟨k, k1, k2, k3⟩)
    · cases y
      exact Or.inr ⟨lk', a3, by omega, pk_us⟩
    · exact Or.inr ⟨k, k1, by omega, by rw [pk_un (by omega)]; exact k3⟩
  · rintro (y | ⟨k, k1, k2, k3⟩)
    · cases y
    · by_cases z : k = lk'
      · rw [z, pk_us] at k3
        have e := (nI_eq (by unfold rt_k; omega) (by unfold rt_k; omega)).mp k3
        have e2 : rt_k v.2.2.1 x0 = rt_k v.2.2.1 x := by omega
        left
        rcases Nat.lt_trichotomy x0 x with y | y | y
        · have := rt_inj hx hr hsx y
          unfold rt_k at e2
          omega
        · rw [y]
        · have := rt_inj hr hx hr2 y
          unfold rt_k at e2
          omega
      · rw [pk_un z] at k3
        exact Or.inr ⟨k, k1, by omega, k3⟩
/-- where the module's locals begin -/
theorem rj_L.F (h : rj_L n T M0 it m q lk0 loj ow px M s i p) : ∃ v, s.2.1[m]? = some v ∧ rj_F T M m v loj := by
  have hl := h.1.len
  have hi := h.1.2.2.2.2.2.1
  obtain ⟨h1, -, -, -, v, lk, r0, a1, a2, a3, a4, a5, a6, -⟩ := h
  obtain ⟨-, -, ⟨U, LO, LI, FA, A, FS, B5, LK, C, H3, -⟩, -⟩ := h1
  have hF : rt_F T M LO LI m v := H3.2.2.2.2.2.2.2.2.2.2.2.2.2.2.2.2.2.1 m v a1
  obtain ⟨lo, g1, g2⟩ := hF.j (by have := H3.2.2.2.2.2.2.1; omega) (by have := H3.2.2.2.2.2.1; omega)
  have hle := g1.2.2.1
  have e : lo = loj := (nI_eq (by omega) (by omega)).mp (g1.1.symm.trans a5)
  subst e
  exact ⟨v, a1, g1⟩
theorem rj_L.lks (h : rj_L n T M0 it m q lk0 loj ow px M s i p) : ∃ lk, M.1 31 = nI lk ∧ lk0 ≤ lk ∧ lk ≤ i := by
  have hl := h.1.len
  have hi := h.1.2.2.2.2.2.1
  obtain ⟨h1, -, -, -, v, lk, r0, a1, a2, a3, a4, -⟩ := h
  obtain ⟨-, -, ⟨U, LO, LI, FA, A, FS, B5, LK, C, H3, -⟩, -⟩ := h1
  have h31 : M.1 31 = nI LK := H3.2.2.2.2.2.2.2.2.2.2.2.1
  have hle := H3.2.2.2.2.2.2.2.2.2.2.2.2.1
  have e : LK = lk := (nI_eq (by omega) (by omega)).mp (h31.symm.trans a2)
  subst e
  exact ⟨LK, h31, a3, hle⟩
theorem rj_L.le {p' : Nat} (h : rj_L n T M0 it m q lk0 loj ow px M s i p) (hp : p' ≤ p) : rj_L n T M0 it m q lk0 loj ow px M s i p' := ⟨h.1.le hp, h.2⟩
theorem rj_L.i1 (h : rj_L n T M0 it m q lk0 loj ow px M s i p) (h1 : tx_ki T i ≠ 22) (h2 : tx_ki T i ≠ 23) : rj_L n T M0 it m q lk0 loj ow px (rp_i M 1) s (i + 1) (p + 12) := ⟨by rw [rj_v_i]; exact h.1.i1 h1 h2, h.2.1, h.2.2.1, h.2.2.2.1, h.2.2.2.2.to rfl rfl rfl⟩
/-- behind a fault -/
theorem rj_D.le {b' : Nat} (h : rj_D M0 it m loj M e b) (hb : b ≤ b') : rj_D M0 it m loj M e b' := ⟨h.1.le hb, h.2⟩
theorem rj_D.mv {d : Nat} {x : Int32} (h : rj_D M0 it m loj M e b) (hx : x = nI d) : rj_D M0 it m loj (rp_i M x) e (b + d) := ⟨h.1.mv hx, h.2.1, h.2.2.1, h.2.2.2⟩
theorem rj_L.fail (h : rj_L n T M0 it m q lk0 loj ow px M s i p) {w x : Int32} (hw : w ≠ 0) (hb : i ≤ b) : rj_D M0 it m loj (rm_fail w x M) (w, x) b := by
  obtain ⟨c, hc, hB, hL, hk, hf, m1, m2⟩ := rj_x h.1
  obtain ⟨v, lk, r0, a1, a2, a3, a4, a5, -⟩ := h.2.2.2.2
  refine ⟨rx_D.z hf m2 m1 (hL.fail hw hb), ?_, h.2.2.1, ?_⟩
  · rw [(rx_o.fail w x M).1 27 (by decide) (by decide) (by decide) (by decide)]
    exact h.2.1
  · rw [(rx_o.fail w x M).2.1]
    exact a5
end RJP

/-! THE SECOND PASS: items. -/
/-- what a module's text must leave as it was -/
def rz_f (M0 M : rm_M) : Prop := (∀ j, j = 0 ∨ j = 2 ∨ j = 3 ∨ j = 7 ∨ j = 11 ∨ j = 51 ∨ j = 54 ∨ j = 55 → M.1 j = M0.1 j) ∧ ∀ j, j = 1 ∨ j = 4 ∨ j = 5 ∨ j = 6 ∨ j = 52 ∨ j = 53 → M.2.1 j = M0.2.1 j
theorem rz_f.rf (M : rm_M) : rz_f M M := ⟨fun _ _ => rfl, fun _ _ => rfl⟩
theorem rz_f.tr {M0 M M' : rm_M} (h : rz_f M0 M) (h' : rz_f M M') : rz_f M0 M' := ⟨fun j z => (h'.1 j z).trans (h.1 j z), fun j z => (h'.2 j z).trans (h.2 j z)⟩
theorem ry_f.z {M M' : rm_M} (h : ry_f M M') : rz_f M M' := ⟨fun j hj => h.1 j (by omega) (by omega) (by omega) (by omega) (by omega) (by omega), fun j hj => h.2.1 j (by omega) (by omega) (by omega) (by omega) (by omega)⟩
theorem rz_f.tt {n : Nat} {T : List tx_Tk} {M M' : rm_M} (hf : rz_f M M') (h : rm_T n T M) : rm_T n T M' := h.to (hf.1 2 (by simp)) (fun j hj => hf.2 j (by omega))
/-- by whom names were linked -/
def rt_lb (s : tx_S) : Prop := (∀ (j : Nat) (v : tx_U) (q : Nat) (r : tx_N) (x : Nat × Nat), s.2.1[j]? = some v → v.2.2.1[q]? = some r → r.2.2.2.2.2.2.2.2.2 = some x → x.1 < s.2.1.length ∨ (x.1 = s.2.1.length ∧ x.2 < s.uu.2.2.1.length)) ∧ ∀ (u : tx_U) (q : Nat) (r : tx_N), s.2.2.1 = some u → u.2.2.1[q]? = some r → r.2.2.2.2.2.2.2.2.2 = none
theorem rt_lb.mp {s s1 : tx_S} (h : rt_lb s) (h1 : s1.2.1 = s.2.1) {g : tx_U → tx_U} (h3 : s1.2.2.1 = s.2.2.1.map g) (hg1 : ∀ u, u.2.2.1.length ≤ (g u).2.2.1.length) (hg2 : ∀ (u : tx_U) (q : Nat) (r : tx_N), (g u).2.2.1[q]? = some r → r.2.2.2.2.2.2.2.2.2 = none ∨ ∃ (q' : Nat) (r' : tx_N), u.2.2.1[q']? = some r' ∧ r.2.2.2.2.2.2.2.2.2 = r'.2.2.2.2.2.2.2.2.2) : rt_lb s1 := by
  have hl : s.uu.2.2.1.length ≤ s1.uu.2.2.1.length := by
    unfold tx_S.uu
    rw [h3]
    cases s.2.2.1 with
    | none => exact Nat.le_refl _
    | some u => exact hg1 u
  refine ⟨fun j v q r x hv hr hx => ?_, fun u q r hu hr => ?_⟩
  · rw [h1] at hv ⊢
    rcases h.1 j v q r x hv hr hx with z | ⟨z1, z2⟩
    · exact Or.inl z
    · exact Or.inr ⟨z1, by omega⟩
  · rw [h3] at hu
    cases hs : s.2.2.1 with
    | none => rw [hs] at hu; cases hu
    | some u0 =>
      rw [hs] at hu
      cases hu
      rcases hg2 u0 q r hr with z | ⟨q', r', z1, z2⟩
      · exact z
      · rw [z2]
        exact h.2 u0 q' r' hs z1
theorem rt_lb_nq {u : tx_U} {q x : Nat} {g : tx_N → tx_N} (hg : ∀ r, (g r).2.2.2.2.2.2.2.2.2 = r.2.2.2.2.2.2.2.2.2) {r : tx_N} (h : (tx_nq x g u).2.2.1[q]? = some r) : r.2.2.2.2.2.2.2.2.2 = none ∨ ∃ (q' : Nat) (r' : tx_N), u.2.2.1[q']? = some r' ∧ r.2.2.2.2.2.2.2.2.2 = r'.2.2.2.2.2.2.2.2.2 := by
  have h' : (u.2.2.1.modify x g)[q]? = some r := h
  rw [tx_gm] at h'
  right
  by_cases z : q = x
  · rw [if_pos z] at h'
    cases hu : u.2.2.1[q]? with
    | none => rw [hu] at h'; cases h'
    | some r0 =>
      rw [hu] at h'
      cases h'
      exact ⟨q, r0, hu, hg r0⟩
  · rw [if_neg z] at h'
    exact ⟨q, r, h', rfl⟩
theorem rt_nq_len (u : tx_U) (x : Nat) (g : tx_N → tx_N) : u.2.2.1.length ≤ (tx_nq x g u).2.2.1.length := by
  show _ ≤ (u.2.2.1.modify x g).length
  rw [List.length_modify]
  exact Nat.le_refl _
/-- which text names which module; names lie in modules that there are -/
def rt_uf (s : tx_S) : Prop := (∀ (j : Nat) (v : tx_U), s.2.1[j]? = some v → ∃ X, v.1 = some X ∧ s.2.2.2.1 X = some j) ∧ (∀ X j, s.2.2.2.1 X = some j → ∃ v, s.2.1[j]? = some v ∧ v.1 = some X) ∧ (∀ X (x : Nat × Nat), s.2.2.2.2 X = some x → x.1 ≤ s.2.1.length) ∧ (∀ (u : tx_U) (X : List Int32), s.2.2.1 = some u → u.1 = some X → s.2.2.2.1 X = none) ∧ rt_lb s
/-- the module that is being read, with those before it -/
def rz_U (T : List tx_Tk) (s : tx_S) (M : rm_M) (u : tx_U) (lo li fa a fs b5 lk i dp : Nat) : Prop := rt_C T s M u lo li ∧ rt_A s M u lo fa a ∧ M.1 38 = nI (fa + a) ∧ 6 * (fa + a) ≤ i ∧ M.1 27 = nI (li + u.2.2.1.countP (fun r => !rt_sg r)) ∧ li + u.2.2.1.countP (fun r => !rt_sg r) ≤ i ∧ lo + u.2.2.1.countP rt_sg ≤ i ∧ M.2.1 16 s.2.1.length = nI fs ∧ M.1 35 = nI (fs + b5) ∧ u.2.2.2.2.2.2.2.1 = nI b5 ∧ 2 * (fs + b5) ≤ i ∧ M.1 31 = nI lk ∧ lk ≤ i ∧ rt_or M lo li i u.2.2.1 ∧ rt_ct M lo dp u ∧ rt_mn T M s.2.1.length u ∧ 3 * s.2.1.length + 3 ≤ i ∧ (∀ (j : Nat) (v : tx_U), s.2.1[j]? = some v → rt_F T M lo li j v) ∧ rt_uf s
def rz_L (n : Nat) (T : List tx_Tk) (dp : Nat) (M0 M : rm_M) (s : tx_S) (i p : Nat) : Prop := rz_f M0 M ∧ rm_T n T M ∧ (∃ u lo li fa a fs b5 lk c, rz_U T s M u lo li fa a fs b5 lk i dp ∧ M.2.2.1 45 (rx_m M) = lN c ∧ c ≤ 2000 * rx_x M + 64 * i ∧ u.2.2.2.2.2.2.2.2 = nI (min c 1501)) ∧ rx_c i p M ∧ M.1 8 = nI i ∧ i < T.length ∧ M.1 9 = 0 ∧ s.1.1 = 0 ∧ rx_k 61 M
def rz_D (M0 M : rm_M) (e : Int32 × Int32) (b : Nat) : Prop := rz_f M0 M ∧ M.1 9 = e.1 ∧ M.1 10 = e.2 ∧ e.1 ≠ 0 ∧ (∃ j, j ≤ b ∧ M.1 8 = nI j) ∧ ∃ mc, mc < 3600 ∧ M.1 12 = nI mc
section RZB
variable {n N : Nat} {T : List tx_Tk} {s s1 : tx_S} {M0 M M' : rm_M} {u : tx_U} {lo li fa a fs b5 lk i i' p b I f c dp : Nat} {e v : Int32 × Int32}
theorem rt_uf.mp (h : rt_uf s) (h1 : s1.2.1 = s.2.1) (h2 : s1.2.2.2 = s.2.2.2) {g : tx_U → tx_U} (h3 : s1.2.2.1 = s.2.2.1.map g) (hg : ∀ u, (g u).1 = u.1) (hl1 : ∀ u, u.2.2.1.length ≤ (g u).2.2.1.length := by exact fun _ => Nat.le_refl _) (hl2 : ∀ (u : tx_U) (q : Nat) (r : tx_N), (g u).2.2.1[q]? = some r → r.2.2.2.2.2.2.2.2.2 = none ∨ ∃ (q' : Nat) (r' : tx_N), u.2.2.1[q']? = some r' ∧ r.2.2.2.2.2.2.2.2.2 = r'.2.2.2.2.2.2.2.2.2 := by exact fun _ q r h => Or.inr ⟨q, r, h, rfl⟩) : rt_uf s1 := by
  have hlb := h.2.2.2.2.mp h1 h3 hl1 hl2
  obtain ⟨a1, a2, a3, a4, -⟩ := h
  unfold rt_uf
  rw [h1, h2]
  refine ⟨a1, a2, a3, fun u' X hu hX => ?_, hlb⟩
  rw [h3] at hu
  cases hs : s.2.2.1 with
  | none => rw [hs] at hu; cases hu
  | some u =>
    rw [hs] at hu
    cases hu
    rw [hg] at hX
    exact a4 u X hs hX
theorem rt_uf.ex (h : rt_uf s) (v : Int32 × Int32) (c : Nat) : rt_uf (s.ex v c) := h.mp rfl rfl (g := tx_cs c) rfl (fun _ => rfl)
theorem rt_pre.of {mc LO LI : Nat} (hr : ∀ j, j = 13 ∨ j = 14 ∨ j = 15 ∨ j = 16 ∨ j = 17 ∨ j = 19 ∨ j = 20 ∨ j = 21 ∨ j = 23 ∨ j = 28 ∨ j = 29 → M'.2.1 j = M.2.1 j) (hl : ∀ j, j = 22 ∨ j = 56 → M'.2.2.1 j = M.2.2.1 j) : rt_pre mc LO LI M M' := ⟨fun j _ => by rw [hr 13 (by simp)], fun r h j _ => by rw [hr r (by omega)], fun r h j _ => by rw [hr r (by omega)], fun r h j _ => by rw [hr r (by omega)], fun j _ => by rw [hl 22 (by simp)], fun j _ => by rw [hl 56 (by simp)]⟩
theorem tx_len {α : Type} {l : List α} {j : Nat} {v : α} (h : l[j]? = some v) : j < l.length := by
  rcases Nat.lt_or_ge j l.length with z | z
  · exact z
  · rw [List.getElem?_eq_none z] at h; cases h
/-- the tables stay, the next token goes forward -/
theorem rz_U.to (h : rz_U T s M u lo li fa a fs b5 lk i dp) (hi : i ≤ i') (hn : ∀ j, j = 12 ∨ j = 18 ∨ j = 27 ∨ j = 31 ∨ j = 35 ∨ j = 38 → M'.1 j = M.1 j) (hr : ∀ j, j = 13 ∨ j = 14 ∨ j = 15 ∨ j = 16 ∨ j = 17 ∨ j = 19 ∨ j = 20 ∨ j = 21 ∨ j = 23 ∨ j = 26 ∨ j = 28 ∨ j = 29 → M'.2.1 j = M.2.1 j) (hl : ∀ j, j = 22 ∨ j = 56 → M'.2.2.1 j = M.2.2.1 j) : rz_U T s M' u lo li fa a fs b5 lk i' dp := by
  obtain ⟨h1, h2, h3, h4, h5, h6, h7, h8, h9, h10, h11, h12, h13, h14, h15, h16, h17, h18, h19⟩ := h
  have hC := h1.to (M' := M') (hn 12 (by simp)) (hn 18 (by simp)) (fun j hj => hr j (by omega)) (hl 22 (by simp))
  refine ⟨hC, h2.to (hr 17 (by simp)) (hr 26 (by simp)), by rw [hn 38 (by simp)]; exact h3, by omega, by rw [hn 27 (by simp)]; exact h5, by omega, by omega, by rw [hr 16 (by simp)]; exact h8, by rw [hn 35 (by simp)]; exact h9, h10, by omega, by rw [hn 31 (by simp)]; exact h12, by omega, (h14.to (Nat.le_refl _) (Nat.le_refl _) (fun k _ => by rw [hr 19 (by simp)]) (fun k _ => by rw [hr 29 (by simp)])).le hi, h15.to (Nat.le_refl _) (fun x hx k _ => by rw [hr x (by omega)]), ?_, by omega, fun j v hv => (h18 j v hv).to (tx_len hv) (rt_pre.of (fun j hj => hr j (by omega)) hl) (Nat.le_refl _) (Nat.le_refl _), h19⟩
  obtain ⟨y, y1, y2⟩ := h16
  exact ⟨y, by rw [hr 13 (by simp)]; exact y1, y2⟩
theorem rz_U.xf (h : rz_U T s M u lo li fa a fs b5 lk i dp) (hi : i ≤ i') (hf : rx_f M M') : rz_U T s M' u lo li fa a fs b5 lk i' dp := by
  have hy := hf.y
  exact h.to hi (fun j hj => hy.1 j (by omega) (by omega) (by omega) (by omega) (by omega) (by omega)) (fun j hj => hf.1.2.1 j (by omega) (by omega) (by omega) (by omega)) (fun j hj => hy.2.2.1 j (by omega) (by omega))
theorem rz_U.ex (h : rz_U T s M u lo li fa a fs b5 lk i dp) (v : Int32 × Int32) (c : Nat) : rz_U T (s.ex v c) M (tx_cs c u) lo li fa a fs b5 lk i dp := by
  obtain ⟨h1, h2, h3, h4, h5, h6, h7, h8, h9, h10, h11, h12, h13, h14, h15, h16, h17, h18, h19⟩ := h
  exact ⟨h1.ex v c, h2, h3, h4, h5, h6, h7, h8, h9, h10, h11, h12, h13, h14, h15, h16, h17, h18, h19.ex v c⟩
theorem rz_L.len (h : rz_L n T dp M0 M s i p) : T.length ≤ 10241 ∧ n ≤ 10240 := by
  have := h.2.1.len
  have := h.2.1.2.1
  exact ⟨by omega, by omega⟩
theorem rz_L.ends (h : rz_L n T dp M0 M s i p) : tx_ends T := fun i hi h1 h2 => h.2.1.end hi h1 h2
theorem rz_L.le {p' : Nat} (h : rz_L n T dp M0 M s i p) (hp : p' ≤ p) : rz_L n T dp M0 M s i p' := by
  obtain ⟨h1, h2, h3, h4, h5⟩ := h
  exact ⟨h1, h2, h3, h4.le (by omega) (Nat.le_refl _) h4.2.2.2.2.2.2, h5⟩
theorem rz_L.x (h : rz_L n T dp M0 M s i p) : ∃ c, s.ex s.1 c = s ∧ rx_B n T s M ∧ rx_L T M M i c p := by
  obtain ⟨h1, h2, ⟨u, lo, li, fa, a, fs, b5, lk, c, h3, h7, h8, h9⟩, h10, h11, h12, h13, h14, h15⟩ := h
  exact ⟨c, tx_ex_id h3.1.1 h9, h3.1.B h2, rx_f.rf M, h10, h11, h12, h13, h7, h8⟩
theorem rz_L.of {p' c' : Nat} {v : Int32 × Int32} (h : rz_L n T dp M0 M s i p) (hv : v.1 = 0) (hi : i ≤ i') (h' : rx_L T M M' i' c' p') : rz_L n T dp M0 M' (s.ex v c') i' p' := by
  obtain ⟨h1, h2, ⟨u, lo, li, fa, a, fs, b5, lk, c, h3, h7, h8, h9⟩, h10, h11, h12, h13, h14, h15⟩ := h
  obtain ⟨b1, b2, b3, b4, b5', b6, b7⟩ := h'
  have f := b1.y
  exact ⟨h1.tr f.z, f.tt h2, ⟨tx_cs c' u, lo, li, fa, a, fs, b5, lk, c', (h3.xf hi b1).ex v c', b6, b7, rfl⟩, b2, b3, b4, b5', hv, f.k h15⟩
theorem rz_L.st {j p' : Nat} (h : rz_L n T dp M0 M s i p) (hi : i ≤ j) (hx : ∀ c, rx_L T M M i c p → rx_L T M M' j c p') : rz_L n T dp M0 M' s j p' := by
  obtain ⟨c, hc, hB, hL⟩ := h.x
  have := h.of h.2.2.2.2.2.2.2.1 hi (hx c hL)
  rw [hc] at this
  exact this
theorem rz_L.i1 (h : rz_L n T dp M0 M s i p) (h1 : tx_ki T i ≠ 22) (h2 : tx_ki T i ≠ 23) : rz_L n T dp M0 (rp_i M 1) s (i + 1) (p + 12) := by
  obtain ⟨c, hc, hB, hL⟩ := h.x
  exact h.st (by omega) (fun c hL => hL.i1 hB h1 h2)
theorem rz_L.i2 (h : rz_L n T dp M0 M s i p) (h1 : tx_ki T i ≠ 22) (h2 : tx_ki T i ≠ 23) (h3 : tx_ki T (i + 1) ≠ 22) (h4 : tx_ki T (i + 1) ≠ 23) : rz_L n T dp M0 (rp_i M 2) s (i + 2) (p + 24) := by
  obtain ⟨c, hc, hB, hL⟩ := h.x
  exact h.st (by omega) (fun c hL => hL.i2 hB h1 h2 h3 h4)
/-- several tokens are passed -/
theorem rz_L.mv {d : Nat} (h : rz_L n T dp M0 M s i p) {x : Int32} (hx : x = nI d) (hd : i + d < T.length) : rz_L n T dp M0 (rp_i M x) s (i + d) (p + 12 * d) := by
  have hl := h.len
  refine h.st (by omega) (fun c hL => ?_)
  have := hL.t (j := i + d) (x := M.1 8 + x) (by rw [hL.2.2.1, hx, nI_add]) hd (by omega) hl.1
  exact this.le (by omega)
theorem rz_L.is {kd a : Int32} {K : Bool → Prop} (h : rz_L n T dp M0 M s i p) (hq : ∀ p ∈ rm_kl, p.2 = kd ↔ p.1 = a) (hK : K (decide (tx_ki T i = a))) : rp_is M kd K := by
  obtain ⟨c, hc, hB, hL⟩ := h.x
  exact hL.is hB hq hK
theorem rz_L.kd {K : Int32 → Prop} (h : rz_L n T dp M0 M s i p) (hK : ∀ y, (tx_ki T i, y) ∈ rm_kl → K y) : rp_kd M K := by
  obtain ⟨c, hc, hB, hL⟩ := h.x
  exact hL.kd hB hK
theorem rz_L.bg {K : Int32 → Prop} (h : rz_L n T dp M0 M s i p) (hK : K (nI (tx_ta T i).2.1)) : rp_bg M K := by
  obtain ⟨c, hc, hB, hL⟩ := h.x
  exact hL.bg hB hK
theorem rz_L.m (h : rz_L n T dp M0 M s i p) : M.1 12 = nI s.2.1.length ∧ s.2.1.length < 3600 := by
  obtain ⟨h1, h2, ⟨u, lo, li, fa, a, fs, b5, lk, c, h3, h7, h8, h9⟩, -⟩ := h
  exact ⟨h3.1.2.1, h3.1.2.2.1⟩
theorem rz_L.num {x : Int32} {j : Nat} {K : Int64 → rm_M → Prop} (h : rz_L n T dp M0 M s i p) (hx : x = nI j) (hj : j < T.length) (hk : tx_ki T j = 20 ∨ tx_ki T j = 21) (hK : ∀ M', rz_L n T dp M0 M' s i p → rm_57 M M' → K (tx_ta T j).2.2.2.2.2 M') : rp_num x M K := by
  obtain ⟨c, hc, hB, hL⟩ := h.x
  refine hL.num hB hx hj hk (fun M' h' q => hK M' ?_ q)
  have := h.of h.2.2.2.2.2.2.2.1 (Nat.le_refl _) h'
  rw [hc] at this
  exact this
/-- a fault -/
theorem rz_L.fail (h : rz_L n T dp M0 M s i p) {w q : Int32} (hw : w ≠ 0) (hb : i ≤ b) : rz_D M0 (rm_fail w q M) (w, q) b := by
  obtain ⟨m1, m2⟩ := h.m
  obtain ⟨c, hc, hB, hL⟩ := h.x
  have hd := hL.fail (w := w) (q := q) hw hb
  refine ⟨h.1.tr ((rx_o.fail w q M).f (rx_f.rf M)).y.z, hd.2.2.1, hd.2.2.2.1, hw, hd.2.2.2.2.2, s.2.1.length, m2, ?_⟩
  rw [(rx_o.fail w q M).1 12 (by decide) (by decide) (by decide) (by decide)]
  exact m1
theorem rz_D.mv {d : Nat} {x : Int32} (h : rz_D M0 M e b) (hx : x = nI d) : rz_D M0 (rp_i M x) e (b + d) := by
  obtain ⟨h1, h2, h3, h4, ⟨j, h5, h6⟩, mc, h7, h8⟩ := h
  refine ⟨h1.tr ((rx_o.t M (M.1 8 + x)).f (rx_f.rf M)).y.z, h2, h3, h4, ⟨j + d, by omega, ?_⟩, mc, h7, h8⟩
  show M.1 8 + x = _
  rw [h6, hx, nI_add]
theorem rz_D.le {b' : Nat} (h : rz_D M0 M e b) (hb : b ≤ b') : rz_D M0 M e b' := by
  obtain ⟨h1, h2, h3, h4, ⟨j, h5, h6⟩, h7⟩ := h
  exact ⟨h1, h2, h3, h4, ⟨j, by omega, h6⟩, h7⟩
theorem rz_D.is {kd : Int32} {K : Bool → Prop} (h : rz_D M0 M e b) (hb : b < 65540) (hK : K false) : rp_is M kd K := by
  obtain ⟨h1, h2, h3, h4, ⟨j, h5, h6⟩, mc, h7, h8⟩ := h
  refine ⟨j, h6, by omega, ?_⟩
  have : rm_c9 M j kd = false := by
    unfold rm_c9
    rw [h2]
    simp [h4]
  rw [this]
  exact hK
theorem rz_D.kd {K : Int32 → Prop} (h : rz_D M0 M e b) (hb : b < 65540) (hK : ∀ y, K y) : rp_kd M K := by
  obtain ⟨h1, h2, h3, h4, ⟨j, h5, h6⟩, h7⟩ := h
  exact ⟨j, h6, by omega, hK _⟩
theorem rz_D.bg {K : Int32 → Prop} (h : rz_D M0 M e b) (hb : b < 65540) (hK : ∀ y, K y) : rp_bg M K := by
  obtain ⟨h1, h2, h3, h4, ⟨j, h5, h6⟩, h7⟩ := h
  exact ⟨j, h6, by omega, hK _⟩
theorem rz_D.n9 (h : rz_D M0 M e b) : ¬ M.1 9 = 0 := by
  rw [h.2.1]
  exact h.2.2.2.1
/-- what else a step may change behind a fault -/
theorem rz_D.to (h : rz_D M0 M e b) (hf : rz_f M M') (h8 : M'.1 8 = M.1 8) (h9 : M'.1 9 = M.1 9) (h10 : M'.1 10 = M.1 10) (h12 : M'.1 12 = M.1 12) : rz_D M0 M' e b := by
  obtain ⟨a1, a2, a3, a4, ⟨j, a5, a6⟩, mc, a7, a8⟩ := h
  exact ⟨a1.tr hf, h9.trans a2, h10.trans a3, a4, ⟨j, a5, h8.trans a6⟩, mc, a7, h12.trans a8⟩
theorem rx_D.z {I : Nat} (hf : rz_f M0 M) {mc : Nat} (hmc : mc < 3600) (h12 : M.1 12 = nI mc) (h : rx_D M M' e b I p) : rz_D M0 M' e b := ⟨hf.tr h.1.y.z, h.2.2.1, h.2.2.2.1, h.2.2.2.2.1, h.2.2.2.2.2, mc, hmc, by rw [h.1.y.1 12 (by decide) (by decide) (by decide) (by decide) (by decide) (by decide)]; exact h12⟩
theorem rz_exp {K : Int32 → rm_M → Prop} {w : Int32} {s' : tx_S} (hN : 65540 ≤ N) (hf : f ≤ 60) (hB : rx_B n T s M) (hk : rx_k 61 M) (hL : rx_L T M M i c p) (hv : s.1.1 = 0) (hc : s.ex s.1 c = s) (hR : tx_exp T f i s = .inr (w, i', s'))
    (hK : ∀ c' M', s' = s.ex s.1 c' → rx_L T M M' i' c' p → rx_wd w → i < i' → K w M') (hD : ∀ w' M', s'.1.1 ≠ 0 → rx_D M M' s'.1 (20000 + 30 * f) i' p → i < i' → K w' M') : rp_exp N K M := by
  have hl := hB.len
  have hn := hB.1.2.1
  rw [← hc] at hR
  exact rx_SE_exf hB.ends (by omega) (by omega) (by omega) 61 f (by omega) hf M M i c p s.1 w i' s' K hB (hk.le (by omega)) hL hv hR (fun c' M' e1 e2 h3 h4 => hK c' M' e1 h3 h4 e2) (fun w' M' e1 e2 h3 => hD w' M' e1 h3 e2)
end RZB

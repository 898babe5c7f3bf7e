/-! THE SECOND PASS: within a statement. -/
/-- what a statement leaves as it was -/
def ry_f (M0 M : rm_M) : Prop := (∀ j, j ≠ 8 → j ≠ 9 → j ≠ 10 → j ≠ 42 → j ≠ 44 → j ≠ 57 → M.1 j = M0.1 j) ∧ (∀ j, j ≠ 26 → j ≠ 41 → j ≠ 46 → j ≠ 47 → j ≠ 49 → M.2.1 j = M0.2.1 j) ∧ (∀ j, j ≠ 43 → j ≠ 45 → M.2.2.1 j = M0.2.2.1 j) ∧ rx_x M0 ≤ rx_x M ∧ ∀ j, j < rx_x M0 → M.2.1 41 j = M0.2.1 41 j
theorem ry_f.rf (M : rm_M) : ry_f M M := ⟨fun _ _ _ _ _ _ _ => rfl, fun _ _ _ _ _ _ => rfl, fun _ _ _ => rfl, Nat.le_refl _, fun _ _ => rfl⟩
theorem ry_f.tr {M0 M M' : rm_M} (h : ry_f M0 M) (h' : ry_f M M') : ry_f M0 M' := by
  obtain ⟨a1, a2, a3, a4, a5⟩ := h
  obtain ⟨b1, b2, b3, b4, b5⟩ := h'
  exact ⟨fun j c1 c2 c3 c4 c5 c6 => (b1 j c1 c2 c3 c4 c5 c6).trans (a1 j c1 c2 c3 c4 c5 c6), fun j c1 c2 c3 c4 c5 => (b2 j c1 c2 c3 c4 c5).trans (a2 j c1 c2 c3 c4 c5), fun j c1 c2 => (b3 j c1 c2).trans (a3 j c1 c2), by omega, fun j hj => (b5 j (by omega)).trans (a5 j hj)⟩
theorem rx_f.y {M0 M : rm_M} (h : rx_f M0 M) : ry_f M0 M := by
  obtain ⟨⟨a1, a2, a3, -, -, a8, a9⟩, b1, b2⟩ := h
  refine ⟨fun j c1 c2 c3 c4 c5 c6 => ?_, fun j _ c1 c2 c3 c4 => a2 j c1 c2 c3 c4, a3, a8, a9⟩
  by_cases z : j = 48
  · rw [z]; exact b1
  · by_cases y : j = 50
    · rw [y]; exact b2
    · exact a1 j c1 c2 c3 c4 c5 z y c6
/-- where registers were set, and the block that is being read -/
def rt_A (s : tx_S) (M : rm_M) (u : tx_U) (lo fa a : Nat) : Prop := M.2.1 17 s.2.1.length = nI fa ∧ u.2.2.2.2.2.1 = nI a ∧ fa + a ≤ 10241 ∧ ∀ (q : Nat) (r : tx_N), u.2.2.1[q]? = some r → rt_sg r = true → (r.2.2.2.2.2.2.1 = 0 ∧ M.2.1 26 (lo + rt_k u.2.2.1 q) = 0) ∨ ∃ v, 1 ≤ v ∧ v ≤ 10241 ∧ r.2.2.2.2.2.2.1 = nI v ∧ M.2.1 26 (lo + rt_k u.2.2.1 q) = nI (fa + v)
/-- a property of what is known that statements keep -/
def tz_cl (Z : tx_S → Prop) : Prop := (∀ s v c, Z s → Z (tx_S.ex s v c)) ∧ ∀ (s : tx_S) q v, Z s → Z (s.mn s.2.1.length q (tx_sin v))
/-- while all is well -/
def ry_L (n : Nat) (T : List tx_Tk) (Z : tx_S → Prop) (M0 M : rm_M) (s : tx_S) (i p : Nat) : Prop := ry_f M0 M ∧ rm_T n T M ∧ (∃ u lo li fa a, rt_C T s M u lo li ∧ rt_A s M u lo fa a ∧ 1 ≤ a ∧ M.1 38 + 1 = nI (fa + a) ∧ ∃ c, M.2.2.1 45 (rx_m M) = lN c ∧ c ≤ 2000 * rx_x M + 64 * i ∧ u.2.2.2.2.2.2.2.2 = nI (min c 1501)) ∧ rx_c i p M ∧ M.1 8 = nI i ∧ i < T.length ∧ M.1 9 = 0 ∧ s.1.1 = 0 ∧ rx_k 61 M ∧ Z s ∧ tz_cl Z
def ry_D (M0 M : rm_M) (e : Int32 × Int32) (b I p : Nat) : Prop := ry_f M0 M ∧ rx_c I p M ∧ M.1 9 = e.1 ∧ M.1 10 = e.2 ∧ e.1 ≠ 0 ∧ ∃ j, j ≤ b ∧ M.1 8 = nI j
theorem rx_D.y {M0 M M' : rm_M} {e : Int32 × Int32} {b I p : Nat} (hf : ry_f M0 M) (h : rx_D M M' e b I p) : ry_D M0 M' e b I p := ⟨hf.tr h.1.y, h.2⟩
theorem tx_cs_id {u : tx_U} {c : Nat} (h : u.2.2.2.2.2.2.2.2 = nI (min c 1501)) : tx_cs c u = u := by
  unfold tx_cs
  rw [← h]
theorem tx_ex_id {s : tx_S} {u : tx_U} {c : Nat} (hu : s.2.2.1 = some u) (h : u.2.2.2.2.2.2.2.2 = nI (min c 1501)) : s.ex s.1 c = s := by
  unfold tx_S.ex
  rw [hu]
  show (s.1, s.2.1, some (tx_cs c u), s.2.2.2) = s
  rw [tx_cs_id h, ← hu]
section RYL
variable {n N : Nat} {T : List tx_Tk} {Z : tx_S → Prop} {s : tx_S} {M0 M M' : rm_M} {u : tx_U} {lo li fa a i p b I f : Nat} {e v : Int32 × Int32}
theorem rt_C.ex (h : rt_C T s M u lo li) (v : Int32 × Int32) (c : Nat) : rt_C T (s.ex v c) M (tx_cs c u) lo li := by
  obtain ⟨h1, h2⟩ := h
  refine ⟨?_, h2⟩
  unfold tx_S.ex
  rw [h1]
  rfl
theorem rt_C.to (h : rt_C T s M u lo li) (h12 : M'.1 12 = M.1 12) (h18 : M'.1 18 = M.1 18) (hr : ∀ j, j = 14 ∨ j = 15 ∨ j = 19 ∨ j = 20 ∨ j = 21 ∨ j = 23 ∨ j = 28 ∨ j = 29 → M'.2.1 j = M.2.1 j) (hl : M'.2.2.1 22 = M.2.2.1 22) : rt_C T s M' u lo li := by
  unfold rt_C rt_L rt_sig rt_ins at h ⊢
  rw [h12, h18, hr 14 (by simp), hr 15 (by simp), hr 19 (by simp), hr 20 (by simp), hr 21 (by simp), hr 23 (by simp), hr 28 (by simp), hr 29 (by simp), hl]
  exact h
theorem rt_C.fr (h : rt_C T s M u lo li) (hf : ry_f M M') : rt_C T s M' u lo li := by
  obtain ⟨f1, f2, f3, -⟩ := hf
  exact h.to (f1 12 (by decide) (by decide) (by decide) (by decide) (by decide) (by decide)) (f1 18 (by decide) (by decide) (by decide) (by decide) (by decide) (by decide)) (fun j hj => by rcases hj with rfl | rfl | rfl | rfl | rfl | rfl | rfl | rfl <;> exact f2 _ (by decide) (by decide) (by decide) (by decide) (by decide)) (f3 22 (by decide) (by decide))
theorem rt_A.ex (h : rt_A s M u lo fa a) (v : Int32 × Int32) (c : Nat) : rt_A (s.ex v c) M (tx_cs c u) lo fa a := h
theorem rt_A.to (h : rt_A s M u lo fa a) (h17 : M'.2.1 17 = M.2.1 17) (h26 : M'.2.1 26 = M.2.1 26) : rt_A s M' u lo fa a := by
  unfold rt_A at h ⊢
  rw [h17, h26]
  exact h
theorem ry_f.tt (hf : ry_f M M') (h : rm_T n T M) : rm_T n T M' := by
  obtain ⟨f1, f2, f3, -⟩ := hf
  exact h.to (f1 2 (by decide) (by decide) (by decide) (by decide) (by decide) (by decide)) (fun j hj => by rcases hj with rfl | rfl | rfl | rfl <;> exact f2 _ (by decide) (by decide) (by decide) (by decide) (by decide))
theorem ry_f.m (hf : ry_f M M') : rx_m M' = rx_m M := by
  unfold rx_m
  rw [hf.1 12 (by decide) (by decide) (by decide) (by decide) (by decide) (by decide)]
theorem ry_f.k (hf : ry_f M M') (h : rx_k f M) : rx_k f M' := by
  have e1 := hf.1 48 (by decide) (by decide) (by decide) (by decide) (by decide) (by decide)
  have e2 := hf.1 50 (by decide) (by decide) (by decide) (by decide) (by decide) (by decide)
  unfold rx_k rx_w rx_b at h ⊢
  rw [e1, e2]
  exact h
theorem ry_L.len (h : ry_L n T Z M0 M s i p) : T.length ≤ 10241 ∧ n ≤ 10240 := by
  have := h.2.1.len
  have := h.2.1.2.1
  exact ⟨by omega, by omega⟩
theorem ry_L.ends (h : ry_L n T Z M0 M s i p) : tx_ends T := fun i hi h1 h2 => h.2.1.end hi h1 h2
theorem ry_L.le {p' : Nat} (h : ry_L n T Z M0 M s i p) (hp : p' ≤ p) : ry_L n T Z M0 M s i p' := by
  obtain ⟨h1, h2, h3, h4, h5⟩ := h
  exact ⟨h1, h2, h3, h4.le (by omega) (Nat.le_refl _) h4.2.2.2.2.2.2, h5⟩
theorem ry_D.le {b' I' p' : Nat} (h : ry_D M0 M e b I p) (hb : b ≤ b') (hI : 12 * I + p' ≤ 12 * I' + p) (h2 : I ≤ I') (h' : I' ≤ 10241) : ry_D M0 M e b' I' p' := by
  obtain ⟨a1, a2, a3, a4, a5, j, a6, a7⟩ := h
  exact ⟨a1, a2.le hI h2 h', a3, a4, a5, j, by omega, a7⟩
theorem ry_D.mv (h : ry_D M0 M e b I p) {d : Nat} {x : Int32} (hx : x = nI d) : ry_D M0 (rp_i M x) e (b + d) I p := by
  obtain ⟨a1, a2, a3, a4, a5, j, a6, a7⟩ := h
  have := (rx_D.mv (M0 := M) (M := M) ⟨rx_f.rf M, a2, a3, a4, a5, j, a6, a7⟩ hx)
  exact this.y a1
theorem ry_D.is {kd : Int32} {K : Bool → Prop} (h : ry_D M0 M e b I p) (hb : b < 65540) (hK : K false) : rp_is M kd K := by
  obtain ⟨a1, a2⟩ := h
  exact rx_D.is (M0 := M) (M := M) ⟨rx_f.rf M, a2⟩ hb hK
theorem ry_D.ff (h : ry_D M0 M e b I p) (x : Prop) [Decidable x] (w q : Int32) : rp_ff x w q M = M := by
  obtain ⟨a1, a2⟩ := h
  exact rx_D.ff (M0 := M) (M := M) ⟨rx_f.rf M, a2⟩ x w q
theorem ry_D.lay {u v w : Int32} {K : rm_M → Prop} (h : ry_D M0 M e b I (p + 3)) (hK : ∀ M', ry_D M0 M' e b I p → rm_la (rx_x M) u v w M M' → K M') : rp_lay u v w M K := by
  obtain ⟨a1, a2⟩ := h
  exact rx_D.lay (M0 := M) (M := M) ⟨rx_f.rf M, a2⟩ (fun M' h' q => hK M' (h'.y a1) q)
theorem ry_D.cost {v : Int64} {K : rm_M → Prop} {mc : Nat} (hm : M.1 12 = nI mc) (hm2 : mc < 3600) (h : ry_D M0 M e b I p) (hK : ∀ M', ry_D M0 M' e b I p → rx_o M M' → K M') : rp_cost v M K := by
  obtain ⟨a1, a2, a3, a4, a5, a6⟩ := h
  have ho := rx_o.cm M mc v
  refine ⟨mc, hm, hm2, hK _ ⟨a1.tr (ho.f (rx_f.rf M)).y, a2.o ho, a3, a4, a5, a6⟩ ho⟩
/-- the relations of an exp and of a statement -/
theorem ry_L.x (h : ry_L n T Z M0 M s i p) : ∃ c, s.ex s.1 c = s ∧ rx_B n T s M ∧ rx_L T M M i c p := by
  obtain ⟨h1, h2, ⟨u, lo, li, fa, a, h3, h4, h5, h6, c, h7, h8, h9⟩, h10, h11, h12, h13, h14, h15⟩ := h
  exact ⟨c, tx_ex_id h3.1 h9, h3.B h2, rx_f.rf M, h10, h11, h12, h13, h7, h8⟩
theorem ry_L.of {i' p' c' : Nat} {v : Int32 × Int32} (h : ry_L n T Z M0 M s i p) (hv : v.1 = 0) (h' : rx_L T M M' i' c' p') : ry_L n T Z M0 M' (s.ex v c') i' p' := by
  obtain ⟨h1, h2, ⟨u, lo, li, fa, a, h3, h4, h5, h6, c, h7, h8, h9⟩, h10, h11, h12, h13, h14, h15⟩ := h
  obtain ⟨b1, b2, b3, b4, b5, b6, b7⟩ := h'
  have f := b1.y
  exact ⟨h1.tr f, f.tt h2, ⟨tx_cs c' u, lo, li, fa, a, (h3.fr f).ex v c', (h4.to (f.2.1 17 (by decide) (by decide) (by decide) (by decide) (by decide)) (b1.1.2.1 26 (by decide) (by decide) (by decide) (by decide))).ex v c', h5, by rw [f.1 38 (by decide) (by decide) (by decide) (by decide) (by decide) (by decide)]; exact h6, c', b6, b7, rfl⟩, b2, b3, b4, b5, hv, f.k h15.1, h15.2.2.1 _ _ _ h15.2.1, h15.2.2⟩
theorem ry_L.exp {K : Int32 → rm_M → Prop} {w : Int32} {i' : Nat} {s' : tx_S} (hN : 65540 ≤ N) (hf : f ≤ 60) (h : ry_L n T Z M0 M s i p) (hR : tx_exp T f i s = .inr (w, i', s'))
    (hK : ∀ M' c', s' = s.ex s.1 c' → ry_L n T Z M0 M' s' i' p → rx_f M M' → rx_wd w → i < i' → K w M') (hD : ∀ w' M', s'.1.1 ≠ 0 → ry_D M0 M' s'.1 (20000 + 30 * f) i' p → rx_f M M' → i < i' → K w' M') : rp_exp N K M := by
  obtain ⟨c, hc, hB, hL⟩ := h.x
  have hl := h.len
  have hn := h.2.1.len
  rw [← hc] at hR
  have hk : rx_k (f + 1) M := h.2.2.2.2.2.2.2.2.1.le (by omega)
  refine rx_SE_exf hB.ends (by omega) (by omega) (by omega) 61 f (by omega) hf M M i c p s.1 w i' s' K hB hk hL h.2.2.2.2.2.2.2.1 hR (fun c' M' e1 e2 h3 h4 => ?_) (fun w' M' e1 e2 h3 => ?_)
  · refine hK M' c' e1 ?_ h3.1 h4 e2
    rw [e1]
    exact h.of h.2.2.2.2.2.2.2.1 h3
  · exact hD w' M' e1 (h3.y h.1) h3.1 e2
/-- steps -/
theorem ry_L.st {j p' c' : Nat} (h : ry_L n T Z M0 M s i p) (hx : ∀ c, rx_L T M M i c p → rx_L T M M' j c p') : ry_L n T Z M0 M' s j p' := by
  obtain ⟨c, hc, hB, hL⟩ := h.x
  have := h.of h.2.2.2.2.2.2.2.1 (hx c hL)
  rw [hc] at this
  exact this
theorem ry_L.i1 (h : ry_L n T Z M0 M s i p) (h1 : tx_ki T i ≠ 22) (h2 : tx_ki T i ≠ 23) : ry_L n T Z M0 (rp_i M 1) s (i + 1) (p + 12) := by
  obtain ⟨c, hc, hB, hL⟩ := h.x
  exact h.st (c' := c) (fun c hL => hL.i1 hB h1 h2)
theorem ry_L.i2 (h : ry_L n T Z M0 M s i p) (h1 : tx_ki T i ≠ 22) (h2 : tx_ki T i ≠ 23) (h3 : tx_ki T (i + 1) ≠ 22) (h4 : tx_ki T (i + 1) ≠ 23) : ry_L n T Z M0 (rp_i M 2) s (i + 2) (p + 24) := by
  obtain ⟨c, hc, hB, hL⟩ := h.x
  exact h.st (c' := c) (fun c hL => hL.i2 hB h1 h2 h3 h4)
theorem ry_L.is {kd a : Int32} {K : Bool → Prop} (h : ry_L n T Z M0 M s i p) (hq : ∀ p ∈ rm_kl, p.2 = kd ↔ p.1 = a) (hK : K (decide (tx_ki T i = a))) : rp_is M kd K := by
  obtain ⟨c, hc, hB, hL⟩ := h.x
  exact hL.is hB hq hK
theorem ry_L.kd {K : Int32 → Prop} (h : ry_L n T Z M0 M s i p) (hK : ∀ y, (tx_ki T i, y) ∈ rm_kl → K y) : rp_kd M K := by
  obtain ⟨c, hc, hB, hL⟩ := h.x
  exact hL.kd hB hK
theorem ry_L.bg {K : Int32 → Prop} (h : ry_L n T Z M0 M s i p) (hK : K (nI (tx_ta T i).2.1)) : rp_bg M K := by
  obtain ⟨c, hc, hB, hL⟩ := h.x
  exact hL.bg hB hK
theorem ry_L.lay {u v w : Int32} {K : rm_M → Prop} (h : ry_L n T Z M0 M s i (p + 3)) (hK : ∀ M', ry_L n T Z M0 M' s i p → rm_la (rx_x M) u v w M M' → K M') : rp_lay u v w M K := by
  obtain ⟨c, hc, hB, hL⟩ := h.x
  refine hL.lay (fun M' h' q => hK M' ?_ q)
  have := h.of h.2.2.2.2.2.2.2.1 h'
  rw [hc] at this
  exact this
theorem ry_L.cl {d : Nat} {v : Int64} {u x w : Int32} {K : rm_M → Prop} (h : ry_L n T Z M0 M s i (p + 3)) (hv : v = lN d) (hd : d ≤ 4160) (hK : ∀ M', ry_L n T Z M0 M' (tx_spend (nI d) s) i p → rx_x M' = rx_x M + 3 → K M') : rp_cost v M (fun M => rp_lay u x w M K) := by
  obtain ⟨c, hc, hB, hL⟩ := h.x
  have hx2 := hL.2.1
  refine hL.cl hB hv hd (fun M' h' q1 q2 q3 => hK M' ?_ q3)
  have := h.of h.2.2.2.2.2.2.2.1 h'
  rw [← tx_ex_spend (by omega), hc] at this
  exact this
theorem ry_L.fail (h : ry_L n T Z M0 M s i p) {w q : Int32} (hw : w ≠ 0) (hb : i ≤ b) : ry_D M0 (rm_fail w q M) (w, q) b i p := by
  obtain ⟨c, hc, hB, hL⟩ := h.x
  exact (hL.fail hw hb).y h.1
theorem ry_L.ff (h : ry_L n T Z M0 M s i p) {x : Prop} [Decidable x] {w q : Int32} (hx : ¬ x) : rp_ff x w q M = M := by
  obtain ⟨c, hc, hB, hL⟩ := h.x
  exact hL.ff hx
theorem ry_L.ffD (h : ry_L n T Z M0 M s i p) {x : Prop} [Decidable x] {w q : Int32} (hx : x) (hw : w ≠ 0) (hb : i ≤ b) : ry_D M0 (rp_ff x w q M) (w, q) b i p := by
  obtain ⟨c, hc, hB, hL⟩ := h.x
  exact (hL.ffD hx hw hb).y h.1
end RYL

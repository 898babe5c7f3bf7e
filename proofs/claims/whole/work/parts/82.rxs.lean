/-! THE SECOND PASS: small steps within an exp. -/
section RXS
variable {n : Nat} {T : List tx_Tk} {s : tx_S} {M0 M M' : rm_M} {i c p b I : Nat} {e : Int32 × Int32}
theorem rx_L.B (hB : rx_B n T s M0) (h : rx_L T M0 M i c p) : rx_B n T s M := hB.g h.1.1
theorem rx_D.B (hB : rx_B n T s M0) (h : rx_D M0 M e b I p) : rx_B n T s M := hB.g h.1.1
theorem rx_L.base (h : rx_L T M0 M i c p) : rx_L T M M i c p := ⟨rx_f.rf M, h.2⟩
theorem rx_D.base (h : rx_D M0 M e b I p) : rx_D M M e b I p := ⟨rx_f.rf M, h.2⟩
theorem rx_L.at (hf : rx_f M0 M) (h : rx_L T M M' i c p) : rx_L T M0 M' i c p := ⟨hf.tr h.1, h.2⟩
theorem rx_D.at (hf : rx_f M0 M) (h : rx_D M M' e b I p) : rx_D M0 M' e b I p := ⟨hf.tr h.1, h.2⟩
theorem rx_L.le {p' : Nat} (h : rx_L T M0 M i c p) (hp : p' ≤ p) : rx_L T M0 M i c p' := ⟨h.1, h.2.1.le (by omega) (Nat.le_refl _) h.2.1.2.2.2.2.2.2, h.2.2⟩
theorem rx_D.le {b' I' p' : Nat} (h : rx_D M0 M e b I p) (hb : b ≤ b') (hI : 12 * I + p' ≤ 12 * I' + p) (h2 : I ≤ I') (h' : I' ≤ 10241) : rx_D M0 M e b' I' p' := by
  obtain ⟨a1, a2, a3, a4, a5, j, a6, a7⟩ := h
  exact ⟨a1, a2.le hI h2 h', a3, a4, a5, j, by omega, a7⟩
theorem rx_L.ix (hB : rx_B n T s M0) (h : rx_L T M0 M i c p) : i < 10241 := by
  have := hB.len
  have := h.2.2.2.1
  omega
theorem rx_L.m (hB : rx_B n T s M0) (h : rx_L T M0 M i c p) : M.1 12 = nI (rx_m M) ∧ rx_m M < 3600 := ⟨(h.B hB).2.1, (h.B hB).2.2.1⟩
theorem rx_D.m (hB : rx_B n T s M0) (h : rx_D M0 M e b I p) : M.1 12 = nI (rx_m M) ∧ rx_m M < 3600 := ⟨(h.B hB).2.1, (h.B hB).2.2.1⟩
/-- reads -/
theorem rx_L.is {kd a : Int32} {K : Bool → Prop} (hB : rx_B n T s M0) (h : rx_L T M0 M i c p) (hq : ∀ p ∈ rm_kl, p.2 = kd ↔ p.1 = a) (hK : K (decide (tx_ki T i = a))) : rp_is M kd K := by
  refine ⟨i, h.2.2.1, by have := h.ix hB; omega, ?_⟩
  have hk := ((h.B hB).1.tk.2.1 i h.2.2.2.1).1
  have : rm_c9 M i kd = decide (tx_ki T i = a) := by
    unfold rm_c9
    rw [h.2.2.2.2.1]
    simp only [true_and, hq _ hk]
  rw [this]
  exact hK
theorem rx_D.is {kd : Int32} {K : Bool → Prop} (h : rx_D M0 M e b I p) (hb : b < 65540) (hK : K false) : rp_is M kd K := by
  obtain ⟨-, -, a3, -, a5, j, a6, a7⟩ := h
  refine ⟨j, a7, by omega, ?_⟩
  have : rm_c9 M j kd = false := by
    unfold rm_c9
    rw [a3]
    simp [a5]
  rw [this]
  exact hK
theorem rx_L.kd {K : Int32 → Prop} (hB : rx_B n T s M0) (h : rx_L T M0 M i c p) (hK : ∀ y, (tx_ki T i, y) ∈ rm_kl → K y) : rp_kd M K := ⟨i, h.2.2.1, by have := h.ix hB; omega, hK _ ((h.B hB).1.tk.2.1 i h.2.2.2.1).1⟩
theorem rx_D.kd {K : Int32 → Prop} (h : rx_D M0 M e b I p) (hb : b < 65540) (hK : ∀ y, K y) : rp_kd M K := by
  obtain ⟨-, -, -, -, -, j, a6, a7⟩ := h
  exact ⟨j, a7, by omega, hK _⟩
theorem rx_L.bg {K : Int32 → Prop} (hB : rx_B n T s M0) (h : rx_L T M0 M i c p) (hK : K (nI (tx_ta T i).2.1)) : rp_bg M K := ⟨i, h.2.2.1, by have := h.ix hB; omega, by rw [((h.B hB).1.tk.2.1 i h.2.2.2.1).2]; exact hK⟩
/-- the next token -/
theorem rx_L.t {j : Nat} (h : rx_L T M0 M i c p) {x : Int32} (hx : x = nI j) (hj : j < T.length) (hij : i ≤ j) (hT : T.length ≤ 10241) : rx_L T M0 (rp_t M x) j c (p + 12 * (j - i)) := by
  obtain ⟨a1, a2, a3, a4, a5, a6, a7⟩ := h
  have ho := rx_o.t M x
  refine ⟨ho.f a1, (a2.o ho).le (by omega) hij (by omega), hx, hj, ?_, ?_, ?_⟩
  · show va_up M.1 8 x 9 = 0
    rw [va_up_ne _ _ (by decide)]
    exact a5
  · have : rx_m (rp_t M x) = rx_m M := by
      show (va_up M.1 8 x 12).toNatClampNeg = _
      rw [va_up_ne _ _ (by decide)]
      rfl
    rw [this]
    exact a6
  · rw [ho.x]
    omega
theorem rx_L.i1 (hB : rx_B n T s M0) (h : rx_L T M0 M i c p) (h1 : tx_ki T i ≠ 22) (h2 : tx_ki T i ≠ 23) : rx_L T M0 (rp_i M 1) (i + 1) c (p + 12) := by
  have := h.t (j := i + 1) (x := M.1 8 + 1) (by rw [h.2.2.1, nI_1]) ((h.B hB).1.tk.2.2 i h.2.2.2.1 h1 h2) (by omega) hB.len
  exact this.le (by omega)
theorem rx_L.i2 (hB : rx_B n T s M0) (h : rx_L T M0 M i c p) (h1 : tx_ki T i ≠ 22) (h2 : tx_ki T i ≠ 23) (h3 : tx_ki T (i + 1) ≠ 22) (h4 : tx_ki T (i + 1) ≠ 23) : rx_L T M0 (rp_i M 2) (i + 2) c (p + 24) := by
  have k1 := (h.B hB).1.tk.2.2 i h.2.2.2.1 h1 h2
  have := h.t (j := i + 2) (x := M.1 8 + 2) (by rw [h.2.2.1]; exact nI_add i 2) ((h.B hB).1.tk.2.2 (i + 1) k1 h3 h4) (by omega) hB.len
  exact this.le (by omega)
theorem rx_D.o (h : rx_D M0 M e b I p) (ho : rx_o M M') (h9 : M'.1 9 = M.1 9) (h10 : M'.1 10 = M.1 10) (h8 : ∃ j, j ≤ b ∧ M'.1 8 = nI j) : rx_D M0 M' e b I p := by
  obtain ⟨a1, a2, a3, a4, a5, -⟩ := h
  exact ⟨ho.f a1, a2.o ho, h9.trans a3, h10.trans a4, a5, h8⟩
theorem rx_D.mv (h : rx_D M0 M e b I p) {d : Nat} {x : Int32} (hx : x = nI d) : rx_D M0 (rp_i M x) e (b + d) I p := by
  obtain ⟨a1, a2, a3, a4, a5, j, a6, a7⟩ := h
  have ho := rx_o.t M (M.1 8 + x)
  refine ⟨ho.f a1, a2.o ho, ?_, ?_, a5, j + d, by omega, ?_⟩
  · show va_up M.1 8 (M.1 8 + x) 9 = _
    rw [va_up_ne _ _ (by decide)]
    exact a3
  · show va_up M.1 8 (M.1 8 + x) 10 = _
    rw [va_up_ne _ _ (by decide)]
    exact a4
  · show va_up M.1 8 (M.1 8 + x) 8 = _
    rw [va_up_self, a7, hx, nI_add]
/-- faults -/
theorem rx_D.fail (h : rx_D M0 M e b I p) (w q : Int32) : rm_fail w q M = M := by
  unfold rm_fail
  rw [if_neg (by rw [h.2.2.1]; exact h.2.2.2.2.1)]
theorem rx_D.ff (h : rx_D M0 M e b I p) (x : Prop) [Decidable x] (w q : Int32) : rp_ff x w q M = M := by
  unfold rp_ff
  rw [if_neg (fun z => h.2.2.2.2.1 (by rw [← h.2.2.1]; exact z.1))]
theorem rx_L.fail (h : rx_L T M0 M i c p) {w q : Int32} (hw : w ≠ 0) (hb : i ≤ b) : rx_D M0 (rm_fail w q M) (w, q) b i p := by
  have ho := rx_o.fail w q M
  obtain ⟨a1, a2, a3, a4, a5, -⟩ := h
  refine ⟨ho.f a1, a2.o ho, ?_, ?_, hw, i, hb, ?_⟩
  · unfold rm_fail
    rw [if_pos a5]
    show va_up (va_up M.1 9 w) 10 q 9 = w
    rw [va_up_ne _ _ (by decide), va_up_self]
  · unfold rm_fail
    rw [if_pos a5]
    show va_up (va_up M.1 9 w) 10 q 10 = q
    rw [va_up_self]
  · unfold rm_fail
    rw [if_pos a5]
    show va_up (va_up M.1 9 w) 10 q 8 = _
    rw [va_up_ne _ _ (by decide), va_up_ne _ _ (by decide)]
    exact a3
theorem rx_L.ff (h : rx_L T M0 M i c p) {x : Prop} [Decidable x] {w q : Int32} (hx : ¬ x) : rp_ff x w q M = M := by
  unfold rp_ff
  rw [if_neg (fun z => hx z.2)]
theorem rx_L.ffD (h : rx_L T M0 M i c p) {x : Prop} [Decidable x] {w q : Int32} (hx : x) (hw : w ≠ 0) (hb : i ≤ b) : rx_D M0 (rp_ff x w q M) (w, q) b i p := by
  unfold rp_ff
  rw [if_pos ⟨h.2.2.2.2.1, hx⟩]
  exact h.fail hw hb
/-- cost behind a fault -/
theorem rx_D.cost {v : Int64} {K : rm_M → Prop} (hB : rx_B n T s M0) (h : rx_D M0 M e b I p) (hK : ∀ M', rx_D M0 M' e b I p → rx_o M M' → K M') : rp_cost v M K := by
  obtain ⟨h1, h2⟩ := h.m hB
  refine ⟨rx_m M, h1, h2, hK _ ?_ (rx_o.cm _ _ _)⟩
  exact h.o (rx_o.cm _ _ _) rfl rfl h.2.2.2.2.2
/-- three numbers are laid -/
theorem rm_la.g {x : Nat} {u v w : Int32} (hx : M.1 42 = nI x) (hx2 : x + 3 ≤ 131072) (h : rm_la x u v w M M') (hg : rx_g M0 M) : rx_g M0 M' ∧ rx_x M' = x + 3 ∧ rx_x M = x := by
  obtain ⟨q1, q2, q3, q4, -⟩ := h
  have e1 : rx_x M' = x + 3 := by
    unfold rx_x
    rw [q1, va_up_self, nI_clamp (by omega)]
  have e0 : rx_x M = x := by
    unfold rx_x
    rw [hx, nI_clamp (by omega)]
  refine ⟨hg.tr ⟨fun j _ _ _ c4 _ _ _ _ => by rw [q1, va_up_ne _ _ c4], fun j c _ _ _ => q2 j c, fun j _ _ => by rw [q4], ⟨?_, fun j _ => ?_⟩, ⟨?_, fun j _ => ?_⟩, by omega, fun j hj => q3 j (by omega)⟩, e1, e0⟩
  · unfold rx_w
    rw [q1, va_up_ne _ _ (by decide)]
    exact Nat.le_refl _
  · rw [q2 46 (by decide), q2 47 (by decide)]
    exact ⟨rfl, rfl⟩
  · unfold rx_b
    rw [q1, va_up_ne _ _ (by decide)]
    exact Nat.le_refl _
  · rw [q2 49 (by decide)]
theorem rm_la.f {x : Nat} {u v w : Int32} (hx : M.1 42 = nI x) (hx2 : x + 3 ≤ 131072) (h : rm_la x u v w M M') (hg : rx_f M0 M) : rx_f M0 M' := by
  refine ⟨(rm_la.g hx hx2 h hg.1).1, ?_, ?_⟩
  · rw [h.1, va_up_ne _ _ (by decide)]
    exact hg.2.1
  · rw [h.1, va_up_ne _ _ (by decide)]
    exact hg.2.2
theorem rm_la.cc {u v w : Int32} (h : rm_la (rx_x M) u v w M M') (hc : rx_c I (p + 3) M) : rx_c I p M' := by
  obtain ⟨a, b1, c1, d, e1, f1, g1⟩ := hc
  obtain ⟨q1, q2, q3, q4, q5, q6, -⟩ := h
  have e1' : rx_x M' = rx_x M + 3 := by
    show (M'.1 42).toNatClampNeg = _
    rw [q1, va_up_self, nI_clamp (by omega)]
  have e2' : rx_y M' = rx_y M := by
    unfold rx_y
    rw [q1, va_up_ne _ _ (by decide)]
  refine ⟨?_, by omega, by omega, ?_, by rw [e2', q6]; exact e1, by omega, g1⟩
  · rw [e1', q1, va_up_self]
  · rw [e2', q1, va_up_ne _ _ (by decide)]
    exact d
theorem rx_c.lay {u v w : Int32} {K : rm_M → Prop} (hc : rx_c I (p + 3) M) (hK : ∀ M', rm_la (rx_x M) u v w M M' → rx_c I p M' → K M') : rp_lay u v w M K := by
  have hc' := hc
  obtain ⟨a, b1, c1, d, e1, f1, g1⟩ := hc'
  exact ⟨rx_x M, a, b1, by omega, fun M' h => hK M' h (rm_la.cc h hc)⟩
theorem rx_D.lay {u v w : Int32} {K : rm_M → Prop} (h : rx_D M0 M e b I (p + 3)) (hK : ∀ M', rx_D M0 M' e b I p → rm_la (rx_x M) u v w M M' → K M') : rp_lay u v w M K := by
  obtain ⟨a1, a2, a3, a4, a5, j, a6, a7⟩ := h
  have hx := a2.1
  have hx2 : rx_x M + 3 ≤ 131072 := by
    obtain ⟨_, _, _, _, _, _, _⟩ := a2
    omega
  refine a2.lay (fun M' q qc => hK M' ⟨rm_la.f hx hx2 q a1, qc, ?_, ?_, a5, j, a6, ?_⟩ q)
  · rw [q.1, va_up_ne _ _ (by decide)]; exact a3
  · rw [q.1, va_up_ne _ _ (by decide)]; exact a4
  · rw [q.1, va_up_ne _ _ (by decide)]; exact a7
theorem rx_L.lay {u v w : Int32} {K : rm_M → Prop} (h : rx_L T M0 M i c (p + 3)) (hK : ∀ M', rx_L T M0 M' i c p → rm_la (rx_x M) u v w M M' → K M') : rp_lay u v w M K := by
  obtain ⟨a1, a2, a3, a4, a5, a6, a7⟩ := h
  have hx := a2.1
  have hx2 : rx_x M + 3 ≤ 131072 := by
    obtain ⟨_, _, _, _, _, _, _⟩ := a2
    omega
  refine a2.lay (fun M' q qc => hK M' ⟨rm_la.f hx hx2 q a1, qc, ?_, a4, ?_, ?_, ?_⟩ q)
  · rw [q.1, va_up_ne _ _ (by decide)]; exact a3
  · rw [q.1, va_up_ne _ _ (by decide)]; exact a5
  · have : rx_m M' = rx_m M := by
      unfold rx_m
      rw [q.1, va_up_ne _ _ (by decide)]
    rw [this, q.2.2.2.1]
    exact a6
  · have := (rm_la.g hx hx2 q a1.1).2.1
    omega
/-- cost and a step laid -/
theorem rx_L.cl {d : Nat} {v : Int64} {u x w : Int32} {K : rm_M → Prop} (hB : rx_B n T s M0) (h : rx_L T M0 M i c (p + 3)) (hv : v = lN d) (hd : d ≤ 4160) (hK : ∀ M', rx_L T M0 M' i (c + d) p → (∀ j, j ≠ 41 → M'.2.1 j = M.2.1 j) → (∀ j, j ≠ 42 → M'.1 j = M.1 j) → rx_x M' = rx_x M + 3 → K M') : rp_cost v M (fun M => rp_lay u x w M K) := by
  obtain ⟨h1, h2⟩ := h.m hB
  obtain ⟨a1, a2, a3, a4, a5, a6, a7⟩ := h
  have ho := rx_o.cm M (rx_m M) v
  have b1 := ho.f a1
  have b2 := a2.o ho
  refine ⟨rx_m M, h1, h2, ?_⟩
  have hx := b2.1
  have hx2 : rx_x (rp_cm M (rx_m M) v) + 3 ≤ 131072 := by
    obtain ⟨_, _, _, _, _, _, _⟩ := b2
    omega
  refine b2.lay (fun M' q qc => hK M' ⟨rm_la.f hx hx2 q b1, qc, ?_, a4, ?_, ?_, ?_⟩ (fun j hj => q.2.1 j hj) (fun j hj => by rw [q.1, va_up_ne _ _ hj]; rfl) (rm_la.g hx hx2 q b1.1).2.1)
  · rw [q.1, va_up_ne _ _ (by decide)]; exact a3
  · rw [q.1, va_up_ne _ _ (by decide)]; exact a5
  · have : rx_m M' = rx_m M := by
      unfold rx_m
      rw [q.1, va_up_ne _ _ (by decide)]
      rfl
    rw [this, q.2.2.2.1]
    show va_up M.2.2.1 45 (vp_updL (M.2.2.1 45) (rx_m M) (M.2.2.1 45 (rx_m M) + v)) 45 (rx_m M) = _
    rw [va_up_self, pk_uLs, a6, hv, lN_add]
  · have := (rm_la.g hx hx2 q b1.1).2.1
    have e := ho.x
    omega
theorem rx_D.cl {v : Int64} {u x w : Int32} {K : rm_M → Prop} (hB : rx_B n T s M0) (h : rx_D M0 M e b I (p + 3)) (hK : ∀ M', rx_D M0 M' e b I p → K M') : rp_cost v M (fun M => rp_lay u x w M K) := h.cost hB (fun M' h' _ => h'.lay (fun M2 h2 _ => hK M2 h2))
/-- a number's value -/
theorem rx_L.num {x : Int32} {j : Nat} {K : Int64 → rm_M → Prop} (hB : rx_B n T s M0) (h : rx_L T M0 M i c p) (hx : x = nI j) (hj : j < T.length) (hk : tx_ki T j = 20 ∨ tx_ki T j = 21) (hK : ∀ M', rx_L T M0 M' i c p → (M'.2 = M.2 ∧ ∀ j, j ≠ 57 → M'.1 j = M.1 j) → K (tx_ta T j).2.2.2.2.2 M') : rp_num x M K := by
  refine ⟨n, T, j, (h.B hB).1, hx, hj, hk, fun M' q => hK M' ?_ q⟩
  have ho := rx_o.n57 q
  obtain ⟨a1, a2, a3, a4, a5, a6, a7⟩ := h
  refine ⟨ho.f a1, a2.o ho, (q.2 8 (by decide)).trans a3, a4, (q.2 9 (by decide)).trans a5, ?_, by rw [ho.x]; exact a7⟩
  have : rx_m M' = rx_m M := by
    unfold rx_m
    rw [q.2 12 (by decide)]
  rw [this, q.1]
  exact a6
/-- tokens that are numbers -/
theorem rm_T.plain (h : rm_T n T M) {j : Nat} (hj : j < T.length) (hk : tx_ki T j = 20) : ∃ v, v < 65536 ∧ (tx_ta T j).2.2.2.2.2 = lN v := by
  have ht := h.tok hj
  have hk' : (tx_tok n (tx_at n (M.2.1 53)) (tx_ta T j).2.1).1 = 20 := by rw [← ht.2]; exact hk
  obtain ⟨-, -, m, -, -, q, -⟩ := rm_num (Or.inl hk')
  obtain ⟨-, q2, q3⟩ := q hk'
  rw [← ht.2] at q3
  exact ⟨_, q2, q3⟩
theorem rm_T.sized (h : rm_T n T M) {j : Nat} (hj : j < T.length) (hk : tx_ki T j = 21) : rx_wd (tx_ta T j).2.2.2.2.1 := by
  have ht := h.tok hj
  have hk' : (tx_tok n (tx_at n (M.2.1 53)) (tx_ta T j).2.1).1 = 21 := by rw [← ht.2]; exact hk
  obtain ⟨-, -, m, -, -, -, q⟩ := rm_num (Or.inr hk')
  obtain ⟨-, -, q3, -, q4, -⟩ := q hk'
  rw [← ht.2] at q4
  exact ⟨_, q4, q3.2.1, q3.2.2.1⟩
end RXS

/-! THE SECOND PASS: steps within a statement. -/
section RYS
variable {n N : Nat} {T : List tx_Tk} {Z : tx_S → Prop} {s : tx_S} {M0 M M' : rm_M} {u : tx_U} {lo li fa a i p b I f : Nat} {e v : Int32 × Int32}
theorem ry_f.B (hf : ry_f M M') (h : rx_B n T s M) : rx_B n T s M' := by
  obtain ⟨f1, f2, -⟩ := hf
  obtain ⟨h1, h2⟩ := h
  have e12 := f1 12 (by decide) (by decide) (by decide) (by decide) (by decide) (by decide)
  refine ⟨h1.to (f1 2 (by decide) (by decide) (by decide) (by decide) (by decide) (by decide)) (fun j hj => by rcases hj with rfl | rfl | rfl | rfl <;> exact f2 _ (by decide) (by decide) (by decide) (by decide) (by decide)), ?_⟩
  have e : rx_m M' = rx_m M := by
    unfold rx_m
    rw [e12]
  unfold rx_env at h2 ⊢
  rw [e, e12, f1 18 (by decide) (by decide) (by decide) (by decide) (by decide) (by decide), f2 14 (by decide) (by decide) (by decide) (by decide) (by decide), f2 19 (by decide) (by decide) (by decide) (by decide) (by decide), f2 20 (by decide) (by decide) (by decide) (by decide) (by decide)]
  exact h2
theorem ry_D.exp {K : Int32 → rm_M → Prop} (hB : rx_B n T s M) (hk : rx_k 1 M) (hN : 65540 ≤ N) (h : ry_D M0 M e b I p) (hb : 10241 ≤ b) (hb2 : b < 65000) (hK : ∀ M', ry_D M0 M' e b I p → rx_f M M' → K 1 M') : rp_exp N K M := by
  obtain ⟨h1, h2⟩ := h
  have hn := hB.1.2.1
  exact rx_SD_exf (n := n) (T := T) (s := s) (by omega) (by omega) 60 M M e b I p K hB hk ⟨rx_f.rf M, h2⟩ hb hb2 (fun M' h' => hK M' (h'.y h1) h'.1)
/-- numbers behind a fault -/
theorem ry_D.num {x : Int32} {j : Nat} {K : Int64 → rm_M → Prop} (hT : rm_T n T M) (h : ry_D M0 M e b I p) (hx : x = nI j) (hj : j < T.length) (hk : tx_ki T j = 20 ∨ tx_ki T j = 21) (hK : ∀ M', ry_D M0 M' e b I p → rm_57 M M' → K (tx_ta T j).2.2.2.2.2 M') : rp_num x M K := by
  refine ⟨n, T, j, hT, hx, hj, hk, fun M' q => hK M' ?_ q⟩
  have ho := rx_o.n57 q
  obtain ⟨a1, a2, a3, a4, a5, j2, a6, a7⟩ := h
  exact ⟨a1.tr (ho.f (rx_f.rf M)).y, a2.o ho, (q.2 9 (by decide)).trans a3, (q.2 10 (by decide)).trans a4, a5, j2, a6, (q.2 8 (by decide)).trans a7⟩
theorem ry_D.prt {K : Int32 → rm_M → Prop} {q : Nat} {w w' : Int32} {i' : Nat} {s' : tx_S} {br : tx_Tk} (hT : rm_T n T M) (h : ry_D M0 M e b I p) (h8 : M.1 8 = nI i) (hi : i < T.length) (h91 : tx_ki T i = 91) (hq : q < 11000) (hb : i + 5 ≤ b) (hb2 : b < 65000) (hR : tx_prt T br w (i + 1) s = .inr (w', i', s')) (hK : ∀ x M', ry_D M0 M' e b I p → ry_f M M' → K x M') : rp_prt q K M := by
  have hl := hT.len
  have hn := hT.2.1
  have hends : tx_ends T := fun i hi h1 h2 => hT.end hi h1 h2
  unfold tx_prt at hR
  obtain ⟨h20, hR⟩ := tx_tka hR
  have n91 : tx_ki T i ≠ 22 ∧ tx_ki T i ≠ 23 := by rw [h91]; decide
  have n20 : tx_ki T (i + 1) ≠ 22 ∧ tx_ki T (i + 1) ≠ 23 := by rw [h20]; decide
  have hl1 := hends i hi n91.1 n91.2
  have hl2 := hends (i + 1) hl1 n20.1 n20.2
  have tail : ∀ (hh ll wh : Int32) (M1 : rm_M) (j : Nat), j + 1 ≤ b → M1.1 8 = nI j → ry_D M0 M1 e b I p → ry_f M M1 → rp_ptt q wh hh ll K (rp_i M1 1) := by
    intro hh ll wh M1 j hj e8 hD hf
    have hD' : ry_D M0 (rp_i M1 1) e b I p := by
      obtain ⟨a1, a2, a3, a4, a5, -⟩ := hD
      have ho := rx_o.t M1 (M1.1 8 + 1)
      refine ⟨a1.tr (ho.f (rx_f.rf M1)).y, a2.o ho, a3, a4, a5, j + 1, hj, ?_⟩
      show M1.1 8 + 1 = _
      rw [e8, nI_1]
    have hf' : ry_f M (rp_i M1 1) := hf.tr ((rx_o.t M1 (M1.1 8 + 1)).f (rx_f.rf M1)).y
    have ef : rm_fail 30 wh (rp_i M1 1) = rp_i M1 1 := by
      unfold rm_fail
      rw [if_neg (by rw [hD'.2.2.1]; exact hD'.2.2.2.2.1)]
    unfold rp_ptt
    split
    · rw [ef]; exact hK _ _ hD' hf'
    · exact hK _ _ hD' hf'
  have mv : ∀ (M1 : rm_M) (j : Nat), j + 2 ≤ b → M1.1 8 = nI j → ry_D M0 M1 e b I p → ry_f M M1 → ry_D M0 (rp_i M1 2) e b I p ∧ (rp_i M1 2).1 8 = nI (j + 2) ∧ ry_f M (rp_i M1 2) := by
    intro M1 j hj e8 hD hf
    have e82 : (rp_i M1 2).1 8 = nI (j + 2) := by
      show M1.1 8 + 2 = _
      rw [e8]
      exact nI_add j 2
    have ho := rx_o.t M1 (M1.1 8 + 2)
    obtain ⟨a1, a2, a3, a4, a5, -⟩ := hD
    exact ⟨⟨a1.tr (ho.f (rx_f.rf M1)).y, a2.o ho, a3, a4, a5, j + 2, hj, e82⟩, e82, hf.tr (ho.f (rx_f.rf M1)).y⟩
  refine ⟨hq, i, h8, by omega, ?_⟩
  refine h.num hT (j := i + 1) (by rw [h8, nI_1]) hl1 (Or.inl h20) (fun M1 h1 q1 => ?_)
  have f1 : ry_f M M1 := ((rx_o.n57 q1).f (rx_f.rf M)).y
  obtain ⟨h2, e2, f2⟩ := mv M1 i (by omega) ((q1.2 8 (by decide)).trans h8) h1 f1
  have hT2 := f2.tt hT
  refine ⟨i + 2, e2, by omega, ?_⟩
  have hkl := (hT2.tk.2.1 (i + 2) hl2).1
  show (if (rp_i M1 2).2.1 4 (i + 2) = 58 then _ else _)
  by_cases z : tx_ki T (i + 2) = 58
  · rw [if_pos ((rm_kq hkl (c := 58) (a := 58) (by decide)).mpr z)]
    rw [if_pos z] at hR
    obtain ⟨-, hR⟩ := tx_tka hR
    obtain ⟨h20b, hR⟩ := tx_tka hR
    have hl3 := hends (i + 2) hl2 (by rw [z]; decide) (by rw [z]; decide)
    refine h2.num hT2 (j := i + 2 + 1) (by rw [e2, nI_1]) hl3 (Or.inl h20b) (fun M2 h3 q2 => ?_)
    have f3 : ry_f M M2 := f2.tr ((rx_o.n57 q2).f (rx_f.rf _)).y
    obtain ⟨h4, e4, f4⟩ := mv M2 (i + 2) (by omega) ((q2.2 8 (by decide)).trans e2) h3 f3
    exact tail _ _ _ _ (i + 2 + 2) (by omega) e4 h4 f4
  · rw [if_neg (fun y => z ((rm_kq hkl (c := 58) (a := 58) (by decide)).mp y))]
    exact tail _ _ _ _ (i + 2) (by omega) e2 h2 f2
/-- the code is changed at places from x0 on -/
def ry_pt (x0 : Nat) (M M' : rm_M) : Prop := M'.1 = M.1 ∧ (∀ j, j ≠ 41 → M'.2.1 j = M.2.1 j) ∧ M'.2.2 = M.2.2 ∧ ∀ j, j < x0 → M'.2.1 41 j = M.2.1 41 j
theorem ry_pt.rf (x0 : Nat) (M : rm_M) : ry_pt x0 M M := ⟨rfl, fun _ _ => rfl, rfl, fun _ _ => rfl⟩
theorem ry_pt.tr {x0 : Nat} {M M1 M2 : rm_M} (h : ry_pt x0 M M1) (h' : ry_pt x0 M1 M2) : ry_pt x0 M M2 := ⟨h'.1.trans h.1, fun j z => (h'.2.1 j z).trans (h.2.1 j z), h'.2.2.1.trans h.2.2.1, fun j z => (h'.2.2.2 j z).trans (h.2.2.2 j z)⟩
theorem ry_pt.set {x0 : Nat} {j : Nat} {x : Int32} (hj : x0 ≤ j) : ry_pt x0 M (rp_set M 41 j x) := ⟨rfl, fun k hk => va_up_ne _ _ hk, rfl, fun k hk => by
  show upd (M.2.1 41) j x k = _
  rw [pk_un (by omega)]⟩
theorem ry_pt.x {x0 : Nat} (h : ry_pt x0 M M') : rx_x M' = rx_x M := by
  unfold rx_x
  rw [h.1]
theorem ry_pt.yf {x0 : Nat} (h : ry_pt x0 M M') (hf : ry_f M0 M) (hx : rx_x M0 ≤ x0) : ry_f M0 M' := by
  obtain ⟨a1, a2, a3, a4, a5⟩ := hf
  have e := h.x
  obtain ⟨h1, h2, h3, h4⟩ := h
  refine ⟨fun j c1 c2 c3 c4 c5 c6 => by rw [h1]; exact a1 j c1 c2 c3 c4 c5 c6, fun j c1 c2 c3 c4 c5 => (h2 j c2).trans (a2 j c1 c2 c3 c4 c5), fun j c1 c2 => by rw [h3]; exact a3 j c1 c2, by omega, fun j hj => (h4 j (by omega)).trans (a5 j hj)⟩
theorem ry_pt.c {x0 : Nat} (h : ry_pt x0 M M') (hc : rx_c I p M) : rx_c I p M' := hc.to (by rw [h.1]) (by rw [h.1]) (by rw [h.2.2.1])
theorem ry_L.pt {x0 : Nat} (h : ry_L n T Z M0 M s i p) (hp : ry_pt x0 M M') (hx : rx_x M0 ≤ x0) : ry_L n T Z M0 M' s i p := by
  obtain ⟨h1, h2, ⟨u, lo, li, fa, a, h3, h4, h5, h6, c, h7, h8, h9⟩, h10, h11, h12, h13, h14, h15⟩ := h
  have hr := hp.2.1
  have em : rx_m M' = rx_m M := by
    unfold rx_m
    rw [hp.1]
  refine ⟨hp.yf h1 hx, h2.to (by rw [hp.1]) (fun j hj => hr j (by omega)), ⟨u, lo, li, fa, a, h3.to (by rw [hp.1]) (by rw [hp.1]) (fun j hj => hr j (by omega)) (by rw [hp.2.2.1]), h4.to (hr 17 (by decide)) (hr 26 (by decide)), h5, by rw [hp.1]; exact h6, c, by rw [em, hp.2.2.1]; exact h7, by rw [hp.x]; exact h8, h9⟩, hp.c h10, by rw [hp.1]; exact h11, h12, by rw [hp.1]; exact h13, h14, ?_, h15.2⟩
  have h16 := h15.1
  unfold rx_k rx_w rx_b at h16 ⊢
  rw [hp.1]
  exact h16
theorem ry_D.pt {x0 : Nat} (h : ry_D M0 M e b I p) (hp : ry_pt x0 M M') (hx : rx_x M0 ≤ x0) : ry_D M0 M' e b I p := by
  obtain ⟨a1, a2, a3, a4, a5, j, a6, a7⟩ := h
  exact ⟨hp.yf a1 hx, hp.c a2, by rw [hp.1]; exact a3, by rw [hp.1]; exact a4, a5, j, a6, by rw [hp.1]; exact a7⟩
/-- steps that lead from one to the one before, below b, none below x0 -/
def ry_ch (g : Nat → Int32) (x0 : Nat) : Nat → List Nat → Int32 → Prop
  | _, [], k => k < 0
  | b, j :: L, k => k = nI j ∧ x0 ≤ j ∧ j + 3 ≤ b ∧ ry_ch g x0 j L (g (j + 1))
theorem ry_ch.to {g g' : Nat → Int32} {x0 : Nat} : ∀ {L : List Nat} {b : Nat} {k : Int32}, ry_ch g x0 b L k → (∀ j, x0 ≤ j → j < b → g' j = g j) → ry_ch g' x0 b L k
  | [], _, _, h, _ => h
  | j :: L, b, k, h, hg => by
    obtain ⟨h1, h2, h3, h4⟩ := h
    refine ⟨h1, h2, h3, ?_⟩
    rw [hg (j + 1) (by omega) (by omega)]
    exact h4.to (fun x hx hx2 => hg x hx (by omega))
theorem ry_ch.le {g : Nat → Int32} {x0 : Nat} {L : List Nat} {b b' : Nat} {k : Int32} (h : ry_ch g x0 b L k) (hb : b ≤ b') : ry_ch g x0 b' L k := by
  cases L with
  | nil => exact h
  | cons j L =>
    obtain ⟨h1, h2, h3, h4⟩ := h
    exact ⟨h1, h2, by omega, h4⟩
theorem ry_ch.len {g : Nat → Int32} {x0 : Nat} : ∀ {L : List Nat} {b : Nat} {k : Int32}, ry_ch g x0 b L k → 3 * L.length ≤ b
  | [], _, _, _ => by simp
  | j :: L, b, k, h => by
    obtain ⟨h1, h2, h3, h4⟩ := h
    have := h4.len
    show 3 * (L.length + 1) ≤ b
    omega
theorem ry_pat {K : rm_M → Prop} {x0 : Nat} : ∀ (L : List Nat) (b N : Nat) (k : Int32) (M : rm_M), L.length < N → b < 2147483648 → b ≤ M.2.2.2.1 → ry_ch (M.2.1 41) x0 b L k → (∀ M', ry_pt x0 M M' → K M') → rp_pat K N k M := by
  intro L
  induction L with
  | nil =>
    intro b N k M hN hb hb2 h hK
    obtain ⟨N, rfl⟩ : ∃ N', N = N' + 1 := ⟨N - 1, by omega⟩
    unfold rp_pat
    rw [if_pos (show k < 0 from h)]
    exact hK M (ry_pt.rf _ _)
  | cons j L ih =>
    intro b N k M hN hb hb2 h hK
    have hl : (j :: L).length = L.length + 1 := rfl
    obtain ⟨N, rfl⟩ : ∃ N', N = N' + 1 := ⟨N - 1, by omega⟩
    obtain ⟨h1, h2, h3, h4⟩ := h
    unfold rp_pat
    rw [h1, if_neg (nI_pos (by omega))]
    refine ⟨j, rfl, by omega, ?_⟩
    refine ih j N _ _ (by omega) (by omega) (by show j ≤ M.2.2.2.1; omega) (h4.to (fun x hx hx2 => ?_)) (fun M' h' => hK M' ((ry_pt.set (by omega)).tr h'))
    show upd (M.2.1 41) (j + 1) _ x = _
    rw [pk_un (by omega)]
theorem ry_L.cd {j : Nat} {K : rm_M → Prop} (h : ry_L n T Z M0 M s i p) (h1 : rx_x M0 ≤ j) (h2 : j < rx_x M) (hK : ∀ M', ry_L n T Z M0 M' s i p → ry_pt j M M' → (∀ k, k ≠ j → M'.2.1 41 k = M.2.1 41 k) → K M') : rp_cd j M K := by
  have hc := h.2.2.2.1
  have hp := ry_pt.set (M := M) (x0 := j) (j := j) (x := M.1 42) (Nat.le_refl _)
  exact ⟨by have := hc.2.1; omega, hK _ (h.pt hp h1) hp (fun k hk => pk_un hk)⟩
theorem ry_D.cd {j : Nat} {K : rm_M → Prop} (h : ry_D M0 M e b I p) (h1 : rx_x M0 ≤ j) (h2 : j < rx_x M) (hK : ∀ M', ry_D M0 M' e b I p → ry_pt j M M' → (∀ k, k ≠ j → M'.2.1 41 k = M.2.1 41 k) → K M') : rp_cd j M K := by
  have hc := h.2.1
  have hp := ry_pt.set (M := M) (x0 := j) (j := j) (x := M.1 42) (Nat.le_refl _)
  exact ⟨by have := hc.2.1; omega, hK _ (h.pt hp h1) hp (fun k hk => pk_un hk)⟩
end RYS

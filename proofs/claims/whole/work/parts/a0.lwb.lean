/-! THE LAW: class and reference side by side. -/
def lw_S (mo : Nat) (P : Nat → Nat) (ou c : Nat) : Prop := rm_S mo P c ∨ c = ou
/-- the class holds n f ft us; the reference's rows say that it holds the same; what was made so far -/
def lw_B (k : cx_K) (G : cx_G) (x mo ou ta b n cap : Nat) (f : Nat → Int32) (ft : Int32) (A : tx_A) (us : List tx_U) (P : Nat → Nat) (M : rm_M) (g : Nat → Int64) (c1 s1 : Nat) : Prop := ct_R k G x ta b n cap f ft A us ∧ rm_R k G mo P M ∧ G.1 ou = some (.inl (k.2.1 2, 1, .inr (.inl g))) ∧ (¬ lw_S mo P ou x ∧ ¬ lw_S mo P ou ta ∧ ¬ lw_S mo P ou b ∧ ¬ rm_S mo P ou) ∧ ct_F (lw_S mo P ou) G A us ∧ 256 * G.2.1 + (262144 - M.2.2.2.1) + (32768 - M.2.2.2.2) + 2048 * n ≤ c1 ∧ G.2.2 + 2 * (262144 - M.2.2.2.1) + 2 * (32768 - M.2.2.2.2) + 120 * n ≤ s1 + 2 * cap ∧ (4096 ≤ M.2.2.2.1 ∧ M.2.2.2.1 ≤ 262144 ∧ 256 ≤ M.2.2.2.2 ∧ M.2.2.2.2 ≤ 32768) ∧ cap ≤ 20480 ∧ c1 ≤ 40000000 ∧ s1 ≤ 5000000
def lw_J (k : cx_K) (G : cx_G) (x mo ou t : Nat) : Prop := ∃ (ta b n cap : Nat) (f : Nat → Int32) (ft : Int32) (A : tx_A) (us : List tx_U) (P : Nat → Nat) (M : rm_M) (g : Nat → Int64), lw_B k G x mo ou ta b n cap f ft A us P M g (1000000 + 60000 * t) (2000000 + 5000 * t) ∧ rr_I M n f ft us ∧ n ≤ 20 * t
section LWB
variable {k : cx_K} {G G' : cx_G} {x mo ou ta b n cap c1 s1 c2 s2 t : Nat} {f : Nat → Int32} {ft : Int32} {A : tx_A} {us : List tx_U} {P P' : Nat → Nat} {M M' : rm_M} {g : Nat → Int64}
theorem lw_B.le (h : lw_B k G x mo ou ta b n cap f ft A us P M g c1 s1) (hc : c1 ≤ c2) (hs : s1 ≤ s2) (hc2 : c2 ≤ 40000000) (hs2 : s2 ≤ 5000000) : lw_B k G x mo ou ta b n cap f ft A us P M g c2 s2 := by
  obtain ⟨h1, h2, h3, h4, h5, h6, h7, h8, h9, h10, h11⟩ := h
  exact ⟨h1, h2, h3, h4, h5, by omega, by omega, h8, h9, hc2, hs2⟩
/-- the reference's room -/
def lw_bb (G : cx_G) (M : rm_M) : Nat × Nat := (256 * G.2.1 + (262144 - M.2.2.2.1) + (32768 - M.2.2.2.2), G.2.2 + 2 * (262144 - M.2.2.2.1) + 2 * (32768 - M.2.2.2.2))
theorem lw_B.Q (h : lw_B k G x mo ou ta b n cap f ft A us P M g c1 s1) : rm_Q (lw_bb G M) G M := by
  obtain ⟨h1, h2, h3, h4, h5, h6, h7, h8, h9, h10, h11⟩ := h
  exact ⟨Nat.le_refl _, Nat.le_refl _, h8.1, h8.2.1, h8.2.2.1, h8.2.2.2, by show 256 * G.2.1 + (262144 - M.2.2.2.1) + (32768 - M.2.2.2.2) ≤ _; omega, by show G.2.2 + 2 * (262144 - M.2.2.2.1) + 2 * (32768 - M.2.2.2.2) ≤ _; omega⟩
/-- the class's cells are no one else's -/
theorem lw_B.ne (h : lw_B k G x mo ou ta b n cap f ft A us P M g c1 s1) : (ou ≠ ta ∧ ou ≠ b ∧ ou ≠ x) ∧ ∀ c, rm_S mo P c → c ≠ x ∧ c ≠ ta ∧ c ≠ b ∧ c ≠ ou := by
  obtain ⟨-, -, -, ⟨a1, a2, a3, a4⟩, -⟩ := h
  refine ⟨⟨fun z => a2 (Or.inr z.symm), fun z => a3 (Or.inr z.symm), fun z => a1 (Or.inr z.symm)⟩, fun c hc => ⟨fun z => a1 (Or.inl (by rw [← z]; exact hc)), fun z => a2 (Or.inl (by rw [← z]; exact hc)), fun z => a3 (Or.inl (by rw [← z]; exact hc)), fun z => a4 (by rw [← z]; exact hc)⟩⟩
/-- an exception was made -/
theorem lw_B.mk (h : lw_B k G x mo ou ta b n cap f ft A us P M g c1 s1) (hm : lw_mk G G') (hc : c1 + 256 ≤ 40000000) (hs : s1 + 6 ≤ 5000000) : lw_B k G' x mo ou ta b n cap f ft A us P M g (c1 + 256) (s1 + 6) := by
  obtain ⟨h1, h2, h3, h4, h5, h6, h7, h8, h9, h10, h11⟩ := h
  obtain ⟨a, e, ha, rfl⟩ := hm
  have hfr : ∀ c e', G.1 c = some e' → (cx_mk G a e 6).1 c = some e' := fun c e' hc => cx_mn rfl ha hc
  obtain ⟨g1, g2⟩ := h1.fr h5 h4.1 h4.2.1 h4.2.2.1 (fun c e' _ hc => hfr c e' hc)
  refine ⟨g1, h2.fr (fun c e' _ hc => hfr c e' hc), hfr _ _ h3, h4, g2, ?_, ?_, h8, h9, hc, hs⟩
  · show 256 * (G.2.1 + 1) + _ + _ + _ ≤ _
    omega
  · show (G.2.2 + 6) + _ + _ + _ ≤ _
    omega
/-- the answer was written down -/
theorem lw_B.pt (h : lw_B k G x mo ou ta b n cap f ft A us P M g c1 s1) (v : Int64) : lw_B k (lw_pt k G ou g v) x mo ou ta b n cap f ft A us P M (vp_updL g 0 v) c1 s1 := by
  have hne := h.ne
  obtain ⟨h1, h2, h3, h4, h5, h6, h7, h8, h9, h10, h11⟩ := h
  have hfr : ∀ c e', c ≠ ou → G.1 c = some e' → (lw_pt k G ou g v).1 c = some e' := fun c e' hn hc => cx_pn rfl hc hn
  obtain ⟨g1, g2⟩ := h1.fr h5 h4.1 h4.2.1 h4.2.2.1 (fun c e' hn hc => hfr c e' (fun z => hn (Or.inr z)) hc)
  exact ⟨g1, h2.fr (fun c e' hn hc => hfr c e' (hne.2 c hn).2.2.2 hc), cx_ps rfl, h4, g2, h6, h7, h8, h9, h10, h11⟩
/-- the reference went a step -/
theorem lw_B.rf (h : lw_B k G x mo ou ta b n cap f ft A us P M g c1 s1) (hW : rm_W k mo (lw_bb G M) G P G' P' M') : lw_B k G' x mo ou ta b n cap f ft A us P' M' g c1 s1 := by
  obtain ⟨h1, h2, h3, h4, h5, h6, h7, h8, h9, h10, h11⟩ := h
  obtain ⟨w1, w2, w3, w4, w5, w6, w7, w8, -⟩ := hW
  have w3' : 256 * G'.2.1 + (262144 - M'.2.2.2.1) + (32768 - M'.2.2.2.2) ≤ 256 * G.2.1 + (262144 - M.2.2.2.1) + (32768 - M.2.2.2.2) := w3
  have w4' : G'.2.2 + 2 * (262144 - M'.2.2.2.1) + 2 * (32768 - M'.2.2.2.2) ≤ G.2.2 + 2 * (262144 - M.2.2.2.1) + 2 * (32768 - M.2.2.2.2) := w4
  have hmv : ∀ c e', ¬ lw_S mo P ou c → G.1 c = some e' → ¬ lw_S mo P' ou c := fun c e' hn hc z => by
    rcases z with z | z
    · exact (w2 c e' (fun y => hn (Or.inl y)) hc).2 z
    · exact hn (Or.inr z)
  have hmv2 : ∀ c e', ¬ lw_S mo P ou c → G.1 c = some e' → ¬ (lw_S mo P ou c ∨ lw_S mo P' ou c) := fun c e' hn hc z => z.elim hn (hmv c e' hn hc)
  have hF' := ct_F.mo (S' := fun c => lw_S mo P ou c ∨ lw_S mo P' ou c) h1.2.2 h5 hmv2
  have hfr : ∀ c e', ¬ (lw_S mo P ou c ∨ lw_S mo P' ou c) → G.1 c = some e' → G'.1 c = some e' := fun c e' hn hc => (w2 c e' (fun y => hn (Or.inl (Or.inl y))) hc).1
  obtain ⟨g1, g2⟩ := h1.fr hF' (hmv2 _ _ h4.1 h1.1) (hmv2 _ _ h4.2.1 h1.2.1.1) (hmv2 _ _ h4.2.2.1 h1.2.1.2.1) hfr
  have hF2 : ct_F (lw_S mo P' ou) G' A us := ct_F.an (fun c hc => Or.inr hc) g2
  exact ⟨g1, w1, (w2 _ _ h4.2.2.2 h3).1, ⟨hmv _ _ h4.1 h1.1, hmv _ _ h4.2.1 h1.2.1.1, hmv _ _ h4.2.2.1 h1.2.1.2.1, (w2 _ _ h4.2.2.2 h3).2⟩, hF2, by omega, by omega, ⟨w5, w6, w7, w8⟩, h9, h10, h11⟩
/-- the class went a step that keeps all cells but its own -/
theorem lw_B.cl {b' n' cap' : Nat} {f' : Nat → Int32} {ft' : Int32} {A' : tx_A} {us' : List tx_U} (h : lw_B k G x mo ou ta b n cap f ft A us P M g c1 s1) (hR : ct_R k G' x ta b' n' cap' f' ft' A' us') (hb : b' = b ∨ G.1 b' = none) (hF : ct_F (lw_S mo P ou) G' A' us') (hfr : ∀ c e, c ≠ x → c ≠ ta → c ≠ b → G.1 c = some e → G'.1 c = some e) (hc : 256 * G'.2.1 + 2048 * n' + c1 ≤ 256 * G.2.1 + 2048 * n + c2) (hs : G'.2.2 + 120 * n' + s1 + 2 * cap ≤ G.2.2 + 120 * n + s2 + 2 * cap') (hcap : cap' ≤ 20480) (hc2 : c2 ≤ 40000000) (hs2 : s2 ≤ 5000000) : lw_B k G' x mo ou ta b' n' cap' f' ft' A' us' P M g c2 s2 := by
  have hne := h.ne
  obtain ⟨h1, h2, h3, h4, h5, h6, h7, h8, h9, h10, h11⟩ := h
  refine ⟨hR, h2.fr (fun c e' hn hc => hfr c e' (hne.2 c hn).1 (hne.2 c hn).2.1 (hne.2 c hn).2.2.1 hc), hfr _ _ hne.1.2.2 hne.1.1 hne.1.2.1 h3, ⟨h4.1, h4.2.1, ?_, h4.2.2.2⟩, hF, by omega, by omega, h8, hcap, hc2, hs2⟩
  rcases hb with z | z
  · rw [z]; exact h4.2.2.1
  · rintro (y | y)
    · obtain ⟨e, he⟩ := h2.has y
      rw [he] at z
      cases z
    · rw [y, h3] at z
      cases z
/-- .. and its modules stayed -/
theorem lw_B.F (h : lw_B k G x mo ou ta b n cap f ft A us P M g c1 s1) (hfr : ∀ c e, c ≠ x → c ≠ ta → c ≠ b → G.1 c = some e → G'.1 c = some e) : ct_F (lw_S mo P ou) G' A us := by
  obtain ⟨h1, h2, h3, h4, h5, -⟩ := h
  obtain ⟨q1, q2, q3, q4⟩ := h5
  refine ⟨q1, q2, q3, fun T a ha => ?_⟩
  obtain ⟨f1, f2, f3⟩ := q4 T a ha
  obtain ⟨tb, x1, x2, x3, x4, gg, g1, g2, g3, g4⟩ := h1.2.2.2.2.2.2.1 T a ha
  refine ⟨f1, f2, fun tb' fs hq => ?_⟩
  have hax : a ≠ x := fun z => by rw [z, h1.1] at g1; cases g1
  have hat : a ≠ ta := fun z => by rw [z, h1.2.1.1] at g1; cases g1
  have hab : a ≠ b := fun z => by rw [z, h1.2.1.2.1] at g1; cases g1
  rw [hfr _ _ hax hat hab g1] at hq
  cases hq
  exact f3 tb _ g1
end LWB

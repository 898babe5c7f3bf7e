/-! THE LAW: each call, of the class and of the reference. -/
section LWO
variable {k : cx_K} {G G' : cx_G} {x mo ou ta b n cap c1 s1 : Nat} {f : Nat → Int32} {ft : Int32} {A : tx_A} {us : List tx_U} {P P' : Nat → Nat} {M M' : rm_M} {g : Nat → Int64} {r : cx_R} {m q w v kk : Int32}
theorem lw_o0 {av : Nat → Int32} (hB : lw_B k G x mo ou ta b n cap f ft A us P M g c1 s1) (hn : n + 20 ≤ 10240) (hc : c1 + 50000 ≤ 40000000) (hs : s1 + 2500 ≤ 5000000) (hq : ∃ Gc, ct_pf k G x ta b n cap f ft A us av 5 Gc ∧ r = .inl (some (.int 0)) ∧ G' = lw_pt k Gc ou g (nI (n + 20)).toInt64) : ∃ b' cap' f', r = .inl (some (.int 0)) ∧ lw_B k G' x mo ou ta b' (n + 20) cap' f' ft A us P M (vp_updL g 0 (nI (n + 20)).toInt64) (c1 + 50000) (s1 + 2500) ∧ (∀ j, j < n → f' j = f j) ∧ ∀ i, i < 5 → ∀ j, j < 4 → f' (n + 4 * i + j) = ct_by (av i) (ct_sh j) := by
  obtain ⟨Gc, ⟨b', cap', f', p1, p2, p3, p4, p5, p6, p7, p8, p9, p10, p11⟩, hr, rfl⟩ := hq
  have hcap := hB.2.2.2.2.2.2.2.2.1
  have hfr : ∀ c e, c ≠ x → c ≠ ta → c ≠ b → G.1 c = some e → Gc.1 c = some e := fun c e _ h2 h3 h => p5 c e h2 h3 h
  have h1 := hB.cl (c2 := c1 + 50000) (s2 := s1 + 2500) p1 p4 (hB.F hfr) hfr (by omega) (by omega) (by rcases p11 with z | z <;> omega) hc hs
  exact ⟨b', cap', f', hr, h1.pt _, p2, p3⟩
theorem lw_o1 (hB : lw_B k G x mo ou ta b n cap f ft A us P M g c1 s1) (hn : n ≤ 10240) (hc : c1 + 256 ≤ 40000000) (hs : s1 + 6 ≤ 5000000) (hq : (¬ v < 0 ∧ v ≤ nI n ∧ r = .inl (some (.int 0)) ∧ ct_R k G' x ta b v.toNatClampNeg cap f ft A us ∧ G'.2 = G.2 ∧ ∀ c e, c ≠ ta → G.1 c = some e → G'.1 c = some e) ∨ ((v < 0 ∨ ¬ v ≤ nI n) ∧ r = .inl (some (.int 1)) ∧ lw_mk G G')) : ∃ kk n', r = .inl (some (.int kk)) ∧ n' ≤ n ∧ lw_B k G' x mo ou ta b n' cap f ft A us P M g (c1 + 256) (s1 + 6) ∧ ((kk = 0 ∧ ¬ v < 0 ∧ v ≤ nI n ∧ n' = v.toNatClampNeg) ∨ (kk = 1 ∧ (v < 0 ∨ ¬ v ≤ nI n) ∧ n' = n)) := by
  rcases hq with ⟨h1, h2, h3, h4, h5, h6⟩ | ⟨h1, h2, h3⟩
  · have hn' : v.toNatClampNeg ≤ n := by
      obtain ⟨j, hj, rfl⟩ := nI_of h1
      rw [nI_clamp hj]
      exact (nI_leI hj (by omega)).mp h2
    have hfr : ∀ c e, c ≠ x → c ≠ ta → c ≠ b → G.1 c = some e → G'.1 c = some e := fun c e _ z _ h => h6 c e z h
    have hB' := hB.cl (c2 := c1 + 256) (s2 := s1 + 6) h4 (Or.inl rfl) (hB.F hfr) hfr (by rw [h5]; omega) (by rw [h5]; omega) hB.2.2.2.2.2.2.2.2.1 hc hs
    exact ⟨0, v.toNatClampNeg, h3, hn', hB', Or.inl ⟨rfl, h1, h2, rfl⟩⟩
  · exact ⟨1, n, h2, Nat.le_refl _, hB.mk h3 hc hs, Or.inr ⟨rfl, h1, rfl⟩⟩
theorem lw_sr1 {n' : Nat} (hk : (kk = 0 ∧ ¬ v < 0 ∧ v ≤ nI n ∧ n' = v.toNatClampNeg) ∨ (kk = 1 ∧ (v < 0 ∨ ¬ v ≤ nI n) ∧ n' = n)) (hM : (¬ v < 0 ∧ v ≤ nI n ∧ M'.1 0 = 0 ∧ rr_I M' v.toNatClampNeg f ft us) ∨ ((v < 0 ∨ ¬ v ≤ nI n) ∧ M'.1 0 = 1 ∧ rr_I M' n f ft us)) : M'.1 0 = kk ∧ rr_I M' n' f ft us := by
  rcases hk with ⟨k1, k2, k3, k4⟩ | ⟨k1, k2, k3⟩
  · rcases hM with ⟨h1, h2, h3, h4⟩ | ⟨h1, -⟩
    · rw [k1, k4]
      exact ⟨h3, h4⟩
    · exact absurd h1 (fun z => z.elim (fun y => k2 y) (fun y => y k3))
  · rcases hM with ⟨h1, h2, -⟩ | ⟨h1, h3, h4⟩
    · exact absurd k2 (fun z => z.elim (fun y => h1 y) (fun y => y h2))
    · rw [k1, k3]
      exact ⟨h3, h4⟩
theorem lw_o2 (hB : lw_B k G x mo ou ta b n cap f ft A us P M g c1 s1) (hn : n ≤ 10240) (hc : c1 + 50000 ≤ 40000000) (hs : s1 + 2500 ≤ 5000000) (hq : ct_pr k G x ta b n cap f A us r G') : ∃ A', r = .inl (some (.int (ct_rd n f us).1)) ∧ lw_B k G' x mo ou ta b 0 cap f (ct_rd n f us).2.1 A' (ct_rd n f us).2.2 P M g (c1 + 50000) (s1 + 2500) := by
  obtain ⟨A', p1, p2, p3, p4, p5, p6⟩ := hq
  have hfr : ∀ c e, c ≠ x → c ≠ ta → c ≠ b → G.1 c = some e → G'.1 c = some e := fun c e z1 z2 _ h => p4 c e z1 z2 h
  have hF : ct_F (lw_S mo P ou) G' A' (ct_rd n f us).2.2 := by
    rcases p3 with ⟨z1, z2⟩ | z
    · rw [z1, z2]
      exact hB.F hfr
    · refine z.an (fun c hc => ?_)
      rcases hc with y | y
      · exact hB.2.1.has y
      · rw [y]
        exact ⟨_, hB.2.2.1⟩
  exact ⟨A', p1, hB.cl (c2 := c1 + 50000) (s2 := s1 + 2500) p2 (Or.inl rfl) hF hfr (by omega) (by omega) hB.2.2.2.2.2.2.2.2.1 hc hs⟩
/-- a query: what both must answer -/
theorem lw_o5 (hB : lw_B k G x mo ou ta b n cap f ft A us P M g c1 s1) (hc : c1 + 256 ≤ 40000000) (hs : s1 + 6 ≤ 5000000) (hq : (ct_ix m us.length = none ∧ r = .inl (some (.int 1)) ∧ lw_mk G G') ∨ (∃ j, ct_ix m us.length = some j ∧ ct_md (us.getD j tx_u0) w = none ∧ r = .inl (some (.int 2)) ∧ lw_mk G G') ∨ ∃ j v, ct_ix m us.length = some j ∧ ct_md (us.getD j tx_u0) w = some v ∧ r = .inl (some (.int 0)) ∧ G' = lw_pt k G ou g v.toInt64) : ∃ kk g', r = .inl (some (.int kk)) ∧ lw_B k G' x mo ou ta b n cap f ft A us P M g' (c1 + 256) (s1 + 6) ∧ ∀ v M', rr_pm us m w M v M' → M' = rp_int M 0 kk ∧ (kk = 0 → g' 0 = v.toInt64) := by
  rcases hq with ⟨h1, h2, h3⟩ | ⟨j, h1, h2, h3, h4⟩ | ⟨j, v, h1, h2, h3, h4⟩
  · refine ⟨1, g, h2, hB.mk h3 hc hs, fun v M' hp => ?_⟩
    simp only [rr_pm, h1] at hp
    exact ⟨hp, fun z => absurd z (by decide)⟩
  · refine ⟨2, g, h3, hB.mk h4 hc hs, fun v M' hp => ?_⟩
    simp only [rr_pm, h1, h2] at hp
    exact ⟨hp, fun z => absurd z (by decide)⟩
  · refine ⟨0, _, h3, by rw [h4]; exact (hB.pt _).le (by omega) (by omega) hc hs, fun v' M' hp => ?_⟩
    simp only [rr_pm, h1, h2] at hp
    exact ⟨hp.2, fun _ => by rw [hp.1]; exact pk_uLs⟩
theorem lw_o6 (hB : lw_B k G x mo ou ta b n cap f ft A us P M g c1 s1) (hc : c1 + 256 ≤ 40000000) (hs : s1 + 6 ≤ 5000000) (hq : (ct_np us m q = none ∧ r = .inl (some (.int 1)) ∧ lw_mk G G') ∨ (∃ y, ct_np us m q = some y ∧ ct_dc (ct_nm us y) w = none ∧ r = .inl (some (.int 2)) ∧ lw_mk G G') ∨ ∃ y v, ct_np us m q = some y ∧ ct_dc (ct_nm us y) w = some v ∧ r = .inl (some (.int 0)) ∧ G' = lw_pt k G ou g v.toInt64) : ∃ kk g', r = .inl (some (.int kk)) ∧ lw_B k G' x mo ou ta b n cap f ft A us P M g' (c1 + 256) (s1 + 6) ∧ ∀ v M', rr_pd us m q w M v M' → M' = rp_int M 0 kk ∧ (kk = 0 → g' 0 = v.toInt64) := by
  rcases hq with ⟨h1, h2, h3⟩ | ⟨j, h1, h2, h3, h4⟩ | ⟨j, v, h1, h2, h3, h4⟩
  · refine ⟨1, g, h2, hB.mk h3 hc hs, fun v M' hp => ?_⟩
    simp only [rr_pd, h1] at hp
    exact ⟨hp, fun z => absurd z (by decide)⟩
  · refine ⟨2, g, h3, hB.mk h4 hc hs, fun v M' hp => ?_⟩
    simp only [rr_pd, h1, h2] at hp
    exact ⟨hp, fun z => absurd z (by decide)⟩
  · refine ⟨0, _, h3, by rw [h4]; exact (hB.pt _).le (by omega) (by omega) hc hs, fun v' M' hp => ?_⟩
    simp only [rr_pd, h1, h2] at hp
    exact ⟨hp.2, fun _ => by rw [hp.1]; exact pk_uLs⟩
theorem lw_o7 (hB : lw_B k G x mo ou ta b n cap f ft A us P M g c1 s1) (hc : c1 + 256 ≤ 40000000) (hs : s1 + 6 ≤ 5000000) (hq : (ct_np us m q = none ∧ r = .inl (some (.int 1)) ∧ lw_mk G G') ∨ ∃ y, ct_np us m q = some y ∧ r = .inl (some (.int 0)) ∧ G' = lw_pt k G ou g (ct_nm us y).2.2.2.2.1) : ∃ kk g', r = .inl (some (.int kk)) ∧ lw_B k G' x mo ou ta b n cap f ft A us P M g' (c1 + 256) (s1 + 6) ∧ ∀ v M', rr_pb us m q M v M' → M' = rp_int M 0 kk ∧ (kk = 0 → g' 0 = v) := by
  rcases hq with ⟨h1, h2, h3⟩ | ⟨j, h1, h3, h4⟩
  · refine ⟨1, g, h2, hB.mk h3 hc hs, fun v M' hp => ?_⟩
    simp only [rr_pb, h1] at hp
    exact ⟨hp, fun z => absurd z (by decide)⟩
  · refine ⟨0, _, h3, by rw [h4]; exact (hB.pt _).le (by omega) (by omega) hc hs, fun v' M' hp => ?_⟩
    simp only [rr_pb, h1] at hp
    exact ⟨hp.2, fun _ => by rw [hp.1]; exact pk_uLs⟩
theorem ct_fw_u {u : tx_U} {v v' : Int32} (h : ct_fw n f u v) (h' : ct_fw n f u v') : v = v' := by
  rcases h with ⟨h1, h2⟩ | ⟨q, h1, h2, h3, h4⟩
  · rcases h' with ⟨g1, g2⟩ | ⟨p, g1, g2, g3, g4⟩
    · rw [h1, g1]
    · exact absurd g3 (h2 p g1)
  · rcases h' with ⟨g1, g2⟩ | ⟨p, g1, g2, g3, g4⟩
    · exact absurd h3 (g2 q h1)
    · have : q = p := by
        rcases Nat.lt_trichotomy q p with z | z | z
        · exact absurd h3 (g4 q z)
        · exact z
        · exact absurd g3 (h4 p z)
      rw [h2, g2, this]
theorem lw_o8 (hB : lw_B k G x mo ou ta b n cap f ft A us P M g c1 s1) (hc : c1 + 256 ≤ 40000000) (hs : s1 + 6 ≤ 5000000) (hq : (ct_ix m us.length = none ∧ r = .inl (some (.int 1)) ∧ lw_mk G G') ∨ ∃ j v Gc, ct_ix m us.length = some j ∧ ct_fw n f (us.getD j tx_u0) v ∧ ct_R k Gc x ta b 0 cap f ft A us ∧ Gc.2 = G.2 ∧ (∀ c e, c ≠ ta → G.1 c = some e → Gc.1 c = some e) ∧ r = .inl (some (.int 0)) ∧ G' = lw_pt k Gc ou g v.toInt64) : ∃ kk g' n', n' ≤ n ∧ r = .inl (some (.int kk)) ∧ lw_B k G' x mo ou ta b n' cap f ft A us P M g' (c1 + 256) (s1 + 6) ∧ ∀ v M', rr_I M n f ft us → rr_pq us n f m M v M' → M'.1 0 = kk ∧ rr_I M' n' f ft us ∧ (kk = 0 → g' 0 = v.toInt64) := by
  rcases hq with ⟨h1, h2, h3⟩ | ⟨j, v, Gc, h1, h2, h3, h4, h5, h6, h7⟩
  · refine ⟨1, g, n, Nat.le_refl _, h2, hB.mk h3 hc hs, fun v M' hI hp => ?_⟩
    simp only [rr_pq, h1] at hp
    rw [hp]
    exact ⟨rfl, hI.z 1, fun z => absurd z (by decide)⟩
  · have hfr : ∀ c e, c ≠ x → c ≠ ta → c ≠ b → G.1 c = some e → Gc.1 c = some e := fun c e _ z _ h => h5 c e z h
    have hB' := hB.cl (c2 := c1 + 256) (s2 := s1 + 6) h3 (Or.inl rfl) (hB.F hfr) hfr (by rw [h4]; omega) (by rw [h4]; omega) hB.2.2.2.2.2.2.2.2.1 hc hs
    refine ⟨0, _, 0, Nat.zero_le _, h6, by rw [h7]; exact hB'.pt _, fun v' M' hI hp => ?_⟩
    simp only [rr_pq, h1] at hp
    rw [hp.2]
    exact ⟨rfl, (hI.z 0).cut (Nat.zero_le _), fun _ => by rw [ct_fw_u hp.1 h2]; exact pk_uLs⟩
end LWO
/-! The script. -/
def lw_X (E : cx_E) (sc L : Nat) (xs : Nat → Int32) : Prop :=
  match E with
  | (k, (_, _, _, _, s, _, _, _, _, _), _, _, _, _, _) => va_X sc L xs s s.heap ∧ sc < s.heap.size ∧ ¬ cx_A k sc
section LWX
variable {E : cx_E} {k : cx_K} {l : Launch} {fr : Nat} {M : cx_M} {G0 : cx_G} {Post : cx_R → cx_G → Prop} {pc : Nat} {lv : cx_L} {st : List Value} {G : cx_G} {sc L : Nat} {xs : Nat → Int32} {i : Int32}
theorem cx_sld (hE : cx_C E k l fr M G0 Post) (hX : lw_X E sc L xs) (hd : decode M.2.1 pc = .ok (.iaload, 1)) (hi : vp_in i L) (h : cx_V E (pc + 1) lv (.int (xs i.toNatClampNeg) :: st) G) : cx_V E pc lv (.int i :: .ref sc :: st) G := by
  obtain ⟨k', ⟨p, l', e, R, s, m, args, below, meth, c⟩, nL', fr', c0, s0, Q⟩ := E
  obtain ⟨hx, hb, hml, rfl, hown, hSt, rfl, -, hb0, -, -, hrc, hrs, -, -, -, -, -, -, rfl, rfl, -⟩ := hE
  obtain ⟨x1, x2, x3⟩ := hX
  intro H locs ls cells slots h1 h2 h3 h4 h5
  exact va_sld hx hb x1 x2 x3 h2 hi hd (h H locs ls cells slots h1 h2 h3 h4 h5)
theorem cx_slen (hE : cx_C E k l fr M G0 Post) (hX : lw_X E sc L xs) (hd : decode M.2.1 pc = .ok (.arraylength, 1)) (h : cx_V E (pc + 1) lv (.int (nI L) :: st) G) : cx_V E pc lv (.ref sc :: st) G := by
  obtain ⟨k', ⟨p, l', e, R, s, m, args, below, meth, c⟩, nL', fr', c0, s0, Q⟩ := E
  obtain ⟨hx, hb, hml, rfl, hown, hSt, rfl, -, hb0, -, -, hrc, hrs, -, -, -, -, -, -, rfl, rfl, -⟩ := hE
  obtain ⟨x1, x2, x3⟩ := hX
  intro H locs ls cells slots h1 h2 h3 h4 h5
  exact va_slen hx hb x1 x2 x3 h2 hd (h H locs ls cells slots h1 h2 h3 h4 h5)
end LWX

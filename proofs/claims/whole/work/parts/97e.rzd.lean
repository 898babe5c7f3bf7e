/-! THE SECOND PASS: a declaration. -/
section RZE
variable {n N : Nat} {T : List tx_Tk} {s s1 : tx_S} {M0 M M' : rm_M} {u : tx_U} {lo li fa a fs b5 lk i i' p b I f c dp : Nat} {e v : Int32 × Int32}
/-- the names of the module change, their kinds and texts and blocks don't -/
theorem rz_U.mn {q dp' : Nat} {g : tx_N → tx_N} (h : rz_U T s M u lo li fa a fs b5 lk i dp) (hi : i ≤ i') (hg1 : ∀ r, (g r).2.1 = r.2.1) (hg2 : ∀ r, (g r).1 = r.1) (hg3 : ∀ r, (g r).2.2.2.2.2.2.1 = r.2.2.2.2.2.2.1) (hn : ∀ j, j = 12 ∨ j = 18 ∨ j = 27 ∨ j = 31 ∨ j = 35 ∨ j = 38 → M'.1 j = M.1 j) (hr : ∀ j, j = 13 ∨ j = 14 ∨ j = 15 ∨ j = 16 ∨ j = 17 ∨ j = 19 ∨ j = 26 ∨ j = 29 → M'.2.1 j = M.2.1 j) (hlow : ∀ j, j = 20 ∨ j = 21 ∨ j = 23 → ∀ k, k < lo → M'.2.1 j k = M.2.1 j k) (hlow2 : ∀ k, k < li → M'.2.1 28 k = M.2.1 28 k) (hl : ∀ k, k < lo → M'.2.2.1 22 k = M.2.2.1 22 k) (h56 : M'.2.2.1 56 = M.2.2.1 56)
    (hs : ∀ (x : Nat) (r : tx_N), u.2.2.1[x]? = some r → rt_sg r = true → rt_sig T M (lo + rt_k u.2.2.1 x) r → rt_sig T M' (lo + rt_k u.2.2.1 x) (if x = q then g r else r)) (hin : ∀ (x : Nat) (r : tx_N), u.2.2.1[x]? = some r → rt_sg r = false → rt_ins T M (li + rt_j u.2.2.1 x) r → rt_ins T M' (li + rt_j u.2.2.1 x) (if x = q then g r else r)) (hct : rt_ct M' lo dp' (tx_nq q g u)) (v : Int32 × Int32) (hg4 : ∀ r, (g r).2.2.2.2.2.2.2.2.2 = r.2.2.2.2.2.2.2.2.2 := by exact fun _ => rfl) : rz_U T (v, (s.mn s.2.1.length q g).2) M' (tx_nq q g u) lo li fa a fs b5 lk i' dp' := by
  obtain ⟨h1, h2, h3, h4, h5, h6, h7, h8, h9, h10, h11, h12, h13, h14, h15, h16, h17, h18, h19⟩ := h
  obtain ⟨m1, m2, m3⟩ := rt_mod (L := u.2.2.1) (q := q) hg1
  have m4 : (u.2.2.1.modify q g).countP (fun r => !rt_sg r) = u.2.2.1.countP (fun r => !rt_sg r) := by
    have e : ∀ L : List tx_N, L.countP (fun r => !rt_sg r) = (rt_kk L).countP (fun k => !decide (¬ k = 5)) := fun L => by
      unfold rt_kk rt_sg
      rw [List.countP_map]
      rfl
    rw [e, e, rt_kk_mod hg1]
  have gx : ∀ (x : Nat) (r : tx_N), (u.2.2.1.modify q g)[x]? = some r → ∃ r0, u.2.2.1[x]? = some r0 ∧ (r = r0 ∨ r = g r0) := by
    intro x r hx
    rw [tx_gm] at hx
    by_cases z : x = q
    · rw [if_pos z] at hx
      cases hu : u.2.2.1[x]? with
      | none => rw [hu] at hx; cases hx
      | some r0 =>
        rw [hu] at hx
        cases hx
        exact ⟨r0, rfl, Or.inr rfl⟩
    · rw [if_neg z] at hx
      exact ⟨r, hx, Or.inl rfl⟩
  have hsg : ∀ r0, rt_sg (g r0) = rt_sg r0 := fun r0 => by unfold rt_sg; rw [hg1]
  have hC := h1.mn (q := q) (M' := M') hg1 hg2 (hn 12 (by simp)) (hn 18 (by simp)) (fun j hj => hr j (by omega)) hs hin v
  have hlen : (v, (s.mn s.2.1.length q g).2).2.1.length = s.2.1.length := by
    rw [tx_mn_cu]
  have hall : (v, (s.mn s.2.1.length q g).2).2.1 = s.2.1 := by
    rw [tx_mn_cu]
  have hlook : (v, (s.mn s.2.1.length q g).2).2.2.2 = s.2.2.2 := by
    rw [tx_mn_cu]
  refine ⟨hC, ⟨?_, h2.2.1, h2.2.2.1, fun x r hx hrs => ?_⟩, by rw [hn 38 (by simp)]; exact h3, by omega, ?_, ?_, ?_, ?_, by rw [hn 35 (by simp)]; exact h9, h10, by omega, by rw [hn 31 (by simp)]; exact h12, by omega, fun x r hx => ?_, hct, ?_, ?_, ?_, ?_⟩
  · rw [hlen, hr 17 (by simp)]; exact h2.1
  · obtain ⟨r0, g1, g2⟩ := gx x r hx
    show (_ ∧ M'.2.1 26 (lo + rt_k (u.2.2.1.modify q g) x) = 0) ∨ ∃ v, 1 ≤ v ∧ v ≤ 10241 ∧ r.2.2.2.2.2.2.1 = nI v ∧ M'.2.1 26 (lo + rt_k (u.2.2.1.modify q g) x) = nI (fa + v)
    rw [m2, hr 26 (by simp)]
    have hr0 : rt_sg r0 = true := by
      rcases g2 with g2 | g2
      · rw [← g2]; exact hrs
      · rw [g2, hsg] at hrs; exact hrs
    have e : r.2.2.2.2.2.2.1 = r0.2.2.2.2.2.2.1 := by
      rcases g2 with g2 | g2
      · rw [g2]
      · rw [g2, hg3]
    rw [e]
    exact h2.2.2.2 x r0 g1 hr0
  · rw [hn 27 (by simp), h5]
    show nI _ = nI (li + (u.2.2.1.modify q g).countP (fun r => !rt_sg r))
    rw [m4]
  · show li + (u.2.2.1.modify q g).countP (fun r => !rt_sg r) ≤ i'
    rw [m4]; omega
  · show lo + (u.2.2.1.modify q g).countP rt_sg ≤ i'
    rw [m1]; omega
  · rw [hlen, hr 16 (by simp)]; exact h8
  · obtain ⟨r0, g1, g2⟩ := gx x r hx
    have hyq : ∀ (x : Nat) (r r0 : tx_N), (r = r0 ∨ r = g r0) → rt_yq M' lo li (u.2.2.1.modify q g) x r = rt_yq M lo li u.2.2.1 x r0 := by
      intro x r r0 e
      unfold rt_yq
      rw [m2, m3, hr 19 (by simp), hr 29 (by simp)]
      rcases e with e | e
      · rw [e]
      · rw [e, hsg]
    obtain ⟨y0, k1, k2, k3⟩ := h14 x r0 g1
    refine ⟨y0, by rw [show (tx_nq q g u).2.2.1 = u.2.2.1.modify q g from rfl, hyq x r r0 g2]; exact k1, by omega, fun x' r' hx' hlt => ?_⟩
    obtain ⟨r0', g1', g2'⟩ := gx x' r' hx'
    obtain ⟨y', k4, k5⟩ := k3 x' r0' g1' hlt
    exact ⟨y', by rw [show (tx_nq q g u).2.2.1 = u.2.2.1.modify q g from rfl, hyq x' r' r0' g2']; exact k4, k5⟩
  · obtain ⟨y, y1, y2⟩ := h16
    exact ⟨y, by rw [hlen, hr 13 (by simp)]; exact y1, y2⟩
  · rw [hlen]; omega
  · intro j w hw
    rw [hall] at hw
    refine (h18 j w hw).to (tx_len hw) ⟨fun j _ => by rw [hr 13 (by simp)], fun r hr' j _ => by rw [hr r (by omega)], fun r hr' j hj => ?_, fun r hr' j hj => ?_, hl, fun j _ => by rw [h56]⟩ (Nat.le_refl _) (Nat.le_refl _)
    · rcases hr' with rfl | rfl | rfl | rfl
      · rw [hr 19 (by simp)]
      · exact hlow 20 (by simp) j hj
      · exact hlow 21 (by simp) j hj
      · exact hlow 23 (by simp) j hj
    · rcases hr' with rfl | rfl
      · exact hlow2 j hj
      · rw [hr 29 (by simp)]
  · exact h19.mp (s1 := (v, (s.mn s.2.1.length q g).2)) hall hlook (g := tx_nq q g) (by rw [tx_mn_cu]) (fun _ => rfl) (fun u => rt_nq_len u q g) (fun _ _ _ h => rt_lb_nq hg4 h)
/-- a local is declared -/
theorem rz_U.dc {kd w : Int32} {X : List Int32} (h : rz_U T s M u lo li fa a fs b5 lk i dp) (h8 : M.1 8 = nI i) (hi : i < T.length) (hT : T.length ≤ 10241) (k19 : tx_ki T i = 19) (hX : (tx_ta T i).2.2.2.1 = some X) (hda : s.da (some X) = none) (hw : rx_wd w) (hkd : kd = 0 ∨ kd = 1 ∨ kd = 2 ∨ kd = 3 ∨ kd = 4) (hdp : dp = if kd < 3 then 2 else 0) : rz_U T (s.ad (tx_new0 (tx_ta T i) kd w)) (rp_dc M (lo + u.2.2.1.countP rt_sg) kd w) (tx_adn (tx_new0 (tx_ta T i) kd w) u) lo li fa a fs b5 lk (i + 1) (dp + if kd < 3 then 1 else 0) := by
  obtain ⟨h1, h2, h3, h4, h5, h6, h7, h8', h9, h10, h11, h12, h13, h14, h15, h16, h17, h18, h19⟩ := h
  generalize hk : lo + u.2.2.1.countP rt_sg = k at *
  have hsg : rt_sg (tx_new0 (tx_ta T i) kd w) = true := by
    show decide (¬ kd = 5) = true
    rcases hkd with rfl | rfl | rfl | rfl | rfl <;> rfl
  have cn1 : (u.2.2.1 ++ [tx_new0 (tx_ta T i) kd w]).countP rt_sg = u.2.2.1.countP rt_sg + 1 := by
    rw [List.countP_append, List.countP_cons_of_pos hsg]
    rfl
  have cn2 : (u.2.2.1 ++ [tx_new0 (tx_ta T i) kd w]).countP (fun r => !rt_sg r) = u.2.2.1.countP (fun r => !rt_sg r) := by
    rw [List.countP_append, List.countP_cons_of_neg (by simp [hsg])]
    rfl
  have r19 : ∀ j, j ≠ k → (rp_dc M k kd w).2.1 19 j = M.2.1 19 j := fun j hj => pk_un hj
  have r20 : ∀ j, j ≠ k → (rp_dc M k kd w).2.1 20 j = M.2.1 20 j := fun j hj => pk_un hj
  have r21 : ∀ j, j ≠ k → (rp_dc M k kd w).2.1 21 j = M.2.1 21 j := fun j hj => pk_un hj
  have r23 : ∀ j, j ≠ k → (rp_dc M k kd w).2.1 23 j = M.2.1 23 j := fun j hj => pk_un hj
  have r26 : ∀ j, j ≠ k → (rp_dc M k kd w).2.1 26 j = M.2.1 26 j := fun j hj => pk_un hj
  have l22 : ∀ j, j ≠ k → (rp_dc M k kd w).2.2.1 22 j = M.2.2.1 22 j := fun j hj => pk_uLn hj
  have s19 : (rp_dc M k kd w).2.1 19 k = M.1 8 := pk_us
  have s20 : (rp_dc M k kd w).2.1 20 k = w := pk_us
  have s21 : (rp_dc M k kd w).2.1 21 k = kd := pk_us
  have s23 : (rp_dc M k kd w).2.1 23 k = 0 := pk_us
  have s26 : (rp_dc M k kd w).2.1 26 k = 0 := pk_us
  have t22 : (rp_dc M k kd w).2.2.1 22 k = 0 := pk_uLs
  have hL : rt_L T (rp_dc M k kd w) lo li u.2.2.1 := h1.2.2.2.2.2.2.2.1.to (A := k) (B := li + u.2.2.1.countP (fun r => !rt_sg r)) (by omega) (Nat.le_refl _) (fun x hx j hj => by
    rcases hx with rfl | rfl | rfl | rfl
    · exact r19 j (by omega)
    · exact r20 j (by omega)
    · exact r21 j (by omega)
    · exact r23 j (by omega)) (fun x hx j hj => by rcases hx with rfl | rfl <;> rfl) (fun j hj => l22 j (by omega))
  refine ⟨?_, ⟨h2.1, h2.2.1, h2.2.2.1, fun x r hx hrs => ?_⟩, h3, by omega, ?_, ?_, ?_, h8', h9, h10, by omega, h12, by omega, ?_, ⟨?_, ?_, ?_, ?_⟩, h16, by show 3 * s.2.1.length + 3 ≤ _; omega, fun j w' hw' => ?_, h19.1, h19.2.1, fun Y y hY => ?_, fun u' Y hu' hY' => ?_, ?_⟩
  · refine h1.ad (M' := rp_dc M k kd w) (r0 := tx_new0 (tx_ta T i) kd w) hX hda rfl ?_ (by rw [cn1]; omega) (fun j hj => by rcases hj with rfl | rfl <;> rfl) hL (fun _ => ?_) (fun z => by rw [hsg] at z; cases z) s.1
    · rw [cn1, ← Nat.add_assoc, hk]
      rfl
    · rw [hk]
      refine ⟨⟨i, by rw [s19]; exact h8, hi, k19, rfl, rfl⟩, s20, hw, s21, t22, ?_, hkd, rfl⟩
      rw [s23]
      exact ⟨fun _ => rfl, fun _ => rfl⟩
  · have hx' : (u.2.2.1 ++ [tx_new0 (tx_ta T i) kd w])[x]? = some r := hx
    show (_ ∧ (rp_dc M k kd w).2.1 26 (lo + rt_k (u.2.2.1 ++ [tx_new0 (tx_ta T i) kd w]) x) = 0) ∨ ∃ v, 1 ≤ v ∧ v ≤ 10241 ∧ r.2.2.2.2.2.2.1 = nI v ∧ (rp_dc M k kd w).2.1 26 (lo + rt_k (u.2.2.1 ++ [tx_new0 (tx_ta T i) kd w]) x) = nI (fa + v)
    rcases rt_app hx' with ⟨z1, z2⟩ | ⟨z1, z2⟩
    · have hlt := rt_lt z2 hrs
      have e : rt_k (u.2.2.1 ++ [tx_new0 (tx_ta T i) kd w]) x = rt_k u.2.2.1 x := by
        unfold rt_k
        rw [rt_take (by omega)]
      rw [e, r26 _ (by unfold rt_k; omega)]
      exact h2.2.2.2 x r z2 hrs
    · left
      have e : rt_k (u.2.2.1 ++ [tx_new0 (tx_ta T i) kd w]) x = u.2.2.1.countP rt_sg := by
        unfold rt_k
        rw [z1, rt_take (Nat.le_refl _), List.take_length]
      rw [e, hk, s26, z2]
      exact ⟨rfl, rfl⟩
  · show M.1 27 = nI (li + (u.2.2.1 ++ [tx_new0 (tx_ta T i) kd w]).countP (fun r => !rt_sg r))
    rw [cn2]; exact h5
  · show li + (u.2.2.1 ++ [tx_new0 (tx_ta T i) kd w]).countP (fun r => !rt_sg r) ≤ i + 1
    rw [cn2]; omega
  · show lo + (u.2.2.1 ++ [tx_new0 (tx_ta T i) kd w]).countP rt_sg ≤ i + 1
    rw [cn1]; omega
  · refine h14.ad (M' := rp_dc M k kd w) (i' := i + 1) (y := i) (fun j hj => r19 j (by omega)) (fun j hj => rfl) ?_ (Nat.le_refl _) (by omega)
    rw [if_pos hsg, hk, s19]
    exact h8
  · obtain ⟨⟨x, x1, x2⟩, -⟩ := h15
    refine ⟨x, x1, ?_⟩
    show x + (dp + if kd < 3 then 1 else 0) % 2 = rt_cn _ lo ((u.2.2.1 ++ [tx_new0 (tx_ta T i) kd w]).countP rt_sg)
    rw [cn1]
    show _ = rt_cn _ lo (u.2.2.1.countP rt_sg) + (if decide ((rp_dc M k kd w).2.1 21 (lo + u.2.2.1.countP rt_sg) < 3) = true then 1 else 0)
    rw [hk, s21, rt_cn_eq (g := fun k => decide (M.2.1 21 k < 3)) (fun j _ hj => by rw [r21 j (by omega)]), ← x2]
    by_cases z : kd < 3
    · rw [if_pos z] at hdp ⊢
      rw [if_pos (decide_eq_true z), hdp]
    · rw [if_neg z] at hdp ⊢
      rw [if_neg (by simp [z]), hdp]
  · obtain ⟨-, x2, -⟩ := h15
    show u.2.2.2.2.1 = nI (rt_cn _ lo ((u.2.2.1 ++ [tx_new0 (tx_ta T i) kd w]).countP rt_sg))
    rw [cn1, x2]
    congr 1
    show _ = rt_cn _ lo (u.2.2.1.countP rt_sg) + (if decide ((rp_dc M k kd w).2.1 23 (lo + u.2.2.1.countP rt_sg) = 1) = true then 1 else 0)
    rw [hk, s23, rt_cn_eq (g := fun k => decide (M.2.1 23 k = 1)) (g' := fun x => decide ((rp_dc M k kd w).2.1 23 x = 1)) (fun j _ hj => by rw [r23 j (by omega)])]
    rfl
  · show u.2.2.2.2.2.2.1 = nI ((u.2.2.1 ++ [tx_new0 (tx_ta T i) kd w]).countP (fun r => !rt_sg r))
    rw [cn2]; exact h15.2.2.1
  · have hpf := h15.2.2.2
    refine ⟨fun hd x r hx => ?_, fun x x' r r' hx hx' hlt h3 => ?_⟩
    · have hx2 : (u.2.2.1 ++ [tx_new0 (tx_ta T i) kd w])[x]? = some r := hx
      have z : kd < 3 := by
        by_cases z : kd < 3
        · exact z
        · rw [if_neg z] at hdp hd
          omega
      rw [if_pos z] at hdp
      rcases rt_app hx2 with ⟨z1, z2⟩ | ⟨z1, z2⟩
      · exact hpf.1 (by omega) x r z2
      · rw [z2]; exact z
    · have hx2 : (u.2.2.1 ++ [tx_new0 (tx_ta T i) kd w])[x]? = some r := hx
      have hx2' : (u.2.2.1 ++ [tx_new0 (tx_ta T i) kd w])[x']? = some r' := hx'
      rcases rt_app hx2 with ⟨z1, z2⟩ | ⟨z1, z2⟩
      · rcases rt_app hx2' with ⟨y1, y2⟩ | ⟨y1, y2⟩
        · exact hpf.2 x x' r r' z2 y2 hlt h3
        · have z : kd < 3 := by
            rw [y2] at h3
            exact h3
          rw [if_pos z] at hdp
          exact hpf.1 (by omega) x r z2
      · rcases rt_app hx2' with ⟨y1, y2⟩ | ⟨y1, y2⟩ <;> omega
  · refine (h18 j w' hw').to (tx_len hw') ⟨fun j _ => rfl, fun r hr' j _ => by rcases hr' with rfl | rfl | rfl | rfl <;> rfl, fun r hr' j hj => ?_, fun r hr' j hj => by rcases hr' with rfl | rfl <;> rfl, fun j hj => l22 j (by omega), fun j _ => rfl⟩ (Nat.le_refl _) (Nat.le_refl _)
    rcases hr' with rfl | rfl | rfl | rfl
    · exact r19 j (by omega)
    · exact r20 j (by omega)
    · exact r21 j (by omega)
    · exact r23 j (by omega)
  · have hY' : (if (tx_new0 (tx_ta T i) kd w).1 = some Y then some (s.2.1.length, s.uu.2.2.1.length) else s.2.2.2.2 Y) = some y := hY
    show y.1 ≤ s.2.1.length
    by_cases z : (tx_new0 (tx_ta T i) kd w).1 = some Y
    · rw [if_pos z] at hY'
      cases hY'
      exact Nat.le_refl _
    · rw [if_neg z] at hY'
      exact h19.2.2.1 Y y hY'
  · have hu2 : s.2.2.1.map (tx_adn (tx_new0 (tx_ta T i) kd w)) = some u' := hu'
    rw [h1.1] at hu2
    cases hu2
    exact h19.2.2.2.1 u Y h1.1 hY'
  · refine h19.2.2.2.2.mp (s1 := s.ad (tx_new0 (tx_ta T i) kd w)) rfl (g := tx_adn (tx_new0 (tx_ta T i) kd w)) rfl (fun u => ?_) (fun u x r hx => ?_)
    · show _ ≤ (u.2.2.1 ++ [tx_new0 (tx_ta T i) kd w]).length
      rw [List.length_append]
      omega
    · have hx2 : (u.2.2.1 ++ [tx_new0 (tx_ta T i) kd w])[x]? = some r := hx
      rcases rt_app hx2 with ⟨z1, z2⟩ | ⟨z1, z2⟩
      · exact Or.inr ⟨x, r, z2, rfl⟩
      · left
        rw [z2]
        rfl
/-- a declaration, from its name on -/
theorem rz_L.dc {kd w : Int32} {X : List Int32} (h : rz_L n T dp M0 M s i p) (k19 : tx_ki T i = 19) (hX : (tx_ta T i).2.2.2.1 = some X) (hda : s.da (some X) = none) (hw : rx_wd w) (hkd : kd = 0 ∨ kd = 1 ∨ kd = 2 ∨ kd = 3 ∨ kd = 4) (hdp : dp = if kd < 3 then 2 else 0) : ∃ k, M.1 18 = nI k ∧ k < 11000 ∧ rz_L n T (dp + if kd < 3 then 1 else 0) M0 (rp_dc M k kd w) (s.ad (tx_new0 (tx_ta T i) kd w)) (i + 1) (p + 12) ∧ ∃ u lo, s.2.2.1 = some u ∧ k = lo + u.2.2.1.countP rt_sg ∧ M.2.1 14 s.2.1.length = nI lo ∧ lo ≤ 11000 := by
  have hl := h.len
  have hends := h.ends
  obtain ⟨h1, h2, ⟨u, lo, li, fa, a, fs, b5, lk, c, h3, h7, h8, h9⟩, h10, h11, h12, h13, h14, h15⟩ := h
  have hi1 := hends i h12 (by rw [k19]; decide) (by rw [k19]; decide)
  have hdc := h3.dc (kd := kd) (w := w) h11 h12 hl.1 k19 hX hda hw hkd hdp
  have h18 := h3.1.2.2.2.2.2.1
  have h7' := h3.1.2.2.2.2.2.2.1
  refine ⟨lo + u.2.2.1.countP rt_sg, h18, by have := h3.2.2.2.2.2.2.1; omega, ⟨h1.tr (rz_dc_f _ _ _ _), (rz_dc_f M _ kd w).tt h2, ⟨_, lo, li, fa, a, fs, b5, lk, c, hdc, h7, ?_, h9⟩, ?_, ?_, hi1, h13, h14, h15⟩, u, lo, h3.1.1, rfl, h3.1.2.2.2.1, by omega⟩
  · show c ≤ 2000 * rx_x M + _
    omega
  · exact (h10.to rfl rfl rfl : rx_c i p (rp_dc M _ kd w)).le (by omega) (by omega) (by omega)
  · show M.1 8 + 1 = _
    rw [h11, nI_1]
theorem tx_dcl_ok {t : tx_Tk} {kd w : Int32} (h : s.da t.2.2.2.1 = none) : tx_dcl t kd w s = s.ad (tx_new0 t kd w) := by
  unfold tx_dcl
  rw [h]
  show (tx_ck true _ _ s).ad _ = _
  rw [tx_ck_true]
theorem tx_dcl_no {t : tx_Tk} {kd w : Int32} (h : (s.da t.2.2.2.1).isSome = true) (hv : s.1.1 = 0) : (tx_dcl t kd w s).1 = (21, nI t.2.1) := by
  unfold tx_dcl
  show (tx_ck (s.da t.2.2.2.1).isNone 21 (nI t.2.1) s).1 = _
  rw [show (s.da t.2.2.2.1).isNone = false by cases hd : s.da t.2.2.2.1 with | none => rw [hd] at h; cases h | some q => rfl]
  unfold tx_ck
  rw [if_pos ⟨rfl, hv⟩]
/-- without a beginning -/
theorem rz_L.dcl {K : rm_M → Prop} {kd w : Int32} (h : rz_L n T dp M0 M s i p) (k19 : tx_ki T i = 19) (k61 : ¬ tx_ki T (i + 1) = 61) (hw : rx_wd w) (hkd : kd = 0 ∨ kd = 1 ∨ kd = 2 ∨ kd = 3 ∨ kd = 4) (hdp : dp = if kd < 3 then 2 else 0)
    (hK : ∀ M', rz_L n T (dp + if kd < 3 then 1 else 0) M0 M' (tx_dcl (tx_ta T i) kd w s) (i + 1) p → K M') (hD : ∀ M', (tx_dcl (tx_ta T i) kd w s).1.1 ≠ 0 → rz_D M0 M' (tx_dcl (tx_ta T i) kd w s).1 15001 → K M') : rp_dcl kd w K M := by
  have hl := h.len
  obtain ⟨X, hX⟩ := h.2.1.nam h.2.2.2.2.2.1 k19
  have hi := h.2.2.2.2.2.1
  unfold rp_dcl
  rw [if_pos h.2.2.2.2.2.2.1]
  have h0 := h
  obtain ⟨h1, h2, ⟨u, lo, li, fa, a, fs, b5, lk, c, h3, h7, h8, h9⟩, h10, h11, h12, h13, h14, h15⟩ := h0
  refine h3.dup h2 h11 h12 k19 (by omega) ?_
  refine h.bg ?_
  cases hd : (s.da (tx_ta T i).2.2.2.1).isSome with
  | false =>
    rw [if_neg (by decide)]
    have hda : s.da (tx_ta T i).2.2.2.1 = none := by
      cases hd' : s.da (tx_ta T i).2.2.2.1 with
      | none => rfl
      | some q => rw [hd'] at hd; cases hd
    obtain ⟨k, e18, hk, hL, -⟩ := h.dc (kd := kd) (w := w) k19 hX (by rw [← hX]; exact hda) hw hkd hdp
    refine ⟨k, e18, hk, ?_⟩
    refine hL.is (a := 61) (by decide) ?_
    rw [decide_eq_false k61, if_neg (by decide)]
    refine hK _ ?_
    rw [tx_dcl_ok hda]
    exact hL.le (by omega)
  | true =>
    rw [if_pos rfl]
    have es := tx_dcl_no (kd := kd) (w := w) hd h14
    have hdd := h.fail (w := 21) (q := nI (tx_ta T i).2.1) (b := 15000) (by decide) (by omega)
    have e18 : (rm_fail 21 (nI (tx_ta T i).2.1) M).1 18 = nI (lo + u.2.2.1.countP rt_sg) := by
      rw [(rx_o.fail _ _ M).1 18 (by decide) (by decide) (by decide) (by decide)]
      exact h3.1.2.2.2.2.2.1
    refine hdd.dl2 (by omega) e18 (by have := h3.2.2.2.2.2.2.1; omega) (fun M' h' => ?_)
    rw [← es] at h'
    exact hD M' (by rw [es]; exact (by decide : (21 : Int32) ≠ 0)) h'
end RZE

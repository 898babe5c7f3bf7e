/-! THE SECOND PASS: an instance is declared, a port is linked: the tables. -/
theorem tx_mod_ap {α : Type} (l : List α) (x : α) (g : α → α) : (l ++ [x]).modify l.length g = l ++ [g x] := by
  apply List.ext_getElem?
  intro j
  rw [tx_gm]
  rcases Nat.lt_trichotomy j l.length with z | z | z
  · rw [if_neg (by omega), List.getElem?_append_left z, List.getElem?_append_left z]
  · subst z
    rw [if_pos rfl, List.getElem?_append_right (Nat.le_refl _), List.getElem?_append_right (Nat.le_refl _), Nat.sub_self]
    rfl
  · rw [if_neg (by omega), List.getElem?_eq_none (by simp; omega), List.getElem?_eq_none (by simp; omega)]
section RJO
variable {n N : Nat} {T : List tx_Tk} {s s1 : tx_S} {M0 M M' : rm_M} {u : tx_U} {lo li fa a fs b5 lk i i' p b I f c dp : Nat} {e v : Int32 × Int32}
theorem tx_uu_of (hu : s.2.2.1 = some u) : s.uu = u := by
  unfold tx_S.uu
  rw [hu]
  rfl
/-- the record of an instance -/
def rj_r (t : tx_Tk) (m : Nat) : tx_N := tx_oof (some m) (tx_new0 t 5 0)
theorem tx_din_ok {t : tx_Tk} {m : Nat} (hu : s.2.2.1 = some u) (h : s.da t.2.2.2.1 = none) : tx_din t (some m) s = (s.ad (rj_r t m)).cu tx_inu := by
  unfold tx_din
  rw [tx_dcl_ok h]
  have euu := tx_uu_of hu
  have h3 : (s.2.2.1.map (tx_adn (tx_new0 t 5 0))).map (tx_nq s.uu.2.2.1.length (tx_oof (some m))) = s.2.2.1.map (tx_adn (rj_r t m)) := by
    rw [hu, euu]
    show some (u.1, u.2.1, (u.2.2.1 ++ [tx_new0 t 5 0]).modify u.2.2.1.length (tx_oof (some m)), u.2.2.2) = some (u.1, u.2.1, u.2.2.1 ++ [rj_r t m], u.2.2.2)
    rw [tx_mod_ap]
    rfl
  have e' : (s.ad (tx_new0 t 5 0)).mn s.2.1.length s.uu.2.2.1.length (tx_oof (some m)) = s.ad (rj_r t m) := by
    refine (tx_mn_cu (s.ad (tx_new0 t 5 0)) s.uu.2.2.1.length (tx_oof (some m))).trans ?_
    show (s.1, s.2.1, (s.2.2.1.map (tx_adn (tx_new0 t 5 0))).map (tx_nq s.uu.2.2.1.length (tx_oof (some m))), _) = (s.1, s.2.1, s.2.2.1.map (tx_adn (rj_r t m)), _)
    rw [h3]
    rfl
  rw [e']
theorem rz_U.di {m it : Nat} {X : List Int32} (h : rz_U T s M u lo li fa a fs b5 lk i 0) (hi : i < T.length) (k19 : tx_ki T i = 19) (hX : (tx_ta T i).2.2.2.1 = some X) (hda : s.da (some X) = none) (hii : i < i') (hit : it = li + u.2.2.1.countP (fun r => !rt_sg r)) (h27 : M'.1 27 = nI (it + 1)) (hn : ∀ j, j = 12 ∨ j = 18 ∨ j = 31 ∨ j = 35 ∨ j = 38 → M'.1 j = M.1 j) (hr : ∀ j, j = 13 ∨ j = 14 ∨ j = 15 ∨ j = 16 ∨ j = 17 ∨ j = 19 ∨ j = 20 ∨ j = 21 ∨ j = 23 ∨ j = 26 → M'.2.1 j = M.2.1 j) (r28 : ∀ k, k ≠ it → M'.2.1 28 k = M.2.1 28 k) (r29 : ∀ k, k ≠ it → M'.2.1 29 k = M.2.1 29 k) (s28 : M'.2.1 28 it = nI m) (s29 : M'.2.1 29 it = nI i) (hl : ∀ j, j = 22 ∨ j = 56 → M'.2.2.1 j = M.2.2.1 j) : rz_U T ((s.ad (rj_r (tx_ta T i) m)).cu tx_inu) M' (tx_inu (tx_adn (rj_r (tx_ta T i) m) u)) lo li fa a fs b5 lk i' 0 := by
  obtain ⟨h1, h2, h3, h4, h5, h6, h7, h8', h9, h10, h11, h12, h13, h14, h15, h16, h17, h18, h19⟩ := h
  have hsg : rt_sg (rj_r (tx_ta T i) m) = false := rfl
  have cn1 : (u.2.2.1 ++ [rj_r (tx_ta T i) m]).countP rt_sg = u.2.2.1.countP rt_sg := by
    rw [List.countP_append, List.countP_cons_of_neg (by rw [hsg]; decide)]
    rfl
  have cn2 : (u.2.2.1 ++ [rj_r (tx_ta T i) m]).countP (fun r => !rt_sg r) = u.2.2.1.countP (fun r => !rt_sg r) + 1 := by
    rw [List.countP_append, List.countP_cons_of_pos (by rw [hsg]; rfl)]
    rfl
  have hL : rt_L T M' lo li u.2.2.1 := h1.2.2.2.2.2.2.2.1.to (Nat.le_refl _) (Nat.le_refl _) (fun x hx j _ => by rw [hr x (by omega)]) (fun x hx j hj => by
    rcases hx with rfl | rfl
    · exact r28 j (by omega)
    · exact r29 j (by omega)) (fun j _ => by rw [hl 22 (by simp)])
  have hC : rt_C T (s.ad (rj_r (tx_ta T i) m)) M' (tx_adn (rj_r (tx_ta T i) m) u) lo li := by
    refine h1.ad (M' := M') (r0 := rj_r (tx_ta T i) m) hX hda (hn 12 (by simp)) ?_ (by rw [cn1]; exact h1.2.2.2.2.2.2.1) (fun j hj => by rw [hr j (by omega)]) hL (fun z => by rw [hsg] at z; cases z) (fun _ => ?_) s.1
    · rw [cn1, hn 18 (by simp)]
      exact h1.2.2.2.2.2.1
    · rw [← hit]
      exact ⟨⟨i, s29, hi, k19, rfl, rfl⟩, m, rfl, s28, rfl, rfl⟩
  have hC2 := hC.cu (g := tx_inu) (fun _ => rfl)
  rw [tx_cu_eq] at hC2 ⊢
  refine ⟨hC2, ⟨by show M'.2.1 17 s.2.1.length = _; rw [hr 17 (by simp)]; exact h2.1, h2.2.1, h2.2.2.1, fun x r hx hrs => ?_⟩, by rw [hn 38 (by simp)]; exact h3, by omega, ?_, ?_, ?_, by show M'.2.1 16 s.2.1.length = _; rw [hr 16 (by simp)]; exact h8', by rw [hn 35 (by simp)]; exact h9, h10, by omega, by rw [hn 31 (by simp)]; exact h12, by omega, ?_, ⟨?_, ?_, ?_, ?_⟩, ?_, by show 3 * s.2.1.length + 3 ≤ _; omega, fun j w' hw' => ?_, h19.1, h19.2.1, fun Y y hY => ?_, fun u' Y hu' hY' => ?_, ?_⟩
  · have hx' : (u.2.2.1 ++ [rj_r (tx_ta T i) m])[x]? = some r := hx
    show (_ ∧ M'.2.1 26 (lo + rt_k (u.2.2.1 ++ [rj_r (tx_ta T i) m]) x) = 0) ∨ ∃ v, 1 ≤ v ∧ v ≤ 10241 ∧ r.2.2.2.2.2.2.1 = nI v ∧ M'.2.1 26 (lo + rt_k (u.2.2.1 ++ [rj_r (tx_ta T i) m]) x) = nI (fa + v)
    rcases rt_app hx' with ⟨z1, z2⟩ | ⟨z1, z2⟩
    · have e : rt_k (u.2.2.1 ++ [rj_r (tx_ta T i) m]) x = rt_k u.2.2.1 x := by
        unfold rt_k
        rw [rt_take (by omega)]
      rw [e, hr 26 (by simp)]
      exact h2.2.2.2 x r z2 hrs
    · rw [z2, hsg] at hrs
      cases hrs
  · show M'.1 27 = nI (li + (u.2.2.1 ++ [rj_r (tx_ta T i) m]).countP (fun r => !rt_sg r))
    rw [cn2, h27, hit]
    rfl
  · show li + (u.2.2.1 ++ [rj_r (tx_ta T i) m]).countP (fun r => !rt_sg r) ≤ i'
    rw [cn2]; omega
  · show lo + (u.2.2.1 ++ [rj_r (tx_ta T i) m]).countP rt_sg ≤ i'
    rw [cn1]; omega
  · refine h14.ad (M' := M') (i' := i') (y := i) (fun j _ => by rw [hr 19 (by simp)]) (fun j hj => r29 j (by omega)) ?_ (Nat.le_refl _) (by omega)
    rw [if_neg (by rw [hsg]; decide), ← hit]
    exact s29
  · obtain ⟨⟨x, x1, x2⟩, -⟩ := h15
    refine ⟨x, x1, ?_⟩
    show x + 0 % 2 = rt_cn _ lo ((u.2.2.1 ++ [rj_r (tx_ta T i) m]).countP rt_sg)
    rw [cn1, hr 21 (by simp)]
    exact x2
  · obtain ⟨-, x2, -⟩ := h15
    show u.2.2.2.2.1 = nI (rt_cn _ lo ((u.2.2.1 ++ [rj_r (tx_ta T i) m]).countP rt_sg))
    rw [cn1, hr 23 (by simp)]
    exact x2
  · show u.2.2.2.2.2.2.1 + 1 = nI ((u.2.2.1 ++ [rj_r (tx_ta T i) m]).countP (fun r => !rt_sg r))
    rw [cn2, h15.2.2.1, nI_1]
  · have hpf := h15.2.2.2
    refine ⟨fun hd => absurd hd (by omega), fun x x' r r' hx hx' hlt h3 => ?_⟩
    have hx2 : (u.2.2.1 ++ [rj_r (tx_ta T i) m])[x]? = some r := hx
    have hx2' : (u.2.2.1 ++ [rj_r (tx_ta T i) m])[x']? = some r' := hx'
    rcases rt_app hx2 with ⟨z1, z2⟩ | ⟨z1, z2⟩
    · rcases rt_app hx2' with ⟨y1, y2⟩ | ⟨y1, y2⟩
      · exact hpf.2 x x' r r' z2 y2 hlt h3
      · rw [y2] at h3
        exact absurd h3 (show ¬ (5 : Int32) < 3 by decide)
    · rcases rt_app hx2' with ⟨y1, y2⟩ | ⟨y1, y2⟩ <;> omega
  · obtain ⟨y, y1, y2⟩ := h16
    exact ⟨y, by show M'.2.1 13 s.2.1.length = _; rw [hr 13 (by simp)]; exact y1, y2⟩
  · refine (h18 j w' hw').to (tx_len hw') ⟨fun j _ => by rw [hr 13 (by simp)], fun r hr' j _ => by rw [hr r (by omega)], fun r hr' j _ => by rw [hr r (by omega)], fun r hr' j hj => ?_, fun j _ => by rw [hl 22 (by simp)], fun j _ => by rw [hl 56 (by simp)]⟩ (Nat.le_refl _) (Nat.le_refl _)
    rcases hr' with rfl | rfl
    · exact r28 j (by omega)
    · exact r29 j (by omega)
  · have hY' : (if (rj_r (tx_ta T i) m).1 = some Y then some (s.2.1.length, s.uu.2.2.1.length) else s.2.2.2.2 Y) = some y := hY
    show y.1 ≤ s.2.1.length
    by_cases z : (rj_r (tx_ta T i) m).1 = some Y
    · rw [if_pos z] at hY'
      cases hY'
      exact Nat.le_refl _
    · rw [if_neg z] at hY'
      exact h19.2.2.1 Y y hY'
  · have hu2 : (s.2.2.1.map (tx_adn (rj_r (tx_ta T i) m))).map tx_inu = some u' := hu'
    rw [h1.1] at hu2
    cases hu2
    exact h19.2.2.2.1 u Y h1.1 hY'
  · refine h19.2.2.2.2.mp (s1 := (s.1, s.2.1, (s.2.2.1.map (tx_adn (rj_r (tx_ta T i) m))).map tx_inu, (s.ad (rj_r (tx_ta T i) m)).2.2.2)) rfl (g := fun u => tx_inu (tx_adn (rj_r (tx_ta T i) m) u)) (by show (s.2.2.1.map _).map _ = _; rw [h1.1]; rfl) (fun u => ?_) (fun u x r hx => ?_)
    · show _ ≤ (u.2.2.1 ++ [rj_r (tx_ta T i) m]).length
      rw [List.length_append]
      omega
    · have hx2 : (u.2.2.1 ++ [rj_r (tx_ta T i) m])[x]? = some r := hx
      rcases rt_app hx2 with ⟨z1, z2⟩ | ⟨z1, z2⟩
      · exact Or.inr ⟨x, r, z2, rfl⟩
      · left
        rw [z2]
        rfl
/-- how many links there are -/
theorem rz_U.l31 {lk' : Nat} (h : rz_U T s M u lo li fa a fs b5 lk i dp) (hle : lk' ≤ i) : rz_U T s (rp_int M 31 (nI lk')) u lo li fa a fs b5 lk' i dp := by
  obtain ⟨h1, h2, h3, h4, h5, h6, h7, h8, h9, h10, h11, h12, h13, h14, h15, h16, h17, h18, h19⟩ := h
  exact ⟨h1.to rfl rfl (fun _ _ => rfl) rfl, h2, h3, h4, h5, h6, h7, h8, h9, h10, h11, rfl, hle, h14, h15, h16, h17, h18, h19⟩
theorem tx_mn_lo {j x : Nat} {g : tx_N → tx_N} (hj : j < s.2.1.length) : s.mn j x g = (s.1, s.2.1.modify j (tx_nq x g), s.2.2.1, s.2.2.2) := by
  unfold tx_S.mn tx_S.mu
  rw [if_neg (by omega)]
/-- a port of the module j is linked by the name q -/
theorem rz_U.lb {j x q : Nat} (h : rz_U T s M u lo li fa a fs b5 lk i dp) (hj : j < s.2.1.length) (hq : q < u.2.2.1.length) : rz_U T (s.mn j x (tx_lb (some (s.2.1.length, q)))) M u lo li fa a fs b5 lk i dp := by
  rw [tx_mn_lo hj]
  have el : (s.2.1.modify j (tx_nq x (tx_lb (some (s.2.1.length, q))))).length = s.2.1.length := by rw [List.length_modify]
  have gx : ∀ (j' : Nat) (w : tx_U), (s.2.1.modify j (tx_nq x (tx_lb (some (s.2.1.length, q)))))[j']? = some w → ∃ w0, s.2.1[j']? = some w0 ∧ (w = w0 ∨ w = tx_nq x (tx_lb (some (s.2.1.length, q))) w0) := by
    intro j' w hw
    rw [tx_gm] at hw
    by_cases z : j' = j
    · rw [if_pos z] at hw
      cases hu : s.2.1[j']? with
      | none => rw [hu] at hw; cases hw
      | some w0 =>
        rw [hu] at hw
        cases hw
        exact ⟨w0, rfl, Or.inr rfl⟩
    · rw [if_neg z] at hw
      exact ⟨w, hw, Or.inl rfl⟩
  have hu1 : ∀ w w0 : tx_U, (w = w0 ∨ w = tx_nq x (tx_lb (some (s.2.1.length, q))) w0) → w.1 = w0.1 := fun w w0 z => by
    rcases z with z | z
    · rw [z]
    · rw [z]; rfl
  obtain ⟨h1, h2, h3, h4, h5, h6, h7, h8, h9, h10, h11, h12, h13, h14, h15, h16, h17, h18, h19⟩ := h
  obtain ⟨c1, c2, c3, c4, c5, c6, c7, c8, c9, c10⟩ := h1
  refine ⟨⟨c1, by rw [el]; exact c2, by rw [el]; exact c3, by rw [el]; exact c4, by rw [el]; exact c5, c6, c7, c8, ?_, ?_⟩, ⟨by rw [el]; exact h2.1, h2.2⟩, h3, h4, h5, h6, h7, by rw [el]; exact h8, h9, h10, h11, h12, h13, h14, h15, ?_, by rw [el]; exact h17, fun j' w hw => ?_, fun j' w hw => ?_, fun X j' hX => ?_, fun X y hX => ?_, h19.2.2.2.1, fun j' w q' r y hw hr hy => ?_, h19.2.2.2.2.2⟩
  · rw [el]; exact c9
  · rw [el]; exact c10
  · obtain ⟨y, y1, y2⟩ := h16
    exact ⟨y, by rw [el]; exact y1, y2⟩
  · obtain ⟨w0, g1, g2⟩ := gx j' w hw
    rcases g2 with g2 | g2
    · rw [g2]; exact h18 j' w0 g1
    · rw [g2]; exact (h18 j' w0 g1).nq (fun r => ⟨_, _, rfl⟩)
  · obtain ⟨w0, g1, g2⟩ := gx j' w hw
    obtain ⟨X, x1, x2⟩ := h19.1 j' w0 g1
    exact ⟨X, by rw [hu1 w w0 g2]; exact x1, x2⟩
  · obtain ⟨w0, g1, g2⟩ := h19.2.1 X j' hX
    by_cases z : j' = j
    · refine ⟨tx_nq x (tx_lb (some (s.2.1.length, q))) w0, ?_, g2⟩
      rw [tx_gm, if_pos z, g1]
      rfl
    · refine ⟨w0, ?_, g2⟩
      rw [tx_gm, if_neg z]
      exact g1
  · rw [el]; exact h19.2.2.1 X y hX
  · obtain ⟨w0, g1, g2⟩ := gx j' w hw
    have euu : s.uu = u := tx_uu_of c1
    have euu' : tx_S.uu (s.1, s.2.1.modify j (tx_nq x (tx_lb (some (s.2.1.length, q)))), s.2.2.1, s.2.2.2) = u := tx_uu_of c1
    have hold := fun r hr hy => h19.2.2.2.2.1 j' w0 q' r y g1 hr hy
    rw [euu] at hold
    rw [euu', el]
    rcases g2 with g2 | g2
    · rw [g2] at hr
      exact hold r hr hy
    · rw [g2] at hr
      have hr' : (w0.2.2.1.modify x (tx_lb (some (s.2.1.length, q))))[q']? = some r := hr
      rw [tx_gm] at hr'
      by_cases z : q' = x
      · rw [if_pos z] at hr'
        cases hh : w0.2.2.1[q']? with
        | none => rw [hh] at hr'; cases hr'
        | some r0 =>
          rw [hh] at hr'
          cases hr'
          have hy' : some (s.2.1.length, q) = some y := hy
          cases hy'
          exact Or.inr ⟨rfl, hq⟩
      · rw [if_neg z] at hr'
        exact hold r hr' hy
/-- one port more is linked -/
theorem rz_U.lc {q : Nat} (h : rz_U T s M u lo li fa a fs b5 lk i dp) : rz_U T (s.mn s.2.1.length q tx_lc) M (tx_nq q tx_lc u) lo li fa a fs b5 lk i dp :=
  h.mn (M' := M) (g := tx_lc) (Nat.le_refl _) (fun _ => rfl) (fun _ => rfl) (fun _ => rfl) (fun _ _ => rfl) (fun _ _ => rfl) (fun _ _ _ _ => rfl) (fun _ _ => rfl) (fun _ _ => rfl) rfl (fun x r _ _ hs => by
    split
    · exact hs
    · exact hs) (fun x r _ _ hs => by
    split
    · exact hs
    · exact hs) (h.2.2.2.2.2.2.2.2.2.2.2.2.2.2.1.nq (fun _ => rfl)) s.1
end RJO

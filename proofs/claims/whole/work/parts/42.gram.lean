/-! GRAMMAR: its state on the heap. -/
def tx_ad (L : tx_Ls) (i : Nat) : Nat := ((L[i]?).map (fun y => y.1)).getD 0
def tx_tks (L : tx_Ls) : List tx_Tk := L.map (fun y => y.2.1)
/-- how many names there are in each module, and in the one that is being read -/
def tx_shp (s : tx_S) : List Nat × Option Nat := (s.2.1.map (fun u => u.2.2.1.length), s.2.2.1.map (fun u => u.2.2.1.length))
/-- what was made so far, in terms of the tokens that were taken -/
def tx_gA (b : Nat × Nat) (G : cx_G) (A : tx_A) (p : List Nat × Option Nat) (i : Nat) : Prop := G.2.1 ≤ b.1 + 5 * i ∧ G.2.2 + 8 * p.1.length + 8 * p.2.getD 0 ≤ b.2 + 80 * i + 4 * A.uc + 4 * (match p.2 with | none => 0 | some _ => A.nc p.1.length) ∧ p.1.length ≤ i ∧ p.2.getD 0 ≤ i
/-- bounds of a text -/
def tx_gb (L : tx_Ls) (b : Nat × Nat) : Prop := b.1 + 5 * L.length + 20 ≤ 601024 ∧ b.2 + 100 * L.length + 400 ≤ 7293034 ∧ L.length < 40000 ∧ ∀ i, i < L.length → tx_ki (tx_tks L) i ≠ 22 → tx_ki (tx_tks L) i ≠ 23 → i + 1 < L.length
/-- the heap holds: the next token is i, f brackets may yet be begun, the meaning is s -/
def tx_g (k : cx_K) (F : Nat → Prop) (L : tx_Ls) (gr : Nat) (b : Nat × Nat) (G : cx_G) (A : tx_A) (i f : Nat) (s : tx_S) : Prop := tx_m k F G A s ∧ (∀ c, F c → ∃ e, G.1 c = some e) ∧ (tx_tc G L ∧ ∀ x ∈ L, x.2.2 = A.w x.2.1.2.2.2.1 ∧ ∀ T, x.2.1.2.2.2.1 = some T → ∃ w, A.wf T = some w) ∧ (i < L.length ∧ f ≤ 60 ∧ G.1 gr = some (.inr (1, [.ref A.me, .ref A.ve, .ref (tx_ad L i), .int (nI (60 - f))]))) ∧ tx_gA b G A (tx_shp s) i
/-- a step of Grammar: cells that are not Meaning's, and those at the places of F, are as they were, but Grammar's own -/
def tx_gs (F : Nat → Prop) (gr : Nat) (G G' : cx_G) : Prop := ∀ b e, (F b ∨ ¬ tx_mx e) → b ≠ gr → G.1 b = some e → G'.1 b = some e
theorem tx_gs.rf (F : Nat → Prop) (gr : Nat) (G : cx_G) : tx_gs F gr G G := fun _ _ _ _ h => h
theorem tx_gs.tr {F : Nat → Prop} {gr : Nat} {G G1 G2 : cx_G} (h : tx_gs F gr G G1) (h' : tx_gs F gr G1 G2) : tx_gs F gr G G2 := fun b e hX hn hb => h' b e hX hn (h b e hX hn hb)
theorem tx_st.gs {F : Nat → Prop} {gr : Nat} {G G' : cx_G} (h : tx_st F G G') : tx_gs F gr G G' := fun b e hX _ hb => h b e hX hb
theorem tx_gs.ext {F : Nat → Prop} {gr : Nat} {G G' : cx_G} (h : cx_ext G G') : tx_gs F gr G G' := fun b e _ _ hb => h b e hb
theorem tx_gs.put {F : Nat → Prop} {gr : Nat} {G G' : cx_G} {e : va_E} (h : cx_put G gr e = G') : tx_gs F gr G G' := fun _ _ _ hn hb => cx_pn h hb hn
section TXG
variable {k : cx_K} {F : Nat → Prop} {L : tx_Ls} {gr : Nat} {b : Nat × Nat} {G G' : cx_G} {A : tx_A} {i f : Nat} {s s' : tx_S}
theorem tx_ad_of {i : Nat} {x : Nat × tx_Tk × Option Nat} (h : L[i]? = some x) : tx_ad L i = x.1 := by
  unfold tx_ad
  rw [h]
  rfl
theorem tx_ta_of {i : Nat} {x : Nat × tx_Tk × Option Nat} (h : L[i]? = some x) : tx_ta (tx_tks L) i = x.2.1 := by
  unfold tx_ta tx_tks
  rw [List.getD_eq_getElem?_getD, List.getElem?_map, h]
  rfl
theorem tx_tks_len : (tx_tks L).length = L.length := List.length_map ..
theorem tx_g.tok (hg : tx_g k F L gr b G A i f s) {j : Nat} (hj : j < L.length) : G.1 (tx_ad L j) = some (.inr (7, [.int (tx_ki (tx_tks L) j), .int (nI (tx_ta (tx_tks L) j).2.1), .int (nI (tx_ta (tx_tks L) j).2.2.1), va_rf ((L[j + 1]?).map (fun y => y.1)), va_rf (A.w (tx_ta (tx_tks L) j).2.2.2.1), .int (tx_ta (tx_tks L) j).2.2.2.2.1, .long (tx_ta (tx_tks L) j).2.2.2.2.2])) := by
  obtain ⟨x, hx⟩ : ∃ x, L[j]? = some x := ⟨_, List.getElem?_eq_getElem hj⟩
  have h1 := hg.2.2.1.1.1 j x hx
  have h2 := (hg.2.2.1.2 x (List.mem_of_getElem? hx)).1
  unfold tx_ki
  rw [tx_ad_of hx, tx_ta_of hx, ← h2]
  exact h1
theorem tx_g.tw (hg : tx_g k F L gr b G A i f s) {j : Nat} (hj : j < L.length) : tx_tw G A (tx_ad L j) (tx_ta (tx_tks L) j) := by
  refine ⟨_, hg.tok hj, ?_⟩
  obtain ⟨x, hx⟩ : ∃ x, L[j]? = some x := ⟨_, List.getElem?_eq_getElem hj⟩
  rw [tx_ta_of hx]
  exact (hg.2.2.1.2 x (List.mem_of_getElem? hx)).2
theorem tx_g.cel (hg : tx_g k F L gr b G A i f s) : G.1 gr = some (.inr (1, [.ref A.me, .ref A.ve, .ref (tx_ad L i), .int (nI (60 - f))])) := hg.2.2.2.1.2.2
theorem tx_g.lt (hg : tx_g k F L gr b G A i f s) : i < L.length := hg.2.2.2.1.1
theorem tx_g.le (hg : tx_g k F L gr b G A i f s) : f ≤ 60 := hg.2.2.2.1.2.1
theorem tx_al.le {la ed cap : Nat} {xs : List Nat} (h : tx_al k G la ed xs cap) : 4 * cap ≤ 40 + 8 * xs.length := by
  rcases h.2 with ⟨z, -⟩ | ⟨f, -, -, -, z, -⟩ <;> omega
/-- what there is room for -/
theorem tx_g.room (hg : tx_g k F L gr b G A i f s) : G.2.1 ≤ b.1 + 5 * i ∧ G.2.2 ≤ b.2 + 80 * i + 80 ∧ (tx_shp s).1.length ≤ i ∧ (tx_shp s).2.getD 0 ≤ i := by
  obtain ⟨hm, -, -, -, h1, h2, h3, h4⟩ := hg
  refine ⟨h1, ?_, h3, h4⟩
  have hu := hm.2.2.1.le
  rw [List.length_map, List.length_range] at hu
  have e1 : (tx_shp s).1.length = s.2.1.length := List.length_map ..
  cases hc : s.2.2.1 with
  | none =>
    have e2 : (tx_shp s).2 = none := by show s.2.2.1.map _ = none; rw [hc]; rfl
    rw [e2, e1] at h2
    simp only [Option.getD_none] at h2
    omega
  | some u =>
    have e2 : (tx_shp s).2 = some u.2.2.1.length := by show s.2.2.1.map _ = _; rw [hc]; rfl
    rw [e2, e1] at h2
    have hn := (hm.2.2.2.2.1 _ u (tx_S.cur hc)).le
    rw [List.length_map, List.length_range] at hn
    simp only [Option.getD_some] at h2
    omega
/-- a method of Meaning that makes nothing -/
theorem tx_g.mq (hg : tx_g k F L gr b G A i f s) (hm : tx_m k F G' A s') (hst : tx_st F G G') (hc : G'.2 = G.2) (hsh : tx_shp s' = tx_shp s) : tx_g k F L gr b G' A i f s' := by
  obtain ⟨-, g2, ⟨g3, g4⟩, ⟨g5, g6, g7⟩, g8⟩ := hg
  refine ⟨hm, fun c hF => ?_, ⟨⟨fun j x hx => hst.t (g3.1 j x hx), g3.2⟩, g4⟩, ⟨g5, g6, hst _ _ (Or.inr (fun z => ?_)) g7⟩, ?_⟩
  · obtain ⟨e, he⟩ := g2 c hF
    exact ⟨e, hst _ _ (Or.inl hF) he⟩
  · rcases z with z | z | z | z | z | z <;> exact absurd z (by decide)
  · rw [hsh]
    unfold tx_gA at g8 ⊢
    rw [hc]
    exact g8
/-- Grammar goes on -/
theorem tx_g.mv (hg : tx_g k F L gr b G A i f s) {j f' : Nat} (hj : j < L.length) (hij : i ≤ j) (hf : f' ≤ 60) (hG : cx_put G gr (.inr (1, [.ref A.me, .ref A.ve, .ref (tx_ad L j), .int (nI (60 - f'))])) = G') : tx_g k F L gr b G' A j f' s := by
  obtain ⟨g1, g2, ⟨g3, g4⟩, ⟨g5, g6, g7⟩, g8⟩ := hg
  have hk : tx_kp (tx_is 1) G G' := by rw [← hG]; exact tx_kp.put g7
  obtain ⟨q1, q2, q3, q4, q5, q6, q7, q8, q9, q10⟩ := g1
  have n : ∀ (c : Nat) (fs : List Value), c ≠ 1 → ¬ tx_is 1 (.inr (c, fs)) := fun c fs h => tx_is_ne h
  refine ⟨⟨q1.kp hk (fun _ => n _ _ (by decide)), q2.kp hk (fun _ => n _ _ (by decide)), q3.kp hk (fun _ => n _ _ (by decide)) (fun _ => tx_is_na), q4.kp hk (fun _ => n _ _ (by decide)), q5.kp hk (fun _ => n _ _ (by decide)) (fun _ => tx_is_na), q6.kp hk (fun _ => n _ _ (by decide)), q7.kp hk (fun _ => n _ _ (by decide)) (fun _ => tx_is_na), q8, q9, q10⟩, fun c hF => ?_, ⟨⟨fun j x hx => hk _ _ (n _ _ (by decide)) (g3.1 j x hx), g3.2⟩, g4⟩, ⟨hj, hf, cx_ps hG⟩, ?_⟩
  · obtain ⟨e, he⟩ := g2 c hF
    by_cases z : c = gr
    · exact ⟨_, by rw [z]; exact cx_ps hG⟩
    · exact ⟨e, cx_pn hG he z⟩
  · have hc := cx_pc hG
    obtain ⟨a1, a2, a3, a4⟩ := g8
    unfold tx_gA
    rw [hc]
    exact ⟨by omega, by omega, by omega, by omega⟩
/-- cells were made beside it -/
theorem tx_g.mk (hg : tx_g k F L gr b G A i f s) (h : cx_ext G G') (hA : tx_gA b G' A (tx_shp s) i) : tx_g k F L gr b G' A i f s := by
  obtain ⟨g1, g2, ⟨g3, g4⟩, ⟨g5, g6, g7⟩, -⟩ := hg
  exact ⟨g1.ext h, fun c hF => (by obtain ⟨e, he⟩ := g2 c hF; exact ⟨e, h _ _ he⟩), ⟨⟨fun j x hx => h _ _ (g3.1 j x hx), g3.2⟩, g4⟩, ⟨g5, g6, h _ _ g7⟩, hA⟩
/-! No method of Meaning but those that declare changes the shape. -/
theorem tx_shp.ck (right : Bool) (code place : Int32) (s : tx_S) : tx_shp (tx_ck right code place s) = tx_shp s := by
  unfold tx_shp
  rw [tx_ck_all]
theorem tx_shp.mu (s : tx_S) (j : Nat) {g : tx_U → tx_U} (hg : ∀ u, (g u).2.2.1.length = u.2.2.1.length) : tx_shp (s.mu j g) = tx_shp s := by
  have h3 : ((fun u : tx_U => u.2.2.1.length) ∘ g) = fun u => u.2.2.1.length := funext (fun u => hg u)
  have h1 : (s.mu j g).2.1.map (fun u => u.2.2.1.length) = s.2.1.map (fun u => u.2.2.1.length) := by
    show (s.2.1.modify j g).map _ = _
    apply List.ext_getElem?
    intro q
    rw [List.getElem?_map, tx_gm, List.getElem?_map]
    by_cases e : q = j
    · rw [if_pos e, Option.map_map, h3]
    · rw [if_neg e]
  unfold tx_shp
  rw [h1]
  have h2 : (s.mu j g).2.2.1 = if j = s.2.1.length then s.2.2.1.map g else s.2.2.1 := rfl
  rw [h2]
  by_cases e : j = s.2.1.length
  · rw [if_pos e, Option.map_map, h3]
  · rw [if_neg e]
theorem tx_shp.mn (s : tx_S) (j q : Nat) (f : tx_N → tx_N) : tx_shp (s.mn j q f) = tx_shp s := tx_shp.mu s j (fun u => by show (u.2.2.1.modify q f).length = _; rw [List.length_modify])
theorem tx_shp.spend (c : Int32) (s : tx_S) : tx_shp (tx_spend c s) = tx_shp s := tx_shp.mu s _ (fun _ => rfl)
theorem tx_shp.used (s : tx_S) (t : tx_Tk) : tx_shp (tx_used s t).2 = tx_shp s := by
  unfold tx_used
  split
  · exact tx_shp.ck ..
  · split <;> exact tx_shp.ck ..
theorem tx_shp.drive (q : Nat) (t : tx_Tk) (s : tx_S) : tx_shp (tx_drive q t s) = tx_shp s := (tx_shp.mn ..).trans (tx_shp.ck ..)
theorem tx_shp.asg (s : tx_S) (t : tx_Tk) : tx_shp (tx_asg s t).2 = tx_shp s := by
  unfold tx_asg
  split
  · exact tx_shp.ck ..
  · split
    · exact (tx_shp.drive ..).trans (tx_shp.ck ..)
    · exact tx_shp.ck ..
theorem tx_shp.setr (s : tx_S) (t : tx_Tk) : tx_shp (tx_setr s t).2 = tx_shp s := by
  unfold tx_setr
  split
  · exact tx_shp.ck ..
  · split
    · exact (tx_shp.mn ..).trans ((tx_shp.ck ..).trans (tx_shp.ck ..))
    · exact tx_shp.ck ..
theorem tx_shp.beg (q : Nat) (t : tx_Tk) (s : tx_S) : tx_shp (tx_beg q t s) = tx_shp s := (tx_shp.mn ..).trans (tx_shp.ck ..)
theorem tx_shp.bin (t : tx_Tk) (x y : Int32) (s : tx_S) : tx_shp (tx_bin t x y s).2 = tx_shp s := by
  unfold tx_bin
  split
  · exact tx_shp.spend ..
  · split
    · exact tx_shp.spend ..
    · split
      · exact (tx_shp.spend ..).trans (tx_shp.ck ..)
      · split <;> exact (tx_shp.spend ..).trans (tx_shp.ck ..)
theorem tx_shp.cond (t : tx_Tk) (c x y : Int32) (s : tx_S) : tx_shp (tx_cond t c x y s).2 = tx_shp s := (tx_shp.spend ..).trans (tx_shp.ck ..)
theorem tx_shp.lpo (q : Nat) (t : tx_Tk) (s : tx_S) : tx_shp (tx_lpo q t s).2 = tx_shp s := by
  unfold tx_lpo
  split
  · exact tx_shp.ck ..
  · split
    · exact tx_shp.ck ..
    · exact (tx_shp.mn ..).trans ((tx_shp.mn ..).trans (tx_shp.ck ..))
theorem tx_shp.lks (dt : tx_Tk) (x : Nat × Nat) (t : tx_Tk) (dv : Option Nat) (w : Int32) (s : tx_S) : tx_shp (tx_lks dt x t dv w s) = tx_shp s := by
  unfold tx_lks
  split
  · exact (tx_shp.drive ..).trans ((tx_shp.ck ..).trans (tx_shp.ck ..))
  · exact (tx_shp.ck ..).trans (tx_shp.ck ..)
theorem tx_shp.link (dt : tx_Tk) (p : Option (Nat × Nat)) (t : tx_Tk) (al : Bool) (w : Int32) (s : tx_S) : tx_shp (tx_link dt p t al w s) = tx_shp s := by
  unfold tx_link
  split
  · rfl
  · exact tx_shp.lks ..
theorem tx_shp.fini (q : Nat) (s : tx_S) : tx_shp (tx_fini q s) = tx_shp s := tx_shp.ck ..
theorem tx_shp.csv (t : tx_Tk) (w : Int32) (s : tx_S) : tx_shp (tx_csv t w s) = tx_shp s := (tx_shp.spend ..).trans (tx_shp.ck ..)
theorem tx_shp.prg (br : tx_Tk) (w hi lo : Int32) (s : tx_S) : tx_shp (tx_prg br w hi lo s).2 = tx_shp s := tx_shp.ck ..
theorem tx_shp.red (r : Int32) : ∀ (W : tx_Wt) (w : Int32) (s : tx_S), tx_shp (tx_red r W w s).2.2 = tx_shp s := by
  intro W
  induction W with
  | nil => intro w s; rfl
  | cons x W ih =>
    intro w s
    unfold tx_red
    split
    · exact (ih _ _).trans (tx_shp.bin ..)
    · rfl
theorem tx_shp.len {s s' : tx_S} (h : tx_shp s' = tx_shp s) : s'.2.1.length = s.2.1.length := by
  have h9 := congrArg (fun p => p.1.length) h
  have e : ∀ s : tx_S, (tx_shp s).1.length = s.2.1.length := fun s => List.length_map ..
  exact (e s').symm.trans (h9.trans (e s))
theorem tx_shp.all (s : tx_S) : s.all.map (fun u => u.2.2.1.length) = (tx_shp s).1 ++ (tx_shp s).2.toList := by
  unfold tx_S.all tx_shp
  rw [List.map_append]
  cases s.2.2.1 <;> rfl
theorem tx_shp.at {s s' : tx_S} (h : tx_shp s' = tx_shp s) {j : Nat} {u : tx_U} (hj : s.all[j]? = some u) : ∃ u' : tx_U, s'.all[j]? = some u' ∧ u'.2.2.1.length = u.2.2.1.length := by
  have h1 : (s'.all.map (fun u => u.2.2.1.length))[j]? = (s.all.map (fun u => u.2.2.1.length))[j]? := by rw [tx_shp.all, tx_shp.all, h]
  rw [List.getElem?_map, List.getElem?_map, hj] at h1
  cases hj' : s'.all[j]? with
  | none => rw [hj'] at h1; cases h1
  | some u' =>
    rw [hj'] at h1
    exact ⟨u', rfl, Option.some.inj h1⟩
theorem tx_shp.cur {s : tx_S} {n : Nat} (h : (tx_shp s).2 = some n) : ∃ u, s.2.2.1 = some u ∧ u.2.2.1.length = n := by
  have h9 : s.2.2.1.map (fun u => u.2.2.1.length) = some n := h
  cases hc : s.2.2.1 with
  | none => rw [hc] at h9; cases h9
  | some u =>
    rw [hc] at h9
    cases h9
    exact ⟨u, rfl, rfl⟩
end TXG

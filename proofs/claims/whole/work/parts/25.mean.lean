/-! MEANING: what is known of the text so far, and how the heap holds it. -/
/-- a text, or none -/
abbrev tx_X : Type := Option (List Int32)
/-- a name: text, kind, width, place, beginning, driven, set in, its module, how many linked, by whom it was linked (module, name) -/
abbrev tx_N : Type := tx_X × Int32 × Int32 × Nat × Int64 × Bool × Int32 × Option Nat × Int32 × Option (Nat × Nat)
/-- a module: text, place, names, ports, assigns, always, instances, asserts, cost -/
abbrev tx_U : Type := tx_X × Nat × List tx_N × Int32 × Int32 × Int32 × Int32 × Int32 × Int32
/-- verdict, modules that are done, the one that is being read, which module a text names, which name (module, place in it) it was declared as last -/
abbrev tx_S : Type := (Int32 × Int32) × List tx_U × Option tx_U × (List Int32 → Option Nat) × (List Int32 → Option (Nat × Nat))
def tx_S.all (s : tx_S) : List tx_U := s.2.1 ++ s.2.2.1.toList
/-- where things lie: Meaning, Verdict, the list of modules with its array and that one's places; a module; its list, array, places; a name; a word -/
abbrev tx_A : Type := (Nat × Nat × Nat × Nat × Nat) × (Nat → Nat) × ((Nat → Nat) × (Nat → Nat) × (Nat → Nat)) × (Nat → Nat → Nat) × (List Int32 → Option Nat)
def tx_A.me (A : tx_A) : Nat := A.1.1
def tx_A.ve (A : tx_A) : Nat := A.1.2.1
def tx_A.ul (A : tx_A) : Nat := A.1.2.2.1
def tx_A.ue (A : tx_A) : Nat := A.1.2.2.2.1
def tx_A.uc (A : tx_A) : Nat := A.1.2.2.2.2
def tx_A.ua (A : tx_A) : Nat → Nat := A.2.1
def tx_A.nl (A : tx_A) : Nat → Nat := A.2.2.1.1
def tx_A.ne (A : tx_A) : Nat → Nat := A.2.2.1.2.1
def tx_A.nc (A : tx_A) : Nat → Nat := A.2.2.1.2.2
def tx_A.na (A : tx_A) : Nat → Nat → Nat := A.2.2.2.1
def tx_A.wf (A : tx_A) : List Int32 → Option Nat := A.2.2.2.2
def tx_A.w (A : tx_A) (x : tx_X) : Option Nat := x.bind A.wf
/-- a name's cell -/
def tx_nm (A : tx_A) (j : Nat) (r : tx_N) : va_E := .inr (4, [.ref (A.ua j), va_rf (A.w r.1), .int r.2.1, .int r.2.2.1, .int (nI r.2.2.2.1), .long r.2.2.2.2.1, .int (cx_b r.2.2.2.2.2.1), .int r.2.2.2.2.2.2.1, va_rf (r.2.2.2.2.2.2.2.1.map A.ua), .int r.2.2.2.2.2.2.2.2.1, va_rf (r.2.2.2.2.2.2.2.2.2.map (fun x => A.na x.1 x.2))])
/-- a module's cell -/
def tx_um (A : tx_A) (j : Nat) (u : tx_U) : va_E := .inr (8, [va_rf (A.w u.1), .int (nI u.2.1), .int (nI j), .ref (A.nl j), .int u.2.2.2.1, .int u.2.2.2.2.1, .int u.2.2.2.2.2.1, .int u.2.2.2.2.2.2.1, .int u.2.2.2.2.2.2.2.1, .int u.2.2.2.2.2.2.2.2])
/-- an object of class c -/
def tx_is (c : Nat) (e : va_E) : Prop := ∃ fs, e = .inr (c, fs)
/-- all cells but some of which X holds are as they were -/
def tx_kp (X : va_E → Prop) (G G' : cx_G) : Prop := ∀ b e, ¬ X e → G.1 b = some e → G'.1 b = some e
theorem tx_kp.o {X : va_E → Prop} {G G' : cx_G} {a c : Nat} {fs : List Value} (h : tx_kp X G G') (hX : ¬ X (.inr (c, fs))) (hG : G.1 a = some (.inr (c, fs))) : G'.1 a = some (.inr (c, fs)) := h _ _ hX hG
theorem tx_is_ne {c c' : Nat} {fs : List Value} (h : c' ≠ c) : ¬ tx_is c (.inr (c', fs)) := fun ⟨_, z⟩ => by cases z; exact h rfl
theorem tx_is_na {c : Nat} {x : ClassId × vp_A} : ¬ tx_is c (.inl x) := fun ⟨_, z⟩ => by cases z
theorem tx_kp.put {G : cx_G} {a c : Nat} {fs : List Value} {e : va_E} (h : G.1 a = some (.inr (c, fs))) : tx_kp (tx_is c) G (cx_put G a e) := fun b e' hX hb => cx_pn rfl hb (fun z => hX (by rw [z, h] at hb; cases hb; exact ⟨_, rfl⟩))
theorem tx_kp.tr {X : va_E → Prop} {G G1 G2 : cx_G} (h : tx_kp X G G1) (h' : tx_kp X G1 G2) : tx_kp X G G2 := fun b e hX hb => h' b e hX (h b e hX hb)
theorem tx_kp.ext {X : va_E → Prop} {G G1 : cx_G} (h : cx_ext G G1) : tx_kp X G G1 := fun b e _ hb => h b e hb
/-- the parts of the relation -/
def tx_mV (G : cx_G) (A : tx_A) (v : Int32 × Int32) : Prop := G.1 A.ve = some (.inr (9, [.int v.1, .int v.2]))
def tx_mM (G : cx_G) (A : tx_A) (s : tx_S) : Prop := ∃ x, G.1 A.me = some (.inr (3, [.ref A.ve, .ref A.ul, .ref x])) ∧ ∀ u, s.2.2.1 = some u → x = A.ua s.2.1.length
def tx_mL (k : cx_K) (G : cx_G) (A : tx_A) (n : Nat) : Prop := tx_al k G A.ul A.ue ((List.range n).map A.ua) A.uc
def tx_mU (G : cx_G) (A : tx_A) (us : List tx_U) : Prop := ∀ j u, us[j]? = some u → G.1 (A.ua j) = some (tx_um A j u)
def tx_mK (k : cx_K) (G : cx_G) (A : tx_A) (us : List tx_U) : Prop := ∀ j u, us[j]? = some u → tx_al k G (A.nl j) (A.ne j) ((List.range u.2.2.1.length).map (A.na j)) (A.nc j)
def tx_mN (G : cx_G) (A : tx_A) (us : List tx_U) : Prop := ∀ j u, us[j]? = some u → ∀ q r, u.2.2.1[q]? = some r → G.1 (A.na j q) = some (tx_nm A j r)
def tx_mW (k : cx_K) (G : cx_G) (A : tx_A) (s : tx_S) : Prop := ∀ T a, A.wf T = some a → ∃ nx kd, tx_wd k G a T nx kd ((s.2.2.2.1 T).map A.ua) ((s.2.2.2.2 T).map (fun x => A.na x.1 x.2))
/-- addresses are apart -/
def tx_mA (A : tx_A) (us : List tx_U) : Prop := (∀ j u j' u', us[j]? = some u → us[j']? = some u' → A.nl j = A.nl j' → j = j') ∧ (∀ j u, us[j]? = some u → A.nl j ≠ A.ul) ∧
  (∀ j u j' u', us[j]? = some u → us[j']? = some u' → A.nc j ≠ 0 → A.nc j' ≠ 0 → A.ne j = A.ne j' → j = j') ∧ (∀ j u, us[j]? = some u → A.nc j ≠ 0 → A.uc ≠ 0 → A.ne j ≠ A.ue) ∧
  (∀ j u j' u', us[j]? = some u → us[j']? = some u' → ∀ q q', q < u.2.2.1.length → q' < u'.2.2.1.length → A.na j q = A.na j' q' → j = j' ∧ q = q') ∧
  ∀ (j : Nat) (u : tx_U), us[j]? = some u → ∀ (q : Nat) (r : tx_N), u.2.2.1[q]? = some r → ∀ T, r.1 = some T → ∃ w, A.wf T = some w
/-- what texts lead to is there -/
def tx_mI (s : tx_S) : Prop := (∀ T j, s.2.2.2.1 T = some j → j < s.2.1.length) ∧ (∀ T (x : Nat × Nat), s.2.2.2.2 T = some x → ∃ u : tx_U, s.all[x.1]? = some u ∧ x.2 < u.2.2.1.length) ∧ s.all.length < 1000000 ∧ (∀ (j : Nat) (u : tx_U), s.all[j]? = some u → u.2.2.1.length < 100000 ∧ ∀ (q : Nat) (r : tx_N), u.2.2.1[q]? = some r → (∀ j', r.2.2.2.2.2.2.2.1 = some j' → j' < s.2.1.length) ∧ ∀ x : Nat × Nat, r.2.2.2.2.2.2.2.2.2 = some x → ∃ u' : tx_U, s.all[x.1]? = some u' ∧ x.2 < u'.2.2.1.length)
/-- none of it lies at a place of which F holds -/
def tx_mF (F : Nat → Prop) (A : tx_A) (us : List tx_U) : Prop := ¬ F A.me ∧ ¬ F A.ve ∧ ¬ F A.ul ∧ (A.uc ≠ 0 → ¬ F A.ue) ∧ (∀ (j : Nat) (u : tx_U), us[j]? = some u → ¬ F (A.ua j) ∧ ¬ F (A.nl j) ∧ (A.nc j ≠ 0 → ¬ F (A.ne j)) ∧ ∀ q, q < u.2.2.1.length → ¬ F (A.na j q)) ∧ ∀ T a, A.wf T = some a → ¬ F a
def tx_m (k : cx_K) (F : Nat → Prop) (G : cx_G) (A : tx_A) (s : tx_S) : Prop := tx_mV G A s.1 ∧ tx_mM G A s ∧ tx_mL k G A s.2.1.length ∧ tx_mU G A s.all ∧ tx_mK k G A s.all ∧ tx_mN G A s.all ∧ tx_mW k G A s ∧ tx_mA A s.all ∧ tx_mI s ∧ tx_mF F A s.all
/-- cells that Meaning's methods may change -/
def tx_mx : va_E → Prop
  | .inl (_, _, .inr (.inr (.inr (.inr _)))) => True
  | .inl _ => False
  | .inr (c, _) => c = 3 ∨ c = 4 ∨ c = 8 ∨ c = 9 ∨ c = 10 ∨ c = 13
/-- a step of Meaning: cells of other kinds, and those at the places of F, are as they were -/
def tx_st (F : Nat → Prop) (G G' : cx_G) : Prop := ∀ b e, (F b ∨ ¬ tx_mx e) → G.1 b = some e → G'.1 b = some e
theorem tx_st.rf (F : Nat → Prop) (G : cx_G) : tx_st F G G := fun _ _ _ h => h
theorem tx_st.tr {F : Nat → Prop} {G G1 G2 : cx_G} (h : tx_st F G G1) (h' : tx_st F G1 G2) : tx_st F G G2 := fun b e hX hb => h' b e hX (h b e hX hb)
theorem tx_st.put {F : Nat → Prop} {G : cx_G} {a c : Nat} {fs : List Value} {e : va_E} (hF : ¬ F a) (hc : c = 3 ∨ c = 4 ∨ c = 8 ∨ c = 9 ∨ c = 10 ∨ c = 13) (h : G.1 a = some (.inr (c, fs))) : tx_st F G (cx_put G a e) := fun b e' hX hb => cx_pn rfl hb (fun z => by
  rw [z] at hb hX
  rw [h] at hb
  cases hb
  exact hX.elim hF (fun q => q hc))
theorem tx_st.t {F : Nat → Prop} {G G' : cx_G} {a : Nat} {t : tx_Tk} {nx w : Option Nat} (h : tx_st F G G') (ht : tx_to G a t nx w) : tx_to G' a t nx w := h _ _ (Or.inr (fun z => by
  rcases z with z | z | z | z | z | z <;> exact absurd z (by decide))) ht
section TXM
variable {k : cx_K} {F : Nat → Prop} {G G' : cx_G} {A : tx_A} {s : tx_S} {X : va_E → Prop}
theorem tx_al.kp {la ed cap : Nat} {xs : List Nat} (h : tx_kp X G G') (h1 : ∀ fs, ¬ X (.inr (13, fs))) (h2 : ∀ z, ¬ X (.inl z)) (hl : tx_al k G la ed xs cap) : tx_al k G' la ed xs cap := by
  obtain ⟨⟨mc, q1⟩, q2⟩ := hl
  refine ⟨⟨mc, h _ _ (h1 _) q1⟩, ?_⟩
  rcases q2 with q2 | ⟨f, q2, q3⟩
  · exact Or.inl q2
  · exact Or.inr ⟨f, h _ _ (h2 _) q2, q3⟩
theorem tx_mV.kp {v : Int32 × Int32} (h : tx_kp X G G') (h1 : ∀ fs, ¬ X (.inr (9, fs))) (q : tx_mV G A v) : tx_mV G' A v := h _ _ (h1 _) q
theorem tx_mM.kp (h : tx_kp X G G') (h1 : ∀ fs, ¬ X (.inr (3, fs))) (q : tx_mM G A s) : tx_mM G' A s := by
  obtain ⟨x, q1, q2⟩ := q
  exact ⟨x, h _ _ (h1 _) q1, q2⟩
theorem tx_mL.kp {n : Nat} (h : tx_kp X G G') (h1 : ∀ fs, ¬ X (.inr (13, fs))) (h2 : ∀ z, ¬ X (.inl z)) (q : tx_mL k G A n) : tx_mL k G' A n := tx_al.kp h h1 h2 q
theorem tx_mU.kp {us : List tx_U} (h : tx_kp X G G') (h1 : ∀ fs, ¬ X (.inr (8, fs))) (q : tx_mU G A us) : tx_mU G' A us := fun j u z => h _ _ (h1 _) (q j u z)
theorem tx_mK.kp {us : List tx_U} (h : tx_kp X G G') (h1 : ∀ fs, ¬ X (.inr (13, fs))) (h2 : ∀ z, ¬ X (.inl z)) (q : tx_mK k G A us) : tx_mK k G' A us := fun j u z => tx_al.kp h h1 h2 (q j u z)
theorem tx_mN.kp {us : List tx_U} (h : tx_kp X G G') (h1 : ∀ fs, ¬ X (.inr (4, fs))) (q : tx_mN G A us) : tx_mN G' A us := fun j u z q9 r z9 => h _ _ (h1 _) (q j u z q9 r z9)
theorem tx_mW.kp (h : tx_kp X G G') (h1 : ∀ fs, ¬ X (.inr (10, fs))) (h2 : ∀ z, ¬ X (.inl z)) (q : tx_mW k G A s) : tx_mW k G' A s := fun T a z => by
  obtain ⟨nx, kd, tb, q1, g, q2, q3⟩ := q T a z
  exact ⟨nx, kd, tb, h _ _ (h1 _) q1, g, h _ _ (h2 _) q2, q3⟩
/-- a step that keeps all cells but the verdict's -/
theorem tx_m.ve {v : Int32 × Int32} (h : tx_kp (tx_is 9) G G') (hv : tx_mV G' A v) (q : tx_m k F G A s) : tx_m k F G' A (v, s.2) := by
  obtain ⟨-, q2, q3, q4, q5, q6, q7, q8, q9⟩ := q
  exact ⟨hv, q2.kp h (fun _ => tx_is_ne (by decide)), q3.kp h (fun _ => tx_is_ne (by decide)) (fun _ => tx_is_na), q4.kp h (fun _ => tx_is_ne (by decide)), q5.kp h (fun _ => tx_is_ne (by decide)) (fun _ => tx_is_na), q6.kp h (fun _ => tx_is_ne (by decide)), q7.kp h (fun _ => tx_is_ne (by decide)) (fun _ => tx_is_na), q8, q9⟩
end TXM
/-- a check: what is otherwise, if nothing was before -/
def tx_ck (right : Bool) (code place : Int32) (s : tx_S) : tx_S := if right = false ∧ s.1.1 = 0 then ((code, place), s.2) else s
set_option maxRecDepth 100000 in
theorem c_Ve_check {k : cx_K} {l : Launch} {G : cx_G} {a : Nat} {c p code place : Int32} {right : Bool} (hG : G.1 a = some (.inr (9, [.int c, .int p]))) : cx_Sp k l m_Ve_check 0 [.ref a, .int (cx_b right), .int code, .int place] G (cx_rd none (if right = false ∧ c = 0 then cx_put G a (.inr (9, [.int code, .int place])) else G)) := by
  intro E hE
  refine cx_iload_n (i := 1) hE d_Ve_check_0 rfl rfl ?_
  refine cx_if_ne (tgt := 21)  hE d_Ve_check_1 (by decide) (fun c_1 => ?_) (fun c_1 => ?_)
  · have q_1 := cx_bn.mp c_1
    refine cx_vret hE d_Ve_check_21 rfl ?_
    refine ⟨rfl, ?_⟩
    first
      | (rw [if_neg (fun z => by rw [q_1] at z; exact absurd z.1 (by decide))])
      | (rw [if_neg (fun z => c_8 z.2)])
      | (rw [if_pos ⟨q_1, by simpa using c_8⟩]; subst g_18 g_13; rw [cx_pp]; rfl)
  · have q_1 := cx_b0.mp (by simpa using c_1)
    refine cx_aload_n (i := 0) hE d_Ve_check_4 rfl rfl ?_
    refine cx_get hE d_Ve_check_5 f_Ve_9 (by assumption) (by rfl) ?_
    refine cx_if_ne (tgt := 21)  hE d_Ve_check_8 (by decide) (fun c_8 => ?_) (fun c_8 => ?_)
    · refine cx_vret hE d_Ve_check_21 rfl ?_
      refine ⟨rfl, ?_⟩
      first
        | (rw [if_neg (fun z => by rw [q_1] at z; exact absurd z.1 (by decide))])
        | (rw [if_neg (fun z => c_8 z.2)])
        | (rw [if_pos ⟨q_1, by simpa using c_8⟩]; subst g_18 g_13; rw [cx_pp]; rfl)
    · refine cx_aload_n (i := 0) hE d_Ve_check_11 rfl rfl ?_
      refine cx_iload_n (i := 2) hE d_Ve_check_12 rfl rfl ?_
      refine cx_putg hE d_Ve_check_13 f_Ve_9 (by assumption) (Nat.le_of_ble_eq_true rfl) (by first | rfl | exact cx_nr _ _) (by first | rfl | exact cx_fr _ _) (fun G_13 g_13 h_13 => ?_)
      refine cx_aload_n (i := 0) hE d_Ve_check_16 rfl rfl ?_
      refine cx_iload_n (i := 3) hE d_Ve_check_17 rfl rfl ?_
      refine cx_putg hE d_Ve_check_18 f_Ve_15 (by assumption) (Nat.le_of_ble_eq_true rfl) (by first | rfl | exact cx_nr _ _) (by first | rfl | exact cx_fr _ _) (fun G_18 g_18 h_18 => ?_)
      refine cx_vret hE d_Ve_check_21 rfl ?_
      refine ⟨rfl, ?_⟩
      first
        | (rw [if_neg (fun z => by rw [q_1] at z; exact absurd z.1 (by decide))])
        | (rw [if_neg (fun z => c_8 z.2)])
        | (rw [if_pos ⟨q_1, by simpa using c_8⟩]; subst g_18 g_13; rw [cx_pp]; rfl)

/-! THE FACE: read. -/
/-- the same constants, with another notion of new places -/
def cx_wN (k : cx_K) (N : Nat → Prop) : cx_K := (k.1, k.2.1, k.2.2.1, k.2.2.2.1, k.2.2.2.2.1, k.2.2.2.2.2.1, N)
theorem cx_Sp.N {k : cx_K} {l : Launch} {M : cx_M} {fr : Nat} {av : List Value} {G : cx_G} {Post : cx_R → cx_G → Prop} {N : Nat → Prop} (h : cx_Sp (cx_wN k N) l M fr av G Post) : cx_Sp k l M fr av G Post := by
  intro E hE
  obtain ⟨k1, ⟨p, l1, e, R, s, m, args, below, meth, c⟩, n1, f1, c1, s1, Q⟩ := E
  obtain ⟨h1, h2, h3, h4, h5, h6, rfl, h7, h8, h9, h10, h11, h12, h13, h14, h15, h16, rfl, rfl, rfl, rfl, hQ⟩ := hE
  exact h (cx_wN k1 N, (p, l1, e, R, s, m, args, below, meth, c), n1, f1, G.2.1, G.2.2, Q) ⟨h1, h2, h3, h4, h5, h6, rfl, h7, h8, h9, h10, h11, h12, h13, h14, h15, h16, rfl, rfl, rfl, rfl, hQ⟩
/-- the last token, and it alone, is the end or a bad one -/
theorem tx_lx_end {n : Nat} {f : Nat → Int32} : ∀ (m p : Nat), n - p ≤ m → p ≤ n → ∀ (i : Nat) (t : tx_Tk), (tx_lx n (tx_at n f) m p)[i]? = some t → ¬ (t.1 = 22 ∨ t.1 = 23) → i + 1 < (tx_lx n (tx_at n f) m p).length := by
  intro m
  induction m using Nat.strongRecOn with
  | ind m ih =>
    intro p hm hp i t ht hk
    have hp9 := tx_bl_le (n := n) (f := f) (p := p) hp
    have hF := tx_tokF (f := f) hp9.2.1
    have hlr := tx_lx_r (n := n) (f := f) (m := m) (p := p) hm hp
    generalize htk : tx_tok n (tx_at n f) (tx_bl n (tx_at n f) p) = tk at hlr hF
    rw [hlr] at ht ⊢
    by_cases hz : tk.1 = 22 ∨ tk.1 = 23
    · have hr : tx_rest n (tx_at n f) tk = [] := by unfold tx_rest; rw [if_pos hz]
      rw [hr] at ht
      cases i with
      | zero => cases ht; exact absurd hz hk
      | succ i => cases ht
    · have hr : tx_rest n (tx_at n f) tk = tx_lx n (tx_at n f) (n - tk.2.2.1) tk.2.2.1 := by unfold tx_rest; rw [if_neg hz]
      rw [hr] at ht ⊢
      have hb := hF.2.2.2 (fun z => hz (Or.inl z))
      have hne : 0 < (tx_lx n (tx_at n f) (n - tk.2.2.1) tk.2.2.1).length := by
        rw [tx_lx_r (n := n) (f := f) (Nat.le_refl _) hF.2.1]
        exact Nat.succ_pos _
      cases i with
      | zero => show 0 + 1 < _ + 1; omega
      | succ i =>
        have := ih (n - tk.2.2.1) (by omega) tk.2.2.1 (Nat.le_refl _) hF.2.1 i t ht hk
        show i + 1 + 1 < _ + 1
        omega
/-- where things lie before the text is gone through -/
def ct_Ai (me ve ul e0 : Nat) (C : tx_Cn) : tx_A := ((me, ve, ul, e0, 0), fun _ => 0, (fun _ => 0, fun _ => 0, fun _ => 0), fun _ _ => 0, fun T => (tx_fd C T).map (fun x => x.1))
theorem tx_fd_T {C : tx_Cn} {T : List Int32} {x : Nat × List Int32 × Int32} (h : tx_fd C T = some x) : x.2.1 = T := by
  have := List.find?_some h
  simpa using this
theorem ct_g0 {k : cx_K} {F : Nat → Prop} {L : tx_Ls} {gr me ve ul x9 e0 wa ca : Nat} {C : tx_Cn} {G : cx_G} (hve : G.1 ve = some (.inr (9, [.int 0, .int (-1)]))) (hme : G.1 me = some (.inr (3, [.ref ve, .ref ul, .ref x9]))) (hal : tx_al k G ul e0 [] 0) (hW : tx_W k G wa ca C) (hF : ∀ c, F c → ∃ e, G.1 c = some e) (f1 : ¬ F me) (f2 : ¬ F ve) (f3 : ¬ F ul) (f4 : ∀ T x, tx_fd C T = some x → ¬ F x.1) (htc : tx_tc G L) (hwl : ∀ y ∈ L, tx_wl C y.2.1 y.2.2) (hL : 0 < L.length) (hgr : G.1 gr = some (.inr (1, [.ref me, .ref ve, .ref (tx_ad L 0), .int 0]))) : tx_g k F L gr (G.2.1, G.2.2) G (ct_Ai me ve ul e0 C) 0 60 tx_s0 := by
  have hwf : ∀ T a, (ct_Ai me ve ul e0 C).wf T = some a → ∃ x, tx_fd C T = some x ∧ x.1 = a := by
    intro T a h
    have h9 : (tx_fd C T).map (fun x => x.1) = some a := h
    cases hx : tx_fd C T with
    | none => rw [hx] at h9; cases h9
    | some x => rw [hx] at h9; cases h9; exact ⟨x, rfl, rfl⟩
  refine ⟨⟨hve, ⟨x9, hme, fun u hu => by cases hu⟩, hal, (fun j u hj => (by cases hj)), (fun j u hj => (by cases hj)), (fun j u hj => (by cases hj)), fun T a ha => ?_, ⟨(fun j u j' u' hj => (by cases hj)), (fun j u hj => (by cases hj)), (fun j u j' u' hj => (by cases hj)), (fun j u hj => (by cases hj)), (fun j u j' u' hj => (by cases hj)), (fun j u hj => (by cases hj))⟩, ⟨(fun T j h => (by cases h)), (fun T x h => (by cases h)), by decide, (fun j u hj => (by cases hj))⟩, f1, f2, f3, (fun h => absurd rfl h), (fun j u hj => (by cases hj)), fun T a ha => ?_⟩, hF, ⟨htc, fun x hx => ?_⟩, ⟨hL, Nat.le_refl _, hgr⟩, ?_⟩
  · obtain ⟨x, h1, h2⟩ := hwf T a ha
    obtain ⟨-, g, -, z⟩ := hW
    obtain ⟨nx, hn⟩ := tx_cn.in _ _ (z _ (tx_hi_lt T)) _ (List.mem_of_find?_eq_some h1)
    rw [tx_fd_T h1, h2] at hn
    exact ⟨nx, _, hn⟩
  · obtain ⟨x, h1, h2⟩ := hwf T a ha
    rw [← h2]
    exact f4 T x h1
  · obtain ⟨z1, z2⟩ := hwl x hx
    cases ht : x.2.1.2.2.2.1 with
    | none => exact ⟨z1 ht, fun T h => by cases h⟩
    | some T =>
      obtain ⟨y, y1, y2⟩ := z2 T ht
      have hw : (ct_Ai me ve ul e0 C).wf T = some y.1 := by show (tx_fd C T).map _ = _; rw [y1]; rfl
      refine ⟨y2.trans hw.symm, fun T' h => ?_⟩
      cases h
      exact ⟨_, hw⟩
  · exact ⟨Nat.le_refl _, Nat.le_refl _, Nat.le_refl _, Nat.le_refl _⟩
/-- none of the cells of the modules lies at a place of S -/
def ct_F (S : Nat → Prop) (G : cx_G) (A : tx_A) (us : List tx_U) : Prop := ¬ S A.ul ∧ (A.uc ≠ 0 → ¬ S A.ue) ∧ (∀ (j : Nat) (u : tx_U), us[j]? = some u → ¬ S (A.ua j) ∧ ¬ S (A.nl j) ∧ (A.nc j ≠ 0 → ¬ S (A.ne j)) ∧ ∀ q, q < u.2.2.1.length → ¬ S (A.na j q)) ∧ ∀ T a, A.wf T = some a → T.length ≤ 1000000 ∧ ¬ S a ∧ ∀ tb fs, G.1 a = some (.inr (10, .ref tb :: fs)) → ¬ S tb
/-- what was read is what the face tells of -/
theorem ct_of {k : cx_K} {N F : Nat → Prop} {G : cx_G} {A : tx_A} {s : tx_S} {b : Nat} (hm : tx_m (cx_wN k N) F G A s) (hc : s.2.2.1 = none) (hb : ¬ N b) (hNF : ∀ t, N t → ¬ F t) (hTl : ∀ T a, A.wf T = some a → T.length ≤ 1000000) : ct_U k G A s.2.1 b ∧ ct_F F G A s.2.1 := by
  have hall : s.all = s.2.1 := by unfold tx_S.all; rw [hc]; exact List.append_nil _
  obtain ⟨q1, q2, q3, q4, q5, q6, q7, ⟨a1, a2, a3, a4, a5, a6⟩, ⟨i1, i2, i3, i4⟩, f1, f2, f3, f4, f5, f6⟩ := hm
  rw [hall] at q4 q5 q6 a6 i3 i4 f5
  refine ⟨⟨q3, q4, q5, q6, fun T a ha => ?_, i3, fun j u hj => ⟨(i4 j u hj).1, fun q r hr => ⟨((i4 j u hj).2 q r hr).1, fun T hT => a6 j u hj q r hr T hT⟩⟩⟩, f3, f4, f5, fun T a ha => ⟨hTl T a ha, f6 T a ha, fun tb fs h => ?_⟩⟩
  · obtain ⟨nx, kd, tb, z1, g, z2, z3, z4⟩ := q7 T a ha
    exact ⟨tb, _, _, _, _, g, z1, z2, z3, fun z => hb (z ▸ z4)⟩
  · obtain ⟨nx, kd, tb', z1, g, z2, z3, z4⟩ := q7 T a ha
    rw [z1] at h
    simp only [Option.some.injEq, Sum.inr.injEq, Prod.mk.injEq, List.cons.injEq, Value.ref.injEq, true_and] at h
    rw [← h.1]
    exact hNF _ z4
/-- reading as a function: the answer, the fault, the modules -/
noncomputable def ct_rd (n : Nat) (f : Nat → Int32) (us : List tx_U) : Int32 × Int32 × List tx_U := match tx_dsg (tx_lex n (tx_at n f)) 0 tx_s0 with
  | .inl e => (e.2, e.1, us)
  | .inr (_, _, s) => if s.1.1 = 0 then (-1, 0, s.2.1) else (s.1.2, s.1.1, us)

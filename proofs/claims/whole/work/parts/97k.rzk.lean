/-! THE SECOND PASS: all items of a module. -/
/-- an instance's condition follows the reader -/
def rz_SI (n : Nat) (T : List tx_Tk) (N : Nat) (M0 : rm_M) (p : Nat) : Prop := ∀ (M : rm_M) (s : tx_S) (i f i' : Nat) (s' : tx_S) (K : rm_M → Prop), f ≤ 60 → rz_L n T 0 M0 M s i p → tx_ins T f i s = .inr ((), i', s') → (∀ M', rz_L n T 0 M0 M' s' i' p → i < i' → K M') → (∀ M', s'.1.1 ≠ 0 → rz_D M0 M' s'.1 40000 → K M') → rp_ins N K M
section RZK
variable {n N : Nat} {T : List tx_Tk} {s s1 : tx_S} {M0 M M' : rm_M} {u : tx_U} {lo li fa a fs b5 lk i i' p b I f c dp : Nat} {e v : Int32 × Int32}
theorem rz_L.itm {K : rm_M → Prop} {s' : tx_S} (hN : 65540 ≤ N) (hf : f ≤ 60) (hI : rz_SI n T N M0 p) (h : rz_L n T 0 M0 M s i p) (hR : tx_itm T f i s = .inr ((), i', s'))
    (hK : ∀ M', rz_L n T 0 M0 M' s' i' p → i < i' → K M') (hD : ∀ M', s'.1.1 ≠ 0 → rz_D M0 M' s'.1 40000 → K M') : rp_itm N K M := by
  unfold rp_itm
  refine h.kd (fun y hy => ?_)
  unfold tx_itm at hR
  by_cases z5 : tx_ki T i = 5
  · rw [if_pos ((rm_kq hy (c := 304) (a := 5) (by decide)).mpr z5)]
    rw [if_pos z5] at hR
    unfold tx_wir at hR
    obtain ⟨-, hR⟩ := tx_tka hR
    obtain ⟨w1, i1, s1, hR1, hR⟩ := tx_and_r hR
    obtain ⟨k59, hR⟩ := tx_tka hR
    cases hR
    have h1 := h.i1 (by rw [z5]; decide) (by rw [z5]; decide)
    refine (h1.le (p' := p) (by omega)).pnm (kd := 3) (K := fun M => K (rp_i M 1)) hR1 (by rw [k59]; decide) (by simp) rfl (fun M1 h2 ilt => ?_) (fun M1 e1 h2 => ?_)
    · exact hK _ ((h2.i1 (by rw [k59]; decide) (by rw [k59]; decide)).le (by omega)) (by omega)
    · exact hD _ e1 ((h2.mv (d := 1) (x := 1) rfl).le (by omega))
  rw [if_neg (fun q => z5 ((rm_kq hy (c := 304) (a := 5) (by decide)).mp q))]
  rw [if_neg z5] at hR
  by_cases z6 : tx_ki T i = 6
  · rw [if_pos ((rm_kq hy (c := 305) (a := 6) (by decide)).mpr z6)]
    rw [if_pos z6] at hR
    obtain ⟨w1, i1, s1, hR1, hR⟩ := tx_and_r hR
    obtain ⟨k59, hR⟩ := tx_tka hR
    cases hR
    unfold tx_rgs at hR1
    obtain ⟨-, hR1⟩ := tx_tka hR1
    have h1 := h.i1 (by rw [z6]; decide) (by rw [z6]; decide)
    refine (h1.le (p' := p) (by omega)).rgs (kd := 4) (K := fun M => K (rp_i M 1)) hR1 (by simp) rfl (fun M1 h2 ilt => ?_) (fun M1 e1 h2 => ?_)
    · exact hK _ ((h2.i1 (by rw [k59]; decide) (by rw [k59]; decide)).le (by omega)) (by omega)
    · exact hD _ e1 ((h2.mv (d := 1) (x := 1) rfl).le (by omega))
  rw [if_neg (fun q => z6 ((rm_kq hy (c := 305) (a := 6) (by decide)).mp q))]
  rw [if_neg z6] at hR
  by_cases z7 : tx_ki T i = 7
  · rw [if_pos ((rm_kq hy (c := 306) (a := 7) (by decide)).mpr z7)]
    rw [if_pos z7] at hR
    exact h.asg hN hf hR hK (fun M1 e1 h2 => hD M1 e1 (h2.le (by omega)))
  rw [if_neg (fun q => z7 ((rm_kq hy (c := 306) (a := 7) (by decide)).mp q))]
  rw [if_neg z7] at hR
  by_cases z8 : tx_ki T i = 8
  · rw [if_pos ((rm_kq hy (c := 307) (a := 8) (by decide)).mpr z8)]
    rw [if_pos z8] at hR
    exact h.alh hN hf hR hK (fun M1 e1 h2 => hD M1 e1 (h2.le (by omega)))
  rw [if_neg (fun q => z8 ((rm_kq hy (c := 307) (a := 8) (by decide)).mp q))]
  rw [if_neg z8] at hR
  by_cases z18 : tx_ki T i = 18
  · rw [if_pos ((rm_kq hy (c := 317) (a := 18) (by decide)).mpr z18)]
    rw [if_pos z18] at hR
    exact h.ast hN hf hR hK (fun M1 e1 h2 => hD M1 e1 (h2.le (by omega)))
  rw [if_neg (fun q => z18 ((rm_kq hy (c := 317) (a := 18) (by decide)).mp q))]
  rw [if_neg z18] at hR
  exact hI M s i f i' s' K hf h hR hK hD
theorem rz_L.its {K : rm_M → Prop} {s' : tx_S} (hN : 65540 ≤ N) (hf : f ≤ 60) (hI : rz_SI n T N M0 p) (hK : ∀ M', rz_L n T 0 M0 M' s' i' p → tx_ki T i' = 2 → K M') (hD : ∀ M', s'.1.1 ≠ 0 → rz_D M0 M' s'.1 40000 → K M') :
    ∀ (m N' i : Nat) (s : tx_S) (M : rm_M), T.length ≤ i + m → T.length ≤ i + N' → rz_L n T 0 M0 M s i p → tx_its T f m i s = .inr ((), i', s') → rp_its N K N' M := by
  intro m
  induction m with
  | zero => intro N' i s M h1 _ h; have := h.2.2.2.2.2.1; omega
  | succ m ih =>
    intro N' i s M h1 h2 h hR
    have hi := h.2.2.2.2.2.1
    have hends := h.ends
    obtain ⟨N', rfl⟩ : ∃ N1, N' = N1 + 1 := ⟨N' - 1, by omega⟩
    unfold rp_its
    rw [if_pos h.2.2.2.2.2.2.1]
    refine h.kd (fun y hy => ?_)
    unfold tx_its at hR
    by_cases z : tx_ki T i = 2
    · rw [if_pos ((rm_kq hy (c := 301) (a := 2) (by decide)).mpr z)]
      rw [if_pos z] at hR
      cases hR
      exact hK M h z
    · rw [if_neg (fun q => z ((rm_kq hy (c := 301) (a := 2) (by decide)).mp q))]
      rw [if_neg z] at hR
      obtain ⟨w1, i1, s1, hR1, hR⟩ := tx_and_r hR
      refine h.itm hN hf hI hR1 (fun M1 h3 ilt => ih N' i1 s1 M1 (by omega) (by omega) h3 hR) (fun M1 e1 h3 => ?_)
      have hg0 := tx_gd.itm (e := (0, 0)) hends (f := f) hi (s := s) (fun y => absurd rfl y) _ _ _ hR1
      have hi1 := hg0.2.1
      have hi2 := hg0.1
      obtain ⟨g1, g2, g3⟩ := tx_gd.its (e := s1.1) hends (f := f) m i1 s1 hi1 (fun _ => rfl) _ _ _ hR
      have es := g3 e1
      obtain ⟨N', rfl⟩ : ∃ N1, N' = N1 + 1 := ⟨N' - 1, by omega⟩
      unfold rp_its
      rw [if_neg h3.n9]
      rw [← es] at h3
      exact hD M1 (by rw [es]; exact e1) h3
/-- locals that nothing drives -/
theorem rz_L.drn {K : rm_M → Prop} (h : rz_L n T 0 M0 M s i p) (hN : 65540 ≤ N) (hK : (s.uu.2.2.1.foldl tx_fck s) = s → K M) (hD : ∀ M', (s.uu.2.2.1.foldl tx_fck s).1.1 ≠ 0 → rz_D M0 M' (s.uu.2.2.1.foldl tx_fck s).1 40000 → K M') : ∃ mc, M.1 12 = nI mc ∧ mc < 3600 ∧ rp_drn K N (M.2.1 14 mc) M := by
  have hl := h.len
  have h0 := h
  obtain ⟨H1, H2, ⟨U, LO, LI, FA, A, FS, B5, LK, C, H3, H7, H8, H9⟩, H10, H11, H12, H13, H14, H15⟩ := h0
  have hC := H3.1
  have euu : s.uu = U := by
    unfold tx_S.uu
    rw [hC.1]
    rfl
  refine ⟨s.2.1.length, hC.2.1, hC.2.2.1, ?_⟩
  rw [hC.2.2.2.1]
  rw [euu] at hK hD
  have h18 := hC.2.2.2.2.2.1
  have h11 := hC.2.2.2.2.2.2.1
  have hlo := H3.2.2.2.2.2.2.1
  have key : ∀ (L2 L1 : List tx_N) (N : Nat), U.2.2.1 = L1 ++ L2 → L2.length < N → (L2.foldl tx_fck s = s → K M) → (∀ M', (L2.foldl tx_fck s).1.1 ≠ 0 → rz_D M0 M' (L2.foldl tx_fck s).1 40000 → K M') → rp_drn K N (nI (LO + L1.countP rt_sg)) M := by
    intro L2
    induction L2 with
    | nil =>
      intro L1 N hL hN hK hD
      obtain ⟨N, rfl⟩ : ∃ N1, N = N1 + 1 := ⟨N - 1, by omega⟩
      unfold rp_drn
      rw [h18, hL, List.append_nil, if_neg (nI_nlt (Nat.le_refl _) (by rw [hL, List.append_nil] at h11; omega))]
      exact hK rfl
    | cons r L2 ih =>
      intro L1 N hL hN hK hD
      have hq : U.2.2.1[L1.length]? = some r := by
        rw [hL, List.getElem?_append_right (Nat.le_refl _), Nat.sub_self]
        rfl
      have hL' : U.2.2.1 = (L1 ++ [r]) ++ L2 := by rw [hL]; simp
      have hrk : rt_k U.2.2.1 L1.length = L1.countP rt_sg := by
        unfold rt_k
        rw [hL, List.take_left']
        rfl
      cases hsg : rt_sg r with
      | false =>
        have efck : tx_fck s r = s := by
          unfold tx_fck
          have k5 : r.2.1 = 5 := by
            unfold rt_sg at hsg
            simpa using hsg
          rw [k5]
          rw [show (r.2.2.2.2.2.1 || !decide ((5 : Int32) = 1 ∨ (5 : Int32) = 3)) = true by cases r.2.2.2.2.2.1 <;> rfl, tx_ck_true]
        have ecn : (L1 ++ [r]).countP rt_sg = L1.countP rt_sg := by
          rw [List.countP_append, List.countP_cons_of_neg (by simp [hsg])]
          rfl
        rw [← ecn]
        refine ih (L1 ++ [r]) N hL' (by show _ < _; have : (r :: L2).length = L2.length + 1 := rfl; omega) (fun z => hK ?_) (fun M' z1 z2 => hD M' ?_ ?_)
        · show L2.foldl tx_fck (tx_fck s r) = s
          rw [efck]; exact z
        · show (L2.foldl tx_fck (tx_fck s r)).1.1 ≠ 0
          rw [efck]; exact z1
        · show rz_D M0 M' (L2.foldl tx_fck (tx_fck s r)).1 40000
          rw [efck]; exact z2
      | true =>
        have hs := (hC.2.2.2.2.2.2.2.1 L1.length r hq).1 hsg
        rw [hrk] at hs
        have hlt := rt_lt (P := rt_sg) hq hsg
        have hlt' : L1.countP rt_sg < U.2.2.1.countP rt_sg := by rw [← hrk]; exact hlt
        have ecn : (L1 ++ [r]).countP rt_sg = L1.countP rt_sg + 1 := by
          rw [List.countP_append, List.countP_cons_of_pos hsg]
          rfl
        have hlen : (r :: L2).length = L2.length + 1 := rfl
        obtain ⟨N, rfl⟩ : ∃ N1, N = N1 + 1 := ⟨N - 1, by omega⟩
        unfold rp_drn
        rw [h18, if_pos (nI_lt (by omega) (by omega)), if_pos H13]
        refine ⟨LO + L1.countP rt_sg, rfl, by omega, ?_⟩
        rw [hs.2.2.2.1]
        have enx : nI (LO + L1.countP rt_sg) + 1 = nI (LO + (L1 ++ [r]).countP rt_sg) := by rw [nI_1, ecn]; rfl
        by_cases z : (r.2.1 = 1 ∨ r.2.1 = 3) ∧ r.2.2.2.2.2.1 = false
        · rw [if_pos ⟨z.1, hs.2.2.2.2.2.1.mpr z.2⟩]
          obtain ⟨⟨y, y1, y2, y3, y4, y5⟩, -⟩ := hs
          refine ⟨y, y1, by omega, ?_⟩
          have hb := (H2.tk.2.1 y y2).2
          have efck : (tx_fck s r) = ((33, nI r.2.2.2.1), s.2) := by
            unfold tx_fck
            rw [z.2, decide_eq_true z.1]
            show tx_ck false 33 _ s = _
            unfold tx_ck
            rw [if_pos ⟨rfl, H14⟩]
          have hfold : tx_fx (33, nI r.2.2.2.1) (L2.foldl tx_fck ((33, nI r.2.2.2.1), s.2)) := tx_fx.fold (fun _ => rfl)
          have es := hfold (show (33 : Int32) ≠ 0 by decide)
          have hfl : (r :: L2).foldl tx_fck s = L2.foldl tx_fck ((33, nI r.2.2.2.1), s.2) := by
            show L2.foldl tx_fck (tx_fck s r) = _
            rw [efck]
          rw [hfl] at hD
          have hd := h.fail (w := 33) (q := nI r.2.2.2.1) (b := 40000) (by decide) (by omega)
          rw [hb, y5]
          -- the loop ends behind a fault
          have hlast : ∀ (N : Nat) (kk : Int32), 0 < N → rp_drn K N kk (rm_fail 33 (nI r.2.2.2.1) M) := by
            intro N kk hN
            obtain ⟨N, rfl⟩ : ∃ N1, N = N1 + 1 := ⟨N - 1, by omega⟩
            have hk : K (rm_fail 33 (nI r.2.2.2.1) M) := by
              refine hD _ (by rw [es]; exact (by decide : (33 : Int32) ≠ 0)) ?_
              rw [es]
              exact hd
            unfold rp_drn
            split
            · rw [if_neg hd.n9]; exact hk
            · exact hk
          exact hlast N _ (by omega)
        · rw [if_neg (fun q => z ⟨q.1, hs.2.2.2.2.2.1.mp q.2⟩), enx]
          have efck : tx_fck s r = s := by
            unfold tx_fck
            rw [show (r.2.2.2.2.2.1 || !decide (r.2.1 = 1 ∨ r.2.1 = 3)) = true by
              cases hdv : r.2.2.2.2.2.1 with
              | true => rfl
              | false =>
                rw [decide_eq_false (fun q => z ⟨q, hdv⟩)]
                rfl, tx_ck_true]
          refine ih (L1 ++ [r]) N hL' (by omega) (fun z => hK ?_) (fun M' z1 z2 => hD M' ?_ ?_)
          · show L2.foldl tx_fck (tx_fck s r) = s
            rw [efck]; exact z
          · show (L2.foldl tx_fck (tx_fck s r)).1.1 ≠ 0
            rw [efck]; exact z1
          · show rz_D M0 M' (L2.foldl tx_fck (tx_fck s r)).1 40000
            rw [efck]; exact z2
  have hnl : U.2.2.1.length < N := by
    have e : U.2.2.1.length = U.2.2.1.countP rt_sg + U.2.2.1.countP (fun r => !rt_sg r) := by
      rw [List.length_eq_countP_add_countP rt_sg]
      congr 1
      apply List.countP_congr
      intro x _
      simp
    have := H3.2.2.2.2.2.1
    omega
  exact key U.2.2.1 [] N rfl hnl hK hD
end RZK

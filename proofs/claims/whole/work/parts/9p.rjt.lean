/-! THE SECOND PASS: an instance, and the whole design. -/
theorem tx_ck_uu (b : Bool) (w p : Int32) (s : tx_S) : (tx_ck b w p s).uu = s.uu := by
  unfold tx_ck
  split <;> rfl
section RJT
variable {n N : Nat} {T : List tx_Tk} {s s1 : tx_S} {M0 M M' : rm_M} {u : tx_U} {lo li fa a fs b5 lk i i' p b I f c dp it m q lk0 loj ow pl : Nat} {e : Int32 × Int32} {px : Option Nat}
theorem tx_ins_e (h : tx_din (tx_ta T (i + 1)) (s.mo (tx_ta T i).2.2.2.1) (tx_ck (s.mo (tx_ta T i).2.2.2.1).isSome 22 (nI (tx_ta T i).2.1) s) = tx_din (tx_ta T (i + 1)) (s.mo (tx_ta T i).2.2.2.1) (tx_ck (s.mo (tx_ta T i).2.2.2.1).isSome 22 (nI (tx_ta T i).2.1) (e, s.2))) : tx_ins T f i s = tx_ins T f i (e, s.2) := by
  unfold tx_ins
  by_cases z : tx_ki T i = 19
  · have t1 : ∀ s : tx_S, tx_tk T 19 i s = .inr (tx_ta T i, i + 1, s) := fun s => by unfold tx_tk; rw [if_pos z]
    rw [t1, t1, tx_and_rr, tx_and_rr]
    by_cases y : tx_ki T (i + 1) = 19
    · have t2 : ∀ s : tx_S, tx_tk T 19 (i + 1) s = .inr (tx_ta T (i + 1), i + 1 + 1, s) := fun s => by unfold tx_tk; rw [if_pos y]
      rw [t2, t2, tx_and_rr, tx_and_rr, tx_ck_uu, tx_ck_uu, h]
      rfl
    · have t2 : ∀ s : tx_S, tx_tk T 19 (i + 1) s = .inl (tx_no (tx_ta T (i + 1))) := fun s => by unfold tx_tk; rw [if_neg y]
      rw [t2, t2]
      rfl
  · have t1 : ∀ s : tx_S, tx_tk T 19 i s = .inl (tx_no (tx_ta T i)) := fun s => by unfold tx_tk; rw [if_neg z]
    rw [t1, t1]
/-- which module a text names -/
theorem rz_U.mo (h : rz_U T s M u lo li fa a fs b5 lk i dp) (hl : T.length ≤ 10241) {x : Nat} {X : List Int32} (hX : (tx_ta T x).2.2.2.1 = some X) : (rm_sN T (M.2.1 13) x 0 s.2.1.length = none ∧ s.mo (some X) = none) ∨ ∃ j, rm_sN T (M.2.1 13) x 0 s.2.1.length = some j ∧ s.mo (some X) = some j ∧ j < s.2.1.length := by
  have hF := h.2.2.2.2.2.2.2.2.2.2.2.2.2.2.2.2.2.1
  have hu := h.2.2.2.2.2.2.2.2.2.2.2.2.2.2.2.2.2.2
  have htx : ∀ j (v : tx_U), s.2.1[j]? = some v → (tx_ta T (M.2.1 13 j).toNatClampNeg).2.2.2.1 = v.1 := by
    intro j v hv
    obtain ⟨⟨y, y1, y2, y3, y4, y5⟩, -⟩ := hF j v hv
    rw [y1, nI_clamp (by omega), y4]
  cases hm : s.mo (some X) with
  | none =>
    refine Or.inl ⟨rm_sN_none (fun j _ hj => ?_), rfl⟩
    have hv : s.2.1[j]? = some s.2.1[j] := List.getElem?_eq_getElem (by omega)
    rw [htx j _ hv, hX]
    intro q
    obtain ⟨X', e1, e2⟩ := hu.1 j _ hv
    rw [q] at e1
    cases e1
    have : s.mo (some X) = some j := e2
    rw [this] at hm
    cases hm
  | some j =>
    obtain ⟨v, v1, v2⟩ := hu.2.1 X j hm
    have hj := tx_len v1
    refine Or.inr ⟨j, rm_sN_some (Nat.zero_le _) (by omega) (by rw [htx j v v1, v2, hX]) (fun j' _ hj' => ?_), rfl, hj⟩
    have hv' : s.2.1[j']? = some s.2.1[j'] := List.getElem?_eq_getElem (by omega)
    rw [htx j' _ hv', hX]
    intro q
    obtain ⟨X', e1, e2⟩ := hu.1 j' _ hv'
    rw [q] at e1
    cases e1
    have e3 : s.mo (some X) = some j' := e2
    rw [e3] at hm
    cases hm
    omega
theorem rz_ins (hN : 65540 ≤ N) : rz_SI n T N M0 p := by
  intro M s i f i' s' K hf h hR hK hD
  have hl := h.len
  have hends := h.ends
  have hi0 := h.2.2.2.2.2.1
  have hR0 := hR
  unfold tx_ins at hR0
  obtain ⟨k19, hR0⟩ := tx_tka hR0
  obtain ⟨k19', hR0⟩ := tx_tka hR0
  obtain ⟨f1, hf1, k40, hR0⟩ := tx_op_r hR0
  obtain ⟨w3, i3, s3, hR3, hR0⟩ := tx_and_r hR0
  obtain ⟨w4, i4, s4, hR4, hR0⟩ := tx_and_r hR0
  obtain ⟨k41, hR0⟩ := tx_tka hR0
  obtain ⟨k59, hR0⟩ := tx_tka hR0
  have l1 := hends i hi0 (by rw [k19]; decide) (by rw [k19]; decide)
  have l2 := hends _ l1 (by rw [k19']; decide) (by rw [k19']; decide)
  have l3 := hends _ l2 (by rw [k40]; decide) (by rw [k40]; decide)
  obtain ⟨X, hX⟩ := h.2.1.nam hi0 k19
  obtain ⟨X', hX'⟩ := h.2.1.nam l1 k19'
  obtain ⟨H1, H2, ⟨U, LO, LI, FA, A, FS, B5, LK, C, H3, H7, H8, H9⟩, H10, H11, H12, H13, H14, H15⟩ := id h
  have hfail : ∀ (w x : Int32), w ≠ 0 → tx_din (tx_ta T (i + 1)) (s.mo (tx_ta T i).2.2.2.1) (tx_ck (s.mo (tx_ta T i).2.2.2.1).isSome 22 (nI (tx_ta T i).2.1) s) = tx_din (tx_ta T (i + 1)) (s.mo (tx_ta T i).2.2.2.1) (tx_ck (s.mo (tx_ta T i).2.2.2.1).isSome 22 (nI (tx_ta T i).2.1) ((w, x), s.2)) → s'.1 = (w, x) := by
    intro w x hw he
    rw [tx_ins_e (e := (w, x)) he] at hR
    exact (tx_gd.ins (e := (w, x)) hends (f := f) hi0 (s := ((w, x), s.2)) (fun _ => rfl) _ _ _ hR).2.2 hw
  have hF := H3.2.2.2.2.2.2.2.2.2.2.2.2.2.2.2.2.2.1
  unfold rp_ins
  refine ⟨n, T, i, s.2.1.length, H2, H11, hi0, k19, H3.1.2.1, by have := H3.1.2.2.1; omega, fun q _ hq => ?_, ?_⟩
  · have hv : s.2.1[q]? = some s.2.1[q] := List.getElem?_eq_getElem (by omega)
    obtain ⟨⟨y, y1, y2, y3, -⟩, -⟩ := hF q _ hv
    exact ⟨y, y1, y2, y3⟩
  refine h.bg ?_
  rcases H3.mo hl.1 hX with ⟨a1, a2⟩ | ⟨m, a1, a2, a3⟩
  · rw [a1, if_pos (show rm_on none < 0 by decide)]
    have es := hfail 22 (nI (tx_ta T i).2.1) (by decide) (by
      rw [hX, a2]
      show tx_din _ none (tx_ck false 22 _ s) = tx_din _ none (tx_ck false 22 _ ((22, nI (tx_ta T i).2.1), s.2))
      unfold tx_ck
      rw [if_pos ⟨rfl, H14⟩, if_neg (fun y => absurd y.2 (show ¬ (22 : Int32) = 0 by decide))])
    have hd := h.fail (w := 22) (q := nI (tx_ta T i).2.1) (b := 40000) (by decide) (by omega)
    rw [← es] at hd
    exact hD _ (by rw [es]; exact (by decide : (22 : Int32) ≠ 0)) hd
  have hm36 : m < 3600 := by have := H3.1.2.2.1; omega
  rw [a1, show rm_on (some m) = nI m from rfl, if_neg (nI_pos (by omega))]
  refine ⟨m, rfl, hm36, ?_⟩
  have h1 := h.i1 (by rw [k19]; decide) (by rw [k19]; decide)
  have H3' : rz_U T s (rp_i M 1) U LO LI FA A FS B5 LK (i + 1) 0 := H3.to (Nat.le_succ _) (fun j hj => va_up_ne _ _ (by omega)) (fun _ _ => rfl) (fun _ _ => rfl)
  refine H3'.dup h1.2.1 h1.2.2.2.2.1 l1 k19' (by omega) ?_
  refine h1.bg ?_
  have h27 := H3.2.2.2.2.1
  have hitb := H3.2.2.2.2.2.1
  have h31 := H3.2.2.2.2.2.2.2.2.2.2.2.1
  have h31b := H3.2.2.2.2.2.2.2.2.2.2.2.2.1
  obtain ⟨it, hit⟩ : ∃ it, it = LI + U.2.2.1.countP (fun r => !rt_sg r) := ⟨_, rfl⟩
  rw [← hit] at h27 hitb
  refine ⟨it, i + 1, h27, by omega, h1.2.2.2.2.1, by omega, ?_⟩
  have hmo : s.mo (tx_ta T i).2.2.2.1 = some m := by rw [hX]; exact a2
  have hv : s.2.1[m]? = some s.2.1[m] := List.getElem?_eq_getElem a3
  generalize s.2.1[m] = v at hv
  obtain ⟨loj, hFj, -⟩ := (hF m v hv).j (by have := H3.2.2.2.2.2.2.1; omega) (by omega)
  have hJD : ∀ (Mx : rm_M) (e : Int32 × Int32) (b : Nat), e = s'.1 → e.1 ≠ 0 → b ≤ 39000 → rj_D M0 it m loj Mx e b → rj_k1 N m (i + 1) K Mx := by
    intro Mx e b he h0 hb hd
    refine hd.k1 (by omega) (fun M' hd' => hD M' (by rw [← he]; exact h0) ?_)
    rw [← he]
    exact hd'.le (by omega)
  show rp_lks N m (rj_k1 N m (i + 1) K) N _
  cases hd : (s.da (tx_ta T (i + 1)).2.2.2.1).isSome with
  | true =>
    rw [if_pos rfl]
    have hdc : tx_dcl (tx_ta T (i + 1)) 5 0 s = tx_dcl (tx_ta T (i + 1)) 5 0 ((21, nI (tx_ta T (i + 1)).2.1), s.2) := by
      unfold tx_dcl
      have hno : (s.da (tx_ta T (i + 1)).2.2.2.1).isNone = false := by
        cases hd' : s.da (tx_ta T (i + 1)).2.2.2.1 with
        | none => rw [hd'] at hd; cases hd
        | some q => rfl
      rw [show tx_S.da ((21, nI (tx_ta T (i + 1)).2.1), s.2) (tx_ta T (i + 1)).2.2.2.1 = s.da (tx_ta T (i + 1)).2.2.2.1 from rfl, hno]
      unfold tx_ck
      rw [if_pos ⟨rfl, H14⟩, if_neg (fun y => absurd y.2 (show ¬ (21 : Int32) = 0 by decide))]
    have es := hfail 21 (nI (tx_ta T (i + 1)).2.1) (by decide) (by
      rw [hmo]
      show tx_din _ (some m) (tx_ck true 22 _ s) = tx_din _ (some m) (tx_ck true 22 _ ((21, nI (tx_ta T (i + 1)).2.1), s.2))
      rw [tx_ck_true, tx_ck_true]
      show ((tx_dcl _ 5 0 s).mn s.2.1.length s.uu.2.2.1.length (tx_oof (some m))).cu tx_inu = ((tx_dcl _ 5 0 ((21, nI (tx_ta T (i + 1)).2.1), s.2)).mn s.2.1.length s.uu.2.2.1.length (tx_oof (some m))).cu tx_inu
      rw [hdc])
    have hd0 := h1.fail (w := 21) (q := nI (tx_ta T (i + 1)).2.1) (b := 20000) (by decide) (by omega)
    have hd1 : rj_D M0 it m loj (rp_i (rp_set (rp_set (rp_set (rm_fail 21 (nI (tx_ta T (i + 1)).2.1) (rp_i M 1)) 28 it (nI m)) 29 it (nI (i + 1))) 30 it (M.1 31)) 2) (21, nI (tx_ta T (i + 1)).2.1) 20002 := by
      have o := rx_o.fail 21 (nI (tx_ta T (i + 1)).2.1) (rp_i M 1)
      refine ⟨(hd0.to (M' := rp_set (rp_set (rp_set (rm_fail 21 (nI (tx_ta T (i + 1)).2.1) (rp_i M 1)) 28 it (nI m)) 29 it (nI (i + 1))) 30 it (M.1 31)) ⟨fun _ _ => rfl, fun j hj => ?_⟩ rfl rfl rfl rfl).mv (d := 2) (x := 2) rfl, ?_, by omega, ?_⟩
      · show va_up (va_up (va_up (rm_fail 21 _ (rp_i M 1)).2.1 28 _) 29 _) 30 _ j = _
        rw [va_up_ne _ _ (by omega), va_up_ne _ _ (by omega), va_up_ne _ _ (by omega)]
      · show (rm_fail 21 _ (rp_i M 1)).1 27 = _
        rw [o.1 27 (by decide) (by decide) (by decide) (by decide)]
        exact h27
      · show (rm_fail 21 _ (rp_i M 1)).2.1 14 m = _
        rw [o.2.1]
        exact hFj.1
    obtain ⟨N1, hN1⟩ : ∃ N1, N = N1 + 1 := ⟨N - 1, by omega⟩
    have hk1 := hJD _ _ _ es.symm (show (21 : Int32) ≠ 0 by decide) (by omega) hd1
    have hun : ∀ (K' : rm_M → Prop) (Mx : rm_M) (e : Int32 × Int32) (b : Nat), rz_D M0 Mx e b → b < 65540 → K' Mx → rp_lks N m K' (N1 + 1) Mx := by
      intro K' Mx e b hx hb hk
      unfold rp_lks
      refine hx.is hb ?_
      rw [if_neg (by decide)]
      exact hk
    have := hun _ _ _ _ hd1.1 (by omega) hk1
    rw [← hN1] at this
    exact this
  | false =>
    rw [if_neg (by decide)]
    have hda : s.da (tx_ta T (i + 1)).2.2.2.1 = none := by
      cases hd' : s.da (tx_ta T (i + 1)).2.2.2.1 with
      | none => rfl
      | some q => rw [hd'] at hd; cases hd
    have hsd : tx_din (tx_ta T (i + 1)) (s.mo (tx_ta T i).2.2.2.1) (tx_ck (s.mo (tx_ta T i).2.2.2.1).isSome 22 (nI (tx_ta T i).2.1) s) = (s.ad (rj_r (tx_ta T (i + 1)) m)).cu tx_inu := by
      rw [hmo]
      show tx_din _ (some m) (tx_ck true 22 _ s) = _
      rw [tx_ck_true]
      exact tx_din_ok H3.1.1 hda
    have huu := tx_uu_of H3.1.1
    rw [tx_ck_uu, huu] at hR4 hR0 hR3
    rw [hsd] at hR3
    have hsd1 : ((s.ad (rj_r (tx_ta T (i + 1)) m)).cu tx_inu).2.1 = s.2.1 := by rw [tx_cu_eq]; rfl
    have hsdu : ((s.ad (rj_r (tx_ta T (i + 1)) m)).cu tx_inu).uu = tx_inu (tx_adn (rj_r (tx_ta T (i + 1)) m) U) := tx_uu_of (by
      rw [tx_cu_eq]
      show (s.2.2.1.map _).map _ = _
      rw [H3.1.1]
      rfl)
    have hJ : rj_L n T M0 it m U.2.2.1.length LK loj (i + 1) none (rp_i (rp_set (rp_set (rp_set (rp_i M 1) 28 it (nI m)) 29 it (nI (i + 1))) 30 it (M.1 31)) 2) ((s.ad (rj_r (tx_ta T (i + 1)) m)).cu tx_inu) (i + 1 + 1 + 1) p := by
      refine ⟨?_, h27, by omega, ?_, ?_⟩
      · refine (h1.wr (s' := (s.ad (rj_r (tx_ta T (i + 1)) m)).cu tx_inu) (M' := rj_v it (rp_i (rp_set (rp_set (rp_set (rp_i M 1) 28 it (nI m)) 29 it (nI (i + 1))) 30 it (M.1 31)) 2)) (i' := i + 1 + 1 + 1) (by rw [tx_cu_eq]; rfl) (by omega) l3 ⟨fun j hj => ?_, fun j hj => ?_⟩ (fun u lo li fa a fs b5 lk hU => ?_) ?_ rfl (fun j hj => ?_) rfl).le (by omega)
        · show va_up (va_up (va_up M.1 8 _) 8 _) 27 _ j = va_up M.1 8 _ j
          rw [va_up_ne _ _ (by omega), va_up_ne _ _ (by omega)]
        · show va_up (va_up (va_up M.2.1 28 _) 29 _) 30 _ j = _
          rw [va_up_ne _ _ (by omega), va_up_ne _ _ (by omega), va_up_ne _ _ (by omega)]
          rfl
        · have eu : u = U := by
            have := hU.1.1
            rw [H3.1.1] at this
            cases this
            rfl
          subst eu
          have hU6 := hU.2.2.2.2.2.1
          have eli : li = LI := by
            have q1 : M.2.1 15 s.2.1.length = nI li := hU.1.2.2.2.2.1
            have q2 := H3.1.2.2.2.2.1
            exact (nI_eq (by omega) (by omega)).mp (q1.symm.trans q2)
          subst eli
          refine ⟨_, lk, hU.di (m := m) (it := it) l1 k19' hX' (by rw [← hX']; exact hda) (by omega) hit rfl (fun j hj => ?_) (fun j hj => ?_) (fun k hk => ?_) (fun k hk => ?_) ?_ ?_ (fun _ _ => rfl), rfl⟩
          · show va_up (va_up (va_up M.1 8 _) 8 _) 27 _ j = va_up M.1 8 _ j
            rw [va_up_ne _ _ (by omega), va_up_ne _ _ (by omega)]
          · show va_up (va_up (va_up M.2.1 28 _) 29 _) 30 _ j = _
            rw [va_up_ne _ _ (by omega), va_up_ne _ _ (by omega), va_up_ne _ _ (by omega)]
            rfl
          · show upd (M.2.1 28) it (nI m) k = _
            exact pk_un hk
          · show upd (M.2.1 29) it (nI (i + 1)) k = _
            exact pk_un hk
          · show upd (M.2.1 28) it (nI m) it = _
            exact pk_us
          · show upd (M.2.1 29) it (nI (i + 1)) it = _
            exact pk_us
        · show M.1 8 + 1 + 2 = _
          rw [H11, nI_1]
          exact nI_add (i + 1) 2
        · rcases hj with rfl | rfl | rfl | rfl | rfl <;> rfl
      · show upd (M.2.1 30) it (M.1 31) it = _
        rw [pk_us]
        exact h31
      · have hnb : ∀ (x : Nat) (r : tx_N), v.2.2.1[x]? = some r → rj_by s.2.1.length U.2.2.1.length r = false := by
          intro x r hx
          apply decide_eq_false
          intro y
          have hlb := H3.2.2.2.2.2.2.2.2.2.2.2.2.2.2.2.2.2.2.2.2.2.2.1 m v x r _ hv hx y
          rw [huu] at hlb
          rcases hlb with z | ⟨z1, z2⟩
          · have z' : s.2.1.length < s.2.1.length := z
            omega
          · have z' : U.2.2.1.length < U.2.2.1.length := z2
            omega
        unfold rj_K
        rw [hsd1, hsdu]
        refine ⟨v, LK, rj_r (tx_ta T (i + 1)) m, hv, h31, Nat.le_refl _, by omega, hFj.1, by have := hFj.2.2.1; omega, ?_, rfl, rfl, ?_, fun x r hx hb => ?_, fun x r hx hsg => ?_⟩
        · show (U.2.2.1 ++ [rj_r (tx_ta T (i + 1)) m])[U.2.2.1.length]? = _
          rw [List.getElem?_append_right (Nat.le_refl _), Nat.sub_self]
          rfl
        · have h0 : v.2.2.1.countP (rj_by s.2.1.length U.2.2.1.length) = 0 := by
            rw [List.countP_eq_zero]
            intro r hr
            obtain ⟨x, hx⟩ := List.getElem?_of_mem hr
            rw [hnb x r hx]
            decide
          rw [h0]
          rfl
        · rw [hnb x r hx] at hb
          cases hb
        · rw [hnb x r hx]
          constructor
          · intro y
            cases y
          · rintro (y | ⟨k, k1, k2, -⟩)
            · cases y
            · omega
    have hfin : ∀ (Mx : rm_M) (sx : tx_S) (ix : Nat), rj_L n T M0 it m U.2.2.1.length LK loj (i + 1) none Mx sx ix p → sx = s4 → ix = i4 → i < i4 → rj_k1 N m (i + 1) K Mx := by
      intro Mx sx ix hx e1 e2 hlt
      subst e1 e2
      have es' : s' = tx_fini U.2.2.1.length sx := by
        have := (Prod.mk.inj (Prod.mk.inj (Sum.inr.inj hR0)).2).2
        exact this.symm
      have ei' : i' = ix + 1 + 1 := by
        have := (Prod.mk.inj (Prod.mk.inj (Sum.inr.inj hR0)).2).1
        exact this.symm
      refine hx.fin hN l1 k41 k59 (fun e3 M' h' => hK M' ?_ (by omega)) (fun M' e3 h' => hD M' (by rw [es']; exact e3) (by rw [es']; exact h'))
      rw [es', e3, ei']
      exact h'
    by_cases z41 : tx_ki T (i + 1 + 1 + 1) = 41
    · rw [if_pos z41] at hR3
      cases hR3
      have e4 : i4 = i + 1 + 1 + 1 ∧ s4 = (s.ad (rj_r (tx_ta T (i + 1)) m)).cu tx_inu := by
        cases hT : T.length with
        | zero => omega
        | succ mm =>
          rw [hT] at hR4
          unfold tx_lks' at hR4
          rw [if_pos z41] at hR4
          cases hR4
          exact ⟨rfl, rfl⟩
      obtain ⟨c3, hc3, hB3, hL3, -⟩ := rj_x hJ.1
      obtain ⟨N1, hN1⟩ : ∃ N1, N = N1 + 1 := ⟨N - 1, by omega⟩
      have hun : ∀ (K' : rm_M → Prop) (Mx : rm_M), rx_B n T ((s.ad (rj_r (tx_ta T (i + 1)) m)).cu tx_inu) Mx → rx_L T Mx Mx (i + 1 + 1 + 1) c3 p → K' Mx → rp_lks N m K' (N1 + 1) Mx := by
        intro K' Mx hb hx hk
        unfold rp_lks
        refine hx.is hb (a := 46) (by decide) ?_
        rw [if_neg (by rw [z41]; decide)]
        exact hk
      have := hun _ _ hB3 hL3 (hfin _ _ _ hJ e4.2.symm e4.1.symm (by omega))
      rw [← hN1] at this
      exact this
    · rw [if_neg z41] at hR3
      have hk46 : tx_ki T (i + 1 + 1 + 1) = 46 := by
        have hR3' := hR3
        unfold tx_lnk at hR3'
        exact (tx_tka hR3').1
      have g3 := tx_gd.lnk (e := (0, 0)) hends (q := U.2.2.1.length) (f := f1) l3 (s := (s.ad (rj_r (tx_ta T (i + 1)) m)).cu tx_inu) (fun y => absurd rfl y) _ _ _ hR3
      have g4 := tx_gd.lks (e := (0, 0)) hends (q := U.2.2.1.length) (f := f1) T.length i3 s3 g3.2.1 (fun y => absurd rfl y) _ _ _ hR4
      refine rj_lks (f := f1) (s' := s4) (i' := i4) hN (by omega) hm36 (fun M2 h5 _ => hfin M2 s4 i4 h5 rfl rfl (by omega)) (fun M2 e5 h5 => ?_) T.length N (i + 1 + 1 + 1) _ _ (by omega) (by omega) hJ hk46 ?_
      · have es' : s'.1 = s4.1 := by
          have : s' = tx_fini U.2.2.1.length s4 := ((Prod.mk.inj (Prod.mk.inj (Sum.inr.inj hR0)).2).2).symm
          rw [this]
          exact (tx_fx.fini (e := s4.1) (fun _ => rfl)) e5
        exact hJD M2 _ _ es'.symm e5 (by omega) h5
      · rw [hR3]
        show ((tx_lks' T U.2.2.1.length f1 T.length i3 s3).and fun _ i s => (tx_tk T 41 i s).and fun _ i s => .inr ((), i, s)) = _
        rw [hR4]
        show ((tx_tk T 41 i4 s4).and fun _ i s => (.inr ((), i, s) : tx_R Unit)) = _
        unfold tx_tk
        rw [if_pos k41]
        rfl
end RJT

/-! THE SECOND PASS: an instance follows the reader. -/
def rj_k2 (K : rm_M → Prop) (M : rm_M) : Prop := ∃ it, M.1 27 = nI it ∧ it < 11000 ∧ K (rp_set (rp_int (rp_i M 1) 27 (nI (it + 1))) 30 (it + 1) (M.1 31))
def rj_k1 (N m ow : Nat) (K : rm_M → Prop) (M : rm_M) : Prop := ∃ lo, M.2.1 14 m = nI lo ∧ rp_all ow (M.2.1 14 (m + 1)) (rj_k2 K) N (nI lo) (rp_i M 1)
section RJS
variable {n N : Nat} {T : List tx_Tk} {s s1 : tx_S} {M0 M M' : rm_M} {u : tx_U} {lo li fa a fs b5 i i' p b I f c dp it m q lk0 loj ow pl : Nat} {e : Int32 × Int32} {px : Option Nat}
theorem rj_D.k2 {K : rm_M → Prop} (h : rj_D M0 it m loj M e b) (hK : ∀ M', rz_D M0 M' e (b + 1) → K M') : rj_k2 K M := by
  refine ⟨it, h.2.1, h.2.2.1, hK _ ?_⟩
  refine (h.1.mv (d := 1) (x := 1) rfl).to ⟨fun j hj => ?_, fun j hj => ?_⟩ rfl rfl rfl rfl
  · exact va_up_ne _ _ (by omega)
  · exact va_up_ne _ _ (by omega)
theorem rj_D.all {K : rm_M → Prop} {k hi : Int32} (hN : 0 < N) (h : rj_D M0 it m loj M e b) (hK : ∀ M', rz_D M0 M' e (b + 1) → K M') : rp_all ow hi (rj_k2 K) N k M := by
  have hk := h.k2 hK
  obtain ⟨N, rfl⟩ : ∃ N1, N = N1 + 1 := ⟨N - 1, by omega⟩
  unfold rp_all
  split
  · rw [if_neg h.1.n9]; exact hk
  · exact hk
theorem rj_D.k1 {K : rm_M → Prop} (hN : 0 < N) (h : rj_D M0 it m loj M e b) (hK : ∀ M', rz_D M0 M' e (b + 2) → K M') : rj_k1 N m ow K M := ⟨loj, h.2.2.2, (h.mv (d := 1) (x := 1) rfl).all hN hK⟩
theorem rj_lks {K : rm_M → Prop} {s' : tx_S} (hN : 65540 ≤ N) (hf : f ≤ 60) (hm : m < 3600) (hK : ∀ M', rj_L n T M0 it m q lk0 loj ow none M' s' i' p → tx_ki T i' = 41 → K M') (hD : ∀ M', s'.1.1 ≠ 0 → rj_D M0 it m loj M' s'.1 30010 → K M') :
    ∀ (mm N' i : Nat) (s : tx_S) (M : rm_M), T.length ≤ i + mm → T.length ≤ i + N' → rj_L n T M0 it m q lk0 loj ow none M s i p → tx_ki T i = 46 → ((tx_lnk T q f i s).and fun _ i s => (tx_lks' T q f mm i s).and fun _ i s => (tx_tk T 41 i s).and fun _ i s => .inr ((), i, s)) = .inr ((), i' + 1, s') → rp_lks N m K N' M := by
  intro mm
  induction mm with
  | zero => intro N' i s M h1 _ h; have := h.1.2.2.2.2.2.1; omega
  | succ mm ih =>
    intro N' i s M h1 h2 h hki hR
    have hl := h.1.len
    have hends := h.1.ends
    have hi := h.1.2.2.2.2.2.1
    obtain ⟨N', rfl⟩ : ∃ N1, N' = N1 + 1 := ⟨N' - 1, by omega⟩
    obtain ⟨w1, i1, s1, hR1, hR⟩ := tx_and_r hR
    have hg1 := tx_gd.lnk (e := (0, 0)) hends (q := q) (f := f) hi (s := s) (fun y => absurd rfl y) _ _ _ hR1
    obtain ⟨w2, i2, s2, hR2, hR⟩ := tx_and_r hR
    obtain ⟨k41, hR⟩ := tx_tka hR
    have ei : i2 = i' := by
      have := (Prod.mk.inj (Prod.mk.inj (Sum.inr.inj hR)).2).1
      omega
    have es : s2 = s' := (Prod.mk.inj (Prod.mk.inj (Sum.inr.inj hR)).2).2
    subst ei es
    obtain ⟨c, hc, hB, hL, -⟩ := rj_x h.1
    unfold rp_lks
    refine hL.is hB (a := 46) (by decide) ?_
    rw [decide_eq_true hki, if_pos rfl]
    have hR2' := hR2
    unfold tx_lks' at hR2'
    refine h.lnk hN hf hm hR1 (fun M1 h3 ilt => ?_) (fun M1 e1 h3 => ?_)
    · obtain ⟨c3, hc3, hB3, hL3, -⟩ := rj_x h3.1
      refine hL3.kd hB3 (fun y hy => ?_)
      by_cases z : tx_ki T i1 = 41
      · rw [if_neg (fun q => absurd ((rm_kq hy (c := 44) (a := 44) (by decide)).mp q) (by rw [z]; decide))]
        rw [if_pos z] at hR2'
        cases hR2'
        rw [rp_t_id]
        obtain ⟨N', rfl⟩ : ∃ N1, N' = N1 + 1 := ⟨N' - 1, by omega⟩
        unfold rp_lks
        refine hL3.is hB3 (a := 46) (by decide) ?_
        rw [if_neg (by rw [z]; decide)]
        exact hK M1 h3 z
      · rw [if_neg z] at hR2'
        obtain ⟨k44, hR2'⟩ := tx_tka hR2'
        rw [if_pos ((rm_kq hy (c := 44) (a := 44) (by decide)).mpr k44)]
        have h4 := h3.i1 (by rw [k44]; decide) (by rw [k44]; decide)
        obtain ⟨w5, i5, s5, hR5, hR6⟩ := tx_and_r hR2'
        have hk2 : tx_ki T (i1 + 1) = 46 := by
          have hR5' := hR5
          unfold tx_lnk at hR5'
          exact (tx_tka hR5').1
        refine ih N' (i1 + 1) s1 (rp_i M1 1) (by omega) (by omega) (h4.le (by omega)) hk2 ?_
        rw [hR5]
        show ((tx_lks' T q f mm i5 s5).and fun _ i s => (tx_tk T 41 i s).and fun _ i s => .inr ((), i, s)) = _
        rw [hR6]
        show ((tx_tk T 41 i2 s2).and fun _ i s => (.inr ((), i, s) : tx_R Unit)) = _
        unfold tx_tk
        rw [if_pos k41]
        rfl
    · have hg2 := tx_gd.lks (e := s1.1) hends (q := q) (f := f) (mm + 1) i1 s1 hg1.2.1 (fun _ => rfl) _ _ _ hR2
      have es := hg2.2.2 e1
      refine h3.1.kd (by omega) (fun y => ?_)
      have h4 : rj_D M0 it m loj (rp_t M1 (if y = 44 then M1.1 8 + 1 else M1.1 8)) s1.1 30010 := by
        split
        · exact (h3.mv (d := 1) (x := 1) rfl).le (by omega)
        · rw [rp_t_id]
          exact h3.le (by omega)
      obtain ⟨N', rfl⟩ : ∃ N1, N' = N1 + 1 := ⟨N' - 1, by omega⟩
      unfold rp_lks
      refine h4.1.is (by omega) ?_
      rw [if_neg (by decide)]
      rw [← es] at h4
      exact hD _ (by rw [es]; exact e1) h4
/-- whether all ports are linked -/
theorem rj_L.fin {K : rm_M → Prop} (hN : 65540 ≤ N) (how : ow < T.length) (h : rj_L n T M0 it m q lk0 loj ow none M s i p) (k41 : tx_ki T i = 41) (k59 : tx_ki T (i + 1) = 59) (hK : tx_fini q s = s → ∀ M', rz_L n T 0 M0 M' s (i + 2) p → K M') (hD : ∀ M', (tx_fini q s).1.1 ≠ 0 → rz_D M0 M' (tx_fini q s).1 40000 → K M') : rj_k1 N m ow K M := by
  have hl := h.1.len
  have hends := h.1.ends
  have hi0 := h.1.2.2.2.2.2.1
  have l1 := hends i hi0 (by rw [k41]; decide) (by rw [k41]; decide)
  have l2 := hends _ l1 (by rw [k59]; decide) (by rw [k59]; decide)
  obtain ⟨v, hv, hF⟩ := h.F
  obtain ⟨lk, e31, hlk0, hlk⟩ := h.lks
  obtain ⟨H1, H2, ⟨U, LO, LI, FA, A, FS, B5, LK, C, H3, H7, H8, H9⟩, H10, H11, H12, H13, H14, H15⟩ := id h.1
  obtain ⟨v', lk', r0, a1, a2, a3, a4, a5, a6, a7, a8, a9, a10, a11, a12⟩ := id h.2.2.2.2
  have ev : v' = v := by
    rw [hv] at a1
    cases a1
    rfl
  subst ev
  have elk : lk' = lk := (nI_eq (by omega) (by omega)).mp (a2.symm.trans e31)
  subst elk
  rw [tx_uu_of H3.1.1] at a7
  have erc : s.rc q = r0 := tx_S.rc_of H3.1.1 a7
  have eun : s.un m = v' := tx_un_lo hv
  have hle := hF.2.2.1
  have hlen := hF.2.2.2.2.2.2.2
  obtain ⟨cn1, cn2⟩ := rj_cnt (P := rj_p) (Q := rj_by s.2.1.length q) (L := v'.2.2.1) (fun r hr hQ => by
    obtain ⟨x, hx⟩ := List.getElem?_of_mem hr
    exact decide_eq_true (a11 x r hx hQ))
  have hcl : v'.2.2.1.countP rj_p ≤ v'.2.2.1.length := List.countP_le_length
  have efin : tx_fini q s = tx_ck (decide (v'.2.2.1.countP (rj_by s.2.1.length q) = v'.2.2.1.countP rj_p)) 24 (nI (tx_ta T ow).2.1) s := by
    unfold tx_fini
    rw [erc, a8, a9]
    show tx_ck (decide (r0.2.2.2.2.2.2.2.2.1 = (s.un m).2.2.2.1)) _ _ _ = _
    rw [eun, a10, hF.2.2.2.2.1]
    congr 1
    exact decide_eq_decide.mpr (nI_eq (by omega) (by omega))
  have h1 := h.i1 (by rw [k41]; decide) (by rw [k41]; decide)
  have h2 := h1.i1 (by rw [k59]; decide) (by rw [k59]; decide)
  have hb5 : (rp_i M 1).2.1 5 ow = nI (tx_ta T ow).2.1 := (H2.tk.2.1 ow how).2
  refine ⟨loj, hF.1, ?_⟩
  rw [hF.2.1]
  have key : ∀ (d k N' : Nat), k + d = loj + v'.2.2.1.countP rt_sg → loj ≤ k → d < N' → (∀ (x : Nat) (r : tx_N), v'.2.2.1[x]? = some r → rj_p r = true → loj + rt_k v'.2.2.1 x < k → rj_by s.2.1.length q r = true) → rp_all ow (nI (loj + v'.2.2.1.countP rt_sg)) (rj_k2 K) N' (nI k) (rp_i M 1) := by
    intro d
    induction d with
    | zero =>
      intro k N' hkd hlok hdN hall
      obtain ⟨N', rfl⟩ : ∃ N1, N' = N1 + 1 := ⟨N' - 1, by omega⟩
      unfold rp_all
      rw [if_neg (nI_nlt (by omega) (by omega))]
      refine ⟨it, h.2.1, h.2.2.1, hK ?_ _ ?_⟩
      · rw [efin, decide_eq_true (cn2.mpr (fun r hr hP => ?_)), tx_ck_true]
        obtain ⟨x, hx⟩ := List.getElem?_of_mem hr
        have hlt := rt_lt (P := rt_sg) hx (rj_p_sg r hP)
        exact hall x r hx hP (by unfold rt_k; omega)
      · have h3 := h2.1
        refine (h3.wr (M' := rp_set (rp_int (rp_i (rp_i M 1) 1) 27 (nI (it + 1))) 30 (it + 1) ((rp_i M 1).1 31)) rfl (Nat.le_refl _) l2 ⟨fun j hj => rfl, fun j hj => va_up_ne _ _ (by omega)⟩ (fun u lo li fa a fs b5 lk hU => ⟨u, lk, hU.to (Nat.le_refl _) (fun _ _ => rfl) (fun j hj => va_up_ne _ _ (by omega)) (fun _ _ => rfl), rfl⟩) h3.2.2.2.2.1 rfl (fun _ _ => rfl) rfl).le (by omega)
    | succ d ih =>
      intro k N' hkd hlok hdN hall
      obtain ⟨N', rfl⟩ : ∃ N1, N' = N1 + 1 := ⟨N' - 1, by omega⟩
      obtain ⟨x, r, g1, g2, g3, g4⟩ := hF.sig (k := k) hlok (by omega)
      have hnext : (rj_p r = true → rj_by s.2.1.length q r = true) → ∀ (x' : Nat) (r' : tx_N), v'.2.2.1[x']? = some r' → rj_p r' = true → loj + rt_k v'.2.2.1 x' < k + 1 → rj_by s.2.1.length q r' = true := by
        intro hr x' r' hx' hP' hlt
        by_cases y : loj + rt_k v'.2.2.1 x' < k
        · exact hall x' r' hx' hP' y
        · have exx : x' = x := by
            rcases Nat.lt_trichotomy x' x with z | z | z
            · have := rt_inj hx' g1 (rj_p_sg r' hP') z
              unfold rt_k at g3 y hlt
              omega
            · exact z
            · have := rt_inj g1 hx' g2 z
              unfold rt_k at g3 y hlt
              omega
          subst exx
          rw [g1] at hx'
          cases hx'
          exact hr hP'
      unfold rp_all
      rw [if_pos (nI_lt (by omega) (by omega)), if_pos (show (rp_i M 1).1 9 = 0 from H13)]
      refine ⟨k, rfl, by omega, ?_⟩
      rw [show (rp_i M 1).2.1 21 k = r.2.1 from g4.2.2.2.1, nI_1]
      by_cases z : r.2.1 < 3
      · rw [if_pos z]
        refine ⟨it, lk0, lk', h.2.1, h.2.2.1, h.2.2.2.1, e31, hlk0, by omega, ?_⟩
        have hby := a12 x r g1 g2
        rw [← g3] at hby
        show (if rm_on (rm_lk ((rp_i M 1).2.1 32) (nI k) lk0 (lk' - lk0)) < 0 then _ else _)
        by_cases zb : rj_by s.2.1.length q r = true
        · obtain ⟨k0, k1, k2, k3⟩ : ∃ k0, lk0 ≤ k0 ∧ k0 < lk' ∧ M.2.1 32 k0 = nI k := by
            rcases hby.mp zb with y | y
            · cases y
            · exact y
          obtain ⟨k', e1, e2⟩ := rm_lk_ex (g := M.2.1 32) (x := nI k) (d := lk' - lk0) (lo := lk0) (k := k0) k1 (by omega) k3
          rw [show rm_lk ((rp_i M 1).2.1 32) (nI k) lk0 (lk' - lk0) = some k' from e1, show rm_on (some k') = nI k' from rfl, if_neg (nI_pos (by omega))]
          exact ih (k + 1) N' (by omega) (by omega) (by omega) (hnext (fun _ => zb))
        · have hno : rm_lk (M.2.1 32) (nI k) lk0 (lk' - lk0) = none := rm_lk_none (fun k0 k1 k2 k3 => zb (hby.mpr (Or.inr ⟨k0, k1, by omega, k3⟩)))
          rw [show rm_lk ((rp_i M 1).2.1 32) (nI k) lk0 (lk' - lk0) = none from hno, if_pos (show rm_on none < 0 by decide), hb5]
          have hne : ¬ v'.2.2.1.countP (rj_by s.2.1.length q) = v'.2.2.1.countP rj_p := fun y => zb (cn2.mp y r (List.mem_of_getElem? g1) (decide_eq_true z))
          have es : (tx_fini q s).1 = (24, nI (tx_ta T ow).2.1) := by
            rw [efin, decide_eq_false hne]
            unfold tx_ck
            rw [if_pos ⟨rfl, H14⟩]
          refine (h1.fail (w := 24) (x := nI (tx_ta T ow).2.1) (b := 20000) (by decide) (by omega)).all (by omega) (fun M' hd => hD M' ?_ ?_)
          · rw [es]; exact (by decide : (24 : Int32) ≠ 0)
          · rw [es]; exact hd.le (by omega)
      · rw [if_neg z]
        exact ih (k + 1) N' (by omega) (by omega) (by omega) (hnext (fun y => absurd (of_decide_eq_true y) z))
  have hcs : v'.2.2.1.countP rt_sg ≤ v'.2.2.1.length := List.countP_le_length
  exact key (v'.2.2.1.countP rt_sg) loj N rfl (Nat.le_refl _) (by omega) (fun x r _ _ y => by omega)
end RJS

/-! THE REFERENCE: names in their order. -/
def rr_nc (L : List tx_N) (lo li q : Nat) : Int32 := if rt_sg (L.getD q tx_n0) = true then nI (lo + rt_k L q) else -1 - nI (li + rt_j L q)
def rr_nf (L : List tx_N) (lo li : Nat) : Nat → Int32
  | 0 => 0
  | q + 1 => rr_nc L lo li q
theorem rr_tk1 {P : tx_N → Bool} : ∀ {L : List tx_N} {t : Nat} {r : tx_N}, L[t]? = some r → (L.take (t + 1)).countP P = (L.take t).countP P + (if P r = true then 1 else 0)
  | [], t, r, h => by simp at h
  | a :: L, 0, r, h => by
    cases h
    show ([a] : List tx_N).countP P = 0 + _
    by_cases z : P a = true
    · rw [List.countP_cons_of_pos z, if_pos z]; rfl
    · rw [List.countP_cons_of_neg z, if_neg z]; rfl
  | a :: L, t + 1, r, h => by
    have := rr_tk1 (P := P) (L := L) (t := t) (r := r) h
    rw [List.take_succ_cons, List.take_succ_cons]
    by_cases z : P a = true
    · rw [List.countP_cons_of_pos z, List.countP_cons_of_pos z, this]; omega
    · rw [List.countP_cons_of_neg z, List.countP_cons_of_neg z, this]
section RRD
variable {M : rm_M} {lo li I t : Nat} {L : List tx_N} {r : tx_N}
theorem rr_o1 (hor : rt_or M lo li I L) (hI : I ≤ 10241) (hr : L[t]? = some r) (hs : rt_sg r = true) (h5 : rt_j L t < L.countP (fun r => !rt_sg r)) : M.2.1 19 (lo + rt_k L t) < M.2.1 29 (li + rt_j L t) := by
  obtain ⟨q', r', a1, a2, a3⟩ := rt_sur (P := fun r => !rt_sg r) (L := L) (m := rt_j L t) h5
  have hf : rt_sg r' = false := by simpa using a2
  have hlt : t < q' := by
    rcases Nat.lt_trichotomy t q' with z | z | z
    · exact z
    · subst z
      rw [hr] at a1
      cases a1
      rw [hs] at hf
      cases hf
    · have := rt_inj (P := fun r => !rt_sg r) a1 hr a2 z
      unfold rt_j at a3
      omega
  obtain ⟨y, y1, y2, y3⟩ := hor q' r' a1
  obtain ⟨y', z1, z2⟩ := y3 t r hr hlt
  unfold rt_yq at y1 z1
  rw [if_neg (by rw [hf]; decide), show rt_j L q' = rt_j L t from a3] at y1
  rw [if_pos hs] at z1
  rw [y1, z1]
  exact nI_lt z2 (by omega)
theorem rr_o2 (hor : rt_or M lo li I L) (hI : I ≤ 10241) (hr : L[t]? = some r) (hs : rt_sg r = false) (h5 : rt_k L t < L.countP rt_sg) : ¬ M.2.1 19 (lo + rt_k L t) < M.2.1 29 (li + rt_j L t) := by
  obtain ⟨q', r', a1, a2, a3⟩ := rt_sur (P := rt_sg) (L := L) (m := rt_k L t) h5
  have hlt : t < q' := by
    rcases Nat.lt_trichotomy t q' with z | z | z
    · exact z
    · subst z
      rw [hr] at a1
      cases a1
      rw [hs] at a2
      cases a2
    · have := rt_inj (P := rt_sg) a1 hr a2 z
      unfold rt_k at a3
      omega
  obtain ⟨y, y1, y2, y3⟩ := hor q' r' a1
  obtain ⟨y', z1, z2⟩ := y3 t r hr hlt
  unfold rt_yq at y1 z1
  rw [if_pos a2, show rt_k L q' = rt_k L t from a3] at y1
  rw [if_neg (by rw [hs]; decide)] at z1
  rw [y1, z1]
  exact nI_nlt (by omega) (by omega)
theorem rr_gd (hr : L[t]? = some r) : L.getD t tx_n0 = r := by
  rw [List.getD_eq_getElem?_getD, hr]
  rfl
theorem rr_s1 (hr : L[t]? = some r) (hs : rt_sg r = true) : rt_k L (t + 1) = rt_k L t + 1 ∧ rt_j L (t + 1) = rt_j L t ∧ rr_nf L lo li (t + 1) = nI (lo + rt_k L t) := by
  refine ⟨?_, ?_, ?_⟩
  · unfold rt_k
    rw [rr_tk1 hr, if_pos hs]
  · unfold rt_j
    rw [rr_tk1 hr, if_neg (by rw [hs]; decide)]; rfl
  · show rr_nc L lo li t = _
    unfold rr_nc
    rw [rr_gd hr, if_pos hs]
theorem rr_s2 (hr : L[t]? = some r) (hs : rt_sg r = false) : rt_k L (t + 1) = rt_k L t ∧ rt_j L (t + 1) = rt_j L t + 1 ∧ rr_nf L lo li (t + 1) = -1 - nI (li + rt_j L t) := by
  refine ⟨?_, ?_, ?_⟩
  · unfold rt_k
    rw [rr_tk1 hr, if_neg (by rw [hs]; decide)]; rfl
  · unfold rt_j
    rw [rr_tk1 hr, if_pos (by rw [hs]; rfl)]
  · show rr_nc L lo li t = _
    unfold rr_nc
    rw [rr_gd hr, if_neg (by rw [hs]; decide)]
theorem rr_neg (a y : Int32) : a - (a - y) = y := by
  have h : a = y + (a - y) := by rw [Int32.add_comm, Int32.sub_add_cancel]
  generalize a - y = c at h ⊢
  rw [h, Int32.add_sub_cancel]
theorem rr_ng {x : Nat} (hx : x < 2 ^ 30) : ¬ (0 : Int32) ≤ -1 - nI x := by
  rw [Int32.le_iff_toInt_le, Int32.toInt_sub, nI_toInt (by omega)]
  have h1 : (-1 : Int32).toInt = -1 := by decide
  have h0 : (0 : Int32).toInt = 0 := by decide
  rw [h1, h0, Int.bmod_def]
  omega
end RRD
def rr_pd (us : List tx_U) (m q w : Int32) (M : rm_M) (v : Int32) (M' : rm_M) : Prop := match ct_np us m q with
  | none => M' = rp_int M 0 1
  | some y => match ct_dc (ct_nm us y) w with
    | none => M' = rp_int M 0 2
    | some x => v = x ∧ M' = rp_int M 0 0
def rr_pb (us : List tx_U) (m q : Int32) (M : rm_M) (v : Int64) (M' : rm_M) : Prop := match ct_np us m q with
  | none => M' = rp_int M 0 1
  | some y => v = (ct_nm us y).2.2.2.2.1 ∧ M' = rp_int M 0 0
section RRE
variable {us : List tx_U} {m q w v x : Int32} {M : rm_M} {y : Nat × Nat} {j i : Nat}
theorem rr_pd.a (h : ct_np us m q = none) : rr_pd us m q w M v (rp_int M 0 1) := by simp only [rr_pd, h]
theorem rr_pd.b (h : ct_np us m q = some y) (h2 : ct_dc (ct_nm us y) w = none) : rr_pd us m q w M v (rp_int M 0 2) := by simp only [rr_pd, h, h2]
theorem rr_pd.c (h : ct_np us m q = some y) (h2 : ct_dc (ct_nm us y) w = some x) (hv : v = x) : rr_pd us m q w M v (rp_int M 0 0) := by
  simp only [rr_pd, h, h2]
  exact ⟨hv, trivial⟩
theorem rr_pb.a {v : Int64} (h : ct_np us m q = none) : rr_pb us m q M v (rp_int M 0 1) := by simp only [rr_pb, h]
theorem rr_pb.c {v : Int64} (h : ct_np us m q = some y) (hv : v = (ct_nm us y).2.2.2.2.1) : rr_pb us m q M v (rp_int M 0 0) := by
  simp only [rr_pb, h]
  exact ⟨hv, trivial⟩
theorem rr_np0 (h : ct_ix m us.length = none) : ct_np us m q = none := by
  unfold ct_np
  rw [h]
  rfl
theorem rr_np1 (h : ct_ix m us.length = some j) (h2 : ct_ix q (us.getD j tx_u0).2.2.1.length = none) : ct_np us m q = none := by
  unfold ct_np
  rw [h]
  show (ct_ix q _).map _ = none
  rw [h2]
  rfl
theorem rr_np2 (h : ct_ix m us.length = some j) (h2 : ct_ix q (us.getD j tx_u0).2.2.1.length = some i) : ct_np us m q = some (j, i) := by
  unfold ct_np
  rw [h]
  show (ct_ix q _).map _ = _
  rw [h2]
  rfl
theorem rr_dc2 {r : tx_N} (h : w < 0 ∨ ¬ w ≤ 3) : ct_dc r w = none := by
  refine ct_dc_n ?_ ?_ ?_ ?_ <;> (intro e; rw [e] at h; revert h; decide)
theorem rr_w3 (h : ¬ w < 0) (h7 : w ≤ 3) (h0 : ¬ w = 0) (h1 : ¬ w = 1) (h2 : ¬ w = 2) : w = 3 := by
  obtain ⟨j, hj, rfl⟩ := nI_of2 (M := 3) (n := 3) rfl h h7
  rcases (show j = 0 ∨ j = 1 ∨ j = 2 ∨ j = 3 by omega) with rfl | rfl | rfl | rfl
  · exact absurd rfl h0
  · exact absurd rfl h1
  · exact absurd rfl h2
  · rfl
end RRE
set_option maxRecDepth 100000 in
theorem c_Mo_nameAt {k : cx_K} {l : Launch} {G : cx_G} {mo : Nat} {P : Nat → Nat} {M : rm_M} {b : Nat × Nat} (hm : rm_R k G mo P M) (hQ : rm_Q b G M) {T : List tx_Tk} {j lo li q : Nat} {v : tx_U} (hj : j < 3600) (hF : rr_F T M j v lo li) (hq : q < v.2.2.1.length)  : cx_Sp k l m_Mo_nameAt 0 [.ref mo, .int (nI j), .int (nI q)] G (rp_R G (fun x => x = rr_nc v.2.2.1 lo li q)) := by
  intro E hE
  have W0 := rm_W.rf hm hQ
  have m0 := hm.1
  obtain ⟨hF1, hF2, hF3, hF4, hF5, hF6, hF7, I, hI1, hor⟩ := hF
  have hln := rr_len v.2.2.1
  have h21 : ∀ (d t : Nat), t + d = q + 1 → cx_V E 21 [(6, false, .int (nI t)), (5, false, .int (rr_nf v.2.2.1 lo li t)), (4, false, .int (nI (li + rt_j v.2.2.1 t))), (3, false, .int (nI (lo + rt_k v.2.2.1 t))), (0, false, .ref mo), (1, false, .int (nI j)), (2, false, .int (nI q))] [] G := by
    intro d
    induction d using Nat.strongRecOn with
    | ind d ih =>
      intro t htd
      have lk := rt_le (P := rt_sg) v.2.2.1 t
      have lj := rt_le (P := fun r => !rt_sg r) v.2.2.1 t
      have lk' : rt_k v.2.2.1 t ≤ v.2.2.1.countP rt_sg := lk
      have lj' : rt_j v.2.2.1 t ≤ v.2.2.1.countP (fun r => !rt_sg r) := lj
      refine cx_iload hE d_Mo_nameAt_21 rfl ?_
      refine cx_iload_n (i := 2) hE d_Mo_nameAt_23 rfl rfl ?_
      refine cx_icmp_gt (tgt := 125)  hE d_Mo_nameAt_24 (by decide) (fun c_24 => ?_) (fun c_24 => ?_)
      · have et : t = q + 1 := by
          rcases Nat.lt_or_ge q t with y | y
          · omega
          · exact absurd c_24 (nI_nlt y (by omega))
        subst et
        refine cx_iload hE d_Mo_nameAt_125 rfl ?_
        refine cx_iret hE d_Mo_nameAt_127 rfl rfl ?_
        exact ⟨_, rfl, rfl, rfl⟩
      · have htq : t ≤ q := by
          rcases Nat.lt_or_ge q t with y | y
          · exact absurd (nI_lt y (by omega)) c_24
          · exact y
        have ht : t < v.2.2.1.length := by omega
        have hr : v.2.2.1[t]? = some v.2.2.1[t] := List.getElem?_eq_getElem ht
        generalize v.2.2.1[t] = r at hr
        refine cx_iload hE d_Mo_nameAt_27 rfl ?_
        refine cx_aload_n (i := 0) hE d_Mo_nameAt_29 rfl rfl ?_
        refine cx_get hE d_Mo_nameAt_30 f_Mo_31 (by assumption) (by rfl) ?_
        refine cx_iload_n (i := 1) hE d_Mo_nameAt_33 rfl rfl ?_
        refine cx_iconst (v := 1) hE d_Mo_nameAt_34 (by decide) ?_
        refine cx_iadd hE d_Mo_nameAt_35 ?_
        rw [nI_1]
        refine cx_iald 1 hE d_Mo_nameAt_36 rfl (W0.1.i 15 rfl) (vp_in_nI (by show _ < 3601; omega) (by show 3601 < 2147483648; omega)) ?_
        rw [nI_clamp (by omega)]
        rw [hF4]
        refine cx_icmp_eq (tgt := 68)  hE d_Mo_nameAt_37 (by decide) (fun c_37 => ?_) (fun c_37 => ?_)
        · have hs : rt_sg r = true := by
            cases hsr : rt_sg r with
            | true => rfl
            | false =>
              exfalso
              have y1 := (nI_eq (by omega) (by omega)).mp c_37
              have y2 := rt_lt (P := fun r => !rt_sg r) hr (by rw [hsr]; rfl)
              unfold rt_j at y1
              omega
          refine cx_iconst (v := 1) hE d_Mo_nameAt_68 (by decide) ?_
          refine cx_goto (tgt := 73) hE d_Mo_nameAt_69 (by decide) ?_
          refine cx_istore hE d_Mo_nameAt_73 (by decide) ?_
          refine cx_iload hE d_Mo_nameAt_75 rfl ?_
          refine cx_if_eq (tgt := 84)  hE d_Mo_nameAt_77 (by decide) (fun c_77 => ?_) (fun c_77 => ?_)
          · exact absurd c_77 (show ¬ (1 : Int32) = 0 by decide)
            -- end
          · refine cx_iload_n (i := 3) hE d_Mo_nameAt_80 rfl rfl ?_
            refine cx_goto (tgt := 88) hE d_Mo_nameAt_81 (by decide) ?_
            refine cx_istore hE d_Mo_nameAt_88 (by decide) ?_
            refine cx_iload hE d_Mo_nameAt_90 rfl ?_
            refine cx_if_eq (tgt := 101)  hE d_Mo_nameAt_92 (by decide) (fun c_92 => ?_) (fun c_92 => ?_)
            · exact absurd c_92 (show ¬ (1 : Int32) = 0 by decide)
              -- end
            · refine cx_iload_n (i := 3) hE d_Mo_nameAt_95 rfl rfl ?_
              refine cx_iconst (v := 1) hE d_Mo_nameAt_96 (by decide) ?_
              refine cx_iadd hE d_Mo_nameAt_97 ?_
              rw [nI_1]
              refine cx_goto (tgt := 102) hE d_Mo_nameAt_98 (by decide) ?_
              refine cx_istore_n (i := 3) hE d_Mo_nameAt_102 rfl (by decide) ?_
              refine cx_iload hE d_Mo_nameAt_103 rfl ?_
              refine cx_if_eq (tgt := 113)  hE d_Mo_nameAt_105 (by decide) (fun c_105 => ?_) (fun c_105 => ?_)
              · exact absurd c_105 (show ¬ (1 : Int32) = 0 by decide)
                -- end
              · refine cx_iload hE d_Mo_nameAt_108 rfl ?_
                refine cx_goto (tgt := 117) hE d_Mo_nameAt_110 (by decide) ?_
                refine cx_istore hE d_Mo_nameAt_117 (by decide) ?_
                refine cx_iinc (v := nI (t + 1)) hE d_Mo_nameAt_119 rfl (nI_1 _) (by decide) ?_
                refine cx_goto (tgt := 21) hE d_Mo_nameAt_122 (by decide) ?_
                refine cx_sub [0, 3, 1, 2, 5, 6, 7] rfl ?_
                obtain ⟨e1, e2, e3⟩ := rr_s1 (lo := lo) (li := li) hr hs
                have := ih (d - 1) (by omega) (t + 1) (by omega)
                rw [e1, e2, e3] at this
                exact this
        · have h5 : rt_j v.2.2.1 t < v.2.2.1.countP (fun r => !rt_sg r) := by
            rcases Nat.lt_or_ge (rt_j v.2.2.1 t) (v.2.2.1.countP (fun r => !rt_sg r)) with y | y
            · exact y
            · exact absurd (by rw [show rt_j v.2.2.1 t = v.2.2.1.countP (fun r => !rt_sg r) by omega]) c_37
          refine cx_iload_n (i := 3) hE d_Mo_nameAt_40 rfl rfl ?_
          refine cx_aload_n (i := 0) hE d_Mo_nameAt_41 rfl rfl ?_
          refine cx_get hE d_Mo_nameAt_42 f_Mo_28 (by assumption) (by rfl) ?_
          refine cx_iload_n (i := 1) hE d_Mo_nameAt_45 rfl rfl ?_
          refine cx_iconst (v := 1) hE d_Mo_nameAt_46 (by decide) ?_
          refine cx_iadd hE d_Mo_nameAt_47 ?_
          rw [nI_1]
          refine cx_iald 1 hE d_Mo_nameAt_48 rfl (W0.1.i 14 rfl) (vp_in_nI (by show _ < 3601; omega) (by show 3601 < 2147483648; omega)) ?_
          rw [nI_clamp (by omega)]
          rw [hF2]
          refine cx_icmp_ge (tgt := 72)  hE d_Mo_nameAt_49 (by decide) (fun c_49 => ?_) (fun c_49 => ?_)
          · have hs : rt_sg r = false := by
              cases hsr : rt_sg r with
              | false => rfl
              | true =>
                exfalso
                have y1 := (nI_leI (by omega) (by omega)).mp c_49
                have y2 := rt_lt (P := rt_sg) hr hsr
                unfold rt_k at y1
                omega
            refine cx_iconst (v := 0) hE d_Mo_nameAt_72 (by decide) ?_
            refine cx_istore hE d_Mo_nameAt_73 (by decide) ?_
            refine cx_iload hE d_Mo_nameAt_75 rfl ?_
            refine cx_if_eq (tgt := 84)  hE d_Mo_nameAt_77 (by decide) (fun c_77 => ?_) (fun c_77 => ?_)
            · refine cx_iconst (v := -1) hE d_Mo_nameAt_84 (by decide) ?_
              refine cx_iload hE d_Mo_nameAt_85 rfl ?_
              refine cx_isub hE d_Mo_nameAt_87 ?_
              refine cx_istore hE d_Mo_nameAt_88 (by decide) ?_
              refine cx_iload hE d_Mo_nameAt_90 rfl ?_
              refine cx_if_eq (tgt := 101)  hE d_Mo_nameAt_92 (by decide) (fun c_92 => ?_) (fun c_92 => ?_)
              · refine cx_iload_n (i := 3) hE d_Mo_nameAt_101 rfl rfl ?_
                refine cx_istore_n (i := 3) hE d_Mo_nameAt_102 rfl (by decide) ?_
                refine cx_iload hE d_Mo_nameAt_103 rfl ?_
                refine cx_if_eq (tgt := 113)  hE d_Mo_nameAt_105 (by decide) (fun c_105 => ?_) (fun c_105 => ?_)
                · refine cx_iload hE d_Mo_nameAt_113 rfl ?_
                  refine cx_iconst (v := 1) hE d_Mo_nameAt_115 (by decide) ?_
                  refine cx_iadd hE d_Mo_nameAt_116 ?_
                  rw [nI_1]
                  refine cx_istore hE d_Mo_nameAt_117 (by decide) ?_
                  refine cx_iinc (v := nI (t + 1)) hE d_Mo_nameAt_119 rfl (nI_1 _) (by decide) ?_
                  refine cx_goto (tgt := 21) hE d_Mo_nameAt_122 (by decide) ?_
                  refine cx_sub [0, 3, 1, 2, 5, 6, 7] rfl ?_
                  obtain ⟨e1, e2, e3⟩ := rr_s2 (lo := lo) (li := li) hr hs
                  have := ih (d - 1) (by omega) (t + 1) (by omega)
                  rw [e1, e2, e3] at this
                  exact this
                · exact absurd rfl c_105
                  -- end
              · exact absurd rfl c_92
                -- end
            · exact absurd rfl c_77
              -- end
          · have h6 : rt_k v.2.2.1 t < v.2.2.1.countP rt_sg := by
              rcases Nat.lt_or_ge (rt_k v.2.2.1 t) (v.2.2.1.countP rt_sg) with y | y
              · exact y
              · exact absurd (nI_le (Nat.add_le_add_left y _) (by omega)) c_49
            refine cx_aload_n (i := 0) hE d_Mo_nameAt_52 rfl rfl ?_
            refine cx_get hE d_Mo_nameAt_53 f_Mo_40 (by assumption) (by rfl) ?_
            refine cx_iload_n (i := 3) hE d_Mo_nameAt_56 rfl rfl ?_
            refine cx_iald 1 hE d_Mo_nameAt_57 rfl (W0.1.i 19 rfl) (vp_in_nI (by show _ < 11000; omega) (by show 11000 < 2147483648; omega)) ?_
            rw [nI_clamp (by omega)]
            refine cx_aload_n (i := 0) hE d_Mo_nameAt_58 rfl rfl ?_
            refine cx_get hE d_Mo_nameAt_59 f_Mo_68 (by assumption) (by rfl) ?_
            refine cx_iload hE d_Mo_nameAt_62 rfl ?_
            refine cx_iald 1 hE d_Mo_nameAt_64 rfl (W0.1.i 29 rfl) (vp_in_nI (by show _ < 11000; omega) (by show 11000 < 2147483648; omega)) ?_
            rw [nI_clamp (by omega)]
            refine cx_icmp_ge (tgt := 72)  hE d_Mo_nameAt_65 (by decide) (fun c_65 => ?_) (fun c_65 => ?_)
            · have hs : rt_sg r = false := by
                cases hsr : rt_sg r with
                | false => rfl
                | true =>
                  exfalso
                  exact absurd (rr_o1 hor hI1 hr hsr h5) (Int32.not_lt.mpr c_65)
              refine cx_iconst (v := 0) hE d_Mo_nameAt_72 (by decide) ?_
              refine cx_istore hE d_Mo_nameAt_73 (by decide) ?_
              refine cx_iload hE d_Mo_nameAt_75 rfl ?_
              refine cx_if_eq (tgt := 84)  hE d_Mo_nameAt_77 (by decide) (fun c_77 => ?_) (fun c_77 => ?_)
              · refine cx_iconst (v := -1) hE d_Mo_nameAt_84 (by decide) ?_
                refine cx_iload hE d_Mo_nameAt_85 rfl ?_
                refine cx_isub hE d_Mo_nameAt_87 ?_
                refine cx_istore hE d_Mo_nameAt_88 (by decide) ?_
                refine cx_iload hE d_Mo_nameAt_90 rfl ?_
                refine cx_if_eq (tgt := 101)  hE d_Mo_nameAt_92 (by decide) (fun c_92 => ?_) (fun c_92 => ?_)
                · refine cx_iload_n (i := 3) hE d_Mo_nameAt_101 rfl rfl ?_
                  refine cx_istore_n (i := 3) hE d_Mo_nameAt_102 rfl (by decide) ?_
                  refine cx_iload hE d_Mo_nameAt_103 rfl ?_
                  refine cx_if_eq (tgt := 113)  hE d_Mo_nameAt_105 (by decide) (fun c_105 => ?_) (fun c_105 => ?_)
                  · refine cx_iload hE d_Mo_nameAt_113 rfl ?_
                    refine cx_iconst (v := 1) hE d_Mo_nameAt_115 (by decide) ?_
                    refine cx_iadd hE d_Mo_nameAt_116 ?_
                    rw [nI_1]
                    refine cx_istore hE d_Mo_nameAt_117 (by decide) ?_
                    refine cx_iinc (v := nI (t + 1)) hE d_Mo_nameAt_119 rfl (nI_1 _) (by decide) ?_
                    refine cx_goto (tgt := 21) hE d_Mo_nameAt_122 (by decide) ?_
                    refine cx_sub [0, 3, 1, 2, 5, 6, 7] rfl ?_
                    obtain ⟨e1, e2, e3⟩ := rr_s2 (lo := lo) (li := li) hr hs
                    have := ih (d - 1) (by omega) (t + 1) (by omega)
                    rw [e1, e2, e3] at this
                    exact this
                  · exact absurd rfl c_105
                    -- end
                · exact absurd rfl c_92
                  -- end
              · exact absurd rfl c_77
                -- end
            · have hs : rt_sg r = true := by
                cases hsr : rt_sg r with
                | true => rfl
                | false =>
                  exfalso
                  exact rr_o2 hor hI1 hr hsr h6 (Int32.not_le.mp c_65)
              refine cx_iconst (v := 1) hE d_Mo_nameAt_68 (by decide) ?_
              refine cx_goto (tgt := 73) hE d_Mo_nameAt_69 (by decide) ?_
              refine cx_istore hE d_Mo_nameAt_73 (by decide) ?_
              refine cx_iload hE d_Mo_nameAt_75 rfl ?_
              refine cx_if_eq (tgt := 84)  hE d_Mo_nameAt_77 (by decide) (fun c_77 => ?_) (fun c_77 => ?_)
              · exact absurd c_77 (show ¬ (1 : Int32) = 0 by decide)
                -- end
              · refine cx_iload_n (i := 3) hE d_Mo_nameAt_80 rfl rfl ?_
                refine cx_goto (tgt := 88) hE d_Mo_nameAt_81 (by decide) ?_
                refine cx_istore hE d_Mo_nameAt_88 (by decide) ?_
                refine cx_iload hE d_Mo_nameAt_90 rfl ?_
                refine cx_if_eq (tgt := 101)  hE d_Mo_nameAt_92 (by decide) (fun c_92 => ?_) (fun c_92 => ?_)
                · exact absurd c_92 (show ¬ (1 : Int32) = 0 by decide)
                  -- end
                · refine cx_iload_n (i := 3) hE d_Mo_nameAt_95 rfl rfl ?_
                  refine cx_iconst (v := 1) hE d_Mo_nameAt_96 (by decide) ?_
                  refine cx_iadd hE d_Mo_nameAt_97 ?_
                  rw [nI_1]
                  refine cx_goto (tgt := 102) hE d_Mo_nameAt_98 (by decide) ?_
                  refine cx_istore_n (i := 3) hE d_Mo_nameAt_102 rfl (by decide) ?_
                  refine cx_iload hE d_Mo_nameAt_103 rfl ?_
                  refine cx_if_eq (tgt := 113)  hE d_Mo_nameAt_105 (by decide) (fun c_105 => ?_) (fun c_105 => ?_)
                  · exact absurd c_105 (show ¬ (1 : Int32) = 0 by decide)
                    -- end
                  · refine cx_iload hE d_Mo_nameAt_108 rfl ?_
                    refine cx_goto (tgt := 117) hE d_Mo_nameAt_110 (by decide) ?_
                    refine cx_istore hE d_Mo_nameAt_117 (by decide) ?_
                    refine cx_iinc (v := nI (t + 1)) hE d_Mo_nameAt_119 rfl (nI_1 _) (by decide) ?_
                    refine cx_goto (tgt := 21) hE d_Mo_nameAt_122 (by decide) ?_
                    refine cx_sub [0, 3, 1, 2, 5, 6, 7] rfl ?_
                    obtain ⟨e1, e2, e3⟩ := rr_s1 (lo := lo) (li := li) hr hs
                    have := ih (d - 1) (by omega) (t + 1) (by omega)
                    rw [e1, e2, e3] at this
                    exact this
  refine cx_aload_n (i := 0) hE d_Mo_nameAt_0 rfl rfl ?_
  refine cx_get hE d_Mo_nameAt_1 f_Mo_28 (by assumption) (by rfl) ?_
  refine cx_iload_n (i := 1) hE d_Mo_nameAt_4 rfl rfl ?_
  refine cx_iald 1 hE d_Mo_nameAt_5 rfl (W0.1.i 14 rfl) (vp_in_nI (by show _ < 3601; omega) (by show 3601 < 2147483648; omega)) ?_
  rw [nI_clamp (by omega)]
  rw [hF1]
  refine cx_istore_n (i := 3) hE d_Mo_nameAt_6 rfl (by decide) ?_
  refine cx_aload_n (i := 0) hE d_Mo_nameAt_7 rfl rfl ?_
  refine cx_get hE d_Mo_nameAt_8 f_Mo_31 (by assumption) (by rfl) ?_
  refine cx_iload_n (i := 1) hE d_Mo_nameAt_11 rfl rfl ?_
  refine cx_iald 1 hE d_Mo_nameAt_12 rfl (W0.1.i 15 rfl) (vp_in_nI (by show _ < 3601; omega) (by show 3601 < 2147483648; omega)) ?_
  rw [nI_clamp (by omega)]
  rw [hF3]
  refine cx_istore hE d_Mo_nameAt_13 (by decide) ?_
  refine cx_iconst (v := 0) hE d_Mo_nameAt_15 (by decide) ?_
  refine cx_istore hE d_Mo_nameAt_16 (by decide) ?_
  refine cx_iconst (v := 0) hE d_Mo_nameAt_18 (by decide) ?_
  refine cx_istore hE d_Mo_nameAt_19 (by decide) ?_
  refine cx_sub [0, 1, 2, 3, 4, 5, 6] rfl ?_
  exact h21 (q + 1) 0 (Nat.zero_add _)
set_option maxRecDepth 100000 in
theorem c_Mo_declared {k : cx_K} {l : Launch} {G : cx_G} {mo : Nat} {P : Nat → Nat} {M : rm_M} {b : Nat × Nat} (hm : rm_R k G mo P M) (hQ : rm_Q b G M) {n : Nat} {f : Nat → Int32} {ft : Int32} {us : List tx_U} (hI : rr_I M n f ft us) {m q w : Int32}  : cx_Sp k l m_Mo_declared 1 [.ref mo, .int m, .int q, .int w] G (rp_P k mo b G P (rr_pd us m q w M)) := by
  intro E hE
  have W0 := rm_W.rf hm hQ
  have m0 := hm.1
  refine cx_aload_n (i := 0) hE d_Mo_declared_0 rfl rfl ?_
  refine cx_aload_n (i := 0) hE d_Mo_declared_1 rfl rfl ?_
  refine cx_iload_n (i := 1) hE d_Mo_declared_2 rfl rfl ?_
  refine cx_wR hE d_Mo_declared_3 l_Mo_422 W0 (c_Mo_isModule W0.1 W0.2.2 hI) rfl (by omega) (Nat.le_of_ble_eq_true rfl) n_Mo_isModule (by first | rfl | (simp only [List.map_cons, List.map_nil, cx_rfc]; rfl)) (fun v_3 K_3 => ?_)
  subst K_3
  refine cx_if_eq (tgt := 22)  hE d_Mo_declared_6 (by decide) (fun c_6 => ?_) (fun c_6 => ?_)
  · refine cx_iconst (v := 1) hE d_Mo_declared_22 (by decide) ?_
    refine cx_goto (tgt := 40) hE d_Mo_declared_23 (by decide) ?_
    refine cx_putg hE d_Mo_declared_40 f_Mo_122 (by assumption) (Nat.le_of_ble_eq_true rfl) (by first | rfl | exact cx_nr _ _) (by first | rfl | exact cx_fr _ _) (fun G_40 g_40 h_40 => ?_)
    rw [rm_s0] at g_40
    clear h_40
    have W_40 : rm_W k mo b G P G_40 P (rp_int M 0 1) := W0.pi g_40
    have m_40 := W_40.1.1
    refine cx_aload_n (i := 0) hE d_Mo_declared_43 rfl rfl ?_
    refine cx_get hE d_Mo_declared_44 f_Mo_122 (by assumption) (by rfl) ?_
    refine cx_if_le (tgt := 52)  hE d_Mo_declared_47 (by decide) (fun c_47 => ?_) (fun c_47 => ?_)
    · exact absurd c_47 (show ¬ (1 : Int32) ≤ 0 by decide)
      -- end
    · refine cx_iconst (v := 0) hE d_Mo_declared_50 (by decide) ?_
      refine cx_iret hE d_Mo_declared_51 rfl rfl ?_
      exact ⟨_, _, _, rfl, W_40, rr_pd.a (rr_np0 (rr_ixn (cx_b0.mp c_6)))⟩
  · obtain ⟨j, rfl, hj, hj31, hix⟩ := rr_ixs (cx_bn.mp c_6)
    have hv := ct_gd hj
    obtain ⟨nn, T, LO, LI, tT, hLO, hLI, hF, e12, l12, h51⟩ := hI.ex hv
    have hj36 : j < 3600 := by omega
    obtain ⟨lo, li, hG⟩ := hF.g hLO hLI
    have hln := rr_len (us.getD j tx_u0).2.2.1
    have hg5 := hG.2.2.2.2.1
    have hg6 := hG.2.2.2.2.2.1
    refine cx_iload_n (i := 2) hE d_Mo_declared_9 rfl rfl ?_
    refine cx_if_lt (tgt := 22)  hE d_Mo_declared_10 (by decide) (fun c_10 => ?_) (fun c_10 => ?_)
    · refine cx_iconst (v := 1) hE d_Mo_declared_22 (by decide) ?_
      refine cx_goto (tgt := 40) hE d_Mo_declared_23 (by decide) ?_
      refine cx_putg hE d_Mo_declared_40 f_Mo_122 (by assumption) (Nat.le_of_ble_eq_true rfl) (by first | rfl | exact cx_nr _ _) (by first | rfl | exact cx_fr _ _) (fun G_40 g_40 h_40 => ?_)
      rw [rm_s0] at g_40
      clear h_40
      have W_40 : rm_W k mo b G P G_40 P (rp_int M 0 1) := W0.pi g_40
      have m_40 := W_40.1.1
      refine cx_aload_n (i := 0) hE d_Mo_declared_43 rfl rfl ?_
      refine cx_get hE d_Mo_declared_44 f_Mo_122 (by assumption) (by rfl) ?_
      refine cx_if_le (tgt := 52)  hE d_Mo_declared_47 (by decide) (fun c_47 => ?_) (fun c_47 => ?_)
      · exact absurd c_47 (show ¬ (1 : Int32) ≤ 0 by decide)
        -- end
      · refine cx_iconst (v := 0) hE d_Mo_declared_50 (by decide) ?_
        refine cx_iret hE d_Mo_declared_51 rfl rfl ?_
        exact ⟨_, _, _, rfl, W_40, rr_pd.a (rr_np1 hix (ct_ix.no c_10))⟩
    · refine cx_iload_n (i := 2) hE d_Mo_declared_13 rfl rfl ?_
      refine cx_aload_n (i := 0) hE d_Mo_declared_14 rfl rfl ?_
      refine cx_iload_n (i := 1) hE d_Mo_declared_15 rfl rfl ?_
      refine cx_wR hE d_Mo_declared_16 l_Mo_425 W0 (c_Mo_names W0.1 W0.2.2 hj36 hG) rfl (by omega) (Nat.le_of_ble_eq_true rfl) n_Mo_names (by first | rfl | (simp only [List.map_cons, List.map_nil, cx_rfc]; rfl)) (fun v_16 K_16 => ?_)
      subst K_16
      refine cx_icmp_lt (tgt := 26)  hE d_Mo_declared_19 (by decide) (fun c_19 => ?_) (fun c_19 => ?_)
      · have hix2 : ∃ i, q = nI i ∧ i < (us.getD j tx_u0).2.2.1.length ∧ i < 2 ^ 31 ∧ ct_ix q (us.getD j tx_u0).2.2.1.length = some i := rr_ixs (rr_ixl c_10 (by omega) (Int32.not_le.mpr c_19))
        obtain ⟨i, rfl, hi, hi31, hix2⟩ := hix2
        have hnp := rr_np2 hix hix2
        have hri : (us.getD j tx_u0).2.2.1[i]? = some (ct_nm us (j, i)) := (ct_np.ok hnp).2.2
        have hL := hG.2.2.2.2.2.2.1 i _ hri
        have hgd : (us.getD j tx_u0).2.2.1.getD i tx_n0 = ct_nm us (j, i) := rfl
        refine cx_iload_n (i := 3) hE d_Mo_declared_26 rfl rfl ?_
        refine cx_if_lt (tgt := 35)  hE d_Mo_declared_27 (by decide) (fun c_27 => ?_) (fun c_27 => ?_)
        · refine cx_iconst (v := 2) hE d_Mo_declared_35 (by decide) ?_
          refine cx_goto (tgt := 40) hE d_Mo_declared_36 (by decide) ?_
          refine cx_putg hE d_Mo_declared_40 f_Mo_122 (by assumption) (Nat.le_of_ble_eq_true rfl) (by first | rfl | exact cx_nr _ _) (by first | rfl | exact cx_fr _ _) (fun G_40 g_40 h_40 => ?_)
          rw [rm_s0] at g_40
          clear h_40
          have W_40 : rm_W k mo b G P G_40 P (rp_int M 0 2) := W0.pi g_40
          have m_40 := W_40.1.1
          refine cx_aload_n (i := 0) hE d_Mo_declared_43 rfl rfl ?_
          refine cx_get hE d_Mo_declared_44 f_Mo_122 (by assumption) (by rfl) ?_
          refine cx_if_le (tgt := 52)  hE d_Mo_declared_47 (by decide) (fun c_47 => ?_) (fun c_47 => ?_)
          · exact absurd c_47 (show ¬ (2 : Int32) ≤ 0 by decide)
            -- end
          · refine cx_iconst (v := 0) hE d_Mo_declared_50 (by decide) ?_
            refine cx_iret hE d_Mo_declared_51 rfl rfl ?_
            exact ⟨_, _, _, rfl, W_40, rr_pd.b hnp (rr_dc2 (Or.inl c_27))⟩
        · refine cx_iload_n (i := 3) hE d_Mo_declared_30 rfl rfl ?_
          refine cx_iconst (v := 3) hE d_Mo_declared_31 (by decide) ?_
          refine cx_icmp_le (tgt := 39)  hE d_Mo_declared_32 (by decide) (fun c_32 => ?_) (fun c_32 => ?_)
          · refine cx_iconst (v := 0) hE d_Mo_declared_39 (by decide) ?_
            refine cx_putg hE d_Mo_declared_40 f_Mo_122 (by assumption) (Nat.le_of_ble_eq_true rfl) (by first | rfl | exact cx_nr _ _) (by first | rfl | exact cx_fr _ _) (fun G_40 g_40 h_40 => ?_)
            rw [rm_s0] at g_40
            clear h_40
            have W_40 : rm_W k mo b G P G_40 P (rp_int M 0 0) := W0.pi g_40
            have m_40 := W_40.1.1
            refine cx_aload_n (i := 0) hE d_Mo_declared_43 rfl rfl ?_
            refine cx_get hE d_Mo_declared_44 f_Mo_122 (by assumption) (by rfl) ?_
            refine cx_if_le (tgt := 52)  hE d_Mo_declared_47 (by decide) (fun c_47 => ?_) (fun c_47 => ?_)
            · refine cx_aload_n (i := 0) hE d_Mo_declared_52 rfl rfl ?_
              refine cx_iload_n (i := 1) hE d_Mo_declared_53 rfl rfl ?_
              refine cx_iload_n (i := 2) hE d_Mo_declared_54 rfl rfl ?_
              refine cx_wR hE d_Mo_declared_55 l_Mo_430 W_40 (c_Mo_nameAt W_40.1 W_40.2.2 hj36 (show rr_F T (rp_int M 0 0) j (us.getD j tx_u0) lo li from hG) hi) rfl (by omega) (Nat.le_of_ble_eq_true rfl) n_Mo_nameAt (by first | rfl | (simp only [List.map_cons, List.map_nil, cx_rfc]; rfl)) (fun v_55 K_55 => ?_)
              subst K_55
              refine cx_istore hE d_Mo_declared_58 (by decide) ?_
              refine cx_iload hE d_Mo_declared_60 rfl ?_
              refine cx_if_ge (tgt := 116)  hE d_Mo_declared_62 (by decide) (fun c_62 => ?_) (fun c_62 => ?_)
              · have hs : rt_sg (ct_nm us (j, i)) = true := by
                  cases hsr : rt_sg (ct_nm us (j, i)) with
                  | true => rfl
                  | false =>
                    exfalso
                    have lj := rt_lt (P := fun r => !rt_sg r) hri (by rw [hsr]; rfl)
                    unfold rr_nc at c_62
                    rw [hgd, if_neg (by rw [hsr]; decide)] at c_62
                    exact rr_ng (by unfold rt_j; omega) c_62
                have hl1 := hL.1 hs
                have lk := rt_lt (P := rt_sg) hri hs
                rw [show rr_nc (us.getD j tx_u0).2.2.1 lo li i = nI (lo + rt_k (us.getD j tx_u0).2.2.1 i) by unfold rr_nc; rw [hgd, if_pos hs]]
                generalize hK9 : lo + rt_k (us.getD j tx_u0).2.2.1 i = kx at hl1 ⊢
                have hkx : kx < 11000 := by
                  rw [← hK9]
                  unfold rt_k
                  omega
                obtain ⟨⟨yy, hy1, hy2⟩, hy3, hyw, hy4, hy5, hy6, hy7, hy8⟩ := hl1
                have hyl := hy2.1
                have hql := tT.len
                have hqn := tT.2.1
                refine cx_iload_n (i := 3) hE d_Mo_declared_116 rfl rfl ?_
                refine cx_if_ne (tgt := 130)  hE d_Mo_declared_117 (by decide) (fun c_117 => ?_) (fun c_117 => ?_)
                · refine cx_iload_n (i := 3) hE d_Mo_declared_130 rfl rfl ?_
                  refine cx_iconst (v := 1) hE d_Mo_declared_131 (by decide) ?_
                  refine cx_icmp_ne (tgt := 145)  hE d_Mo_declared_132 (by decide) (fun c_132 => ?_) (fun c_132 => ?_)
                  · refine cx_iload_n (i := 3) hE d_Mo_declared_145 rfl rfl ?_
                    refine cx_iconst (v := 2) hE d_Mo_declared_146 (by decide) ?_
                    refine cx_icmp_ne (tgt := 165)  hE d_Mo_declared_147 (by decide) (fun c_147 => ?_) (fun c_147 => ?_)
                    · refine cx_iconst (v := -1) hE d_Mo_declared_165 (by decide) ?_
                      refine cx_iret hE d_Mo_declared_166 rfl rfl ?_
                      exact ⟨_, _, _, rfl, W_40, rr_pd.c hnp (x := (-1)) (by rw [show w = _ from (rr_w3 c_27 c_32 c_117 c_132 c_147)]; exact (by unfold ct_dc; rw [hy8]; rfl)) rfl⟩
                    · refine cx_aload_n (i := 0) hE d_Mo_declared_150 rfl rfl ?_
                      refine cx_get hE d_Mo_declared_151 f_Mo_19 (by assumption) (by rfl) ?_
                      refine cx_aload_n (i := 0) hE d_Mo_declared_154 rfl rfl ?_
                      refine cx_get hE d_Mo_declared_155 f_Mo_40 (by assumption) (by rfl) ?_
                      refine cx_iload hE d_Mo_declared_158 rfl ?_
                      refine cx_iald 1 hE d_Mo_declared_160 rfl (W_40.1.i 19 rfl) (vp_in_nI (by show _ < 11000; omega) (by show 11000 < 2147483648; omega)) ?_
                      rw [nI_clamp (by omega)]
                      rw [show (rp_int M 0 0).2.1 19 kx = nI yy from hy1]
                      refine cx_iald 1 hE d_Mo_declared_161 rfl (W_40.1.i 5 rfl) (vp_in_nI (by show _ < 65540; omega) (by show 65540 < 2147483648; omega)) ?_
                      rw [nI_clamp (by omega)]
                      refine cx_goto (tgt := 166) hE d_Mo_declared_162 (by decide) ?_
                      refine cx_iret hE d_Mo_declared_166 rfl rfl ?_
                      exact ⟨_, _, _, rfl, W_40, rr_pd.c hnp (x := (nI (ct_nm us (j, i)).2.2.2.1)) (by rw [show w = _ from c_147]; exact (rfl)) (by show M.2.1 5 yy = _; rw [(tT.tk.2.1 yy hyl).2, hy2.2.2.2])⟩
                  · refine cx_aload_n (i := 0) hE d_Mo_declared_135 rfl rfl ?_
                    refine cx_get hE d_Mo_declared_136 f_Mo_43 (by assumption) (by rfl) ?_
                    refine cx_iload hE d_Mo_declared_139 rfl ?_
                    refine cx_iald 1 hE d_Mo_declared_141 rfl (W_40.1.i 20 rfl) (vp_in_nI (by show _ < 11000; omega) (by show 11000 < 2147483648; omega)) ?_
                    rw [nI_clamp (by omega)]
                    refine cx_goto (tgt := 166) hE d_Mo_declared_142 (by decide) ?_
                    refine cx_iret hE d_Mo_declared_166 rfl rfl ?_
                    exact ⟨_, _, _, rfl, W_40, rr_pd.c hnp (x := (ct_nm us (j, i)).2.2.1) (by rw [show w = _ from c_132]; exact (rfl)) hy3⟩
                · refine cx_aload_n (i := 0) hE d_Mo_declared_120 rfl rfl ?_
                  refine cx_get hE d_Mo_declared_121 f_Mo_46 (by assumption) (by rfl) ?_
                  refine cx_iload hE d_Mo_declared_124 rfl ?_
                  refine cx_iald 1 hE d_Mo_declared_126 rfl (W_40.1.i 21 rfl) (vp_in_nI (by show _ < 11000; omega) (by show 11000 < 2147483648; omega)) ?_
                  rw [nI_clamp (by omega)]
                  refine cx_goto (tgt := 166) hE d_Mo_declared_127 (by decide) ?_
                  refine cx_iret hE d_Mo_declared_166 rfl rfl ?_
                  exact ⟨_, _, _, rfl, W_40, rr_pd.c hnp (x := (ct_nm us (j, i)).2.1) (by rw [show w = _ from c_117]; exact (rfl)) hy4⟩
              · have hs : rt_sg (ct_nm us (j, i)) = false := by
                  cases hsr : rt_sg (ct_nm us (j, i)) with
                  | false => rfl
                  | true =>
                    exfalso
                    have lk := rt_lt (P := rt_sg) hri hsr
                    unfold rr_nc at c_62
                    rw [hgd, if_pos hsr] at c_62
                    exact c_62 (nI_pos' (by unfold rt_k; omega))
                have hl1 := hL.2 hs
                have lj := rt_lt (P := fun r => !rt_sg r) hri (by rw [hs]; rfl)
                rw [show rr_nc (us.getD j tx_u0).2.2.1 lo li i = -1 - nI (li + rt_j (us.getD j tx_u0).2.2.1 i) by unfold rr_nc; rw [hgd, if_neg (by rw [hs]; decide)]]
                generalize hK9 : li + rt_j (us.getD j tx_u0).2.2.1 i = kx at hl1 ⊢
                have hkx : kx < 11000 := by
                  rw [← hK9]
                  unfold rt_j
                  omega
                obtain ⟨⟨yy, hy1, hy2⟩, jj, hy3, hy4, hy5, hy6⟩ := hl1
                have hk5 : (ct_nm us (j, i)).2.1 = 5 := by
                  unfold rt_sg at hs
                  simpa using hs
                have hyl := hy2.1
                have hql := tT.len
                have hqn := tT.2.1
                refine cx_iconst (v := -1) hE d_Mo_declared_65 (by decide) ?_
                refine cx_iload hE d_Mo_declared_66 rfl ?_
                refine cx_isub hE d_Mo_declared_68 ?_
                rw [rr_neg]
                refine cx_istore hE d_Mo_declared_69 (by decide) ?_
                refine cx_iload_n (i := 3) hE d_Mo_declared_71 rfl rfl ?_
                refine cx_if_ne (tgt := 79)  hE d_Mo_declared_72 (by decide) (fun c_72 => ?_) (fun c_72 => ?_)
                · refine cx_iload_n (i := 3) hE d_Mo_declared_79 rfl rfl ?_
                  refine cx_iconst (v := 1) hE d_Mo_declared_80 (by decide) ?_
                  refine cx_icmp_ne (tgt := 88)  hE d_Mo_declared_81 (by decide) (fun c_81 => ?_) (fun c_81 => ?_)
                  · refine cx_iload_n (i := 3) hE d_Mo_declared_88 rfl rfl ?_
                    refine cx_iconst (v := 2) hE d_Mo_declared_89 (by decide) ?_
                    refine cx_icmp_ne (tgt := 108)  hE d_Mo_declared_90 (by decide) (fun c_90 => ?_) (fun c_90 => ?_)
                    · refine cx_aload_n (i := 0) hE d_Mo_declared_108 rfl rfl ?_
                      refine cx_get hE d_Mo_declared_109 f_Mo_65 (by assumption) (by rfl) ?_
                      refine cx_iload hE d_Mo_declared_112 rfl ?_
                      refine cx_iald 1 hE d_Mo_declared_114 rfl (W_40.1.i 28 rfl) (vp_in_nI (by show _ < 11000; omega) (by show 11000 < 2147483648; omega)) ?_
                      rw [nI_clamp (by omega)]
                      refine cx_iret hE d_Mo_declared_115 rfl rfl ?_
                      exact ⟨_, _, _, rfl, W_40, rr_pd.c hnp (x := (nI jj)) (by rw [show w = _ from (rr_w3 c_27 c_32 c_72 c_81 c_90)]; exact (by unfold ct_dc; rw [hy3]; rfl)) hy4⟩
                    · refine cx_aload_n (i := 0) hE d_Mo_declared_93 rfl rfl ?_
                      refine cx_get hE d_Mo_declared_94 f_Mo_19 (by assumption) (by rfl) ?_
                      refine cx_aload_n (i := 0) hE d_Mo_declared_97 rfl rfl ?_
                      refine cx_get hE d_Mo_declared_98 f_Mo_68 (by assumption) (by rfl) ?_
                      refine cx_iload hE d_Mo_declared_101 rfl ?_
                      refine cx_iald 1 hE d_Mo_declared_103 rfl (W_40.1.i 29 rfl) (vp_in_nI (by show _ < 11000; omega) (by show 11000 < 2147483648; omega)) ?_
                      rw [nI_clamp (by omega)]
                      rw [show (rp_int M 0 0).2.1 29 kx = nI yy from hy1]
                      refine cx_iald 1 hE d_Mo_declared_104 rfl (W_40.1.i 5 rfl) (vp_in_nI (by show _ < 65540; omega) (by show 65540 < 2147483648; omega)) ?_
                      rw [nI_clamp (by omega)]
                      refine cx_goto (tgt := 115) hE d_Mo_declared_105 (by decide) ?_
                      refine cx_iret hE d_Mo_declared_115 rfl rfl ?_
                      exact ⟨_, _, _, rfl, W_40, rr_pd.c hnp (x := (nI (ct_nm us (j, i)).2.2.2.1)) (by rw [show w = _ from c_90]; exact (rfl)) (by show M.2.1 5 yy = _; rw [(tT.tk.2.1 yy hyl).2, hy2.2.2.2])⟩
                  · refine cx_iconst (v := 0) hE d_Mo_declared_84 (by decide) ?_
                    refine cx_goto (tgt := 115) hE d_Mo_declared_85 (by decide) ?_
                    refine cx_iret hE d_Mo_declared_115 rfl rfl ?_
                    exact ⟨_, _, _, rfl, W_40, rr_pd.c hnp (x := (ct_nm us (j, i)).2.2.1) (by rw [show w = _ from c_81]; exact (rfl)) hy5.symm⟩
                · refine cx_iconst (v := 5) hE d_Mo_declared_75 (by decide) ?_
                  refine cx_goto (tgt := 115) hE d_Mo_declared_76 (by decide) ?_
                  refine cx_iret hE d_Mo_declared_115 rfl rfl ?_
                  exact ⟨_, _, _, rfl, W_40, rr_pd.c hnp (x := (ct_nm us (j, i)).2.1) (by rw [show w = _ from c_72]; exact (rfl)) hk5.symm⟩
            · exact absurd (show (0 : Int32) ≤ 0 by decide) c_47
              -- end
          · refine cx_iconst (v := 2) hE d_Mo_declared_35 (by decide) ?_
            refine cx_goto (tgt := 40) hE d_Mo_declared_36 (by decide) ?_
            refine cx_putg hE d_Mo_declared_40 f_Mo_122 (by assumption) (Nat.le_of_ble_eq_true rfl) (by first | rfl | exact cx_nr _ _) (by first | rfl | exact cx_fr _ _) (fun G_40 g_40 h_40 => ?_)
            rw [rm_s0] at g_40
            clear h_40
            have W_40 : rm_W k mo b G P G_40 P (rp_int M 0 2) := W0.pi g_40
            have m_40 := W_40.1.1
            refine cx_aload_n (i := 0) hE d_Mo_declared_43 rfl rfl ?_
            refine cx_get hE d_Mo_declared_44 f_Mo_122 (by assumption) (by rfl) ?_
            refine cx_if_le (tgt := 52)  hE d_Mo_declared_47 (by decide) (fun c_47 => ?_) (fun c_47 => ?_)
            · exact absurd c_47 (show ¬ (2 : Int32) ≤ 0 by decide)
              -- end
            · refine cx_iconst (v := 0) hE d_Mo_declared_50 (by decide) ?_
              refine cx_iret hE d_Mo_declared_51 rfl rfl ?_
              exact ⟨_, _, _, rfl, W_40, rr_pd.b hnp (rr_dc2 (Or.inr c_32))⟩
      · refine cx_iconst (v := 1) hE d_Mo_declared_22 (by decide) ?_
        refine cx_goto (tgt := 40) hE d_Mo_declared_23 (by decide) ?_
        refine cx_putg hE d_Mo_declared_40 f_Mo_122 (by assumption) (Nat.le_of_ble_eq_true rfl) (by first | rfl | exact cx_nr _ _) (by first | rfl | exact cx_fr _ _) (fun G_40 g_40 h_40 => ?_)
        rw [rm_s0] at g_40
        clear h_40
        have W_40 : rm_W k mo b G P G_40 P (rp_int M 0 1) := W0.pi g_40
        have m_40 := W_40.1.1
        refine cx_aload_n (i := 0) hE d_Mo_declared_43 rfl rfl ?_
        refine cx_get hE d_Mo_declared_44 f_Mo_122 (by assumption) (by rfl) ?_
        refine cx_if_le (tgt := 52)  hE d_Mo_declared_47 (by decide) (fun c_47 => ?_) (fun c_47 => ?_)
        · exact absurd c_47 (show ¬ (1 : Int32) ≤ 0 by decide)
          -- end
        · refine cx_iconst (v := 0) hE d_Mo_declared_50 (by decide) ?_
          refine cx_iret hE d_Mo_declared_51 rfl rfl ?_
          exact ⟨_, _, _, rfl, W_40, rr_pd.a (rr_np1 hix (rr_ixg c_10 (by omega) (Int32.not_lt.mp c_19)))⟩
set_option maxRecDepth 100000 in
theorem c_Mo_beginning {k : cx_K} {l : Launch} {G : cx_G} {mo : Nat} {P : Nat → Nat} {M : rm_M} {b : Nat × Nat} (hm : rm_R k G mo P M) (hQ : rm_Q b G M) {n : Nat} {f : Nat → Int32} {ft : Int32} {us : List tx_U} (hI : rr_I M n f ft us) {m q : Int32}  : cx_Sp k l m_Mo_beginning 1 [.ref mo, .int m, .int q] G (rp_PL k mo b G P (rr_pb us m q M)) := by
  intro E hE
  have W0 := rm_W.rf hm hQ
  have m0 := hm.1
  refine cx_aload_n (i := 0) hE d_Mo_beginning_0 rfl rfl ?_
  refine cx_aload_n (i := 0) hE d_Mo_beginning_1 rfl rfl ?_
  refine cx_iload_n (i := 1) hE d_Mo_beginning_2 rfl rfl ?_
  refine cx_wR hE d_Mo_beginning_3 l_Mo_422 W0 (c_Mo_isModule W0.1 W0.2.2 hI) rfl (by omega) (Nat.le_of_ble_eq_true rfl) n_Mo_isModule (by first | rfl | (simp only [List.map_cons, List.map_nil, cx_rfc]; rfl)) (fun v_3 K_3 => ?_)
  subst K_3
  refine cx_if_eq (tgt := 22)  hE d_Mo_beginning_6 (by decide) (fun c_6 => ?_) (fun c_6 => ?_)
  · refine cx_iconst (v := 1) hE d_Mo_beginning_22 (by decide) ?_
    refine cx_goto (tgt := 27) hE d_Mo_beginning_23 (by decide) ?_
    refine cx_putg hE d_Mo_beginning_27 f_Mo_122 (by assumption) (Nat.le_of_ble_eq_true rfl) (by first | rfl | exact cx_nr _ _) (by first | rfl | exact cx_fr _ _) (fun G_27 g_27 h_27 => ?_)
    rw [rm_s0] at g_27
    clear h_27
    have W_27 : rm_W k mo b G P G_27 P (rp_int M 0 1) := W0.pi g_27
    have m_27 := W_27.1.1
    refine cx_aload_n (i := 0) hE d_Mo_beginning_30 rfl rfl ?_
    refine cx_get hE d_Mo_beginning_31 f_Mo_122 (by assumption) (by rfl) ?_
    refine cx_if_le (tgt := 39)  hE d_Mo_beginning_34 (by decide) (fun c_34 => ?_) (fun c_34 => ?_)
    · exact absurd c_34 (show ¬ (1 : Int32) ≤ 0 by decide)
      -- end
    · refine cx_lconst (v := 0) hE d_Mo_beginning_37 (by decide) ?_
      refine cx_lret hE d_Mo_beginning_38 rfl ?_
      exact ⟨_, _, _, rfl, W_27, rr_pb.a (rr_np0 (rr_ixn (cx_b0.mp c_6)))⟩
  · obtain ⟨j, rfl, hj, hj31, hix⟩ := rr_ixs (cx_bn.mp c_6)
    have hv := ct_gd hj
    obtain ⟨nn, T, LO, LI, tT, hLO, hLI, hF, e12, l12, h51⟩ := hI.ex hv
    have hj36 : j < 3600 := by omega
    obtain ⟨lo, li, hG⟩ := hF.g hLO hLI
    have hln := rr_len (us.getD j tx_u0).2.2.1
    have hg5 := hG.2.2.2.2.1
    have hg6 := hG.2.2.2.2.2.1
    refine cx_iload_n (i := 2) hE d_Mo_beginning_9 rfl rfl ?_
    refine cx_if_lt (tgt := 22)  hE d_Mo_beginning_10 (by decide) (fun c_10 => ?_) (fun c_10 => ?_)
    · refine cx_iconst (v := 1) hE d_Mo_beginning_22 (by decide) ?_
      refine cx_goto (tgt := 27) hE d_Mo_beginning_23 (by decide) ?_
      refine cx_putg hE d_Mo_beginning_27 f_Mo_122 (by assumption) (Nat.le_of_ble_eq_true rfl) (by first | rfl | exact cx_nr _ _) (by first | rfl | exact cx_fr _ _) (fun G_27 g_27 h_27 => ?_)
      rw [rm_s0] at g_27
      clear h_27
      have W_27 : rm_W k mo b G P G_27 P (rp_int M 0 1) := W0.pi g_27
      have m_27 := W_27.1.1
      refine cx_aload_n (i := 0) hE d_Mo_beginning_30 rfl rfl ?_
      refine cx_get hE d_Mo_beginning_31 f_Mo_122 (by assumption) (by rfl) ?_
      refine cx_if_le (tgt := 39)  hE d_Mo_beginning_34 (by decide) (fun c_34 => ?_) (fun c_34 => ?_)
      · exact absurd c_34 (show ¬ (1 : Int32) ≤ 0 by decide)
        -- end
      · refine cx_lconst (v := 0) hE d_Mo_beginning_37 (by decide) ?_
        refine cx_lret hE d_Mo_beginning_38 rfl ?_
        exact ⟨_, _, _, rfl, W_27, rr_pb.a (rr_np1 hix (ct_ix.no c_10))⟩
    · refine cx_iload_n (i := 2) hE d_Mo_beginning_13 rfl rfl ?_
      refine cx_aload_n (i := 0) hE d_Mo_beginning_14 rfl rfl ?_
      refine cx_iload_n (i := 1) hE d_Mo_beginning_15 rfl rfl ?_
      refine cx_wR hE d_Mo_beginning_16 l_Mo_425 W0 (c_Mo_names W0.1 W0.2.2 hj36 hG) rfl (by omega) (Nat.le_of_ble_eq_true rfl) n_Mo_names (by first | rfl | (simp only [List.map_cons, List.map_nil, cx_rfc]; rfl)) (fun v_16 K_16 => ?_)
      subst K_16
      refine cx_icmp_lt (tgt := 26)  hE d_Mo_beginning_19 (by decide) (fun c_19 => ?_) (fun c_19 => ?_)
      · have hix2 : ∃ i, q = nI i ∧ i < (us.getD j tx_u0).2.2.1.length ∧ i < 2 ^ 31 ∧ ct_ix q (us.getD j tx_u0).2.2.1.length = some i := rr_ixs (rr_ixl c_10 (by omega) (Int32.not_le.mpr c_19))
        obtain ⟨i, rfl, hi, hi31, hix2⟩ := hix2
        have hnp := rr_np2 hix hix2
        have hri : (us.getD j tx_u0).2.2.1[i]? = some (ct_nm us (j, i)) := (ct_np.ok hnp).2.2
        have hL := hG.2.2.2.2.2.2.1 i _ hri
        have hgd : (us.getD j tx_u0).2.2.1.getD i tx_n0 = ct_nm us (j, i) := rfl
        refine cx_iconst (v := 0) hE d_Mo_beginning_26 (by decide) ?_
        refine cx_putg hE d_Mo_beginning_27 f_Mo_122 (by assumption) (Nat.le_of_ble_eq_true rfl) (by first | rfl | exact cx_nr _ _) (by first | rfl | exact cx_fr _ _) (fun G_27 g_27 h_27 => ?_)
        rw [rm_s0] at g_27
        clear h_27
        have W_27 : rm_W k mo b G P G_27 P (rp_int M 0 0) := W0.pi g_27
        have m_27 := W_27.1.1
        refine cx_aload_n (i := 0) hE d_Mo_beginning_30 rfl rfl ?_
        refine cx_get hE d_Mo_beginning_31 f_Mo_122 (by assumption) (by rfl) ?_
        refine cx_if_le (tgt := 39)  hE d_Mo_beginning_34 (by decide) (fun c_34 => ?_) (fun c_34 => ?_)
        · refine cx_aload_n (i := 0) hE d_Mo_beginning_39 rfl rfl ?_
          refine cx_iload_n (i := 1) hE d_Mo_beginning_40 rfl rfl ?_
          refine cx_iload_n (i := 2) hE d_Mo_beginning_41 rfl rfl ?_
          refine cx_wR hE d_Mo_beginning_42 l_Mo_430 W_27 (c_Mo_nameAt W_27.1 W_27.2.2 hj36 (show rr_F T (rp_int M 0 0) j (us.getD j tx_u0) lo li from hG) hi) rfl (by omega) (Nat.le_of_ble_eq_true rfl) n_Mo_nameAt (by first | rfl | (simp only [List.map_cons, List.map_nil, cx_rfc]; rfl)) (fun v_42 K_42 => ?_)
          subst K_42
          refine cx_istore_n (i := 3) hE d_Mo_beginning_45 rfl (by decide) ?_
          refine cx_iload_n (i := 3) hE d_Mo_beginning_46 rfl rfl ?_
          refine cx_if_ge (tgt := 54)  hE d_Mo_beginning_47 (by decide) (fun c_47 => ?_) (fun c_47 => ?_)
          · have hs : rt_sg (ct_nm us (j, i)) = true := by
              cases hsr : rt_sg (ct_nm us (j, i)) with
              | true => rfl
              | false =>
                exfalso
                have lj := rt_lt (P := fun r => !rt_sg r) hri (by rw [hsr]; rfl)
                unfold rr_nc at c_47
                rw [hgd, if_neg (by rw [hsr]; decide)] at c_47
                exact rr_ng (by unfold rt_j; omega) c_47
            have hl1 := hL.1 hs
            have lk := rt_lt (P := rt_sg) hri hs
            rw [show rr_nc (us.getD j tx_u0).2.2.1 lo li i = nI (lo + rt_k (us.getD j tx_u0).2.2.1 i) by unfold rr_nc; rw [hgd, if_pos hs]]
            generalize hK9 : lo + rt_k (us.getD j tx_u0).2.2.1 i = kx at hl1 ⊢
            have hkx : kx < 11000 := by
              rw [← hK9]
              unfold rt_k
              omega
            obtain ⟨⟨yy, hy1, hy2⟩, hy3, hyw, hy4, hy5, hy6, hy7, hy8⟩ := hl1
            have hyl := hy2.1
            have hql := tT.len
            have hqn := tT.2.1
            refine cx_aload_n (i := 0) hE d_Mo_beginning_54 rfl rfl ?_
            refine cx_get hE d_Mo_beginning_55 f_Mo_49 (by assumption) (by rfl) ?_
            refine cx_iload_n (i := 3) hE d_Mo_beginning_58 rfl rfl ?_
            refine cx_lald 2 hE d_Mo_beginning_59 rfl (W_27.1.l 22 rfl) (vp_in_nI (by show _ < 11000; omega) (by show 11000 < 2147483648; omega)) ?_
            rw [nI_clamp (by omega)]
            refine cx_lret hE d_Mo_beginning_60 rfl ?_
            exact ⟨_, _, _, rfl, W_27, rr_pb.c hnp hy5⟩
          · have hs : rt_sg (ct_nm us (j, i)) = false := by
              cases hsr : rt_sg (ct_nm us (j, i)) with
              | false => rfl
              | true =>
                exfalso
                have lk := rt_lt (P := rt_sg) hri hsr
                unfold rr_nc at c_47
                rw [hgd, if_pos hsr] at c_47
                exact c_47 (nI_pos' (by unfold rt_k; omega))
            have hl1 := hL.2 hs
            have lj := rt_lt (P := fun r => !rt_sg r) hri (by rw [hs]; rfl)
            rw [show rr_nc (us.getD j tx_u0).2.2.1 lo li i = -1 - nI (li + rt_j (us.getD j tx_u0).2.2.1 i) by unfold rr_nc; rw [hgd, if_neg (by rw [hs]; decide)]]
            generalize hK9 : li + rt_j (us.getD j tx_u0).2.2.1 i = kx at hl1 ⊢
            have hkx : kx < 11000 := by
              rw [← hK9]
              unfold rt_j
              omega
            obtain ⟨⟨yy, hy1, hy2⟩, jj, hy3, hy4, hy5, hy6⟩ := hl1
            have hk5 : (ct_nm us (j, i)).2.1 = 5 := by
              unfold rt_sg at hs
              simpa using hs
            have hyl := hy2.1
            have hql := tT.len
            have hqn := tT.2.1
            refine cx_lconst (v := 0) hE d_Mo_beginning_50 (by decide) ?_
            refine cx_goto (tgt := 60) hE d_Mo_beginning_51 (by decide) ?_
            refine cx_lret hE d_Mo_beginning_60 rfl ?_
            exact ⟨_, _, _, rfl, W_27, rr_pb.c hnp hy6.symm⟩
        · exact absurd (show (0 : Int32) ≤ 0 by decide) c_34
          -- end
      · refine cx_iconst (v := 1) hE d_Mo_beginning_22 (by decide) ?_
        refine cx_goto (tgt := 27) hE d_Mo_beginning_23 (by decide) ?_
        refine cx_putg hE d_Mo_beginning_27 f_Mo_122 (by assumption) (Nat.le_of_ble_eq_true rfl) (by first | rfl | exact cx_nr _ _) (by first | rfl | exact cx_fr _ _) (fun G_27 g_27 h_27 => ?_)
        rw [rm_s0] at g_27
        clear h_27
        have W_27 : rm_W k mo b G P G_27 P (rp_int M 0 1) := W0.pi g_27
        have m_27 := W_27.1.1
        refine cx_aload_n (i := 0) hE d_Mo_beginning_30 rfl rfl ?_
        refine cx_get hE d_Mo_beginning_31 f_Mo_122 (by assumption) (by rfl) ?_
        refine cx_if_le (tgt := 39)  hE d_Mo_beginning_34 (by decide) (fun c_34 => ?_) (fun c_34 => ?_)
        · exact absurd c_34 (show ¬ (1 : Int32) ≤ 0 by decide)
          -- end
        · refine cx_lconst (v := 0) hE d_Mo_beginning_37 (by decide) ?_
          refine cx_lret hE d_Mo_beginning_38 rfl ?_
          exact ⟨_, _, _, rfl, W_27, rr_pb.a (rr_np1 hix (rr_ixg c_10 (by omega) (Int32.not_lt.mp c_19)))⟩

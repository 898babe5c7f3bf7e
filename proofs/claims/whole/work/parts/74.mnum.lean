/-! THE REFERENCE: a number's kind, value and width. -/
theorem rm_dgd {c : Int32} (h : tx_dig c = true) : rm_dg c = nI (tx_dg c) ∧ tx_dg c < 10 := by
  have q := tx_dg_nI h
  unfold rm_dg
  rw [if_pos h]
  refine ⟨?_, by omega⟩
  have e : c - 48 = nI (tx_dg c + 48) - nI 48 := by rw [← q.1]; rfl
  rw [e, pk_sub (by omega)]
  congr 1
theorem rm_dgh {b : Nat} {c : Int32} (hb : b ≤ 16) : (rm_dg c < nI b ↔ tx_hok b c = true) ∧ (tx_hok b c = true → rm_dg c = nI (tx_hd c) ∧ tx_hd c < b) := by
  have e := rm_dg_hex c
  have key : tx_hok b c = true → rm_dg c = nI (tx_hd c) ∧ tx_hd c < b := fun h => by
    have q := tx_hd_nI h hb
    have h1 := of_decide_eq_true h
    rw [e, if_neg (fun z => by rw [z] at h1; exact absurd h1.1 (by decide))]
    exact q
  refine ⟨⟨fun h => ?_, fun h => ?_⟩, key⟩
  · by_cases z : tx_hex c = -1
    · rw [e, if_pos z, show (99 : Int32) = nI 99 from rfl, nI_ltI (by omega) (by omega)] at h
      omega
    · rw [e, if_neg z] at h
      have h1 := tx_hex_pos z
      rw [Int32.lt_iff_toInt_lt, nI_toInt (by omega)] at h
      exact decide_eq_true ⟨h1, h⟩
  · have q := key h
    rw [q.1]
    exact nI_lt q.2 (by omega)
theorem tx_all_iff {P : Nat → Bool} {a : Nat} : ∀ m, tx_all P a m = true ↔ ∀ t, t < m → P (a + t) = true
  | 0 => ⟨fun _ t h => by omega, fun _ => rfl⟩
  | m + 1 => by
    unfold tx_all
    rw [Bool.and_eq_true, tx_all_iff m]
    refine ⟨fun h t ht => ?_, fun h => ⟨fun t ht => h t (by omega), h m (by omega)⟩⟩
    rcases Nat.lt_or_ge t m with z | z
    · exact h.1 t z
    · have : t = m := by omega
      rw [this]; exact h.2
theorem tx_e_to {P : Nat → Prop} {n p d : Nat} (hP : ∀ i, P i → i < n) (hd : p ≤ d) (h : ∀ i, p ≤ i → i < d → P i) : tx_e P p = tx_e P d := by
  have hx := tx_ex hP d
  refine tx_e_of ⟨by have := hx.1; omega, fun i a b => ?_, hx.2.2⟩
  rcases Nat.lt_or_ge i d with z | z
  · exact h i a z
  · exact hx.2.1 i z b
section RMN
variable {n p m : Nat} {f : Nat → Int32}
theorem rm_de_all (h : rm_de n (tx_at n f) p = p + m) : tx_all (fun i => tx_dig (tx_at n f i)) p m = true ∧ tx_dig (tx_at n f (p + m)) = false ∧ (∀ i, p ≤ i → i < p + m → tx_dig (tx_at n f i) = true) ∧ (p ≤ n → p + m ≤ n) := by
  have hx := tx_ex (P := rm_dP n (tx_at n f)) (n := n) rm_dP_n p
  have hl := tx_e_le (P := rm_dP n (tx_at n f)) (n := n) rm_dP_n p
  unfold rm_de at h
  rw [h] at hx hl
  refine ⟨(tx_all_iff m).mpr (fun t ht => (hx.2.1 (p + t) (by omega) (by omega)).2), ?_, fun i a b => (hx.2.1 i a b).2, hl.2⟩
  cases z : tx_dig (tx_at n f (p + m)) with
  | false => rfl
  | true => exact absurd ⟨tx_dign z, z⟩ hx.2.2
theorem rm_de_on (h : rm_de n (tx_at n f) p = p + m) : tx_q n (tx_at n f) p = tx_e (tx_nP n (tx_at n f)) (p + m) := by
  have h1 := (rm_de_all h).2.2.1
  exact tx_e_to tx_nP_n (by omega) (fun i a b => ⟨tx_dign (h1 i a b), tx_on_of (Or.inl (h1 i a b))⟩)
theorem rm_nkA (h : rm_de n (tx_at n f) p = p + m) (hc : tx_at n f (p + m) = 39) : tx_q n (tx_at n f) p = p + m ∧ tx_ne n (tx_at n f) p = rm_ne n (tx_at n f) p ∧ p + m < rm_ne n (tx_at n f) p ∧ (p ≤ n → rm_ne n (tx_at n f) p ≤ n) := by
  have h1 : tx_q n (tx_at n f) p = p + m := by
    rw [rm_de_on h]
    exact tx_e_stop (fun z => by have := z.2; rw [hc] at this; exact absurd this (by decide))
  have hl := tx_e_le (P := tx_nP n (tx_at n f)) (n := n) tx_nP_n (p + m + 1)
  have hn := tx_neg hc (by decide)
  refine ⟨h1, ?_, ?_, fun _ => ?_⟩
  · unfold tx_ne rm_ne
    rw [h1, h, if_pos hc, if_pos hc]
  · unfold rm_ne
    rw [h, if_pos hc]
    omega
  · unfold rm_ne
    rw [h, if_pos hc]
    omega
theorem rm_nkB (h : rm_de n (tx_at n f) p = p + m) (hc : ¬ tx_at n f (p + m) = 39) : rm_ne n (tx_at n f) p = tx_q n (tx_at n f) p ∧ p + m ≤ rm_ne n (tx_at n f) p ∧ (p ≤ n → rm_ne n (tx_at n f) p ≤ n) := by
  have e : rm_ne n (tx_at n f) p = tx_q n (tx_at n f) p := by
    rw [rm_de_on h]
    unfold rm_ne
    rw [h, if_neg hc]
  have hl := tx_e_le (P := tx_nP n (tx_at n f)) (n := n) tx_nP_n (p + m)
  refine ⟨e, ?_, fun hp => ?_⟩
  · rw [e, rm_de_on h]
    exact hl.1
  · rw [e, rm_de_on h]
    exact hl.2 ((rm_de_all h).2.2.2 hp)
noncomputable def rm_nk (n : Nat) (c : Nat → Int32) (p : Nat) : Int32 := if (tx_tok n c p).1 = 20 then 401 else if (tx_tok n c p).1 = 21 then 402 else 404
theorem rm_c1 (hp : p < n) : ¬ tx_at n f p = -1 := fun z => by have := (tx_at_n n f p).mp z; omega
theorem rm_tokS (hp : p < n) (hd : tx_dig (tx_at n f p) = true) (h : rm_de n (tx_at n f) p = p + m) (hc : tx_at n f (p + m) = 39) : (tx_sz (tx_at n f) p m (rm_ne n (tx_at n f) p) → tx_tok n (tx_at n f) p = (21, p, rm_ne n (tx_at n f) p, none, nI (tx_szW (tx_at n f) p m), lN (tx_szV (tx_at n f) (p + m) (rm_ne n (tx_at n f) p)))) ∧ (¬ tx_sz (tx_at n f) p m (rm_ne n (tx_at n f) p) → tx_tok n (tx_at n f) p = (23, p, rm_ne n (tx_at n f) p, none, 0, 0)) := by
  obtain ⟨h1, h2, -, -⟩ := rm_nkA h hc
  unfold tx_tok
  rw [if_neg (rm_c1 hp), if_pos hd, h1, if_pos hc, h2, show p + m - p = m by omega]
  refine ⟨fun z => ?_, fun z => ?_⟩
  · rw [if_pos z]
  · rw [if_neg z]
theorem rm_tokP (hp : p < n) (hd : tx_dig (tx_at n f p) = true) (h : rm_de n (tx_at n f) p = p + m) (hc : ¬ tx_at n f (p + m) = 39) (he : rm_ne n (tx_at n f) p = p + m) : tx_tok n (tx_at n f) p = (if tx_dec (tx_at n f) p m 65535 = -1 then 23 else 20, p, p + m, none, 0, (tx_dec (tx_at n f) p m 65535).toInt64) := by
  obtain ⟨h1, -⟩ := rm_nkB h hc
  rw [he] at h1
  unfold tx_tok
  rw [if_neg (rm_c1 hp), if_pos hd, ← h1, if_neg hc, show p + m - p = m by omega]
theorem rm_tokB (hp : p < n) (hd : tx_dig (tx_at n f p) = true) (h : rm_de n (tx_at n f) p = p + m) (hc : ¬ tx_at n f (p + m) = 39) (he : ¬ rm_ne n (tx_at n f) p = p + m) : (tx_tok n (tx_at n f) p).1 = 23 := by
  obtain ⟨h1, h2, -⟩ := rm_nkB h hc
  rw [h1] at he h2
  have ha : tx_all (fun i => tx_dig (tx_at n f i)) p (tx_q n (tx_at n f) p - p) = false := tx_all_no (t := m) (rm_de_all h).2.1 _ (by omega)
  unfold tx_tok
  rw [if_neg (rm_c1 hp), if_pos hd]
  by_cases z : tx_at n f (tx_q n (tx_at n f) p) = 39
  · rw [if_pos z, if_neg (fun y => by rw [y.1] at ha; cases ha)]
  · rw [if_neg z]
    have : tx_dec (tx_at n f) p (tx_q n (tx_at n f) p - p) 65535 = -1 := by
      unfold tx_dec
      rw [if_neg (fun y => by rw [y.1] at ha; cases ha)]
    rw [if_pos this]
theorem rm_decv (h : rm_de n (tx_at n f) p = p + m) : (tx_szW (tx_at n f) p m < 65536 → tx_dec (tx_at n f) p m 65535 = nI (tx_szW (tx_at n f) p m) ∧ ¬ tx_dec (tx_at n f) p m 65535 = -1) ∧ (¬ tx_szW (tx_at n f) p m < 65536 → tx_dec (tx_at n f) p m 65535 = -1) := by
  have ha := (rm_de_all h).1
  refine ⟨fun z => ?_, fun z => ?_⟩
  · have e : tx_dec (tx_at n f) p m 65535 = nI (tx_szW (tx_at n f) p m) := if_pos ⟨ha, by unfold tx_szW at z; omega⟩
    rw [e]
    exact ⟨rfl, nI_ne1 (by omega)⟩
  · exact if_neg (fun y => z (by unfold tx_szW; have := y.2; omega))
theorem rm_nkS (hp : p < n) (hd : tx_dig (tx_at n f p) = true) (h : rm_de n (tx_at n f) p = p + m) (hc : tx_at n f (p + m) = 39) : (tx_sz (tx_at n f) p m (rm_ne n (tx_at n f) p) → rm_nk n (tx_at n f) p = 402) ∧ (¬ tx_sz (tx_at n f) p m (rm_ne n (tx_at n f) p) → rm_nk n (tx_at n f) p = 404) := by
  have q := rm_tokS hp hd h hc
  unfold rm_nk
  refine ⟨fun z => ?_, fun z => ?_⟩
  · rw [q.1 z]; rfl
  · rw [q.2 z]; rfl
theorem rm_nkP (hp : p < n) (hd : tx_dig (tx_at n f p) = true) (h : rm_de n (tx_at n f) p = p + m) (he : rm_ne n (tx_at n f) p = p + m) : rm_nk n (tx_at n f) p = if tx_szW (tx_at n f) p m < 65536 then 401 else 404 := by
  have hc : ¬ tx_at n f (p + m) = 39 := fun z => by have := (rm_nkA h z).2.2.1; omega
  have q := rm_tokP hp hd h hc he
  have hv := rm_decv h
  unfold rm_nk
  rw [q]
  by_cases z : tx_szW (tx_at n f) p m < 65536
  · rw [if_pos z, if_neg (hv.1 z).2]; rfl
  · rw [if_neg z, if_pos (hv.2 z)]; rfl
theorem rm_nkN (hp : p < n) (hd : tx_dig (tx_at n f p) = true) (h : rm_de n (tx_at n f) p = p + m) (hc : ¬ tx_at n f (p + m) = 39) (he : ¬ rm_ne n (tx_at n f) p = p + m) : rm_nk n (tx_at n f) p = 404 := by
  unfold rm_nk
  rw [rm_tokB hp hd h hc he]; rfl
theorem rm_cmpN {a b : Nat} (ha : a < 2 ^ 63) (hb : b < 2 ^ 63) : (lg_cmp (lN a) (lN b) < 0 ↔ a < b) ∧ (0 < lg_cmp (lN a) (lN b) ↔ b < a) := by
  unfold lg_cmp
  by_cases z : b < a
  · rw [if_pos ((pk_lLT hb ha).mpr z)]
    exact ⟨⟨fun y => absurd y (by decide), fun y => by omega⟩, ⟨fun _ => z, fun _ => by decide⟩⟩
  · rw [if_neg (fun y => z ((pk_lLT hb ha).mp y))]
    by_cases y : a = b
    · rw [if_pos (by rw [y])]
      exact ⟨⟨fun y => absurd y (by decide), fun y => by omega⟩, ⟨fun y => absurd y (by decide), fun y => absurd y z⟩⟩
    · have : a < b := by omega
      rw [if_neg (fun x => by
        have := (pk_lLT ha hb).mpr this
        rw [x] at this
        exact absurd this (Int64.lt_irrefl))]
      exact ⟨⟨fun _ => this, fun _ => by decide⟩, ⟨fun x => absurd x (by decide), fun x => absurd x z⟩⟩
end RMN
/-- all but whether a value fits is as it was -/
def rm_57 (M M' : rm_M) : Prop := M'.2 = M.2 ∧ ∀ j, j ≠ 57 → M'.1 j = M.1 j
def rm_q5 (k : cx_K) (G : cx_G) (mo : Nat) (P : Nat → Nat) (v : Value) (M : rm_M) : cx_R → cx_G → Prop := fun r G' => ∃ M', r = .inl (some v) ∧ rm_57 M M' ∧ rm_h k G mo P G' M'
theorem rm_57.up (M : rm_M) (b : Int32) : rm_57 M (va_up M.1 57 b, M.2) := ⟨rfl, fun _ h => if_neg h⟩
theorem rm_57.tr {M M1 M2 : rm_M} (h : rm_57 M M1) (h' : rm_57 M1 M2) : rm_57 M M2 := ⟨h'.1.trans h.1, fun j z => (h'.2 j z).trans (h.2 j z)⟩
set_option maxRecDepth 100000 in
theorem c_Mo_numberKind {k : cx_K} {l : Launch} {G : cx_G} {mo : Nat} {P : Nat → Nat} {M : rm_M} (hm : rm_R k G mo P M) {n : Nat} (hn : M.1 2 = nI n) (hn6 : n ≤ 65536) {p : Nat} (hp : p < n) (hd : tx_dig ((tx_at n (M.2.1 53)) p) = true)  : cx_Sp k l m_Mo_numberKind 3 [.ref mo, .int (nI p), .int (nI (rm_ne n (tx_at n (M.2.1 53)) p))] G (rm_q5 k G mo P (.int (rm_nk n (tx_at n (M.2.1 53)) p)) M) := by
  intro E hE
  have hmo := hm.1
  obtain ⟨m, hm9⟩ : ∃ m, rm_de n (tx_at n (M.2.1 53)) p = p + m := ⟨rm_de n (tx_at n (M.2.1 53)) p - p, by have := (tx_e_le (P := rm_dP n (tx_at n (M.2.1 53))) (n := n) rm_dP_n p).1; unfold rm_de; omega⟩
  have hall := rm_de_all hm9
  have hen : p + m ≤ (rm_ne n (tx_at n (M.2.1 53)) p) ∧ (rm_ne n (tx_at n (M.2.1 53)) p) ≤ n := by
    by_cases z : (tx_at n (M.2.1 53)) (p + m) = 39
    · have := rm_nkA hm9 z; omega
    · have := rm_nkB hm9 z; omega
  have h24 : cx_V E 24 [(3, false, .int (nI (p + m))), (0, false, .ref mo), (1, false, .int (nI p)), (2, false, .int (nI (rm_ne n (tx_at n (M.2.1 53)) p)))] [] G := by
    refine cx_aload_n (i := 0) hE d_Mo_numberKind_24 rfl rfl ?_
    refine cx_iload_n (i := 1) hE d_Mo_numberKind_25 rfl rfl ?_
    refine cx_iload_n (i := 3) hE d_Mo_numberKind_26 rfl rfl ?_
    refine cx_bipush (v := 10) hE d_Mo_numberKind_27 (by decide) ?_
    refine cx_bipush (v := 16) hE d_Mo_numberKind_29 (by decide) ?_
    refine cx_invV hE d_Mo_numberKind_31 l_Mo_152 hm.1 (c_Mo_read2 (a := p) (m := m) (b := 10) (w := 16) (dd := fun i => tx_dg ((tx_at n (M.2.1 53)) i)) hm hn hn6 (by omega) (by decide) (by decide) (by decide) (fun i a b => rm_dgd (hall.2.2.1 i a b))) rfl (by omega) (Nat.le_of_ble_eq_true rfl) n_Mo_read2 (by rfl) (fun v G1 q => ?_) (fun a G1 q => by cases q.1)
    obtain ⟨q0, m1, s1, c1⟩ := q
    cases q0
    show cx_V E _ _ [.long (lN (tx_szW (tx_at n (M.2.1 53)) p m))] G1
    have hmo1 := m1.1
    have hn1 : ((va_up M.1 57 (cx_b (decide ((tx_szW (tx_at n (M.2.1 53)) p m) < 2 ^ 16))), M.2) : rm_M).1 2 = nI n := hn
    refine cx_lstore hE d_Mo_numberKind_34 (by decide) ?_
    refine cx_aload_n (i := 0) hE d_Mo_numberKind_36 rfl rfl ?_
    refine cx_get hE d_Mo_numberKind_37 f_Mo_148 (by assumption) (by rfl) ?_
    show cx_V E _ _ (.int (cx_b (decide ((tx_szW (tx_at n (M.2.1 53)) p m) < 2 ^ 16))) :: _) _
    refine cx_istore hE d_Mo_numberKind_40 (by decide) ?_
    refine cx_iload_n (i := 3) hE d_Mo_numberKind_42 rfl rfl ?_
    refine cx_iload_n (i := 2) hE d_Mo_numberKind_43 rfl rfl ?_
    refine cx_icmp_ne (tgt := 62)  hE d_Mo_numberKind_44 (by decide) (fun c_44 => ?_) (fun c_44 => ?_)
    · have q_44 : ¬ (rm_ne n (tx_at n (M.2.1 53)) p) = p + m := fun z => c_44 (by rw [z])
      refine cx_aload_n (i := 0) hE d_Mo_numberKind_62 rfl rfl ?_
      refine cx_iload_n (i := 3) hE d_Mo_numberKind_63 rfl rfl ?_
      refine cx_invV1 hE d_Mo_numberKind_64 l_Mo_136 (by assumption) (c_Mo_at (p := p + m) m1 hn1 hn6 (by omega)) rfl (by omega) (Nat.le_of_ble_eq_true rfl) n_Mo_at (by first | rfl | (simp only [List.map_cons, List.map_nil, cx_rfc]; rfl)) ?_
      refine cx_bipush (v := 39) hE d_Mo_numberKind_67 (by decide) ?_
      refine cx_icmp_ne (tgt := 100)  hE d_Mo_numberKind_69 (by decide) (fun c_69 => ?_) (fun c_69 => ?_)
      · have q_k := rm_nkN hp hd hm9 c_69 q_44
        refine cx_sipush (v := 404) hE d_Mo_numberKind_100 (by decide) ?_
        refine cx_iret hE d_Mo_numberKind_103 rfl rfl ?_
        exact ⟨_, by rw [q_k], rm_57.up _ _, m1, s1, c1⟩
      · refine cx_iload hE d_Mo_numberKind_72 rfl ?_
        refine cx_if_eq (tgt := 100)  hE d_Mo_numberKind_74 (by decide) (fun c_74 => ?_) (fun c_74 => ?_)
        · have q_74 := of_decide_eq_false (cx_b0.mp c_74)
          have q_k : rm_nk n (tx_at n (M.2.1 53)) p = 404 := (rm_nkS hp hd hm9 c_69).2 (fun z => q_74 (by have := z.2.2.1; omega))
          refine cx_sipush (v := 404) hE d_Mo_numberKind_100 (by decide) ?_
          refine cx_iret hE d_Mo_numberKind_103 rfl rfl ?_
          exact ⟨_, by rw [q_k], rm_57.up _ _, m1, s1, c1⟩
        · have q_74 := of_decide_eq_true (cx_bn.mp c_74)
          refine cx_lload hE d_Mo_numberKind_77 rfl ?_
          refine cx_lconst (v := 1) hE d_Mo_numberKind_79 (by decide) ?_
          refine cx_lcmp hE d_Mo_numberKind_80 ?_
          refine cx_if_lt (tgt := 100)  hE d_Mo_numberKind_81 (by decide) (fun c_81 => ?_) (fun c_81 => ?_)
          · have q_81 := (rm_cmpN (a := (tx_szW (tx_at n (M.2.1 53)) p m)) (b := 1) (by omega) (by decide)).1.mp c_81
            have q_k : rm_nk n (tx_at n (M.2.1 53)) p = 404 := (rm_nkS hp hd hm9 c_69).2 (fun z => by have := z.2.1; omega)
            refine cx_sipush (v := 404) hE d_Mo_numberKind_100 (by decide) ?_
            refine cx_iret hE d_Mo_numberKind_103 rfl rfl ?_
            exact ⟨_, by rw [q_k], rm_57.up _ _, m1, s1, c1⟩
          · have q_81 : 1 ≤ (tx_szW (tx_at n (M.2.1 53)) p m) := by
              rcases Nat.lt_or_ge (tx_szW (tx_at n (M.2.1 53)) p m) 1 with z | z
              · exact absurd ((rm_cmpN (a := (tx_szW (tx_at n (M.2.1 53)) p m)) (b := 1) (by omega) (by decide)).1.mpr z) c_81
              · exact z
            refine cx_lload hE d_Mo_numberKind_84 rfl ?_
            refine cx_ldc2 (v := 64) hE d_Mo_numberKind_86 (in_7 (List.mem_of_getElem? (i := 91) rfl)) ?_
            refine cx_lcmp hE d_Mo_numberKind_89 ?_
            refine cx_if_gt (tgt := 100)  hE d_Mo_numberKind_90 (by decide) (fun c_90 => ?_) (fun c_90 => ?_)
            · have q_90 := (rm_cmpN (a := (tx_szW (tx_at n (M.2.1 53)) p m)) (b := 64) (by omega) (by decide)).2.mp c_90
              have q_k : rm_nk n (tx_at n (M.2.1 53)) p = 404 := (rm_nkS hp hd hm9 c_69).2 (fun z => by have := z.2.2.1; omega)
              refine cx_sipush (v := 404) hE d_Mo_numberKind_100 (by decide) ?_
              refine cx_iret hE d_Mo_numberKind_103 rfl rfl ?_
              exact ⟨_, by rw [q_k], rm_57.up _ _, m1, s1, c1⟩
            · have q_90 : (tx_szW (tx_at n (M.2.1 53)) p m) ≤ 64 := by
                rcases Nat.lt_or_ge 64 (tx_szW (tx_at n (M.2.1 53)) p m) with z | z
                · exact absurd ((rm_cmpN (a := (tx_szW (tx_at n (M.2.1 53)) p m)) (b := 64) (by omega) (by decide)).2.mpr z) c_90
                · exact z
              refine cx_iload_n (i := 3) hE d_Mo_numberKind_93 rfl rfl ?_
              refine cx_iconst (v := 2) hE d_Mo_numberKind_94 (by decide) ?_
              refine cx_iadd hE d_Mo_numberKind_95 ?_
              show cx_V E _ _ (.int (nI (p + m) + nI 2) :: _) G1
              rw [nI_add (p + m) 2]
              refine cx_iload_n (i := 2) hE d_Mo_numberKind_96 rfl rfl ?_
              refine cx_icmp_lt (tgt := 104)  hE d_Mo_numberKind_97 (by decide) (fun c_97 => ?_) (fun c_97 => ?_)
              · have q_97 := (nI_ltI (by omega) (by omega)).mp c_97
                have hlp : ∀ (d2 t : Nat), (rm_ne n (tx_at n (M.2.1 53)) p) - (p + m + 2 + t) = d2 → p + m + 2 + t ≤ (rm_ne n (tx_at n (M.2.1 53)) p) → cx_V E 180 [(10, false, .int (nI (p + m + 2 + t))), (9, false, .int (cx_b (decide ((tx_bs ((tx_at n (M.2.1 53)) (p + m + 1))) ≠ 0) && tx_all (fun i => tx_hok (tx_bs ((tx_at n (M.2.1 53)) (p + m + 1))) ((tx_at n (M.2.1 53)) i)) (p + m + 2) t))), (8, false, .int (nI (tx_bs ((tx_at n (M.2.1 53)) (p + m + 1))))), (7, false, .int ((tx_at n (M.2.1 53)) (p + m + 1))), (6, false, .int (cx_b (decide ((tx_szW (tx_at n (M.2.1 53)) p m) < 2 ^ 16)))), (4, true, .long (lN (tx_szW (tx_at n (M.2.1 53)) p m))), (3, false, .int (nI (p + m))), (0, false, .ref mo), (1, false, .int (nI p)), (2, false, .int (nI (rm_ne n (tx_at n (M.2.1 53)) p)))] [] G1 := by
                  intro d2
                  induction d2 using Nat.strongRecOn with
                  | ind d2 ih2 =>
                    intro t hd2 ht2
                    refine cx_iload hE d_Mo_numberKind_180 rfl ?_
                    refine cx_iload_n (i := 2) hE d_Mo_numberKind_182 rfl rfl ?_
                    refine cx_icmp_ge (tgt := 218)  hE d_Mo_numberKind_183 (by decide) (fun c_183 => ?_) (fun c_183 => ?_)
                    · have q_te : t = (rm_ne n (tx_at n (M.2.1 53)) p) - (p + m + 2) := by have := nJ_le (by omega) c_183; omega
                      refine cx_iload hE d_Mo_numberKind_218 rfl ?_
                      refine cx_if_eq (tgt := 237)  hE d_Mo_numberKind_220 (by decide) (fun c_220 => ?_) (fun c_220 => ?_)
                      · have q_220 := cx_b0.mp c_220
                        have q_k : rm_nk n (tx_at n (M.2.1 53)) p = 404 := (rm_nkS hp hd hm9 c_69).2 (fun z => by
                          rw [decide_eq_true z.2.2.2.1, Bool.true_and, q_te, z.2.2.2.2.2.1] at q_220
                          cases q_220)
                        refine cx_iload hE d_Mo_numberKind_237 rfl ?_
                        refine cx_if_eq (tgt := 255)  hE d_Mo_numberKind_239 (by decide) (fun c_239 => ?_) (fun c_239 => ?_)
                        · refine cx_sipush (v := 404) hE d_Mo_numberKind_255 (by decide) ?_
                          refine cx_iret hE d_Mo_numberKind_258 rfl rfl ?_
                          first
                            | exact ⟨_, by rw [q_k], (rm_57.up _ _).tr (rm_57.up _ _), m2, s1.tr s2, c2.trans c1⟩
                            | exact ⟨_, by rw [q_k], rm_57.up _ _, m1, s1, c1⟩
                        · exact absurd c_220 c_239
                          -- end
                      · have q_220 := cx_bn.mp c_220
                        refine cx_aload_n (i := 0) hE d_Mo_numberKind_223 rfl rfl ?_
                        refine cx_iload_n (i := 3) hE d_Mo_numberKind_224 rfl rfl ?_
                        refine cx_iconst (v := 2) hE d_Mo_numberKind_225 (by decide) ?_
                        refine cx_iadd hE d_Mo_numberKind_226 ?_
                        show cx_V E _ _ (.int (nI (p + m) + nI 2) :: _) G1
                        rw [nI_add (p + m) 2]
                        refine cx_iload_n (i := 2) hE d_Mo_numberKind_227 rfl rfl ?_
                        refine cx_iload hE d_Mo_numberKind_228 rfl ?_
                        refine cx_lload hE d_Mo_numberKind_230 rfl ?_
                        refine cx_l2i hE d_Mo_numberKind_232 ?_
                        have q_al : tx_all (fun i => tx_hok (tx_bs ((tx_at n (M.2.1 53)) (p + m + 1))) ((tx_at n (M.2.1 53)) i)) (p + m + 2) ((rm_ne n (tx_at n (M.2.1 53)) p) - (p + m + 2)) = true := by
                          rw [← q_te]
                          exact (Bool.and_eq_true _ _ |>.mp q_220).2
                        have q_b0 : (tx_bs ((tx_at n (M.2.1 53)) (p + m + 1))) ≠ 0 := of_decide_eq_true (Bool.and_eq_true _ _ |>.mp q_220).1
                        have q_bb := tx_bs_le ((tx_at n (M.2.1 53)) (p + m + 1))
                        rw [lN_i, show nI (rm_ne n (tx_at n (M.2.1 53)) p) = nI (p + m + 2 + ((rm_ne n (tx_at n (M.2.1 53)) p) - (p + m + 2))) from by congr 1; omega]
                        refine cx_invV hE d_Mo_numberKind_233 l_Mo_152 m1.1 (c_Mo_read2 (a := p + m + 2) (m := (rm_ne n (tx_at n (M.2.1 53)) p) - (p + m + 2)) (b := (tx_bs ((tx_at n (M.2.1 53)) (p + m + 1)))) (w := (tx_szW (tx_at n (M.2.1 53)) p m)) (dd := fun i => tx_hd ((tx_at n (M.2.1 53)) i)) m1 hn1 hn6 (by omega) (by omega) (by omega) (by omega) (fun i a b => (rm_dgh q_bb.1).2 (by
                          have := (tx_all_iff _).mp q_al (i - (p + m + 2)) (by omega)
                          rwa [show p + m + 2 + (i - (p + m + 2)) = i by omega] at this))) rfl (by omega) (Nat.le_of_ble_eq_true rfl) n_Mo_read2 (by rfl) (fun v G2 q => ?_) (fun a G2 q => by cases q.1)
                        obtain ⟨q0, m2, s2, c2⟩ := q
                        cases q0
                        show cx_V E _ _ [.long _] G2
                        have hmo2 := m2.1
                        refine cx_pop2 hE d_Mo_numberKind_236 ?_
                        refine cx_iload hE d_Mo_numberKind_237 rfl ?_
                        refine cx_if_eq (tgt := 255)  hE d_Mo_numberKind_239 (by decide) (fun c_239 => ?_) (fun c_239 => ?_)
                        · exact absurd c_239 c_220
                          -- end
                        · refine cx_aload_n (i := 0) hE d_Mo_numberKind_242 rfl rfl ?_
                          refine cx_get hE d_Mo_numberKind_243 f_Mo_148 (by assumption) (by rfl) ?_
                          show cx_V E _ _ (.int (cx_b (decide (tx_szV (tx_at n (M.2.1 53)) (p + m) (rm_ne n (tx_at n (M.2.1 53)) p) < 2 ^ (tx_szW (tx_at n (M.2.1 53)) p m)))) :: _) _
                          refine cx_if_eq (tgt := 255)  hE d_Mo_numberKind_246 (by decide) (fun c_246 => ?_) (fun c_246 => ?_)
                          · have q_k := (rm_nkS hp hd hm9 c_69).2 (fun z => absurd z.2.2.2.2.2.2 (of_decide_eq_false (cx_b0.mp c_246)))
                            refine cx_sipush (v := 404) hE d_Mo_numberKind_255 (by decide) ?_
                            refine cx_iret hE d_Mo_numberKind_258 rfl rfl ?_
                            first
                              | exact ⟨_, by rw [q_k], (rm_57.up _ _).tr (rm_57.up _ _), m2, s1.tr s2, c2.trans c1⟩
                              | exact ⟨_, by rw [q_k], rm_57.up _ _, m1, s1, c1⟩
                          · have q_k := (rm_nkS hp hd hm9 c_69).1 ⟨hall.1, q_81, q_90, q_b0, q_97, q_al, of_decide_eq_true (cx_bn.mp c_246)⟩
                            refine cx_sipush (v := 402) hE d_Mo_numberKind_249 (by decide) ?_
                            refine cx_goto (tgt := 258) hE d_Mo_numberKind_252 (by decide) ?_
                            refine cx_iret hE d_Mo_numberKind_258 rfl rfl ?_
                            first
                              | exact ⟨_, by rw [q_k], (rm_57.up _ _).tr (rm_57.up _ _), m2, s1.tr s2, c2.trans c1⟩
                              | exact ⟨_, by rw [q_k], rm_57.up _ _, m1, s1, c1⟩
                    · have q_183 := nJ_lt (by omega) c_183
                      refine cx_iload hE d_Mo_numberKind_186 rfl ?_
                      refine cx_if_eq (tgt := 218)  hE d_Mo_numberKind_188 (by decide) (fun c_188 => ?_) (fun c_188 => ?_)
                      · have q_188 := cx_b0.mp c_188
                        have q_k : rm_nk n (tx_at n (M.2.1 53)) p = 404 := (rm_nkS hp hd hm9 c_69).2 (fun z => by
                          rw [decide_eq_true z.2.2.2.1, Bool.true_and] at q_188
                          have h1 := (tx_all_iff _).mp z.2.2.2.2.2.1
                          rw [(tx_all_iff _).mpr (fun u hu => h1 u (by omega))] at q_188
                          cases q_188)
                        refine cx_iload hE d_Mo_numberKind_218 rfl ?_
                        refine cx_if_eq (tgt := 237)  hE d_Mo_numberKind_220 (by decide) (fun c_220 => ?_) (fun c_220 => ?_)
                        · have q_220 := cx_b0.mp c_220
                          refine cx_iload hE d_Mo_numberKind_237 rfl ?_
                          refine cx_if_eq (tgt := 255)  hE d_Mo_numberKind_239 (by decide) (fun c_239 => ?_) (fun c_239 => ?_)
                          · refine cx_sipush (v := 404) hE d_Mo_numberKind_255 (by decide) ?_
                            refine cx_iret hE d_Mo_numberKind_258 rfl rfl ?_
                            first
                              | exact ⟨_, by rw [q_k], (rm_57.up _ _).tr (rm_57.up _ _), m2, s1.tr s2, c2.trans c1⟩
                              | exact ⟨_, by rw [q_k], rm_57.up _ _, m1, s1, c1⟩
                          · exact absurd c_220 c_239
                            -- end
                        · exact absurd c_188 c_220
                          -- end
                      · refine cx_aload_n (i := 0) hE d_Mo_numberKind_191 rfl rfl ?_
                        refine cx_iload hE d_Mo_numberKind_192 rfl ?_
                        refine cx_invV1 hE d_Mo_numberKind_194 l_Mo_136 (by assumption) (c_Mo_at (p := p + m + 2 + t) m1 hn1 hn6 (by omega)) rfl (by omega) (Nat.le_of_ble_eq_true rfl) n_Mo_at (by first | rfl | (simp only [List.map_cons, List.map_nil, cx_rfc]; rfl)) ?_
                        refine cx_invS1 hE d_Mo_numberKind_197 l_Mo_143 (c_Mo_digit _) rfl (by omega) (Nat.le_of_ble_eq_true rfl) n_Mo_digit (by first | rfl | (simp only [List.map_cons, List.map_nil, cx_rfc]; rfl)) ?_
                        refine cx_iload hE d_Mo_numberKind_200 rfl ?_
                        refine cx_icmp_ge (tgt := 209)  hE d_Mo_numberKind_202 (by decide) (fun c_202 => ?_) (fun c_202 => ?_)
                        · have q_o : (decide ((tx_bs ((tx_at n (M.2.1 53)) (p + m + 1))) ≠ 0) && tx_all (fun i => tx_hok (tx_bs ((tx_at n (M.2.1 53)) (p + m + 1))) ((tx_at n (M.2.1 53)) i)) (p + m + 2) (t + 1)) = false := by
                            have q2 : tx_hok (tx_bs ((tx_at n (M.2.1 53)) (p + m + 1))) ((tx_at n (M.2.1 53)) (p + m + 2 + t)) = false := by
                              cases z : tx_hok (tx_bs ((tx_at n (M.2.1 53)) (p + m + 1))) ((tx_at n (M.2.1 53)) (p + m + 2 + t)) with
                              | false => rfl
                              | true => exact absurd ((rm_dgh (tx_bs_le _).1).1.mpr z) (Int32.not_lt.mpr c_202)
                            rw [tx_all]
                            show (_ && (_ && tx_hok (tx_bs ((tx_at n (M.2.1 53)) (p + m + 1))) ((tx_at n (M.2.1 53)) (p + m + 2 + t)))) = false
                            rw [q2, Bool.and_false, Bool.and_false]
                          refine cx_iconst (v := 0) hE d_Mo_numberKind_209 (by decide) ?_
                          refine cx_istore hE d_Mo_numberKind_210 (by decide) ?_
                          refine cx_iinc (v := nI (p + m + 2 + (t + 1))) hE d_Mo_numberKind_212 rfl (nI_1 _) (by decide) ?_
                          refine cx_goto (tgt := 180) hE d_Mo_numberKind_215 (by decide) ?_
                          refine cx_sub [0, 1, 2, 3, 4, 5, 6, 7, 8, 9] rfl ?_
                          have z := ih2 ((rm_ne n (tx_at n (M.2.1 53)) p) - (p + m + 2 + (t + 1))) (by omega) (t + 1) rfl (by omega)
                          rw [q_o] at z
                          exact z
                        · have q_o : (decide ((tx_bs ((tx_at n (M.2.1 53)) (p + m + 1))) ≠ 0) && tx_all (fun i => tx_hok (tx_bs ((tx_at n (M.2.1 53)) (p + m + 1))) ((tx_at n (M.2.1 53)) i)) (p + m + 2) (t + 1)) = true := by
                            have q1 := cx_bn.mp c_188
                            rw [Bool.and_eq_true] at q1
                            rw [q1.1, tx_all, q1.2]
                            show tx_hok (tx_bs ((tx_at n (M.2.1 53)) (p + m + 1))) ((tx_at n (M.2.1 53)) (p + m + 2 + t)) = true
                            exact (rm_dgh (tx_bs_le _).1).1.mp (Int32.not_le.mp c_202)
                          refine cx_iconst (v := 1) hE d_Mo_numberKind_205 (by decide) ?_
                          refine cx_goto (tgt := 210) hE d_Mo_numberKind_206 (by decide) ?_
                          refine cx_istore hE d_Mo_numberKind_210 (by decide) ?_
                          refine cx_iinc (v := nI (p + m + 2 + (t + 1))) hE d_Mo_numberKind_212 rfl (nI_1 _) (by decide) ?_
                          refine cx_goto (tgt := 180) hE d_Mo_numberKind_215 (by decide) ?_
                          refine cx_sub [0, 1, 2, 3, 4, 5, 6, 7, 8, 9] rfl ?_
                          have z := ih2 ((rm_ne n (tx_at n (M.2.1 53)) p) - (p + m + 2 + (t + 1))) (by omega) (t + 1) rfl (by omega)
                          rw [q_o] at z
                          exact z
                have h163 : cx_V E 163 [(8, false, .int (nI (tx_bs ((tx_at n (M.2.1 53)) (p + m + 1))))), (7, false, .int ((tx_at n (M.2.1 53)) (p + m + 1))), (6, false, .int (cx_b (decide ((tx_szW (tx_at n (M.2.1 53)) p m) < 2 ^ 16)))), (4, true, .long (lN (tx_szW (tx_at n (M.2.1 53)) p m))), (3, false, .int (nI (p + m))), (0, false, .ref mo), (1, false, .int (nI p)), (2, false, .int (nI (rm_ne n (tx_at n (M.2.1 53)) p)))] [] G1 := by
                  refine cx_iload hE d_Mo_numberKind_163 rfl ?_
                  refine cx_if_le (tgt := 172)  hE d_Mo_numberKind_165 (by decide) (fun c_165 => ?_) (fun c_165 => ?_)
                  · have q_0 : (tx_bs ((tx_at n (M.2.1 53)) (p + m + 1))) = 0 := by
                      have q_bb := tx_bs_le ((tx_at n (M.2.1 53)) (p + m + 1))
                      rcases q_bb.2 with z | z
                      · exact z
                      · exact absurd c_165 (Int32.not_le.mpr (nI_lt (a := 0) (by omega) (by omega)))
                    have q_o : (decide ((tx_bs ((tx_at n (M.2.1 53)) (p + m + 1))) ≠ 0) && tx_all (fun i => tx_hok (tx_bs ((tx_at n (M.2.1 53)) (p + m + 1))) ((tx_at n (M.2.1 53)) i)) (p + m + 2) 0) = false := by rw [q_0]; rfl
                    refine cx_iconst (v := 0) hE d_Mo_numberKind_172 (by decide) ?_
                    refine cx_istore hE d_Mo_numberKind_173 (by decide) ?_
                    refine cx_iload_n (i := 3) hE d_Mo_numberKind_175 rfl rfl ?_
                    refine cx_iconst (v := 2) hE d_Mo_numberKind_176 (by decide) ?_
                    refine cx_iadd hE d_Mo_numberKind_177 ?_
                    show cx_V E _ _ (.int (nI (p + m) + nI 2) :: _) G1
                    rw [nI_add (p + m) 2]
                    refine cx_istore hE d_Mo_numberKind_178 (by decide) ?_
                    refine cx_sub [0, 1, 2, 3, 4, 5, 6, 7, 8, 9] rfl ?_
                    have z := hlp _ 0 rfl (by omega)
                    rw [q_o] at z
                    exact z
                  · have q_0 : (tx_bs ((tx_at n (M.2.1 53)) (p + m + 1))) ≠ 0 := fun z => c_165 (by rw [z]; decide)
                    have q_o : (decide ((tx_bs ((tx_at n (M.2.1 53)) (p + m + 1))) ≠ 0) && tx_all (fun i => tx_hok (tx_bs ((tx_at n (M.2.1 53)) (p + m + 1))) ((tx_at n (M.2.1 53)) i)) (p + m + 2) 0) = true := by rw [decide_eq_true q_0]; rfl
                    refine cx_iconst (v := 1) hE d_Mo_numberKind_168 (by decide) ?_
                    refine cx_goto (tgt := 173) hE d_Mo_numberKind_169 (by decide) ?_
                    refine cx_istore hE d_Mo_numberKind_173 (by decide) ?_
                    refine cx_iload_n (i := 3) hE d_Mo_numberKind_175 rfl rfl ?_
                    refine cx_iconst (v := 2) hE d_Mo_numberKind_176 (by decide) ?_
                    refine cx_iadd hE d_Mo_numberKind_177 ?_
                    show cx_V E _ _ (.int (nI (p + m) + nI 2) :: _) G1
                    rw [nI_add (p + m) 2]
                    refine cx_istore hE d_Mo_numberKind_178 (by decide) ?_
                    refine cx_sub [0, 1, 2, 3, 4, 5, 6, 7, 8, 9] rfl ?_
                    have z := hlp _ 0 rfl (by omega)
                    rw [q_o] at z
                    exact z
                refine cx_aload_n (i := 0) hE d_Mo_numberKind_104 rfl rfl ?_
                refine cx_iload_n (i := 3) hE d_Mo_numberKind_105 rfl rfl ?_
                refine cx_iconst (v := 1) hE d_Mo_numberKind_106 (by decide) ?_
                refine cx_iadd hE d_Mo_numberKind_107 ?_
                show cx_V E _ _ (.int (nI (p + m) + 1) :: _) G1
                rw [nI_1]
                refine cx_invV1 hE d_Mo_numberKind_108 l_Mo_136 (by assumption) (c_Mo_at (p := p + m + 1) m1 hn1 hn6 (by omega)) rfl (by omega) (Nat.le_of_ble_eq_true rfl) n_Mo_at (by first | rfl | (simp only [List.map_cons, List.map_nil, cx_rfc]; rfl)) ?_
                refine cx_istore hE d_Mo_numberKind_111 (by decide) ?_
                refine cx_iload hE d_Mo_numberKind_113 rfl ?_
                refine cx_bipush (v := 98) hE d_Mo_numberKind_115 (by decide) ?_
                refine cx_icmp_ne (tgt := 124)  hE d_Mo_numberKind_117 (by decide) (fun c_117 => ?_) (fun c_117 => ?_)
                · refine cx_iload hE d_Mo_numberKind_124 rfl ?_
                  refine cx_bipush (v := 111) hE d_Mo_numberKind_126 (by decide) ?_
                  refine cx_icmp_ne (tgt := 136)  hE d_Mo_numberKind_128 (by decide) (fun c_128 => ?_) (fun c_128 => ?_)
                  · refine cx_iload hE d_Mo_numberKind_136 rfl ?_
                    refine cx_bipush (v := 100) hE d_Mo_numberKind_138 (by decide) ?_
                    refine cx_icmp_ne (tgt := 148)  hE d_Mo_numberKind_140 (by decide) (fun c_140 => ?_) (fun c_140 => ?_)
                    · refine cx_iload hE d_Mo_numberKind_148 rfl ?_
                      refine cx_bipush (v := 104) hE d_Mo_numberKind_150 (by decide) ?_
                      refine cx_icmp_ne (tgt := 160)  hE d_Mo_numberKind_152 (by decide) (fun c_152 => ?_) (fun c_152 => ?_)
                      · have q_bs : (tx_bs ((tx_at n (M.2.1 53)) (p + m + 1))) = 0 := by unfold tx_bs; rw [if_neg c_117, if_neg c_128, if_neg c_140, if_neg c_152]
                        refine cx_iconst (v := 0) hE d_Mo_numberKind_160 (by decide) ?_
                        refine cx_istore hE d_Mo_numberKind_161 (by decide) ?_
                        refine cx_sub [0, 1, 2, 3, 4, 5, 6, 7] rfl ?_
                        have z := h163
                        rw [q_bs] at z
                        exact z
                      · have q_bs : (tx_bs ((tx_at n (M.2.1 53)) (p + m + 1))) = 16 := by unfold tx_bs; rw [if_neg c_117, if_neg c_128, if_neg c_140, if_pos c_152]
                        refine cx_bipush (v := 16) hE d_Mo_numberKind_155 (by decide) ?_
                        refine cx_goto (tgt := 161) hE d_Mo_numberKind_157 (by decide) ?_
                        refine cx_istore hE d_Mo_numberKind_161 (by decide) ?_
                        refine cx_sub [0, 1, 2, 3, 4, 5, 6, 7] rfl ?_
                        have z := h163
                        rw [q_bs] at z
                        exact z
                    · have q_bs : (tx_bs ((tx_at n (M.2.1 53)) (p + m + 1))) = 10 := by unfold tx_bs; rw [if_neg c_117, if_neg c_128, if_pos c_140]
                      refine cx_bipush (v := 10) hE d_Mo_numberKind_143 (by decide) ?_
                      refine cx_goto (tgt := 161) hE d_Mo_numberKind_145 (by decide) ?_
                      refine cx_istore hE d_Mo_numberKind_161 (by decide) ?_
                      refine cx_sub [0, 1, 2, 3, 4, 5, 6, 7] rfl ?_
                      have z := h163
                      rw [q_bs] at z
                      exact z
                  · have q_bs : (tx_bs ((tx_at n (M.2.1 53)) (p + m + 1))) = 8 := by unfold tx_bs; rw [if_neg c_117, if_pos c_128]
                    refine cx_bipush (v := 8) hE d_Mo_numberKind_131 (by decide) ?_
                    refine cx_goto (tgt := 161) hE d_Mo_numberKind_133 (by decide) ?_
                    refine cx_istore hE d_Mo_numberKind_161 (by decide) ?_
                    refine cx_sub [0, 1, 2, 3, 4, 5, 6, 7] rfl ?_
                    have z := h163
                    rw [q_bs] at z
                    exact z
                · have q_bs : (tx_bs ((tx_at n (M.2.1 53)) (p + m + 1))) = 2 := by unfold tx_bs; rw [if_pos c_117]
                  refine cx_iconst (v := 2) hE d_Mo_numberKind_120 (by decide) ?_
                  refine cx_goto (tgt := 161) hE d_Mo_numberKind_121 (by decide) ?_
                  refine cx_istore hE d_Mo_numberKind_161 (by decide) ?_
                  refine cx_sub [0, 1, 2, 3, 4, 5, 6, 7] rfl ?_
                  have z := h163
                  rw [q_bs] at z
                  exact z
              · have q_k : rm_nk n (tx_at n (M.2.1 53)) p = 404 := (rm_nkS hp hd hm9 c_69).2 (fun z => c_97 (nI_lt z.2.2.2.2.1 (by omega)))
                refine cx_sipush (v := 404) hE d_Mo_numberKind_100 (by decide) ?_
                refine cx_iret hE d_Mo_numberKind_103 rfl rfl ?_
                exact ⟨_, by rw [q_k], rm_57.up _ _, m1, s1, c1⟩
    · have q_44 := (nI_eq (by omega) (by omega)).mp c_44
      have q_p := rm_nkP hp hd hm9 q_44.symm
      refine cx_iload hE d_Mo_numberKind_47 rfl ?_
      refine cx_if_eq (tgt := 58)  hE d_Mo_numberKind_49 (by decide) (fun c_49 => ?_) (fun c_49 => ?_)
      · have q_k : rm_nk n (tx_at n (M.2.1 53)) p = 404 := by rw [q_p, if_neg (of_decide_eq_false (cx_b0.mp c_49))]
        refine cx_sipush (v := 404) hE d_Mo_numberKind_58 (by decide) ?_
        refine cx_iret hE d_Mo_numberKind_61 rfl rfl ?_
        exact ⟨_, by rw [q_k], rm_57.up _ _, m1, s1, c1⟩
      · have q_k : rm_nk n (tx_at n (M.2.1 53)) p = 401 := by rw [q_p, if_pos (of_decide_eq_true (cx_bn.mp c_49))]
        refine cx_sipush (v := 401) hE d_Mo_numberKind_52 (by decide) ?_
        refine cx_goto (tgt := 61) hE d_Mo_numberKind_55 (by decide) ?_
        refine cx_iret hE d_Mo_numberKind_61 rfl rfl ?_
        exact ⟨_, by rw [q_k], rm_57.up _ _, m1, s1, c1⟩
  have hloop : ∀ (d t : Nat), p + m - t = d → t ≤ p + m → p ≤ t → cx_V E 2 [(3, false, .int (nI t)), (0, false, .ref mo), (1, false, .int (nI p)), (2, false, .int (nI (rm_ne n (tx_at n (M.2.1 53)) p)))] [] G := by
    intro d
    induction d using Nat.strongRecOn with
    | ind d ih =>
      intro t hd1 ht hpt
      refine cx_iload_n (i := 3) hE d_Mo_numberKind_2 rfl rfl ?_
      refine cx_iload_n (i := 2) hE d_Mo_numberKind_3 rfl rfl ?_
      refine cx_icmp_ge (tgt := 24)  hE d_Mo_numberKind_4 (by decide) (fun c_4 => ?_) (fun c_4 => ?_)
      · have q_4 : t = p + m := by have := nJ_le (by omega) c_4; omega
        refine cx_sub [0, 1, 2, 3] rfl ?_
        subst q_4
        exact h24
      · refine cx_aload_n (i := 0) hE d_Mo_numberKind_7 rfl rfl ?_
        refine cx_iload_n (i := 3) hE d_Mo_numberKind_8 rfl rfl ?_
        refine cx_invV1 hE d_Mo_numberKind_9 l_Mo_136 (by assumption) (c_Mo_at (p := t) hm hn hn6 (by omega)) rfl (by omega) (Nat.le_of_ble_eq_true rfl) n_Mo_at (by first | rfl | (simp only [List.map_cons, List.map_nil, cx_rfc]; rfl)) ?_
        refine cx_invS1 hE d_Mo_numberKind_12 l_Mo_133 (c_Mo_isDigit ((tx_at n (M.2.1 53)) t)) rfl (by omega) (Nat.le_of_ble_eq_true rfl) n_Mo_isDigit (by first | rfl | (simp only [List.map_cons, List.map_nil, cx_rfc]; rfl)) ?_
        refine cx_if_eq (tgt := 24)  hE d_Mo_numberKind_15 (by decide) (fun c_15 => ?_) (fun c_15 => ?_)
        · have q_4 : t = p + m := by
            rcases Nat.lt_or_ge t (p + m) with z | z
            · have := hall.2.2.1 t hpt z
              rw [cx_b0.mp c_15] at this
              cases this
            · omega
          refine cx_sub [0, 1, 2, 3] rfl ?_
          subst q_4
          exact h24
        · have q_15 : t < p + m := by
            rcases Nat.lt_or_ge t (p + m) with z | z
            · exact z
            · have e : t = p + m := by omega
              have := cx_bn.mp c_15
              rw [e, hall.2.1] at this
              cases this
          refine cx_iinc (v := nI (t + 1)) hE d_Mo_numberKind_18 rfl (nI_1 _) (by decide) ?_
          refine cx_goto (tgt := 2) hE d_Mo_numberKind_21 (by decide) ?_
          refine cx_sub [0, 1, 2, 3] rfl ?_
          exact ih (p + m - (t + 1)) (by omega) (t + 1) rfl (by omega) (by omega)
  refine cx_iload_n (i := 1) hE d_Mo_numberKind_0 rfl rfl ?_
  refine cx_istore_n (i := 3) hE d_Mo_numberKind_1 rfl (by decide) ?_
  refine cx_sub [0, 1, 2, 3] rfl ?_
  exact hloop _ p rfl (by omega) (by omega)

/-! THE REFERENCE: all tokens. -/
/-- the rows of tokens hold L -/
def rm_row (M : rm_M) (L : List tx_Tk) : Prop := ∀ i, i < L.length → (tx_ki L i, M.2.1 4 i) ∈ rm_kl ∧ M.2.1 5 i = nI (tx_ta L i).2.1 ∧ (tx_ki L i = 19 ∨ tx_ki L i = 20 ∨ tx_ki L i = 21 → M.2.1 6 i = nI (tx_ta L i).2.2.1)
/-- what cutting the tokens leaves as it was -/
def rm_cm (n : Nat) (M M1 : rm_M) : Prop := (∀ j, j ≠ 7 → j ≠ 57 → M1.1 j = M.1 j) ∧ (∀ j, j ≠ 4 → j ≠ 5 → j ≠ 6 → M1.2.1 j = M.2.1 j) ∧ M1.2.2 = M.2.2 ∧ ∀ j, n < j → M1.2.1 4 j = M.2.1 4 j
theorem rm_cm.f7 {n : Nat} {M M1 M2 : rm_M} (h : rm_cm n M M1) (h' : rm_57 M1 M2) : rm_cm n M M2 := by
  obtain ⟨a, b, c, d⟩ := h
  obtain ⟨e, g⟩ := h'
  refine ⟨fun j x y => (g j y).trans (a j x y), ?_, ?_, ?_⟩
  · rw [e]; exact b
  · rw [e]; exact c
  · rw [e]; exact d
theorem rm_row.f7 {M1 M2 : rm_M} {L : List tx_Tk} (h : rm_row M1 L) (h' : rm_57 M1 M2) : rm_row M2 L := by
  unfold rm_row at h ⊢
  rw [h'.1]
  exact h
theorem tx_ta_l {L : List tx_Tk} {t : tx_Tk} {i : Nat} (h : i < L.length) : tx_ta (L ++ [t]) i = tx_ta L i := by
  unfold tx_ta
  rw [List.getD_eq_getElem?_getD, List.getD_eq_getElem?_getD, List.getElem?_append_left h]
theorem tx_ta_e (L : List tx_Tk) (t : tx_Tk) : tx_ta (L ++ [t]) L.length = t := by
  unfold tx_ta
  rw [List.getD_eq_getElem?_getD, List.getElem?_append_right (Nat.le_refl _), Nat.sub_self]
  rfl
theorem rm_row.snoc {M : rm_M} {L : List tx_Tk} {t : tx_Tk} {kd e : Int32} (h : rm_row M L) (hk : (t.1, kd) ∈ rm_kl) (he : t.1 = 19 ∨ t.1 = 20 ∨ t.1 = 21 → e = nI t.2.2.1) : rm_row (rm_tok L.length kd (nI t.2.1) e M) (L ++ [t]) := by
  intro i hi
  rw [List.length_append] at hi
  have hi : i < L.length + 1 := hi
  show (tx_ki (L ++ [t]) i, upd (M.2.1 4) L.length kd i) ∈ rm_kl ∧ upd (M.2.1 5) L.length (nI t.2.1) i = _ ∧ (_ → upd (M.2.1 6) L.length e i = _)
  unfold tx_ki
  rcases Nat.lt_or_ge i L.length with z | z
  · rw [tx_ta_l z, pk_un (by omega), pk_un (by omega), pk_un (by omega)]
    exact h i z
  · have : i = L.length := by omega
    subst this
    rw [tx_ta_e, pk_us, pk_us, pk_us]
    exact ⟨hk, rfl, he⟩
theorem rm_cm.tok {n t : Nat} {M M1 : rm_M} {kd p e : Int32} (h : rm_cm n M M1) (ht : t ≤ n) : rm_cm n M (rm_tok t kd p e M1) := by
  obtain ⟨a, b, c, d⟩ := h
  refine ⟨fun j x y => ?_, fun j x y z => ?_, c, fun j hj => ?_⟩
  · show (if j = 7 then _ else M1.1 j) = _
    rw [if_neg x]; exact a j x y
  · show (if j = 6 then _ else if j = 5 then _ else if j = 4 then _ else M1.2.1 j) = _
    rw [if_neg z, if_neg y, if_neg x]; exact b j x y z
  · show upd (M1.2.1 4) t kd j = _
    rw [pk_un (by omega)]; exact d j hj
theorem rm_ng {x : Nat} (h : x < 2 ^ 31) : ¬ 0 ≤ -1 - nI x := by
  intro z
  rw [Int32.le_iff_toInt_le] at z
  have e : (-1 - nI x).toInt = -1 - x := by
    have := Int32.toInt_sub (-1) (nI x)
    rw [this, nI_toInt h]
    show (-1 - (x : Int)).bmod _ = _
    rw [Int.bmod_eq_of_le] <;> omega
  rw [e] at z
  simp at z
  omega
theorem rm_nn (x : Int32) : -1 - (-1 - x) = x := by
  apply Int32.toBitVec_inj.mp
  show (-1 : Int32).toBitVec - ((-1 : Int32).toBitVec - x.toBitVec) = x.toBitVec
  bv_omega
theorem rm_wkk (T : List Int32) : (tx_kw T, rm_wk T) ∈ rm_kl ∧ rm_wk T ≠ 403 ∧ rm_wk T ≠ 404 := by
  have h := tx_kwi_le T
  unfold tx_kw rm_wk
  generalize tx_kwi T = j at h ⊢
  have : ∀ j : Nat, j < 19 → (nI (j + 1), if j < 18 then 300 + nI j else (400 : Int32)) ∈ rm_kl ∧ (if j < 18 then 300 + nI j else (400 : Int32)) ≠ 403 ∧ (if j < 18 then 300 + nI j else (400 : Int32)) ≠ 404 := by decide +kernel
  exact this j (by omega)
theorem rm_bd2 : ∀ p ∈ rm_kl, p.2 = 403 ↔ p.1 = 22 := by decide
/-- all tokens are cut -/
def rm_cp (k : cx_K) (G : cx_G) (mo : Nat) (P : Nat → Nat) (n : Nat) (M : rm_M) (T : List tx_Tk) : cx_R → cx_G → Prop := fun r G' => ∃ M', r = .inl none ∧ rm_h k G mo P G' M' ∧ rm_cm n M M' ∧ rm_row M' T ∧ M'.1 7 = nI T.length
section RMT
variable {n p : Nat} {f : Nat → Int32}
theorem rm_tkW (hp : p < n) (h : (tx_let (tx_at n f p) || decide (tx_at n f p = 95)) = true) : tx_tok n (tx_at n f) p = (tx_kw (tx_tx (tx_at n f) p (tx_q n (tx_at n f) p)), p, tx_q n (tx_at n f) p, some (tx_tx (tx_at n f) p (tx_q n (tx_at n f) p)), 0, 0) ∧ tx_on (tx_at n f p) = true := by
  have h1 : tx_let (tx_at n f p) = true ∨ tx_at n f p = 95 := by
    rw [Bool.or_eq_true, decide_eq_true_eq] at h; exact h
  have h2 : ¬ tx_dig (tx_at n f p) = true := fun z => by
    have z := of_decide_eq_true z
    rcases h1 with y | y
    · have y := of_decide_eq_true y; omega
    · rw [y] at z; exact absurd z (by decide)
  unfold tx_tok
  rw [if_neg (rm_c1 hp), if_neg h2, if_pos h1]
  exact ⟨rfl, tx_on_of (Or.inr h1)⟩
theorem rm_tkD (hp : p < n) (hd : tx_dig (tx_at n f p) = true) : ((tx_tok n (tx_at n f) p).1, rm_nk n (tx_at n f) p) ∈ rm_kl ∧ rm_nk n (tx_at n f) p ≠ 403 ∧ (rm_nk n (tx_at n f) p ≠ 404 → rm_ne n (tx_at n f) p = (tx_tok n (tx_at n f) p).2.2.1) ∧ (tx_tok n (tx_at n f) p).2.1 = p ∧ ((tx_tok n (tx_at n f) p).1 = 19 ∨ (tx_tok n (tx_at n f) p).1 = 20 ∨ (tx_tok n (tx_at n f) p).1 = 21 → nI (rm_ne n (tx_at n f) p) = nI (tx_tok n (tx_at n f) p).2.2.1) := by
  obtain ⟨m, h⟩ : ∃ m, rm_de n (tx_at n f) p = p + m := ⟨rm_de n (tx_at n f) p - p, by have := (tx_e_le (P := rm_dP n (tx_at n f)) (n := n) rm_dP_n p).1; unfold rm_de; omega⟩
  by_cases hc : tx_at n f (p + m) = 39
  · have q := rm_tokS hp hd h hc
    have q2 := rm_nkS hp hd h hc
    by_cases z : tx_sz (tx_at n f) p m (rm_ne n (tx_at n f) p)
    · rw [q.1 z, q2.1 z]
      exact ⟨by show ((21 : Int32), (402 : Int32)) ∈ rm_kl; decide, by decide, fun _ => rfl, rfl, fun _ => rfl⟩
    · rw [q.2 z, q2.2 z]
      exact ⟨by show ((23 : Int32), (404 : Int32)) ∈ rm_kl; decide, by decide, fun _ => rfl, rfl, fun _ => rfl⟩
  · by_cases he : rm_ne n (tx_at n f) p = p + m
    · have q := rm_tokP hp hd h hc he
      have q2 := rm_nkP hp hd h he
      have hv := rm_decv h
      rw [q, q2, he]
      by_cases z : tx_szW (tx_at n f) p m < 65536
      · rw [if_pos z, if_neg (hv.1 z).2]
        exact ⟨by show ((20 : Int32), (401 : Int32)) ∈ rm_kl; decide, by decide, fun _ => rfl, rfl, fun _ => rfl⟩
      · rw [if_neg z, if_pos (hv.2 z)]
        exact ⟨by show ((23 : Int32), (404 : Int32)) ∈ rm_kl; decide, by decide, fun _ => rfl, rfl, fun _ => rfl⟩
    · have q := rm_tokB hp hd h hc he
      have q2 := rm_nkN hp hd h hc he
      have q3 := (tx_tokF (n := n) (f := f) (p := p) (by omega)).2.2.2 (by rw [q]; decide)
      rw [q, q2]
      exact ⟨by show ((23 : Int32), (404 : Int32)) ∈ rm_kl; decide, by decide, fun z => absurd rfl z, q3.2, fun z => by rcases z with z | z | z <;> exact absurd z (by decide)⟩
theorem rm_tkG (hp : p < n) (h1 : (tx_let (tx_at n f p) || decide (tx_at n f p = 95)) = false) (h2 : tx_dig (tx_at n f p) = false) : tx_tok n (tx_at n f) p = (tx_sgk (tx_at n f p) (tx_at n f (p + 1)), p, p + tx_sgl (tx_at n f p) (tx_at n f (p + 1)), none, 0, 0) := by
  unfold tx_tok
  rw [if_neg (rm_c1 hp), if_neg (by rw [h2]; decide), if_neg (fun z => by rw [Bool.or_eq_false_iff, decide_eq_false_iff_not] at h1; exact z.elim (fun y => by rw [h1.1] at y; cases y) h1.2)]
theorem rm_tkS (a b : Int32) (h : 0 < rm_pair a b) : (tx_sgk a b, rm_pair a b) ∈ rm_kl ∧ tx_sgl a b = 2 := by
  have q := rm_pf a b
  cases z : tx_pf a b 8 0 with
  | true => unfold tx_sgk tx_sgl; rw [if_pos z, if_pos z]; exact ⟨(q.1 z).2, rfl⟩
  | false => rw [q.2 z] at h; exact absurd h (by decide)
theorem rm_tkT {ch : Nat} (hch : ch < 256) (b : Int32) (h : ¬ 0 < rm_pair (nI ch) b) : (tx_sgk (nI ch) b, if rm_sgn (nI ch) = true then nI ch else 404) ∈ rm_kl ∧ tx_sgl (nI ch) b = 1 := by
  have q := rm_pf (nI ch) b
  cases z : tx_pf (nI ch) b 8 0 with
  | true => exact absurd (q.1 z).1 h
  | false =>
    unfold tx_sgk tx_sgl
    have hz : ¬ tx_pf (nI ch) b 8 0 = true := by rw [z]; decide
    rw [if_neg hz, if_neg hz]
    refine ⟨?_, rfl⟩
    by_cases y : 0 ≤ (cx_ix 3 (nI ch)).toInt
    · rw [if_pos y, if_pos (show rm_sgn (nI ch) = true from decide_eq_true y)]
      exact rm_sgK ch hch (decide_eq_true y)
    · rw [if_neg y, if_neg (by unfold rm_sgn; rw [decide_eq_false y]; decide)]
      decide
end RMT
theorem tx_n22 {n p : Nat} {f : Nat → Int32} (hp : p < n) : ¬ (tx_tok n (tx_at n f) p).1 = 22 := by
  intro z
  cases h1 : (tx_let (tx_at n f p) || decide (tx_at n f p = 95)) with
  | true =>
    rw [(rm_tkW hp h1).1] at z
    have h := rm_wkk (tx_tx (tx_at n f) p (tx_q n (tx_at n f) p))
    exact h.2.1 ((rm_bd2 _ h.1).mpr z)
  | false =>
    cases h2 : tx_dig (tx_at n f p) with
    | true =>
      have h := rm_tkD hp h2
      exact h.2.1 ((rm_bd2 _ h.1).mpr z)
    | false =>
      rw [rm_tkG hp h1 h2] at z
      obtain ⟨ch, hch, hc⟩ := tx_ch f hp
      by_cases y : 0 < rm_pair (tx_at n f p) (tx_at n f (p + 1))
      · have q := rm_tkS _ _ y
        have q2 := (rm_bd2 _ q.1).mpr z
        unfold rm_pair at q2
        have q2 : (if tx_at n f p = 38 ∧ tx_at n f (p + 1) = 38 then (256 : Int32) else if tx_at n f p = 124 ∧ tx_at n f (p + 1) = 124 then 257 else if tx_at n f p = 61 ∧ tx_at n f (p + 1) = 61 then 258 else if tx_at n f p = 33 ∧ tx_at n f (p + 1) = 61 then 259 else if tx_at n f p = 60 ∧ tx_at n f (p + 1) = 61 then 260 else if tx_at n f p = 62 ∧ tx_at n f (p + 1) = 61 then 261 else if tx_at n f p = 60 ∧ tx_at n f (p + 1) = 60 then 262 else if tx_at n f p = 62 ∧ tx_at n f (p + 1) = 62 then 263 else 0) = 403 := q2
        revert q2
        repeat' split
        all_goals decide
      · rw [hc] at y z
        have q := rm_tkT hch _ y
        have q2 : (if rm_sgn (nI ch) = true then nI ch else (404 : Int32)) = 403 := (rm_bd2 _ q.1).mpr z
        split at q2
        · have : nI ch = nI 403 := q2
          rw [nI_eq (by omega) (by omega)] at this
          omega
        · exact absurd q2 (by decide)
set_option maxRecDepth 100000 in
theorem c_Mo_cutTokens {k : cx_K} {l : Launch} {G : cx_G} {mo : Nat} {P : Nat → Nat} {M : rm_M} (hm : rm_R k G mo P M) {n : Nat} (hn : M.1 2 = nI n) (hn6 : n ≤ 65536)  : cx_Sp k l m_Mo_cutTokens 4 [.ref mo] G (rm_cp k G mo P n M (tx_lex n (tx_at n (M.2.1 53)))) := by
  intro E hE
  have hmo := hm.1
  have hloop : ∀ (d q : Nat) (L0 : List tx_Tk) (M1 : rm_M) (G1 : cx_G), n - q = d → q ≤ n → L0.length ≤ q → L0 ++ tx_lx n (tx_at n (M.2.1 53)) (n - q) q = tx_lex n (tx_at n (M.2.1 53)) → rm_h k G mo P G1 M1 → rm_cm n M M1 → rm_row M1 L0 → M1.1 7 = nI L0.length → cx_V E 7 [(1, false, .int (nI q)), (0, false, .ref mo)] [] G1 := by
    intro d
    induction d using Nat.strongRecOn with
    | ind d ih =>
      intro q L0 M1 G1 hd hq hL hlex hh hcm hrow ht7
      have e53 : M1.2.1 53 = M.2.1 53 := hcm.2.1 53 (by decide) (by decide) (by decide)
      have hn1 : M1.1 2 = nI n := (hcm.1 2 (by decide) (by decide)).trans hn
      have hm1 := hh.1.1
      have hat : ∀ p, p < 2 ^ 31 → cx_Sp k l m_Mo_at 0 [.ref mo, .int (nI p)] G1 (cx_rd (some (.int ((tx_at n (M.2.1 53)) p))) G1) := fun p hp => by
        have z := c_Mo_at (l := l) hh.1 hn1 hn6 hp
        rw [e53] at z; exact z
      have hsk : cx_Sp k l m_Mo_skip 1 [.ref mo, .int (nI q)] G1 (cx_rd (some (.int (rm_sk n (tx_at n (M.2.1 53)) q))) G1) := by
        have z := c_Mo_skip (l := l) hh.1 hn1 hn6 hq
        rw [e53] at z; exact z
      have hwk : ∀ p e, p ≤ e → e ≤ n → cx_Sp k l m_Mo_wordKind 1 [.ref mo, .int (nI p), .int (nI e)] G1 (cx_rd (some (.int (rm_wk (tx_tx (tx_at n (M.2.1 53)) p e)))) G1) := fun p e h1 h2 => by
        have z := c_Mo_wordKind (l := l) hh.1 hn1 hn6 h1 h2
        rw [e53] at z; exact z
      have hne : ∀ p, p ≤ n → cx_Sp k l m_Mo_numberEnd 2 [.ref mo, .int (nI p)] G1 (cx_rd (some (.int (nI (rm_ne n (tx_at n (M.2.1 53)) p)))) G1) := fun p h1 => by
        have z := c_Mo_numberEnd (l := l) hh.1 hn1 hn6 h1
        rw [e53] at z; exact z
      have hnk : ∀ p, p < n → tx_dig ((tx_at n (M.2.1 53)) p) = true → cx_Sp k l m_Mo_numberKind 3 [.ref mo, .int (nI p), .int (nI (rm_ne n (tx_at n (M.2.1 53)) p))] G1 (rm_q5 k G1 mo P (.int (rm_nk n (tx_at n (M.2.1 53)) p)) M1) := fun p h1 h2 => by
        have z := c_Mo_numberKind (l := l) (p := p) hh.1 hn1 hn6 h1 (by rw [e53]; exact h2)
        rw [e53] at z; exact z
      have hbl := tx_bl_le (f := M.2.1 53) hq
      have hlr := tx_lx_r (f := M.2.1 53) (m := n - q) (p := q) (Nat.le_refl _) hq
      have hske : rm_sk n (tx_at n (M.2.1 53)) q = if (tx_at n (M.2.1 53)) (tx_bl n (tx_at n (M.2.1 53)) q) = 47 ∧ (tx_at n (M.2.1 53)) (tx_bl n (tx_at n (M.2.1 53)) q + 1) = 42 then -1 - nI (tx_bl n (tx_at n (M.2.1 53)) q) else nI (tx_bl n (tx_at n (M.2.1 53)) q) := rfl
      generalize tx_bl n (tx_at n (M.2.1 53)) q = kk at hbl hlr hske
      rw [hlr] at hlex
      have hF := tx_tokF (f := M.2.1 53) (n := n) (p := kk) hbl.2.1
      have q_T0 : (tx_tok n (tx_at n (M.2.1 53)) kk).1 = 22 ∨ (tx_tok n (tx_at n (M.2.1 53)) kk).1 = 23 → tx_lex n (tx_at n (M.2.1 53)) = L0 ++ [(tx_tok n (tx_at n (M.2.1 53)) kk)] := fun z => by
        rw [← hlex]
        unfold tx_rest
        rw [if_pos z]
      have hnext : ∀ (kd : Int32) (e' : Nat) (M2 : rm_M) (G2 : cx_G), rm_h k G mo P G2 M2 → rm_cm n M M2 → rm_row M2 (L0 ++ [(tx_tok n (tx_at n (M.2.1 53)) kk)]) → M2.1 7 = nI (L0.length + 1) → M2.2.1 4 L0.length = kd → ((tx_tok n (tx_at n (M.2.1 53)) kk).1, kd) ∈ rm_kl → kd ≠ 403 → (kd ≠ 404 → e' = (tx_tok n (tx_at n (M.2.1 53)) kk).2.2.1) → cx_V E 193 [(1, false, .int (nI e')), (0, false, .ref mo)] [] G2 := by
        intro kd e' M2 G2 hh2 hcm2 hrow2 ht2 hkd hkl h403 hee
        have hm2 := hh2.1.1
        have h4 := hh2.1.i 4 rfl
        have q22 : ¬ (tx_tok n (tx_at n (M.2.1 53)) kk).1 = 22 := fun z => h403 ((rm_bd2 _ hkl).mpr z)
        have hF2 := hF.2.2.2 q22
        refine cx_aload_n (i := 0) hE d_Mo_cutTokens_193 rfl rfl ?_
        refine cx_get hE d_Mo_cutTokens_194 f_Mo_15 (by assumption) (by rfl) ?_
        refine cx_aload_n (i := 0) hE d_Mo_cutTokens_197 rfl rfl ?_
        refine cx_get hE d_Mo_cutTokens_198 f_Mo_161 (by assumption) (by rfl) ?_
        rw [ht2]
        refine cx_iconst (v := 1) hE d_Mo_cutTokens_201 (by decide) ?_
        refine cx_isub hE d_Mo_cutTokens_202 ?_
        rw [nI_pred]
        refine cx_iald 1 hE d_Mo_cutTokens_203 rfl (by assumption) (vp_in_nI (by show _ < 65540; omega) (by show 65540 < 2147483648; omega)) ?_
        rw [nI_clamp (by omega), hkd]
        refine cx_sipush (v := 404) hE d_Mo_cutTokens_204 (by decide) ?_
        refine cx_icmp_ne (tgt := 211)  hE d_Mo_cutTokens_207 (by decide) (fun c_207 => ?_) (fun c_207 => ?_)
        · have q_23 : ¬ (tx_tok n (tx_at n (M.2.1 53)) kk).1 = 23 := fun z => c_207 ((rm_bd _ hkl).mpr z)
          have q_e := hee c_207
          subst q_e
          refine cx_goto (tgt := 7) hE d_Mo_cutTokens_211 (by decide) ?_
          refine cx_sub [0, 1] rfl ?_
          exact ih (n - (tx_tok n (tx_at n (M.2.1 53)) kk).2.2.1) (by omega) (tx_tok n (tx_at n (M.2.1 53)) kk).2.2.1 (L0 ++ [(tx_tok n (tx_at n (M.2.1 53)) kk)]) M2 G2 rfl (by omega) (by rw [List.length_append]; show L0.length + 1 ≤ _; omega) (by
            rw [← hlex, List.append_assoc]
            congr 1
            unfold tx_rest
            rw [if_neg (fun z => z.elim q22 q_23)]
            rfl) hh2 hcm2 hrow2 (by rw [ht2, List.length_append]; rfl)
        · have q_23 : (tx_tok n (tx_at n (M.2.1 53)) kk).1 = 23 := (rm_bd _ hkl).mp c_207
          refine cx_vret hE d_Mo_cutTokens_210 rfl ?_
          have q_T := q_T0 (Or.inr q_23)
          exact ⟨M2, rfl, hh2, hcm2, by rw [q_T]; exact hrow2, by rw [q_T, List.length_append]; exact ht2⟩
      refine cx_aload_n (i := 0) hE d_Mo_cutTokens_7 rfl rfl ?_
      refine cx_iload_n (i := 1) hE d_Mo_cutTokens_8 rfl rfl ?_
      refine cx_invV1 hE d_Mo_cutTokens_9 l_Mo_164 (by assumption) (hsk) rfl (by omega) (Nat.le_of_ble_eq_true rfl) n_Mo_skip (by first | rfl | (simp only [List.map_cons, List.map_nil, cx_rfc]; rfl)) ?_
      refine cx_istore_n (i := 2) hE d_Mo_cutTokens_12 rfl (by decide) ?_
      refine cx_iload_n (i := 2) hE d_Mo_cutTokens_13 rfl rfl ?_
      refine cx_if_ge (tgt := 32)  hE d_Mo_cutTokens_14 (by decide) (fun c_14 => ?_) (fun c_14 => ?_)
      · have q_z : ¬ ((tx_at n (M.2.1 53)) kk = 47 ∧ (tx_at n (M.2.1 53)) (kk + 1) = 42) := fun z => by
          rw [hske, if_pos z] at c_14
          exact rm_ng (by omega) c_14
        rw [hske, if_neg q_z]
        refine cx_iload_n (i := 2) hE d_Mo_cutTokens_32 rfl rfl ?_
        refine cx_aload_n (i := 0) hE d_Mo_cutTokens_33 rfl rfl ?_
        refine cx_get hE d_Mo_cutTokens_34 f_Mo_126 (by assumption) (by rfl) ?_
        rw [hn1]
        refine cx_icmp_lt (tgt := 56)  hE d_Mo_cutTokens_37 (by decide) (fun c_37 => ?_) (fun c_37 => ?_)
        · have q_37 := (nI_ltI (by omega) (by omega)).mp c_37
          have q_22 : ¬ (tx_tok n (tx_at n (M.2.1 53)) kk).1 = 22 := fun z => by
            have := hF.1
            exact tx_n22 q_37 z
          refine cx_aload_n (i := 0) hE d_Mo_cutTokens_56 rfl rfl ?_
          refine cx_iload_n (i := 2) hE d_Mo_cutTokens_57 rfl rfl ?_
          refine cx_invV1 hE d_Mo_cutTokens_58 l_Mo_136 (by assumption) (hat kk (by omega)) rfl (by omega) (Nat.le_of_ble_eq_true rfl) n_Mo_at (by first | rfl | (simp only [List.map_cons, List.map_nil, cx_rfc]; rfl)) ?_
          refine cx_istore_n (i := 3) hE d_Mo_cutTokens_61 rfl (by decide) ?_
          refine cx_iload_n (i := 3) hE d_Mo_cutTokens_62 rfl rfl ?_
          refine cx_invS1 hE d_Mo_cutTokens_63 l_Mo_129 (c_Mo_isLetter ((tx_at n (M.2.1 53)) kk)) rfl (by omega) (Nat.le_of_ble_eq_true rfl) n_Mo_isLetter (by first | rfl | (simp only [List.map_cons, List.map_nil, cx_rfc]; rfl)) ?_
          refine cx_if_eq (tgt := 103)  hE d_Mo_cutTokens_66 (by decide) (fun c_66 => ?_) (fun c_66 => ?_)
          · refine cx_iload_n (i := 3) hE d_Mo_cutTokens_103 rfl rfl ?_
            refine cx_invS1 hE d_Mo_cutTokens_104 l_Mo_133 (c_Mo_isDigit ((tx_at n (M.2.1 53)) kk)) rfl (by omega) (Nat.le_of_ble_eq_true rfl) n_Mo_isDigit (by first | rfl | (simp only [List.map_cons, List.map_nil, cx_rfc]; rfl)) ?_
            refine cx_if_eq (tgt := 131)  hE d_Mo_cutTokens_107 (by decide) (fun c_107 => ?_) (fun c_107 => ?_)
            · have q_107 := cx_b0.mp c_107
              have q_G := rm_tkG q_37 (cx_b0.mp c_66) q_107
              obtain ⟨ch, hch, hch2⟩ := tx_ch (M.2.1 53) q_37
              refine cx_iload_n (i := 3) hE d_Mo_cutTokens_131 rfl rfl ?_
              refine cx_aload_n (i := 0) hE d_Mo_cutTokens_132 rfl rfl ?_
              refine cx_iload_n (i := 2) hE d_Mo_cutTokens_133 rfl rfl ?_
              refine cx_iconst (v := 1) hE d_Mo_cutTokens_134 (by decide) ?_
              refine cx_iadd hE d_Mo_cutTokens_135 ?_
              show cx_V E _ _ (.int (nI kk + 1) :: _) G1
              rw [nI_1]
              refine cx_invV1 hE d_Mo_cutTokens_136 l_Mo_136 (by assumption) (hat (kk + 1) (by omega)) rfl (by omega) (Nat.le_of_ble_eq_true rfl) n_Mo_at (by first | rfl | (simp only [List.map_cons, List.map_nil, cx_rfc]; rfl)) ?_
              refine cx_invS1 hE d_Mo_cutTokens_139 l_Mo_181 (c_Mo_pair _ _) rfl (by omega) (Nat.le_of_ble_eq_true rfl) n_Mo_pair (by first | rfl | (simp only [List.map_cons, List.map_nil, cx_rfc]; rfl)) ?_
              refine cx_if_le (tgt := 169)  hE d_Mo_cutTokens_142 (by decide) (fun c_142 => ?_) (fun c_142 => ?_)
              · refine cx_iload_n (i := 2) hE d_Mo_cutTokens_169 rfl rfl ?_
                refine cx_iconst (v := 1) hE d_Mo_cutTokens_170 (by decide) ?_
                refine cx_iadd hE d_Mo_cutTokens_171 ?_
                show cx_V E _ _ (.int (nI kk + 1) :: _) G1
                rw [nI_1]
                refine cx_istore_n (i := 1) hE d_Mo_cutTokens_172 rfl (by decide) ?_
                rw [hch2] at c_142 ⊢
                refine cx_aload_n (i := 0) hE d_Mo_cutTokens_173 rfl rfl ?_
                refine cx_iload_n (i := 3) hE d_Mo_cutTokens_174 rfl rfl ?_
                refine cx_invS1 hE d_Mo_cutTokens_175 l_Mo_184 (c_Mo_isSign hch) rfl (by omega) (Nat.le_of_ble_eq_true rfl) n_Mo_isSign (by first | rfl | (simp only [List.map_cons, List.map_nil, cx_rfc]; rfl)) ?_
                refine cx_if_eq (tgt := 185)  hE d_Mo_cutTokens_178 (by decide) (fun c_178 => ?_) (fun c_178 => ?_)
                · refine cx_sipush (v := 404) hE d_Mo_cutTokens_185 (by decide) ?_
                  refine cx_iload_n (i := 2) hE d_Mo_cutTokens_188 rfl rfl ?_
                  refine cx_iload_n (i := 1) hE d_Mo_cutTokens_189 rfl rfl ?_
                  have q_kd : rm_sgn (nI ch) = false := cx_b0.mp c_178
                  have q_S := rm_tkT hch _ (Int32.not_lt.mpr c_142)
                  rw [q_kd] at q_S
                  rw [show nI kk = nI (tx_tok n (tx_at n (M.2.1 53)) kk).2.1 by rw [q_G]]
                  refine cx_invV hE d_Mo_cutTokens_190 l_Mo_167 hh.1.1 (c_Mo_token (t := L0.length) (kd := 404) (p := nI (tx_tok n (tx_at n (M.2.1 53)) kk).2.1) (e := nI (kk + 1)) hh.1 ht7 (by omega)) rfl (by omega) (Nat.le_of_ble_eq_true rfl) n_Mo_token (by rfl) (fun v G3 q => ?_) (fun a G3 q => by cases q.1)
                  obtain ⟨q0, m3, s3, c3⟩ := q
                  cases q0
                  show cx_V E _ _ [] G3
                  have h193 := hnext (404) (kk + 1) _ G3 (hh.tr ⟨m3, s3, c3⟩) (hcm.tok (by omega)) (hrow.snoc (t := (tx_tok n (tx_at n (M.2.1 53)) kk)) (by rw [q_G, hch2]; exact q_S.1) (fun _ => by rw [q_G, hch2, q_S.2])) rfl pk_us (by rw [q_G, hch2]; exact q_S.1) (fun z => q_22 ((rm_bd2 _ (show ((tx_tok n (tx_at n (M.2.1 53)) kk).1, _) ∈ rm_kl by rw [q_G, hch2]; exact q_S.1)).mp z)) (fun _ => by rw [q_G, hch2, q_S.2])
                  refine cx_sub [0, 3] rfl ?_
                  exact h193
                · refine cx_iload_n (i := 3) hE d_Mo_cutTokens_181 rfl rfl ?_
                  refine cx_goto (tgt := 188) hE d_Mo_cutTokens_182 (by decide) ?_
                  refine cx_iload_n (i := 2) hE d_Mo_cutTokens_188 rfl rfl ?_
                  refine cx_iload_n (i := 1) hE d_Mo_cutTokens_189 rfl rfl ?_
                  have q_kd : rm_sgn (nI ch) = true := cx_bn.mp c_178
                  have q_S := rm_tkT hch _ (Int32.not_lt.mpr c_142)
                  rw [q_kd] at q_S
                  rw [show nI kk = nI (tx_tok n (tx_at n (M.2.1 53)) kk).2.1 by rw [q_G]]
                  refine cx_invV hE d_Mo_cutTokens_190 l_Mo_167 hh.1.1 (c_Mo_token (t := L0.length) (kd := nI ch) (p := nI (tx_tok n (tx_at n (M.2.1 53)) kk).2.1) (e := nI (kk + 1)) hh.1 ht7 (by omega)) rfl (by omega) (Nat.le_of_ble_eq_true rfl) n_Mo_token (by rfl) (fun v G3 q => ?_) (fun a G3 q => by cases q.1)
                  obtain ⟨q0, m3, s3, c3⟩ := q
                  cases q0
                  show cx_V E _ _ [] G3
                  have h193 := hnext (nI ch) (kk + 1) _ G3 (hh.tr ⟨m3, s3, c3⟩) (hcm.tok (by omega)) (hrow.snoc (t := (tx_tok n (tx_at n (M.2.1 53)) kk)) (by rw [q_G, hch2]; exact q_S.1) (fun _ => by rw [q_G, hch2, q_S.2])) rfl pk_us (by rw [q_G, hch2]; exact q_S.1) (fun z => q_22 ((rm_bd2 _ (show ((tx_tok n (tx_at n (M.2.1 53)) kk).1, _) ∈ rm_kl by rw [q_G, hch2]; exact q_S.1)).mp z)) (fun _ => by rw [q_G, hch2, q_S.2])
                  refine cx_sub [0, 3] rfl ?_
                  exact h193
              · refine cx_iload_n (i := 2) hE d_Mo_cutTokens_145 rfl rfl ?_
                refine cx_iconst (v := 2) hE d_Mo_cutTokens_146 (by decide) ?_
                refine cx_iadd hE d_Mo_cutTokens_147 ?_
                show cx_V E _ _ (.int (nI kk + nI 2) :: _) G1
                rw [nI_add]
                refine cx_istore_n (i := 1) hE d_Mo_cutTokens_148 rfl (by decide) ?_
                refine cx_aload_n (i := 0) hE d_Mo_cutTokens_149 rfl rfl ?_
                refine cx_iload_n (i := 3) hE d_Mo_cutTokens_150 rfl rfl ?_
                refine cx_aload_n (i := 0) hE d_Mo_cutTokens_151 rfl rfl ?_
                refine cx_iload_n (i := 2) hE d_Mo_cutTokens_152 rfl rfl ?_
                refine cx_iconst (v := 1) hE d_Mo_cutTokens_153 (by decide) ?_
                refine cx_iadd hE d_Mo_cutTokens_154 ?_
                show cx_V E _ _ (.int (nI kk + 1) :: _) G1
                rw [nI_1]
                refine cx_invV1 hE d_Mo_cutTokens_155 l_Mo_136 (by assumption) (hat (kk + 1) (by omega)) rfl (by omega) (Nat.le_of_ble_eq_true rfl) n_Mo_at (by first | rfl | (simp only [List.map_cons, List.map_nil, cx_rfc]; rfl)) ?_
                refine cx_invS1 hE d_Mo_cutTokens_158 l_Mo_181 (c_Mo_pair _ _) rfl (by omega) (Nat.le_of_ble_eq_true rfl) n_Mo_pair (by first | rfl | (simp only [List.map_cons, List.map_nil, cx_rfc]; rfl)) ?_
                refine cx_iload_n (i := 2) hE d_Mo_cutTokens_161 rfl rfl ?_
                refine cx_iload_n (i := 1) hE d_Mo_cutTokens_162 rfl rfl ?_
                have q_S := rm_tkS _ _ (Int32.not_le.mp c_142)
                rw [show nI kk = nI (tx_tok n (tx_at n (M.2.1 53)) kk).2.1 by rw [q_G]]
                refine cx_invV hE d_Mo_cutTokens_163 l_Mo_167 hh.1.1 (c_Mo_token (t := L0.length) (kd := rm_pair ((tx_at n (M.2.1 53)) kk) ((tx_at n (M.2.1 53)) (kk + 1))) (p := nI (tx_tok n (tx_at n (M.2.1 53)) kk).2.1) (e := nI (kk + 2)) hh.1 ht7 (by omega)) rfl (by omega) (Nat.le_of_ble_eq_true rfl) n_Mo_token (by rfl) (fun v G3 q => ?_) (fun a G3 q => by cases q.1)
                obtain ⟨q0, m3, s3, c3⟩ := q
                cases q0
                show cx_V E _ _ [] G3
                have h193 := hnext (rm_pair ((tx_at n (M.2.1 53)) kk) ((tx_at n (M.2.1 53)) (kk + 1))) (kk + 2) _ G3 (hh.tr ⟨m3, s3, c3⟩) (hcm.tok (by omega)) (hrow.snoc (t := (tx_tok n (tx_at n (M.2.1 53)) kk)) (by rw [q_G]; exact q_S.1) (fun _ => by rw [q_G, q_S.2])) rfl pk_us (by rw [q_G]; exact q_S.1) (fun z => q_22 ((rm_bd2 _ (show ((tx_tok n (tx_at n (M.2.1 53)) kk).1, _) ∈ rm_kl by rw [q_G]; exact q_S.1)).mp z)) (fun _ => by rw [q_G, q_S.2])
                refine cx_goto (tgt := 193) hE d_Mo_cutTokens_166 (by decide) ?_
                refine cx_sub [0, 3] rfl ?_
                exact h193
            · have q_107 := cx_bn.mp c_107
              refine cx_aload_n (i := 0) hE d_Mo_cutTokens_110 rfl rfl ?_
              refine cx_iload_n (i := 2) hE d_Mo_cutTokens_111 rfl rfl ?_
              refine cx_invV1 hE d_Mo_cutTokens_112 l_Mo_175 (by assumption) (hne kk (by omega)) rfl (by omega) (Nat.le_of_ble_eq_true rfl) n_Mo_numberEnd (by first | rfl | (simp only [List.map_cons, List.map_nil, cx_rfc]; rfl)) ?_
              refine cx_istore_n (i := 1) hE d_Mo_cutTokens_115 rfl (by decide) ?_
              refine cx_aload_n (i := 0) hE d_Mo_cutTokens_116 rfl rfl ?_
              refine cx_aload_n (i := 0) hE d_Mo_cutTokens_117 rfl rfl ?_
              refine cx_iload_n (i := 2) hE d_Mo_cutTokens_118 rfl rfl ?_
              refine cx_iload_n (i := 1) hE d_Mo_cutTokens_119 rfl rfl ?_
              refine cx_invV hE d_Mo_cutTokens_120 l_Mo_178 hh.1.1 (hnk kk q_37 q_107) rfl (by omega) (Nat.le_of_ble_eq_true rfl) n_Mo_numberKind (by rfl) (fun v G2 q => ?_) (fun a G2 q => by obtain ⟨_, z, _⟩ := q; cases z)
              obtain ⟨M2, q0, f2, h2⟩ := q
              cases q0
              have ht2 : M2.1 7 = nI L0.length := (f2.2 7 (by decide)).trans ht7
              have q_D := rm_tkD q_37 q_107
              show cx_V E _ _ (.int (rm_nk n (tx_at n (M.2.1 53)) kk) :: _) G2
              have hmo2 := h2.1.1
              refine cx_iload_n (i := 2) hE d_Mo_cutTokens_123 rfl rfl ?_
              refine cx_iload_n (i := 1) hE d_Mo_cutTokens_124 rfl rfl ?_
              rw [show nI kk = nI (tx_tok n (tx_at n (M.2.1 53)) kk).2.1 by rw [q_D.2.2.2.1]]
              refine cx_invV hE d_Mo_cutTokens_125 l_Mo_167 h2.1.1 (c_Mo_token (t := L0.length) (kd := rm_nk n (tx_at n (M.2.1 53)) kk) (p := nI (tx_tok n (tx_at n (M.2.1 53)) kk).2.1) (e := nI (rm_ne n (tx_at n (M.2.1 53)) kk)) h2.1 ht2 (by omega)) rfl (by omega) (Nat.le_of_ble_eq_true rfl) n_Mo_token (by rfl) (fun v G3 q => ?_) (fun a G3 q => by cases q.1)
              obtain ⟨q0, m3, s3, c3⟩ := q
              cases q0
              show cx_V E _ _ [] G3
              have h193 := hnext (rm_nk n (tx_at n (M.2.1 53)) kk) (rm_ne n (tx_at n (M.2.1 53)) kk) _ G3 ((hh.tr h2).tr ⟨m3, s3, c3⟩) ((hcm.f7 f2).tok (by omega)) ((hrow.f7 f2).snoc (t := (tx_tok n (tx_at n (M.2.1 53)) kk)) (q_D.1) (q_D.2.2.2.2)) rfl pk_us (q_D.1) (q_D.2.1) (q_D.2.2.1)
              refine cx_goto (tgt := 193) hE d_Mo_cutTokens_128 (by decide) ?_
              refine cx_sub [0, 3] rfl ?_
              exact h193
          · refine cx_iload_n (i := 2) hE d_Mo_cutTokens_69 rfl rfl ?_
            refine cx_istore_n (i := 1) hE d_Mo_cutTokens_70 rfl (by decide) ?_
            have q_w := rm_tkW q_37 (cx_bn.mp c_66)
            have hwd : ∀ (d2 r : Nat), n - r = d2 → kk ≤ r → r ≤ n → tx_e (tx_nP n (tx_at n (M.2.1 53))) r = tx_q n (tx_at n (M.2.1 53)) kk → cx_V E 71 [(1, false, .int (nI r)), (2, false, .int (nI kk)), (0, false, .ref mo)] [] G1 := by
              intro d2
              induction d2 using Nat.strongRecOn with
              | ind d2 ih2 =>
                intro r hd2 hr0 hr1 hr2
                refine cx_aload_n (i := 0) hE d_Mo_cutTokens_71 rfl rfl ?_
                refine cx_iload_n (i := 1) hE d_Mo_cutTokens_72 rfl rfl ?_
                refine cx_invV1 hE d_Mo_cutTokens_73 l_Mo_136 (by assumption) (hat r (by omega)) rfl (by omega) (Nat.le_of_ble_eq_true rfl) n_Mo_at (by first | rfl | (simp only [List.map_cons, List.map_nil, cx_rfc]; rfl)) ?_
                refine cx_invS1 hE d_Mo_cutTokens_76 l_Mo_158 (c_Mo_isIn ((tx_at n (M.2.1 53)) r)) rfl (by omega) (Nat.le_of_ble_eq_true rfl) n_Mo_isIn (by first | rfl | (simp only [List.map_cons, List.map_nil, cx_rfc]; rfl)) ?_
                refine cx_if_eq (tgt := 88)  hE d_Mo_cutTokens_79 (by decide) (fun c_79 => ?_) (fun c_79 => ?_)
                · have q_79 := cx_b0.mp c_79
                  have q_r : r = tx_q n (tx_at n (M.2.1 53)) kk := (tx_e_stop (P := tx_nP n (tx_at n (M.2.1 53))) (p := r) (fun z => by rw [z.2] at q_79; cases q_79)).symm.trans hr2
                  subst q_r
                  refine cx_aload_n (i := 0) hE d_Mo_cutTokens_88 rfl rfl ?_
                  refine cx_aload_n (i := 0) hE d_Mo_cutTokens_89 rfl rfl ?_
                  refine cx_iload_n (i := 2) hE d_Mo_cutTokens_90 rfl rfl ?_
                  refine cx_iload_n (i := 1) hE d_Mo_cutTokens_91 rfl rfl ?_
                  refine cx_invV1 hE d_Mo_cutTokens_92 l_Mo_171 (by assumption) (hwk kk (tx_q n (tx_at n (M.2.1 53)) kk) (by omega) (by omega)) rfl (by omega) (Nat.le_of_ble_eq_true rfl) n_Mo_wordKind (by first | rfl | (simp only [List.map_cons, List.map_nil, cx_rfc]; rfl)) ?_
                  refine cx_iload_n (i := 2) hE d_Mo_cutTokens_95 rfl rfl ?_
                  refine cx_iload_n (i := 1) hE d_Mo_cutTokens_96 rfl rfl ?_
                  rw [show nI kk = nI (tx_tok n (tx_at n (M.2.1 53)) kk).2.1 by rw [q_w.1]]
                  refine cx_invV hE d_Mo_cutTokens_97 l_Mo_167 hh.1.1 (c_Mo_token (t := L0.length) (kd := rm_wk (tx_tx (tx_at n (M.2.1 53)) kk (tx_q n (tx_at n (M.2.1 53)) kk))) (p := nI (tx_tok n (tx_at n (M.2.1 53)) kk).2.1) (e := nI (tx_q n (tx_at n (M.2.1 53)) kk)) hh.1 ht7 (by omega)) rfl (by omega) (Nat.le_of_ble_eq_true rfl) n_Mo_token (by rfl) (fun v G3 q => ?_) (fun a G3 q => by cases q.1)
                  obtain ⟨q0, m3, s3, c3⟩ := q
                  cases q0
                  show cx_V E _ _ [] G3
                  have h193 := hnext (rm_wk (tx_tx (tx_at n (M.2.1 53)) kk (tx_q n (tx_at n (M.2.1 53)) kk))) (tx_q n (tx_at n (M.2.1 53)) kk) _ G3 (hh.tr ⟨m3, s3, c3⟩) (hcm.tok (by omega)) (hrow.snoc (t := (tx_tok n (tx_at n (M.2.1 53)) kk)) (by rw [q_w.1]; exact (rm_wkk _).1) (fun _ => by rw [q_w.1])) rfl pk_us (by rw [q_w.1]; exact (rm_wkk _).1) ((rm_wkk _).2.1) (fun _ => by rw [q_w.1])
                  refine cx_goto (tgt := 193) hE d_Mo_cutTokens_100 (by decide) ?_
                  refine cx_sub [0, 2] rfl ?_
                  exact h193
                · have q_79 := cx_bn.mp c_79
                  have q_n := tx_onn q_79
                  refine cx_iinc (v := nI (r + 1)) hE d_Mo_cutTokens_82 rfl (nI_1 _) (by decide) ?_
                  refine cx_goto (tgt := 71) hE d_Mo_cutTokens_85 (by decide) ?_
                  refine cx_sub [0, 1, 2] rfl ?_
                  exact ih2 (n - (r + 1)) (by omega) (r + 1) rfl (by omega) (by omega) ((tx_e_step tx_nP_n ⟨q_n, q_79⟩).symm.trans hr2)
            refine cx_sub [0, 2, 3] rfl ?_
            exact hwd (n - kk) kk rfl (Nat.le_refl _) (by omega) rfl
        · have q_37 : n ≤ kk := nJ_le (by omega) (Int32.not_lt.mp c_37)
          refine cx_aload_n (i := 0) hE d_Mo_cutTokens_40 rfl rfl ?_
          refine cx_sipush (v := 403) hE d_Mo_cutTokens_41 (by decide) ?_
          refine cx_aload_n (i := 0) hE d_Mo_cutTokens_44 rfl rfl ?_
          refine cx_get hE d_Mo_cutTokens_45 f_Mo_126 (by assumption) (by rfl) ?_
          rw [hn1]
          refine cx_aload_n (i := 0) hE d_Mo_cutTokens_48 rfl rfl ?_
          refine cx_get hE d_Mo_cutTokens_49 f_Mo_126 (by assumption) (by rfl) ?_
          rw [hn1]
          have q_k0 : kk = n := by omega
          have q_22 : (tx_tok n (tx_at n (M.2.1 53)) kk).1 = 22 := tx_tok22 (by omega)
          rw [show (nI n) = nI n from rfl]
          refine cx_invV hE d_Mo_cutTokens_52 l_Mo_167 hh.1.1 (c_Mo_token (t := L0.length) (kd := 403) (p := nI n) (e := nI n) hh.1 ht7 (by omega)) rfl (by omega) (Nat.le_of_ble_eq_true rfl) n_Mo_token (by rfl) (fun v G3 q => ?_) (fun a G3 q => by cases q.1)
          obtain ⟨q0, m3, s3, c3⟩ := q
          cases q0
          show cx_V E _ _ [] G3
          have q_T := q_T0 (Or.inl q_22)
          have q_21 : (tx_tok n (tx_at n (M.2.1 53)) kk).2.1 = n := by omega
          have q_row := hrow.snoc (t := (tx_tok n (tx_at n (M.2.1 53)) kk)) (kd := 403) (e := nI n) (by rw [q_22]; decide) (fun z => by rw [q_22] at z; rcases z with z | z | z <;> exact absurd z (by decide))
          rw [q_21] at q_row
          refine cx_vret hE d_Mo_cutTokens_55 rfl ?_
          exact ⟨_, rfl, hh.tr ⟨m3, s3, c3⟩, hcm.tok (by omega), by rw [q_T]; exact q_row, by rw [q_T, List.length_append]; rfl⟩
      · have q_z : (tx_at n (M.2.1 53)) kk = 47 ∧ (tx_at n (M.2.1 53)) (kk + 1) = 42 := by
          by_cases z : (tx_at n (M.2.1 53)) kk = 47 ∧ (tx_at n (M.2.1 53)) (kk + 1) = 42
          · exact z
          · rw [hske, if_neg z] at c_14
            exact absurd (nI_pos' (by omega)) c_14
        rw [hske, if_pos q_z]
        refine cx_aload_n (i := 0) hE d_Mo_cutTokens_17 rfl rfl ?_
        refine cx_sipush (v := 404) hE d_Mo_cutTokens_18 (by decide) ?_
        refine cx_iconst (v := -1) hE d_Mo_cutTokens_21 (by decide) ?_
        refine cx_iload_n (i := 2) hE d_Mo_cutTokens_22 rfl rfl ?_
        refine cx_isub hE d_Mo_cutTokens_23 ?_
        rw [rm_nn]
        refine cx_aload_n (i := 0) hE d_Mo_cutTokens_24 rfl rfl ?_
        refine cx_get hE d_Mo_cutTokens_25 f_Mo_126 (by assumption) (by rfl) ?_
        rw [hn1]
        have q_tk : (tx_tok n (tx_at n (M.2.1 53)) kk) = (23, kk, kk + 1, none, 0, 0) := by
          unfold tx_tok
          rw [if_neg (by rw [q_z.1]; decide), if_neg (by rw [q_z.1]; decide), if_neg (by rw [q_z.1]; decide), q_z.1, q_z.2]
          rfl
        rw [show nI kk = nI (tx_tok n (tx_at n (M.2.1 53)) kk).2.1 by rw [q_tk]]
        refine cx_invV hE d_Mo_cutTokens_28 l_Mo_167 hh.1.1 (c_Mo_token (t := L0.length) (kd := 404) (p := nI (tx_tok n (tx_at n (M.2.1 53)) kk).2.1) (e := nI n) hh.1 ht7 (by omega)) rfl (by omega) (Nat.le_of_ble_eq_true rfl) n_Mo_token (by rfl) (fun v G3 q => ?_) (fun a G3 q => by cases q.1)
        obtain ⟨q0, m3, s3, c3⟩ := q
        cases q0
        show cx_V E _ _ [] G3
        have q_T := q_T0 (Or.inr (by rw [q_tk]))
        have q_row := hrow.snoc (t := (tx_tok n (tx_at n (M.2.1 53)) kk)) (kd := 404) (e := nI n) (by rw [q_tk]; show ((23 : Int32), (404 : Int32)) ∈ rm_kl; decide) (fun z => by rw [q_tk] at z; exact absurd (show (23 : Int32) = 19 ∨ (23 : Int32) = 20 ∨ (23 : Int32) = 21 from z) (by decide))
        refine cx_vret hE d_Mo_cutTokens_31 rfl ?_
        exact ⟨_, rfl, hh.tr ⟨m3, s3, c3⟩, hcm.tok (by omega), by rw [q_T]; exact q_row, by rw [q_T, List.length_append]; rfl⟩
  refine cx_aload_n (i := 0) hE d_Mo_cutTokens_0 rfl rfl ?_
  refine cx_iconst (v := 0) hE d_Mo_cutTokens_1 (by decide) ?_
  refine cx_putg hE d_Mo_cutTokens_2 f_Mo_161 (by assumption) (Nat.le_of_ble_eq_true rfl) (by first | rfl | exact cx_nr _ _) (by first | rfl | exact cx_fr _ _) (fun G_2 g_2 h_2 => ?_)
  rw [rm_s7] at g_2 h_2
  have m2 := hm.pi g_2
  refine cx_iconst (v := 0) hE d_Mo_cutTokens_5 (by decide) ?_
  refine cx_istore_n (i := 1) hE d_Mo_cutTokens_6 rfl (by decide) ?_
  refine cx_sub [0, 1] rfl ?_
  exact hloop _ 0 [] _ G_2 rfl (by omega) (Nat.le_refl _) rfl ⟨m2.1, m2.2, cx_pc g_2⟩ ⟨fun j a b => if_neg a, fun j a b c => rfl, rfl, fun j h => rfl⟩ (fun i h => absurd h (by show ¬ i < 0; omega)) rfl

/-! THE REFERENCE'S SECOND PASS: names are looked up. -/
theorem tx_lx_len (n : Nat) (c : Nat → Int32) : ∀ m p, (tx_lx n c m p).length ≤ m + 1 := by
  intro m
  induction m with
  | zero => intro p; exact Nat.le_refl _
  | succ m ih =>
    intro p
    unfold tx_lx
    split
    · show 1 ≤ _; omega
    · have := ih (tx_tok n c (tx_bl n c p)).2.2.1
      rw [List.length_cons]; omega
theorem tx_lx_tok {n : Nat} {f : Nat → Int32} : ∀ m p, p ≤ n → ∀ t ∈ tx_lx n (tx_at n f) m p, t.2.1 ≤ n ∧ t = tx_tok n (tx_at n f) t.2.1 := by
  have key : ∀ q, q ≤ n → (tx_tok n (tx_at n f) q).2.1 ≤ n ∧ tx_tok n (tx_at n f) q = tx_tok n (tx_at n f) (tx_tok n (tx_at n f) q).2.1 := by
    intro q hq
    have hF := tx_tokF (f := f) hq
    refine ⟨by omega, ?_⟩
    by_cases z : (tx_tok n (tx_at n f) q).1 = 22
    · have hn : n ≤ q := by
        rcases Nat.lt_or_ge q n with y | y
        · exact absurd z (tx_n22 y)
        · exact y
      have : (tx_tok n (tx_at n f) q).2.1 = q := by omega
      rw [this]
    · rw [(hF.2.2.2 z).2]
  intro m
  induction m with
  | zero =>
    intro p hp t ht
    have hb := tx_bl_le (f := f) hp
    rw [tx_lx, List.mem_singleton] at ht
    subst ht
    exact key _ hb.2.1
  | succ m ih =>
    intro p hp t ht
    have hb := tx_bl_le (f := f) hp
    rw [tx_lx] at ht
    split at ht
    · rw [List.mem_singleton] at ht
      subst ht
      exact key _ hb.2.1
    · rcases List.mem_cons.mp ht with z | z
      · subst z; exact key _ hb.2.1
      · exact ih _ (by have := tx_tokF (f := f) hb.2.1; omega) t z
/-- a word's token -/
theorem rm_nam {n p : Nat} {f : Nat → Int32} (hk : (tx_tok n (tx_at n f) p).1 = 19) : p < n ∧ (tx_tok n (tx_at n f) p).2.2.1 = tx_q n (tx_at n f) p ∧ (tx_tok n (tx_at n f) p).2.2.2.1 = some (tx_tx (tx_at n f) p (tx_q n (tx_at n f) p)) ∧ (∀ i, p ≤ i → i < tx_q n (tx_at n f) p → tx_on (tx_at n f i) = true) ∧ p < tx_q n (tx_at n f) p ∧ tx_q n (tx_at n f) p ≤ n := by
  have hp : p < n := by
    rcases Nat.lt_or_ge p n with z | z
    · exact z
    · rw [tx_tok22 z] at hk
      exact absurd hk (by decide)
  have hx := tx_ex (P := tx_nP n (tx_at n f)) (n := n) tx_nP_n p
  cases h1 : (tx_let (tx_at n f p) || decide (tx_at n f p = 95)) with
  | true =>
    have q := rm_tkW hp h1
    have q1 := tx_q1 hp q.2
    rw [q.1]
    exact ⟨hp, rfl, rfl, fun i a b => (hx.2.1 i a b).2, by omega, q1.2⟩
  | false =>
    exfalso
    cases h2 : tx_dig (tx_at n f p) with
    | true =>
      have q := (rm_tkD hp h2).1
      rw [hk] at q
      have h5 : ∀ q ∈ rm_kl, q.1 = 19 → q.2 = 400 := by decide
      have h6 := h5 _ q rfl
      unfold rm_nk at h6
      rw [hk] at h6
      exact absurd h6 (by decide)
    | false =>
      rw [rm_tkG hp h1 h2] at hk
      have h5 : ∀ q ∈ rm_kl, q.1 = 19 → q.2 = 400 := by decide
      obtain ⟨ch, hch, hc⟩ := tx_ch f hp
      by_cases y : 0 < rm_pair (tx_at n f p) (tx_at n f (p + 1))
      · have q := rm_tkS _ _ y
        have h6 : rm_pair (tx_at n f p) (tx_at n f (p + 1)) = 400 := h5 _ q.1 hk
        unfold rm_pair at h6
        revert h6
        repeat' split
        all_goals decide
      · rw [hc] at y hk
        have q := rm_tkT hch _ y
        have h6 : (if rm_sgn (nI ch) = true then nI ch else (404 : Int32)) = 400 := h5 _ q.1 hk
        split at h6
        · have : nI ch = nI 400 := h6
          rw [nI_eq (by omega) (by omega)] at this
          omega
        · exact absurd h6 (by decide)
/-- what the second pass knows of the tokens -/
def rm_T (n : Nat) (T : List tx_Tk) (M : rm_M) : Prop := M.1 2 = nI n ∧ n ≤ 10240 ∧ T = tx_lex n (tx_at n (M.2.1 53)) ∧ rm_row M T ∧ (∀ j, fits .byte (.int (M.2.1 53 j)) = true) ∧ ∀ j, 10240 < j → tx_isU (M.2.1 4 j) = false
section RMC
variable {n : Nat} {T : List tx_Tk} {M : rm_M}
theorem rm_T.len (h : rm_T n T M) : T.length ≤ n + 1 := by
  rw [h.2.2.1]
  exact tx_lx_len _ _ _ _
theorem rm_T.tok (h : rm_T n T M) {i : Nat} (hi : i < T.length) : (tx_ta T i).2.1 ≤ n ∧ tx_ta T i = tx_tok n (tx_at n (M.2.1 53)) (tx_ta T i).2.1 := by
  have hm : tx_ta T i ∈ tx_lx n (tx_at n (M.2.1 53)) n 0 := by
    have e : tx_ta T i = T[i] := by
      unfold tx_ta
      rw [List.getD_eq_getElem?_getD, List.getElem?_eq_getElem hi]; rfl
    rw [e]
    have hT := h.2.2.1
    unfold tx_lex at hT
    rw [← hT]
    exact List.getElem_mem hi
  exact tx_lx_tok n 0 (by omega) _ hm
theorem rm_T.end (h : rm_T n T M) {i : Nat} (hi : i < T.length) (h1 : tx_ki T i ≠ 22) (h2 : tx_ki T i ≠ 23) : i + 1 < T.length := by
  have hT := h.2.2.1
  unfold tx_lex at hT
  have e : T[i]? = some (tx_ta T i) := by
    unfold tx_ta
    rw [List.getD_eq_getElem?_getD, List.getElem?_eq_getElem hi]; rfl
  have q := tx_lx_end (n := n) (f := M.2.1 53) n 0 (by omega) (by omega) i (tx_ta T i) (by rw [← hT]; exact e) (fun z => z.elim h1 h2)
  rw [← hT] at q
  exact q
theorem rm_T.tk (h : rm_T n T M) : rm_tk M T := ⟨by have := h.len; have := h.2.1; omega, fun i hi => ⟨(h.2.2.2.1 i hi).1, (h.2.2.2.1 i hi).2.1⟩, fun i hi h1 h2 => h.end hi h1 h2⟩
theorem rm_T.to {M' : rm_M} (h : rm_T n T M) (h2 : M'.1 2 = M.1 2) (hr : ∀ j, j = 4 ∨ j = 5 ∨ j = 6 ∨ j = 53 → M'.2.1 j = M.2.1 j) : rm_T n T M' := by
  unfold rm_T rm_row at h ⊢
  rw [h2, hr 4 (by simp), hr 5 (by simp), hr 6 (by simp), hr 53 (by simp)]
  exact h
end RMC
set_option maxRecDepth 100000 in
theorem c_Mo_sameToken {k : cx_K} {l : Launch} {G : cx_G} {mo : Nat} {P : Nat → Nat} {M : rm_M} (hm : rm_R k G mo P M) {n : Nat} {T : List tx_Tk} (hT : rm_T n T M) {x y : Nat} (hx : x < T.length) (kx : tx_ki T x = 19) (hy : y < T.length) (ky : tx_ki T y = 19)  : cx_Sp k l m_Mo_sameToken 0 [.ref mo, .int (nI x), .int (nI y)] G (cx_rd (some (.int (cx_b (decide ((tx_ta T x).2.2.2.1 = (tx_ta T y).2.2.2.1))))) G) := by
  intro E hE
  have hmo := hm.1
  have h5 := hm.i 5 rfl
  have h6 := hm.i 6 rfl
  have h53 := hm.b 53 rfl
  have hl := hT.len
  have hn := hT.2.1
  have tx := hT.tok hx
  have gx : (tx_tok n (tx_at n (M.2.1 53)) (tx_ta T x).2.1).1 = 19 := by rw [← tx.2]; exact kx
  have nx := rm_nam gx
  rw [← tx.2] at nx
  have rx := hT.2.2.2.1 x hx
  have bx : M.2.1 5 x = nI (tx_ta T x).2.1 := rx.2.1
  have ex : M.2.1 6 x = nI (tx_ta T x).2.2.1 := rx.2.2 (Or.inl kx)
  have ty := hT.tok hy
  have gy : (tx_tok n (tx_at n (M.2.1 53)) (tx_ta T y).2.1).1 = 19 := by rw [← ty.2]; exact ky
  have ny := rm_nam gy
  rw [← ty.2] at ny
  have ry := hT.2.2.2.1 y hy
  have eb_y : M.2.1 5 y = nI (tx_ta T y).2.1 := ry.2.1
  have ey : M.2.1 6 y = nI (tx_ta T y).2.2.1 := ry.2.2 (Or.inl ky)
  generalize hp : (tx_ta T x).2.1 = p at *
  generalize hq : (tx_ta T y).2.1 = q at *
  have hpx : (tx_ta T x).2.2.1 = tx_q n (tx_at n (M.2.1 53)) p := nx.2.1
  have hqy : (tx_ta T y).2.2.1 = tx_q n (tx_at n (M.2.1 53)) q := ny.2.1
  rw [hpx] at ex
  rw [hqy] at ey
  generalize tx_q n (tx_at n (M.2.1 53)) p = pe at *
  generalize tx_q n (tx_at n (M.2.1 53)) q = qe at *
  have raw : ∀ i, tx_on ((tx_at n (M.2.1 53)) i) = true → (tx_at n (M.2.1 53)) i = M.2.1 53 i := fun i hi => by
    have h1 := tx_onn hi
    have h2 := tx_on_low hi
    unfold tx_at at h2 ⊢
    rw [if_pos h1] at h2 ⊢
    exact tx_low (hT.2.2.2.2.1 i) h2
  have hfin : ∀ b, b = (decide ((tx_ta T x).2.2.2.1 = (tx_ta T y).2.2.2.1)) → cx_V E 103 [(3, false, .int (cx_b b)), (0, false, .ref mo), (1, false, .int (nI x)), (2, false, .int (nI y))] [] G := by
    intro b hb
    refine cx_iload_n (i := 3) hE d_Mo_sameToken_103 rfl rfl ?_
    refine cx_iret hE d_Mo_sameToken_104 rfl (cx_bz _) ?_
    rw [hb]
    exact ⟨rfl, rfl⟩
  have htxt : pe - p = qe - q → ((rm_al (tx_at n (M.2.1 53)) p pe (tx_tx (tx_at n (M.2.1 53)) q qe) (pe - p) = true) ↔ (tx_ta T x).2.2.2.1 = (tx_ta T y).2.2.2.1) := by
    intro hl2
    rw [nx.2.2.1, ny.2.2.1, rm_al_i]
    refine ⟨fun h => ?_, fun h => ?_⟩
    · congr 1
      exact rm_TW (by rw [tx_tx_len, hl2]) (fun u hu => (h u (by rw [tx_tx_len] at hu; omega)).2)
    · have h9 := rm_WT (Option.some.inj h)
      exact fun u hu => h9.2 u (by rw [h9.1]; exact hu)
  have hloop : pe - p = qe - q → ∀ (d t : Nat), pe - p - t = d → t ≤ pe - p → cx_V E 38 [(4, false, .int (nI t)), (3, false, .int (cx_b (rm_al (tx_at n (M.2.1 53)) p pe (tx_tx (tx_at n (M.2.1 53)) q qe) t))), (0, false, .ref mo), (1, false, .int (nI x)), (2, false, .int (nI y))] [] G := by
    intro hl2 d
    induction d using Nat.strongRecOn with
    | ind d ih =>
      intro t hd ht
      refine cx_iload_n (i := 3) hE d_Mo_sameToken_38 rfl rfl ?_
      refine cx_if_eq (tgt := 103)  hE d_Mo_sameToken_39 (by decide) (fun c_39 => ?_) (fun c_39 => ?_)
      · have q_39 := cx_b0.mp c_39
        have q_f : (rm_al (tx_at n (M.2.1 53)) p pe (tx_tx (tx_at n (M.2.1 53)) q qe) t) = (decide ((tx_ta T x).2.2.2.1 = (tx_ta T y).2.2.2.1)) := by
          rw [q_39]
          symm
          refine decide_eq_false (fun z => ?_)
          have z1 := (rm_al_i _).mp ((htxt hl2).mpr z)
          have z2 := (rm_al_i t).mpr (fun u hu => z1 u (by omega))
          rw [q_39] at z2
          cases z2
        refine cx_sub [1, 2, 3, 4] rfl ?_
        exact hfin _ q_f
      · have q_39 := cx_bn.mp c_39
        refine cx_iload hE d_Mo_sameToken_42 rfl ?_
        refine cx_aload_n (i := 0) hE d_Mo_sameToken_44 rfl rfl ?_
        refine cx_get hE d_Mo_sameToken_45 f_Mo_22 (by assumption) (by rfl) ?_
        refine cx_iload_n (i := 1) hE d_Mo_sameToken_48 rfl rfl ?_
        refine cx_iald 1 hE d_Mo_sameToken_49 rfl (by assumption) (vp_in_nI (by show _ < 65540; omega) (by show 65540 < 2147483648; omega)) ?_
        rw [nI_clamp (by omega), ex]
        refine cx_aload_n (i := 0) hE d_Mo_sameToken_50 rfl rfl ?_
        refine cx_get hE d_Mo_sameToken_51 f_Mo_19 (by assumption) (by rfl) ?_
        refine cx_iload_n (i := 1) hE d_Mo_sameToken_54 rfl rfl ?_
        refine cx_iald 1 hE d_Mo_sameToken_55 rfl (by assumption) (vp_in_nI (by show _ < 65540; omega) (by show 65540 < 2147483648; omega)) ?_
        rw [nI_clamp (by omega), bx]
        refine cx_isub hE d_Mo_sameToken_56 ?_
        rw [pk_sub (by omega)]
        refine cx_icmp_ge (tgt := 103)  hE d_Mo_sameToken_57 (by decide) (fun c_57 => ?_) (fun c_57 => ?_)
        · have q_57 : t = pe - p := by have := nJ_le (by omega) c_57; omega
          have q_f : (rm_al (tx_at n (M.2.1 53)) p pe (tx_tx (tx_at n (M.2.1 53)) q qe) t) = (decide ((tx_ta T x).2.2.2.1 = (tx_ta T y).2.2.2.1)) := by
            rw [q_39]
            symm
            refine decide_eq_true ((htxt hl2).mp ?_)
            rw [← q_57]
            exact q_39
          refine cx_sub [1, 2, 3, 4] rfl ?_
          exact hfin _ q_f
        · have q_57 := nJ_lt (by omega) c_57
          refine cx_aload_n (i := 0) hE d_Mo_sameToken_60 rfl rfl ?_
          refine cx_get hE d_Mo_sameToken_61 f_Mo_116 (by assumption) (by rfl) ?_
          refine cx_aload_n (i := 0) hE d_Mo_sameToken_64 rfl rfl ?_
          refine cx_get hE d_Mo_sameToken_65 f_Mo_19 (by assumption) (by rfl) ?_
          refine cx_iload_n (i := 1) hE d_Mo_sameToken_68 rfl rfl ?_
          refine cx_iald 1 hE d_Mo_sameToken_69 rfl (by assumption) (vp_in_nI (by show _ < 65540; omega) (by show 65540 < 2147483648; omega)) ?_
          rw [nI_clamp (by omega), bx]
          refine cx_iload hE d_Mo_sameToken_70 rfl ?_
          refine cx_iadd hE d_Mo_sameToken_72 ?_
          rw [nI_add]
          refine cx_bald 0 hE d_Mo_sameToken_73 rfl (by assumption) (vp_in_nI (by show _ < 65536; omega) (by show 65536 < 2147483648; omega)) ?_
          rw [nI_clamp (by omega)]
          refine cx_aload_n (i := 0) hE d_Mo_sameToken_74 rfl rfl ?_
          refine cx_get hE d_Mo_sameToken_75 f_Mo_116 (by assumption) (by rfl) ?_
          refine cx_aload_n (i := 0) hE d_Mo_sameToken_78 rfl rfl ?_
          refine cx_get hE d_Mo_sameToken_79 f_Mo_19 (by assumption) (by rfl) ?_
          refine cx_iload_n (i := 2) hE d_Mo_sameToken_82 rfl rfl ?_
          refine cx_iald 1 hE d_Mo_sameToken_83 rfl (by assumption) (vp_in_nI (by show _ < 65540; omega) (by show 65540 < 2147483648; omega)) ?_
          rw [nI_clamp (by omega), eb_y]
          refine cx_iload hE d_Mo_sameToken_84 rfl ?_
          refine cx_iadd hE d_Mo_sameToken_86 ?_
          rw [nI_add]
          refine cx_bald 0 hE d_Mo_sameToken_87 rfl (by assumption) (vp_in_nI (by show _ < 65536; omega) (by show 65536 < 2147483648; omega)) ?_
          rw [nI_clamp (by omega)]
          refine cx_icmp_ne (tgt := 95)  hE d_Mo_sameToken_88 (by decide) (fun c_88 => ?_) (fun c_88 => ?_)
          · have q_a : rm_al (tx_at n (M.2.1 53)) p pe (tx_tx (tx_at n (M.2.1 53)) q qe) (t + 1) = false := by
              show (rm_al (tx_at n (M.2.1 53)) p pe (tx_tx (tx_at n (M.2.1 53)) q qe) t && _) = false
              rw [decide_eq_false (fun z => c_88 (by have z2 := z.2; rw [tx_tx_get (by omega), raw _ (nx.2.2.2.1 _ (by omega) (by omega)), raw _ (ny.2.2.2.1 _ (by omega) (by omega))] at z2; exact z2)), Bool.and_false]
            refine cx_iconst (v := 0) hE d_Mo_sameToken_95 (by decide) ?_
            refine cx_istore_n (i := 3) hE d_Mo_sameToken_96 rfl (by decide) ?_
            refine cx_iinc (v := nI (t + 1)) hE d_Mo_sameToken_97 rfl (nI_1 _) (by decide) ?_
            refine cx_goto (tgt := 38) hE d_Mo_sameToken_100 (by decide) ?_
            refine cx_sub [0, 1, 2, 3, 4] rfl ?_
            have z := ih (pe - p - (t + 1)) (by omega) (t + 1) rfl (by omega)
            rw [q_a] at z
            exact z
          · have q_a : rm_al (tx_at n (M.2.1 53)) p pe (tx_tx (tx_at n (M.2.1 53)) q qe) (t + 1) = true := by
              show (rm_al (tx_at n (M.2.1 53)) p pe (tx_tx (tx_at n (M.2.1 53)) q qe) t && _) = true
              rw [q_39, decide_eq_true ⟨by omega, by rw [tx_tx_get (by omega), raw _ (nx.2.2.2.1 _ (by omega) (by omega)), raw _ (ny.2.2.2.1 _ (by omega) (by omega))]; exact c_88⟩]; rfl
            refine cx_iconst (v := 1) hE d_Mo_sameToken_91 (by decide) ?_
            refine cx_goto (tgt := 96) hE d_Mo_sameToken_92 (by decide) ?_
            refine cx_istore_n (i := 3) hE d_Mo_sameToken_96 rfl (by decide) ?_
            refine cx_iinc (v := nI (t + 1)) hE d_Mo_sameToken_97 rfl (nI_1 _) (by decide) ?_
            refine cx_goto (tgt := 38) hE d_Mo_sameToken_100 (by decide) ?_
            refine cx_sub [0, 1, 2, 3, 4] rfl ?_
            have z := ih (pe - p - (t + 1)) (by omega) (t + 1) rfl (by omega)
            rw [q_a] at z
            exact z
  refine cx_aload_n (i := 0) hE d_Mo_sameToken_0 rfl rfl ?_
  refine cx_get hE d_Mo_sameToken_1 f_Mo_22 (by assumption) (by rfl) ?_
  refine cx_iload_n (i := 1) hE d_Mo_sameToken_4 rfl rfl ?_
  refine cx_iald 1 hE d_Mo_sameToken_5 rfl (by assumption) (vp_in_nI (by show _ < 65540; omega) (by show 65540 < 2147483648; omega)) ?_
  rw [nI_clamp (by omega), ex]
  refine cx_aload_n (i := 0) hE d_Mo_sameToken_6 rfl rfl ?_
  refine cx_get hE d_Mo_sameToken_7 f_Mo_19 (by assumption) (by rfl) ?_
  refine cx_iload_n (i := 1) hE d_Mo_sameToken_10 rfl rfl ?_
  refine cx_iald 1 hE d_Mo_sameToken_11 rfl (by assumption) (vp_in_nI (by show _ < 65540; omega) (by show 65540 < 2147483648; omega)) ?_
  rw [nI_clamp (by omega), bx]
  refine cx_isub hE d_Mo_sameToken_12 ?_
  rw [pk_sub (by omega)]
  refine cx_aload_n (i := 0) hE d_Mo_sameToken_13 rfl rfl ?_
  refine cx_get hE d_Mo_sameToken_14 f_Mo_22 (by assumption) (by rfl) ?_
  refine cx_iload_n (i := 2) hE d_Mo_sameToken_17 rfl rfl ?_
  refine cx_iald 1 hE d_Mo_sameToken_18 rfl (by assumption) (vp_in_nI (by show _ < 65540; omega) (by show 65540 < 2147483648; omega)) ?_
  rw [nI_clamp (by omega), ey]
  refine cx_aload_n (i := 0) hE d_Mo_sameToken_19 rfl rfl ?_
  refine cx_get hE d_Mo_sameToken_20 f_Mo_19 (by assumption) (by rfl) ?_
  refine cx_iload_n (i := 2) hE d_Mo_sameToken_23 rfl rfl ?_
  refine cx_iald 1 hE d_Mo_sameToken_24 rfl (by assumption) (vp_in_nI (by show _ < 65540; omega) (by show 65540 < 2147483648; omega)) ?_
  rw [nI_clamp (by omega), eb_y]
  refine cx_isub hE d_Mo_sameToken_25 ?_
  rw [pk_sub (by omega)]
  refine cx_icmp_ne (tgt := 33)  hE d_Mo_sameToken_26 (by decide) (fun c_26 => ?_) (fun c_26 => ?_)
  · have q_26 : ¬ pe - p = qe - q := fun z => c_26 (by rw [z])
    have q_f : false = (decide ((tx_ta T x).2.2.2.1 = (tx_ta T y).2.2.2.1)) := by
      symm
      refine decide_eq_false (fun z => q_26 ?_)
      rw [nx.2.2.1, ny.2.2.1] at z
      have := congrArg List.length (Option.some.inj z)
      rw [tx_tx_len, tx_tx_len] at this
      exact this
    refine cx_iconst (v := 0) hE d_Mo_sameToken_33 (by decide) ?_
    refine cx_istore_n (i := 3) hE d_Mo_sameToken_34 rfl (by decide) ?_
    refine cx_iconst (v := 0) hE d_Mo_sameToken_35 (by decide) ?_
    refine cx_istore hE d_Mo_sameToken_36 (by decide) ?_
    refine cx_iload_n (i := 3) hE d_Mo_sameToken_38 rfl rfl ?_
    refine cx_if_eq (tgt := 103)  hE d_Mo_sameToken_39 (by decide) (fun c_39 => ?_) (fun c_39 => ?_)
    · refine cx_sub [1, 2, 3, 4] rfl ?_
      exact hfin _ q_f
    · exact absurd rfl c_39
      -- end
  · have q_26 := (nI_eq (by omega) (by omega)).mp c_26
    refine cx_iconst (v := 1) hE d_Mo_sameToken_29 (by decide) ?_
    refine cx_goto (tgt := 34) hE d_Mo_sameToken_30 (by decide) ?_
    refine cx_istore_n (i := 3) hE d_Mo_sameToken_34 rfl (by decide) ?_
    refine cx_iconst (v := 0) hE d_Mo_sameToken_35 (by decide) ?_
    refine cx_istore hE d_Mo_sameToken_36 (by decide) ?_
    refine cx_sub [0, 1, 2, 3, 4] rfl ?_
    exact hloop q_26 _ 0 rfl (by omega)
/-- the first of the locals lo .. that bears the name of token x -/
def rm_sN (T : List tx_Tk) (g : Nat → Int32) (x lo : Nat) : Nat → Option Nat
  | 0 => none
  | d + 1 => if (tx_ta T (g lo).toNatClampNeg).2.2.2.1 = (tx_ta T x).2.2.2.1 then some lo else rm_sN T g x (lo + 1) d
def rm_on (v : Option Nat) : Int32 := match v with
  | none => -1
  | some k => nI k
set_option maxRecDepth 100000 in
theorem c_Mo_signalNamed {k : cx_K} {l : Launch} {G : cx_G} {mo : Nat} {P : Nat → Nat} {M : rm_M} (hm : rm_R k G mo P M) {n : Nat} {T : List tx_Tk} (hT : rm_T n T M) {x lo hi : Nat} (hx : x < T.length) (kx : tx_ki T x = 19) (hlo : lo ≤ hi) (hhi : hi ≤ 11000) (hN : ∀ q, lo ≤ q → q < hi → ∃ y, M.2.1 19 q = nI y ∧ y < T.length ∧ tx_ki T y = 19)  : cx_Sp k l m_Mo_signalNamed 1 [.ref mo, .int (nI x), .int (nI lo), .int (nI hi)] G (cx_rd (some (.int (rm_on (rm_sN T (M.2.1 19) x lo (hi - lo))))) G) := by
  intro E hE
  have hmo := hm.1
  have h19 := hm.i 19 rfl
  have hl := hT.len
  have hn := hT.2.1
  have hloop : ∀ (d q : Nat), hi - q = d → lo ≤ q → q ≤ hi → rm_sN T (M.2.1 19) x q (hi - q) = rm_sN T (M.2.1 19) x lo (hi - lo) → cx_V E 3 [(4, false, .int (nI q)), (0, false, .ref mo), (1, false, .int (nI x)), (2, false, .int (nI lo)), (3, false, .int (nI hi))] [] G := by
    intro d
    induction d using Nat.strongRecOn with
    | ind d ih =>
      intro q hd hq1 hq2 hr
      refine cx_iload hE d_Mo_signalNamed_3 rfl ?_
      refine cx_iload_n (i := 3) hE d_Mo_signalNamed_5 rfl rfl ?_
      refine cx_icmp_ge (tgt := 33)  hE d_Mo_signalNamed_6 (by decide) (fun c_6 => ?_) (fun c_6 => ?_)
      · have q_6 : q = hi := by have := nJ_le (by omega) c_6; omega
        subst q_6
        rw [Nat.sub_self] at hr
        refine cx_iconst (v := -1) hE d_Mo_signalNamed_33 (by decide) ?_
        refine cx_iret hE d_Mo_signalNamed_34 rfl rfl ?_
        rw [← hr]
        exact ⟨rfl, rfl⟩
      · have q_6 := nJ_lt (by omega) c_6
        have q_e : hi - q = (hi - (q + 1)) + 1 := by omega
        refine cx_aload_n (i := 0) hE d_Mo_signalNamed_9 rfl rfl ?_
        refine cx_aload_n (i := 0) hE d_Mo_signalNamed_10 rfl rfl ?_
        refine cx_get hE d_Mo_signalNamed_11 f_Mo_40 (by assumption) (by rfl) ?_
        refine cx_iload hE d_Mo_signalNamed_14 rfl ?_
        refine cx_iald 1 hE d_Mo_signalNamed_16 rfl (by assumption) (vp_in_nI (by show _ < 11000; omega) (by show 11000 < 2147483648; omega)) ?_
        rw [nI_clamp (by omega)]
        obtain ⟨y, hy1, hy2, hy3⟩ := hN q (by omega) q_6
        rw [hy1]
        refine cx_iload_n (i := 1) hE d_Mo_signalNamed_17 rfl rfl ?_
        refine cx_invV1 hE d_Mo_signalNamed_18 l_Mo_262 (by assumption) (c_Mo_sameToken (x := y) (y := x) hm hT hy2 hy3 hx kx) rfl (by omega) (Nat.le_of_ble_eq_true rfl) n_Mo_sameToken (by first | rfl | (simp only [List.map_cons, List.map_nil, cx_rfc]; rfl)) ?_
        refine cx_if_eq (tgt := 27)  hE d_Mo_signalNamed_21 (by decide) (fun c_21 => ?_) (fun c_21 => ?_)
        · have q_21 := of_decide_eq_false (cx_b0.mp c_21)
          have q_n : rm_sN T (M.2.1 19) x (q + 1) (hi - (q + 1)) = rm_sN T (M.2.1 19) x lo (hi - lo) := by
            rw [← hr, q_e, rm_sN, if_neg (by rw [hy1, nI_clamp (by omega)]; exact q_21)]
          refine cx_iinc (v := nI (q + 1)) hE d_Mo_signalNamed_27 rfl (nI_1 _) (by decide) ?_
          refine cx_goto (tgt := 3) hE d_Mo_signalNamed_30 (by decide) ?_
          refine cx_sub [0, 1, 2, 3, 4] rfl ?_
          exact ih (hi - (q + 1)) (by omega) (q + 1) rfl (by omega) (by omega) q_n
        · have q_21 := of_decide_eq_true (cx_bn.mp c_21)
          have q_n : rm_sN T (M.2.1 19) x lo (hi - lo) = some q := by
            rw [← hr, q_e, rm_sN, if_pos (by rw [hy1, nI_clamp (by omega)]; exact q_21)]
          refine cx_iload hE d_Mo_signalNamed_24 rfl ?_
          refine cx_iret hE d_Mo_signalNamed_26 rfl rfl ?_
          rw [q_n]
          exact ⟨rfl, rfl⟩
  refine cx_iload_n (i := 2) hE d_Mo_signalNamed_0 rfl rfl ?_
  refine cx_istore hE d_Mo_signalNamed_1 (by decide) ?_
  refine cx_sub [0, 1, 2, 3, 4] rfl ?_
  exact hloop _ lo rfl (Nat.le_refl _) hlo rfl
set_option maxRecDepth 100000 in
theorem c_Mo_here {k : cx_K} {l : Launch} {G : cx_G} {mo : Nat} {P : Nat → Nat} {M : rm_M} (hm : rm_R k G mo P M) {n : Nat} {T : List tx_Tk} (hT : rm_T n T M) {x lo hi mc : Nat} (hx : x < T.length) (kx : tx_ki T x = 19) (hmc : M.1 12 = nI mc) (hmc2 : mc < 3600) (h14 : M.2.1 14 mc = nI lo) (h18 : M.1 18 = nI hi) (hlo : lo ≤ hi) (hhi : hi ≤ 11000) (hN : ∀ q, lo ≤ q → q < hi → ∃ y, M.2.1 19 q = nI y ∧ y < T.length ∧ tx_ki T y = 19)  : cx_Sp k l m_Mo_here 2 [.ref mo, .int (nI x)] G (cx_rd (some (.int (rm_on (rm_sN T (M.2.1 19) x lo (hi - lo))))) G) := by
  intro E hE
  have hmo := hm.1
  have h14r := hm.i 14 rfl
  refine cx_aload_n (i := 0) hE d_Mo_here_0 rfl rfl ?_
  refine cx_iload_n (i := 1) hE d_Mo_here_1 rfl rfl ?_
  refine cx_aload_n (i := 0) hE d_Mo_here_2 rfl rfl ?_
  refine cx_get hE d_Mo_here_3 f_Mo_28 (by assumption) (by rfl) ?_
  refine cx_aload_n (i := 0) hE d_Mo_here_6 rfl rfl ?_
  refine cx_get hE d_Mo_here_7 f_Mo_266 (by assumption) (by rfl) ?_
  rw [hmc]
  refine cx_iald 1 hE d_Mo_here_10 rfl (by assumption) (vp_in_nI (by show _ < 3601; omega) (by show 3601 < 2147483648; omega)) ?_
  rw [nI_clamp (by omega), h14]
  refine cx_aload_n (i := 0) hE d_Mo_here_11 rfl rfl ?_
  refine cx_get hE d_Mo_here_12 f_Mo_269 (by assumption) (by rfl) ?_
  rw [h18]
  refine cx_invV1 hE d_Mo_here_15 l_Mo_272 (by assumption) (c_Mo_signalNamed hm hT hx kx hlo hhi hN) rfl (by omega) (Nat.le_of_ble_eq_true rfl) n_Mo_signalNamed (by first | rfl | (simp only [List.map_cons, List.map_nil, cx_rfc]; rfl)) ?_
  refine cx_iret hE d_Mo_here_18 rfl rfl ?_
  exact ⟨rfl, rfl⟩

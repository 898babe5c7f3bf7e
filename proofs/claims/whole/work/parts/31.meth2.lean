/-! MEANING: its methods, second half. -/
section TXB
variable {t : tx_Tk} {x y : Int32} {s : tx_S}
theorem tx_bin_and (h : t.1 = 9766 ∨ t.1 = 31868) : tx_bin t x y s = (1, tx_spend (tx_imax x y) s) := if_pos h
theorem tx_bin_sh (h : t.1 = 15420 ∨ t.1 = 15934) : tx_bin t x y s = (x, tx_spend (3 * x + y) s) := by
  unfold tx_bin
  rw [if_neg (by rcases h with h | h <;> rw [h] <;> decide), if_pos h]
theorem tx_bin_mul (h : t.1 = 42) : tx_bin t x y s = (x, tx_spend (tx_imax x y * tx_imax x y) (tx_ck (decide (x = y)) 30 (nI t.2.1) s)) := by
  unfold tx_bin
  rw [if_neg (by rw [h]; decide), if_neg (by rw [h]; decide), if_pos h]
theorem tx_bin_add (h : t.1 = 43 ∨ t.1 = 45 ∨ t.1 = 38 ∨ t.1 = 124 ∨ t.1 = 94) : tx_bin t x y s = (x, tx_spend (tx_imax x y) (tx_ck (decide (x = y)) 30 (nI t.2.1) s)) := by
  unfold tx_bin
  rw [if_neg (by rcases h with h | h | h | h | h <;> rw [h] <;> decide), if_neg (by rcases h with h | h | h | h | h <;> rw [h] <;> decide), if_neg (by rcases h with h | h | h | h | h <;> rw [h] <;> decide), if_pos h]
theorem tx_bin_oth (h1 : ¬ t.1 = 38) (h2 : ¬ t.1 = 42) (h3 : ¬ t.1 = 43) (h4 : ¬ t.1 = 45) (h5 : ¬ t.1 = 94) (h6 : ¬ t.1 = 124) (h7 : ¬ t.1 = 9766) (h8 : ¬ t.1 = 15420) (h9 : ¬ t.1 = 15934) (h10 : ¬ t.1 = 31868) : tx_bin t x y s = (1, tx_spend (tx_imax x y) (tx_ck (decide (x = y)) 30 (nI t.2.1) s)) := by
  unfold tx_bin
  rw [if_neg (fun z => z.elim h7 h10), if_neg (fun z => z.elim h8 h9), if_neg h2, if_neg (fun z => by rcases z with z | z | z | z | z; exact h3 z; exact h4 z; exact h1 z; exact h6 z; exact h5 z)]
end TXB
def tx_u0 : tx_U := (none, 0, [], 0, 0, 0, 0, 0, 0)
/-- the module that is being read -/
def tx_S.uu (s : tx_S) : tx_U := s.2.2.1.getD tx_u0
def tx_drv (r : tx_N) : tx_N := (r.1, r.2.1, r.2.2.1, r.2.2.2.1, r.2.2.2.2.1, true, r.2.2.2.2.2.2)
def tx_sin (v : Int32) (r : tx_N) : tx_N := (r.1, r.2.1, r.2.2.1, r.2.2.2.1, r.2.2.2.2.1, r.2.2.2.2.2.1, v, r.2.2.2.2.2.2.2)
def tx_bgn (v : Int64) (r : tx_N) : tx_N := (r.1, r.2.1, r.2.2.1, r.2.2.2.1, v, r.2.2.2.2.2)
def tx_drive (q : Nat) (t : tx_Tk) (s : tx_S) : tx_S := (tx_ck (!(s.rc q).2.2.2.2.2.1) 31 (nI t.2.1) s).mn s.2.1.length q tx_drv
def tx_asg (s : tx_S) (t : tx_Tk) : Option Nat × tx_S := match s.da t.2.2.2.1 with
  | none => (none, tx_ck false 22 (nI t.2.1) s)
  | some q => if (s.rc q).2.1 = 1 ∨ (s.rc q).2.1 = 3 then (some q, tx_drive q t (tx_ck true 22 (nI t.2.1) s)) else (none, tx_ck false 22 (nI t.2.1) s)
def tx_setr (s : tx_S) (t : tx_Tk) : Option Nat × tx_S := match s.da t.2.2.2.1 with
  | none => (none, tx_ck false 22 (nI t.2.1) s)
  | some q => if (s.rc q).2.1 = 2 ∨ (s.rc q).2.1 = 4 then (some q, (tx_ck (decide ((s.rc q).2.2.2.2.2.2.1 = 0 ∨ (s.rc q).2.2.2.2.2.2.1 = s.uu.2.2.2.2.2.1)) 32 (nI t.2.1) (tx_ck true 22 (nI t.2.1) s)).mn s.2.1.length q (tx_sin s.uu.2.2.2.2.2.1)) else (none, tx_ck false 22 (nI t.2.1) s)
def tx_beg (q : Nat) (t : tx_Tk) (s : tx_S) : tx_S := (tx_ck (decide ((s.rc q).2.2.1 = t.2.2.2.2.1)) 30 (nI t.2.1) s).mn s.2.1.length q (tx_bgn t.2.2.2.2.2)
theorem tx_ck_rc (right : Bool) (code place : Int32) (s : tx_S) (q : Nat) : (tx_ck right code place s).rc q = s.rc q := by
  unfold tx_S.rc
  rw [tx_ck_all]
theorem tx_ck_a (right : Bool) (code place : Int32) (s : tx_S) : (tx_ck right code place s).all = s.all := by
  unfold tx_S.all
  rw [tx_ck_all]
theorem tx_ck_l (right : Bool) (code place : Int32) (s : tx_S) : (tx_ck right code place s).2.1.length = s.2.1.length := by rw [tx_ck_all]
theorem tx_ck_true (code place : Int32) (s : tx_S) : tx_ck true code place s = s := if_neg (fun z => absurd z.1 (by decide))
set_option maxRecDepth 100000 in
theorem c_Me_binary {k : cx_K} {l : Launch} {G : cx_G} {F : Nat → Prop} {A : tx_A} {s : tx_S} {u : tx_U} (hu : s.2.2.1 = some u) {a : Nat} {t : tx_Tk} (ht : tx_tw G A a t) {x y : Int32} (hm : tx_m k F G A s)  : cx_Sp k l m_Me_binary 2 [.ref A.me, .ref a, .int x, .int y] G (tx_mq k F G A (tx_bin t x y s).2 (some (.int (tx_bin t x y s).1))) := by
  intro E hE
  obtain ⟨x0, hme, hxu⟩ := hm.2.1
  obtain ⟨nx, ht0, hwf⟩ := id ht
  have hta : G.1 a = some (.inr (7, [.int t.1, .int (nI t.2.1), .int (nI t.2.2.1), va_rf nx, va_rf (A.w t.2.2.2.1), .int t.2.2.2.2.1, .long t.2.2.2.2.2])) := ht0
  refine cx_iload_n (i := 2) hE d_Me_binary_0 rfl rfl ?_
  refine cx_iload_n (i := 3) hE d_Me_binary_1 rfl rfl ?_
  refine cx_mmax hE d_Me_binary_2 (in_5 (List.mem_of_getElem? (i := 88) rfl)) (in_3 (List.mem_of_getElem? (i := 55) rfl)) (in_1 (List.mem_of_getElem? (i := 12) rfl)) (in_3 (List.mem_of_getElem? (i := 56) rfl)) (by omega) (Nat.le_of_ble_eq_true rfl) ?_
  show cx_V E _ _ [.int (tx_imax x y)] G
  refine cx_istore hE d_Me_binary_5 (by decide) ?_
  refine cx_aload_n (i := 1) hE d_Me_binary_7 rfl rfl ?_
  refine cx_get hE d_Me_binary_8 f_Me_138 (by assumption) (by rfl) ?_
  by_cases e_11_38 : t.1 = 38
  · refine cx_lookup (tgt := 153) hE d_Me_binary_11 (by decide) (by first | (rw [e_11_38]; done) | (rw [e_11_38]; rfl)) (by decide) ?_
    refine cx_aload_n (i := 0) hE d_Me_binary_153 rfl rfl ?_
    refine cx_get hE d_Me_binary_154 f_Me_32 (by assumption) (by rfl) ?_
    refine cx_iload_n (i := 2) hE d_Me_binary_157 rfl rfl ?_
    refine cx_iload_n (i := 3) hE d_Me_binary_158 rfl rfl ?_
    refine cx_icmp_ne (tgt := 166)  hE d_Me_binary_159 (by decide) (fun c_159 => ?_) (fun c_159 => ?_)
    · refine cx_iconst (v := 0) hE d_Me_binary_166 (by decide) ?_
      refine cx_bipush (v := 30) hE d_Me_binary_167 (by decide) ?_
      refine cx_aload_n (i := 1) hE d_Me_binary_169 rfl rfl ?_
      refine cx_get hE d_Me_binary_170 f_Me_40 (by assumption) (by rfl) ?_
      refine cx_invV hE d_Me_binary_173 l_Me_44 hm.1 (c_ck (right := false) (code := 30) (place := (nI t.2.1)) hm) rfl (by omega) (Nat.le_of_ble_eq_true rfl) n_Ve_check (by rfl) (fun v G1 q => ?_) (fun a G1 q => by cases q.1)
      obtain ⟨q0, hm1, hs1, hc1⟩ := q
      cases q0
      show cx_V E _ _ [] G1
      refine cx_aload_n (i := 0) hE d_Me_binary_176 rfl rfl ?_
      refine cx_iload hE d_Me_binary_177 rfl ?_
      obtain ⟨x9, hme9, -⟩ := hm1.2.1
      refine cx_invV hE d_Me_binary_179 l_Me_128 hme9 (c_Me_spend (c := (tx_imax x y)) (u := u) (by rw [tx_ck_all]; exact hu) hm1) rfl (by omega) (Nat.le_of_ble_eq_true rfl) n_Me_spend (by rfl) (fun v G2 q => ?_) (fun a G2 q => by cases q.1)
      obtain ⟨q0, hm2, hs2, hc2⟩ := q
      cases q0
      show cx_V E _ _ [] G2
      refine cx_iload_n (i := 2) hE d_Me_binary_182 rfl rfl ?_
      refine cx_iret hE d_Me_binary_183 rfl rfl ?_
      rw [tx_bin_add (by first | assumption | exact Or.inl (by assumption) | exact Or.inr (by assumption) | exact Or.inr (Or.inl (by assumption)) | exact Or.inr (Or.inr (Or.inl (by assumption))) | exact Or.inr (Or.inr (Or.inr (Or.inl (by assumption)))) | exact Or.inr (Or.inr (Or.inr (Or.inr (by assumption)))))]
      first
        | (rw [decide_eq_true c_159]; exact ⟨rfl, hm2, hs1.tr hs2, hc2.trans hc1⟩)
        | (rw [decide_eq_false c_159]; exact ⟨rfl, hm2, hs1.tr hs2, hc2.trans hc1⟩)
    · refine cx_iconst (v := 1) hE d_Me_binary_162 (by decide) ?_
      refine cx_goto (tgt := 167) hE d_Me_binary_163 (by decide) ?_
      refine cx_bipush (v := 30) hE d_Me_binary_167 (by decide) ?_
      refine cx_aload_n (i := 1) hE d_Me_binary_169 rfl rfl ?_
      refine cx_get hE d_Me_binary_170 f_Me_40 (by assumption) (by rfl) ?_
      refine cx_invV hE d_Me_binary_173 l_Me_44 hm.1 (c_ck (right := true) (code := 30) (place := (nI t.2.1)) hm) rfl (by omega) (Nat.le_of_ble_eq_true rfl) n_Ve_check (by rfl) (fun v G1 q => ?_) (fun a G1 q => by cases q.1)
      obtain ⟨q0, hm1, hs1, hc1⟩ := q
      cases q0
      show cx_V E _ _ [] G1
      refine cx_aload_n (i := 0) hE d_Me_binary_176 rfl rfl ?_
      refine cx_iload hE d_Me_binary_177 rfl ?_
      obtain ⟨x9, hme9, -⟩ := hm1.2.1
      refine cx_invV hE d_Me_binary_179 l_Me_128 hme9 (c_Me_spend (c := (tx_imax x y)) (u := u) (by rw [tx_ck_all]; exact hu) hm1) rfl (by omega) (Nat.le_of_ble_eq_true rfl) n_Me_spend (by rfl) (fun v G2 q => ?_) (fun a G2 q => by cases q.1)
      obtain ⟨q0, hm2, hs2, hc2⟩ := q
      cases q0
      show cx_V E _ _ [] G2
      refine cx_iload_n (i := 2) hE d_Me_binary_182 rfl rfl ?_
      refine cx_iret hE d_Me_binary_183 rfl rfl ?_
      rw [tx_bin_add (by first | assumption | exact Or.inl (by assumption) | exact Or.inr (by assumption) | exact Or.inr (Or.inl (by assumption)) | exact Or.inr (Or.inr (Or.inl (by assumption))) | exact Or.inr (Or.inr (Or.inr (Or.inl (by assumption)))) | exact Or.inr (Or.inr (Or.inr (Or.inr (by assumption)))))]
      first
        | (rw [decide_eq_true c_159]; exact ⟨rfl, hm2, hs1.tr hs2, hc2.trans hc1⟩)
        | (rw [decide_eq_false c_159]; exact ⟨rfl, hm2, hs1.tr hs2, hc2.trans hc1⟩)
  by_cases e_11_42 : t.1 = 42
  · refine cx_lookup (tgt := 119) hE d_Me_binary_11 (by decide) (by first | (rw [e_11_42]; done) | (rw [e_11_42]; rfl)) (by decide) ?_
    refine cx_aload_n (i := 0) hE d_Me_binary_119 rfl rfl ?_
    refine cx_get hE d_Me_binary_120 f_Me_32 (by assumption) (by rfl) ?_
    refine cx_iload_n (i := 2) hE d_Me_binary_123 rfl rfl ?_
    refine cx_iload_n (i := 3) hE d_Me_binary_124 rfl rfl ?_
    refine cx_icmp_ne (tgt := 132)  hE d_Me_binary_125 (by decide) (fun c_125 => ?_) (fun c_125 => ?_)
    · refine cx_iconst (v := 0) hE d_Me_binary_132 (by decide) ?_
      refine cx_bipush (v := 30) hE d_Me_binary_133 (by decide) ?_
      refine cx_aload_n (i := 1) hE d_Me_binary_135 rfl rfl ?_
      refine cx_get hE d_Me_binary_136 f_Me_40 (by assumption) (by rfl) ?_
      refine cx_invV hE d_Me_binary_139 l_Me_44 hm.1 (c_ck (right := false) (code := 30) (place := (nI t.2.1)) hm) rfl (by omega) (Nat.le_of_ble_eq_true rfl) n_Ve_check (by rfl) (fun v G1 q => ?_) (fun a G1 q => by cases q.1)
      obtain ⟨q0, hm1, hs1, hc1⟩ := q
      cases q0
      show cx_V E _ _ [] G1
      refine cx_aload_n (i := 0) hE d_Me_binary_142 rfl rfl ?_
      refine cx_iload hE d_Me_binary_143 rfl ?_
      refine cx_iload hE d_Me_binary_145 rfl ?_
      refine cx_imul hE d_Me_binary_147 ?_
      obtain ⟨x9, hme9, -⟩ := hm1.2.1
      refine cx_invV hE d_Me_binary_148 l_Me_128 hme9 (c_Me_spend (c := ((tx_imax x y) * (tx_imax x y))) (u := u) (by rw [tx_ck_all]; exact hu) hm1) rfl (by omega) (Nat.le_of_ble_eq_true rfl) n_Me_spend (by rfl) (fun v G2 q => ?_) (fun a G2 q => by cases q.1)
      obtain ⟨q0, hm2, hs2, hc2⟩ := q
      cases q0
      show cx_V E _ _ [] G2
      refine cx_iload_n (i := 2) hE d_Me_binary_151 rfl rfl ?_
      refine cx_iret hE d_Me_binary_152 rfl rfl ?_
      rw [tx_bin_mul (by first | assumption | exact Or.inl (by assumption) | exact Or.inr (by assumption) | exact Or.inr (Or.inl (by assumption)) | exact Or.inr (Or.inr (Or.inl (by assumption))) | exact Or.inr (Or.inr (Or.inr (Or.inl (by assumption)))) | exact Or.inr (Or.inr (Or.inr (Or.inr (by assumption)))))]
      first
        | (rw [decide_eq_true c_125]; exact ⟨rfl, hm2, hs1.tr hs2, hc2.trans hc1⟩)
        | (rw [decide_eq_false c_125]; exact ⟨rfl, hm2, hs1.tr hs2, hc2.trans hc1⟩)
    · refine cx_iconst (v := 1) hE d_Me_binary_128 (by decide) ?_
      refine cx_goto (tgt := 133) hE d_Me_binary_129 (by decide) ?_
      refine cx_bipush (v := 30) hE d_Me_binary_133 (by decide) ?_
      refine cx_aload_n (i := 1) hE d_Me_binary_135 rfl rfl ?_
      refine cx_get hE d_Me_binary_136 f_Me_40 (by assumption) (by rfl) ?_
      refine cx_invV hE d_Me_binary_139 l_Me_44 hm.1 (c_ck (right := true) (code := 30) (place := (nI t.2.1)) hm) rfl (by omega) (Nat.le_of_ble_eq_true rfl) n_Ve_check (by rfl) (fun v G1 q => ?_) (fun a G1 q => by cases q.1)
      obtain ⟨q0, hm1, hs1, hc1⟩ := q
      cases q0
      show cx_V E _ _ [] G1
      refine cx_aload_n (i := 0) hE d_Me_binary_142 rfl rfl ?_
      refine cx_iload hE d_Me_binary_143 rfl ?_
      refine cx_iload hE d_Me_binary_145 rfl ?_
      refine cx_imul hE d_Me_binary_147 ?_
      obtain ⟨x9, hme9, -⟩ := hm1.2.1
      refine cx_invV hE d_Me_binary_148 l_Me_128 hme9 (c_Me_spend (c := ((tx_imax x y) * (tx_imax x y))) (u := u) (by rw [tx_ck_all]; exact hu) hm1) rfl (by omega) (Nat.le_of_ble_eq_true rfl) n_Me_spend (by rfl) (fun v G2 q => ?_) (fun a G2 q => by cases q.1)
      obtain ⟨q0, hm2, hs2, hc2⟩ := q
      cases q0
      show cx_V E _ _ [] G2
      refine cx_iload_n (i := 2) hE d_Me_binary_151 rfl rfl ?_
      refine cx_iret hE d_Me_binary_152 rfl rfl ?_
      rw [tx_bin_mul (by first | assumption | exact Or.inl (by assumption) | exact Or.inr (by assumption) | exact Or.inr (Or.inl (by assumption)) | exact Or.inr (Or.inr (Or.inl (by assumption))) | exact Or.inr (Or.inr (Or.inr (Or.inl (by assumption)))) | exact Or.inr (Or.inr (Or.inr (Or.inr (by assumption)))))]
      first
        | (rw [decide_eq_true c_125]; exact ⟨rfl, hm2, hs1.tr hs2, hc2.trans hc1⟩)
        | (rw [decide_eq_false c_125]; exact ⟨rfl, hm2, hs1.tr hs2, hc2.trans hc1⟩)
  by_cases e_11_43 : t.1 = 43
  · refine cx_lookup (tgt := 153) hE d_Me_binary_11 (by decide) (by first | (rw [e_11_43]; done) | (rw [e_11_43]; rfl)) (by decide) ?_
    refine cx_aload_n (i := 0) hE d_Me_binary_153 rfl rfl ?_
    refine cx_get hE d_Me_binary_154 f_Me_32 (by assumption) (by rfl) ?_
    refine cx_iload_n (i := 2) hE d_Me_binary_157 rfl rfl ?_
    refine cx_iload_n (i := 3) hE d_Me_binary_158 rfl rfl ?_
    refine cx_icmp_ne (tgt := 166)  hE d_Me_binary_159 (by decide) (fun c_159 => ?_) (fun c_159 => ?_)
    · refine cx_iconst (v := 0) hE d_Me_binary_166 (by decide) ?_
      refine cx_bipush (v := 30) hE d_Me_binary_167 (by decide) ?_
      refine cx_aload_n (i := 1) hE d_Me_binary_169 rfl rfl ?_
      refine cx_get hE d_Me_binary_170 f_Me_40 (by assumption) (by rfl) ?_
      refine cx_invV hE d_Me_binary_173 l_Me_44 hm.1 (c_ck (right := false) (code := 30) (place := (nI t.2.1)) hm) rfl (by omega) (Nat.le_of_ble_eq_true rfl) n_Ve_check (by rfl) (fun v G1 q => ?_) (fun a G1 q => by cases q.1)
      obtain ⟨q0, hm1, hs1, hc1⟩ := q
      cases q0
      show cx_V E _ _ [] G1
      refine cx_aload_n (i := 0) hE d_Me_binary_176 rfl rfl ?_
      refine cx_iload hE d_Me_binary_177 rfl ?_
      obtain ⟨x9, hme9, -⟩ := hm1.2.1
      refine cx_invV hE d_Me_binary_179 l_Me_128 hme9 (c_Me_spend (c := (tx_imax x y)) (u := u) (by rw [tx_ck_all]; exact hu) hm1) rfl (by omega) (Nat.le_of_ble_eq_true rfl) n_Me_spend (by rfl) (fun v G2 q => ?_) (fun a G2 q => by cases q.1)
      obtain ⟨q0, hm2, hs2, hc2⟩ := q
      cases q0
      show cx_V E _ _ [] G2
      refine cx_iload_n (i := 2) hE d_Me_binary_182 rfl rfl ?_
      refine cx_iret hE d_Me_binary_183 rfl rfl ?_
      rw [tx_bin_add (by first | assumption | exact Or.inl (by assumption) | exact Or.inr (by assumption) | exact Or.inr (Or.inl (by assumption)) | exact Or.inr (Or.inr (Or.inl (by assumption))) | exact Or.inr (Or.inr (Or.inr (Or.inl (by assumption)))) | exact Or.inr (Or.inr (Or.inr (Or.inr (by assumption)))))]
      first
        | (rw [decide_eq_true c_159]; exact ⟨rfl, hm2, hs1.tr hs2, hc2.trans hc1⟩)
        | (rw [decide_eq_false c_159]; exact ⟨rfl, hm2, hs1.tr hs2, hc2.trans hc1⟩)
    · refine cx_iconst (v := 1) hE d_Me_binary_162 (by decide) ?_
      refine cx_goto (tgt := 167) hE d_Me_binary_163 (by decide) ?_
      refine cx_bipush (v := 30) hE d_Me_binary_167 (by decide) ?_
      refine cx_aload_n (i := 1) hE d_Me_binary_169 rfl rfl ?_
      refine cx_get hE d_Me_binary_170 f_Me_40 (by assumption) (by rfl) ?_
      refine cx_invV hE d_Me_binary_173 l_Me_44 hm.1 (c_ck (right := true) (code := 30) (place := (nI t.2.1)) hm) rfl (by omega) (Nat.le_of_ble_eq_true rfl) n_Ve_check (by rfl) (fun v G1 q => ?_) (fun a G1 q => by cases q.1)
      obtain ⟨q0, hm1, hs1, hc1⟩ := q
      cases q0
      show cx_V E _ _ [] G1
      refine cx_aload_n (i := 0) hE d_Me_binary_176 rfl rfl ?_
      refine cx_iload hE d_Me_binary_177 rfl ?_
      obtain ⟨x9, hme9, -⟩ := hm1.2.1
      refine cx_invV hE d_Me_binary_179 l_Me_128 hme9 (c_Me_spend (c := (tx_imax x y)) (u := u) (by rw [tx_ck_all]; exact hu) hm1) rfl (by omega) (Nat.le_of_ble_eq_true rfl) n_Me_spend (by rfl) (fun v G2 q => ?_) (fun a G2 q => by cases q.1)
      obtain ⟨q0, hm2, hs2, hc2⟩ := q
      cases q0
      show cx_V E _ _ [] G2
      refine cx_iload_n (i := 2) hE d_Me_binary_182 rfl rfl ?_
      refine cx_iret hE d_Me_binary_183 rfl rfl ?_
      rw [tx_bin_add (by first | assumption | exact Or.inl (by assumption) | exact Or.inr (by assumption) | exact Or.inr (Or.inl (by assumption)) | exact Or.inr (Or.inr (Or.inl (by assumption))) | exact Or.inr (Or.inr (Or.inr (Or.inl (by assumption)))) | exact Or.inr (Or.inr (Or.inr (Or.inr (by assumption)))))]
      first
        | (rw [decide_eq_true c_159]; exact ⟨rfl, hm2, hs1.tr hs2, hc2.trans hc1⟩)
        | (rw [decide_eq_false c_159]; exact ⟨rfl, hm2, hs1.tr hs2, hc2.trans hc1⟩)
  by_cases e_11_45 : t.1 = 45
  · refine cx_lookup (tgt := 153) hE d_Me_binary_11 (by decide) (by first | (rw [e_11_45]; done) | (rw [e_11_45]; rfl)) (by decide) ?_
    refine cx_aload_n (i := 0) hE d_Me_binary_153 rfl rfl ?_
    refine cx_get hE d_Me_binary_154 f_Me_32 (by assumption) (by rfl) ?_
    refine cx_iload_n (i := 2) hE d_Me_binary_157 rfl rfl ?_
    refine cx_iload_n (i := 3) hE d_Me_binary_158 rfl rfl ?_
    refine cx_icmp_ne (tgt := 166)  hE d_Me_binary_159 (by decide) (fun c_159 => ?_) (fun c_159 => ?_)
    · refine cx_iconst (v := 0) hE d_Me_binary_166 (by decide) ?_
      refine cx_bipush (v := 30) hE d_Me_binary_167 (by decide) ?_
      refine cx_aload_n (i := 1) hE d_Me_binary_169 rfl rfl ?_
      refine cx_get hE d_Me_binary_170 f_Me_40 (by assumption) (by rfl) ?_
      refine cx_invV hE d_Me_binary_173 l_Me_44 hm.1 (c_ck (right := false) (code := 30) (place := (nI t.2.1)) hm) rfl (by omega) (Nat.le_of_ble_eq_true rfl) n_Ve_check (by rfl) (fun v G1 q => ?_) (fun a G1 q => by cases q.1)
      obtain ⟨q0, hm1, hs1, hc1⟩ := q
      cases q0
      show cx_V E _ _ [] G1
      refine cx_aload_n (i := 0) hE d_Me_binary_176 rfl rfl ?_
      refine cx_iload hE d_Me_binary_177 rfl ?_
      obtain ⟨x9, hme9, -⟩ := hm1.2.1
      refine cx_invV hE d_Me_binary_179 l_Me_128 hme9 (c_Me_spend (c := (tx_imax x y)) (u := u) (by rw [tx_ck_all]; exact hu) hm1) rfl (by omega) (Nat.le_of_ble_eq_true rfl) n_Me_spend (by rfl) (fun v G2 q => ?_) (fun a G2 q => by cases q.1)
      obtain ⟨q0, hm2, hs2, hc2⟩ := q
      cases q0
      show cx_V E _ _ [] G2
      refine cx_iload_n (i := 2) hE d_Me_binary_182 rfl rfl ?_
      refine cx_iret hE d_Me_binary_183 rfl rfl ?_
      rw [tx_bin_add (by first | assumption | exact Or.inl (by assumption) | exact Or.inr (by assumption) | exact Or.inr (Or.inl (by assumption)) | exact Or.inr (Or.inr (Or.inl (by assumption))) | exact Or.inr (Or.inr (Or.inr (Or.inl (by assumption)))) | exact Or.inr (Or.inr (Or.inr (Or.inr (by assumption)))))]
      first
        | (rw [decide_eq_true c_159]; exact ⟨rfl, hm2, hs1.tr hs2, hc2.trans hc1⟩)
        | (rw [decide_eq_false c_159]; exact ⟨rfl, hm2, hs1.tr hs2, hc2.trans hc1⟩)
    · refine cx_iconst (v := 1) hE d_Me_binary_162 (by decide) ?_
      refine cx_goto (tgt := 167) hE d_Me_binary_163 (by decide) ?_
      refine cx_bipush (v := 30) hE d_Me_binary_167 (by decide) ?_
      refine cx_aload_n (i := 1) hE d_Me_binary_169 rfl rfl ?_
      refine cx_get hE d_Me_binary_170 f_Me_40 (by assumption) (by rfl) ?_
      refine cx_invV hE d_Me_binary_173 l_Me_44 hm.1 (c_ck (right := true) (code := 30) (place := (nI t.2.1)) hm) rfl (by omega) (Nat.le_of_ble_eq_true rfl) n_Ve_check (by rfl) (fun v G1 q => ?_) (fun a G1 q => by cases q.1)
      obtain ⟨q0, hm1, hs1, hc1⟩ := q
      cases q0
      show cx_V E _ _ [] G1
      refine cx_aload_n (i := 0) hE d_Me_binary_176 rfl rfl ?_
      refine cx_iload hE d_Me_binary_177 rfl ?_
      obtain ⟨x9, hme9, -⟩ := hm1.2.1
      refine cx_invV hE d_Me_binary_179 l_Me_128 hme9 (c_Me_spend (c := (tx_imax x y)) (u := u) (by rw [tx_ck_all]; exact hu) hm1) rfl (by omega) (Nat.le_of_ble_eq_true rfl) n_Me_spend (by rfl) (fun v G2 q => ?_) (fun a G2 q => by cases q.1)
      obtain ⟨q0, hm2, hs2, hc2⟩ := q
      cases q0
      show cx_V E _ _ [] G2
      refine cx_iload_n (i := 2) hE d_Me_binary_182 rfl rfl ?_
      refine cx_iret hE d_Me_binary_183 rfl rfl ?_
      rw [tx_bin_add (by first | assumption | exact Or.inl (by assumption) | exact Or.inr (by assumption) | exact Or.inr (Or.inl (by assumption)) | exact Or.inr (Or.inr (Or.inl (by assumption))) | exact Or.inr (Or.inr (Or.inr (Or.inl (by assumption)))) | exact Or.inr (Or.inr (Or.inr (Or.inr (by assumption)))))]
      first
        | (rw [decide_eq_true c_159]; exact ⟨rfl, hm2, hs1.tr hs2, hc2.trans hc1⟩)
        | (rw [decide_eq_false c_159]; exact ⟨rfl, hm2, hs1.tr hs2, hc2.trans hc1⟩)
  by_cases e_11_94 : t.1 = 94
  · refine cx_lookup (tgt := 153) hE d_Me_binary_11 (by decide) (by first | (rw [e_11_94]; done) | (rw [e_11_94]; rfl)) (by decide) ?_
    refine cx_aload_n (i := 0) hE d_Me_binary_153 rfl rfl ?_
    refine cx_get hE d_Me_binary_154 f_Me_32 (by assumption) (by rfl) ?_
    refine cx_iload_n (i := 2) hE d_Me_binary_157 rfl rfl ?_
    refine cx_iload_n (i := 3) hE d_Me_binary_158 rfl rfl ?_
    refine cx_icmp_ne (tgt := 166)  hE d_Me_binary_159 (by decide) (fun c_159 => ?_) (fun c_159 => ?_)
    · refine cx_iconst (v := 0) hE d_Me_binary_166 (by decide) ?_
      refine cx_bipush (v := 30) hE d_Me_binary_167 (by decide) ?_
      refine cx_aload_n (i := 1) hE d_Me_binary_169 rfl rfl ?_
      refine cx_get hE d_Me_binary_170 f_Me_40 (by assumption) (by rfl) ?_
      refine cx_invV hE d_Me_binary_173 l_Me_44 hm.1 (c_ck (right := false) (code := 30) (place := (nI t.2.1)) hm) rfl (by omega) (Nat.le_of_ble_eq_true rfl) n_Ve_check (by rfl) (fun v G1 q => ?_) (fun a G1 q => by cases q.1)
      obtain ⟨q0, hm1, hs1, hc1⟩ := q
      cases q0
      show cx_V E _ _ [] G1
      refine cx_aload_n (i := 0) hE d_Me_binary_176 rfl rfl ?_
      refine cx_iload hE d_Me_binary_177 rfl ?_
      obtain ⟨x9, hme9, -⟩ := hm1.2.1
      refine cx_invV hE d_Me_binary_179 l_Me_128 hme9 (c_Me_spend (c := (tx_imax x y)) (u := u) (by rw [tx_ck_all]; exact hu) hm1) rfl (by omega) (Nat.le_of_ble_eq_true rfl) n_Me_spend (by rfl) (fun v G2 q => ?_) (fun a G2 q => by cases q.1)
      obtain ⟨q0, hm2, hs2, hc2⟩ := q
      cases q0
      show cx_V E _ _ [] G2
      refine cx_iload_n (i := 2) hE d_Me_binary_182 rfl rfl ?_
      refine cx_iret hE d_Me_binary_183 rfl rfl ?_
      rw [tx_bin_add (by first | assumption | exact Or.inl (by assumption) | exact Or.inr (by assumption) | exact Or.inr (Or.inl (by assumption)) | exact Or.inr (Or.inr (Or.inl (by assumption))) | exact Or.inr (Or.inr (Or.inr (Or.inl (by assumption)))) | exact Or.inr (Or.inr (Or.inr (Or.inr (by assumption)))))]
      first
        | (rw [decide_eq_true c_159]; exact ⟨rfl, hm2, hs1.tr hs2, hc2.trans hc1⟩)
        | (rw [decide_eq_false c_159]; exact ⟨rfl, hm2, hs1.tr hs2, hc2.trans hc1⟩)
    · refine cx_iconst (v := 1) hE d_Me_binary_162 (by decide) ?_
      refine cx_goto (tgt := 167) hE d_Me_binary_163 (by decide) ?_
      refine cx_bipush (v := 30) hE d_Me_binary_167 (by decide) ?_
      refine cx_aload_n (i := 1) hE d_Me_binary_169 rfl rfl ?_
      refine cx_get hE d_Me_binary_170 f_Me_40 (by assumption) (by rfl) ?_
      refine cx_invV hE d_Me_binary_173 l_Me_44 hm.1 (c_ck (right := true) (code := 30) (place := (nI t.2.1)) hm) rfl (by omega) (Nat.le_of_ble_eq_true rfl) n_Ve_check (by rfl) (fun v G1 q => ?_) (fun a G1 q => by cases q.1)
      obtain ⟨q0, hm1, hs1, hc1⟩ := q
      cases q0
      show cx_V E _ _ [] G1
      refine cx_aload_n (i := 0) hE d_Me_binary_176 rfl rfl ?_
      refine cx_iload hE d_Me_binary_177 rfl ?_
      obtain ⟨x9, hme9, -⟩ := hm1.2.1
      refine cx_invV hE d_Me_binary_179 l_Me_128 hme9 (c_Me_spend (c := (tx_imax x y)) (u := u) (by rw [tx_ck_all]; exact hu) hm1) rfl (by omega) (Nat.le_of_ble_eq_true rfl) n_Me_spend (by rfl) (fun v G2 q => ?_) (fun a G2 q => by cases q.1)
      obtain ⟨q0, hm2, hs2, hc2⟩ := q
      cases q0
      show cx_V E _ _ [] G2
      refine cx_iload_n (i := 2) hE d_Me_binary_182 rfl rfl ?_
      refine cx_iret hE d_Me_binary_183 rfl rfl ?_
      rw [tx_bin_add (by first | assumption | exact Or.inl (by assumption) | exact Or.inr (by assumption) | exact Or.inr (Or.inl (by assumption)) | exact Or.inr (Or.inr (Or.inl (by assumption))) | exact Or.inr (Or.inr (Or.inr (Or.inl (by assumption)))) | exact Or.inr (Or.inr (Or.inr (Or.inr (by assumption)))))]
      first
        | (rw [decide_eq_true c_159]; exact ⟨rfl, hm2, hs1.tr hs2, hc2.trans hc1⟩)
        | (rw [decide_eq_false c_159]; exact ⟨rfl, hm2, hs1.tr hs2, hc2.trans hc1⟩)
  by_cases e_11_124 : t.1 = 124
  · refine cx_lookup (tgt := 153) hE d_Me_binary_11 (by decide) (by first | (rw [e_11_124]; done) | (rw [e_11_124]; rfl)) (by decide) ?_
    refine cx_aload_n (i := 0) hE d_Me_binary_153 rfl rfl ?_
    refine cx_get hE d_Me_binary_154 f_Me_32 (by assumption) (by rfl) ?_
    refine cx_iload_n (i := 2) hE d_Me_binary_157 rfl rfl ?_
    refine cx_iload_n (i := 3) hE d_Me_binary_158 rfl rfl ?_
    refine cx_icmp_ne (tgt := 166)  hE d_Me_binary_159 (by decide) (fun c_159 => ?_) (fun c_159 => ?_)
    · refine cx_iconst (v := 0) hE d_Me_binary_166 (by decide) ?_
      refine cx_bipush (v := 30) hE d_Me_binary_167 (by decide) ?_
      refine cx_aload_n (i := 1) hE d_Me_binary_169 rfl rfl ?_
      refine cx_get hE d_Me_binary_170 f_Me_40 (by assumption) (by rfl) ?_
      refine cx_invV hE d_Me_binary_173 l_Me_44 hm.1 (c_ck (right := false) (code := 30) (place := (nI t.2.1)) hm) rfl (by omega) (Nat.le_of_ble_eq_true rfl) n_Ve_check (by rfl) (fun v G1 q => ?_) (fun a G1 q => by cases q.1)
      obtain ⟨q0, hm1, hs1, hc1⟩ := q
      cases q0
      show cx_V E _ _ [] G1
      refine cx_aload_n (i := 0) hE d_Me_binary_176 rfl rfl ?_
      refine cx_iload hE d_Me_binary_177 rfl ?_
      obtain ⟨x9, hme9, -⟩ := hm1.2.1
      refine cx_invV hE d_Me_binary_179 l_Me_128 hme9 (c_Me_spend (c := (tx_imax x y)) (u := u) (by rw [tx_ck_all]; exact hu) hm1) rfl (by omega) (Nat.le_of_ble_eq_true rfl) n_Me_spend (by rfl) (fun v G2 q => ?_) (fun a G2 q => by cases q.1)
      obtain ⟨q0, hm2, hs2, hc2⟩ := q
      cases q0
      show cx_V E _ _ [] G2
      refine cx_iload_n (i := 2) hE d_Me_binary_182 rfl rfl ?_
      refine cx_iret hE d_Me_binary_183 rfl rfl ?_
      rw [tx_bin_add (by first | assumption | exact Or.inl (by assumption) | exact Or.inr (by assumption) | exact Or.inr (Or.inl (by assumption)) | exact Or.inr (Or.inr (Or.inl (by assumption))) | exact Or.inr (Or.inr (Or.inr (Or.inl (by assumption)))) | exact Or.inr (Or.inr (Or.inr (Or.inr (by assumption)))))]
      first
        | (rw [decide_eq_true c_159]; exact ⟨rfl, hm2, hs1.tr hs2, hc2.trans hc1⟩)
        | (rw [decide_eq_false c_159]; exact ⟨rfl, hm2, hs1.tr hs2, hc2.trans hc1⟩)
    · refine cx_iconst (v := 1) hE d_Me_binary_162 (by decide) ?_
      refine cx_goto (tgt := 167) hE d_Me_binary_163 (by decide) ?_
      refine cx_bipush (v := 30) hE d_Me_binary_167 (by decide) ?_
      refine cx_aload_n (i := 1) hE d_Me_binary_169 rfl rfl ?_
      refine cx_get hE d_Me_binary_170 f_Me_40 (by assumption) (by rfl) ?_
      refine cx_invV hE d_Me_binary_173 l_Me_44 hm.1 (c_ck (right := true) (code := 30) (place := (nI t.2.1)) hm) rfl (by omega) (Nat.le_of_ble_eq_true rfl) n_Ve_check (by rfl) (fun v G1 q => ?_) (fun a G1 q => by cases q.1)
      obtain ⟨q0, hm1, hs1, hc1⟩ := q
      cases q0
      show cx_V E _ _ [] G1
      refine cx_aload_n (i := 0) hE d_Me_binary_176 rfl rfl ?_
      refine cx_iload hE d_Me_binary_177 rfl ?_
      obtain ⟨x9, hme9, -⟩ := hm1.2.1
      refine cx_invV hE d_Me_binary_179 l_Me_128 hme9 (c_Me_spend (c := (tx_imax x y)) (u := u) (by rw [tx_ck_all]; exact hu) hm1) rfl (by omega) (Nat.le_of_ble_eq_true rfl) n_Me_spend (by rfl) (fun v G2 q => ?_) (fun a G2 q => by cases q.1)
      obtain ⟨q0, hm2, hs2, hc2⟩ := q
      cases q0
      show cx_V E _ _ [] G2
      refine cx_iload_n (i := 2) hE d_Me_binary_182 rfl rfl ?_
      refine cx_iret hE d_Me_binary_183 rfl rfl ?_
      rw [tx_bin_add (by first | assumption | exact Or.inl (by assumption) | exact Or.inr (by assumption) | exact Or.inr (Or.inl (by assumption)) | exact Or.inr (Or.inr (Or.inl (by assumption))) | exact Or.inr (Or.inr (Or.inr (Or.inl (by assumption)))) | exact Or.inr (Or.inr (Or.inr (Or.inr (by assumption)))))]
      first
        | (rw [decide_eq_true c_159]; exact ⟨rfl, hm2, hs1.tr hs2, hc2.trans hc1⟩)
        | (rw [decide_eq_false c_159]; exact ⟨rfl, hm2, hs1.tr hs2, hc2.trans hc1⟩)
  by_cases e_11_9766 : t.1 = 9766
  · refine cx_lookup (tgt := 100) hE d_Me_binary_11 (by decide) (by first | (rw [e_11_9766]; done) | (rw [e_11_9766]; rfl)) (by decide) ?_
    refine cx_aload_n (i := 0) hE d_Me_binary_100 rfl rfl ?_
    refine cx_iload hE d_Me_binary_101 rfl ?_
    obtain ⟨x9, hme9, -⟩ := hm.2.1
    refine cx_invV hE d_Me_binary_103 l_Me_128 hme9 (c_Me_spend (c := (tx_imax x y)) (u := u) hu hm) rfl (by omega) (Nat.le_of_ble_eq_true rfl) n_Me_spend (by rfl) (fun v G2 q => ?_) (fun a G2 q => by cases q.1)
    obtain ⟨q0, hm2, hs2, hc2⟩ := q
    cases q0
    show cx_V E _ _ [] G2
    refine cx_iconst (v := 1) hE d_Me_binary_106 (by decide) ?_
    refine cx_iret hE d_Me_binary_107 rfl rfl ?_
    rw [tx_bin_and (by first | assumption | exact Or.inl (by assumption) | exact Or.inr (by assumption) | exact Or.inr (Or.inl (by assumption)) | exact Or.inr (Or.inr (Or.inl (by assumption))) | exact Or.inr (Or.inr (Or.inr (Or.inl (by assumption)))) | exact Or.inr (Or.inr (Or.inr (Or.inr (by assumption)))))]
    exact ⟨rfl, hm2, hs2, hc2⟩
  by_cases e_11_15420 : t.1 = 15420
  · refine cx_lookup (tgt := 108) hE d_Me_binary_11 (by decide) (by first | (rw [e_11_15420]; done) | (rw [e_11_15420]; rfl)) (by decide) ?_
    refine cx_aload_n (i := 0) hE d_Me_binary_108 rfl rfl ?_
    refine cx_iconst (v := 3) hE d_Me_binary_109 (by decide) ?_
    refine cx_iload_n (i := 2) hE d_Me_binary_110 rfl rfl ?_
    refine cx_imul hE d_Me_binary_111 ?_
    refine cx_iload_n (i := 3) hE d_Me_binary_112 rfl rfl ?_
    refine cx_iadd hE d_Me_binary_113 ?_
    obtain ⟨x9, hme9, -⟩ := hm.2.1
    refine cx_invV hE d_Me_binary_114 l_Me_128 hme9 (c_Me_spend (c := (3 * x + y)) (u := u) hu hm) rfl (by omega) (Nat.le_of_ble_eq_true rfl) n_Me_spend (by rfl) (fun v G2 q => ?_) (fun a G2 q => by cases q.1)
    obtain ⟨q0, hm2, hs2, hc2⟩ := q
    cases q0
    show cx_V E _ _ [] G2
    refine cx_iload_n (i := 2) hE d_Me_binary_117 rfl rfl ?_
    refine cx_iret hE d_Me_binary_118 rfl rfl ?_
    rw [tx_bin_sh (by first | assumption | exact Or.inl (by assumption) | exact Or.inr (by assumption) | exact Or.inr (Or.inl (by assumption)) | exact Or.inr (Or.inr (Or.inl (by assumption))) | exact Or.inr (Or.inr (Or.inr (Or.inl (by assumption)))) | exact Or.inr (Or.inr (Or.inr (Or.inr (by assumption)))))]
    exact ⟨rfl, hm2, hs2, hc2⟩
  by_cases e_11_15934 : t.1 = 15934
  · refine cx_lookup (tgt := 108) hE d_Me_binary_11 (by decide) (by first | (rw [e_11_15934]; done) | (rw [e_11_15934]; rfl)) (by decide) ?_
    refine cx_aload_n (i := 0) hE d_Me_binary_108 rfl rfl ?_
    refine cx_iconst (v := 3) hE d_Me_binary_109 (by decide) ?_
    refine cx_iload_n (i := 2) hE d_Me_binary_110 rfl rfl ?_
    refine cx_imul hE d_Me_binary_111 ?_
    refine cx_iload_n (i := 3) hE d_Me_binary_112 rfl rfl ?_
    refine cx_iadd hE d_Me_binary_113 ?_
    obtain ⟨x9, hme9, -⟩ := hm.2.1
    refine cx_invV hE d_Me_binary_114 l_Me_128 hme9 (c_Me_spend (c := (3 * x + y)) (u := u) hu hm) rfl (by omega) (Nat.le_of_ble_eq_true rfl) n_Me_spend (by rfl) (fun v G2 q => ?_) (fun a G2 q => by cases q.1)
    obtain ⟨q0, hm2, hs2, hc2⟩ := q
    cases q0
    show cx_V E _ _ [] G2
    refine cx_iload_n (i := 2) hE d_Me_binary_117 rfl rfl ?_
    refine cx_iret hE d_Me_binary_118 rfl rfl ?_
    rw [tx_bin_sh (by first | assumption | exact Or.inl (by assumption) | exact Or.inr (by assumption) | exact Or.inr (Or.inl (by assumption)) | exact Or.inr (Or.inr (Or.inl (by assumption))) | exact Or.inr (Or.inr (Or.inr (Or.inl (by assumption)))) | exact Or.inr (Or.inr (Or.inr (Or.inr (by assumption)))))]
    exact ⟨rfl, hm2, hs2, hc2⟩
  by_cases e_11_31868 : t.1 = 31868
  · refine cx_lookup (tgt := 100) hE d_Me_binary_11 (by decide) (by first | (rw [e_11_31868]; done) | (rw [e_11_31868]; rfl)) (by decide) ?_
    refine cx_aload_n (i := 0) hE d_Me_binary_100 rfl rfl ?_
    refine cx_iload hE d_Me_binary_101 rfl ?_
    obtain ⟨x9, hme9, -⟩ := hm.2.1
    refine cx_invV hE d_Me_binary_103 l_Me_128 hme9 (c_Me_spend (c := (tx_imax x y)) (u := u) hu hm) rfl (by omega) (Nat.le_of_ble_eq_true rfl) n_Me_spend (by rfl) (fun v G2 q => ?_) (fun a G2 q => by cases q.1)
    obtain ⟨q0, hm2, hs2, hc2⟩ := q
    cases q0
    show cx_V E _ _ [] G2
    refine cx_iconst (v := 1) hE d_Me_binary_106 (by decide) ?_
    refine cx_iret hE d_Me_binary_107 rfl rfl ?_
    rw [tx_bin_and (by first | assumption | exact Or.inl (by assumption) | exact Or.inr (by assumption) | exact Or.inr (Or.inl (by assumption)) | exact Or.inr (Or.inr (Or.inl (by assumption))) | exact Or.inr (Or.inr (Or.inr (Or.inl (by assumption)))) | exact Or.inr (Or.inr (Or.inr (Or.inr (by assumption)))))]
    exact ⟨rfl, hm2, hs2, hc2⟩
  refine cx_lookup (tgt := 184) hE d_Me_binary_11 (by decide) (off := 173) (by show Op.lookupswitch.offset [(38, 142), (42, 108), (43, 142), (45, 142), (94, 142), (124, 142), (9766, 89), (15420, 97), (15934, 97), (31868, 89)] 173 _ = _; rw [lv_osw (k := 38) e_11_38 (by decide), lv_osw (k := 42) e_11_42 (by decide), lv_osw (k := 43) e_11_43 (by decide), lv_osw (k := 45) e_11_45 (by decide), lv_osw (k := 94) e_11_94 (by decide), lv_osw (k := 124) e_11_124 (by decide), lv_osw (k := 9766) e_11_9766 (by decide), lv_osw (k := 15420) e_11_15420 (by decide), lv_osw (k := 15934) e_11_15934 (by decide), lv_osw (k := 31868) e_11_31868 (by decide)]; rfl) (by decide) ?_
  refine cx_aload_n (i := 0) hE d_Me_binary_184 rfl rfl ?_
  refine cx_get hE d_Me_binary_185 f_Me_32 (by assumption) (by rfl) ?_
  refine cx_iload_n (i := 2) hE d_Me_binary_188 rfl rfl ?_
  refine cx_iload_n (i := 3) hE d_Me_binary_189 rfl rfl ?_
  refine cx_icmp_ne (tgt := 197)  hE d_Me_binary_190 (by decide) (fun c_190 => ?_) (fun c_190 => ?_)
  · refine cx_iconst (v := 0) hE d_Me_binary_197 (by decide) ?_
    refine cx_bipush (v := 30) hE d_Me_binary_198 (by decide) ?_
    refine cx_aload_n (i := 1) hE d_Me_binary_200 rfl rfl ?_
    refine cx_get hE d_Me_binary_201 f_Me_40 (by assumption) (by rfl) ?_
    refine cx_invV hE d_Me_binary_204 l_Me_44 hm.1 (c_ck (right := false) (code := 30) (place := (nI t.2.1)) hm) rfl (by omega) (Nat.le_of_ble_eq_true rfl) n_Ve_check (by rfl) (fun v G1 q => ?_) (fun a G1 q => by cases q.1)
    obtain ⟨q0, hm1, hs1, hc1⟩ := q
    cases q0
    show cx_V E _ _ [] G1
    refine cx_aload_n (i := 0) hE d_Me_binary_207 rfl rfl ?_
    refine cx_iload hE d_Me_binary_208 rfl ?_
    obtain ⟨x9, hme9, -⟩ := hm1.2.1
    refine cx_invV hE d_Me_binary_210 l_Me_128 hme9 (c_Me_spend (c := (tx_imax x y)) (u := u) (by rw [tx_ck_all]; exact hu) hm1) rfl (by omega) (Nat.le_of_ble_eq_true rfl) n_Me_spend (by rfl) (fun v G2 q => ?_) (fun a G2 q => by cases q.1)
    obtain ⟨q0, hm2, hs2, hc2⟩ := q
    cases q0
    show cx_V E _ _ [] G2
    refine cx_iconst (v := 1) hE d_Me_binary_213 (by decide) ?_
    refine cx_iret hE d_Me_binary_214 rfl rfl ?_
    rw [tx_bin_oth (by assumption) (by assumption) (by assumption) (by assumption) (by assumption) (by assumption) (by assumption) (by assumption) (by assumption) (by assumption)]
    first
      | (rw [decide_eq_true c_190]; exact ⟨rfl, hm2, hs1.tr hs2, hc2.trans hc1⟩)
      | (rw [decide_eq_false c_190]; exact ⟨rfl, hm2, hs1.tr hs2, hc2.trans hc1⟩)
  · refine cx_iconst (v := 1) hE d_Me_binary_193 (by decide) ?_
    refine cx_goto (tgt := 198) hE d_Me_binary_194 (by decide) ?_
    refine cx_bipush (v := 30) hE d_Me_binary_198 (by decide) ?_
    refine cx_aload_n (i := 1) hE d_Me_binary_200 rfl rfl ?_
    refine cx_get hE d_Me_binary_201 f_Me_40 (by assumption) (by rfl) ?_
    refine cx_invV hE d_Me_binary_204 l_Me_44 hm.1 (c_ck (right := true) (code := 30) (place := (nI t.2.1)) hm) rfl (by omega) (Nat.le_of_ble_eq_true rfl) n_Ve_check (by rfl) (fun v G1 q => ?_) (fun a G1 q => by cases q.1)
    obtain ⟨q0, hm1, hs1, hc1⟩ := q
    cases q0
    show cx_V E _ _ [] G1
    refine cx_aload_n (i := 0) hE d_Me_binary_207 rfl rfl ?_
    refine cx_iload hE d_Me_binary_208 rfl ?_
    obtain ⟨x9, hme9, -⟩ := hm1.2.1
    refine cx_invV hE d_Me_binary_210 l_Me_128 hme9 (c_Me_spend (c := (tx_imax x y)) (u := u) (by rw [tx_ck_all]; exact hu) hm1) rfl (by omega) (Nat.le_of_ble_eq_true rfl) n_Me_spend (by rfl) (fun v G2 q => ?_) (fun a G2 q => by cases q.1)
    obtain ⟨q0, hm2, hs2, hc2⟩ := q
    cases q0
    show cx_V E _ _ [] G2
    refine cx_iconst (v := 1) hE d_Me_binary_213 (by decide) ?_
    refine cx_iret hE d_Me_binary_214 rfl rfl ?_
    rw [tx_bin_oth (by assumption) (by assumption) (by assumption) (by assumption) (by assumption) (by assumption) (by assumption) (by assumption) (by assumption) (by assumption)]
    first
      | (rw [decide_eq_true c_190]; exact ⟨rfl, hm2, hs1.tr hs2, hc2.trans hc1⟩)
      | (rw [decide_eq_false c_190]; exact ⟨rfl, hm2, hs1.tr hs2, hc2.trans hc1⟩)
set_option maxRecDepth 100000 in
theorem c_Me_drive {k : cx_K} {l : Launch} {G : cx_G} {F : Nat → Prop} {A : tx_A} {s : tx_S} {u : tx_U} (hu : s.2.2.1 = some u) {q : Nat} {r : tx_N} (hr : u.2.2.1[q]? = some r) {a : Nat} {t : tx_Tk} (ht : tx_tw G A a t) (hm : tx_m k F G A s)  : cx_Sp k l m_Me_drive 1 [.ref A.me, .ref (A.na s.2.1.length q), .ref a] G (tx_mq k F G A (tx_drive q t s) none) := by
  intro E hE
  obtain ⟨x0, hme, hxu⟩ := hm.2.1
  obtain ⟨nx, ht0, hwf⟩ := id ht
  have hta : G.1 a = some (.inr (7, [.int t.1, .int (nI t.2.1), .int (nI t.2.2.1), va_rf nx, va_rf (A.w t.2.2.2.1), .int t.2.2.2.2.1, .long t.2.2.2.2.2])) := ht0
  have hn9 := hm.2.2.2.2.2.1 _ u (tx_S.cur hu) q r hr
  unfold tx_nm at hn9
  have hrc := tx_S.rc_of hu hr
  refine cx_aload_n (i := 0) hE d_Me_drive_0 rfl rfl ?_
  refine cx_get hE d_Me_drive_1 f_Me_32 (by assumption) (by rfl) ?_
  refine cx_aload_n (i := 1) hE d_Me_drive_4 rfl rfl ?_
  refine cx_get hE d_Me_drive_5 f_Me_63 (by assumption) (by rfl) ?_
  refine cx_if_ne (tgt := 15)  hE d_Me_drive_8 (by decide) (fun c_8 => ?_) (fun c_8 => ?_)
  · refine cx_iconst (v := 0) hE d_Me_drive_15 (by decide) ?_
    refine cx_bipush (v := 31) hE d_Me_drive_16 (by decide) ?_
    refine cx_aload_n (i := 2) hE d_Me_drive_18 rfl rfl ?_
    refine cx_get hE d_Me_drive_19 f_Me_40 (by assumption) (by rfl) ?_
    refine cx_invV hE d_Me_drive_22 l_Me_44 hm.1 (c_ck (right := false) (code := 31) (place := (nI t.2.1)) hm) rfl (by omega) (Nat.le_of_ble_eq_true rfl) n_Ve_check (by rfl) (fun v G1 q => ?_) (fun a G1 q => by cases q.1)
    obtain ⟨q0, hm1, hs1, hc1⟩ := q
    cases q0
    show cx_V E _ _ [] G1
    have hall1 := tx_S.cur hu
    rw [← tx_ck_a false 31 (nI t.2.1) s] at hall1
    have hn1 := hm1.2.2.2.2.2.1 _ u hall1 q r hr
    unfold tx_nm at hn1
    refine cx_aload_n (i := 1) hE d_Me_drive_25 rfl rfl ?_
    refine cx_iconst (v := 1) hE d_Me_drive_26 (by decide) ?_
    refine cx_putg hE d_Me_drive_27 f_Me_63 (by assumption) (Nat.le_of_ble_eq_true rfl) (by first | rfl | exact cx_nr _ _) (by first | rfl | exact cx_fr _ _) (fun G_27 g_27 h_27 => ?_)
    refine cx_vret hE d_Me_drive_30 rfl ?_
    first
      | (have e9 : (!(s.rc q).2.2.2.2.2.1) = true := by rw [hrc, cx_b0.mp c_8]; rfl
         rw [show tx_drive q t s = (tx_ck true 31 (nI t.2.1) s).mn s.2.1.length q tx_drv by unfold tx_drive; rw [e9]]
         have hp := hm1.nm (f := tx_drv) hall1 hr (fun j' hj' => by rw [tx_ck_l]; exact ((hm.2.2.2.2.2.2.2.2.1.2.2.2 _ u (tx_S.cur hu)).2 q r hr).1 j' hj')
         have e1 : G_27 = cx_put G1 (A.na s.2.1.length q) (tx_nm A s.2.1.length (tx_drv r)) := by rw [← g_27]; rfl
         rw [e1]
         exact ⟨rfl, hp.1, hs1.tr hp.2, hc1⟩)
      | (have e9 : (!(s.rc q).2.2.2.2.2.1) = false := by rw [hrc, cx_bn.mp c_8]; rfl
         rw [show tx_drive q t s = (tx_ck false 31 (nI t.2.1) s).mn s.2.1.length q tx_drv by unfold tx_drive; rw [e9]]
         have hp := hm1.nm (f := tx_drv) hall1 hr (fun j' hj' => by rw [tx_ck_l]; exact ((hm.2.2.2.2.2.2.2.2.1.2.2.2 _ u (tx_S.cur hu)).2 q r hr).1 j' hj')
         have e1 : G_27 = cx_put G1 (A.na s.2.1.length q) (tx_nm A s.2.1.length (tx_drv r)) := by rw [← g_27]; rfl
         rw [e1]
         exact ⟨rfl, hp.1, hs1.tr hp.2, hc1⟩)
  · refine cx_iconst (v := 1) hE d_Me_drive_11 (by decide) ?_
    refine cx_goto (tgt := 16) hE d_Me_drive_12 (by decide) ?_
    refine cx_bipush (v := 31) hE d_Me_drive_16 (by decide) ?_
    refine cx_aload_n (i := 2) hE d_Me_drive_18 rfl rfl ?_
    refine cx_get hE d_Me_drive_19 f_Me_40 (by assumption) (by rfl) ?_
    refine cx_invV hE d_Me_drive_22 l_Me_44 hm.1 (c_ck (right := true) (code := 31) (place := (nI t.2.1)) hm) rfl (by omega) (Nat.le_of_ble_eq_true rfl) n_Ve_check (by rfl) (fun v G1 q => ?_) (fun a G1 q => by cases q.1)
    obtain ⟨q0, hm1, hs1, hc1⟩ := q
    cases q0
    show cx_V E _ _ [] G1
    have hall1 := tx_S.cur hu
    rw [← tx_ck_a true 31 (nI t.2.1) s] at hall1
    have hn1 := hm1.2.2.2.2.2.1 _ u hall1 q r hr
    unfold tx_nm at hn1
    refine cx_aload_n (i := 1) hE d_Me_drive_25 rfl rfl ?_
    refine cx_iconst (v := 1) hE d_Me_drive_26 (by decide) ?_
    refine cx_putg hE d_Me_drive_27 f_Me_63 (by assumption) (Nat.le_of_ble_eq_true rfl) (by first | rfl | exact cx_nr _ _) (by first | rfl | exact cx_fr _ _) (fun G_27 g_27 h_27 => ?_)
    refine cx_vret hE d_Me_drive_30 rfl ?_
    first
      | (have e9 : (!(s.rc q).2.2.2.2.2.1) = true := by rw [hrc, cx_b0.mp c_8]; rfl
         rw [show tx_drive q t s = (tx_ck true 31 (nI t.2.1) s).mn s.2.1.length q tx_drv by unfold tx_drive; rw [e9]]
         have hp := hm1.nm (f := tx_drv) hall1 hr (fun j' hj' => by rw [tx_ck_l]; exact ((hm.2.2.2.2.2.2.2.2.1.2.2.2 _ u (tx_S.cur hu)).2 q r hr).1 j' hj')
         have e1 : G_27 = cx_put G1 (A.na s.2.1.length q) (tx_nm A s.2.1.length (tx_drv r)) := by rw [← g_27]; rfl
         rw [e1]
         exact ⟨rfl, hp.1, hs1.tr hp.2, hc1⟩)
      | (have e9 : (!(s.rc q).2.2.2.2.2.1) = false := by rw [hrc, cx_bn.mp c_8]; rfl
         rw [show tx_drive q t s = (tx_ck false 31 (nI t.2.1) s).mn s.2.1.length q tx_drv by unfold tx_drive; rw [e9]]
         have hp := hm1.nm (f := tx_drv) hall1 hr (fun j' hj' => by rw [tx_ck_l]; exact ((hm.2.2.2.2.2.2.2.2.1.2.2.2 _ u (tx_S.cur hu)).2 q r hr).1 j' hj')
         have e1 : G_27 = cx_put G1 (A.na s.2.1.length q) (tx_nm A s.2.1.length (tx_drv r)) := by rw [← g_27]; rfl
         rw [e1]
         exact ⟨rfl, hp.1, hs1.tr hp.2, hc1⟩)

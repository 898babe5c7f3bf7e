/-! THE REFERENCE: its object on the heap. -/
/-- its ints, its rows of bytes and ints, its rows of longs, how many places the rows of code and of numbers have -/
abbrev rm_M : Type := (Nat → Int32) × (Nat → Nat → Int32) × (Nat → Nat → Int64) × Nat × Nat
/-- what a field is: a row of bytes, of ints, of longs, or no row -/
def rm_ty : Nat → Nat
  | 1 => 0
  | 4 => 1
  | 5 => 1
  | 6 => 1
  | 13 => 1
  | 14 => 1
  | 15 => 1
  | 16 => 1
  | 17 => 1
  | 19 => 1
  | 20 => 1
  | 21 => 1
  | 22 => 2
  | 23 => 1
  | 24 => 1
  | 25 => 1
  | 26 => 1
  | 28 => 1
  | 29 => 1
  | 30 => 1
  | 32 => 1
  | 33 => 1
  | 34 => 1
  | 36 => 1
  | 37 => 1
  | 39 => 1
  | 40 => 1
  | 41 => 1
  | 43 => 2
  | 45 => 2
  | 46 => 1
  | 47 => 1
  | 49 => 1
  | 52 => 0
  | 53 => 0
  | 56 => 2
  | _ => 3
theorem rm_ty_le (i : Nat) : rm_ty i ≤ 3 := by
  unfold rm_ty
  split <;> decide
def rm_len (cn : Nat × Nat) : Nat → Nat
  | 1 => 65536
  | 4 => 65540
  | 5 => 65540
  | 6 => 65540
  | 13 => 3600
  | 14 => 3601
  | 15 => 3601
  | 16 => 3601
  | 17 => 3601
  | 19 => 11000
  | 20 => 11000
  | 21 => 11000
  | 22 => 11000
  | 23 => 11000
  | 24 => 11000
  | 25 => 11000
  | 26 => 11000
  | 28 => 11000
  | 29 => 11000
  | 30 => 11001
  | 32 => 11000
  | 33 => 11000
  | 34 => 11000
  | 36 => 6600
  | 37 => 6600
  | 39 => 6600
  | 40 => 6600
  | 45 => 3600
  | 46 => 4096
  | 47 => 4096
  | 49 => 4096
  | 52 => 65536
  | 53 => 65536
  | 56 => 3600
  | 41 => cn.1
  | 43 => cn.2
  | _ => 0
def rm_fs (P : Nat → Nat) (I : Nat → Int32) : List Value := [.int (I 0), .ref (P 1), .int (I 2), .int (I 3), .ref (P 4), .ref (P 5), .ref (P 6), .int (I 7), .int (I 8), .int (I 9), .int (I 10), .int (I 11), .int (I 12), .ref (P 13), .ref (P 14), .ref (P 15), .ref (P 16), .ref (P 17), .int (I 18), .ref (P 19), .ref (P 20), .ref (P 21), .ref (P 22), .ref (P 23), .ref (P 24), .ref (P 25), .ref (P 26), .int (I 27), .ref (P 28), .ref (P 29), .ref (P 30), .int (I 31), .ref (P 32), .ref (P 33), .ref (P 34), .int (I 35), .ref (P 36), .ref (P 37), .int (I 38), .ref (P 39), .ref (P 40), .ref (P 41), .int (I 42), .ref (P 43), .int (I 44), .ref (P 45), .ref (P 46), .ref (P 47), .int (I 48), .ref (P 49), .int (I 50), .int (I 51), .ref (P 52), .ref (P 53), .int (I 54), .int (I 55), .ref (P 56), .int (I 57)]
/-- the reference at mo, its rows at P, holds M -/
def rm_R (k : cx_K) (G : cx_G) (mo : Nat) (P : Nat → Nat) (M : rm_M) : Prop := G.1 mo = some (.inr (12, rm_fs P M.1)) ∧ (∀ i, rm_ty i = 0 → G.1 (P i) = some (.inl (k.2.1 0, rm_len M.2.2.2 i, .inl (M.2.1 i)))) ∧ (∀ i, rm_ty i = 1 → G.1 (P i) = some (.inl (k.2.1 1, rm_len M.2.2.2 i, .inl (M.2.1 i)))) ∧ (∀ i, rm_ty i = 2 → G.1 (P i) = some (.inl (k.2.1 2, rm_len M.2.2.2 i, .inr (.inl (M.2.2.1 i))))) ∧ ∀ i j, rm_ty i ≠ 3 → rm_ty j ≠ 3 → P i = P j → i = j
/-- the places that are the reference's -/
def rm_S (mo : Nat) (P : Nat → Nat) (c : Nat) : Prop := c = mo ∨ ∃ i, rm_ty i ≠ 3 ∧ c = P i
/-- cells of others are as they were -/
def rm_st (mo : Nat) (P : Nat → Nat) (G G' : cx_G) : Prop := ∀ c e, ¬ rm_S mo P c → G.1 c = some e → G'.1 c = some e
theorem rm_st.rf (mo : Nat) (P : Nat → Nat) (G : cx_G) : rm_st mo P G G := fun _ _ _ h => h
theorem rm_st.tr {mo : Nat} {P : Nat → Nat} {G G1 G2 : cx_G} (h : rm_st mo P G G1) (h' : rm_st mo P G1 G2) : rm_st mo P G G2 := fun c e n q => h' c e n (h c e n q)
section RMR
variable {k : cx_K} {G G' : cx_G} {mo : Nat} {P : Nat → Nat} {M : rm_M}
theorem rm_R.b (h : rm_R k G mo P M) (i : Nat) (hi : rm_ty i = 0) : G.1 (P i) = some (.inl (k.2.1 0, rm_len M.2.2.2 i, .inl (M.2.1 i))) := h.2.1 i hi
theorem rm_R.i (h : rm_R k G mo P M) (i : Nat) (hi : rm_ty i = 1) : G.1 (P i) = some (.inl (k.2.1 1, rm_len M.2.2.2 i, .inl (M.2.1 i))) := h.2.2.1 i hi
theorem rm_R.l (h : rm_R k G mo P M) (i : Nat) (hi : rm_ty i = 2) : G.1 (P i) = some (.inl (k.2.1 2, rm_len M.2.2.2 i, .inr (.inl (M.2.2.1 i)))) := h.2.2.2.1 i hi
theorem rm_R.ne (h : rm_R k G mo P M) (i : Nat) (hi : rm_ty i ≠ 3) : P i ≠ mo := by
  obtain ⟨h1, h2, h3, h4, -⟩ := h
  have := rm_ty_le i
  have : rm_ty i = 0 ∨ rm_ty i = 1 ∨ rm_ty i = 2 := by omega
  rcases this with z | z | z
  · exact cx_neB h1 (h2 i z)
  · exact cx_neB h1 (h3 i z)
  · exact cx_neB h1 (h4 i z)
/-- an int field is set -/
theorem rm_R.pi (h : rm_R k G mo P M) {I : Nat → Int32} (hG : cx_put G mo (.inr (12, rm_fs P I)) = G') : rm_R k G' mo P (I, M.2) ∧ rm_st mo P G G' := by
  have hne := h.ne
  obtain ⟨h1, h2, h3, h4, h5⟩ := h
  refine ⟨⟨cx_ps hG, fun i hi => cx_pn hG (h2 i hi) (hne i (by rw [hi]; decide)), fun i hi => cx_pn hG (h3 i hi) (hne i (by rw [hi]; decide)), fun i hi => cx_pn hG (h4 i hi) (hne i (by rw [hi]; decide)), h5⟩, fun c e n q => cx_pn hG q (fun z => n (Or.inl z))⟩
/-- a place of a row of ints (of bytes) is set -/
theorem rm_R.si (h : rm_R k G mo P M) (i : Nat) (t : Nat) (hi : rm_ty i = t) (ht : t = 0 ∨ t = 1) {g : Nat → Int32} (hG : cx_put G (P i) (.inl (k.2.1 t, rm_len M.2.2.2 i, .inl g)) = G') : rm_R k G' mo P (M.1, va_up M.2.1 i g, M.2.2) ∧ rm_st mo P G G' := by
  have hmo := h.ne i (by rw [hi]; rcases ht with z | z <;> rw [z] <;> decide)
  obtain ⟨h1, h2, h3, h4, h5⟩ := h
  have hi3 : rm_ty i ≠ 3 := by rw [hi]; rcases ht with z | z <;> rw [z] <;> decide
  refine ⟨⟨cx_pn hG h1 hmo.symm, fun j hj => ?_, fun j hj => ?_, fun j hj => ?_, h5⟩, fun c e n q => cx_pn hG q (fun z => n (Or.inr ⟨i, hi3, z⟩))⟩
  · by_cases z : j = i
    · subst z
      rw [hj] at hi
      subst hi
      show G'.1 (P j) = some (.inl (_, _, .inl (va_up M.2.1 j g j)))
      rw [show va_up M.2.1 j g j = g from if_pos rfl]
      exact cx_ps hG
    · show G'.1 (P j) = some (.inl (_, _, .inl (va_up M.2.1 i g j)))
      rw [show va_up M.2.1 i g j = M.2.1 j from if_neg z]
      exact cx_pn hG (h2 j hj) (fun y => z (h5 j i (by rw [hj]; decide) hi3 y))
  · by_cases z : j = i
    · subst z
      rw [hj] at hi
      subst hi
      show G'.1 (P j) = some (.inl (_, _, .inl (va_up M.2.1 j g j)))
      rw [show va_up M.2.1 j g j = g from if_pos rfl]
      exact cx_ps hG
    · show G'.1 (P j) = some (.inl (_, _, .inl (va_up M.2.1 i g j)))
      rw [show va_up M.2.1 i g j = M.2.1 j from if_neg z]
      exact cx_pn hG (h3 j hj) (fun y => z (h5 j i (by rw [hj]; decide) hi3 y))
  · exact cx_pn hG (h4 j hj) (fun y => by
      have := h5 j i (by rw [hj]; decide) hi3 y
      rw [this, hi] at hj
      rcases ht with z | z <;> rw [z] at hj <;> cases hj)
/-- a place of a row of longs is set -/
theorem rm_R.sl (h : rm_R k G mo P M) (i : Nat) (hi : rm_ty i = 2) {g : Nat → Int64} (hG : cx_put G (P i) (.inl (k.2.1 2, rm_len M.2.2.2 i, .inr (.inl g))) = G') : rm_R k G' mo P (M.1, M.2.1, va_up M.2.2.1 i g, M.2.2.2) ∧ rm_st mo P G G' := by
  have hi3 : rm_ty i ≠ 3 := by rw [hi]; decide
  have hmo := h.ne i hi3
  obtain ⟨h1, h2, h3, h4, h5⟩ := h
  refine ⟨⟨cx_pn hG h1 hmo.symm, fun j hj => ?_, fun j hj => ?_, fun j hj => ?_, h5⟩, fun c e n q => cx_pn hG q (fun z => n (Or.inr ⟨i, hi3, z⟩))⟩
  · exact cx_pn hG (h2 j hj) (fun y => by
      have := h5 j i (by rw [hj]; decide) hi3 y
      rw [this, hi] at hj
      cases hj)
  · exact cx_pn hG (h3 j hj) (fun y => by
      have := h5 j i (by rw [hj]; decide) hi3 y
      rw [this, hi] at hj
      cases hj)
  · by_cases z : j = i
    · subst z
      show G'.1 (P j) = some (.inl (_, _, .inr (.inl (va_up M.2.2.1 j g j))))
      rw [show va_up M.2.2.1 j g j = g from if_pos rfl]
      exact cx_ps hG
    · show G'.1 (P j) = some (.inl (_, _, .inr (.inl (va_up M.2.2.1 i g j))))
      rw [show va_up M.2.2.1 i g j = M.2.2.1 j from if_neg z]
      exact cx_pn hG (h4 j hj) (fun y => z (h5 j i (by rw [hj]; decide) hi3 y))
end RMR
/-- what a method of the reference leaves that makes nothing -/
def rm_q (k : cx_K) (G : cx_G) (mo : Nat) (P : Nat → Nat) (v : Option Value) (M' : rm_M) : cx_R → cx_G → Prop := fun r G' => r = .inl v ∧ rm_R k G' mo P M' ∧ rm_st mo P G G' ∧ G'.2 = G.2

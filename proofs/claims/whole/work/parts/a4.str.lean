/-! THE WORLD AT THE ENTRY. -/
def lw_fl : List Cond := flatC (Jvm.Cond.and given_1 narrow_1)
def lw_tm (i : Nat) : Term := .string (cx_lit.getD i ("", 0, "")).1 (cx_lit.getD i ("", 0, "")).2.1
def lw_tv (i : Nat) : Term := .field (lw_tm i) "java/lang/String" "value" "[B"
def lw_po : List Nat := [414, 531, 539, 561, 591, 627, 662, 702, 727, 774, 809]
theorem lw_f0 : ∀ i, i < 11 → lw_fl[lw_po.getD i 0]? = some (Cond.exactly (lw_tm i) "java/lang/String") := by decide +kernel
theorem lw_f1 : ∀ i, i < 11 → lw_fl[lw_po.getD i 0 + 1]? = some (Cond.eq (.field (lw_tm i) "java/lang/String" "coder" "B") (.int 0)) := by decide +kernel
theorem lw_f2 : ∀ i, i < 11 → lw_fl[lw_po.getD i 0 + 2]? = some (Cond.arrayOf (lw_tv i) .byte) := by decide +kernel
theorem lw_f3 : ∀ i, i < 11 → lw_fl[lw_po.getD i 0 + 3]? = some (Cond.eq (.length (lw_tv i)) (.int (Int32.ofNat (cx_len.getD i 0)))) := by decide +kernel
theorem lw_f4 : ∀ i, i < 11 → ∀ j, j < cx_len.getD i 0 → lw_fl[lw_po.getD i 0 + 4 + j]? = some (Cond.eq (.elem (lw_tv i) (.int (Int32.ofNat j))) (.int ((cx_byt.getD i []).getD j 0))) := by decide +kernel
theorem lw_f5 : ∀ i, i < 11 → cx_len.getD i 0 < 2 ^ 31 := by decide +kernel
theorem lw_f6 : ∀ i, i < 11 → ∀ j, j < i → lw_fl[lw_po.getD i 0 + 4 + cx_len.getD i 0 + j]? = some (Cond.not (Cond.eq (lw_tm j) (lw_tm i))) := by decide +kernel
theorem lw_f7 : ∀ j, j < 113 → lw_fl[224 + j]? = some (Cond.eq (.elem (.static "CircuitTextModel" "WORDS" "[B") (.int (Int32.ofNat j))) (.int (cx_wrd.getD j 0))) := by decide +kernel
theorem lw_arr {s : State} {args : Array Value} {t : FieldType} (h : (Cond.arrayClass t).before args s = true) : ∃ cA : ClassId, ArrOfT s cA t ∧ s.vm.findClass ("[" ++ t.toString) = some cA := by
  obtain ⟨cA, kA, comp, h1, h2, h3⟩ := Cond.arrayClass_spec h
  exact ⟨cA, fun n z => ⟨fun k h => (by cases h), kA, h2, comp, h3⟩, h1⟩
theorem lw_aro {s : State} {args : Array Value} {C : String} (h : (Cond.arrayOver (.object C)).before args s = true) : ∃ cA : ClassId, ArrOfT s cA (.object C) ∧ va_RA s cA (.object C) := by
  obtain ⟨comp, cA, kA, h1, -, h2, h3, h4⟩ := Cond.arrayOver_spec h
  exact ⟨cA, fun n z => ⟨fun k h => (by cases h), kA, h2, comp, h3⟩, kA, comp, h2, h3, h1, h4⟩
section LWW
variable {s : State} {args : Array Value}
theorem lw_cls (hts : ∀ w ∈ lw_tbl, w.before args s = true) : ∃ (dC : Nat → ClassId) (dI : Nat → Nat → Nat), ∀ (k : Nat) (q : vw_C), classes[k]? = some q → u_Kn s q.1 q.2.1 q.2.2 (dC k) (dI k) := by
  obtain ⟨c0, i0, h0⟩ := u_known (n := 3) hts k_CT.2.1 (hts _ (in_1 (List.mem_of_getElem? (i := 38) rfl)))
  obtain ⟨c1, i1, h1⟩ := u_known (n := 4) hts k_Gr.2.1 (hts _ (in_2 (List.mem_of_getElem? (i := 116) rfl)))
  obtain ⟨c2, i2, h2⟩ := u_known (n := 2) hts k_Lx.2.1 (hts _ (in_2 (List.mem_of_getElem? (i := 4) rfl)))
  obtain ⟨c3, i3, h3⟩ := u_known (n := 3) hts k_Me.2.1 (hts _ (in_1 (List.mem_of_getElem? (i := 120) rfl)))
  obtain ⟨c4, i4, h4⟩ := u_known (n := 11) hts k_Nm.2.1 (hts _ (in_4 (List.mem_of_getElem? (i := 132) rfl)))
  obtain ⟨c5, i5, h5⟩ := u_known (n := 3) hts k_Pe.2.1 (hts _ (in_5 (List.mem_of_getElem? (i := 91) rfl)))
  obtain ⟨c6, i6, h6⟩ := u_known (n := 2) hts k_Ta.2.1 (hts _ (in_1 (List.mem_of_getElem? (i := 46) rfl)))
  obtain ⟨c7, i7, h7⟩ := u_known (n := 7) hts k_To.2.1 (hts _ (in_1 (List.mem_of_getElem? (i := 130) rfl)))
  obtain ⟨c8, i8, h8⟩ := u_known (n := 10) hts k_Un.2.1 (hts _ (in_1 (List.mem_of_getElem? (i := 128) rfl)))
  obtain ⟨c9, i9, h9⟩ := u_known (n := 2) hts k_Ve.2.1 (hts _ (in_1 (List.mem_of_getElem? (i := 103) rfl)))
  obtain ⟨c10, i10, h10⟩ := u_known (n := 5) hts k_Wd.2.1 (hts _ (in_2 (List.mem_of_getElem? (i := 77) rfl)))
  obtain ⟨c11, i11, h11⟩ := u_known (n := 1) hts k_Ws.2.1 (hts _ (in_2 (List.mem_of_getElem? (i := 10) rfl)))
  obtain ⟨c12, i12, h12⟩ := u_known (n := 58) hts k_Mo.2.1 (hts _ (in_6 (List.mem_of_getElem? (i := 88) rfl)))
  obtain ⟨c13, i13, h13⟩ := u_known (n := 3) hts k_AL.2.1 (hts _ (in_1 (List.mem_of_getElem? (i := 62) rfl)))
  obtain ⟨c14, i14, h14⟩ := u_known (n := 6) hts k_ISE.2.1 (hts _ (in_4 (List.mem_of_getElem? (i := 77) rfl)))
  obtain ⟨c15, i15, h15⟩ := u_known (n := 6) hts k_IAE.2.1 (hts _ (in_2 (List.mem_of_getElem? (i := 202) rfl)))
  obtain ⟨c16, i16, h16⟩ := u_known (n := 6) hts k_IOE.2.1 (hts _ (in_6 (List.mem_of_getElem? (i := 38) rfl)))
  obtain ⟨c17, i17, h17⟩ := u_known (n := 6) hts k_UOE.2.1 (hts _ (in_5 (List.mem_of_getElem? (i := 232) rfl)))
  refine ⟨fun k => match k with | 0 => c0 | 1 => c1 | 2 => c2 | 3 => c3 | 4 => c4 | 5 => c5 | 6 => c6 | 7 => c7 | 8 => c8 | 9 => c9 | 10 => c10 | 11 => c11 | 12 => c12 | 13 => c13 | 14 => c14 | 15 => c15 | 16 => c16 | _ => c17, fun k => match k with | 0 => i0 | 1 => i1 | 2 => i2 | 3 => i3 | 4 => i4 | 5 => i5 | 6 => i6 | 7 => i7 | 8 => i8 | 9 => i9 | 10 => i10 | 11 => i11 | 12 => i12 | 13 => i13 | 14 => i14 | 15 => i15 | 16 => i16 | _ => i17, ?_⟩
  intro k q hq
  match k, hq with
  | 0, hq => obtain rfl := Option.some.inj hq; exact h0
  | 1, hq => obtain rfl := Option.some.inj hq; exact h1
  | 2, hq => obtain rfl := Option.some.inj hq; exact h2
  | 3, hq => obtain rfl := Option.some.inj hq; exact h3
  | 4, hq => obtain rfl := Option.some.inj hq; exact h4
  | 5, hq => obtain rfl := Option.some.inj hq; exact h5
  | 6, hq => obtain rfl := Option.some.inj hq; exact h6
  | 7, hq => obtain rfl := Option.some.inj hq; exact h7
  | 8, hq => obtain rfl := Option.some.inj hq; exact h8
  | 9, hq => obtain rfl := Option.some.inj hq; exact h9
  | 10, hq => obtain rfl := Option.some.inj hq; exact h10
  | 11, hq => obtain rfl := Option.some.inj hq; exact h11
  | 12, hq => obtain rfl := Option.some.inj hq; exact h12
  | 13, hq => obtain rfl := Option.some.inj hq; exact h13
  | 14, hq => obtain rfl := Option.some.inj hq; exact h14
  | 15, hq => obtain rfl := Option.some.inj hq; exact h15
  | 16, hq => obtain rfl := Option.some.inj hq; exact h16
  | 17, hq => obtain rfl := Option.some.inj hq; exact h17
  | k + 18, hq => cases hq
theorem lw_tys (hts : ∀ w ∈ lw_tbl, w.before args s = true) : ∃ cA : Nat → ClassId, ∀ (k : Nat) (q : ClassId × FieldType), ([(cA 0, .byte), (cA 1, .int), (cA 2, .long), (cA 3, .object "java/lang/Object"), (cA 4, .object "CircuitText$Word")] : List (ClassId × FieldType))[k]? = some q → ArrOfT s q.1 q.2 ∧ va_RA s q.1 q.2 := by
  obtain ⟨a0, h0, g0⟩ := lw_arr (hts _ (in_1 (List.mem_of_getElem? (i := 60) rfl)))
  obtain ⟨a1, h1, g1⟩ := lw_arr (hts _ (in_7 (List.mem_of_getElem? (i := 30) rfl)))
  obtain ⟨a2, h2, g2⟩ := lw_arr (hts _ (in_7 (List.mem_of_getElem? (i := 31) rfl)))
  obtain ⟨a3, h3, g3⟩ := lw_aro (hts _ (in_5 (List.mem_of_getElem? (i := 0) rfl)))
  obtain ⟨a4, h4, g4⟩ := lw_aro (hts _ (in_2 (List.mem_of_getElem? (i := 16) rfl)))
  refine ⟨fun k => match k with | 0 => a0 | 1 => a1 | 2 => a2 | 3 => a3 | _ => a4, ?_⟩
  intro k q hq
  match k, hq with
  | 0, hq => obtain rfl := Option.some.inj hq; exact ⟨h0, g0⟩
  | 1, hq => obtain rfl := Option.some.inj hq; exact ⟨h1, g1⟩
  | 2, hq => obtain rfl := Option.some.inj hq; exact ⟨h2, g2⟩
  | 3, hq => obtain rfl := Option.some.inj hq; exact ⟨h3, g3⟩
  | 4, hq => obtain rfl := Option.some.inj hq; exact ⟨h4, g4⟩
  | k + 5, hq => cases hq
theorem lw_lits (hts : ∀ w ∈ lw_tbl, w.before args s = true) (hgv : (Jvm.Cond.and given_1 narrow_1).before args s = true) {A : Nat → Prop} (hA : ∀ a : Nat, a < s.heap.size → ¬ A a) : ∃ adK adV : Nat → Nat, vk_S 11 cx_len cx_byt adK adV A s s.heap ∧ ∀ (i : Nat) (q : String × Nat × String), cx_lit[i]? = some q → vk_R q.1 q.2.1 q.2.2 (adK i) s := by
  have hs : ∀ c ∈ lw_fl, c.before args s = true := flat_of_before _ hgv
  obtain ⟨adK, adV, h1, h2⟩ := vk_Sof (N := 11) (tm := lw_tm) (len := cx_len) (byt := cx_byt) (args := args) lw_f5 (fun i hi => hs _ (List.mem_of_getElem? (lw_f0 i hi))) (fun i hi => hs _ (List.mem_of_getElem? (lw_f1 i hi))) (fun i hi => hs _ (List.mem_of_getElem? (lw_f2 i hi))) (fun i hi => hs _ (List.mem_of_getElem? (lw_f3 i hi))) (fun i hi j hj => hs _ (List.mem_of_getElem? (lw_f4 i hi j hj))) (fun i j hi hj hne => by
    rcases Nat.lt_or_gt_of_ne hne with h | h
    · exact Or.inl (hs _ (List.mem_of_getElem? (lw_f6 j hj i h)))
    · exact Or.inr (hs _ (List.mem_of_getElem? (lw_f6 i hi j h)))) hA
  refine ⟨adK, adV, h1, ?_⟩
  intro i q hq
  match i, hq with
  | 0, hq => obtain rfl := Option.some.inj hq; exact vk_R.of (hts _ (in_2 (List.mem_of_getElem? (i := 17) rfl))) (h2 0 (by decide))
  | 1, hq => obtain rfl := Option.some.inj hq; exact vk_R.of (hts _ (in_3 (List.mem_of_getElem? (i := 108) rfl))) (h2 1 (by decide))
  | 2, hq => obtain rfl := Option.some.inj hq; exact vk_R.of (hts _ (in_3 (List.mem_of_getElem? (i := 237) rfl))) (h2 2 (by decide))
  | 3, hq => obtain rfl := Option.some.inj hq; exact vk_R.of (hts _ (in_4 (List.mem_of_getElem? (i := 0) rfl))) (h2 3 (by decide))
  | 4, hq => obtain rfl := Option.some.inj hq; exact vk_R.of (hts _ (in_4 (List.mem_of_getElem? (i := 85) rfl))) (h2 4 (by decide))
  | 5, hq => obtain rfl := Option.some.inj hq; exact vk_R.of (hts _ (in_6 (List.mem_of_getElem? (i := 0) rfl))) (h2 5 (by decide))
  | 6, hq => obtain rfl := Option.some.inj hq; exact vk_R.of (hts _ (in_6 (List.mem_of_getElem? (i := 21) rfl))) (h2 6 (by decide))
  | 7, hq => obtain rfl := Option.some.inj hq; exact vk_R.of (hts _ (in_6 (List.mem_of_getElem? (i := 46) rfl))) (h2 7 (by decide))
  | 8, hq => obtain rfl := Option.some.inj hq; exact vk_R.of (hts _ (in_6 (List.mem_of_getElem? (i := 53) rfl))) (h2 8 (by decide))
  | 9, hq => obtain rfl := Option.some.inj hq; exact vk_R.of (hts _ (in_6 (List.mem_of_getElem? (i := 66) rfl))) (h2 9 (by decide))
  | 10, hq => obtain rfl := Option.some.inj hq; exact vk_R.of (hts _ (in_6 (List.mem_of_getElem? (i := 67) rfl))) (h2 10 (by decide))
  | i + 11, hq => cases hq
theorem lw_world (hts : ∀ w ∈ lw_tbl, w.before args s = true) (hgv : (Jvm.Cond.and given_1 narrow_1).before args s = true) : ∃ k : cx_K, k.2.2.1 = s.heap.size ∧ cx_St k s ∧ cx_Od k s s.heap := by
  have hs : ∀ c ∈ lw_fl, c.before args s = true := flat_of_before _ hgv
  have hA : ∀ a : Nat, a < s.heap.size → ¬ (fun q : Nat => s.heap.size ≤ q) a := fun a h => Nat.not_le.mpr h
  obtain ⟨dC, dI, hcl⟩ := lw_cls hts
  obtain ⟨cA, hty⟩ := lw_tys hts
  obtain ⟨adK, adV, hl1, hl2⟩ := lw_lits hts hgv hA
  obtain ⟨mi, hmi⟩ := va_Mi.of (hs (Cond.isRef (.mirror "[Ljava/lang/Object;")) (by decide +kernel))
  obtain ⟨t0, ht0, hT0⟩ := va_Tof (f := fun _ => .null) (N := 0) (ty := .object "java/lang/Object") (by decide) (hs (Cond.arrayOf (.static "java/util/ArrayList" "DEFAULTCAPACITY_EMPTY_ELEMENTDATA" "[Ljava/lang/Object;") (.object "java/lang/Object")) (by decide +kernel)) (va_eqt (hs (Cond.eq (.length (.static "java/util/ArrayList" "DEFAULTCAPACITY_EMPTY_ELEMENTDATA" "[Ljava/lang/Object;")) (.int 0)) (by decide +kernel))) (fun j hj => absurd hj (Nat.not_lt_zero j)) hA
  have hZ0 := va_Zref (hts _ (in_1 (List.mem_of_getElem? (i := 74) rfl))) (hts _ (in_1 (List.mem_of_getElem? (i := 5) rfl))) ht0 hA
  obtain ⟨t1, ht1, hT1⟩ := va_Tof (f := fun j => .int (cx_wrd.getD j 0)) (N := 113) (ty := .byte) (by decide) (hs (Cond.arrayOf (.static "CircuitTextModel" "WORDS" "[B") .byte) (by decide +kernel)) (va_eqt (hs (Cond.eq (.length (.static "CircuitTextModel" "WORDS" "[B")) (.int 113)) (by decide +kernel))) (fun j hj => va_eqt (hs _ (List.mem_of_getElem? (lw_f7 j hj)))) hA
  have hZ1 := va_Zref (hts _ (in_7 (List.mem_of_getElem? (i := 74) rfl))) (hts _ (in_1 (List.mem_of_getElem? (i := 6) rfl))) ht1 hA
  have hZ2 := va_Zof (hts _ (in_2 (List.mem_of_getElem? (i := 27) rfl))) (hts _ (in_1 (List.mem_of_getElem? (i := 21) rfl))) (va_eqt (hs (Cond.eq (.static "java/lang/String" "COMPACT_STRINGS" "Z") (.int 1)) (by decide +kernel))) hA
  have hZ3 := va_Zqof (hts _ (in_2 (List.mem_of_getElem? (i := 43) rfl))) (hts _ (in_1 (List.mem_of_getElem? (i := 23) rfl))) (hs (Cond.isRef (.static "jdk/internal/util/Preconditions" "SIOOBE_FORMATTER" "Ljava/util/function/BiFunction;")) (by decide +kernel)) hA
  have hZ4 := va_Zqof (hts _ (in_2 (List.mem_of_getElem? (i := 228) rfl))) (hts _ (in_1 (List.mem_of_getElem? (i := 7) rfl))) (hs (Cond.isRef (.static "java/lang/Throwable" "UNASSIGNED_STACK" "[Ljava/lang/StackTraceElement;")) (by decide +kernel)) hA
  have hZ5 := va_Zqof (hts _ (in_2 (List.mem_of_getElem? (i := 230) rfl))) (hts _ (in_1 (List.mem_of_getElem? (i := 7) rfl))) (hs (Cond.isRef (.static "java/lang/Throwable" "SUPPRESSED_SENTINEL" "Ljava/util/List;")) (by decide +kernel)) hA
  have hZ6 := cx_LS0.of (hts _ (in_2 (List.mem_of_getElem? (i := 228) rfl))) hA
  have hZ7 := cx_LS0.of (hts _ (in_2 (List.mem_of_getElem? (i := 230) rfl))) hA
  refine ⟨((dC, dI), cA, s.heap.size, adK, adV, (fun i => match i with | 0 => t0 | 1 => t1 | _ => mi), fun _ => True), rfl, ⟨fun w hw ho a => cx_warm ho (State.WarmedH.refl s) (hts w hw), ⟨hcl, hty⟩, hl2, hmi, cx_NC.of (hs (Cond.not (.castable "java/lang/IllegalArgumentException" "java/lang/IndexOutOfBoundsException")) (by decide +kernel))⟩, hl1, hZ2, hZ3, hZ0, hT0, hZ1, hT1, hZ4, hZ5, hZ6, hZ7⟩
end LWW

/-! EXCEPTIONS: a new one with its message. -/
theorem xw_T {k : cx_K} {s : State} {args : Array Value} (hSt : cx_St k s) (hOd : cx_Od k s s.heap) : ∀ w ∈ Bundle.throwableAtoms, w.before args s = true :=
  (List.forall_mem_cons.mpr ⟨hSt.1 _ (in_1 (List.mem_of_getElem? (i := 7) rfl)) rfl args, (List.forall_mem_cons.mpr ⟨hSt.1 _ (in_2 (List.mem_of_getElem? (i := 223) rfl)) rfl args, (List.forall_mem_cons.mpr ⟨hSt.1 _ (in_2 (List.mem_of_getElem? (i := 232) rfl)) rfl args, (List.forall_mem_cons.mpr ⟨hSt.1 _ (in_2 (List.mem_of_getElem? (i := 237) rfl)) rfl args, (List.forall_mem_cons.mpr ⟨hSt.1 _ (in_3 (List.mem_of_getElem? (i := 0) rfl)) rfl args, (List.forall_mem_cons.mpr ⟨hSt.1 _ (in_3 (List.mem_of_getElem? (i := 2) rfl)) rfl args, (List.forall_mem_cons.mpr ⟨hSt.1 _ (in_2 (List.mem_of_getElem? (i := 224) rfl)) rfl args, (List.forall_mem_cons.mpr ⟨hSt.1 _ (in_2 (List.mem_of_getElem? (i := 225) rfl)) rfl args, (List.forall_mem_cons.mpr ⟨hSt.1 _ (in_1 (List.mem_of_getElem? (i := 43) rfl)) rfl args, (List.forall_mem_cons.mpr ⟨hSt.1 _ (in_1 (List.mem_of_getElem? (i := 44) rfl)) rfl args, (List.forall_mem_cons.mpr ⟨hSt.1 _ (in_2 (List.mem_of_getElem? (i := 226) rfl)) rfl args, (List.forall_mem_cons.mpr ⟨hSt.1 _ (in_2 (List.mem_of_getElem? (i := 231) rfl)) rfl args, (List.forall_mem_cons.mpr ⟨hSt.1 _ (in_2 (List.mem_of_getElem? (i := 238) rfl)) rfl args, (List.forall_mem_cons.mpr ⟨hSt.1 _ (in_3 (List.mem_of_getElem? (i := 221) rfl)) rfl args, (List.forall_mem_cons.mpr ⟨hSt.1 _ (in_2 (List.mem_of_getElem? (i := 213) rfl)) rfl args, (List.forall_mem_cons.mpr ⟨hSt.1 _ (in_3 (List.mem_of_getElem? (i := 222) rfl)) rfl args, (List.forall_mem_cons.mpr ⟨hSt.1 _ (in_2 (List.mem_of_getElem? (i := 215) rfl)) rfl args, (List.forall_mem_cons.mpr ⟨hSt.1 _ (in_3 (List.mem_of_getElem? (i := 223) rfl)) rfl args, (List.forall_mem_cons.mpr ⟨hSt.1 _ (in_2 (List.mem_of_getElem? (i := 217) rfl)) rfl args, (List.forall_mem_cons.mpr ⟨hSt.1 _ (in_2 (List.mem_of_getElem? (i := 227) rfl)) rfl args, (List.forall_mem_cons.mpr ⟨hOd.2.2.2.2.2.2.2.2.2.1.use, (List.forall_mem_cons.mpr ⟨hSt.1 _ (in_2 (List.mem_of_getElem? (i := 229) rfl)) rfl args, (List.forall_mem_cons.mpr ⟨hOd.2.2.2.2.2.2.2.2.2.2.use, (List.forall_mem_cons.mpr ⟨hSt.1 _ (in_2 (List.mem_of_getElem? (i := 219) rfl)) rfl args, (fun w hw => absurd hw (List.not_mem_nil))⟩)⟩)⟩)⟩)⟩)⟩)⟩)⟩)⟩)⟩)⟩)⟩)⟩)⟩)⟩)⟩)⟩)⟩)⟩)⟩)⟩)⟩)⟩)⟩)
theorem xw_S : ∀ w ∈ Bundle.throwableSAtoms, w ∈ lw_tbl ∧ cx_ok w = true :=
  (List.forall_mem_cons.mpr ⟨⟨(in_3 (List.mem_of_getElem? (i := 217) rfl)), rfl⟩, (List.forall_mem_cons.mpr ⟨⟨(in_3 (List.mem_of_getElem? (i := 218) rfl)), rfl⟩, (List.forall_mem_cons.mpr ⟨⟨(in_3 (List.mem_of_getElem? (i := 220) rfl)), rfl⟩, (List.forall_mem_cons.mpr ⟨⟨(in_2 (List.mem_of_getElem? (i := 219) rfl)), rfl⟩, (fun w hw => absurd hw (List.not_mem_nil))⟩)⟩)⟩)⟩)
theorem xw_cISE : ∀ w ∈ Bundle.chainSAtoms "java/lang/IllegalStateException" ["java/lang/RuntimeException", "java/lang/Exception"], w ∈ lw_tbl ∧ cx_ok w = true :=
  (List.forall_mem_cons.mpr ⟨⟨(in_4 (List.mem_of_getElem? (i := 87) rfl)), rfl⟩, (List.forall_mem_cons.mpr ⟨⟨(in_4 (List.mem_of_getElem? (i := 88) rfl)), rfl⟩, (List.forall_mem_cons.mpr ⟨⟨(in_4 (List.mem_of_getElem? (i := 89) rfl)), rfl⟩, (List.forall_mem_cons.mpr ⟨⟨(in_3 (List.mem_of_getElem? (i := 211) rfl)), rfl⟩, (List.forall_mem_cons.mpr ⟨⟨(in_2 (List.mem_of_getElem? (i := 205) rfl)), rfl⟩, (List.forall_mem_cons.mpr ⟨⟨(in_3 (List.mem_of_getElem? (i := 211) rfl)), rfl⟩, (List.forall_mem_cons.mpr ⟨⟨(in_3 (List.mem_of_getElem? (i := 212) rfl)), rfl⟩, (List.forall_mem_cons.mpr ⟨⟨(in_3 (List.mem_of_getElem? (i := 213) rfl)), rfl⟩, (List.forall_mem_cons.mpr ⟨⟨(in_3 (List.mem_of_getElem? (i := 214) rfl)), rfl⟩, (List.forall_mem_cons.mpr ⟨⟨(in_2 (List.mem_of_getElem? (i := 207) rfl)), rfl⟩, (List.forall_mem_cons.mpr ⟨⟨(in_3 (List.mem_of_getElem? (i := 214) rfl)), rfl⟩, (List.forall_mem_cons.mpr ⟨⟨(in_3 (List.mem_of_getElem? (i := 215) rfl)), rfl⟩, (List.forall_mem_cons.mpr ⟨⟨(in_3 (List.mem_of_getElem? (i := 216) rfl)), rfl⟩, (List.forall_mem_cons.mpr ⟨⟨(in_3 (List.mem_of_getElem? (i := 217) rfl)), rfl⟩, (List.forall_mem_cons.mpr ⟨⟨(in_2 (List.mem_of_getElem? (i := 209) rfl)), rfl⟩, (fun w hw => absurd hw (List.not_mem_nil))⟩)⟩)⟩)⟩)⟩)⟩)⟩)⟩)⟩)⟩)⟩)⟩)⟩)⟩)⟩)
theorem xw_cIAE : ∀ w ∈ Bundle.chainSAtoms "java/lang/IllegalArgumentException" ["java/lang/RuntimeException", "java/lang/Exception"], w ∈ lw_tbl ∧ cx_ok w = true :=
  (List.forall_mem_cons.mpr ⟨⟨(in_3 (List.mem_of_getElem? (i := 208) rfl)), rfl⟩, (List.forall_mem_cons.mpr ⟨⟨(in_3 (List.mem_of_getElem? (i := 209) rfl)), rfl⟩, (List.forall_mem_cons.mpr ⟨⟨(in_3 (List.mem_of_getElem? (i := 210) rfl)), rfl⟩, (List.forall_mem_cons.mpr ⟨⟨(in_3 (List.mem_of_getElem? (i := 211) rfl)), rfl⟩, (List.forall_mem_cons.mpr ⟨⟨(in_2 (List.mem_of_getElem? (i := 205) rfl)), rfl⟩, (List.forall_mem_cons.mpr ⟨⟨(in_3 (List.mem_of_getElem? (i := 211) rfl)), rfl⟩, (List.forall_mem_cons.mpr ⟨⟨(in_3 (List.mem_of_getElem? (i := 212) rfl)), rfl⟩, (List.forall_mem_cons.mpr ⟨⟨(in_3 (List.mem_of_getElem? (i := 213) rfl)), rfl⟩, (List.forall_mem_cons.mpr ⟨⟨(in_3 (List.mem_of_getElem? (i := 214) rfl)), rfl⟩, (List.forall_mem_cons.mpr ⟨⟨(in_2 (List.mem_of_getElem? (i := 207) rfl)), rfl⟩, (List.forall_mem_cons.mpr ⟨⟨(in_3 (List.mem_of_getElem? (i := 214) rfl)), rfl⟩, (List.forall_mem_cons.mpr ⟨⟨(in_3 (List.mem_of_getElem? (i := 215) rfl)), rfl⟩, (List.forall_mem_cons.mpr ⟨⟨(in_3 (List.mem_of_getElem? (i := 216) rfl)), rfl⟩, (List.forall_mem_cons.mpr ⟨⟨(in_3 (List.mem_of_getElem? (i := 217) rfl)), rfl⟩, (List.forall_mem_cons.mpr ⟨⟨(in_2 (List.mem_of_getElem? (i := 209) rfl)), rfl⟩, (fun w hw => absurd hw (List.not_mem_nil))⟩)⟩)⟩)⟩)⟩)⟩)⟩)⟩)⟩)⟩)⟩)⟩)⟩)⟩)⟩)
theorem xw_cIOE : ∀ w ∈ Bundle.chainSAtoms "java/lang/IndexOutOfBoundsException" ["java/lang/RuntimeException", "java/lang/Exception"], w ∈ lw_tbl ∧ cx_ok w = true :=
  (List.forall_mem_cons.mpr ⟨⟨(in_6 (List.mem_of_getElem? (i := 48) rfl)), rfl⟩, (List.forall_mem_cons.mpr ⟨⟨(in_6 (List.mem_of_getElem? (i := 49) rfl)), rfl⟩, (List.forall_mem_cons.mpr ⟨⟨(in_6 (List.mem_of_getElem? (i := 50) rfl)), rfl⟩, (List.forall_mem_cons.mpr ⟨⟨(in_3 (List.mem_of_getElem? (i := 211) rfl)), rfl⟩, (List.forall_mem_cons.mpr ⟨⟨(in_2 (List.mem_of_getElem? (i := 205) rfl)), rfl⟩, (List.forall_mem_cons.mpr ⟨⟨(in_3 (List.mem_of_getElem? (i := 211) rfl)), rfl⟩, (List.forall_mem_cons.mpr ⟨⟨(in_3 (List.mem_of_getElem? (i := 212) rfl)), rfl⟩, (List.forall_mem_cons.mpr ⟨⟨(in_3 (List.mem_of_getElem? (i := 213) rfl)), rfl⟩, (List.forall_mem_cons.mpr ⟨⟨(in_3 (List.mem_of_getElem? (i := 214) rfl)), rfl⟩, (List.forall_mem_cons.mpr ⟨⟨(in_2 (List.mem_of_getElem? (i := 207) rfl)), rfl⟩, (List.forall_mem_cons.mpr ⟨⟨(in_3 (List.mem_of_getElem? (i := 214) rfl)), rfl⟩, (List.forall_mem_cons.mpr ⟨⟨(in_3 (List.mem_of_getElem? (i := 215) rfl)), rfl⟩, (List.forall_mem_cons.mpr ⟨⟨(in_3 (List.mem_of_getElem? (i := 216) rfl)), rfl⟩, (List.forall_mem_cons.mpr ⟨⟨(in_3 (List.mem_of_getElem? (i := 217) rfl)), rfl⟩, (List.forall_mem_cons.mpr ⟨⟨(in_2 (List.mem_of_getElem? (i := 209) rfl)), rfl⟩, (fun w hw => absurd hw (List.not_mem_nil))⟩)⟩)⟩)⟩)⟩)⟩)⟩)⟩)⟩)⟩)⟩)⟩)⟩)⟩)⟩)
theorem xw_cUOE : ∀ w ∈ Bundle.chainSAtoms "java/lang/UnsupportedOperationException" ["java/lang/RuntimeException", "java/lang/Exception"], w ∈ lw_tbl ∧ cx_ok w = true :=
  (List.forall_mem_cons.mpr ⟨⟨(in_6 (List.mem_of_getElem? (i := 2) rfl)), rfl⟩, (List.forall_mem_cons.mpr ⟨⟨(in_6 (List.mem_of_getElem? (i := 3) rfl)), rfl⟩, (List.forall_mem_cons.mpr ⟨⟨(in_6 (List.mem_of_getElem? (i := 4) rfl)), rfl⟩, (List.forall_mem_cons.mpr ⟨⟨(in_3 (List.mem_of_getElem? (i := 211) rfl)), rfl⟩, (List.forall_mem_cons.mpr ⟨⟨(in_2 (List.mem_of_getElem? (i := 205) rfl)), rfl⟩, (List.forall_mem_cons.mpr ⟨⟨(in_3 (List.mem_of_getElem? (i := 211) rfl)), rfl⟩, (List.forall_mem_cons.mpr ⟨⟨(in_3 (List.mem_of_getElem? (i := 212) rfl)), rfl⟩, (List.forall_mem_cons.mpr ⟨⟨(in_3 (List.mem_of_getElem? (i := 213) rfl)), rfl⟩, (List.forall_mem_cons.mpr ⟨⟨(in_3 (List.mem_of_getElem? (i := 214) rfl)), rfl⟩, (List.forall_mem_cons.mpr ⟨⟨(in_2 (List.mem_of_getElem? (i := 207) rfl)), rfl⟩, (List.forall_mem_cons.mpr ⟨⟨(in_3 (List.mem_of_getElem? (i := 214) rfl)), rfl⟩, (List.forall_mem_cons.mpr ⟨⟨(in_3 (List.mem_of_getElem? (i := 215) rfl)), rfl⟩, (List.forall_mem_cons.mpr ⟨⟨(in_3 (List.mem_of_getElem? (i := 216) rfl)), rfl⟩, (List.forall_mem_cons.mpr ⟨⟨(in_3 (List.mem_of_getElem? (i := 217) rfl)), rfl⟩, (List.forall_mem_cons.mpr ⟨⟨(in_2 (List.mem_of_getElem? (i := 209) rfl)), rfl⟩, (fun w hw => absurd hw (List.not_mem_nil))⟩)⟩)⟩)⟩)⟩)⟩)⟩)⟩)⟩)⟩)⟩)⟩)⟩)⟩)⟩)
/-- what the tables say of the exception X -/
def cx_X (X : String) : List Cond := [.selects X Bundle.tFill0 Bundle.tFill0, .selects X Bundle.tFill Bundle.tFill, .lays X Bundle.tN "cause" "Ljava/lang/Throwable;", .lays X Bundle.tN "stackTrace" Bundle.steD, .lays X Bundle.tN "suppressedExceptions" Bundle.listD, .lays X Bundle.tN "detailMessage" "Ljava/lang/String;",
   .fieldLink Bundle.tN 198 Bundle.tN "backtrace" "Ljava/lang/Object;", .lays Bundle.tN Bundle.tN "backtrace" "Ljava/lang/Object;", .lays X Bundle.tN "backtrace" "Ljava/lang/Object;"]
theorem xw_xISE : ∀ w ∈ cx_X "java/lang/IllegalStateException", w ∈ lw_tbl ∧ cx_ok w = true :=
  (List.forall_mem_cons.mpr ⟨⟨(in_4 (List.mem_of_getElem? (i := 79) rfl)), rfl⟩, (List.forall_mem_cons.mpr ⟨⟨(in_2 (List.mem_of_getElem? (i := 234) rfl)), rfl⟩, (List.forall_mem_cons.mpr ⟨⟨(in_4 (List.mem_of_getElem? (i := 80) rfl)), rfl⟩, (List.forall_mem_cons.mpr ⟨⟨(in_4 (List.mem_of_getElem? (i := 81) rfl)), rfl⟩, (List.forall_mem_cons.mpr ⟨⟨(in_4 (List.mem_of_getElem? (i := 82) rfl)), rfl⟩, (List.forall_mem_cons.mpr ⟨⟨(in_4 (List.mem_of_getElem? (i := 83) rfl)), rfl⟩, (List.forall_mem_cons.mpr ⟨⟨(in_2 (List.mem_of_getElem? (i := 222) rfl)), rfl⟩, (List.forall_mem_cons.mpr ⟨⟨(in_2 (List.mem_of_getElem? (i := 221) rfl)), rfl⟩, (List.forall_mem_cons.mpr ⟨⟨(in_4 (List.mem_of_getElem? (i := 84) rfl)), rfl⟩, (fun w hw => absurd hw (List.not_mem_nil))⟩)⟩)⟩)⟩)⟩)⟩)⟩)⟩)⟩)
theorem xw_xIAE : ∀ w ∈ cx_X "java/lang/IllegalArgumentException", w ∈ lw_tbl ∧ cx_ok w = true :=
  (List.forall_mem_cons.mpr ⟨⟨(in_2 (List.mem_of_getElem? (i := 210) rfl)), rfl⟩, (List.forall_mem_cons.mpr ⟨⟨(in_2 (List.mem_of_getElem? (i := 211) rfl)), rfl⟩, (List.forall_mem_cons.mpr ⟨⟨(in_2 (List.mem_of_getElem? (i := 212) rfl)), rfl⟩, (List.forall_mem_cons.mpr ⟨⟨(in_2 (List.mem_of_getElem? (i := 214) rfl)), rfl⟩, (List.forall_mem_cons.mpr ⟨⟨(in_2 (List.mem_of_getElem? (i := 216) rfl)), rfl⟩, (List.forall_mem_cons.mpr ⟨⟨(in_2 (List.mem_of_getElem? (i := 218) rfl)), rfl⟩, (List.forall_mem_cons.mpr ⟨⟨(in_2 (List.mem_of_getElem? (i := 222) rfl)), rfl⟩, (List.forall_mem_cons.mpr ⟨⟨(in_2 (List.mem_of_getElem? (i := 221) rfl)), rfl⟩, (List.forall_mem_cons.mpr ⟨⟨(in_2 (List.mem_of_getElem? (i := 220) rfl)), rfl⟩, (fun w hw => absurd hw (List.not_mem_nil))⟩)⟩)⟩)⟩)⟩)⟩)⟩)⟩)⟩)
theorem xw_xIOE : ∀ w ∈ cx_X "java/lang/IndexOutOfBoundsException", w ∈ lw_tbl ∧ cx_ok w = true :=
  (List.forall_mem_cons.mpr ⟨⟨(in_6 (List.mem_of_getElem? (i := 40) rfl)), rfl⟩, (List.forall_mem_cons.mpr ⟨⟨(in_2 (List.mem_of_getElem? (i := 235) rfl)), rfl⟩, (List.forall_mem_cons.mpr ⟨⟨(in_6 (List.mem_of_getElem? (i := 41) rfl)), rfl⟩, (List.forall_mem_cons.mpr ⟨⟨(in_6 (List.mem_of_getElem? (i := 42) rfl)), rfl⟩, (List.forall_mem_cons.mpr ⟨⟨(in_6 (List.mem_of_getElem? (i := 43) rfl)), rfl⟩, (List.forall_mem_cons.mpr ⟨⟨(in_6 (List.mem_of_getElem? (i := 44) rfl)), rfl⟩, (List.forall_mem_cons.mpr ⟨⟨(in_2 (List.mem_of_getElem? (i := 222) rfl)), rfl⟩, (List.forall_mem_cons.mpr ⟨⟨(in_2 (List.mem_of_getElem? (i := 221) rfl)), rfl⟩, (List.forall_mem_cons.mpr ⟨⟨(in_6 (List.mem_of_getElem? (i := 45) rfl)), rfl⟩, (fun w hw => absurd hw (List.not_mem_nil))⟩)⟩)⟩)⟩)⟩)⟩)⟩)⟩)⟩)
theorem xw_xUOE : ∀ w ∈ cx_X "java/lang/UnsupportedOperationException", w ∈ lw_tbl ∧ cx_ok w = true :=
  (List.forall_mem_cons.mpr ⟨⟨(in_5 (List.mem_of_getElem? (i := 234) rfl)), rfl⟩, (List.forall_mem_cons.mpr ⟨⟨(in_2 (List.mem_of_getElem? (i := 236) rfl)), rfl⟩, (List.forall_mem_cons.mpr ⟨⟨(in_5 (List.mem_of_getElem? (i := 235) rfl)), rfl⟩, (List.forall_mem_cons.mpr ⟨⟨(in_5 (List.mem_of_getElem? (i := 236) rfl)), rfl⟩, (List.forall_mem_cons.mpr ⟨⟨(in_5 (List.mem_of_getElem? (i := 237) rfl)), rfl⟩, (List.forall_mem_cons.mpr ⟨⟨(in_5 (List.mem_of_getElem? (i := 238) rfl)), rfl⟩, (List.forall_mem_cons.mpr ⟨⟨(in_2 (List.mem_of_getElem? (i := 222) rfl)), rfl⟩, (List.forall_mem_cons.mpr ⟨⟨(in_2 (List.mem_of_getElem? (i := 221) rfl)), rfl⟩, (List.forall_mem_cons.mpr ⟨⟨(in_5 (List.mem_of_getElem? (i := 239) rfl)), rfl⟩, (fun w hw => absurd hw (List.not_mem_nil))⟩)⟩)⟩)⟩)⟩)⟩)⟩)⟩)⟩)
section CXX
variable {E : cx_E} {k : cx_K} {l : Launch} {fr : Nat} {M : cx_M} {G0 : cx_G} {Post : cx_R → cx_G → Prop} {pc : Nat} {lv : cx_L} {st : List Value} {G : cx_G}
/-- all that a new exception of class X at this place asks of the tables -/
def cx_XA (own : String) (idx ic ci : Nat) (X : String) : Prop := (∃ fs, fs.length = 6 ∧ cx_N own idx ci fs) ∧ (∃ T, classes[ci]? = some (X, T, 6)) ∧ Bundle.fit X = true ∧ Cond.methodLink own ic (Bundle.initS X) ∈ lw_tbl ∧ (∀ w ∈ Bundle.chainSAtoms X ["java/lang/RuntimeException", "java/lang/Exception"], w ∈ lw_tbl ∧ cx_ok w = true) ∧ ∀ w ∈ cx_X X, w ∈ lw_tbl ∧ cx_ok w = true
theorem va_Z.at {C n d : String} {v : Value} {A : Nat → Prop} {U : State} {H : Heap} (h : va_Z C n d v A U H) {cf : ClassId} {kf : Class} {fi : Nat} {f : Field} (hf : U.fieldFound? C n d = some (cf, kf, fi, f)) {a : Nat} (ha : kf.statics = some a) : ∃ cell, H[a]? = some cell ∧ cell.vm.isStatics = true ∧ cell.slots[f.slot]? = some v ∧ ¬ A a := by
  obtain ⟨cf', kf', fi', f', a', cell, h1, h2, h3, h4, h5, h6, h7, h8⟩ := h
  rw [hf] at h1
  cases h1
  rw [ha] at h4
  cases h4
  exact ⟨cell, h5, h6, h7, h8⟩
theorem va_Zq.at {C n d : String} {A : Nat → Prop} {U : State} {H : Heap} (h : va_Zq C n d A U H) {cf : ClassId} {kf : Class} {fi : Nat} {f : Field} (hf : U.fieldFound? C n d = some (cf, kf, fi, f)) {a : Nat} (ha : kf.statics = some a) : ∃ (u : RefV) (cell : Cell), H[a]? = some cell ∧ cell.vm.isStatics = true ∧ cell.slots[f.slot]? = some u.v ∧ ¬ A a := by
  rcases h with h | ⟨t, h⟩
  · obtain ⟨cell, q⟩ := h.at hf ha
    exact ⟨⟨.null, rfl⟩, cell, q⟩
  · obtain ⟨cell, q⟩ := h.at hf ha
    exact ⟨⟨.ref t, rfl⟩, cell, q⟩
set_option maxHeartbeats 1000000 in
theorem cx_newX {idx li i ic ci : Nat} {X : String} {q9 : String × Nat × String} (hE : cx_C E k l fr M G0 Post) (hfl : l.flags = flags0) (hXA : cx_XA M.1.cls idx ic ci X) (hd0 : decode M.2.1 pc = .ok (.new idx, 3)) (hd3 : decode M.2.1 (pc + 3) = .ok (.dup, 1)) (hd4 : decode M.2.1 (pc + 4) = .ok (.ldc li, 2)) (hd6 : decode M.2.1 (pc + 6) = .ok (.invokespecial ic, 3))
    (hq : cx_lit[i]? = some q9) (hq1 : q9.1 = M.1.cls) (hq2 : q9.2.1 = li) (hfr : 6 ≤ fr) (hwst : (st.map fun v => v.category).sum ≤ 8) (hn1 : G.2.1 + 1 ≤ 601024) (hn2 : G.2.2 + 6 ≤ 7293034) (h : ∀ a fs, G.1 a = none → k.2.2.1 ≤ a → cx_V E (pc + 9) lv (.ref a :: st) (cx_mk G a (.inr (ci, fs)) 6)) : cx_V E pc lv st G := by
  obtain ⟨k', ⟨p, l', e, R, s, m, args, below, meth, c⟩, nL', fr', c0, s0, Q⟩ := E
  obtain ⟨hx, hb, hml, rfl, hown, hSt, rfl, hOd, hb0, hRf, hRl, hrc, hrs, -, hlk, -, -, rfl, -, rfl, rfl, -⟩ := hE
  intro H locs ls cells slots h1 h2 h3 h4 h5
  obtain ⟨-, -, ws, hP, hD, hw⟩ := h1
  obtain ⟨⟨fs0, hfs0, C, T, t, ⟨c1, c2, c3, c4⟩, hcl, hins, hini, hdef⟩, ⟨T9, hX9⟩, hfit, hml9, hch, hxx⟩ := hXA
  rw [hfs0] at c1 c2 c3 c4 hins hdef
  cases c1.symm.trans hX9
  have hKn := hSt.2.1.1 ci _ c1
  have hr := hSt.2.2.1 i q9 hq
  rw [hq1, hq2] at hr
  have room1 : (601024 : Nat) ≤ G0.2.1 + R.cells := hrc
  have room2 : (7293034 : Nat) ≤ G0.2.2 + R.slots := hrs
  refine W.newcK hx hb hown (hSt.1 _ hcl rfl args) (hSt.1 _ hins rfl args) (hSt.1 _ hini rfl args) rfl hd0 (by omega) (by omega) hKn.2.1 rfl fun H1 kC hkC e1 z1 o1 => ?_
  refine lv_dup hx hb hd3 rfl ?_
  refine va_ldcS hx hb hown hr hd4 ?_
  intro TT hT X0
  have hH1 : TT.heap = H1 := hT
  have htr : e.platform.stackTraces = false := by
    have := X0.admits.2.2.2.2.1
    rw [this]
    show l'.stackTraces = false
    unfold Launch.stackTraces
    rw [hfl]
    decide +kernel
  have howns : e.platform.frameOwnsMonitors = true := by rw [X0.admits.platform]
  have hfin : e.platform.finalization = false := by rw [X0.admits.platform]
  have hpl : e.platform.magicAccessors = ({} : Platform).magicAccessors := by rw [X0.admits.platform]
  obtain ⟨TC, Z0, L, -, Y⟩ := ThrowableC.of_atoms (args := args) howns hfin hpl (xw_T hSt hOd)
  obtain ⟨Z, MM, LZ, LM, hnZ⟩ := Init0T.ofS_atoms (args := args) hpl L Y (fun x hx => hSt.1 x (xw_S x hx).1 (xw_S x hx).2 args)
  obtain ⟨P1, Ps, hlen, L1, hL, hP1m, hlink1, hlink⟩ := Bundle.chainS (args := args) hpl hnZ ["java/lang/RuntimeException", "java/lang/Exception"] X hfit (by decide +kernel) (fun x hx => hSt.1 x (hch x hx).1 (hch x hx).2 args)
  have hfound : s.vm.findClass X = some P1.m.cls := findClass_of_methodNamed hP1m
  have hD1 : k'.1.1 ci = P1.m.cls := Option.some.inj (hKn.2.1.symm.trans hfound)
  have hts9 : ∀ w ∈ u_ws X T 6, w.before args s = true := fun w hw => hSt.1 w (c2 w hw) (cx_ok_lay X T 6 w hw) args
  have hborn := u_born t hts9 (fun w hw => hw) hKn hkC e1 c3
  rw [hD1] at hkC e1 hborn
  have a' : ∀ x ∈ cx_X X, x.holds args s none s [] = true := fun x hx => hSt.1 x (hxx x hx).1 (hxx x hx).2 args
  obtain ⟨c1', kX', hc1', hk', hord, -, -, hn6⟩ := Cond.instantiable_spec (hSt.1 _ hins rfl args)
  cases Option.some.inj (hc1'.symm.trans hfound)
  cases Option.some.inj (hk'.symm.trans hkC)
  have hsel0 : selectMethod e.platform s.vm P1.m.cls TC.fill0 = .method TC.fill0 := by
    obtain ⟨c2, r2, m2, q1, q2, q3, q4, -⟩ := Cond.selects_spec (a' (.selects X Bundle.tFill0 Bundle.tFill0) (by simp [cx_X]))
    cases Option.some.inj (q1.symm.trans hfound)
    cases Option.some.inj (q2.symm.trans (State.methodFound?_of_named Y.fill0 (by decide)))
    cases Option.some.inj (q3.symm.trans Y.fill0)
    rw [Launch.admits_selectMethod X0.admits]; exact q4
  have hselF : selectMethod e.platform s.vm P1.m.cls TC.fill = .method TC.fill := by
    obtain ⟨c2, r2, m2, q1, q2, q3, q4, -⟩ := Cond.selects_spec (a' (.selects X Bundle.tFill Bundle.tFill) (by simp [cx_X]))
    cases Option.some.inj (q1.symm.trans hfound)
    cases Option.some.inj (q2.symm.trans (State.methodFound?_of_named Y.fill (by decide)))
    cases Option.some.inj (q3.symm.trans Y.fill)
    rw [Launch.admits_selectMethod X0.admits]; exact q4
  have hq1 : ∀ q : Nat, q < s.heap.size → ¬ cx_A k' q → H1[q]? = s.heap[q]? := fun q z1 z2 => (o1 q (Nat.lt_of_lt_of_le z1 h2.1)).trans (h2.2.1 q z1 z2)
  obtain ⟨u0, cellS, hcS, hisS, hu0, -⟩ := (va_Zq.kept hOd.2.2.2.2.2.2.2.1 hq1).at Y.unassigned L.statics
  obtain ⟨sen, cellS', hcS', -, hsen, -⟩ := (va_Zq.kept hOd.2.2.2.2.2.2.2.2.1 hq1).at Y.sentinel L.statics
  cases Option.some.inj (hcS.symm.trans hcS')
  have hknownS : cellS.vm ≠ .unknown := by
    intro hu
    rw [hu] at hisS
    cases hisS
  obtain ⟨cellS0, hcS0, -⟩ := Y.statics
  have hneS : TC.aS ≠ H.size := Nat.ne_of_lt (Nat.lt_of_lt_of_le (Array.getElem?_eq_some_iff.mp hcS0).1 h2.1)
  obtain ⟨iM, hffM⟩ := Y.msg
  obtain ⟨ci198, i198, fB, hk198, hg198, ha198, hsB, -, hnB, htB, hffB⟩ := Cond.ownField (t := .object "java/lang/Object") Y.found L.cls (by decide +kernel) (a' (.fieldLink Bundle.tN 198 Bundle.tN "backtrace" "Ljava/lang/Object;") (by simp [cx_X])) (a' (.lays Bundle.tN Bundle.tN "backtrace" "Ljava/lang/Object;") (by simp [cx_X])) e.platform hpl
  obtain ⟨tyC, dC, hdC, hdnC⟩ := Cond.laysAt hfound hkC Y.cause (a' (.lays X Bundle.tN "cause" "Ljava/lang/Throwable;") (by simp [cx_X]))
  obtain ⟨tyS, dS, hdS, hdnS⟩ := Cond.laysAt hfound hkC Y.stack (a' (.lays X Bundle.tN "stackTrace" Bundle.steD) (by simp [cx_X]))
  obtain ⟨tyP, dP, hdP, hdnP⟩ := Cond.laysAt hfound hkC Y.supp (a' (.lays X Bundle.tN "suppressedExceptions" Bundle.listD) (by simp [cx_X]))
  obtain ⟨tyM, dM, hdM, hdnM⟩ := Cond.laysAt hfound hkC hffM (a' (.lays X Bundle.tN "detailMessage" "Ljava/lang/String;") (by simp [cx_X]))
  obtain ⟨tyB, dB, hdB, hdnB⟩ := Cond.laysAt hfound hkC hffB (a' (.lays X Bundle.tN "backtrace" "Ljava/lang/Object;") (by simp [cx_X]))
  have bC := Cond.laysApart hdB hdC hdnB hdnC (by rw [hnB, Y.causeName]; decide)
  have bS := Cond.laysApart hdB hdS hdnB hdnS (by rw [hnB, Y.stackName]; decide)
  have bP := Cond.laysApart hdB hdP hdnB hdnP (by rw [hnB, Y.suppName]; decide)
  have hskip : SkipFacts TC e.platform s (fun u => u) u0 ((preparedCellV TC.toThrowableT (freshCell P1.m.cls kC) H.size u0 sen).withEntry TT.cur) :=
    ⟨{ ci198 := ci198, i198 := i198, fBack := fB }, ⟨hk198, hg198, ha198, hsB⟩, by
      have := fresh_default (c := P1.m.cls) tyB
      rw [htB] at this
      simpa [preparedCellV, Cell.setSlot, Cell.withEntry, Array.getElem?_setIfInBounds, bC, bS, bP, bC.symm, bS.symm, bP.symm, defaultValue] using this, fun _ _ => rfl⟩
  obtain ⟨tm, methC, cdC, kC9, vm₁, hnC, -, -, -, -, -, -, -, hW₁, st1⟩ := Steps.initColdS (tb := p.tables) (e := e) (below := below) (s := s) (U := TT) X0.here hx X0.warmed hpl hown (t := Bundle.initS X) rfl rfl (Bundle.fit_spec hfit).2
    (hSt.1 _ hml9 rfl args) (hSt.1 (.instanceMethod (Bundle.initS X)) (hch _ (by simp [Bundle.chainSAtoms, Bundle.passSAtoms])).1 rfl args) (bytes := Bundle.six) (maxL := 2) (hSt.1 (.code (Bundle.initS X) Bundle.six 2 none) (hch _ (by simp [Bundle.chainSAtoms, Bundle.passSAtoms])).1 rfl args)
    (f := F0 m (pc + 6) ls (.ref (k'.2.2.2.1 i) :: .ref H.size :: .ref H.size :: st)) rfl (a := H.size) (msg := .ref (k'.2.2.2.1 i)) (rest := .ref H.size :: st) rfl (by rw [hb]; exact hd6)
  cases Option.some.inj (hnC.symm.trans hP1m)
  have X₁ := X0.noted hW₁
  have hlen2 : Ps.length = 2 := hlen
  obtain ⟨vm₂, X₂, st2⟩ := X₁.ctorMessageOffV hx (g := F0 m (pc + 6) ls (.ref H.size :: st)) rfl (by rw [hml]; exact h3.1.1) TC L Z LZ MM LM (P1 :: Ps)
    (fun P hP => by rcases List.mem_cons.mp hP with rfl | hP; exact L1; exact hL P hP) ⟨hlink1, hlink⟩ (u0 := u0) (sen := sen) (self := H.size) (msg := .ref (k'.2.2.2.1 i)) rfl (cell := freshCell P1.m.cls kC) (cellS := cellS)
    (by show TT.heap[H.size]? = _; rw [hH1]; exact e1) (fun _ => by simp) (by simp) rfl rfl hsel0 hselF (by show TT.heap[TC.aS]? = _; rw [hH1]; exact hcS) hneS hknownS hu0 hsen
    (Takes.of_laid hkC hord tyC (by rw [Y.causeType]; rfl)) (Takes.of_laid hkC hord tyS (by rw [Y.stackType]; exact fits_refV_array _ u0)) (Takes.of_laid hkC hord tyP (by rw [Y.suppType]; exact fits_refV_object _ sen))
    (Takes.of_laid hkC hord tyM (by rw [Y.msgType]; rfl)) Y.objLocals hskip htr [] (by rw [hb]; exact hd6)
    (by simp only [List.length_cons, hlen2]; omega) (by have hmr : (F0 m (pc + 6) ls (.ref H.size :: st)).monitorRoom = 0 := rfl
                                                        rw [hmr]
                                                        simp only [List.length_cons, hlen2, List.map_cons, List.sum_cons]
                                                        show 2 * 0 + (1 + _) + _ ≤ _
                                                        omega)
  have hlt : H.size < TT.heap.size := by rw [hH1]; omega
  have hU := heapAt_setCell_self (s := (TT.setVm vm₁).setVm vm₂) (plainBareV TC.toThrowableT (freshCell P1.m.cls kC) H.size u0 sen (.ref (k'.2.2.2.1 i))) hlt
  have hUo : ∀ q, q < H.size → (((TT.setVm vm₁).setVm vm₂).setCell H.size (plainBareV TC.toThrowableT (freshCell P1.m.cls kC) H.size u0 sen (.ref (k'.2.2.2.1 i)))).heap[q]? = H[q]? := fun q hq => by
    rw [heapAt_setCell_ne _ (Nat.ne_of_gt hq)]
    show TT.heap[q]? = _
    rw [hH1]
    exact o1 q hq
  have f1 : (plainBareV TC.toThrowableT (freshCell P1.m.cls kC) H.size u0 sen (.ref (k'.2.2.2.1 i))).cls = P1.m.cls := rfl
  have f2 : (plainBareV TC.toThrowableT (freshCell P1.m.cls kC) H.size u0 sen (.ref (k'.2.2.2.1 i))).vm = .none := rfl
  have f3 : (plainBareV TC.toThrowableT (freshCell P1.m.cls kC) H.size u0 sen (.ref (k'.2.2.2.1 i))).slots.size = (freshCell P1.m.cls kC).slots.size := by simp [plainBareV, preparedCellV, Cell.setSlot]
  generalize plainBareV TC.toThrowableT (freshCell P1.m.cls kC) H.size u0 sen (.ref (k'.2.2.2.1 i)) = cell9 at X₂ st2 hU hUo f1 f2 f3
  obtain ⟨cellb, hb1, -, -, hb4⟩ := hborn
  cases Option.some.inj (hb1.symm.trans e1)
  have f4 : ∀ j, j < 6 → k'.1.2 ci j < cell9.slots.size := fun j hj => by
    rw [f3]
    exact (Array.getElem?_eq_some_iff.mp (hb4 j hj)).1
  have hP9 : va_P k'.1 classes (ws ++ [(H.size, .inr (ci, (List.range 6).map (fun j => cell9.slots.getD (k'.1.2 ci j) .null)))]) (((TT.setVm vm₁).setVm vm₂).setCell H.size cell9).heap := by
    refine (hP.kept (fun j x hx => hUo x.1 ((hP j x hx).lt))).app (fun j x hx => ?_)
    have hz : j < 1 := (List.getElem?_eq_some_iff.mp hx).1
    rw [show j = 0 by omega] at hx
    cases hx
    refine ⟨_, c1, cell9, hU, by rw [f1]; exact hD1.symm, f2, fun j hj => ?_⟩
    have hj6 : j < 6 := hj
    unfold vp_V
    rw [List.getD_eq_getElem?_getD, List.getElem?_map, List.getElem?_range hj6]
    show _ = some (cell9.slots.getD (k'.1.2 ci j) .null)
    rw [Array.getD_eq_getD_getElem?, Array.getElem?_eq_getElem (f4 j hj6)]
    rfl
  have hD9 := hD.push hP (a := H.size) (e := .inr (ci, (List.range 6).map (fun j => cell9.slots.getD (k'.1.2 ci j) .null))) rfl (show cx_A k' H.size from Nat.le_trans hb0 h2.1)
  obtain ⟨y1, y2, y3⟩ := cx_H.push (G := G) (n := 6) hn1 hn2 hw hP9 hD9
  have hS9 : va_S (cx_A k') s.heap (((TT.setVm vm₁).setVm vm₂).setCell H.size cell9).heap (locs ++ [⟨H.size, TC.fCause.slot⟩, ⟨H.size, TC.fStack.slot⟩, ⟨H.size, TC.fSupp.slot⟩, ⟨H.size, TC.fStack.slot⟩, ⟨H.size, TC.fMsg.slot⟩]) := by
    refine ⟨?_, fun q z1 z2 => (hUo q (Nat.lt_of_lt_of_le z1 h2.1)).trans (h2.2.1 q z1 z2), fun x hx => ?_⟩
    · show s.heap.size ≤ (TT.heap.setIfInBounds H.size cell9).size
      rw [Array.size_setIfInBounds, hH1]
      have := h2.1
      omega
    · rcases List.mem_append.mp hx with z | z
      · exact h2.2.2 x z
      · have hb9 : x.base = H.size := by
          simp only [List.mem_cons, List.not_mem_nil, or_false] at z
          rcases z with rfl | rfl | rfl | rfl | rfl <;> rfl
        rw [hb9]
        exact Nat.le_trans hb0 h2.1
  obtain ⟨t9, b1, b2⟩ := h H.size _ y2 y3 _ _ ls (cells + 1) (slots + 6) y1 hS9 h3 (by show _ = G.2.1 + 1; omega) (by show _ = G.2.2 + 6; omega) _ rfl X₂
  refine ⟨t9, st1 _ (fun acts => ?_), b2⟩
  rw [doInvoke_state]
  exact st2 _ b1
end CXX

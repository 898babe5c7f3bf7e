/-! NAMES (printed by a program of ours out of the tables): the classes whose objects the worlds hold, their fields, and where their words stand. -/
theorem in_1 {w : Cond} (h : w ∈ tables_1_1) : w ∈ lw_tbl := List.mem_append_right _ (List.mem_append_left _ h)
theorem in_2 {w : Cond} (h : w ∈ tables_1_2) : w ∈ lw_tbl := List.mem_append_right _ (List.mem_append_right _ (List.mem_append_left _ h))
theorem in_3 {w : Cond} (h : w ∈ tables_1_3) : w ∈ lw_tbl := List.mem_append_right _ (List.mem_append_right _ (List.mem_append_right _ (List.mem_append_left _ h)))
theorem in_4 {w : Cond} (h : w ∈ tables_1_4) : w ∈ lw_tbl := List.mem_append_right _ (List.mem_append_right _ (List.mem_append_right _ (List.mem_append_right _ (List.mem_append_left _ h))))
theorem in_5 {w : Cond} (h : w ∈ tables_1_5) : w ∈ lw_tbl := List.mem_append_right _ (List.mem_append_right _ (List.mem_append_right _ (List.mem_append_right _ (List.mem_append_right _ (List.mem_append_left _ h)))))
theorem in_6 {w : Cond} (h : w ∈ tables_1_6) : w ∈ lw_tbl := List.mem_append_right _ (List.mem_append_right _ (List.mem_append_right _ (List.mem_append_right _ (List.mem_append_right _ (List.mem_append_right _ (List.mem_append_left _ h))))))
theorem in_7 {w : Cond} (h : w ∈ tables_1_7) : w ∈ lw_tbl := List.mem_append_right _ (List.mem_append_right _ (List.mem_append_right _ (List.mem_append_right _ (List.mem_append_right _ (List.mem_append_right _ (List.mem_append_right _ (List.mem_append_left _ h)))))))
theorem in_8 {w : Cond} (h : w ∈ tables_1_8) : w ∈ lw_tbl := List.mem_append_right _ (List.mem_append_right _ (List.mem_append_right _ (List.mem_append_right _ (List.mem_append_right _ (List.mem_append_right _ (List.mem_append_right _ (List.mem_append_right _ (h))))))))
def F_CT : u_T := fun k => match k with
  | 0 => ("CircuitText", "tape", "LCircuitText$Tape;", true)
  | 1 => ("CircuitText", "units", "Ljava/util/ArrayList;", false)
  | _ => ("CircuitText", "latestFault", "I", false)
def t_CT : Nat → FieldType := fun k => match k with
  | 0 => .object "CircuitText$Tape"
  | 1 => .object "java/util/ArrayList"
  | _ => .int
def F_Gr : u_T := fun k => match k with
  | 0 => ("CircuitText$Grammar", "meaning", "LCircuitText$Meaning;", true)
  | 1 => ("CircuitText$Grammar", "verdict", "LCircuitText$Verdict;", true)
  | 2 => ("CircuitText$Grammar", "now", "LCircuitText$Token;", false)
  | _ => ("CircuitText$Grammar", "open", "I", false)
def t_Gr : Nat → FieldType := fun k => match k with
  | 0 => .object "CircuitText$Meaning"
  | 1 => .object "CircuitText$Verdict"
  | 2 => .object "CircuitText$Token"
  | _ => .int
def F_Lx : u_T := fun k => match k with
  | 0 => ("CircuitText$Lexer", "tape", "LCircuitText$Tape;", true)
  | _ => ("CircuitText$Lexer", "words", "LCircuitText$Words;", true)
def t_Lx : Nat → FieldType := fun k => match k with
  | 0 => .object "CircuitText$Tape"
  | _ => .object "CircuitText$Words"
def F_Me : u_T := fun k => match k with
  | 0 => ("CircuitText$Meaning", "verdict", "LCircuitText$Verdict;", true)
  | 1 => ("CircuitText$Meaning", "units", "Ljava/util/ArrayList;", true)
  | _ => ("CircuitText$Meaning", "unit", "LCircuitText$Unit;", false)
def t_Me : Nat → FieldType := fun k => match k with
  | 0 => .object "CircuitText$Verdict"
  | 1 => .object "java/util/ArrayList"
  | _ => .object "CircuitText$Unit"
def F_Nm : u_T := fun k => match k with
  | 0 => ("CircuitText$Name", "owner", "LCircuitText$Unit;", true)
  | 1 => ("CircuitText$Name", "word", "LCircuitText$Word;", true)
  | 2 => ("CircuitText$Name", "kind", "I", true)
  | 3 => ("CircuitText$Name", "width", "I", true)
  | 4 => ("CircuitText$Name", "place", "I", true)
  | 5 => ("CircuitText$Name", "begins", "J", false)
  | 6 => ("CircuitText$Name", "driven", "Z", false)
  | 7 => ("CircuitText$Name", "setIn", "I", false)
  | 8 => ("CircuitText$Name", "of", "LCircuitText$Unit;", false)
  | 9 => ("CircuitText$Name", "linked", "I", false)
  | _ => ("CircuitText$Name", "linkedBy", "LCircuitText$Name;", false)
def t_Nm : Nat → FieldType := fun k => match k with
  | 0 => .object "CircuitText$Unit"
  | 1 => .object "CircuitText$Word"
  | 2 => .int
  | 3 => .int
  | 4 => .int
  | 5 => .long
  | 6 => .boolean
  | 7 => .int
  | 8 => .object "CircuitText$Unit"
  | 9 => .int
  | _ => .object "CircuitText$Name"
def F_Pe : u_T := fun k => match k with
  | 0 => ("CircuitText$Pending", "operator", "LCircuitText$Token;", true)
  | 1 => ("CircuitText$Pending", "width", "I", true)
  | _ => ("CircuitText$Pending", "below", "LCircuitText$Pending;", true)
def t_Pe : Nat → FieldType := fun k => match k with
  | 0 => .object "CircuitText$Token"
  | 1 => .int
  | _ => .object "CircuitText$Pending"
def F_Ta : u_T := fun k => match k with
  | 0 => ("CircuitText$Tape", "bytes", "[B", false)
  | _ => ("CircuitText$Tape", "length", "I", false)
def t_Ta : Nat → FieldType := fun k => match k with
  | 0 => .array .byte
  | _ => .int
def F_To : u_T := fun k => match k with
  | 0 => ("CircuitText$Token", "kind", "I", true)
  | 1 => ("CircuitText$Token", "place", "I", true)
  | 2 => ("CircuitText$Token", "behind", "I", true)
  | 3 => ("CircuitText$Token", "next", "LCircuitText$Token;", false)
  | 4 => ("CircuitText$Token", "word", "LCircuitText$Word;", false)
  | 5 => ("CircuitText$Token", "width", "I", false)
  | _ => ("CircuitText$Token", "value", "J", false)
def t_To : Nat → FieldType := fun k => match k with
  | 0 => .int
  | 1 => .int
  | 2 => .int
  | 3 => .object "CircuitText$Token"
  | 4 => .object "CircuitText$Word"
  | 5 => .int
  | _ => .long
def F_Un : u_T := fun k => match k with
  | 0 => ("CircuitText$Unit", "word", "LCircuitText$Word;", true)
  | 1 => ("CircuitText$Unit", "place", "I", true)
  | 2 => ("CircuitText$Unit", "number", "I", true)
  | 3 => ("CircuitText$Unit", "names", "Ljava/util/ArrayList;", true)
  | 4 => ("CircuitText$Unit", "ports", "I", false)
  | 5 => ("CircuitText$Unit", "assigns", "I", false)
  | 6 => ("CircuitText$Unit", "always", "I", false)
  | 7 => ("CircuitText$Unit", "instances", "I", false)
  | 8 => ("CircuitText$Unit", "asserts", "I", false)
  | _ => ("CircuitText$Unit", "cost", "I", false)
def t_Un : Nat → FieldType := fun k => match k with
  | 0 => .object "CircuitText$Word"
  | 1 => .int
  | 2 => .int
  | 3 => .object "java/util/ArrayList"
  | 4 => .int
  | 5 => .int
  | 6 => .int
  | 7 => .int
  | 8 => .int
  | _ => .int
def F_Ve : u_T := fun k => match k with
  | 0 => ("CircuitText$Verdict", "code", "I", false)
  | _ => ("CircuitText$Verdict", "place", "I", false)
def t_Ve : Nat → FieldType := fun k => match k with
  | 0 => .int
  | _ => .int
def F_Wd : u_T := fun k => match k with
  | 0 => ("CircuitText$Word", "text", "[B", true)
  | 1 => ("CircuitText$Word", "next", "LCircuitText$Word;", true)
  | 2 => ("CircuitText$Word", "kind", "I", false)
  | 3 => ("CircuitText$Word", "unit", "LCircuitText$Unit;", false)
  | _ => ("CircuitText$Word", "declaration", "LCircuitText$Name;", false)
def t_Wd : Nat → FieldType := fun k => match k with
  | 0 => .array .byte
  | 1 => .object "CircuitText$Word"
  | 2 => .int
  | 3 => .object "CircuitText$Unit"
  | _ => .object "CircuitText$Name"
def F_Ws : u_T := fun k => match k with
  | _ => ("CircuitText$Words", "chains", "[LCircuitText$Word;", true)
def t_Ws : Nat → FieldType := fun k => match k with
  | _ => .array (.object "CircuitText$Word")
def F_Mo : u_T := fun k => match k with
  | 0 => ("CircuitTextModel", "thrown", "I", false)
  | 1 => ("CircuitTextModel", "tape", "[B", true)
  | 2 => ("CircuitTextModel", "size", "I", false)
  | 3 => ("CircuitTextModel", "fault", "I", false)
  | 4 => ("CircuitTextModel", "kinds", "[I", true)
  | 5 => ("CircuitTextModel", "begins", "[I", true)
  | 6 => ("CircuitTextModel", "ends", "[I", true)
  | 7 => ("CircuitTextModel", "tokens", "I", false)
  | 8 => ("CircuitTextModel", "t", "I", false)
  | 9 => ("CircuitTextModel", "wrong", "I", false)
  | 10 => ("CircuitTextModel", "wrongAt", "I", false)
  | 11 => ("CircuitTextModel", "deep", "I", false)
  | 12 => ("CircuitTextModel", "modules", "I", false)
  | 13 => ("CircuitTextModel", "moduleName", "[I", true)
  | 14 => ("CircuitTextModel", "firstSignal", "[I", true)
  | 15 => ("CircuitTextModel", "firstInstance", "[I", true)
  | 16 => ("CircuitTextModel", "firstAssert", "[I", true)
  | 17 => ("CircuitTextModel", "firstAlways", "[I", true)
  | 18 => ("CircuitTextModel", "locals", "I", false)
  | 19 => ("CircuitTextModel", "localName", "[I", true)
  | 20 => ("CircuitTextModel", "localWidth", "[I", true)
  | 21 => ("CircuitTextModel", "localKind", "[I", true)
  | 22 => ("CircuitTextModel", "localFirst", "[J", true)
  | 23 => ("CircuitTextModel", "driverKind", "[I", true)
  | 24 => ("CircuitTextModel", "driverFrom", "[I", true)
  | 25 => ("CircuitTextModel", "driverTo", "[I", true)
  | 26 => ("CircuitTextModel", "setIn", "[I", true)
  | 27 => ("CircuitTextModel", "items", "I", false)
  | 28 => ("CircuitTextModel", "itemModule", "[I", true)
  | 29 => ("CircuitTextModel", "itemName", "[I", true)
  | 30 => ("CircuitTextModel", "firstLink", "[I", true)
  | 31 => ("CircuitTextModel", "links", "I", false)
  | 32 => ("CircuitTextModel", "linkPort", "[I", true)
  | 33 => ("CircuitTextModel", "linkFrom", "[I", true)
  | 34 => ("CircuitTextModel", "linkTo", "[I", true)
  | 35 => ("CircuitTextModel", "asserts", "I", false)
  | 36 => ("CircuitTextModel", "assertFrom", "[I", true)
  | 37 => ("CircuitTextModel", "assertTo", "[I", true)
  | 38 => ("CircuitTextModel", "always", "I", false)
  | 39 => ("CircuitTextModel", "alwaysFrom", "[I", true)
  | 40 => ("CircuitTextModel", "alwaysTo", "[I", true)
  | 41 => ("CircuitTextModel", "code", "[I", false)
  | 42 => ("CircuitTextModel", "laid", "I", false)
  | 43 => ("CircuitTextModel", "numbers", "[J", false)
  | 44 => ("CircuitTextModel", "numberCount", "I", false)
  | 45 => ("CircuitTextModel", "moduleCost", "[J", true)
  | 46 => ("CircuitTextModel", "waitOp", "[I", true)
  | 47 => ("CircuitTextModel", "waitAt", "[I", true)
  | 48 => ("CircuitTextModel", "waits", "I", false)
  | 49 => ("CircuitTextModel", "widths", "[I", true)
  | 50 => ("CircuitTextModel", "widthCount", "I", false)
  | 51 => ("CircuitTextModel", "there", "Z", false)
  | 52 => ("CircuitTextModel", "text", "[B", true)
  | 53 => ("CircuitTextModel", "src", "[B", true)
  | 54 => ("CircuitTextModel", "tapeSize", "I", false)
  | 55 => ("CircuitTextModel", "textSize", "I", false)
  | 56 => ("CircuitTextModel", "ownCost", "[J", true)
  | _ => ("CircuitTextModel", "valueFits", "Z", false)
def t_Mo : Nat → FieldType := fun k => match k with
  | 0 => .int
  | 1 => .array .byte
  | 2 => .int
  | 3 => .int
  | 4 => .array .int
  | 5 => .array .int
  | 6 => .array .int
  | 7 => .int
  | 8 => .int
  | 9 => .int
  | 10 => .int
  | 11 => .int
  | 12 => .int
  | 13 => .array .int
  | 14 => .array .int
  | 15 => .array .int
  | 16 => .array .int
  | 17 => .array .int
  | 18 => .int
  | 19 => .array .int
  | 20 => .array .int
  | 21 => .array .int
  | 22 => .array .long
  | 23 => .array .int
  | 24 => .array .int
  | 25 => .array .int
  | 26 => .array .int
  | 27 => .int
  | 28 => .array .int
  | 29 => .array .int
  | 30 => .array .int
  | 31 => .int
  | 32 => .array .int
  | 33 => .array .int
  | 34 => .array .int
  | 35 => .int
  | 36 => .array .int
  | 37 => .array .int
  | 38 => .int
  | 39 => .array .int
  | 40 => .array .int
  | 41 => .array .int
  | 42 => .int
  | 43 => .array .long
  | 44 => .int
  | 45 => .array .long
  | 46 => .array .int
  | 47 => .array .int
  | 48 => .int
  | 49 => .array .int
  | 50 => .int
  | 51 => .boolean
  | 52 => .array .byte
  | 53 => .array .byte
  | 54 => .int
  | 55 => .int
  | 56 => .array .long
  | _ => .boolean
def F_AL : u_T := fun k => match k with
  | 0 => ("java/util/ArrayList", "elementData", "[Ljava/lang/Object;", false)
  | 1 => ("java/util/ArrayList", "size", "I", false)
  | _ => ("java/util/AbstractList", "modCount", "I", false)
def t_AL : Nat → FieldType := fun k => match k with
  | 0 => .array (.object "java/lang/Object")
  | 1 => .int
  | _ => .int
def F_ISE : u_T := fun k => match k with
  | 0 => ("java/lang/Throwable", "cause", "Ljava/lang/Throwable;", false)
  | 1 => ("java/lang/Throwable", "stackTrace", "[Ljava/lang/StackTraceElement;", false)
  | 2 => ("java/lang/Throwable", "suppressedExceptions", "Ljava/util/List;", false)
  | 3 => ("java/lang/Throwable", "detailMessage", "Ljava/lang/String;", false)
  | 4 => ("java/lang/Throwable", "backtrace", "Ljava/lang/Object;", false)
  | _ => ("java/lang/Throwable", "depth", "I", false)
def t_ISE : Nat → FieldType := fun k => match k with
  | 0 => .object "java/lang/Throwable"
  | 1 => .array (.object "java/lang/StackTraceElement")
  | 2 => .object "java/util/List"
  | 3 => .object "java/lang/String"
  | 4 => .object "java/lang/Object"
  | _ => .int
def F_IAE : u_T := fun k => match k with
  | 0 => ("java/lang/Throwable", "cause", "Ljava/lang/Throwable;", false)
  | 1 => ("java/lang/Throwable", "stackTrace", "[Ljava/lang/StackTraceElement;", false)
  | 2 => ("java/lang/Throwable", "suppressedExceptions", "Ljava/util/List;", false)
  | 3 => ("java/lang/Throwable", "detailMessage", "Ljava/lang/String;", false)
  | 4 => ("java/lang/Throwable", "backtrace", "Ljava/lang/Object;", false)
  | _ => ("java/lang/Throwable", "depth", "I", false)
def t_IAE : Nat → FieldType := fun k => match k with
  | 0 => .object "java/lang/Throwable"
  | 1 => .array (.object "java/lang/StackTraceElement")
  | 2 => .object "java/util/List"
  | 3 => .object "java/lang/String"
  | 4 => .object "java/lang/Object"
  | _ => .int
def F_IOE : u_T := fun k => match k with
  | 0 => ("java/lang/Throwable", "cause", "Ljava/lang/Throwable;", false)
  | 1 => ("java/lang/Throwable", "stackTrace", "[Ljava/lang/StackTraceElement;", false)
  | 2 => ("java/lang/Throwable", "suppressedExceptions", "Ljava/util/List;", false)
  | 3 => ("java/lang/Throwable", "detailMessage", "Ljava/lang/String;", false)
  | 4 => ("java/lang/Throwable", "backtrace", "Ljava/lang/Object;", false)
  | _ => ("java/lang/Throwable", "depth", "I", false)
def t_IOE : Nat → FieldType := fun k => match k with
  | 0 => .object "java/lang/Throwable"
  | 1 => .array (.object "java/lang/StackTraceElement")
  | 2 => .object "java/util/List"
  | 3 => .object "java/lang/String"
  | 4 => .object "java/lang/Object"
  | _ => .int
def F_UOE : u_T := fun k => match k with
  | 0 => ("java/lang/Throwable", "cause", "Ljava/lang/Throwable;", false)
  | 1 => ("java/lang/Throwable", "stackTrace", "[Ljava/lang/StackTraceElement;", false)
  | 2 => ("java/lang/Throwable", "suppressedExceptions", "Ljava/util/List;", false)
  | 3 => ("java/lang/Throwable", "detailMessage", "Ljava/lang/String;", false)
  | 4 => ("java/lang/Throwable", "backtrace", "Ljava/lang/Object;", false)
  | _ => ("java/lang/Throwable", "depth", "I", false)
def t_UOE : Nat → FieldType := fun k => match k with
  | 0 => .object "java/lang/Throwable"
  | 1 => .array (.object "java/lang/StackTraceElement")
  | 2 => .object "java/util/List"
  | 3 => .object "java/lang/String"
  | 4 => .object "java/lang/Object"
  | _ => .int
abbrev classes : List vw_C := [("CircuitText", F_CT, 3), ("CircuitText$Grammar", F_Gr, 4), ("CircuitText$Lexer", F_Lx, 2), ("CircuitText$Meaning", F_Me, 3), ("CircuitText$Name", F_Nm, 11), ("CircuitText$Pending", F_Pe, 3), ("CircuitText$Tape", F_Ta, 2), ("CircuitText$Token", F_To, 7), ("CircuitText$Unit", F_Un, 10), ("CircuitText$Verdict", F_Ve, 2), ("CircuitText$Word", F_Wd, 5), ("CircuitText$Words", F_Ws, 1), ("CircuitTextModel", F_Mo, 58), ("java/util/ArrayList", F_AL, 3), ("java/lang/IllegalStateException", F_ISE, 6), ("java/lang/IllegalArgumentException", F_IAE, 6), ("java/lang/IndexOutOfBoundsException", F_IOE, 6), ("java/lang/UnsupportedOperationException", F_UOE, 6)]
/-- a class of the worlds: its number, name, fields, how many, their types -/
def cx_cls (ci : Nat) (C : String) (T : u_T) (N : Nat) (t : Nat → FieldType) : Prop :=
  classes[ci]? = some (C, T, N) ∧ (∀ w ∈ u_ws C T N, w ∈ lw_tbl) ∧ (∀ i, i < N → parseFieldDescriptor (T i).2.2.1 = some (t i)) ∧ ∀ a, a < N → ∀ b, b < N → a ≠ b → (T a).2.1 ≠ (T b).2.1
theorem cx_ws {C : String} {T : u_T} {N : Nat} (h : ∀ i, i < N → u_lay C T i ∈ lw_tbl) : ∀ w ∈ u_ws C T N, w ∈ lw_tbl := by
  intro w hw
  obtain ⟨i, hi, rfl⟩ := List.mem_map.mp hw
  exact h i (List.mem_range.mp hi)
theorem kw_CT : ∀ i, i < 3 → u_lay "CircuitText" F_CT i ∈ lw_tbl := by
  intro i hi
  match i, hi with
  | 0, _ => exact (in_1 (List.mem_of_getElem? (i := 90) rfl))
  | 1, _ => exact (in_1 (List.mem_of_getElem? (i := 92) rfl))
  | 2, _ => exact (in_1 (List.mem_of_getElem? (i := 94) rfl))
  | n + 3, h => exact absurd h (by omega)
theorem k_CT : cx_cls 0 "CircuitText" F_CT 3 t_CT := ⟨rfl, cx_ws kw_CT, by decide +kernel, by decide +kernel⟩
theorem kw_Gr : ∀ i, i < 4 → u_lay "CircuitText$Grammar" F_Gr i ∈ lw_tbl := by
  intro i hi
  match i, hi with
  | 0, _ => exact (in_4 (List.mem_of_getElem? (i := 55) rfl))
  | 1, _ => exact (in_4 (List.mem_of_getElem? (i := 57) rfl))
  | 2, _ => exact (in_4 (List.mem_of_getElem? (i := 59) rfl))
  | 3, _ => exact (in_4 (List.mem_of_getElem? (i := 61) rfl))
  | n + 4, h => exact absurd h (by omega)
theorem k_Gr : cx_cls 1 "CircuitText$Grammar" F_Gr 4 t_Gr := ⟨rfl, cx_ws kw_Gr, by decide +kernel, by decide +kernel⟩
theorem kw_Lx : ∀ i, i < 2 → u_lay "CircuitText$Lexer" F_Lx i ∈ lw_tbl := by
  intro i hi
  match i, hi with
  | 0, _ => exact (in_2 (List.mem_of_getElem? (i := 110) rfl))
  | 1, _ => exact (in_2 (List.mem_of_getElem? (i := 112) rfl))
  | n + 2, h => exact absurd h (by omega)
theorem k_Lx : cx_cls 2 "CircuitText$Lexer" F_Lx 2 t_Lx := ⟨rfl, cx_ws kw_Lx, by decide +kernel, by decide +kernel⟩
theorem kw_Me : ∀ i, i < 3 → u_lay "CircuitText$Meaning" F_Me i ∈ lw_tbl := by
  intro i hi
  match i, hi with
  | 0, _ => exact (in_1 (List.mem_of_getElem? (i := 236) rfl))
  | 1, _ => exact (in_1 (List.mem_of_getElem? (i := 238) rfl))
  | 2, _ => exact (in_2 (List.mem_of_getElem? (i := 0) rfl))
  | n + 3, h => exact absurd h (by omega)
theorem k_Me : cx_cls 3 "CircuitText$Meaning" F_Me 3 t_Me := ⟨rfl, cx_ws kw_Me, by decide +kernel, by decide +kernel⟩
theorem kw_Nm : ∀ i, i < 11 → u_lay "CircuitText$Name" F_Nm i ∈ lw_tbl := by
  intro i hi
  match i, hi with
  | 0, _ => exact (in_4 (List.mem_of_getElem? (i := 165) rfl))
  | 1, _ => exact (in_4 (List.mem_of_getElem? (i := 167) rfl))
  | 2, _ => exact (in_4 (List.mem_of_getElem? (i := 169) rfl))
  | 3, _ => exact (in_4 (List.mem_of_getElem? (i := 171) rfl))
  | 4, _ => exact (in_4 (List.mem_of_getElem? (i := 173) rfl))
  | 5, _ => exact (in_4 (List.mem_of_getElem? (i := 175) rfl))
  | 6, _ => exact (in_4 (List.mem_of_getElem? (i := 177) rfl))
  | 7, _ => exact (in_4 (List.mem_of_getElem? (i := 179) rfl))
  | 8, _ => exact (in_4 (List.mem_of_getElem? (i := 181) rfl))
  | 9, _ => exact (in_4 (List.mem_of_getElem? (i := 183) rfl))
  | 10, _ => exact (in_4 (List.mem_of_getElem? (i := 185) rfl))
  | n + 11, h => exact absurd h (by omega)
theorem k_Nm : cx_cls 4 "CircuitText$Name" F_Nm 11 t_Nm := ⟨rfl, cx_ws kw_Nm, by decide +kernel, by decide +kernel⟩
theorem kw_Pe : ∀ i, i < 3 → u_lay "CircuitText$Pending" F_Pe i ∈ lw_tbl := by
  intro i hi
  match i, hi with
  | 0, _ => exact (in_5 (List.mem_of_getElem? (i := 102) rfl))
  | 1, _ => exact (in_5 (List.mem_of_getElem? (i := 104) rfl))
  | 2, _ => exact (in_5 (List.mem_of_getElem? (i := 106) rfl))
  | n + 3, h => exact absurd h (by omega)
theorem k_Pe : cx_cls 5 "CircuitText$Pending" F_Pe 3 t_Pe := ⟨rfl, cx_ws kw_Pe, by decide +kernel, by decide +kernel⟩
theorem kw_Ta : ∀ i, i < 2 → u_lay "CircuitText$Tape" F_Ta i ∈ lw_tbl := by
  intro i hi
  match i, hi with
  | 0, _ => exact (in_1 (List.mem_of_getElem? (i := 55) rfl))
  | 1, _ => exact (in_1 (List.mem_of_getElem? (i := 57) rfl))
  | n + 2, h => exact absurd h (by omega)
theorem k_Ta : cx_cls 6 "CircuitText$Tape" F_Ta 2 t_Ta := ⟨rfl, cx_ws kw_Ta, by decide +kernel, by decide +kernel⟩
theorem kw_To : ∀ i, i < 7 → u_lay "CircuitText$Token" F_To i ∈ lw_tbl := by
  intro i hi
  match i, hi with
  | 0, _ => exact (in_1 (List.mem_of_getElem? (i := 161) rfl))
  | 1, _ => exact (in_1 (List.mem_of_getElem? (i := 163) rfl))
  | 2, _ => exact (in_1 (List.mem_of_getElem? (i := 165) rfl))
  | 3, _ => exact (in_1 (List.mem_of_getElem? (i := 167) rfl))
  | 4, _ => exact (in_1 (List.mem_of_getElem? (i := 169) rfl))
  | 5, _ => exact (in_1 (List.mem_of_getElem? (i := 171) rfl))
  | 6, _ => exact (in_1 (List.mem_of_getElem? (i := 173) rfl))
  | n + 7, h => exact absurd h (by omega)
theorem k_To : cx_cls 7 "CircuitText$Token" F_To 7 t_To := ⟨rfl, cx_ws kw_To, by decide +kernel, by decide +kernel⟩
theorem kw_Un : ∀ i, i < 10 → u_lay "CircuitText$Unit" F_Un i ∈ lw_tbl := by
  intro i hi
  match i, hi with
  | 0, _ => exact (in_1 (List.mem_of_getElem? (i := 211) rfl))
  | 1, _ => exact (in_1 (List.mem_of_getElem? (i := 213) rfl))
  | 2, _ => exact (in_1 (List.mem_of_getElem? (i := 215) rfl))
  | 3, _ => exact (in_1 (List.mem_of_getElem? (i := 217) rfl))
  | 4, _ => exact (in_1 (List.mem_of_getElem? (i := 219) rfl))
  | 5, _ => exact (in_1 (List.mem_of_getElem? (i := 221) rfl))
  | 6, _ => exact (in_1 (List.mem_of_getElem? (i := 223) rfl))
  | 7, _ => exact (in_1 (List.mem_of_getElem? (i := 225) rfl))
  | 8, _ => exact (in_1 (List.mem_of_getElem? (i := 227) rfl))
  | 9, _ => exact (in_1 (List.mem_of_getElem? (i := 229) rfl))
  | n + 10, h => exact absurd h (by omega)
theorem k_Un : cx_cls 8 "CircuitText$Unit" F_Un 10 t_Un := ⟨rfl, cx_ws kw_Un, by decide +kernel, by decide +kernel⟩
theorem kw_Ve : ∀ i, i < 2 → u_lay "CircuitText$Verdict" F_Ve i ∈ lw_tbl := by
  intro i hi
  match i, hi with
  | 0, _ => exact (in_1 (List.mem_of_getElem? (i := 114) rfl))
  | 1, _ => exact (in_1 (List.mem_of_getElem? (i := 116) rfl))
  | n + 2, h => exact absurd h (by omega)
theorem k_Ve : cx_cls 9 "CircuitText$Verdict" F_Ve 2 t_Ve := ⟨rfl, cx_ws kw_Ve, by decide +kernel, by decide +kernel⟩
theorem kw_Wd : ∀ i, i < 5 → u_lay "CircuitText$Word" F_Wd i ∈ lw_tbl := by
  intro i hi
  match i, hi with
  | 0, _ => exact (in_2 (List.mem_of_getElem? (i := 93) rfl))
  | 1, _ => exact (in_2 (List.mem_of_getElem? (i := 95) rfl))
  | 2, _ => exact (in_2 (List.mem_of_getElem? (i := 97) rfl))
  | 3, _ => exact (in_2 (List.mem_of_getElem? (i := 99) rfl))
  | 4, _ => exact (in_2 (List.mem_of_getElem? (i := 101) rfl))
  | n + 5, h => exact absurd h (by omega)
theorem k_Wd : cx_cls 10 "CircuitText$Word" F_Wd 5 t_Wd := ⟨rfl, cx_ws kw_Wd, by decide +kernel, by decide +kernel⟩
theorem kw_Ws : ∀ i, i < 1 → u_lay "CircuitText$Words" F_Ws i ∈ lw_tbl := by
  intro i hi
  match i, hi with
  | 0, _ => exact (in_2 (List.mem_of_getElem? (i := 105) rfl))
  | n + 1, h => exact absurd h (by omega)
theorem k_Ws : cx_cls 11 "CircuitText$Words" F_Ws 1 t_Ws := ⟨rfl, cx_ws kw_Ws, by decide +kernel, by decide +kernel⟩
theorem kw_Mo : ∀ i, i < 58 → u_lay "CircuitTextModel" F_Mo i ∈ lw_tbl := by
  intro i hi
  match i, hi with
  | 0, _ => exact (in_6 (List.mem_of_getElem? (i := 153) rfl))
  | 1, _ => exact (in_6 (List.mem_of_getElem? (i := 155) rfl))
  | 2, _ => exact (in_6 (List.mem_of_getElem? (i := 157) rfl))
  | 3, _ => exact (in_6 (List.mem_of_getElem? (i := 159) rfl))
  | 4, _ => exact (in_6 (List.mem_of_getElem? (i := 161) rfl))
  | 5, _ => exact (in_6 (List.mem_of_getElem? (i := 163) rfl))
  | 6, _ => exact (in_6 (List.mem_of_getElem? (i := 165) rfl))
  | 7, _ => exact (in_6 (List.mem_of_getElem? (i := 167) rfl))
  | 8, _ => exact (in_6 (List.mem_of_getElem? (i := 169) rfl))
  | 9, _ => exact (in_6 (List.mem_of_getElem? (i := 171) rfl))
  | 10, _ => exact (in_6 (List.mem_of_getElem? (i := 173) rfl))
  | 11, _ => exact (in_6 (List.mem_of_getElem? (i := 175) rfl))
  | 12, _ => exact (in_6 (List.mem_of_getElem? (i := 177) rfl))
  | 13, _ => exact (in_6 (List.mem_of_getElem? (i := 179) rfl))
  | 14, _ => exact (in_6 (List.mem_of_getElem? (i := 181) rfl))
  | 15, _ => exact (in_6 (List.mem_of_getElem? (i := 183) rfl))
  | 16, _ => exact (in_6 (List.mem_of_getElem? (i := 185) rfl))
  | 17, _ => exact (in_6 (List.mem_of_getElem? (i := 187) rfl))
  | 18, _ => exact (in_6 (List.mem_of_getElem? (i := 189) rfl))
  | 19, _ => exact (in_6 (List.mem_of_getElem? (i := 191) rfl))
  | 20, _ => exact (in_6 (List.mem_of_getElem? (i := 193) rfl))
  | 21, _ => exact (in_6 (List.mem_of_getElem? (i := 195) rfl))
  | 22, _ => exact (in_6 (List.mem_of_getElem? (i := 197) rfl))
  | 23, _ => exact (in_6 (List.mem_of_getElem? (i := 199) rfl))
  | 24, _ => exact (in_6 (List.mem_of_getElem? (i := 201) rfl))
  | 25, _ => exact (in_6 (List.mem_of_getElem? (i := 203) rfl))
  | 26, _ => exact (in_6 (List.mem_of_getElem? (i := 205) rfl))
  | 27, _ => exact (in_6 (List.mem_of_getElem? (i := 207) rfl))
  | 28, _ => exact (in_6 (List.mem_of_getElem? (i := 209) rfl))
  | 29, _ => exact (in_6 (List.mem_of_getElem? (i := 211) rfl))
  | 30, _ => exact (in_6 (List.mem_of_getElem? (i := 213) rfl))
  | 31, _ => exact (in_6 (List.mem_of_getElem? (i := 215) rfl))
  | 32, _ => exact (in_6 (List.mem_of_getElem? (i := 217) rfl))
  | 33, _ => exact (in_6 (List.mem_of_getElem? (i := 219) rfl))
  | 34, _ => exact (in_6 (List.mem_of_getElem? (i := 221) rfl))
  | 35, _ => exact (in_6 (List.mem_of_getElem? (i := 223) rfl))
  | 36, _ => exact (in_6 (List.mem_of_getElem? (i := 225) rfl))
  | 37, _ => exact (in_6 (List.mem_of_getElem? (i := 227) rfl))
  | 38, _ => exact (in_6 (List.mem_of_getElem? (i := 229) rfl))
  | 39, _ => exact (in_6 (List.mem_of_getElem? (i := 231) rfl))
  | 40, _ => exact (in_6 (List.mem_of_getElem? (i := 233) rfl))
  | 41, _ => exact (in_6 (List.mem_of_getElem? (i := 235) rfl))
  | 42, _ => exact (in_6 (List.mem_of_getElem? (i := 237) rfl))
  | 43, _ => exact (in_6 (List.mem_of_getElem? (i := 239) rfl))
  | 44, _ => exact (in_7 (List.mem_of_getElem? (i := 1) rfl))
  | 45, _ => exact (in_7 (List.mem_of_getElem? (i := 3) rfl))
  | 46, _ => exact (in_7 (List.mem_of_getElem? (i := 5) rfl))
  | 47, _ => exact (in_7 (List.mem_of_getElem? (i := 7) rfl))
  | 48, _ => exact (in_7 (List.mem_of_getElem? (i := 9) rfl))
  | 49, _ => exact (in_7 (List.mem_of_getElem? (i := 11) rfl))
  | 50, _ => exact (in_7 (List.mem_of_getElem? (i := 13) rfl))
  | 51, _ => exact (in_7 (List.mem_of_getElem? (i := 15) rfl))
  | 52, _ => exact (in_7 (List.mem_of_getElem? (i := 17) rfl))
  | 53, _ => exact (in_7 (List.mem_of_getElem? (i := 19) rfl))
  | 54, _ => exact (in_7 (List.mem_of_getElem? (i := 21) rfl))
  | 55, _ => exact (in_7 (List.mem_of_getElem? (i := 23) rfl))
  | 56, _ => exact (in_7 (List.mem_of_getElem? (i := 25) rfl))
  | 57, _ => exact (in_7 (List.mem_of_getElem? (i := 27) rfl))
  | n + 58, h => exact absurd h (by omega)
theorem k_Mo : cx_cls 12 "CircuitTextModel" F_Mo 58 t_Mo := ⟨rfl, cx_ws kw_Mo, by decide +kernel, by decide +kernel⟩
theorem kw_AL : ∀ i, i < 3 → u_lay "java/util/ArrayList" F_AL i ∈ lw_tbl := by
  intro i hi
  match i, hi with
  | 0, _ => exact (in_1 (List.mem_of_getElem? (i := 80) rfl))
  | 1, _ => exact (in_1 (List.mem_of_getElem? (i := 82) rfl))
  | 2, _ => exact (in_1 (List.mem_of_getElem? (i := 84) rfl))
  | n + 3, h => exact absurd h (by omega)
theorem k_AL : cx_cls 13 "java/util/ArrayList" F_AL 3 t_AL := ⟨rfl, cx_ws kw_AL, by decide +kernel, by decide +kernel⟩
theorem kw_ISE : ∀ i, i < 6 → u_lay "java/lang/IllegalStateException" F_ISE i ∈ lw_tbl := by
  intro i hi
  match i, hi with
  | 0, _ => exact (in_4 (List.mem_of_getElem? (i := 80) rfl))
  | 1, _ => exact (in_4 (List.mem_of_getElem? (i := 81) rfl))
  | 2, _ => exact (in_4 (List.mem_of_getElem? (i := 82) rfl))
  | 3, _ => exact (in_4 (List.mem_of_getElem? (i := 83) rfl))
  | 4, _ => exact (in_4 (List.mem_of_getElem? (i := 84) rfl))
  | 5, _ => exact (in_4 (List.mem_of_getElem? (i := 90) rfl))
  | n + 6, h => exact absurd h (by omega)
theorem k_ISE : cx_cls 14 "java/lang/IllegalStateException" F_ISE 6 t_ISE := ⟨rfl, cx_ws kw_ISE, by decide +kernel, by decide +kernel⟩
theorem kw_IAE : ∀ i, i < 6 → u_lay "java/lang/IllegalArgumentException" F_IAE i ∈ lw_tbl := by
  intro i hi
  match i, hi with
  | 0, _ => exact (in_2 (List.mem_of_getElem? (i := 212) rfl))
  | 1, _ => exact (in_2 (List.mem_of_getElem? (i := 214) rfl))
  | 2, _ => exact (in_2 (List.mem_of_getElem? (i := 216) rfl))
  | 3, _ => exact (in_2 (List.mem_of_getElem? (i := 218) rfl))
  | 4, _ => exact (in_2 (List.mem_of_getElem? (i := 220) rfl))
  | 5, _ => exact (in_3 (List.mem_of_getElem? (i := 228) rfl))
  | n + 6, h => exact absurd h (by omega)
theorem k_IAE : cx_cls 15 "java/lang/IllegalArgumentException" F_IAE 6 t_IAE := ⟨rfl, cx_ws kw_IAE, by decide +kernel, by decide +kernel⟩
theorem kw_IOE : ∀ i, i < 6 → u_lay "java/lang/IndexOutOfBoundsException" F_IOE i ∈ lw_tbl := by
  intro i hi
  match i, hi with
  | 0, _ => exact (in_6 (List.mem_of_getElem? (i := 41) rfl))
  | 1, _ => exact (in_6 (List.mem_of_getElem? (i := 42) rfl))
  | 2, _ => exact (in_6 (List.mem_of_getElem? (i := 43) rfl))
  | 3, _ => exact (in_6 (List.mem_of_getElem? (i := 44) rfl))
  | 4, _ => exact (in_6 (List.mem_of_getElem? (i := 45) rfl))
  | 5, _ => exact (in_6 (List.mem_of_getElem? (i := 51) rfl))
  | n + 6, h => exact absurd h (by omega)
theorem k_IOE : cx_cls 16 "java/lang/IndexOutOfBoundsException" F_IOE 6 t_IOE := ⟨rfl, cx_ws kw_IOE, by decide +kernel, by decide +kernel⟩
theorem kw_UOE : ∀ i, i < 6 → u_lay "java/lang/UnsupportedOperationException" F_UOE i ∈ lw_tbl := by
  intro i hi
  match i, hi with
  | 0, _ => exact (in_5 (List.mem_of_getElem? (i := 235) rfl))
  | 1, _ => exact (in_5 (List.mem_of_getElem? (i := 236) rfl))
  | 2, _ => exact (in_5 (List.mem_of_getElem? (i := 237) rfl))
  | 3, _ => exact (in_5 (List.mem_of_getElem? (i := 238) rfl))
  | 4, _ => exact (in_5 (List.mem_of_getElem? (i := 239) rfl))
  | 5, _ => exact (in_6 (List.mem_of_getElem? (i := 5) rfl))
  | n + 6, h => exact absurd h (by omega)
theorem k_UOE : cx_cls 17 "java/lang/UnsupportedOperationException" F_UOE 6 t_UOE := ⟨rfl, cx_ws kw_UOE, by decide +kernel, by decide +kernel⟩
/-- classes and slots; array classes; the first address that is ours; the literals' cells and their bytes' cells; static arrays' cells -/
abbrev cx_K : Type := va_G × (Nat → ClassId) × Nat × (Nat → Nat) × (Nat → Nat) × (Nat → Nat) × (Nat → Prop)
/-- the array classes -/
abbrev cx_tys (k : cx_K) : List (ClassId × FieldType) := [(k.2.1 0, .byte), (k.2.1 1, .int), (k.2.1 2, .long), (k.2.1 3, .object "java/lang/Object"), (k.2.1 4, .object "CircuitText$Word")]
-- the literals: class, entry, text
def cx_lit : List (String × Nat × String) := [("CircuitText$Words", 17, "module endmodule input output wire reg assign always posedge clock begin end if else case endcase default assert "), ("java/util/Arrays", 337, " > "), ("CircuitText$Lexer", 97, "&&||==!=<=>=<<>>"), ("CircuitText$Lexer", 108, "+-*&|^~!<>?:;,.()[]{}=@"), ("CircuitText$Grammar", 47, "the text is not well written"), ("CircuitText", 33, "the tape would be too long"), ("CircuitText", 44, "the tape has not so many bytes"), ("CircuitText", 91, "no such module"), ("CircuitText", 118, "nothing of a module has this number"), ("CircuitText", 124, "no such module or name"), ("CircuitText", 142, "nothing of a name has this number")]
def cx_len : List Nat := [113, 3, 16, 23, 28, 26, 30, 14, 35, 22, 33]
def cx_byt : List (List Int32) := [[109, 111, 100, 117, 108, 101, 32, 101, 110, 100, 109, 111, 100, 117, 108, 101, 32, 105, 110, 112, 117, 116, 32, 111, 117, 116, 112, 117, 116, 32, 119, 105, 114, 101, 32, 114, 101, 103, 32, 97, 115, 115, 105, 103, 110, 32, 97, 108, 119, 97, 121, 115, 32, 112, 111, 115, 101, 100, 103, 101, 32, 99, 108, 111, 99, 107, 32, 98, 101, 103, 105, 110, 32, 101, 110, 100, 32, 105, 102, 32, 101, 108, 115, 101, 32, 99, 97, 115, 101, 32, 101, 110, 100, 99, 97, 115, 101, 32, 100, 101, 102, 97, 117, 108, 116, 32, 97, 115, 115, 101, 114, 116, 32], [32, 62, 32], [38, 38, 124, 124, 61, 61, 33, 61, 60, 61, 62, 61, 60, 60, 62, 62], [43, 45, 42, 38, 124, 94, 126, 33, 60, 62, 63, 58, 59, 44, 46, 40, 41, 91, 93, 123, 125, 61, 64], [116, 104, 101, 32, 116, 101, 120, 116, 32, 105, 115, 32, 110, 111, 116, 32, 119, 101, 108, 108, 32, 119, 114, 105, 116, 116, 101, 110], [116, 104, 101, 32, 116, 97, 112, 101, 32, 119, 111, 117, 108, 100, 32, 98, 101, 32, 116, 111, 111, 32, 108, 111, 110, 103], [116, 104, 101, 32, 116, 97, 112, 101, 32, 104, 97, 115, 32, 110, 111, 116, 32, 115, 111, 32, 109, 97, 110, 121, 32, 98, 121, 116, 101, 115], [110, 111, 32, 115, 117, 99, 104, 32, 109, 111, 100, 117, 108, 101], [110, 111, 116, 104, 105, 110, 103, 32, 111, 102, 32, 97, 32, 109, 111, 100, 117, 108, 101, 32, 104, 97, 115, 32, 116, 104, 105, 115, 32, 110, 117, 109, 98, 101, 114], [110, 111, 32, 115, 117, 99, 104, 32, 109, 111, 100, 117, 108, 101, 32, 111, 114, 32, 110, 97, 109, 101], [110, 111, 116, 104, 105, 110, 103, 32, 111, 102, 32, 97, 32, 110, 97, 109, 101, 32, 104, 97, 115, 32, 116, 104, 105, 115, 32, 110, 117, 109, 98, 101, 114]]
/-- an IllegalArgumentException is no IndexOutOfBoundsException -/
def cx_NC (U : State) : Prop := ∀ a b : ClassId, U.vm.findClass "java/lang/IllegalArgumentException" = some a → U.vm.findClass "java/lang/IndexOutOfBoundsException" = some b → U.vm.assignable a b = false
theorem cx_NC.moved {u U : State} (hvm : u.vm.Alike U.vm) (h : cx_NC u) : cx_NC U := fun a b h1 h2 => by
  rw [hvm.findClass] at h1 h2
  rw [hvm.assignable]
  exact h a b h1 h2
theorem cx_NC.of {args : Array Value} {U : State} (h : (Cond.not (.castable "java/lang/IllegalArgumentException" "java/lang/IndexOutOfBoundsException")).before args U = true) : cx_NC U := fun a b h1 h2 => by
  have hv := Cond.holds_not_iff.mp h
  simp only [Cond.value, h1, h2] at hv
  exact Option.some.inj hv
def cx_Xt (k : cx_K) (U : State) : Prop := (∀ (i : Nat) (q : String × Nat × String), cx_lit[i]? = some q → vk_R q.1 q.2.1 q.2.2 (k.2.2.2.1 i) U) ∧ va_Mi "[Ljava/lang/Object;" (k.2.2.2.2.2.1 2) U ∧ cx_NC U
theorem cx_Xt.warm {k : cx_K} {s U : State} (hW : s.WarmedH U.vm) (h : cx_Xt k s) : cx_Xt k U := ⟨fun i q hq => (h.1 i q hq).warm hW, h.2.1.moved hW.alike, h.2.2.moved hW.alike⟩
def cx_A (k : cx_K) : Nat → Prop := fun q => k.2.2.1 ≤ q
/-- the reference's table of keywords -/
def cx_wrd : List Int32 := [109, 111, 100, 117, 108, 101, 32, 101, 110, 100, 109, 111, 100, 117, 108, 101, 32, 105, 110, 112, 117, 116, 32, 111, 117, 116, 112, 117, 116, 32, 119, 105, 114, 101, 32, 114, 101, 103, 32, 97, 115, 115, 105, 103, 110, 32, 97, 108, 119, 97, 121, 115, 32, 112, 111, 115, 101, 100, 103, 101, 32, 99, 108, 111, 99, 107, 32, 98, 101, 103, 105, 110, 32, 101, 110, 100, 32, 105, 102, 32, 101, 108, 115, 101, 32, 99, 97, 115, 101, 32, 101, 110, 100, 99, 97, 115, 101, 32, 100, 101, 102, 97, 117, 108, 116, 32, 97, 115, 115, 101, 114, 116, 32]
/-- a static field as its class lays it, in a cell that nobody writes -/
def cx_LS0 (C n d : String) (A : Nat → Prop) (U : State) (H : Heap) : Prop := ∃ (c : ClassId) (kf : Class) (i : Nat) (f : Field) (a : Nat) (cell : Cell), U.vm.findClass C = some c ∧ U.fieldFound? C n d = some (c, kf, i, f) ∧ f.isStatic = true ∧ kf.statics = some a ∧ H[a]? = some cell ∧ cell.vm.isStatics = true ∧ cell.cls = c ∧ f.slot < cell.slots.size ∧ kf.staticTypes[f.slot]? = some f.type ∧ ¬ A a
theorem cx_LS0.moved {C n d : String} {A : Nat → Prop} {u U : State} {H : Heap} (hvm : u.vm.Alike U.vm) (h : cx_LS0 C n d A u H) : cx_LS0 C n d A U H := by
  obtain ⟨c, kf, i, f, a, cell, h0, h1, h2, h3, h4, h5, h6, h7, h8, h9⟩ := h
  obtain ⟨k', hi', he⟩ := State.fieldFound?_setVm hvm h1
  exact ⟨c, k', i, f, a, cell, by rw [hvm.findClass]; exact h0, hi', h2, by rw [he]; exact h3, h4, h5, h6, h7, by rw [he]; exact h8, h9⟩
theorem cx_LS0.kept {C n d : String} {A : Nat → Prop} {U : State} {H H1 : Heap} (h : cx_LS0 C n d A U H) (hq : ∀ a : Nat, a < H.size → ¬ A a → H1[a]? = H[a]?) : cx_LS0 C n d A U H1 := by
  obtain ⟨c, kf, i, f, a, cell, h0, h1, h2, h3, h4, h5, h6, h7, h8, h9⟩ := h
  exact ⟨c, kf, i, f, a, cell, h0, h1, h2, h3, by rw [hq a (Array.getElem?_eq_some_iff.mp h4).1 h9]; exact h4, h5, h6, h7, h8, h9⟩
theorem cx_LS0.of {C n d : String} {A : Nat → Prop} {args : Array Value} {U : State} (h : (Cond.laysStatic C n d).before args U = true) (hA : ∀ a : Nat, a < U.heap.size → ¬ A a) : cx_LS0 C n d A U U.heap := by
  obtain ⟨c, k, i, f, a, cell, hc, hi, hst, ha, hcell, hs, hcls, hlt, hty⟩ := Cond.laysStatic_spec h
  exact ⟨c, k, i, f, a, cell, hc, hi, hst, ha, hcell, hs, hcls, hlt, hty, hA a (Array.getElem?_eq_some_iff.mp hcell).1⟩
theorem cx_LS0.use {C n d : String} {A : Nat → Prop} {args : Array Value} {U : State} (h : cx_LS0 C n d A U U.heap) : (Cond.laysStatic C n d).before args U = true := by
  obtain ⟨c, kf, i, f, a, cell, h0, h1, h2, h3, h4, h5, h6, h7, h8, h9⟩ := h
  exact Cond.laysStatic_of h0 h1 h2 h3 h4 h5 h6 h7 h8
/-- what old cells hold -/
def cx_Od (k : cx_K) (U : State) (H : Heap) : Prop :=
  vk_S 11 cx_len cx_byt k.2.2.2.1 k.2.2.2.2.1 (cx_A k) U H ∧ va_Z "java/lang/String" "COMPACT_STRINGS" "Z" (.int 1) (cx_A k) U H ∧ va_Zq "jdk/internal/util/Preconditions" "SIOOBE_FORMATTER" "Ljava/util/function/BiFunction;" (cx_A k) U H ∧
  va_Z "java/util/ArrayList" "DEFAULTCAPACITY_EMPTY_ELEMENTDATA" "[Ljava/lang/Object;" (.ref (k.2.2.2.2.2.1 0)) (cx_A k) U H ∧ va_T (.object "java/lang/Object") (k.2.2.2.2.2.1 0) 0 (fun _ => .null) (cx_A k) U H ∧
  va_Z "CircuitTextModel" "WORDS" "[B" (.ref (k.2.2.2.2.2.1 1)) (cx_A k) U H ∧ va_T .byte (k.2.2.2.2.2.1 1) 113 (fun j => .int (cx_wrd.getD j 0)) (cx_A k) U H ∧
  va_Zq "java/lang/Throwable" "UNASSIGNED_STACK" "[Ljava/lang/StackTraceElement;" (cx_A k) U H ∧ va_Zq "java/lang/Throwable" "SUPPRESSED_SENTINEL" "Ljava/util/List;" (cx_A k) U H ∧ cx_LS0 "java/lang/Throwable" "UNASSIGNED_STACK" "[Ljava/lang/StackTraceElement;" (cx_A k) U H ∧ cx_LS0 "java/lang/Throwable" "SUPPRESSED_SENTINEL" "Ljava/util/List;" (cx_A k) U H
theorem cx_Od.to {k : cx_K} {s U : State} {H : Heap} (h : cx_Od k s s.heap) (hv : s.vm.Alike U.vm) (hq : ∀ q : Nat, q < s.heap.size → ¬ cx_A k q → H[q]? = s.heap[q]?) : cx_Od k U H :=
  ⟨(vk_S.moved hv h.1).kept hq, (va_Z.moved hv h.2.1).kept hq, (va_Zq.moved hv h.2.2.1).kept hq, (va_Z.moved hv h.2.2.2.1).kept hq, (va_T.moved hv h.2.2.2.2.1).kept hq, (va_Z.moved hv h.2.2.2.2.2.1).kept hq, (va_T.moved hv h.2.2.2.2.2.2.1).kept hq, (va_Zq.moved hv h.2.2.2.2.2.2.2.1).kept hq, (va_Zq.moved hv h.2.2.2.2.2.2.2.2.1).kept hq, (cx_LS0.moved hv h.2.2.2.2.2.2.2.2.2.1).kept hq, (cx_LS0.moved hv h.2.2.2.2.2.2.2.2.2.2).kept hq⟩

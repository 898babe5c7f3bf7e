/-! THE READER, as a function: i is the token that stands next, s what is known of the meaning; f says how many brackets may yet be begun. -/
/-- a fault of writing (its number, its place), or an answer with what stands next -/
abbrev tx_R (α : Type) : Type := (Int32 × Int32) ⊕ (α × Nat × tx_S)
def tx_R.and {α β : Type} (r : tx_R α) (g : α → Nat → tx_S → tx_R β) : tx_R β := match r with
  | .inl e => .inl e
  | .inr (a, i, s) => g a i s
def tx_t0 : tx_Tk := (22, 0, 0, none, 0, 0)
def tx_ta (T : List tx_Tk) (i : Nat) : tx_Tk := T.getD i tx_t0
def tx_ki (T : List tx_Tk) (i : Nat) : Int32 := (tx_ta T i).1
/-- the fault if another token stands there than is wanted -/
def tx_no (t : tx_Tk) : Int32 × Int32 := (if t.1 = 23 then 1 else 2, nI t.2.1)
/-- a token is taken -/
def tx_tk (T : List tx_Tk) (kd : Int32) (i : Nat) (s : tx_S) : tx_R tx_Tk := if tx_ki T i = kd then .inr (tx_ta T i, i + 1, s) else .inl (tx_no (tx_ta T i))
/-- a token that begins a bracket is taken -/
def tx_op {β : Type} (T : List tx_Tk) (kd : Int32) (f i : Nat) (s : tx_S) (g : Nat → tx_Tk → Nat → tx_S → tx_R β) : tx_R β := if tx_ki T i = kd then (match f with
  | 0 => .inl (3, nI (tx_ta T i).2.1)
  | f + 1 => g f (tx_ta T i) (i + 1) s) else .inl (tx_no (tx_ta T i))
def tx_isU (k : Int32) : Bool := decide (k = 126 ∨ k = 45 ∨ k = 33 ∨ k = 38 ∨ k = 124 ∨ k = 94)
def tx_isR (k : Int32) : Bool := decide (k = 33 ∨ k = 38 ∨ k = 124 ∨ k = 94)
def tx_rank (k : Int32) : Int32 := if k = 31868 then 1 else if k = 9766 then 2 else if k = 124 then 3 else if k = 94 then 4 else if k = 38 then 5 else if k = 15677 ∨ k = 8509 then 6 else if k = 60 ∨ k = 15421 ∨ k = 62 ∨ k = 15933 then 7 else if k = 15420 ∨ k = 15934 then 8 else if k = 43 ∨ k = 45 then 9 else if k = 42 then 10 else 0
/-- a number without width -/
def tx_pl (t : tx_Tk) : Int32 := t.2.2.2.2.2.toInt32
/-- signs before an operand: how many before the last that makes one bit, how many from it on, whether there is one -/
def tx_una (T : List tx_Tk) : Nat → Nat → Int32 → Int32 → Bool → Nat × Int32 × Int32 × Bool
  | 0, i, b, c, r => (i, b, c, r)
  | n + 1, i, b, c, r => if tx_isU (tx_ki T i) = true then (if tx_isR (tx_ki T i) = true then tx_una T n (i + 1) (b + c) 1 true else tx_una T n (i + 1) b (c + 1) r) else (i, b, c, r)
/-- a part of a name, from behind its bracket on -/
def tx_prg (br : tx_Tk) (w hi lo : Int32) (s : tx_S) : Int32 × tx_S := (if lo ≤ hi ∧ hi < w then hi - lo + 1 else 1, tx_ck (decide (lo ≤ hi ∧ hi < w)) 30 (nI br.2.1) s)
def tx_prt (T : List tx_Tk) (br : tx_Tk) (w : Int32) (i : Nat) (s : tx_S) : tx_R Int32 :=
  (tx_tk T 20 i s).and fun h i s => if tx_ki T i = 58 then (tx_tk T 58 i s).and fun _ i s => (tx_tk T 20 i s).and fun l i s => (tx_tk T 93 i s).and fun _ i s => .inr ((tx_prg br w (tx_pl h) (tx_pl l) s).1, i, (tx_prg br w (tx_pl h) (tx_pl l) s).2)
    else (tx_tk T 93 i s).and fun _ i s => .inr ((tx_prg br w (tx_pl h) (tx_pl h) s).1, i, (tx_prg br w (tx_pl h) (tx_pl h) s).2)
section TXX
variable (T : List tx_Tk) (E : Nat → Nat → tx_S → tx_R Int32)
def tx_nmd (f i : Nat) (s : tx_S) : tx_R Int32 := (tx_tk T 19 i s).and fun t i s => if tx_ki T i = 91 then tx_op T 91 f i (tx_used s t).2 fun f br i s' => if tx_ki T i = 20 then tx_prt T br ((tx_used s t).2.wo (tx_used s t).1) i s' else (E f i s').and fun w i s' => (tx_tk T 93 i (tx_spend (tx_imax ((tx_used s t).2.wo (tx_used s t).1) w) s')).and fun _ i s => .inr (1, i, s)
  else .inr ((tx_used s t).2.wo (tx_used s t).1, i, (tx_used s t).2)
/-- pieces between commas -/
def tx_cms (f : Nat) : Nat → Int32 → Nat → tx_S → tx_R Int32
  | 0, w, i, s => .inr (w, i, s)
  | n + 1, w, i, s => if tx_ki T i = 44 then (tx_tk T 44 i s).and fun _ i s => (E f i s).and fun x i s => tx_cms f n (w + x) i s else .inr (w, i, s)
def tx_brw (br : tx_Tk) (w : Int32) (i : Nat) (s : tx_S) : tx_R Int32 := (tx_tk T 125 i s).and fun _ i s => .inr (if tx_bw w = true then w else 1, i, tx_ck (tx_bw w) 30 (nI br.2.1) s)
def tx_brc (f i : Nat) (s : tx_S) : tx_R Int32 := tx_op T 123 f i s fun f br i s => if tx_ki T i = 20 then (tx_tk T 20 i s).and fun n i s => tx_op T 123 f i s fun f _ i s => (E f i s).and fun w i s => (tx_tk T 125 i s).and fun _ i s => tx_brw T br (tx_pl n * w) i s
  else (E f i s).and fun w i s => (tx_cms T E f T.length w i s).and fun w i s => tx_brw T br w i s
def tx_prm (f i : Nat) (s : tx_S) : tx_R Int32 := if tx_ki T i = 21 then (tx_tk T 21 i s).and fun t i s => .inr (t.2.2.2.2.1, i, s)
  else if tx_ki T i = 40 then tx_op T 40 f i s fun f _ i s => (E f i s).and fun w i s => (tx_tk T 41 i s).and fun _ i s => .inr (w, i, s)
  else if tx_ki T i = 123 then tx_brc T E f i s else tx_nmd T E f i s
def tx_opr (f i : Nat) (s : tx_S) : tx_R Int32 := (tx_prm T E f (tx_una T T.length i 0 0 false).1 s).and fun w i' s => .inr (if (tx_una T T.length i 0 0 false).2.2.2 = true then 1 else w, i', tx_spend ((tx_una T T.length i 0 0 false).2.2.1 * w + (tx_una T T.length i 0 0 false).2.1) s)
/-- operators that wait, with their first operand's width -/
abbrev tx_Wt : Type := List (tx_Tk × Int32)
def tx_red (r : Int32) : tx_Wt → Int32 → tx_S → tx_Wt × Int32 × tx_S
  | [], w, s => ([], w, s)
  | x :: W, w, s => if r ≤ tx_rank x.1.1 then tx_red r W (tx_bin x.1 x.2 w s).1 (tx_bin x.1 x.2 w s).2 else (x :: W, w, s)
def tx_lop (f : Nat) : Nat → tx_Wt → Int32 → Nat → tx_S → tx_R Int32
  | 0, _, w, i, s => .inr (w, i, s)
  | n + 1, W, w, i, s => if tx_rank (tx_ki T i) = 0 then .inr ((tx_red (tx_rank (tx_ki T i)) W w s).2.1, i, (tx_red (tx_rank (tx_ki T i)) W w s).2.2)
    else (tx_tk T (tx_ki T i) i (tx_red (tx_rank (tx_ki T i)) W w s).2.2).and fun t i' s' => (tx_opr T E f i' s').and fun w' i' s' => tx_lop f n ((t, (tx_red (tx_rank (tx_ki T i)) W w s).2.1) :: (tx_red (tx_rank (tx_ki T i)) W w s).1) w' i' s'
def tx_cnd (f : Nat) (w : Int32) (i : Nat) (s : tx_S) : tx_R Int32 := tx_op T 63 f i s fun f t i s => (E f i s).and fun x i s => (tx_tk T 58 i s).and fun _ i s => (E f i s).and fun y i s => .inr ((tx_cond t w x y s).1, i, (tx_cond t w x y s).2)
def tx_ex1 (f i : Nat) (s : tx_S) : tx_R Int32 := (tx_opr T E f i s).and fun w i s => (tx_lop T E f T.length [] w i s).and fun w i s => if tx_ki T i = 63 then tx_cnd T E f w i s else .inr (w, i, s)
end TXX
/-- an exp; m is above f -/
def tx_exf (T : List tx_Tk) : Nat → Nat → Nat → tx_S → tx_R Int32
  | 0, _, i, s => .inr (1, i, s)
  | m + 1, f, i, s => tx_ex1 T (tx_exf T m) f i s
def tx_exp (T : List tx_Tk) : Nat → Nat → tx_S → tx_R Int32 := tx_exf T 61
/-! Statements. -/
section TXY
variable (T : List tx_Tk) (S : Nat → Nat → tx_S → tx_R Unit)
def tx_blk (f : Nat) : Nat → Nat → tx_S → tx_R Unit
  | 0, i, s => .inr ((), i, s)
  | n + 1, i, s => if tx_ki T i = 12 then .inr ((), i, s) else (S f i s).and fun _ i s => tx_blk f n i s
def tx_chc (f i : Nat) (s : tx_S) : tx_R Unit := tx_op T 13 f i s fun f _ i s => tx_op T 40 f i s fun f' _ i s => (tx_exp T f' i s).and fun w i s => (tx_tk T 41 i (tx_spend w s)).and fun _ i s => (S f i s).and fun _ i s => if tx_ki T i = 14 then (tx_tk T 14 i s).and fun _ i s => S f i s else .inr ((), i, s)
def tx_csv (t : tx_Tk) (w : Int32) (s : tx_S) : tx_S := tx_spend w (tx_ck (decide (t.2.2.2.2.1 = w)) 30 (nI t.2.1) s)
def tx_cvs (w : Int32) : Nat → Nat → tx_S → tx_R Unit
  | 0, i, s => .inr ((), i, s)
  | n + 1, i, s => if tx_ki T i = 44 then (tx_tk T 44 i s).and fun _ i s => (tx_tk T 21 i s).and fun t i s => tx_cvs w n i (tx_csv t w s) else .inr ((), i, s)
def tx_cas (f : Nat) (w : Int32) : Nat → Nat → tx_S → tx_R Unit
  | 0, i, s => .inr ((), i, s)
  | n + 1, i, s => if tx_ki T i = 21 then (tx_tk T 21 i s).and fun t i s => (tx_cvs T w T.length i (tx_csv t w s)).and fun _ i s => (tx_tk T 58 i s).and fun _ i s => (S f i s).and fun _ i s => tx_cas f w n i s else .inr ((), i, s)
def tx_css (f i : Nat) (s : tx_S) : tx_R Unit := tx_op T 15 f i s fun f _ i s => tx_op T 40 f i s fun f' _ i s => (tx_exp T f' i s).and fun w i s => (tx_tk T 41 i s).and fun _ i s => (tx_cas T S f w T.length i s).and fun _ i s => (if tx_ki T i = 17 then (tx_tk T 17 i s).and fun _ i s => (tx_tk T 58 i s).and fun _ i s => S f i s else .inr ((), i, s)).and fun _ i s => (tx_tk T 16 i s).and fun _ i s => .inr ((), i, s)
def tx_str (f : Nat) (w : Int32) (i : Nat) (s : tx_S) : tx_R Unit := (tx_tk T 15421 i s).and fun sg i s => (tx_exp T f i s).and fun x i s => (tx_tk T 59 i (tx_spend w (tx_ck (decide (w = x)) 30 (nI sg.2.1) s))).and fun _ i s => .inr ((), i, s)
def tx_stg (f i : Nat) (s : tx_S) : tx_R Unit := (tx_tk T 19 i s).and fun t i s => if tx_ki T i = 91 then tx_op T 91 f i (tx_setr s t).2 fun _ br i s' => (tx_prt T br ((tx_setr s t).2.wo (tx_setr s t).1) i s').and fun w i s => tx_str T f w i s
  else tx_str T f ((tx_setr s t).2.wo (tx_setr s t).1) i (tx_setr s t).2
def tx_st1 (f i : Nat) (s : tx_S) : tx_R Unit := if tx_ki T i = 11 then tx_op T 11 f i s fun f _ i s => (tx_blk T S f T.length i s).and fun _ i s => (tx_tk T 12 i s).and fun _ i s => .inr ((), i, s)
  else if tx_ki T i = 13 then tx_chc T S f i s else if tx_ki T i = 15 then tx_css T S f i s else tx_stg T f i s
end TXY
def tx_stf (T : List tx_Tk) : Nat → Nat → Nat → tx_S → tx_R Unit
  | 0, _, i, s => .inr ((), i, s)
  | m + 1, f, i, s => tx_st1 T (tx_stf T m) f i s
def tx_stm (T : List tx_Tk) : Nat → Nat → tx_S → tx_R Unit := tx_stf T 61
/-! Modules. -/
def tx_pru (u : tx_U) : tx_U := (u.1, u.2.1, u.2.2.1, u.2.2.2.1 + 1, u.2.2.2.2)
def tx_asu (u : tx_U) : tx_U := (u.1, u.2.1, u.2.2.1, u.2.2.2.1, u.2.2.2.2.1 + 1, u.2.2.2.2.2)
def tx_alu (u : tx_U) : tx_U := (u.1, u.2.1, u.2.2.1, u.2.2.2.1, u.2.2.2.2.1, u.2.2.2.2.2.1 + 1, u.2.2.2.2.2.2)
def tx_inu (u : tx_U) : tx_U := (u.1, u.2.1, u.2.2.1, u.2.2.2.1, u.2.2.2.2.1, u.2.2.2.2.2.1, u.2.2.2.2.2.2.1 + 1, u.2.2.2.2.2.2.2)
def tx_atu (u : tx_U) : tx_U := (u.1, u.2.1, u.2.2.1, u.2.2.2.1, u.2.2.2.2.1, u.2.2.2.2.2.1, u.2.2.2.2.2.2.1, u.2.2.2.2.2.2.2.1 + 1, u.2.2.2.2.2.2.2.2)
def tx_S.cu (s : tx_S) (g : tx_U → tx_U) : tx_S := s.mu s.2.1.length g
section TXZ
variable (T : List tx_Tk)
def tx_rng (f i : Nat) (s : tx_S) : tx_R Int32 := if tx_ki T i = 91 then tx_op T 91 f i s fun _ br i s => (tx_tk T 20 i s).and fun h i s => (tx_tk T 58 i s).and fun _ i s => (tx_tk T 20 i s).and fun l i s => (tx_tk T 93 i s).and fun _ i s => .inr (if tx_rw (tx_pl h) (tx_pl l) = true then tx_pl h + 1 else 1, i, tx_ck (tx_rw (tx_pl h) (tx_pl l)) 30 (nI br.2.1) s)
  else .inr (1, i, s)
def tx_pnm (kd : Int32) (f i : Nat) (s : tx_S) : tx_R Unit := (tx_rng T f i s).and fun w i s => (tx_tk T 19 i s).and fun t i s => .inr ((), i, tx_dcl t kd w s)
def tx_rgs (kd : Int32) (f i : Nat) (s : tx_S) : tx_R Unit := (tx_tk T 6 i s).and fun _ i s => (tx_rng T f i s).and fun w i s => (tx_tk T 19 i s).and fun t i s => if tx_ki T i = 61 then (tx_tk T 61 i (tx_dcl t kd w s)).and fun _ i s' => (tx_tk T 21 i s').and fun v i s' => .inr ((), i, tx_beg s.uu.2.2.1.length v s')
  else .inr ((), i, tx_dcl t kd w s)
def tx_por (f i : Nat) (s : tx_S) : tx_R Unit := (if tx_ki T i = 3 then (tx_tk T 3 i s).and fun _ i s => tx_pnm T 0 f i s else (tx_tk T 4 i s).and fun _ i s => if tx_ki T i = 6 then tx_rgs T 2 f i s else tx_pnm T 1 f i s).and fun _ i s => .inr ((), i, s.cu tx_pru)
def tx_asn (f i : Nat) (s : tx_S) : tx_R Unit := (tx_tk T 7 i s).and fun _ i s => (tx_tk T 19 i (s.cu tx_asu)).and fun t i s => (tx_tk T 61 i (tx_asg s t).2).and fun sg i s' => (tx_exp T f i s').and fun x i s' => (tx_tk T 59 i (tx_ck (decide ((tx_asg s t).2.wo (tx_asg s t).1 = x)) 30 (nI sg.2.1) s')).and fun _ i s => .inr ((), i, s)
def tx_alh (f i : Nat) (s : tx_S) : tx_R Unit := (tx_tk T 8 i s).and fun _ i s => (tx_tk T 64 i s).and fun _ i s => tx_op T 40 f i s fun _ _ i s => (tx_tk T 9 i s).and fun _ i s => (tx_tk T 10 i s).and fun _ i s => (tx_tk T 41 i s).and fun _ i s => .inr ((), i, s.cu tx_alu)
def tx_ast (f i : Nat) (s : tx_S) : tx_R Unit := (tx_tk T 18 i s).and fun _ i s => tx_op T 40 f i (s.cu tx_atu) fun f _ i s => (tx_exp T f i s).and fun w i s => (tx_tk T 41 i (tx_spend w s)).and fun _ i s => (tx_tk T 59 i s).and fun _ i s => .inr ((), i, s)
/-- an instanc of a module is declared -/
def tx_oof (v : Option Nat) (r : tx_N) : tx_N := (r.1, r.2.1, r.2.2.1, r.2.2.2.1, r.2.2.2.2.1, r.2.2.2.2.2.1, r.2.2.2.2.2.2.1, v, r.2.2.2.2.2.2.2.2)
def tx_din (t : tx_Tk) (v : Option Nat) (s : tx_S) : tx_S := ((tx_dcl t 5 0 s).mn s.2.1.length s.uu.2.2.1.length (tx_oof v)).cu tx_inu
def tx_lnk (q : Nat) (f i : Nat) (s : tx_S) : tx_R Unit := (tx_tk T 46 i s).and fun dt i s => (tx_tk T 19 i s).and fun t i s => tx_op T 40 f i (tx_lpo q t s).2 fun f _ i s' => (tx_exp T f i s').and fun w j s' => (tx_tk T 41 j s').and fun _ j' s' => .inr ((), j', tx_link dt (tx_lpo q t s).1 (tx_ta T i) (decide (tx_ki T i = 19 ∧ j = i + 1)) w s')
def tx_lks' (q f : Nat) : Nat → Nat → tx_S → tx_R Unit
  | 0, i, s => .inr ((), i, s)
  | n + 1, i, s => if tx_ki T i = 41 then .inr ((), i, s) else (tx_tk T 44 i s).and fun _ i s => (tx_lnk T q f i s).and fun _ i s => tx_lks' q f n i s
def tx_ins (f i : Nat) (s : tx_S) : tx_R Unit := (tx_tk T 19 i s).and fun t i s => (tx_tk T 19 i (tx_ck (s.mo t.2.2.2.1).isSome 22 (nI t.2.1) s)).and fun t' i s' => tx_op T 40 f i (tx_din t' (s.mo t.2.2.2.1) s') fun f _ i s => (if tx_ki T i = 41 then .inr ((), i, s) else tx_lnk T s'.uu.2.2.1.length f i s).and fun _ i s => (tx_lks' T s'.uu.2.2.1.length f T.length i s).and fun _ i s => (tx_tk T 41 i s).and fun _ i s => (tx_tk T 59 i s).and fun _ i s => .inr ((), i, tx_fini s'.uu.2.2.1.length s)
def tx_wir (f i : Nat) (s : tx_S) : tx_R Unit := (tx_tk T 5 i s).and fun _ i s => (tx_pnm T 3 f i s).and fun _ i s => (tx_tk T 59 i s).and fun _ i s => .inr ((), i, s)
def tx_itm (f i : Nat) (s : tx_S) : tx_R Unit := if tx_ki T i = 5 then tx_wir T f i s else if tx_ki T i = 6 then (tx_rgs T 4 f i s).and fun _ i s => (tx_tk T 59 i s).and fun _ i s => .inr ((), i, s)
  else if tx_ki T i = 7 then tx_asn T f i s else if tx_ki T i = 8 then (tx_alh T f i s).and fun _ i s => tx_stm T f i s else if tx_ki T i = 18 then tx_ast T f i s else tx_ins T f i s
def tx_its (f : Nat) : Nat → Nat → tx_S → tx_R Unit
  | 0, i, s => .inr ((), i, s)
  | n + 1, i, s => if tx_ki T i = 2 then .inr ((), i, s) else (tx_itm T f i s).and fun _ i s => tx_its f n i s
def tx_pos (f : Nat) : Nat → Nat → tx_S → tx_R Unit
  | 0, i, s => .inr ((), i, s)
  | n + 1, i, s => if tx_ki T i = 41 then .inr ((), i, s) else (tx_tk T 44 i s).and fun _ i s => (tx_por T f i s).and fun _ i s => tx_pos f n i s
def tx_unt (f i : Nat) (s : tx_S) : tx_R Unit := (tx_tk T 1 i s).and fun _ i s => (tx_tk T 19 i s).and fun t i s => tx_op T 40 f i (tx_bun t s) fun f' _ i s => (if tx_ki T i = 41 then .inr ((), i, s) else tx_por T f' i s).and fun _ i s => (tx_pos T f' T.length i s).and fun _ i s => (tx_tk T 41 i s).and fun _ i s => (tx_tk T 59 i s).and fun _ i s => (tx_its T f T.length i s).and fun _ i s => (tx_tk T 2 i s).and fun _ i s => .inr ((), i, tx_fun s)
def tx_dss : Nat → Nat → tx_S → tx_R Unit
  | 0, i, s => .inr ((), i, s)
  | n + 1, i, s => if tx_ki T i = 22 then .inr ((), i, s) else (tx_unt T 60 i s).and fun _ i s => tx_dss n i s
def tx_dsg (i : Nat) (s : tx_S) : tx_R Unit := (tx_unt T 60 i s).and fun _ i s => tx_dss T T.length i s
end TXZ
def tx_s0 : tx_S := ((0, -1), [], none, fun _ => none, fun _ => none)

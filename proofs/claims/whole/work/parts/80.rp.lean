/-! THE REFERENCE'S SECOND PASS, as conditions: what must hold before a piece of it so that K holds behind it. -/
def rp_kd (M : rm_M) (K : Int32 → Prop) : Prop := ∃ i, M.1 8 = nI i ∧ i < 65540 ∧ K (M.2.1 4 i)
def rp_is (M : rm_M) (kd : Int32) (K : Bool → Prop) : Prop := ∃ i, M.1 8 = nI i ∧ i < 65540 ∧ K (rm_c9 M i kd)
def rp_bg (M : rm_M) (K : Int32 → Prop) : Prop := ∃ i, M.1 8 = nI i ∧ i < 65540 ∧ K (M.2.1 5 i)
/-- the next token is set, is moved on -/
def rp_t (M : rm_M) (x : Int32) : rm_M := (va_up M.1 8 x, M.2)
def rp_i (M : rm_M) (d : Int32) : rm_M := rp_t M (M.1 8 + d)
/-- a fault, if all was well and c holds -/
def rp_ff (c : Prop) [Decidable c] (w p : Int32) (M : rm_M) : rm_M := if M.1 9 = 0 ∧ c then rm_fail w p M else M
def rp_cm (M : rm_M) (mc : Nat) (v : Int64) : rm_M := (M.1, M.2.1, va_up M.2.2.1 45 (vp_updL (M.2.2.1 45) mc (M.2.2.1 45 mc + v)), M.2.2.2)
def rp_cost (v : Int64) (M : rm_M) (K : rm_M → Prop) : Prop := ∃ mc, M.1 12 = nI mc ∧ mc < 3600 ∧ K (rp_cm M mc v)
def rp_lay (u v w : Int32) (M : rm_M) (K : rm_M → Prop) : Prop := ∃ x, M.1 42 = nI x ∧ x ≤ M.2.2.2.1 ∧ x + 3 ≤ 131072 ∧ ∀ M', rm_la x u v w M M' → K M'
def rp_keep (M : rm_M) (K : Int32 → rm_M → Prop) : Prop := ∃ y, M.1 44 = nI y ∧ y ≤ M.2.2.2.2 ∧ y ≤ 16384 ∧ ∀ M', rm_kn y M M' → K (nI y) M'
def rp_wp (M : rm_M) (b : Nat) (w : Int32) : rm_M := (va_up M.1 50 (nI (b + 1)), va_up M.2.1 49 (upd (M.2.1 49) b w), M.2.2)
def rp_pw (w : Int32) (M : rm_M) (K : rm_M → Prop) : Prop := ∃ b, M.1 50 = nI b ∧ b < 4096 ∧ K (rp_wp M b w)
/-- a number's value, its width -/
def rp_num (x : Int32) (M : rm_M) (K : Int64 → rm_M → Prop) : Prop := ∃ n T i, rm_T n T M ∧ x = nI i ∧ i < T.length ∧ (tx_ki T i = 20 ∨ tx_ki T i = 21) ∧ ∀ M', rm_57 M M' → K (tx_ta T i).2.2.2.2.2 M'
def rp_wid (x : Int32) (M : rm_M) (K : Int32 → Prop) : Prop := ∃ n T i, rm_T n T M ∧ x = nI i ∧ i < T.length ∧ tx_ki T i = 21 ∧ K (tx_ta T i).2.2.2.2.1
/-- locals are named by words -/
def rm_nN (T : List tx_Tk) (g : Nat → Int32) (lo hi : Nat) : Prop := ∀ q, lo ≤ q → q < hi → ∃ y, g q = nI y ∧ y < T.length ∧ tx_ki T y = 19
def rp_here (x : Int32) (M : rm_M) (K : Int32 → Prop) : Prop := ∃ n T i mc lo hi, rm_T n T M ∧ x = nI i ∧ i < T.length ∧ tx_ki T i = 19 ∧ M.1 12 = nI mc ∧ mc < 3600 ∧ M.2.1 14 mc = nI lo ∧ M.1 18 = nI hi ∧ lo ≤ hi ∧ hi ≤ 11000 ∧ rm_nN T (M.2.1 19) lo hi ∧ K (rm_on (rm_sN T (M.2.1 19) i lo (hi - lo)))
/-- a part of the local q -/
def rp_ptt (q : Nat) (wh h l : Int32) (K : Int32 → rm_M → Prop) (M : rm_M) : Prop := if h < l ∨ M.2.1 20 q ≤ h then K 0 (rm_fail 30 wh M) else K (256 * h + l) M
def rp_prt (q : Nat) (K : Int32 → rm_M → Prop) (M : rm_M) : Prop := q < 11000 ∧ rp_bg M fun wh => rp_num (M.1 8 + 1) M fun h M => rp_kd (rp_i M 2) fun kd => if kd = 58 then rp_num ((rp_i M 2).1 8 + 1) (rp_i M 2) fun l M => rp_ptt q wh h.toInt32 l.toInt32 K (rp_i (rp_i M 2) 1) else rp_ptt q wh h.toInt32 h.toInt32 K (rp_i (rp_i M 2) 1)
/-- an operator that waits is reckoned -/
def rp_any (r : Int32) : Prop := r < 3 ∨ r = 8
def rp_one (r : Int32) : Prop := r < 3 ∨ r = 6 ∨ r = 7
def rp_max (a b : Int32) : Int32 := if b < a then a else b
def rp_bco (op a b : Int32) : Int32 := if rm_rank op = 8 then 3 * a + b else if op = 42 then a * a else rp_max a b
def rp_bmd (op a : Int32) : Int32 := if rm_rank op < 3 ∨ rm_rank op = 6 ∨ rm_rank op = 7 then 1 else a
def rp_set (M : rm_M) (row j : Nat) (v : Int32) : rm_M := (M.1, va_up M.2.1 row (upd (M.2.1 row) j v), M.2.2)
def rp_pop (M : rm_M) (a b : Nat) : rm_M := (va_up (va_up M.1 48 (nI a)) 50 (nI (b + 1)), M.2)
def rp_rck (K : rm_M → Prop) (M : rm_M) : Prop := ∃ a b, M.1 48 = nI (a + 1) ∧ a < 4096 ∧ M.1 50 = nI (b + 2) ∧ b + 1 < 4096 ∧
  rp_cost (rp_bco (M.2.1 46 a) (M.2.1 49 b) (M.2.1 49 (b + 1))).toInt64 (rp_ff (¬ (rm_rank (M.2.1 46 a) < 3 ∨ rm_rank (M.2.1 46 a) = 8) ∧ M.2.1 49 b ≠ M.2.1 49 (b + 1)) 30 (M.2.1 47 a) (rp_pop M a b)) fun M1 =>
    rp_lay 5 (M.2.1 46 a) (rp_bmd (M.2.1 46 a) (M.2.1 49 b)) (rp_set M1 49 b (rp_bmd (M.2.1 46 a) (M.2.1 49 b))) K
def rp_red (fl r : Int32) (K : rm_M → Prop) : Nat → rm_M → Prop
  | 0, _ => False
  | n + 1, M => if fl < M.1 48 then (∃ a, M.1 48 = nI (a + 1) ∧ a < 4096 ∧ if r ≤ rm_rank (M.2.1 46 a) then rp_rck (rp_red fl r K n) M else K M) else K M
def rp_fin (fl : Int32) (K : rm_M → Prop) : Nat → rm_M → Prop
  | 0, _ => False
  | n + 1, M => if fl < M.1 48 then rp_rck (rp_fin fl K n) M else K M
def rp_una (K : rm_M → Prop) : Nat → rm_M → Prop
  | 0, _ => False
  | n + 1, M => rp_kd M fun kd => if tx_isU kd = true then rp_una K n (rp_i M 1) else K M
def rp_unl (fs : Int32) (K : Int32 → rm_M → Prop) : Nat → Int32 → Int32 → rm_M → Prop
  | 0, _, _, _ => False
  | n + 1, k, w, M => if k < fs then K w M else if M.1 9 = 0 then (∃ j, k = nI j ∧ j < 65540 ∧ rp_cost w.toInt64 M fun M => rp_lay 4 (M.2.1 4 j) w M fun M => rp_unl fs K n (k - 1) (if M.2.1 4 j = 126 ∨ M.2.1 4 j = 45 then w else 1) M) else K w M
abbrev rp_E : Type := (Int32 → rm_M → Prop) → rm_M → Prop
section RPE
variable (N : Nat) (E : rp_E)
def rp_jn (wh : Int32) (K : Int32 → rm_M → Prop) : Nat → Int64 → rm_M → Prop
  | 0, _, _ => False
  | n + 1, sum, M => rp_is M 44 fun b => if b = true then E (fun w M => rp_lay 7 w 0 M (rp_jn wh K n (sum + w.toInt64))) (rp_i M 1) else K (if (rp_ff (64 < sum) 30 wh (rp_i M 1)).1 9 = 0 then sum.toInt32 else 1) (rp_ff (64 < sum) 30 wh (rp_i M 1))
def rp_brc (wh : Int32) (K : Int32 → rm_M → Prop) (M : rm_M) : Prop := rp_kd M fun kd => if kd = 401 then rp_num (M.1 8) M fun n M => E (fun w M => rp_lay 8 n.toInt32 w (rp_ff (n = 0 ∨ 64 < n * w.toInt64) 30 wh (rp_i M 2)) fun M => K (if M.1 9 = 0 then n.toInt32 * w else 1) M) (rp_i M 2)
  else E (fun w M => rp_jn E wh K N w.toInt64 M) M
def rp_prm (K : Int32 → rm_M → Prop) (M : rm_M) : Prop := if M.1 9 = 0 then (∃ i, M.1 8 = nI i ∧ i + 2 < 65540 ∧ if M.2.1 4 i = 402 then rp_num (nI i) (rp_i M 1) fun _ M => rp_keep M fun q M => rp_lay 0 q 0 M fun M => rp_wid (nI i) M fun w => K w M
  else if M.2.1 4 i = 40 then E (fun w M => K w (rp_i M 1)) (rp_i M 1)
  else if M.2.1 4 i = 123 then rp_brc N E (M.2.1 5 i) K (rp_i M 1)
  else rp_here (nI i) (rp_i M 1) fun q => if q < 0 then K 1 (rm_fail 22 (M.2.1 5 i) (rp_i M 1)) else ∃ j, q = nI j ∧ j < 11000 ∧ rp_lay 1 q 0 (rp_i M 1) fun M => rp_kd M fun kd => if kd = 91 then (∃ i, M.1 8 = nI i ∧ i + 1 < 65540 ∧ if M.2.1 4 (i + 1) = 401 then rp_prt j (fun p M => rp_lay 2 (p / 256) (p - p / 256 * 256) M fun M => K (p / 256 - (p - p / 256 * 256) + 1) M) M
    else E (fun w M => rp_cost (rp_max w ((rp_i M 1).2.1 20 j)).toInt64 (rp_i M 1) fun M => rp_lay 3 (M.2.1 20 j) 0 M fun M => K 1 M) (rp_i M 1)) else K (M.2.1 20 j) M) else K 1 M
def rp_opr (K : Int32 → rm_M → Prop) (M : rm_M) : Prop := rp_una (fun M' => rp_prm N E (fun w M1 => rp_unl (M.1 8) K N (M'.1 8 - 1) w M1) M') N M
def rp_wt (M : rm_M) (a i : Nat) : rm_M := (va_up (va_up M.1 48 (nI (a + 1))) 8 (nI (i + 1)), va_up (va_up M.2.1 46 (upd (M.2.1 46) a (M.2.1 4 i))) 47 (upd (M.2.1 47) a (M.2.1 5 i)), M.2.2)
def rp_lop (fl : Int32) (K : rm_M → Prop) : Nat → rm_M → Prop
  | 0, _ => False
  | n + 1, M => if M.1 9 = 0 then (rp_kd M fun kd => if 0 < rm_rank kd then rp_red fl (rm_rank kd) (fun M => ∃ a i, M.1 48 = nI a ∧ a < 4096 ∧ M.1 8 = nI i ∧ i < 65540 ∧ rp_opr N E (fun w M => rp_pw w M fun M => rp_lop fl K n M) (rp_wt M a i)) N M else K M) else K M
def rp_bin (K : Int32 → rm_M → Prop) (M : rm_M) : Prop := rp_opr N E (fun w M1 => rp_pw w M1 fun M1 => rp_lop N E (M.1 48) (fun M2 => rp_fin (M.1 48) (fun M3 => ∃ b, M3.1 50 = nI (b + 1) ∧ b < 4096 ∧ K (M3.2.1 49 b) (va_up M3.1 50 (nI b), M3.2)) N M2) N M1) M
def rp_ex1 (K : Int32 → rm_M → Prop) (M : rm_M) : Prop := rp_bin N E (fun c M => rp_is M 63 fun b => if b = true then (rp_bg M fun sg => E (fun x M => E (fun y M => rp_cost (rp_max x c).toInt64 (rp_ff (x ≠ y) 30 sg M) fun M => rp_lay 6 0 0 M fun M => K x M) (rp_i M 1)) (rp_i M 1)) else K c M) M
end RPE
def rp_exf (N : Nat) : Nat → rp_E
  | 0 => fun _ _ => False
  | m + 1 => rp_ex1 N (rp_exf N m)
def rp_exp (N : Nat) : rp_E := rp_exf N 61

/-! THE SECOND PASS, as conditions: items, modules. -/
def rp_mno (x : Int32) (M : rm_M) (K : Int32 → Prop) : Prop := ∃ n T i mc, rm_T n T M ∧ x = nI i ∧ i < T.length ∧ tx_ki T i = 19 ∧ M.1 12 = nI mc ∧ mc ≤ 3600 ∧ rm_nN T (M.2.1 13) 0 mc ∧ K (rm_on (rm_sN T (M.2.1 13) i 0 mc))
def rp_inm (x : Int32) (M : rm_M) (K : Bool → Prop) : Prop := ∃ n T i mc lo hi, rm_T n T M ∧ x = nI i ∧ i < T.length ∧ tx_ki T i = 19 ∧ M.1 12 = nI mc ∧ mc < 3600 ∧ M.2.1 15 mc = nI lo ∧ M.1 27 = nI hi ∧ lo ≤ hi ∧ hi ≤ 11000 ∧ rm_nN T (M.2.1 29) lo hi ∧ K (rm_sN T (M.2.1 29) i lo (hi - lo)).isSome
def rp_sgn (x : Int32) (m : Nat) (M : rm_M) (K : Int32 → Prop) : Prop := ∃ n T i lo hi, rm_T n T M ∧ x = nI i ∧ i < T.length ∧ tx_ki T i = 19 ∧ m < 3600 ∧ M.2.1 14 m = nI lo ∧ M.2.1 14 (m + 1) = nI hi ∧ lo ≤ hi ∧ hi ≤ 11000 ∧ rm_nN T (M.2.1 19) lo hi ∧ K (rm_on (rm_sN T (M.2.1 19) i lo (hi - lo)))
/-- the first of the links lo .. that leads to x -/
def rm_lk (g : Nat → Int32) (x : Int32) (lo : Nat) : Nat → Option Nat
  | 0 => none
  | d + 1 => if g lo = x then some lo else rm_lk g x (lo + 1) d
def rp_lof (x : Int32) (M : rm_M) (K : Int32 → Prop) : Prop := ∃ it lo hi, M.1 27 = nI it ∧ it < 11000 ∧ M.2.1 30 it = nI lo ∧ M.1 31 = nI hi ∧ lo ≤ hi ∧ hi ≤ 11000 ∧ K (rm_on (rm_lk (M.2.1 32) x lo (hi - lo)))
def rp_rng (K : Int32 → rm_M → Prop) (M : rm_M) : Prop := rp_is M 91 fun b => if b = true then (rp_num (M.1 8 + 1) M fun h M => rp_num (M.1 8 + 3) M fun l M => rp_bg M fun bg => K (h.toInt32 + 1) (rp_i (if 63 < h ∨ ¬ l = 0 then rm_fail 30 bg M else M) 5)) else K 1 M
def rp_dup (M : rm_M) (K : Bool → Prop) : Prop := rp_here (M.1 8) M fun q => if 0 ≤ q then K true else rp_inm (M.1 8) M K
def rp_dc (M : rm_M) (k : Nat) (kd w : Int32) : rm_M := rp_i (rp_int (rp_set (rp_set (rp_lset (rp_set (rp_set (rp_set M 19 k (M.1 8)) 20 k w) 21 k kd) 22 k 0) 23 k 0) 26 k 0) 18 (nI (k + 1))) 1
def rp_dl2 (kd w : Int32) (K : rm_M → Prop) (M : rm_M) : Prop := ∃ k, M.1 18 = nI k ∧ k < 11000 ∧ rp_is (rp_dc M k kd w) 61 fun b => if b = true then (rp_wid ((rp_i (rp_dc M k kd w) 1).1 8) (rp_i (rp_dc M k kd w) 1) fun x => rp_bg (rp_i (rp_dc M k kd w) 1) fun bg => rp_num ((rp_i (rp_dc M k kd w) 1).1 8) (if x = w then rp_i (rp_dc M k kd w) 1 else rm_fail 30 bg (rp_i (rp_dc M k kd w) 1)) fun v M => K (rp_i (rp_lset M 22 k v) 1)) else K (rp_dc M k kd w)
def rp_dcl (kd w : Int32) (K : rm_M → Prop) (M : rm_M) : Prop := if M.1 9 = 0 then (rp_dup M fun b => rp_bg M fun bg => rp_dl2 kd w K (if b = true then rm_fail 21 bg M else M)) else rp_dl2 kd w K M
def rp_port (K : rm_M → Prop) (M : rm_M) : Prop := rp_kd M fun kd => if kd = 302 then rp_rng (fun w M => rp_dcl 0 w K M) (rp_i M 1) else rp_kd (rp_i M 1) fun k2 => if k2 = 305 then rp_rng (fun w M => rp_dcl 2 w K M) (rp_i (rp_i M 1) 1) else rp_rng (fun w M => rp_dcl 1 w K M) (rp_i M 1)
section RPI
variable (N : Nat)
def rp_drv (M : rm_M) (j : Nat) (a b c : Int32) : rm_M := rp_set (rp_set (rp_set M 23 j a) 24 j b) 25 j c
def rp_asg (K : rm_M → Prop) (M : rm_M) : Prop := rp_here (M.1 8 + 1) (rp_i M 1) fun q => rp_bg (rp_i M 1) fun bg => if q < 0 then K (rm_fail 22 bg (rp_i M 1)) else ∃ j, q = nI j ∧ j < 11000 ∧ if M.2.1 21 j = 1 ∨ M.2.1 21 j = 3 then
    (rp_bg (rp_i (if M.2.1 23 j = 0 then rp_i M 1 else rm_fail 31 bg (rp_i M 1)) 1) fun sg => rp_exp N (fun w M1 => K (rp_i (rp_drv (rp_ff (w ≠ M1.2.1 20 j) 30 sg M1) j 1 (M.1 42) (M1.1 42)) 1)) (rp_i (rp_i (if M.2.1 23 j = 0 then rp_i M 1 else rm_fail 31 bg (rp_i M 1)) 1) 1))
  else K (rm_fail 22 bg (rp_i M 1))
def rp_lnt (p : Nat) (dot : Int32) (out : Bool) (q bf fm w : Int32) (K : rm_M → Prop) (M : rm_M) : Prop := ∃ lk, M.1 31 = nI lk ∧ lk < 11000 ∧ if out = true then (∃ j, q = nI j ∧ j < 11000 ∧ K (rp_i (rp_drv (rp_int (rp_set (rp_set (rp_set (if (if w = M.2.1 20 p then M else rm_fail 30 dot M).2.1 23 j = 0 then (if w = M.2.1 20 p then M else rm_fail 30 dot M) else rm_fail 31 bf (if w = M.2.1 20 p then M else rm_fail 30 dot M)) 32 lk (nI p)) 33 lk fm) 34 lk (M.1 42)) 31 (nI (lk + 1))) j 2 (M.1 27) (nI p)) 1))
  else K (rp_i (rp_int (rp_set (rp_set (rp_set (if w = M.2.1 20 p then M else rm_fail 30 dot M) 32 lk (nI p)) 33 lk fm) 34 lk (M.1 42)) 31 (nI (lk + 1))) 1)
def rp_lnk (m : Nat) (K : rm_M → Prop) (M : rm_M) : Prop := rp_bg M fun dot => rp_sgn (M.1 8 + 1) m (rp_i M 1) fun q => rp_bg (rp_i M 1) fun bg => if q < 0 then K (rm_fail 23 bg (rp_i M 1)) else ∃ p, q = nI p ∧ p < 11000 ∧ if 2 < M.2.1 21 p then K (rm_fail 23 bg (rp_i M 1)) else rp_lof q (rp_i M 1) fun k => if 0 ≤ k then K (rm_fail 23 bg (rp_i M 1)) else
  ∃ j, (rp_i (rp_i M 1) 2).1 8 = nI j ∧ j < 65540 ∧ rp_exp N (fun w M1 => if M1.1 9 = 0 then (if M1.2.1 21 p = 0 then rp_lnt p dot false (-1) 0 (M.1 42) w K M1 else if M1.2.1 4 j = 400 ∧ M1.1 8 = nI j + 1 then rp_here (nI j) M1 fun q => if q < 0 then K (rm_fail 25 (M1.2.1 5 j) M1) else (∃ x, q = nI x ∧ x < 11000 ∧ if M1.2.1 21 x = 1 ∨ M1.2.1 21 x = 3 then rp_lnt p dot true q (M1.2.1 5 j) (M.1 42) w K M1 else K (rm_fail 25 (M1.2.1 5 j) M1)) else K (rm_fail 25 (M1.2.1 5 j) M1)) else K M1) (rp_i (rp_i M 1) 2)
def rp_lks (m : Nat) (K : rm_M → Prop) : Nat → rm_M → Prop
  | 0, _ => False
  | n + 1, M => rp_is M 46 fun b => if b = true then rp_lnk N m (fun M => rp_kd M fun kd => rp_lks m K n (rp_t M (if kd = 44 then M.1 8 + 1 else M.1 8))) M else K M
def rp_all (ow : Nat) (hi : Int32) (K : rm_M → Prop) : Nat → Int32 → rm_M → Prop
  | 0, _, _ => False
  | n + 1, k, M => if k < hi then (if M.1 9 = 0 then (∃ j, k = nI j ∧ j < 11000 ∧ if M.2.1 21 j < 3 then (rp_lof k M fun x => if x < 0 then rp_all ow hi K n (k + 1) (rm_fail 24 (M.2.1 5 ow) M) else rp_all ow hi K n (k + 1) M) else rp_all ow hi K n (k + 1) M) else K M) else K M
def rp_ins (K : rm_M → Prop) (M : rm_M) : Prop := rp_mno (M.1 8) M fun q => rp_bg M fun bg => if q < 0 then K (rm_fail 22 bg M) else ∃ m, q = nI m ∧ m < 3600 ∧ rp_dup (rp_i M 1) fun b => rp_bg (rp_i M 1) fun bg => ∃ it ow, M.1 27 = nI it ∧ it < 11000 ∧ (rp_i M 1).1 8 = nI ow ∧ ow < 65540 ∧
  rp_lks N m (fun M => ∃ lo, M.2.1 14 m = nI lo ∧ rp_all ow (M.2.1 14 (m + 1)) (fun M => ∃ it, M.1 27 = nI it ∧ it < 11000 ∧ K (rp_set (rp_int (rp_i M 1) 27 (nI (it + 1))) 30 (it + 1) (M.1 31))) N (nI lo) (rp_i M 1)) N (rp_i (rp_set (rp_set (rp_set (if b = true then rm_fail 21 bg (rp_i M 1) else rp_i M 1) 28 it q) 29 it (nI ow)) 30 it (M.1 31)) 2)
def rp_itm (K : rm_M → Prop) (M : rm_M) : Prop := rp_kd M fun kd => if kd = 304 then rp_rng (fun w M => rp_dcl 3 w (fun M => K (rp_i M 1)) M) (rp_i M 1) else if kd = 305 then rp_rng (fun w M => rp_dcl 4 w (fun M => K (rp_i M 1)) M) (rp_i M 1) else if kd = 306 then rp_asg N K M
  else if kd = 307 then (∃ a, M.1 38 = nI a ∧ a < 6600 ∧ rp_stm N (fun M => ∃ a, M.1 38 = nI a ∧ a < 6600 ∧ K (rp_int (rp_set M 40 a (M.1 42)) 38 (nI (a + 1)))) (rp_set (rp_i M 6) 39 a (M.1 42)))
  else if kd = 317 then (∃ a, M.1 35 = nI a ∧ a < 6600 ∧ rp_exp N (fun w M => rp_cost w.toInt64 M fun M => ∃ a, M.1 35 = nI a ∧ a < 6600 ∧ K (rp_i (rp_int (rp_set M 37 a (M.1 42)) 35 (nI (a + 1))) 2)) (rp_set (rp_i M 2) 36 a (M.1 42)))
  else rp_ins N K M
def rp_pos (K : rm_M → Prop) : Nat → rm_M → Prop
  | 0, _ => False
  | n + 1, M => rp_is M 302 fun a => rp_is M 303 fun b => if a = true ∨ b = true then rp_port (fun M => rp_kd M fun kd => rp_pos K n (rp_t M (if kd = 44 then M.1 8 + 1 else M.1 8))) M else K M
def rp_its (K : rm_M → Prop) : Nat → rm_M → Prop
  | 0, _ => False
  | n + 1, M => if M.1 9 = 0 then (rp_kd M fun kd => if kd = 301 then K M else rp_itm N (fun M => rp_its K n M) M) else K M
def rp_drn (K : rm_M → Prop) : Nat → Int32 → rm_M → Prop
  | 0, _, _ => False
  | n + 1, k, M => if k < M.1 18 then (if M.1 9 = 0 then (∃ j, k = nI j ∧ j < 11000 ∧ if (M.2.1 21 j = 1 ∨ M.2.1 21 j = 3) ∧ M.2.1 23 j = 0 then (∃ y, M.2.1 19 j = nI y ∧ y < 65540 ∧ rp_drn K n (k + 1) (rm_fail 33 (M.2.1 5 y) M)) else rp_drn K n (k + 1) M) else K M) else K M
/-- where the module mc begins -/
def rp_fst (M : rm_M) (mc : Nat) : rm_M := rp_set (rp_set (rp_set (rp_set M 14 mc (M.1 18)) 15 mc (M.1 27)) 16 mc (M.1 35)) 17 mc (M.1 38)
def rp_mod (K : rm_M → Prop) (M : rm_M) : Prop := rp_mno (M.1 8 + 1) (rp_i M 1) fun q => rp_bg (rp_i M 1) fun bg => ∃ mc, M.1 12 = nI mc ∧ mc < 3600 ∧
  rp_pos (fun M => rp_its N (fun M => ∃ mc, M.1 12 = nI mc ∧ mc < 3600 ∧ rp_drn (fun M => ∃ mc, M.1 12 = nI mc ∧ mc < 3600 ∧ K (rp_fst (rp_int (rp_lset (rp_i M 1) 56 mc (M.2.2.1 45 mc)) 12 (nI (mc + 1))) (mc + 1))) N (M.2.1 14 mc) M) N (rp_i M 2)) N
    (rp_i (rp_lset (rp_fst (rp_set (if 0 ≤ q then rm_fail 20 bg (rp_i M 1) else rp_i M 1) 13 mc (M.1 8 + 1)) mc) 45 mc 0) 2)
def rp_mds (K : rm_M → Prop) : Nat → rm_M → Prop
  | 0, _ => False
  | n + 1, M => if M.1 9 = 0 then (rp_kd M fun kd => if kd = 403 then K M else rp_mod N (rp_mds K n) M) else K M
/-- all tables are empty -/
def rp_clr (M : rm_M) : rm_M := rp_set (rp_int (rp_int (rp_int (rp_int (rp_int (rp_int (rp_int (rp_int (rp_int (rp_int (rp_int M 8 0) 12 0) 18 0) 27 0) 31 0) 35 0) 38 0) 42 0) 44 0) 48 0) 50 0) 30 0 0
def rp_dsg (K : rm_M → Prop) (M : rm_M) : Prop := rp_mds N K N (rp_clr M)
end RPI

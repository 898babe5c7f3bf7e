/-! THE SECOND PASS, as conditions: statements, items, modules. -/
abbrev rp_S : Type := (rm_M → Prop) → rm_M → Prop
def rp_int (M : rm_M) (j : Nat) (v : Int32) : rm_M := (va_up M.1 j v, M.2)
def rp_lset (M : rm_M) (row j : Nat) (v : Int64) : rm_M := (M.1, M.2.1, va_up M.2.2.1 row (vp_updL (M.2.2.1 row) j v), M.2.2.2)
/-- the place j of the code is set to where the next step will lie -/
def rp_cd (j : Nat) (M : rm_M) (K : rm_M → Prop) : Prop := j < M.2.2.2.1 ∧ K (rp_set M 41 j (M.1 42))
def rp_pat (K : rm_M → Prop) : Nat → Int32 → rm_M → Prop
  | 0, _, _ => False
  | n + 1, k, M => if k < 0 then K M else ∃ j, k = nI j ∧ j + 1 < M.2.2.2.1 ∧ rp_pat K n (M.2.1 41 (j + 1)) (rp_set M 41 (j + 1) (M.1 42))
def rp_cvl (w : Int32) (K : Int32 → rm_M → Prop) : Nat → Bool → Int32 → rm_M → Prop
  | 0, _, _, _ => False
  | n + 1, more, tb, M => if more = true ∧ M.1 9 = 0 then (rp_wid (M.1 8) M fun x => rp_bg M fun bg => rp_cost w.toInt64 (if x = w then M else rm_fail 30 bg M) fun M => rp_num (M.1 8) M fun _ M => rp_keep M fun q M => rp_lay 12 tb q M fun M => rp_kd (rp_i M 1) fun kd => rp_cvl w K n (decide (kd = 44)) (M.1 42 - 3) (rp_i (rp_i M 1) 1)) else K tb M
/-- a register is set -/
def rp_reg (k : Int32) : Prop := k = 2 ∨ k = 4
def rp_dvn (k : Int32) : Prop := k = 1 ∨ k = 3
section RPS
variable (N : Nat)
def rp_sgt (j : Nat) (part sg : Int32) (K : rm_M → Prop) (M : rm_M) : Prop := rp_exp N (fun w M => rp_cost (part / 256 - (part - part / 256 * 256) + 1).toInt64 (rp_ff (w ≠ part / 256 - (part - part / 256 * 256) + 1) 30 sg M) fun M => rp_lay 9 (nI j) part M fun M => K (rp_i M 1)) M
def rp_stg (K : rm_M → Prop) (M : rm_M) : Prop := rp_here (M.1 8) M fun q => rp_bg M fun bg => if q < 0 then K (rm_fail 22 bg M) else ∃ j, q = nI j ∧ j < 11000 ∧ if M.2.1 21 j = 2 ∨ M.2.1 21 j = 4 then
    (rp_kd (rp_i (rp_set (if ¬ M.2.1 26 j = 0 ∧ ¬ M.2.1 26 j = M.1 38 + 1 then rm_fail 32 bg M else M) 26 j (M.1 38 + 1)) 1) fun kd => if kd = 91 then rp_prt j (fun p M => rp_bg M fun sg => rp_sgt N j p sg K (rp_i M 1)) (rp_i (rp_set (if ¬ M.2.1 26 j = 0 ∧ ¬ M.2.1 26 j = M.1 38 + 1 then rm_fail 32 bg M else M) 26 j (M.1 38 + 1)) 1)
      else rp_bg (rp_i (rp_set (if ¬ M.2.1 26 j = 0 ∧ ¬ M.2.1 26 j = M.1 38 + 1 then rm_fail 32 bg M else M) 26 j (M.1 38 + 1)) 1) fun sg => rp_sgt N j (256 * (M.2.1 20 j - 1)) sg K (rp_i (rp_i (rp_set (if ¬ M.2.1 26 j = 0 ∧ ¬ M.2.1 26 j = M.1 38 + 1 then rm_fail 32 bg M else M) 26 j (M.1 38 + 1)) 1) 1))
  else K (rm_fail 22 bg M)
variable (S : rp_S)
def rp_blk (K : rm_M → Prop) : Nat → rm_M → Prop
  | 0, _ => False
  | n + 1, M => if M.1 9 = 0 then (rp_kd M fun kd => if kd = 311 then K M else S (rp_blk K n) M) else K M
def rp_iff (K : rm_M → Prop) (M : rm_M) : Prop := rp_exp N (fun w M => rp_cost w.toInt64 M fun M => ∃ x, M.1 42 = nI x ∧ rp_lay 10 0 0 (rp_i M 1) fun M => S (fun M => rp_is M 313 fun b => if b = true then (∃ y, M.1 42 = nI y ∧ rp_lay 11 0 0 (rp_i M 1) fun M => rp_cd (x + 1) M fun M => S (fun M => rp_cd (y + 1) M K) M) else rp_cd (x + 1) M K) M) (rp_i M 2)
def rp_cas (w : Int32) (K : rm_M → Prop) : Nat → Int32 → rm_M → Prop
  | 0, _, _ => False
  | n + 1, te, M => rp_is M 402 fun b => if b = true then rp_cvl w (fun tb M => ∃ x, M.1 42 = nI x ∧ rp_lay 11 0 0 M fun M => rp_pat (fun M => rp_lay 13 0 0 M fun M => S (fun M => rp_lay 11 te 0 M fun M => rp_cd (x + 1) M fun M => rp_cas w K n (M.1 42 - 3) M) M) N tb M) N true (-1) M
    else rp_lay 13 0 0 M fun M => rp_is M 316 fun b => if b = true then S (fun M => rp_pat (fun M => K (rp_i M 1)) N te M) (rp_i M 2) else rp_pat (fun M => K (rp_i M 1)) N te M
def rp_css (K : rm_M → Prop) (M : rm_M) : Prop := rp_exp N (fun w M => rp_cas N S w K N (-1) (rp_i M 1)) (rp_i M 2)
def rp_st1 (K : rm_M → Prop) (M : rm_M) : Prop := if M.1 9 = 0 then (rp_kd M fun kd => if kd = 310 then rp_blk S (fun M => K (rp_i M 1)) N (rp_i M 1) else if kd = 312 then rp_iff N S K M else if kd = 314 then rp_css N S K M else rp_stg N K M) else K M
end RPS
def rp_stf (N : Nat) : Nat → rp_S
  | 0 => fun _ _ => False
  | m + 1 => rp_st1 N (rp_stf N m)
def rp_stm (N : Nat) : rp_S := rp_stf N 61

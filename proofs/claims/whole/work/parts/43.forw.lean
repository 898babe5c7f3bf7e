/-! THE READER goes forward. -/
def tx_R.up {α : Type} (n : Nat) (r : tx_R α) : Prop := ∀ a i s, r = .inr (a, i, s) → n ≤ i
section TXU
variable {α β : Type} {n : Nat}
theorem tx_R.up.and {r : tx_R α} {g : α → Nat → tx_S → tx_R β} (h : r.up n) (hg : ∀ a i s, n ≤ i → (g a i s).up n) : (r.and g).up n := by
  intro a i s e
  unfold tx_R.and at e
  split at e
  · cases e
  · exact hg _ _ _ (h _ _ _ rfl) a i s e
theorem tx_up.r {a : α} {i : Nat} {s : tx_S} (h : n ≤ i) : tx_R.up n (.inr (a, i, s) : tx_R α) := by
  intro a' i' s' e
  cases e
  exact h
theorem tx_up.tk {T : List tx_Tk} {kd : Int32} {i : Nat} {s : tx_S} (h : n ≤ i + 1) : (tx_tk T kd i s).up n := by
  unfold tx_tk
  split
  · exact tx_up.r h
  · intro a i s e
    cases e
theorem tx_up.op {T : List tx_Tk} {kd : Int32} {f i : Nat} {s : tx_S} {g : Nat → tx_Tk → Nat → tx_S → tx_R β} (h : ∀ f t s, (g f t (i + 1) s).up n) : (tx_op T kd f i s g).up n := by
  unfold tx_op
  split
  · cases f with
    | zero => intro a i s e; cases e
    | succ f => exact h _ _ _
  · intro a i s e
    cases e
theorem tx_up.i {c : Prop} [Decidable c] {r r' : tx_R α} (h : c → r.up n) (h' : ¬ c → r'.up n) : (if c then r else r').up n := by
  split
  · exact h (by assumption)
  · exact h' (by assumption)
theorem tx_una_le (T : List tx_Tk) : ∀ (m i : Nat) (b c : Int32) (r : Bool), i ≤ (tx_una T m i b c r).1 := by
  intro m
  induction m with
  | zero => intro i b c r; exact Nat.le_refl _
  | succ m ih =>
    intro i b c r
    unfold tx_una
    split
    · split
      · exact Nat.le_trans (Nat.le_succ i) (ih _ _ _ _)
      · exact Nat.le_trans (Nat.le_succ i) (ih _ _ _ _)
    · exact Nat.le_refl _
theorem tx_up.prt {T : List tx_Tk} {br : tx_Tk} {w : Int32} {i : Nat} {s : tx_S} (h : n ≤ i + 1) : (tx_prt T br w i s).up n := by
  unfold tx_prt
  exact (tx_up.tk h).and fun _ j _ hj => tx_up.i (fun _ => (tx_up.tk (by omega)).and fun _ j _ hj => (tx_up.tk (by omega)).and fun _ j _ hj => (tx_up.tk (by omega)).and fun _ j _ hj => tx_up.r hj) (fun _ => (tx_up.tk (by omega)).and fun _ j _ hj => tx_up.r hj)
section TXV
variable {T : List tx_Tk}
theorem tx_R.up.le {r : tx_R α} {m : Nat} (h : r.up m) (hn : n ≤ m) : r.up n := fun a i s e => Nat.le_trans hn (h a i s e)
theorem tx_up.nmd {E : Nat → Nat → tx_S → tx_R Int32} (hE : ∀ f i s, (E f i s).up i) {f i : Nat} {s : tx_S} : (tx_nmd T E f i s).up (i + 1) := by
  unfold tx_nmd
  exact (tx_up.tk (Nat.le_refl _)).and fun _ j _ hj => tx_up.i (fun _ => tx_up.op fun _ _ _ => tx_up.i (fun _ => tx_up.prt (by omega)) (fun _ => ((hE _ _ _).le (by omega)).and fun _ j _ hj => (tx_up.tk (by omega)).and fun _ j _ hj => tx_up.r hj)) (fun _ => tx_up.r hj)
theorem tx_up.com {E : Nat → Nat → tx_S → tx_R Int32} (hE : ∀ f i s, (E f i s).up i) {f : Nat} : ∀ (m : Nat) (w : Int32) (i : Nat) (s : tx_S), (tx_cms T E f m w i s).up i := by
  intro m
  induction m with
  | zero => intro w i s; exact tx_up.r (Nat.le_refl _)
  | succ m ih =>
    intro w i s
    unfold tx_cms
    exact tx_up.i (fun _ => (tx_up.tk (by omega)).and fun _ j _ hj => ((hE _ _ _).le (by omega)).and fun _ j _ hj => (ih _ _ _).le (by omega)) (fun _ => tx_up.r (Nat.le_refl _))
theorem tx_up.brc {E : Nat → Nat → tx_S → tx_R Int32} (hE : ∀ f i s, (E f i s).up i) {f i : Nat} {s : tx_S} : (tx_brc T E f i s).up (i + 1) := by
  unfold tx_brc tx_brw
  exact tx_up.op fun _ _ _ => tx_up.i (fun _ => (tx_up.tk (by omega)).and fun _ j _ hj => tx_up.op fun _ _ _ => ((hE _ _ _).le (by omega)).and fun _ j _ hj => (tx_up.tk (by omega)).and fun _ j _ hj => (tx_up.tk (by omega)).and fun _ j _ hj => tx_up.r hj) (fun _ => ((hE _ _ _).le (by omega)).and fun _ j _ hj => ((tx_up.com hE _ _ _ _).le (by omega)).and fun _ j _ hj => (tx_up.tk (by omega)).and fun _ j _ hj => tx_up.r hj)
theorem tx_up.prm {E : Nat → Nat → tx_S → tx_R Int32} (hE : ∀ f i s, (E f i s).up i) {f i : Nat} {s : tx_S} : (tx_prm T E f i s).up (i + 1) := by
  unfold tx_prm
  exact tx_up.i (fun _ => (tx_up.tk (by omega)).and fun _ j _ hj => tx_up.r hj) (fun _ => tx_up.i (fun _ => tx_up.op fun _ _ _ => ((hE _ _ _).le (by omega)).and fun _ j _ hj => (tx_up.tk (by omega)).and fun _ j _ hj => tx_up.r hj) (fun _ => tx_up.i (fun _ => tx_up.brc hE) (fun _ => tx_up.nmd hE)))
theorem tx_up.opr {E : Nat → Nat → tx_S → tx_R Int32} (hE : ∀ f i s, (E f i s).up i) {f i : Nat} {s : tx_S} : (tx_opr T E f i s).up (i + 1) := by
  unfold tx_opr
  exact ((tx_up.prm hE).le (Nat.succ_le_succ (tx_una_le T _ _ _ _ _))).and fun _ j _ hj => tx_up.r hj
theorem tx_up.lop {E : Nat → Nat → tx_S → tx_R Int32} (hE : ∀ f i s, (E f i s).up i) {f : Nat} : ∀ (m : Nat) (W : tx_Wt) (w : Int32) (i : Nat) (s : tx_S), (tx_lop T E f m W w i s).up i := by
  intro m
  induction m with
  | zero => intro W w i s; exact tx_up.r (Nat.le_refl _)
  | succ m ih =>
    intro W w i s
    unfold tx_lop
    exact tx_up.i (fun _ => tx_up.r (Nat.le_refl _)) (fun _ => (tx_up.tk (by omega)).and fun _ j _ hj => ((tx_up.opr hE).le (by omega)).and fun _ j _ hj => (ih _ _ _ _).le (by omega))
theorem tx_up.ex1 {E : Nat → Nat → tx_S → tx_R Int32} (hE : ∀ f i s, (E f i s).up i) {f i : Nat} {s : tx_S} : (tx_ex1 T E f i s).up (i + 1) := by
  unfold tx_ex1 tx_cnd
  exact (tx_up.opr hE).and fun _ j _ hj => ((tx_up.lop hE _ _ _ _ _).le (by omega)).and fun _ j _ hj => tx_up.i (fun _ => tx_up.op fun _ _ _ => ((hE _ _ _).le (by omega)).and fun _ j _ hj => (tx_up.tk (by omega)).and fun _ j _ hj => ((hE _ _ _).le (by omega)).and fun _ j _ hj => tx_up.r hj) (fun _ => tx_up.r hj)
end TXV
theorem tx_up.exf {T : List tx_Tk} : ∀ (m f i : Nat) (s : tx_S), (tx_exf T m f i s).up i := by
  intro m
  induction m with
  | zero => intro f i s; exact tx_up.r (Nat.le_refl _)
  | succ m ih => intro f i s; exact (tx_up.ex1 ih).le (by omega)
theorem tx_up.exp {T : List tx_Tk} (f i : Nat) (s : tx_S) : (tx_exp T f i s).up (i + 1) := tx_up.ex1 (tx_up.exf 60)
section TXW
variable {T : List tx_Tk}
theorem tx_up.blk {S : Nat → Nat → tx_S → tx_R Unit} (hS : ∀ f i s, (S f i s).up i) {f : Nat} : ∀ (m i : Nat) (s : tx_S), (tx_blk T S f m i s).up i := by
  intro m
  induction m with
  | zero => intro i s; exact tx_up.r (Nat.le_refl _)
  | succ m ih =>
    intro i s
    unfold tx_blk
    exact tx_up.i (fun _ => tx_up.r (Nat.le_refl _)) (fun _ => (hS _ _ _).and fun _ j _ hj => (ih _ _).le (by omega))
theorem tx_up.chc {S : Nat → Nat → tx_S → tx_R Unit} (hS : ∀ f i s, (S f i s).up i) {f i : Nat} {s : tx_S} : (tx_chc T S f i s).up (i + 1) := by
  unfold tx_chc
  exact tx_up.op fun _ _ _ => tx_up.op fun _ _ _ => ((tx_up.exp _ _ _).le (by omega)).and fun _ j _ hj => (tx_up.tk (by omega)).and fun _ j _ hj => ((hS _ _ _).le (by omega)).and fun _ j _ hj => tx_up.i (fun _ => (tx_up.tk (by omega)).and fun _ j _ hj => (hS _ _ _).le (by omega)) (fun _ => tx_up.r hj)
theorem tx_up.cvs {w : Int32} : ∀ (m i : Nat) (s : tx_S), (tx_cvs T w m i s).up i := by
  intro m
  induction m with
  | zero => intro i s; exact tx_up.r (Nat.le_refl _)
  | succ m ih =>
    intro i s
    unfold tx_cvs
    exact tx_up.i (fun _ => (tx_up.tk (by omega)).and fun _ j _ hj => (tx_up.tk (by omega)).and fun _ j _ hj => (ih _ _).le (by omega)) (fun _ => tx_up.r (Nat.le_refl _))
theorem tx_up.cas {S : Nat → Nat → tx_S → tx_R Unit} (hS : ∀ f i s, (S f i s).up i) {f : Nat} {w : Int32} : ∀ (m i : Nat) (s : tx_S), (tx_cas T S f w m i s).up i := by
  intro m
  induction m with
  | zero => intro i s; exact tx_up.r (Nat.le_refl _)
  | succ m ih =>
    intro i s
    unfold tx_cas
    exact tx_up.i (fun _ => (tx_up.tk (by omega)).and fun _ j _ hj => ((tx_up.cvs _ _ _).le (by omega)).and fun _ j _ hj => (tx_up.tk (by omega)).and fun _ j _ hj => ((hS _ _ _).le (by omega)).and fun _ j _ hj => (ih _ _).le (by omega)) (fun _ => tx_up.r (Nat.le_refl _))
theorem tx_up.css {S : Nat → Nat → tx_S → tx_R Unit} (hS : ∀ f i s, (S f i s).up i) {f i : Nat} {s : tx_S} : (tx_css T S f i s).up (i + 1) := by
  unfold tx_css
  exact tx_up.op fun _ _ _ => tx_up.op fun _ _ _ => ((tx_up.exp _ _ _).le (by omega)).and fun _ j _ hj => (tx_up.tk (by omega)).and fun _ j _ hj => ((tx_up.cas hS _ _ _).le (by omega)).and fun _ j _ hj => (tx_up.i (fun _ => (tx_up.tk (by omega)).and fun _ j _ hj => (tx_up.tk (by omega)).and fun _ j _ hj => (hS _ _ _).le (by omega)) (fun _ => tx_up.r hj)).and fun _ j _ hj => (tx_up.tk (by omega)).and fun _ j _ hj => tx_up.r hj
theorem tx_up.str {f i : Nat} {w : Int32} {s : tx_S} : (tx_str T f w i s).up (i + 1) := by
  unfold tx_str
  exact (tx_up.tk (by omega)).and fun _ j _ hj => ((tx_up.exp _ _ _).le (by omega)).and fun _ j _ hj => (tx_up.tk (by omega)).and fun _ j _ hj => tx_up.r hj
theorem tx_up.stg {f i : Nat} {s : tx_S} : (tx_stg T f i s).up (i + 1) := by
  unfold tx_stg
  exact (tx_up.tk (by omega)).and fun _ j _ hj => tx_up.i (fun _ => tx_up.op fun _ _ _ => (tx_up.prt (by omega)).and fun _ j _ hj => tx_up.str.le (by omega)) (fun _ => tx_up.str.le (by omega))
theorem tx_up.st1 {S : Nat → Nat → tx_S → tx_R Unit} (hS : ∀ f i s, (S f i s).up i) {f i : Nat} {s : tx_S} : (tx_st1 T S f i s).up (i + 1) := by
  unfold tx_st1
  exact tx_up.i (fun _ => tx_up.op fun _ _ _ => ((tx_up.blk hS _ _ _).le (by omega)).and fun _ j _ hj => (tx_up.tk (by omega)).and fun _ j _ hj => tx_up.r hj) (fun _ => tx_up.i (fun _ => tx_up.chc hS) (fun _ => tx_up.i (fun _ => tx_up.css hS) (fun _ => tx_up.stg)))
end TXW
theorem tx_up.stf {T : List tx_Tk} : ∀ (m f i : Nat) (s : tx_S), (tx_stf T m f i s).up i := by
  intro m
  induction m with
  | zero => intro f i s; exact tx_up.r (Nat.le_refl _)
  | succ m ih => intro f i s; exact (tx_up.st1 ih).le (by omega)
theorem tx_up.stf1 {T : List tx_Tk} (m f i : Nat) (s : tx_S) : (tx_stf T (m + 1) f i s).up (i + 1) := tx_up.st1 (tx_up.stf m)
theorem tx_up.stm {T : List tx_Tk} (f i : Nat) (s : tx_S) : (tx_stm T f i s).up (i + 1) := tx_up.stf1 60 f i s
section TXQ
variable {T : List tx_Tk} {f i : Nat} {s : tx_S}
theorem tx_up.rng : (tx_rng T f i s).up i := by
  unfold tx_rng
  exact tx_up.i (fun _ => tx_up.op fun _ _ _ => (tx_up.tk (by omega)).and fun _ j _ hj => (tx_up.tk (by omega)).and fun _ j _ hj => (tx_up.tk (by omega)).and fun _ j _ hj => (tx_up.tk (by omega)).and fun _ j _ hj => tx_up.r hj) (fun _ => tx_up.r (Nat.le_refl _))
theorem tx_up.pnm {kd : Int32} : (tx_pnm T kd f i s).up i := by
  unfold tx_pnm
  exact tx_up.rng.and fun _ j _ hj => (tx_up.tk (by omega)).and fun _ j _ hj => tx_up.r hj
theorem tx_up.rgs {kd : Int32} : (tx_rgs T kd f i s).up (i + 1) := by
  unfold tx_rgs
  exact (tx_up.tk (by omega)).and fun _ j _ hj => (tx_up.rng.le (by omega)).and fun _ j _ hj => (tx_up.tk (by omega)).and fun _ j _ hj => tx_up.i (fun _ => (tx_up.tk (by omega)).and fun _ j _ hj => (tx_up.tk (by omega)).and fun _ j _ hj => tx_up.r hj) (fun _ => tx_up.r hj)
theorem tx_up.por : (tx_por T f i s).up (i + 1) := by
  unfold tx_por
  exact (tx_up.i (fun _ => (tx_up.tk (by omega)).and fun _ j _ hj => tx_up.pnm.le (by omega)) (fun _ => (tx_up.tk (by omega)).and fun _ j _ hj => tx_up.i (fun _ => tx_up.rgs.le (by omega)) (fun _ => tx_up.pnm.le (by omega)))).and fun _ j _ hj => tx_up.r hj
theorem tx_up.lnk {q : Nat} : (tx_lnk T q f i s).up (i + 1) := by
  unfold tx_lnk
  exact (tx_up.tk (by omega)).and fun _ j _ hj => (tx_up.tk (by omega)).and fun _ j _ hj => tx_up.op fun _ _ _ => ((tx_up.exp _ _ _).le (by omega)).and fun _ j _ hj => (tx_up.tk (by omega)).and fun _ j _ hj => tx_up.r hj
theorem tx_up.lks {q : Nat} : ∀ (m i : Nat) (s : tx_S), (tx_lks' T q f m i s).up i := by
  intro m
  induction m with
  | zero => intro i s; exact tx_up.r (Nat.le_refl _)
  | succ m ih =>
    intro i s
    unfold tx_lks'
    exact tx_up.i (fun _ => tx_up.r (Nat.le_refl _)) (fun _ => (tx_up.tk (by omega)).and fun _ j _ hj => (tx_up.lnk.le (by omega)).and fun _ j _ hj => (ih _ _).le (by omega))
theorem tx_up.ins : (tx_ins T f i s).up (i + 1) := by
  unfold tx_ins
  exact (tx_up.tk (by omega)).and fun _ j _ hj => (tx_up.tk (by omega)).and fun _ j _ hj => tx_up.op fun _ _ _ => (tx_up.i (fun _ => tx_up.r (by omega)) (fun _ => tx_up.lnk.le (by omega))).and fun _ j _ hj => ((tx_up.lks _ _ _).le (by omega)).and fun _ j _ hj => (tx_up.tk (by omega)).and fun _ j _ hj => (tx_up.tk (by omega)).and fun _ j _ hj => tx_up.r hj
theorem tx_up.alh : (tx_alh T f i s).up (i + 1) := by
  unfold tx_alh
  exact (tx_up.tk (by omega)).and fun _ j _ hj => (tx_up.tk (by omega)).and fun _ j _ hj => tx_up.op fun _ _ _ => (tx_up.tk (by omega)).and fun _ j _ hj => (tx_up.tk (by omega)).and fun _ j _ hj => (tx_up.tk (by omega)).and fun _ j _ hj => tx_up.r hj
theorem tx_up.asn : (tx_asn T f i s).up (i + 1) := by
  unfold tx_asn
  exact (tx_up.tk (by omega)).and fun _ j _ hj => (tx_up.tk (by omega)).and fun _ j _ hj => (tx_up.tk (by omega)).and fun _ j _ hj => ((tx_up.exp _ _ _).le (by omega)).and fun _ j _ hj => (tx_up.tk (by omega)).and fun _ j _ hj => tx_up.r hj
theorem tx_up.ast : (tx_ast T f i s).up (i + 1) := by
  unfold tx_ast
  exact (tx_up.tk (by omega)).and fun _ j _ hj => tx_up.op fun _ _ _ => ((tx_up.exp _ _ _).le (by omega)).and fun _ j _ hj => (tx_up.tk (by omega)).and fun _ j _ hj => (tx_up.tk (by omega)).and fun _ j _ hj => tx_up.r hj
theorem tx_up.wir : (tx_wir T f i s).up (i + 1) := by
  unfold tx_wir
  exact (tx_up.tk (by omega)).and fun _ j _ hj => (tx_up.pnm.le (by omega)).and fun _ j _ hj => (tx_up.tk (by omega)).and fun _ j _ hj => tx_up.r hj
theorem tx_up.itm : (tx_itm T f i s).up (i + 1) := by
  unfold tx_itm
  exact tx_up.i (fun _ => tx_up.wir) (fun _ => tx_up.i (fun _ => tx_up.rgs.and fun _ j _ hj => (tx_up.tk (by omega)).and fun _ j _ hj => tx_up.r hj) (fun _ => tx_up.i (fun _ => tx_up.asn) (fun _ => tx_up.i (fun _ => tx_up.alh.and fun _ j _ hj => (tx_up.stm _ _ _).le (by omega)) (fun _ => tx_up.i (fun _ => tx_up.ast) (fun _ => tx_up.ins)))))
theorem tx_up.its : ∀ (m i : Nat) (s : tx_S), (tx_its T f m i s).up i := by
  intro m
  induction m with
  | zero => intro i s; exact tx_up.r (Nat.le_refl _)
  | succ m ih =>
    intro i s
    unfold tx_its
    exact tx_up.i (fun _ => tx_up.r (Nat.le_refl _)) (fun _ => (tx_up.itm.le (by omega)).and fun _ j _ hj => (ih _ _).le (by omega))
theorem tx_up.pos : ∀ (m i : Nat) (s : tx_S), (tx_pos T f m i s).up i := by
  intro m
  induction m with
  | zero => intro i s; exact tx_up.r (Nat.le_refl _)
  | succ m ih =>
    intro i s
    unfold tx_pos
    exact tx_up.i (fun _ => tx_up.r (Nat.le_refl _)) (fun _ => (tx_up.tk (by omega)).and fun _ j _ hj => (tx_up.por.le (by omega)).and fun _ j _ hj => (ih _ _).le (by omega))
theorem tx_up.unt : (tx_unt T f i s).up (i + 1) := by
  unfold tx_unt
  exact (tx_up.tk (by omega)).and fun _ j _ hj => (tx_up.tk (by omega)).and fun _ j _ hj => tx_up.op fun _ _ _ => (tx_up.i (fun _ => tx_up.r (by omega)) (fun _ => tx_up.por.le (by omega))).and fun _ j _ hj => ((tx_up.pos _ _ _).le (by omega)).and fun _ j _ hj => (tx_up.tk (by omega)).and fun _ j _ hj => (tx_up.tk (by omega)).and fun _ j _ hj => ((tx_up.its _ _ _).le (by omega)).and fun _ j _ hj => (tx_up.tk (by omega)).and fun _ j _ hj => tx_up.r hj
end TXQ
end TXU

/-! The words for the class's state: pure functions that mirror its methods -/
def oI (o : Option Nat) : Int32 := match o with
  | none => -1
  | some r => nI r
def bI (b : Bool) : Int32 := if b = true then nI 1 else nI 0
theorem bI_nar (b : Bool) : narrow .boolean (.int (bI b)) = .int (bI b) := by cases b <;> rfl
theorem bI_fit (b : Bool) : fits .boolean (.int (bI b)) = true := by cases b <;> rfl
theorem bI_vnar (b : Bool) : vp_nar .boolean (bI b) = bI b := by cases b <;> rfl
theorem nI_nm1 {n : Nat} (h : n < 2 ^ 31) : nI n ≠ -1 := by
  intro h2
  have h3 := congrArg Int32.toInt h2
  rw [nI_toInt h] at h3
  have h4 : (-1 : Int32).toInt = -1 := by decide
  omega
/-- the first row from b on (k rows are looked at) that isn't 0 in column j -/
def fR (M : Nat → Nat → Nat) (j : Nat) : Nat → Nat → Option Nat
  | 0, _ => none
  | k + 1, b => if M b j = 0 then fR M j k (b + 1) else some b
/-- the inverse, sought from f on -/
def ivq (q r : Nat) : Nat → Nat → Nat
  | 0, _ => 1
  | k + 1, f => if r * f % q = 1 then f else ivq q r k (f + 1)
abbrev scR (n q f : Nat) (r : Nat → Nat) : Nat → Nat := fun j => if j < n + 1 then r j * f % q else r j
abbrev adR (n q f : Nat) (r s : Nat → Nat) : Nat → Nat := fun j => if j < n + 1 then (r j + s j * f) % q else r j
/-- clearElsewhere -/
def clr (n q u j : Nat) (M : Nat → Nat → Nat) : Nat → Nat → Nat := fun i => if i = u ∨ M i j = 0 then M i else adR n q (q - M i j) (M i) (M u)
def swp (a b : Nat) (M : Nat → Nat → Nat) : Nat → Nat → Nat := fun i => if i = b then M a else if i = a then M b else M i
/-- whether the rows from r on (k of them) have 0 in column n -/
def agr (M : Nat → Nat → Nat) (n : Nat) : Nat → Nat → Bool
  | 0, _ => true
  | k + 1, r => if M r n = 0 then agr M n k (r + 1) else false
def prs (M : Nat → Nat → Nat) (ro : Nat → Option Nat) (n j : Nat) : Nat := match ro j with
  | none => 0
  | some r => M r n
def aut (q lim : Nat) : Nat → Nat → Nat
  | 0, a => a
  | k + 1, a => if lim < a then a else aut q lim k (a * q)
/-- a QUIET pattern as readQuietPattern lays it -/
def qpt (n q : Nat) (M : Nat → Nat → Nat) (ro : Nat → Option Nat) (f : Nat) (old : Nat → Nat) : Nat → Nat :=
  va_up (fun j => if j < n then (match ro j with | none => 0 | some r => (q - M r f) % q) else old j) f 1
/-- the grids of Equations in the pool -/
def eqOK (n : Nat) (gR gQ : Nat → Nat) (L : List Nat) (pl : Nat → Nat) : Prop :=
  (∀ i, i < n → gR i ∈ L ∧ pl (gR i) = n + 1) ∧ (∀ i, i < n → gQ i ∈ L ∧ pl (gQ i) = n) ∧ (∀ i j, i < n → j < n → gR i = gR j → i = j) ∧ (∀ i j, i < n → j < n → gQ i = gQ j → i = j)
theorem eqOK.apart {n : Nat} {gR gQ : Nat → Nat} {L : List Nat} {pl : Nat → Nat} (h : eqOK n gR gQ L pl) {i j : Nat} (hi : i < n) (hj : j < n) : gR i ≠ gQ j := by
  intro e
  have h1 := (h.1 i hi).2
  have h2 := (h.2.1 j hj).2
  rw [e] at h1
  omega

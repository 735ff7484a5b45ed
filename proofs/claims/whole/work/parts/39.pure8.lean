/-- which P a number of states becomes -/
def prm (x : Int32) : Nat := if nI 3 ≤ x then (if nI 5 ≤ x then (if nI 7 ≤ x then 7 else 5) else 3) else 2
/-- rows, their contents, the lamps' rows, how many are bound and free -/
abbrev E5 : Type := (Nat → Nat) × (Nat → Nat → Nat) × (Nat → Option Nat) × Nat × Nat
def E5ok (n q : Nat) (tm st wt gQ : Nat → Nat) (L : List Nat) (pl : Nat → Nat) (u : E5) : Prop := eqOK n u.1 gQ L pl ∧ eqS n q tm st wt u.1 gQ u.2.1 u.2.2.1 u.2.2.2.1 u.2.2.2.2
/-- how many answers there are, at most (20000 and something) -/
def e5av (n q : Nat) (u : E5) : Nat := if agr (fun i => u.2.1 (u.1 i)) n (n - u.2.2.2.1) u.2.2.2.1 = true then aut q 20000 u.2.2.2.2 1 else 0
def e5sr (n q : Nat) (gQ : Nat → Nat) (u : E5) : srT := srN n q u.2.2.2.2 (fun k j => u.2.1 (gQ k) j) (prs (fun i => u.2.1 (u.1 i)) u.2.2.1 n) (e5av n q u - 1)
def srOK (n q : Nat) (gQ : Nat → Nat) (u : E5) (le : Nat → Nat) (tot : Int32) : Prop := tot = rTot (e5av n q u) (e5sr n q gQ u).2.2.2 ∧ (0 < e5av n q u → e5av n q u ≤ 20000 → ∀ j, j < n → le j = (e5sr n q gQ u).2.1 j)

/-- whether x is one of 0 .. n - 1 -/
def inb (n : Nat) (x : Int32) : Bool := decide (0 ≤ x.toInt ∧ x.toInt < n)
theorem inb_nI {n j : Nat} (h : j < n) (hn : n < 2 ^ 31) : inb n (nI j) = true := by
  unfold inb
  rw [nI_toInt (by omega)]
  exact decide_eq_true ⟨by omega, by omega⟩
theorem inb_neg {n : Nat} {x : Int32} (h : x < 0) : inb n x = false := by
  unfold inb
  refine decide_eq_false (fun h2 => ?_)
  have h3 := Int32.lt_iff_toInt_lt.mp h
  have h4 : (0 : Int32).toInt = 0 := by decide
  omega
theorem inb_ge {n : Nat} {x : Int32} (hn : n < 2 ^ 31) (h : nI n ≤ x) : inb n x = false := by
  unfold inb
  refine decide_eq_false (fun h2 => ?_)
  have h3 := Int32.le_iff_toInt_le.mp h
  rw [nI_toInt hn] at h3
  omega
theorem inb_in {n : Nat} {x : Int32} (hn : n < 2 ^ 31) (h1 : ¬ x < 0) (h2 : ¬ nI n ≤ x) : inb n x = true := by
  rcases pk_ix x (n := n) hn with h | h | ⟨j, hj, rfl⟩
  · exact absurd h h1
  · exact absurd h h2
  · exact inb_nI hj hn
theorem inb_ex {n : Nat} {x : Int32} (hn : n < 100) (h : inb n x = true) : ∃ j : Nat, j < n ∧ x = nI j := by
  rcases pk_ix x (n := n) (by omega) with h2 | h2 | h2
  · rw [inb_neg h2] at h; cases h
  · rw [inb_ge (by omega) h2] at h; cases h
  · exact h2
/-- what a press of a does to b, in the reference -/
def eff (jn ns : Nat → Bool) (a b : Nat) : Nat := if a = b then (if ns a = true then 0 else 1) else (if jn (30 * a + b) = true then 1 else 0)
/-- takeApart: the row r is taken off -/
def tkS (n q : Nat) (RW PS : Nat → Nat → Nat) (hd : Nat → Nat) (r : Nat) (z : (Nat → Nat) × (Nat → Nat)) : (Nat → Nat) × (Nat → Nat) :=
  (fun k => (z.1 k + (q - z.1 (hd r) * ivq q (RW r (hd r)) q 1 % q) * RW r k) % q,
   fun k => (z.2 k + z.1 (hd r) * ivq q (RW r (hd r)) q 1 % q * PS r k) % q)
def tkA (n q : Nat) (RW PS : Nat → Nat → Nat) (hd : Nat → Nat) (z : (Nat → Nat) × (Nat → Nat)) : Nat → (Nat → Nat) × (Nat → Nat)
  | 0 => z
  | r + 1 => tkS n q RW PS hd r (tkA n q RW PS hd z r)
theorem tkA_lt {n q : Nat} (hq : 0 < q) {RW PS : Nat → Nat → Nat} {hd : Nat → Nat} {z : (Nat → Nat) × (Nat → Nat)} (h1 : ∀ k, k < n → z.1 k < q) (h2 : ∀ k, k < n → z.2 k < q) : ∀ r, (∀ k, k < n → (tkA n q RW PS hd z r).1 k < q) ∧ ∀ k, k < n → (tkA n q RW PS hd z r).2 k < q
  | 0 => ⟨h1, h2⟩
  | _ + 1 => ⟨fun _ _ => Nat.mod_lt _ hq, fun _ _ => Nat.mod_lt _ hq⟩
/-- the first of k places from i on that isn't 0 -/
def lft (f : Nat → Nat) : Nat → Nat → Option Nat
  | 0, _ => none
  | k + 1, i => if f i = 0 then lft f k (i + 1) else some i
theorem lft_some {f : Nat → Nat} {h : Nat} : ∀ (k i : Nat), lft f k i = some h → i ≤ h ∧ h < i + k ∧ f h ≠ 0 ∧ ∀ j, i ≤ j → j < h → f j = 0
  | 0, _, e => by cases e
  | k + 1, i, e => by
    simp only [lft] at e
    by_cases c : f i = 0
    · rw [if_pos c] at e
      obtain ⟨h1, h2, h3, h4⟩ := lft_some k (i + 1) e
      exact ⟨by omega, by omega, h3, fun j hj hj2 => by
        by_cases e2 : j = i
        · rw [e2]; exact c
        · exact h4 j (by omega) hj2⟩
    · rw [if_neg c] at e
      cases e
      exact ⟨Nat.le_refl _, by omega, c, fun j hj hj2 => absurd hj2 (by omega)⟩
theorem lft_none {f : Nat → Nat} : ∀ (k i : Nat), lft f k i = none → ∀ j, i ≤ j → j < i + k → f j = 0
  | 0, _, _ => fun j h1 h2 => absurd h2 (by omega)
  | k + 1, i, e => fun j h1 h2 => by
    simp only [lft] at e
    by_cases c : f i = 0
    · rw [if_pos c] at e
      by_cases e2 : j = i
      · rw [e2]; exact c
      · exact lft_none k (i + 1) e j (by omega) (by omega)
    · rw [if_neg c] at e
      cases e
theorem lft_congr {f g : Nat → Nat} : ∀ k i, (∀ j, i ≤ j → j < i + k → f j = g j) → lft f k i = lft g k i
  | 0, _, _ => rfl
  | k + 1, i, h => by
    simp only [lft]
    rw [h i (by omega) (by omega), lft_congr k (i + 1) (fun j h1 h2 => h j (by omega) (by omega))]
/-- what is known of the presses: how many are BOUND, their rows, what these are made of, the rows' heads; how many are FREE, the QUIET patterns -/
abbrev kT : Type := Nat × (Nat → Nat → Nat) × (Nat → Nat → Nat) × (Nat → Nat) × Nat × (Nat → Nat → Nat)
def knT (n q : Nat) (E : Nat → Nat → Nat) (l : Nat) (c : kT) : (Nat → Nat) × (Nat → Nat) := tkA n q c.2.1 c.2.2.1 c.2.2.2.1 (E l, fun _ => 0) c.1
def knP (n q : Nat) (E : Nat → Nat → Nat) (l : Nat) (c : kT) : Nat → Nat := fun k => if k = l then 1 else (q - (knT n q E l c).2 k) % q
def knS (n q : Nat) (E : Nat → Nat → Nat) (l : Nat) (c : kT) : kT := match lft (knT n q E l c).1 n 0 with
  | some h => (c.1 + 1, va_up c.2.1 c.1 (knT n q E l c).1, va_up c.2.2.1 c.1 (knP n q E l c), va_up c.2.2.2.1 c.1 h, c.2.2.2.2.1, c.2.2.2.2.2)
  | none => (c.1, c.2.1, c.2.2.1, c.2.2.2.1, c.2.2.2.2.1 + 1, va_up c.2.2.2.2.2 c.2.2.2.2.1 (knP n q E l c))
def knN (n q : Nat) (E : Nat → Nat → Nat) : Nat → kT
  | 0 => (0, fun _ _ => 0, fun _ _ => 0, fun _ => 0, 0, fun _ _ => 0)
  | l + 1 => knS n q E l (knN n q E l)
theorem knS_sum {n q : Nat} {E : Nat → Nat → Nat} {l : Nat} {c : kT} : (knS n q E l c).1 + (knS n q E l c).2.2.2.2.1 = c.1 + c.2.2.2.2.1 + 1 := by
  unfold knS
  split <;> (dsimp only; omega)
theorem knN_sum {n q : Nat} {E : Nat → Nat → Nat} : ∀ l, (knN n q E l).1 + (knN n q E l).2.2.2.2.1 = l
  | 0 => rfl
  | l + 1 => by
    show (knS n q E l (knN n q E l)).1 + (knS n q E l (knN n q E l)).2.2.2.2.1 = l + 1
    rw [knS_sum, knN_sum l]

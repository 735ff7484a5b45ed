theorem aut_le {q lim : Nat} (hq : q ≤ 100) : ∀ f a, a ≤ 100 * (lim + 1) → aut q lim f a ≤ 100 * (lim + 1)
  | 0, _, h => h
  | f + 1, a, h => by
    simp only [aut]
    split
    · exact h
    · refine aut_le hq f (a * q) ?_
      have := Nat.mul_le_mul (show a ≤ lim + 1 by omega) hq
      omega
theorem srK_1 (n : Nat) (t l u : Nat → Nat) (z : Nat) : (srK n t l u z).1 = t := by
  unfold srK; split <;> rfl
theorem srK_3 (n : Nat) (t l u : Nat → Nat) (z : Nat) : (srK n t l u z).2.2.1 = u := by
  unfold srK; split <;> rfl

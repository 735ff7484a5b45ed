/-- the digits and what is carried, behind i digits of a multiplication by x -/
def mulD (x : Nat) (dg : Nat → Nat) : Nat → (Nat → Nat) × Nat
  | 0 => (dg, 0)
  | i + 1 => (va_up (mulD x dg i).1 i ((dg i * x + (mulD x dg i).2) % 10), (dg i * x + (mulD x dg i).2) / 10)
/-- a multiplication of the len digits dg -/
def mulE (x : Nat) (dg : Nat → Nat) (len : Nat) : (Nat → Nat) × Nat :=
  if 0 < (mulD x dg len).2 ∧ len < 26 then (va_up (mulD x dg len).1 len (mulD x dg len).2, len + 1) else ((mulD x dg len).1, len)
theorem mulD_o {x : Nat} {dg : Nat → Nat} : ∀ i j, i ≤ j → (mulD x dg i).1 j = dg j
  | 0, _, _ => rfl
  | i + 1, j, h => by
    simp only [mulD]
    rw [up_of _ _ (by omega)]
    exact mulD_o i j (by omega)
theorem mulD_c {x : Nat} {dg : Nat → Nat} {len : Nat} (hd : ∀ j, j < len → dg j < 10) : ∀ i, i ≤ len → (mulD x dg i).2 ≤ x
  | 0, _ => Nat.zero_le _
  | i + 1, h => by
    simp only [mulD]
    have h1 := mulD_c hd i (by omega) (x := x)
    have h2 := hd i (by omega)
    have h3 : dg i * x ≤ 9 * x := Nat.mul_le_mul_right x (by omega)
    omega

theorem mulD_lt {x : Nat} {dg : Nat → Nat} : ∀ i j, j < i → (mulD x dg i).1 j < 10
  | 0, j, h => absurd h (Nat.not_lt_zero j)
  | i + 1, j, h => by
    simp only [mulD]
    by_cases e : j = i
    · rw [e, up_at]; exact Nat.mod_lt _ (by omega)
    · rw [up_of _ _ e]; exact mulD_lt i j (by omega)
theorem mulE_ok {x : Nat} {dg : Nat → Nat} {len : Nat} (hx : x < 10) (hl : len ≤ 26) (hd : ∀ j, j < len → dg j < 10) : (mulE x dg len).2 ≤ 26 ∧ ∀ j, j < (mulE x dg len).2 → (mulE x dg len).1 j < 10 := by
  unfold mulE
  have hc := mulD_c (x := x) hd len (Nat.le_refl _)
  by_cases h : 0 < (mulD x dg len).2 ∧ len < 26
  · rw [if_pos h]
    refine ⟨by dsimp only; omega, fun j hj => ?_⟩
    dsimp only at hj ⊢
    by_cases e : j = len
    · rw [e, up_at]; omega
    · rw [up_of _ _ e]; exact mulD_lt len j (by omega)
  · rw [if_neg h]
    exact ⟨hl, fun j hj => mulD_lt len j hj⟩
/-- k multiplications by x -/
def mulN (x : Nat) (z : (Nat → Nat) × Nat) : Nat → (Nat → Nat) × Nat
  | 0 => z
  | k + 1 => mulE x (mulN x z k).1 (mulN x z k).2
theorem mulN_ok {x : Nat} {z : (Nat → Nat) × Nat} (hx : x < 10) (hl : z.2 ≤ 26) (hd : ∀ j, j < z.2 → z.1 j < 10) : ∀ k, (mulN x z k).2 ≤ 26 ∧ ∀ j, j < (mulN x z k).2 → (mulN x z k).1 j < 10
  | 0 => ⟨hl, hd⟩
  | k + 1 => mulE_ok hx (mulN_ok hx hl hd k).1 (mulN_ok hx hl hd k).2

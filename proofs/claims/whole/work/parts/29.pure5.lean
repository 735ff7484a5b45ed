def rTot (av z : Nat) : Int32 := if av = 0 then -1 else if 20000 < av then -2 else nI z
theorem adv_step {q : Nat} {qp : Nat → Nat → Nat} {f k : Nat} {w : (Nat → Nat) × (Nat → Nat)} (h : w.2 k + 1 < q) : adv q qp (f + 1) k w = (fun j => adq q (w.1 j) (qp k j), va_up w.2 k (w.2 k + 1)) := by
  simp only [adv]; rw [if_pos h]
theorem adv_next {q : Nat} {qp : Nat → Nat → Nat} {f k : Nat} {w : (Nat → Nat) × (Nat → Nat)} (h : ¬ w.2 k + 1 < q) : adv q qp (f + 1) k w = adv q qp f (k + 1) (fun j => adq q (w.1 j) (qp k j), va_up w.2 k 0) := by
  simp only [adv]; rw [if_neg h]
theorem srK_congr {n : Nat} {t l u : Nat → Nat} {z : Nat} {t' l' : Nat → Nat} (h1 : ∀ j, j < n → t' j = t j) (h2 : ∀ j, j < n → l' j = l j) : (∀ j, j < n → (srK n t' l' u z).2.1 j = (srK n t l u z).2.1 j) ∧ (srK n t' l' u z).2.2.2 = (srK n t l u z).2.2.2 := by
  have e1 : sumF t' n = sumF t n := sumF_congr n h1
  have e2 : lexL t' l' n 0 = lexL t l n 0 := lexL_congr n 0 (fun j _ hj => ⟨h1 j (by omega), h2 j (by omega)⟩)
  unfold srK
  rw [e1, e2]
  split
  · exact ⟨h1, rfl⟩
  · exact ⟨h2, rfl⟩

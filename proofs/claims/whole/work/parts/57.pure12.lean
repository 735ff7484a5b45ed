/-- a vector taken apart by all that is known -/
def tkE (n q : Nat) (E : Nat → Nat → Nat) (v : Nat → Nat) : (Nat → Nat) × (Nat → Nat) := tkA n q (knN n q E n).2.1 (knN n q E n).2.2.1 (knN n q E n).2.2.2.1 (v, fun _ => 0) (knN n q E n).1
def dfV (q : Nat) (st wt : Nat → Nat) : Nat → Nat := fun k => (wt k + q - st k) % q
def onV (l : Nat) : Nat → Nat := fun k => if k = l then 1 else 0
theorem kOK.tk {n q : Nat} {E : Nat → Nat → Nat} {rk : Nat} {rw ps hd qu : Nat → Nat} (h : kOK n (knN n q E n) rk rw ps hd qu) (hl : kLT n q (knN n q E n)) {F v : Nat → Nat} (hF : ∀ k, k < n → F k = v k) :
    (∀ k, k < n → (tkA n q (knN n q E n).2.1 (knN n q E n).2.2.1 hd (F, fun _ => 0) rk).1 k = (tkE n q E v).1 k) ∧ ∀ k, k < n → (tkA n q (knN n q E n).2.1 (knN n q E n).2.2.1 hd (F, fun _ => 0) rk).2 k = (tkE n q E v).2 k := by
  obtain ⟨o1, o2, o3, o4, o5⟩ := h
  rw [o1]
  exact tkA_congr (z := (F, fun _ => 0)) (z' := (v, fun _ => 0)) (fun r hr => ⟨o4 r hr, by rw [o4 r hr]; exact hl.1 r hr⟩) (fun _ _ _ _ => rfl) (fun _ _ _ _ => rfl) hF (fun _ _ => rfl) _ (Nat.le_refl _)
theorem tkE_lt {n q : Nat} {E : Nat → Nat → Nat} {v : Nat → Nat} (hq : 2 ≤ q) (hv : ∀ k, k < n → v k < q) : (∀ k, k < n → (tkE n q E v).1 k < q) ∧ ∀ k, k < n → (tkE n q E v).2 k < q :=
  tkA_lt (by omega) hv (fun _ _ => by dsimp only; omega) _

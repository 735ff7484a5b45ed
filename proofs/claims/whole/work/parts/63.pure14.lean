/-- what is tried at the way w -/
def ttF (q : Nat) (QU : Nat → Nat → Nat) (an : Nat → Nat) : Nat → Nat → Nat := fun w => twF q QU w 0 w an
theorem ttF_lt {n q : Nat} {QU : Nat → Nat → Nat} {an : Nat → Nat} (hq : 0 < q) (h : ∀ l, l < n → an l < q) (w l : Nat) (hl : l < n) : ttF q QU an w l < q := twF_lt hq _ _ _ _ h l hl
theorem fbN_keep {n w : Nat} {t : Nat → Nat → Nat} (h : ¬ (sumF (t (w + 1)) n < (fbN n t w).2 ∨ (sumF (t (w + 1)) n = (fbN n t w).2 ∧ lexL (t (w + 1)) (fbN n t w).1 n 0 = true))) : fbN n t (w + 1) = fbN n t w := by
  simp only [fbN, srK]
  rw [if_neg h]
theorem fbN_new {n w : Nat} {t : Nat → Nat → Nat} (h : sumF (t (w + 1)) n < (fbN n t w).2 ∨ (sumF (t (w + 1)) n = (fbN n t w).2 ∧ lexL (t (w + 1)) (fbN n t w).1 n 0 = true)) : fbN n t (w + 1) = (t (w + 1), sumF (t (w + 1)) n) := by
  simp only [fbN, srK]
  rw [if_pos h]
/-- findBest's answer -/
def fbP (n q fr : Nat) (ag : Bool) (tt : Nat → Nat → Nat) (z : Int32) (B : Nat → Nat) : Prop :=
  (ag = false ∧ z = -1) ∨ (ag = true ∧ fnA q fr 1 = none ∧ z = -2) ∨ ∃ a : Nat, ag = true ∧ fnA q fr 1 = some a ∧ z = nI (fbN n tt (a - 1)).2 ∧ ∀ k, k < n → B k = (fbN n tt (a - 1)).1 k

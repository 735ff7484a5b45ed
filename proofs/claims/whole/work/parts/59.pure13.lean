/-- tryWay: the digits of r, from digit k on, say how often each QUIET pattern is added -/
def twF (q : Nat) (QU : Nat → Nat → Nat) : Nat → Nat → Nat → (Nat → Nat) → (Nat → Nat)
  | 0, _, _, f => f
  | g + 1, k, r, f => if r = 0 then f else twF q QU g (k + 1) (r / q) (fun l => if 0 < r % q then (f l + r % q * QU k l) % q else f l)
theorem twF_lt {n q : Nat} {QU : Nat → Nat → Nat} (hq : 0 < q) : ∀ (g k r : Nat) (f : Nat → Nat), (∀ l, l < n → f l < q) → ∀ l, l < n → twF q QU g k r f l < q
  | 0, _, _, _, h => h
  | g + 1, k, r, f, h => by
    simp only [twF]
    split
    · exact h
    · refine twF_lt hq g (k + 1) (r / q) _ (fun l hl => ?_)
      split
      · exact Nat.mod_lt _ hq
      · exact h l hl
theorem twF_congr {n q : Nat} {QU : Nat → Nat → Nat} : ∀ (g k r : Nat) (f f' : Nat → Nat), (∀ l, l < n → f l = f' l) → ∀ l, l < n → twF q QU g k r f l = twF q QU g k r f' l
  | 0, _, _, _, _, h => h
  | g + 1, k, r, f, f', h => by
    simp only [twF]
    split
    · exact h
    · refine twF_congr g (k + 1) (r / q) _ _ (fun l hl => ?_)
      rw [h l hl]
/-- how many ways there are; none, where more than 20000 -/
def fnA (q : Nat) : Nat → Nat → Option Nat
  | 0, a => some a
  | k + 1, a => if 20000 < a * q then none else fnA q k (a * q)
/-- the best of the ways 0 .. w -/
def fbN (n : Nat) (t : Nat → Nat → Nat) : Nat → (Nat → Nat) × Nat
  | 0 => (t 0, sumF (t 0) n)
  | w + 1 => ((srK n (t (w + 1)) (fbN n t w).1 (fun _ => 0) (fbN n t w).2).2.1, (srK n (t (w + 1)) (fbN n t w).1 (fun _ => 0) (fbN n t w).2).2.2.2)
theorem fbN_lt {n q : Nat} {t : Nat → Nat → Nat} (ht : ∀ w l, l < n → t w l < q) : ∀ w, (∀ l, l < n → (fbN n t w).1 l < q) ∧ (fbN n t w).2 ≤ n * q
  | 0 => ⟨ht 0, sumF_le n (ht 0)⟩
  | w + 1 => by
    obtain ⟨h1, h2⟩ := fbN_lt ht w
    simp only [fbN, srK]
    split
    · exact ⟨ht (w + 1), sumF_le n (ht (w + 1))⟩
    · exact ⟨h1, h2⟩
theorem fnA_some {q : Nat} : ∀ (k a b : Nat), fnA q k a = some b → b = a * q ^ k
  | 0, a, b, h => by cases h; simp
  | k + 1, a, b, h => by
    simp only [fnA] at h
    split at h
    · cases h
    · rw [fnA_some k (a * q) b h, Nat.pow_succ, Nat.mul_assoc, Nat.mul_comm q]

theorem eff_le (jn ns : Nat → Bool) (a b : Nat) : eff jn ns a b ≤ 1 := by
  unfold eff
  split <;> split <;> omega
theorem tkA_congr {n q : Nat} {RW PS RW' PS' : Nat → Nat → Nat} {hd hd' : Nat → Nat} {z z' : (Nat → Nat) × (Nat → Nat)} {R : Nat} (hh : ∀ r, r < R → hd r = hd' r ∧ hd r < n) (hR : ∀ r, r < R → ∀ k, k < n → RW r k = RW' r k) (hP : ∀ r, r < R → ∀ k, k < n → PS r k = PS' r k) (h1 : ∀ k, k < n → z.1 k = z'.1 k) (h2 : ∀ k, k < n → z.2 k = z'.2 k) :
    ∀ r, r ≤ R → (∀ k, k < n → (tkA n q RW PS hd z r).1 k = (tkA n q RW' PS' hd' z' r).1 k) ∧ ∀ k, k < n → (tkA n q RW PS hd z r).2 k = (tkA n q RW' PS' hd' z' r).2 k
  | 0, _ => ⟨h1, h2⟩
  | r + 1, hr => by
    obtain ⟨i1, i2⟩ := tkA_congr hh hR hP h1 h2 r (by omega) (q := q)
    obtain ⟨e1, e2⟩ := hh r (by omega)
    simp only [tkA, tkS]
    have e3 := i1 (hd r) e2
    have e4 := hR r (by omega) (hd r) e2
    rw [← e1, e3, e4]
    exact ⟨fun k hk => by rw [i1 k hk, hR r (by omega) k hk], fun k hk => by rw [i2 k hk, hP r (by omega) k hk]⟩
/-- the reference's arrays hold what is known -/
def kOK (n : Nat) (c : kT) (rk : Nat) (rw ps hd qu : Nat → Nat) : Prop :=
  rk = c.1 ∧ (∀ r, r < c.1 → ∀ k, k < n → rw (30 * r + k) = c.2.1 r k) ∧ (∀ r, r < c.1 → ∀ k, k < n → ps (30 * r + k) = c.2.2.1 r k) ∧ (∀ r, r < c.1 → hd r = c.2.2.2.1 r) ∧ ∀ f, f < c.2.2.2.2.1 → ∀ k, k < n → qu (30 * f + k) = c.2.2.2.2.2 f k
/-- each number but 0 has an inverse -/
def hasInv (q : Nat) : Prop := ∀ v, 0 < v → v < q → ∃ k, 1 ≤ k ∧ k < q ∧ v * k % q = 1
def kLT (n q : Nat) (c : kT) : Prop := (∀ r, r < c.1 → c.2.2.2.1 r < n) ∧ (∀ r, r < c.1 → ∀ k, k < n → c.2.1 r k < q) ∧ (∀ r, r < c.1 → ∀ k, k < n → c.2.2.1 r k < q) ∧ (∀ r, r < c.1 → ∃ k, 1 ≤ k ∧ k < q ∧ c.2.1 r (c.2.2.2.1 r) * k % q = 1) ∧ ∀ f, f < c.2.2.2.2.1 → ∀ k, k < n → c.2.2.2.2.2 f k < q
theorem knT_lt {n q : Nat} {E : Nat → Nat → Nat} {l : Nat} {c : kT} (hq : 2 ≤ q) (hE : ∀ k, k < n → E l k < q) : (∀ k, k < n → (knT n q E l c).1 k < q) ∧ ∀ k, k < n → (knT n q E l c).2 k < q :=
  tkA_lt (by omega) hE (fun _ _ => by dsimp only; omega) c.1
theorem knP_lt {n q : Nat} {E : Nat → Nat → Nat} {l : Nat} {c : kT} (hq : 2 ≤ q) (k : Nat) : knP n q E l c k < q := by
  unfold knP
  split
  · omega
  · exact Nat.mod_lt _ (by omega)
theorem knS_lt {n q : Nat} {E : Nat → Nat → Nat} {l : Nat} {c : kT} (hq : 2 ≤ q) (hi : hasInv q) (hE : ∀ k, k < n → E l k < q) (h : kLT n q c) : kLT n q (knS n q E l c) := by
  obtain ⟨h1, h2, h3, h4, h5⟩ := h
  have ht := knT_lt (c := c) hq hE
  unfold knS
  split
  · rename_i h0 hl
    have hs := lft_some n 0 hl
    have h0n : h0 < n := by omega
    refine ⟨fun r hr => ?_, fun r hr k hk => ?_, fun r hr k hk => ?_, fun r hr => ?_, h5⟩ <;> dsimp only at hr ⊢ <;> by_cases e : r = c.1
    · rw [e, up_at]; exact h0n
    · rw [up_of _ _ e]; exact h1 r (by omega)
    · rw [e, up_at]; exact ht.1 k hk
    · rw [up_of _ _ e]; exact h2 r (by omega) k hk
    · rw [e, up_at]; exact knP_lt hq k
    · rw [up_of _ _ e]; exact h3 r (by omega) k hk
    · rw [e, up_at, up_at]
      exact hi _ (Nat.pos_of_ne_zero hs.2.2.1) (ht.1 h0 h0n)
    · rw [up_of _ _ e, up_of _ _ e]; exact h4 r (by omega)
  · refine ⟨h1, h2, h3, h4, fun f hf k hk => ?_⟩
    dsimp only at hf ⊢
    by_cases e : f = c.2.2.2.2.1
    · rw [e, up_at]; exact knP_lt hq k
    · rw [up_of _ _ e]; exact h5 f (by omega) k hk
theorem knN_lt {n q : Nat} {E : Nat → Nat → Nat} (hq : 2 ≤ q) (hi : hasInv q) (hE : ∀ l, l < n → ∀ k, k < n → E l k < q) : ∀ l, l ≤ n → kLT n q (knN n q E l)
  | 0, _ => ⟨fun r hr => absurd hr (Nat.not_lt_zero r), fun r hr => absurd hr (Nat.not_lt_zero r), fun r hr => absurd hr (Nat.not_lt_zero r), fun r hr => absurd hr (Nat.not_lt_zero r), fun r hr => absurd hr (Nat.not_lt_zero r)⟩
  | l + 1, hl => knS_lt hq hi (hE l (by omega)) (knN_lt hq hi hE l (by omega))

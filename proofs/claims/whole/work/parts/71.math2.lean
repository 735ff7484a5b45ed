theorem ivq_some {q r : Nat} : ∀ (k f : Nat), (∃ a, f ≤ a ∧ a < f + k ∧ r * a % q = 1) → r * ivq q r k f % q = 1
  | 0, f, ⟨a, h1, h2, _⟩ => absurd h2 (by omega)
  | k + 1, f, ⟨a, h1, h2, h3⟩ => by
    simp only [ivq]
    by_cases e : r * f % q = 1
    · rw [if_pos e]; exact e
    · rw [if_neg e]
      refine ivq_some k (f + 1) ⟨a, ?_, by omega, h3⟩
      by_cases e2 : a = f
      · rw [e2] at h3; exact absurd h3 e
      · omega
theorem ivq_miss {q r : Nat} : ∀ (k f : Nat), (∀ a, f ≤ a → a < f + k → r * a % q ≠ 1) → ivq q r k f = 1
  | 0, _, _ => rfl
  | k + 1, f, h => by
    simp only [ivq]
    rw [if_neg (h f (by omega) (by omega))]
    exact ivq_miss k (f + 1) (fun a h1 h2 => h a (by omega) (by omega))
theorem ivq_class {q v : Nat} (hq : 2 ≤ q) (hi : hasInv q) (h0 : 0 < v) (h1 : v < q) : v * ivq q v (q - 2) 2 % q = 1 := by
  obtain ⟨k, g1, g2, g3⟩ := hi v h0 h1
  by_cases e : ∃ a, 2 ≤ a ∧ a < 2 + (q - 2) ∧ v * a % q = 1
  · exact ivq_some _ _ e
  · rw [ivq_miss (q - 2) 2 (fun a h2 h3 h4 => e ⟨a, h2, h3, h4⟩)]
    by_cases e2 : k = 1
    · rw [e2] at g3; exact g3
    · exact absurd ⟨k, by omega, by omega, g3⟩ e
theorem ivq_model {q v : Nat} (hi : hasInv q) (h0 : 0 < v) (h1 : v < q) : v * ivq q v q 1 % q = 1 := by
  obtain ⟨k, g1, g2, g3⟩ := hi v h0 h1
  exact ivq_some _ _ ⟨k, g1, by omega, g3⟩
/-- the rows are reduced in the columns 0 .. j - 1 -/
def rI (n j : Nat) (z : (Nat → Nat → Nat) × (Nat → Option Nat) × Nat) : Prop :=
  z.2.2 ≤ j ∧ (∀ a, a < j → ∀ r, z.2.1 a = some r → r < z.2.2 ∧ z.1 r a = 1 ∧ (∀ i, i < n → i ≠ r → z.1 i a = 0) ∧ ∀ b, b < a → z.1 r b = 0) ∧ (∀ a, a < j → ∀ i, z.2.2 ≤ i → i < n → z.1 i a = 0) ∧ (∀ r, r < z.2.2 → ∃ a, a < j ∧ z.2.1 a = some r) ∧ ∀ a b r, a < j → b < j → z.2.1 a = some r → z.2.1 b = some r → a = b
theorem rst_step {n q j : Nat} (hq : 2 ≤ q) (hi : hasInv q) (hj : j < n) {z : (Nat → Nat → Nat) × (Nat → Option Nat) × Nat} (hI : rI n j z) (hb : ∀ i, i < n → ∀ k, k < n + 1 → z.1 i k < q) :
    rI n (j + 1) (rst n q j z) ∧ ∀ x, kr q n (rst n q j z).1 x ↔ kr q n z.1 x := by
  obtain ⟨i1, i2, i3, i4, i5⟩ := hI
  rcases hf : fR z.1 j (n - z.2.2) z.2.2 with _ | r
  · have es : rst n q j z = (z.1, va_up z.2.1 j none, z.2.2) := by unfold rst; rw [hf]
    rw [es]
    have h0 := fR_none _ _ hf
    refine ⟨⟨by dsimp only; omega, fun a ha r hr => ?_, fun a ha i hi1 hi2 => ?_, fun r hr => ?_, fun a b r ha hb2 h1 h2 => ?_⟩, fun x => Iff.rfl⟩
    · dsimp only at hr ⊢
      by_cases e : a = j
      · rw [e, up_at] at hr; cases hr
      · rw [up_of _ _ e] at hr; exact i2 a (by omega) r hr
    · dsimp only at hi1 ⊢
      by_cases e : a = j
      · rw [e]; exact h0 i hi1 (by omega)
      · exact i3 a (by omega) i hi1 hi2
    · obtain ⟨a, h1, h2⟩ := i4 r hr
      exact ⟨a, by omega, by dsimp only; rw [up_of _ _ (by omega)]; exact h2⟩
    · dsimp only at h1 h2
      by_cases e : a = j
      · rw [e, up_at] at h1; cases h1
      · by_cases e2 : b = j
        · rw [e2, up_at] at h2; cases h2
        · rw [up_of _ _ e] at h1; rw [up_of _ _ e2] at h2; exact i5 a b r (by omega) (by omega) h1 h2
  · obtain ⟨h1, h2, h3⟩ := fR_some _ _ hf
    have hrn : r < n := by omega
    have hbn : z.2.2 < n := by omega
    have hv := ivq_class hq hi (Nat.pos_of_ne_zero h3) (hb r hrn j (by omega))
    generalize hfe : ivq q (z.1 r j) (q - 2) 2 = f at hv
    have es : rst n q j z = (clr n q z.2.2 j (va_up (swp r z.2.2 z.1) z.2.2 (scR n q f (z.1 r))), va_up z.2.1 j (some z.2.2), z.2.2 + 1) := by unfold rst; rw [hf]; dsimp only; rw [hfe]
    have eu : swp r z.2.2 z.1 z.2.2 = z.1 r := by unfold swp; rw [if_pos rfl]
    generalize hN : va_up (swp r z.2.2 z.1) z.2.2 (scR n q f (z.1 r)) = N at es
    have Nb : ∀ k, k < n + 1 → N z.2.2 k = z.1 r k * f % q := fun k hk => by
      rw [← hN, up_at]
      show (if k < n + 1 then _ else _) = _
      rw [if_pos hk]
    have Nr : r ≠ z.2.2 → N r = z.1 z.2.2 := fun h => by rw [← hN, up_of _ _ h]; unfold swp; rw [if_neg h, if_pos rfl]
    have No : ∀ i, i ≠ z.2.2 → i ≠ r → N i = z.1 i := fun i h4 h5 => by rw [← hN, up_of _ _ h4]; unfold swp; rw [if_neg h4, if_neg h5]
    have Nbj : N z.2.2 j = 1 := by rw [Nb j (by omega)]; exact hv
    have Nba : ∀ a, a < j → N z.2.2 a = 0 := fun a ha => by rw [Nb a (by omega), i3 a ha r h1 hrn, Nat.zero_mul, Nat.zero_mod]
    have Nlt : ∀ i, i < n → ∀ k, k < n + 1 → N i k < q := by
      intro i hi2 k hk
      by_cases e : i = z.2.2
      · rw [e, Nb k hk]; exact Nat.mod_lt _ (by omega)
      · by_cases e2 : i = r
        · rw [e2, Nr (e2 ▸ e)]; exact hb _ hbn k hk
        · rw [No i e e2]; exact hb i hi2 k hk
    have Rb : clr n q z.2.2 j N z.2.2 = N z.2.2 := by unfold clr; rw [if_pos (Or.inl rfl)]
    have Ra : ∀ i, i < n → ∀ a, a < j → clr n q z.2.2 j N i a = N i a := by
      intro i hi2 a ha
      unfold clr
      by_cases e : i = z.2.2 ∨ N i j = 0
      · rw [if_pos e]
      · rw [if_neg e]
        show (if a < n + 1 then (N i a + N z.2.2 a * (q - N i j)) % q else N i a) = _
        rw [if_pos (by omega), Nba a ha, Nat.zero_mul, Nat.add_zero, Nat.mod_eq_of_lt (Nlt i hi2 a (by omega))]
    have Rj : ∀ i, i < n → i ≠ z.2.2 → clr n q z.2.2 j N i j = 0 := by
      intro i hi2 hne
      unfold clr
      by_cases e : i = z.2.2 ∨ N i j = 0
      · rw [if_pos e]; exact e.elim (fun h => absurd h hne) id
      · rw [if_neg e]
        show (if j < n + 1 then (N i j + N z.2.2 j * (q - N i j)) % q else N i j) = _
        have := Nlt i hi2 j (by omega)
        rw [if_pos (by omega), Nbj, Nat.one_mul, show N i j + (q - N i j) = q by omega, Nat.mod_self]
    have N0 : ∀ a, a < j → ∀ i, z.2.2 ≤ i → i < n → N i a = 0 := by
      intro a ha i hi2 hi3
      by_cases e : i = z.2.2
      · rw [e]; exact Nba a ha
      · by_cases e2 : i = r
        · rw [e2, Nr (e2 ▸ e)]; exact i3 a ha _ (Nat.le_refl _) hbn
        · rw [No i e e2]; exact i3 a ha i hi2 hi3
    rw [es]
    refine ⟨⟨by dsimp only; omega, fun a ha r2 hr => ?_, fun a ha i hi1 hi2 => ?_, fun r2 hr => ?_, fun a b r2 ha hb2 g1 g2 => ?_⟩, fun x => ?_⟩
    · dsimp only at hr ⊢
      by_cases e : a = j
      · rw [e, up_at] at hr
        cases hr
        refine ⟨by omega, by rw [e, Rb]; exact Nbj, fun i hi2 hne => by rw [e]; exact Rj i hi2 hne, fun b hb2 => by rw [Rb]; exact Nba b (by omega)⟩
      · rw [up_of _ _ e] at hr
        obtain ⟨g1, g2, g3, g4⟩ := i2 a (by omega) r2 hr
        have e1 : N r2 = z.1 r2 := No r2 (by omega) (by omega)
        refine ⟨by omega, by rw [Ra r2 (by omega) a (by omega), e1]; exact g2, fun i hi2 hne => ?_, fun b hb2 => by rw [Ra r2 (by omega) b (by omega), e1]; exact g4 b hb2⟩
        rw [Ra i hi2 a (by omega)]
        by_cases e5 : z.2.2 ≤ i
        · exact N0 a (by omega) i e5 hi2
        · rw [No i (by omega) (by omega)]; exact g3 i hi2 hne
    · dsimp only at hi1 ⊢
      by_cases e : a = j
      · rw [e]; exact Rj i hi2 (by omega)
      · rw [Ra i hi2 a (by omega)]; exact N0 a (by omega) i (by omega) hi2
    · dsimp only at hr ⊢
      by_cases e : r2 = z.2.2
      · exact ⟨j, by omega, by rw [up_at, e]⟩
      · obtain ⟨a, g1, g2⟩ := i4 r2 (by omega)
        exact ⟨a, by omega, by rw [up_of _ _ (by omega)]; exact g2⟩
    · dsimp only at g1 g2
      by_cases e : a = j
      · by_cases e2 : b = j
        · omega
        · rw [e, up_at] at g1
          rw [up_of _ _ e2] at g2
          have := (i2 b (by omega) r2 g2).1
          have e3 : z.2.2 = r2 := Option.some.inj g1
          omega
      · by_cases e2 : b = j
        · rw [e2, up_at] at g2
          rw [up_of _ _ e] at g1
          have := (i2 a (by omega) r2 g1).1
          have e3 : z.2.2 = r2 := Option.some.inj g2
          omega
        · rw [up_of _ _ e] at g1; rw [up_of _ _ e2] at g2; exact i5 a b r2 (by omega) (by omega) g1 g2
    · dsimp only
      rw [kr_clr hbn, ← hN]
      have h9 : scR n q f (z.1 r) = scR n q f (swp r z.2.2 z.1 z.2.2) := by rw [eu]
      rw [h9]
      rw [kr_scl hbn (v := z.1 r j) (by rw [Nat.mul_comm]; exact hv), kr_swp hrn hbn]
theorem rds_all {n q : Nat} (hq : 2 ≤ q) (hi : hasInv q) {M : Nat → Nat → Nat} {ro : Nat → Option Nat} (hb : ∀ i, i < n → ∀ k, k < n + 1 → M i k < q) : ∀ j, j ≤ n → rI n j (rds n q M ro j) ∧ ∀ x, kr q n (rds n q M ro j).1 x ↔ kr q n M x
  | 0, _ => ⟨⟨Nat.le_refl 0, fun a h => absurd h (Nat.not_lt_zero a), fun a h => absurd h (Nat.not_lt_zero a), fun a h => absurd h (Nat.not_lt_zero a), fun a b r h => absurd h (Nat.not_lt_zero a)⟩, fun x => Iff.rfl⟩
  | j + 1, hj => by
    obtain ⟨h1, h2⟩ := rds_all hq hi hb j (by omega) (ro := ro)
    obtain ⟨h3, h4⟩ := rst_step hq hi (show j < n by omega) h1 (rds_lt (by omega) hb j (by omega))
    exact ⟨h3, fun x => (h4 x).trans (h2 x)⟩

theorem s_l : ∀ n, n < 32 → ((nI n &&& 31).toBitVec.smod 32).toNat = n := by decide +kernel
/-- how many of the first i lamps have no row -/
def cF (ro : Nat → Option Nat) : Nat → Nat
  | 0 => 0
  | i + 1 => match ro i with
    | none => cF ro i + 1
    | some _ => cF ro i
theorem cF_none {ro : Nat → Option Nat} {i : Nat} (h : ro i = none) : cF ro (i + 1) = cF ro i + 1 := by simp only [cF, h]
theorem cF_some {ro : Nat → Option Nat} {i r : Nat} (h : ro i = some r) : cF ro (i + 1) = cF ro i := by simp only [cF, h]
theorem cF_le (ro : Nat → Option Nat) : ∀ i, cF ro i ≤ i
  | 0 => Nat.le_refl 0
  | i + 1 => by
    have := cF_le ro i
    rcases h : ro i with _ | r
    · rw [cF_none h]; omega
    · rw [cF_some h]; omega
theorem cF_lt {ro : Nat → Option Nat} {j : Nat} (h : ro j = none) : ∀ i, j < i → cF ro j < cF ro i
  | 0, hi => absurd hi (by omega)
  | i + 1, hi => by
    by_cases e : j = i
    · subst e
      rw [cF_none h]; omega
    · have := cF_lt h i (by omega)
      rcases h2 : ro i with _ | r
      · rw [cF_none h2]; omega
      · rw [cF_some h2]; exact this
/-- what the QUIET pattern of the FREE lamp f says of lamp i -/
def qv (q : Nat) (M : Nat → Nat → Nat) (ro : Nat → Option Nat) (f i : Nat) : Nat := if i = f then 1 else match ro i with
  | none => 0
  | some r => (q - M r f) % q
theorem qpt_qv {n q : Nat} {M : Nat → Nat → Nat} {ro : Nat → Option Nat} {f : Nat} {old : Nat → Nat} {i : Nat} (hi : i < n) : qpt n q M ro f old i = qv q M ro f i := by
  unfold qpt qv
  by_cases e : i = f
  · subst e; rw [up_at, if_pos rfl]
  · rw [up_of _ _ e, if_neg e, if_pos hi]
    cases ro i <;> rfl
theorem fR_congr {M M' : Nat → Nat → Nat} {j : Nat} : ∀ (k b : Nat), (∀ i, b ≤ i → i < b + k → M i j = M' i j) → fR M j k b = fR M' j k b
  | 0, _, _ => rfl
  | k + 1, b, h => by
    simp only [fR]
    rw [h b (by omega) (by omega), fR_congr k (b + 1) (fun i h1 h2 => h i (by omega) (by omega))]
theorem fR_some {M : Nat → Nat → Nat} {j r : Nat} : ∀ (k b : Nat), fR M j k b = some r → b ≤ r ∧ r < b + k ∧ M r j ≠ 0
  | 0, _, h => by cases h
  | k + 1, b, h => by
    simp only [fR] at h
    by_cases e : M b j = 0
    · rw [if_pos e] at h
      have := fR_some k (b + 1) h
      exact ⟨by omega, by omega, this.2.2⟩
    · rw [if_neg e] at h
      cases h
      exact ⟨Nat.le_refl _, by omega, e⟩
theorem fR_none {M : Nat → Nat → Nat} {j : Nat} : ∀ (k b : Nat), fR M j k b = none → ∀ i, b ≤ i → i < b + k → M i j = 0
  | 0, _, _ => fun i h1 h2 => absurd h2 (by omega)
  | k + 1, b, h => fun i h1 h2 => by
    simp only [fR] at h
    by_cases e : M b j = 0
    · rw [if_pos e] at h
      by_cases e2 : i = b
      · rw [e2]; exact e
      · exact fR_none k (b + 1) h i (by omega) (by omega)
    · rw [if_neg e] at h
      cases h
theorem ivq_lt {q r : Nat} : ∀ (k f : Nat), f + k ≤ 100 → ivq q r k f < 100
  | 0, _, _ => by simp [ivq]
  | k + 1, f, h => by
    simp only [ivq]
    split
    · omega
    · exact ivq_lt k (f + 1) (by omega)
/-- one lamp of reduce: the rows, the lamps' rows, how many rows are used -/
def rst (n q j : Nat) (z : (Nat → Nat → Nat) × (Nat → Option Nat) × Nat) : (Nat → Nat → Nat) × (Nat → Option Nat) × Nat := match fR z.1 j (n - z.2.2) z.2.2 with
  | none => (z.1, va_up z.2.1 j none, z.2.2)
  | some r => (clr n q z.2.2 j (va_up (swp r z.2.2 z.1) z.2.2 (scR n q (ivq q (z.1 r j) (q - 2) 2) (z.1 r))), va_up z.2.1 j (some z.2.2), z.2.2 + 1)
def rds (n q : Nat) (M : Nat → Nat → Nat) (ro : Nat → Option Nat) : Nat → (Nat → Nat → Nat) × (Nat → Option Nat) × Nat
  | 0 => (M, ro, 0)
  | j + 1 => rst n q j (rds n q M ro j)
theorem rst_bd {n q j : Nat} {z : (Nat → Nat → Nat) × (Nat → Option Nat) × Nat} : (rst n q j z).2.2 ≤ z.2.2 + 1 := by
  unfold rst
  split
  · exact Nat.le_succ _
  · exact Nat.le_refl _
theorem rds_bd {n q : Nat} {M : Nat → Nat → Nat} {ro : Nat → Option Nat} : ∀ j, (rds n q M ro j).2.2 ≤ j
  | 0 => Nat.le_refl 0
  | j + 1 => Nat.le_trans (rst_bd (n := n) (q := q) (j := j)) (Nat.succ_le_succ (rds_bd j))
theorem adR_lt {n q f : Nat} (hq : 0 < q) (r s : Nat → Nat) {j : Nat} (hj : j < n + 1) : adR n q f r s j < q := by
  show (if j < n + 1 then _ else _) < q
  rw [if_pos hj]
  exact Nat.mod_lt _ hq
theorem scR_lt {n q f : Nat} (hq : 0 < q) (r : Nat → Nat) {j : Nat} (hj : j < n + 1) : scR n q f r j < q := by
  show (if j < n + 1 then _ else _) < q
  rw [if_pos hj]
  exact Nat.mod_lt _ hq
theorem clr_lt {n q u j0 : Nat} (hq : 0 < q) {M : Nat → Nat → Nat} (h : ∀ i, i < n → ∀ j, j < n + 1 → M i j < q) : ∀ i, i < n → ∀ j, j < n + 1 → clr n q u j0 M i j < q := by
  intro i hi j hj
  unfold clr
  by_cases h1 : i = u ∨ M i j0 = 0
  · rw [if_pos h1]; exact h i hi j hj
  · rw [if_neg h1]; exact adR_lt hq _ _ hj
theorem rst_lt {n q j0 : Nat} (hq : 0 < q) {z : (Nat → Nat → Nat) × (Nat → Option Nat) × Nat} (hz : z.2.2 ≤ n) (h : ∀ i, i < n → ∀ j, j < n + 1 → z.1 i j < q) : ∀ i, i < n → ∀ j, j < n + 1 → (rst n q j0 z).1 i j < q := by
  unfold rst
  split
  · exact h
  · rename_i r hr
    have h1 := fR_some _ _ hr
    refine clr_lt hq (fun i hi j hj => ?_)
    by_cases e : i = z.2.2
    · subst e; rw [up_at]; exact scR_lt hq _ hj
    · rw [up_of _ _ e]
      unfold swp
      rw [if_neg e]
      split
      · exact h _ (by omega) j hj
      · exact h i hi j hj
theorem rds_lt {n q : Nat} (hq : 0 < q) {M : Nat → Nat → Nat} {ro : Nat → Option Nat} (h : ∀ i, i < n → ∀ j, j < n + 1 → M i j < q) : ∀ k, k ≤ n → ∀ i, i < n → ∀ j, j < n + 1 → (rds n q M ro k).1 i j < q
  | 0, _ => h
  | k + 1, hk => rst_lt hq (Nat.le_trans (rds_bd k) (by omega)) (rds_lt hq h k (by omega))
/-- a lamp's row is one of the rows that are used -/
theorem rst_ro {n q j0 : Nat} {z : (Nat → Nat → Nat) × (Nat → Option Nat) × Nat} (h : ∀ j, j < j0 → ∀ r, z.2.1 j = some r → r < z.2.2) : ∀ j, j < j0 + 1 → ∀ r, (rst n q j0 z).2.1 j = some r → r < (rst n q j0 z).2.2 := by
  intro j hj r
  unfold rst
  split
  · intro h2
    dsimp only at h2 ⊢
    by_cases e : j = j0
    · subst e; rw [up_at] at h2; cases h2
    · rw [up_of _ _ e] at h2; exact h j (by omega) r h2
  · intro h2
    dsimp only at h2 ⊢
    by_cases e : j = j0
    · subst e; rw [up_at] at h2; cases h2; omega
    · rw [up_of _ _ e] at h2; have := h j (by omega) r h2; omega
theorem rds_ro {n q : Nat} {M : Nat → Nat → Nat} {ro : Nat → Option Nat} : ∀ k, ∀ j, j < k → ∀ r, (rds n q M ro k).2.1 j = some r → r < (rds n q M ro k).2.2
  | 0 => fun j hj => absurd hj (by omega)
  | k + 1 => rst_ro (rds_ro k)
theorem nI_smq {w v q : Nat} (h : v ≤ w + q) : nI w - nI v + nI q = nI (w + q - v) := by
  rw [← pk_sub h, ← nI_add, Int32.sub_eq_add_neg, Int32.sub_eq_add_neg, Int32.add_assoc, Int32.add_comm (-nI v), ← Int32.add_assoc]

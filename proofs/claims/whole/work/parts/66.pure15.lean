/-- the number that i digits say -/
def dvl (f : Nat → Nat) : Nat → Nat
  | 0 => 0
  | i + 1 => dvl f i + f i * 10 ^ i
theorem dvl_congr {f g : Nat → Nat} : ∀ i, (∀ j, j < i → f j = g j) → dvl f i = dvl g i
  | 0, _ => rfl
  | i + 1, h => by
    simp only [dvl]
    rw [dvl_congr i (fun j hj => h j (by omega)), h i (by omega)]
theorem dvl_lt {f : Nat → Nat} : ∀ i, (∀ j, j < i → f j < 10) → dvl f i < 10 ^ i
  | 0, _ => by simp [dvl]
  | i + 1, h => by
    simp only [dvl]
    have h1 := dvl_lt i (fun j hj => h j (by omega))
    have h2 : f i * 10 ^ i ≤ 9 * 10 ^ i := Nat.mul_le_mul_right _ (by have := h i (by omega); omega)
    rw [Nat.pow_succ]
    omega
theorem dvl_ge {f : Nat → Nat} {i : Nat} (h : f i ≠ 0) : 10 ^ i ≤ dvl f (i + 1) := by
  simp only [dvl]
  have h2 : 1 * 10 ^ i ≤ f i * 10 ^ i := Nat.mul_le_mul_right _ (Nat.pos_of_ne_zero h)
  omega
theorem mulD_val {x : Nat} {dg : Nat → Nat} : ∀ i, dvl (mulD x dg i).1 i + (mulD x dg i).2 * 10 ^ i = x * dvl dg i
  | 0 => by simp [dvl, mulD]
  | i + 1 => by
    have ih := mulD_val (x := x) (dg := dg) i
    simp only [dvl, mulD]
    rw [up_at, dvl_congr i (g := (mulD x dg i).1) (fun j hj => up_of _ _ (by omega))]
    generalize hv : dg i * x + (mulD x dg i).2 = v
    have h1 := Nat.div_add_mod v 10
    rw [Nat.pow_succ, Nat.mul_add, ← ih]
    have e1 : v / 10 * (10 ^ i * 10) = 10 * (v / 10) * 10 ^ i := by rw [Nat.mul_comm (10 ^ i), ← Nat.mul_assoc, Nat.mul_comm (v / 10)]
    rw [e1]
    have e2 : v % 10 * 10 ^ i + 10 * (v / 10) * 10 ^ i = v * 10 ^ i := by rw [← Nat.add_mul]; congr 1; omega
    have e3 : v * 10 ^ i = dg i * x * 10 ^ i + (mulD x dg i).2 * 10 ^ i := by rw [← hv, Nat.add_mul]
    have e4 : x * (dg i * 10 ^ i) = dg i * x * 10 ^ i := by rw [← Nat.mul_assoc, Nat.mul_comm x]
    rw [e4]
    omega
theorem pow_7 {x k : Nat} (hx : x ≤ 7) (hk : k ≤ 30) : x ^ k < 10 ^ 26 :=
  Nat.lt_of_le_of_lt (Nat.le_trans (Nat.pow_le_pow_left hx k) (Nat.pow_le_pow_right (by omega) hk)) (by decide)
theorem mulN_val {x : Nat} {dg : Nat → Nat} (h2 : 2 ≤ x) (h7 : x ≤ 7) : ∀ k, k ≤ 30 → dvl (mulN x (va_up dg 0 1, 1) k).1 (mulN x (va_up dg 0 1, 1) k).2 = x ^ k ∧ 1 ≤ (mulN x (va_up dg 0 1, 1) k).2 ∧ (mulN x (va_up dg 0 1, 1) k).1 ((mulN x (va_up dg 0 1, 1) k).2 - 1) ≠ 0
  | 0, _ => ⟨by simp [mulN, dvl, up_at], Nat.le_refl 1, by simp [mulN, up_at]⟩
  | k + 1, hk => by
    obtain ⟨i1, i2, i3⟩ := mulN_val (dg := dg) h2 h7 k (by omega)
    have ok := mulN_ok (x := x) (z := (va_up dg 0 1, 1)) (by omega) (by dsimp only; omega) (fun j hj => by dsimp only at hj ⊢; rw [show j = 0 by omega, up_at]; omega) k
    simp only [mulN]
    generalize mulN x (va_up dg 0 1, 1) k = z at i1 i2 i3 ok ⊢
    obtain ⟨f, len⟩ := z
    dsimp only at i1 i2 i3 ok ⊢
    have hv := mulD_val (x := x) (dg := f) len
    rw [i1, ← Nat.pow_succ'] at hv
    have hp : x ^ k.succ < 10 ^ 26 := pow_7 h7 hk
    unfold mulE
    by_cases c : 0 < (mulD x f len).2
    · have hl : len < 26 := by
        have h3 : 1 * 10 ^ len ≤ (mulD x f len).2 * 10 ^ len := Nat.mul_le_mul_right _ c
        exact (Nat.pow_lt_pow_iff_right (a := 10) (by omega)).mp (by omega)
      rw [if_pos ⟨c, hl⟩]
      dsimp only
      refine ⟨?_, by omega, ?_⟩
      · simp only [dvl]
        rw [up_at, dvl_congr len (g := (mulD x f len).1) (fun j hj => up_of _ _ (by omega))]
        exact hv
      · rw [Nat.add_sub_cancel, up_at]; omega
    · rw [if_neg (fun h => c h.1)]
      dsimp only
      have hz : (mulD x f len).2 = 0 := by omega
      rw [hz, Nat.zero_mul, Nat.add_zero] at hv
      refine ⟨hv, i2, fun h => ?_⟩
      obtain ⟨m, rfl⟩ : ∃ m, len = m + 1 := ⟨len - 1, by omega⟩
      rw [Nat.add_sub_cancel] at h i3
      have h4 := dvl_ge i3
      rw [i1] at h4
      have h5 : dvl (mulD x f (m + 1)).1 (m + 1) = dvl (mulD x f (m + 1)).1 m := by simp only [dvl]; rw [h]; simp
      have h6 := dvl_lt (f := (mulD x f (m + 1)).1) m (fun j hj => mulD_lt _ j (by omega))
      rw [← h5, hv, Nat.pow_succ] at h6
      have h7 : x ^ k * 1 ≤ x ^ k * x := Nat.mul_le_mul_left _ (by omega)
      omega
theorem mul_fit {x : Nat} {dg : Nat → Nat} (h2 : 2 ≤ x) (h7 : x ≤ 7) {k : Nat} (hk : k < 30) (hc : 0 < (mulD x (mulN x (va_up dg 0 1, 1) k).1 (mulN x (va_up dg 0 1, 1) k).2).2) : (mulN x (va_up dg 0 1, 1) k).2 < 26 := by
  obtain ⟨i1, i2, i3⟩ := mulN_val (dg := dg) h2 h7 k (by omega)
  have hv := mulD_val (x := x) (dg := (mulN x (va_up dg 0 1, 1) k).1) (mulN x (va_up dg 0 1, 1) k).2
  rw [i1, ← Nat.pow_succ'] at hv
  have hp : x ^ k.succ < 10 ^ 26 := pow_7 h7 (show k + 1 ≤ 30 by omega)
  have h3 : 1 * 10 ^ (mulN x (va_up dg 0 1, 1) k).2 ≤ (mulD x (mulN x (va_up dg 0 1, 1) k).1 (mulN x (va_up dg 0 1, 1) k).2).2 * 10 ^ (mulN x (va_up dg 0 1, 1) k).2 := Nat.mul_le_mul_right _ hc
  exact (Nat.pow_lt_pow_iff_right (a := 10) (by omega)).mp (by omega)
theorem mulD_congr {x : Nat} {f g : Nat → Nat} : ∀ i, (∀ j, j < i → f j = g j) → (mulD x f i).2 = (mulD x g i).2 ∧ ∀ j, j < i → (mulD x f i).1 j = (mulD x g i).1 j
  | 0, _ => ⟨rfl, fun j h => absurd h (Nat.not_lt_zero j)⟩
  | i + 1, h => by
    obtain ⟨h1, h2⟩ := mulD_congr (x := x) i (fun j hj => h j (by omega))
    simp only [mulD]
    rw [h i (by omega), h1]
    refine ⟨rfl, fun j hj => ?_⟩
    by_cases e : j = i
    · rw [e, up_at, up_at]
    · rw [up_of _ _ e, up_of _ _ e]; exact h2 j (by omega)
theorem mulN_congr {x : Nat} {z z' : (Nat → Nat) × Nat} (h1 : z.2 = z'.2) (h2 : ∀ j, j < z.2 → z.1 j = z'.1 j) : ∀ k, (mulN x z k).2 = (mulN x z' k).2 ∧ ∀ j, j < (mulN x z k).2 → (mulN x z k).1 j = (mulN x z' k).1 j
  | 0 => ⟨h1, h2⟩
  | k + 1 => by
    obtain ⟨i1, i2⟩ := mulN_congr h1 h2 k (x := x)
    simp only [mulN]
    generalize mulN x z k = a at i1 i2 ⊢
    generalize mulN x z' k = b at i1 i2 ⊢
    obtain ⟨f, len⟩ := a
    obtain ⟨g, len2⟩ := b
    dsimp only at i1 i2 ⊢
    subst i1
    obtain ⟨c1, c2⟩ := mulD_congr (x := x) len i2
    unfold mulE
    rw [← c1]
    by_cases c : 0 < (mulD x f len).2 ∧ len < 26
    · rw [if_pos c, if_pos c]
      refine ⟨rfl, fun j hj => ?_⟩
      dsimp only at hj ⊢
      by_cases e : j = len
      · rw [e, up_at, up_at]
      · rw [up_of _ _ e, up_of _ _ e]; exact c2 j (by omega)
    · rw [if_neg c, if_neg c]
      exact ⟨rfl, fun j hj => c2 j hj⟩
/-- where there is no answer: 0, however often it is multiplied -/
theorem mulN_zero {x : Nat} {dg : Nat → Nat} : ∀ k, (mulN x (va_up dg 0 0, 1) k).2 = 1 ∧ (mulN x (va_up dg 0 0, 1) k).1 0 = 0
  | 0 => ⟨rfl, by simp only [mulN]; exact up_at _ _ _⟩
  | k + 1 => by
    obtain ⟨i1, i2⟩ := mulN_zero (x := x) (dg := dg) k
    simp only [mulN]
    rw [i1]
    have e : mulD x (mulN x (va_up dg 0 0, 1) k).1 1 = (va_up (mulN x (va_up dg 0 0, 1) k).1 0 0, 0) := by
      simp [mulD, i2]
    unfold mulE
    rw [e]
    rw [if_neg (fun h => absurd h.1 (by dsimp only; omega))]
    exact ⟨rfl, by dsimp only; exact up_at _ _ _⟩
/-- count's answer: a digit of these -/
def dgP (z : (Nat → Nat) × Nat) (x a : Int32) : Prop := (a = -1 ∧ ∀ j : Nat, j < z.2 → x ≠ nI j) ∨ ∃ j : Nat, j < z.2 ∧ x = nI j ∧ a = nI (z.1 j)

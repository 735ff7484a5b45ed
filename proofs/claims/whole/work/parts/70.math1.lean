/-! Sums of integers, and what row operations keep -/
def iS (f : Nat → Int) : Nat → Int
  | 0 => 0
  | k + 1 => iS f k + f k
theorem iS_congr {f g : Nat → Int} : ∀ n, (∀ k, k < n → f k = g k) → iS f n = iS g n
  | 0, _ => rfl
  | n + 1, h => by
    simp only [iS]
    rw [iS_congr n (fun k hk => h k (by omega)), h n (by omega)]
theorem iS_add (f g : Nat → Int) : ∀ n, iS (fun k => f k + g k) n = iS f n + iS g n
  | 0 => rfl
  | n + 1 => by
    simp only [iS]
    rw [iS_add f g n]
    omega
theorem iS_mul (c : Int) (f : Nat → Int) : ∀ n, iS (fun k => c * f k) n = c * iS f n
  | 0 => by simp [iS]
  | n + 1 => by
    simp only [iS]
    rw [iS_mul c f n, Int.mul_add]
theorem iS_zero : ∀ n, iS (fun _ => 0) n = 0
  | 0 => rfl
  | n + 1 => by
    simp only [iS]
    rw [iS_zero n]
    rfl
theorem iS_dvd {q : Int} {f : Nat → Int} : ∀ n, (∀ k, k < n → q ∣ f k) → q ∣ iS f n
  | 0, _ => Int.dvd_zero q
  | n + 1, h => Int.dvd_add (iS_dvd n (fun k hk => h k (by omega))) (h n (by omega))
theorem iS_sub (f g : Nat → Int) (n : Nat) : iS f n - iS g n = iS (fun k => f k - g k) n := by
  have h : iS (fun k => f k + -1 * g k) n = iS f n + -1 * iS g n := by rw [iS_add, iS_mul]
  have h2 : iS (fun k => f k - g k) n = iS (fun k => f k + -1 * g k) n := iS_congr n (fun k _ => by omega)
  rw [h2, h]
  omega
theorem iS_single {f : Nat → Int} {q : Int} {j : Nat} : ∀ n, j < n → (∀ k, k < n → k ≠ j → q ∣ f k) → q ∣ iS f n - f j
  | 0, hj, _ => absurd hj (Nat.not_lt_zero j)
  | n + 1, hj, h => by
    simp only [iS]
    by_cases e : j = n
    · subst e
      have := iS_dvd (q := q) (f := f) j (fun k hk => h k (by omega) (by omega))
      have e2 : iS f j + f j - f j = iS f j := by omega
      rw [e2]; exact this
    · have h1 := iS_single n (show j < n by omega) (fun k hk hk2 => h k (by omega) hk2)
      have h2 := h n (by omega) (fun h => e h.symm)
      have e2 : iS f n + f n - f j = (iS f n - f j) + f n := by omega
      rw [e2]; exact Int.dvd_add h1 h2
theorem iS_swap (f : Nat → Nat → Int) (m : Nat) : ∀ n, iS (fun i => iS (fun j => f i j) m) n = iS (fun j => iS (fun i => f i j) n) m
  | 0 => by
    show (0 : Int) = iS (fun _ => 0) m
    rw [iS_zero]
  | n + 1 => by
    simp only [iS]
    rw [iS_swap f m n, ← iS_add]
/-- x is in the kernel of the n rows M of n + 1 columns, modulo q -/
def kr (q n : Nat) (M : Nat → Nat → Nat) (x : Nat → Int) : Prop := ∀ i, i < n → (q : Int) ∣ iS (fun j => (M i j : Int) * x j) (n + 1)
theorem mod_dvd (q a : Nat) : (q : Int) ∣ ((a % q : Nat) : Int) - (a : Int) := by
  refine ⟨-((a / q : Nat) : Int), ?_⟩
  have h := Nat.div_add_mod a q
  have h2 : ((q * (a / q) + a % q : Nat) : Int) = (a : Int) := by rw [h]
  rw [Int.natCast_add, Int.natCast_mul] at h2
  rw [Int.mul_neg]
  omega
theorem row_mod {q m : Nat} {a b : Nat → Int} {x : Nat → Int} (h : ∀ j, j < m → (q : Int) ∣ a j - b j) : (q : Int) ∣ iS (fun j => a j * x j) m - iS (fun j => b j * x j) m := by
  rw [iS_sub]
  refine iS_dvd m (fun k hk => ?_)
  rw [← Int.sub_mul]
  exact Int.dvd_mul_of_dvd_left (h k hk)
theorem dvd_of_sub {q a b : Int} (h : q ∣ a - b) (hb : q ∣ b) : q ∣ a := by
  have := Int.dvd_add h hb
  rwa [Int.sub_add_cancel] at this
theorem dvd_of_sub' {q a b : Int} (h : q ∣ a - b) (ha : q ∣ a) : q ∣ b := by
  have h2 := Int.dvd_sub ha h
  have e : a - (a - b) = b := by omega
  rwa [e] at h2
/-- a row and a multiple of another -/
theorem adR_dvd {n q f : Nat} {r s : Nat → Nat} {x : Nat → Int} : (q : Int) ∣ iS (fun j => (adR n q f r s j : Int) * x j) (n + 1) - (iS (fun j => (r j : Int) * x j) (n + 1) + (f : Int) * iS (fun j => (s j : Int) * x j) (n + 1)) := by
  have h1 : (q : Int) ∣ iS (fun j => (adR n q f r s j : Int) * x j) (n + 1) - iS (fun j => ((r j + s j * f : Nat) : Int) * x j) (n + 1) := row_mod (fun j hj => by
    show (q : Int) ∣ ((if j < n + 1 then (r j + s j * f) % q else r j : Nat) : Int) - _
    rw [if_pos hj]
    exact mod_dvd q _)
  have h2 : iS (fun j => ((r j + s j * f : Nat) : Int) * x j) (n + 1) = iS (fun j => (r j : Int) * x j) (n + 1) + (f : Int) * iS (fun j => (s j : Int) * x j) (n + 1) := by
    rw [← iS_mul, ← iS_add]
    refine iS_congr _ (fun k _ => ?_)
    rw [Int.natCast_add, Int.natCast_mul, Int.add_mul, Int.mul_comm (s k : Int) (f : Int), Int.mul_assoc]
  rw [h2] at h1
  exact h1
theorem scR_dvd {n q f : Nat} {r : Nat → Nat} {x : Nat → Int} : (q : Int) ∣ iS (fun j => (scR n q f r j : Int) * x j) (n + 1) - (f : Int) * iS (fun j => (r j : Int) * x j) (n + 1) := by
  have h1 : (q : Int) ∣ iS (fun j => (scR n q f r j : Int) * x j) (n + 1) - iS (fun j => ((r j * f : Nat) : Int) * x j) (n + 1) := row_mod (fun j hj => by
    show (q : Int) ∣ ((if j < n + 1 then r j * f % q else r j : Nat) : Int) - _
    rw [if_pos hj]
    exact mod_dvd q _)
  have h2 : iS (fun j => ((r j * f : Nat) : Int) * x j) (n + 1) = (f : Int) * iS (fun j => (r j : Int) * x j) (n + 1) := by
    rw [← iS_mul]
    refine iS_congr _ (fun k _ => ?_)
    rw [Int.natCast_mul, Int.mul_comm (r k : Int) (f : Int), Int.mul_assoc]
  rw [h2] at h1
  exact h1
theorem kr_clr {q n u j0 : Nat} (hu : u < n) {M : Nat → Nat → Nat} {x : Nat → Int} : kr q n (clr n q u j0 M) x ↔ kr q n M x := by
  have eu : clr n q u j0 M u = M u := by unfold clr; rw [if_pos (Or.inl rfl)]
  constructor
  · intro h i hi
    have hU := h u hu
    rw [eu] at hU
    have h1 := h i hi
    unfold clr at h1
    by_cases e : i = u ∨ M i j0 = 0
    · rw [if_pos e] at h1; exact h1
    · rw [if_neg e] at h1
      have h2 := dvd_of_sub' (adR_dvd (n := n) (q := q) (f := q - M i j0) (r := M i) (s := M u) (x := x)) h1
      have h3 : (q : Int) ∣ ((q - M i j0 : Nat) : Int) * iS (fun j => (M u j : Int) * x j) (n + 1) := Int.dvd_mul_of_dvd_right hU
      have h4 := Int.dvd_sub h2 h3
      rwa [Int.add_sub_cancel] at h4
  · intro h i hi
    unfold clr
    by_cases e : i = u ∨ M i j0 = 0
    · rw [if_pos e]; exact h i hi
    · rw [if_neg e]
      exact dvd_of_sub adR_dvd (Int.dvd_add (h i hi) (Int.dvd_mul_of_dvd_right (h u hu)))
theorem kr_scl {q n u f v : Nat} (hu : u < n) (hv : f * v % q = 1) {M : Nat → Nat → Nat} {x : Nat → Int} : kr q n (va_up M u (scR n q f (M u))) x ↔ kr q n M x := by
  constructor
  · intro h i hi
    have h1 := h i hi
    by_cases e : i = u
    · subst e
      rw [up_at] at h1
      have h2 := dvd_of_sub' scR_dvd h1
      have h3 : (q : Int) ∣ (v : Int) * ((f : Int) * iS (fun j => (M i j : Int) * x j) (n + 1)) := Int.dvd_mul_of_dvd_right h2
      rw [← Int.mul_assoc, ← Int.natCast_mul, Nat.mul_comm v f] at h3
      have h4 : (q : Int) ∣ ((1 : Nat) : Int) - ((f * v : Nat) : Int) := by rw [← hv]; exact mod_dvd q _
      have h5 : (q : Int) ∣ (((1 : Nat) : Int) - ((f * v : Nat) : Int)) * iS (fun j => (M i j : Int) * x j) (n + 1) := Int.dvd_mul_of_dvd_left h4
      have h6 := Int.dvd_add h5 h3
      rw [← Int.add_mul, Int.sub_add_cancel] at h6
      rwa [show (((1 : Nat) : Int)) = 1 from rfl, Int.one_mul] at h6
    · rw [up_of _ _ e] at h1; exact h1
  · intro h i hi
    by_cases e : i = u
    · subst e
      rw [up_at]
      exact dvd_of_sub scR_dvd (Int.dvd_mul_of_dvd_right (h i hi))
    · rw [up_of _ _ e]; exact h i hi
theorem kr_swp {q n a b : Nat} (ha : a < n) (hb : b < n) {M : Nat → Nat → Nat} {x : Nat → Int} : kr q n (swp a b M) x ↔ kr q n M x := by
  have key : ∀ N : Nat → Nat → Nat, kr q n N x → kr q n (swp a b N) x := by
    intro N h i hi
    unfold swp
    by_cases e : i = b
    · rw [if_pos e]; exact h a ha
    · rw [if_neg e]
      by_cases e2 : i = a
      · rw [if_pos e2]; exact h b hb
      · rw [if_neg e2]; exact h i hi
  refine ⟨fun h => ?_, key M⟩
  have h2 := key _ h
  intro i hi
  have h3 := h2 i hi
  unfold swp at h3
  by_cases e : i = b
  · subst e
    rw [if_pos rfl] at h3
    by_cases e2 : a = i
    · subst e2; rw [if_pos rfl] at h3; exact h3
    · rw [if_neg e2, if_pos rfl] at h3; exact h3
  · rw [if_neg e] at h3
    by_cases e2 : i = a
    · subst e2
      rw [if_pos rfl, if_pos rfl] at h3; exact h3
    · rw [if_neg e2, if_neg e, if_neg e2] at h3; exact h3

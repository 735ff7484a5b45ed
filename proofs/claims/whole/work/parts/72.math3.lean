/-- what presses x (as integers) do to lamp k -/
def lc (n : Nat) (E : Nat → Nat → Nat) (x : Nat → Int) (k : Nat) : Int := iS (fun l => (E l k : Int) * x l) n
theorem kr_lc {q n : Nat} {E M : Nat → Nat → Nat} {b : Nat → Nat} (h1 : ∀ i, i < n → ∀ j, j < n → M i j = E j i) (h2 : ∀ i, i < n → M i n = b i) (x : Nat → Int) : kr q n M x ↔ ∀ i, i < n → (q : Int) ∣ lc n E x i + (b i : Int) * x n := by
  have e : ∀ i, i < n → iS (fun j => (M i j : Int) * x j) (n + 1) = lc n E x i + (b i : Int) * x n := by
    intro i hi
    simp only [iS]
    rw [h2 i hi]
    unfold lc
    rw [iS_congr n (fun k hk => by rw [h1 i hi k hk])]
  constructor
  · intro h i hi; rw [← e i hi]; exact h i hi
  · intro h i hi; rw [e i hi]; exact h i hi
section CLS
variable {n q : Nat} {R : Nat → Nat → Nat} {ro : Nat → Option Nat} {bd : Nat}
/-- a BOUND lamp's row says what it is pressed, where the FREE ones aren't -/
theorem cls_row (hI : rI n n (R, ro, bd)) {x : Nat → Int} (hx : kr q n R x) (hf : ∀ f, f < n → ro f = none → (q : Int) ∣ x f) {a r : Nat} (ha : a < n) (hr : ro a = some r) : (q : Int) ∣ x a + (R r n : Int) * x n := by
  obtain ⟨i1, i2, i3, i4, i5⟩ := hI
  dsimp only at i1 i2 i3 i4 i5
  obtain ⟨h1, h2, h3, h4⟩ := i2 a ha r hr
  have hk := hx r (by omega)
  simp only [iS] at hk
  have hs := iS_single (q := (q : Int)) (f := fun j => (R r j : Int) * x j) n ha (fun k hk1 hk2 => by
    rcases hrk : ro k with _ | r2
    · exact Int.dvd_mul_of_dvd_right (hf k hk1 hrk)
    · have hne : r ≠ r2 := fun h => hk2 (i5 k a r hk1 ha (by rw [hrk, h]) hr)
      have := (i2 k hk1 r2 hrk).2.2.1 r (by omega) hne
      rw [this]
      simp)
  rw [h2] at hs
  have h5 := Int.dvd_sub hk hs
  have e : iS (fun j => (R r j : Int) * x j) n + (R r n : Int) * x n - (iS (fun j => (R r j : Int) * x j) n - ((1 : Nat) : Int) * x a) = x a + (R r n : Int) * x n := by
    rw [show ((1 : Nat) : Int) = 1 from rfl, Int.one_mul]; omega
  rw [e] at h5
  exact h5
theorem agr_true {M : Nat → Nat → Nat} {n : Nat} : ∀ k r, agr M n k r = true → ∀ i, r ≤ i → i < r + k → M i n = 0
  | 0, _, _ => fun i h1 h2 => absurd h2 (by omega)
  | k + 1, r, h => fun i h1 h2 => by
    simp only [agr] at h
    by_cases e : M r n = 0
    · rw [if_pos e] at h
      by_cases e2 : i = r
      · rw [e2]; exact e
      · exact agr_true k (r + 1) h i (by omega) (by omega)
    · rw [if_neg e] at h; cases h
theorem agr_false {M : Nat → Nat → Nat} {n : Nat} : ∀ k r, agr M n k r = false → ∃ i, r ≤ i ∧ i < r + k ∧ M i n ≠ 0
  | 0, _, h => by cases h
  | k + 1, r, h => by
    simp only [agr] at h
    by_cases e : M r n = 0
    · rw [if_pos e] at h
      obtain ⟨i, h1, h2, h3⟩ := agr_false k (r + 1) h
      exact ⟨i, by omega, by omega, h3⟩
    · exact ⟨r, Nat.le_refl r, by omega, e⟩
/-- THE ANSWER, as the class has it, is one -/
theorem cls_ans (hI : rI n n (R, ro, bd)) (hag : agr R n (n - bd) bd = true) : kr q n R (fun j => if j = n then -1 else (prs R ro n j : Int)) := by
  obtain ⟨i1, i2, i3, i4, i5⟩ := hI
  dsimp only at i1 i2 i3 i4 i5
  intro i hi
  simp only [iS, ↓reduceIte]
  by_cases e : i < bd
  · obtain ⟨a, ha, hra⟩ := i4 i e
    obtain ⟨h1, h2, h3, h4⟩ := i2 a ha i hra
    have hs := iS_single (q := (q : Int)) (f := fun j => (R i j : Int) * (if j = n then -1 else (prs R ro n j : Int))) n ha (fun k hk1 hk2 => by
      rw [if_neg (by omega)]
      rcases hrk : ro k with _ | r2
      · have : prs R ro n k = 0 := by unfold prs; rw [hrk]
        rw [this]; simp
      · have hne : i ≠ r2 := fun h => hk2 (i5 k a i hk1 ha (by rw [hrk, h]) hra)
        have := (i2 k hk1 r2 hrk).2.2.1 i hi hne
        rw [this]; simp)
    rw [if_neg (by omega), h2, show prs R ro n a = R i n by unfold prs; rw [hra]] at hs
    have e2 : iS (fun j => (R i j : Int) * (if j = n then -1 else (prs R ro n j : Int))) n + (R i n : Int) * -1 = iS (fun j => (R i j : Int) * (if j = n then -1 else (prs R ro n j : Int))) n - ((1 : Nat) : Int) * (R i n : Int) := by
      rw [show ((1 : Nat) : Int) = 1 from rfl, Int.one_mul]; omega
    rw [e2]; exact hs
  · have hz := agr_true _ _ hag i (by omega) (by omega)
    rw [hz]
    have h0 : iS (fun j => (R i j : Int) * (if j = n then -1 else (prs R ro n j : Int))) n = 0 := by
      rw [iS_congr n (g := fun _ => 0) (fun k hk => by rw [i3 k hk i (by omega) hi]; simp), iS_zero]
    rw [h0]; simp
/-- where the class finds none there is none -/
theorem cls_none (hI : rI n n (R, ro, bd)) (hb : ∀ i, i < n → ∀ k, k < n + 1 → R i k < q) (hag : agr R n (n - bd) bd = false) {x : Nat → Int} (hx : kr q n R x) (h1 : x n = -1) : False := by
  obtain ⟨i, g1, g2, g3⟩ := agr_false _ _ hag
  have hi : i < n := by have := hI.1; dsimp only at this; omega
  have hk := hx i hi
  simp only [iS] at hk
  have h0 : iS (fun j => (R i j : Int) * x j) n = 0 := by
    rw [iS_congr n (g := fun _ => 0) (fun k hk2 => by
      have := hI.2.2.1 k hk2 i g1 hi
      dsimp only at this
      rw [this]; simp), iS_zero]
  rw [h0, h1] at hk
  have h2 := hb i hi n (by omega)
  obtain ⟨c, hc⟩ := hk
  have h3 : (R i n : Int) = (q : Int) * -c := by rw [Int.mul_neg, ← hc]; omega
  have h4 : (q : Int) ∣ (R i n : Int) := ⟨-c, h3⟩
  have h5 : q ∣ R i n := Int.ofNat_dvd.mp h4
  exact g3 (Nat.eq_zero_of_dvd_of_lt h5 h2)
/-- a QUIET pattern of the class changes nothing -/
theorem cls_quiet (hI : rI n n (R, ro, bd)) (hb : ∀ i, i < n → ∀ k, k < n + 1 → R i k < q) {f : Nat} (hf : f < n) (hfr : ro f = none) : kr q n R (fun j => if j = n then 0 else (qv q R ro f j : Int)) := by
  obtain ⟨i1, i2, i3, i4, i5⟩ := hI
  dsimp only at i1 i2 i3 i4 i5
  intro i hi
  simp only [iS, ↓reduceIte]
  rw [Int.mul_zero, Int.add_zero]
  by_cases e : i < bd
  · obtain ⟨a, ha, hra⟩ := i4 i e
    obtain ⟨h1, h2, h3, h4⟩ := i2 a ha i hra
    have haf : a ≠ f := fun h => by rw [h, hfr] at hra; cases hra
    -- the two places that count: a and f
    have hs : (q : Int) ∣ iS (fun j => (R i j : Int) * (if j = n then 0 else (qv q R ro f j : Int)) - (if j = f then (R i f : Int) else 0)) n - ((R i a : Int) * (if a = n then 0 else (qv q R ro f a : Int)) - (if a = f then (R i f : Int) else 0)) :=
      iS_single n ha (fun k hk1 hk2 => by
        rw [if_neg (show ¬ k = n by omega)]
        by_cases e2 : k = f
        · rw [if_pos e2, e2]
          have : qv q R ro f f = 1 := by unfold qv; rw [if_pos rfl]
          rw [this, show ((1 : Nat) : Int) = 1 from rfl, Int.mul_one, Int.sub_self]
          exact Int.dvd_zero _
        · rw [if_neg e2, Int.sub_zero]
          rcases hrk : ro k with _ | r2
          · have : qv q R ro f k = 0 := by unfold qv; rw [if_neg e2, hrk]
            rw [this]; simp
          · have hne : i ≠ r2 := fun h => hk2 (i5 k a i hk1 ha (by rw [hrk, h]) hra)
            have := (i2 k hk1 r2 hrk).2.2.1 i hi hne
            rw [this]; simp)
    rw [if_neg (show ¬ a = n by omega), if_neg haf, Int.sub_zero, h2, ← iS_sub] at hs
    have hF : (q : Int) ∣ iS (fun j => if j = f then (R i f : Int) else 0) n - (R i f : Int) := by
      have := iS_single (q := (q : Int)) (f := fun j => if j = f then (R i f : Int) else 0) n hf (fun k _ hk2 => by rw [if_neg hk2]; exact Int.dvd_zero _)
      rw [if_pos rfl] at this
      exact this
    have hA : (q : Int) ∣ (qv q R ro f a : Int) + (R i f : Int) := by
      have hq1 : qv q R ro f a = (q - R i f) % q := by unfold qv; rw [if_neg haf, hra]
      rw [hq1]
      have h6 := mod_dvd q (q - R i f)
      have h7 := hb i hi f (by omega)
      have h8 : ((q - R i f : Nat) : Int) = (q : Int) - (R i f : Int) := by omega
      rw [h8] at h6
      have h9 := Int.dvd_add h6 (Int.dvd_refl (q : Int))
      have e9 : (((q - R i f) % q : Nat) : Int) - ((q : Int) - (R i f : Int)) + (q : Int) = (((q - R i f) % q : Nat) : Int) + (R i f : Int) := by omega
      rw [e9] at h9
      exact h9
    have h10 := Int.dvd_add (Int.dvd_add hs hF) hA
    have e10 : iS (fun j => (R i j : Int) * (if j = n then 0 else (qv q R ro f j : Int))) n - iS (fun j => if j = f then (R i f : Int) else 0) n - ((1 : Nat) : Int) * (qv q R ro f a : Int) + (iS (fun j => if j = f then (R i f : Int) else 0) n - (R i f : Int)) + ((qv q R ro f a : Int) + (R i f : Int)) = iS (fun j => (R i j : Int) * (if j = n then 0 else (qv q R ro f j : Int))) n := by
      rw [show ((1 : Nat) : Int) = 1 from rfl, Int.one_mul]; omega
    rw [e10] at h10
    exact h10
  · have h0 : iS (fun j => (R i j : Int) * (if j = n then 0 else (qv q R ro f j : Int))) n = 0 := by
      rw [iS_congr n (g := fun _ => 0) (fun k hk => by rw [i3 k hk i (by omega) hi]; simp), iS_zero]
    rw [h0]; exact Int.dvd_zero _
end CLS

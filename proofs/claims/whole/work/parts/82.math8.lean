/-! the search: the class's odometer and the reference's ways -/
theorem iS_shift (f : Nat → Int) : ∀ n, iS f (n + 1) = f 0 + iS (fun i => f (i + 1)) n
  | 0 => by simp [iS]
  | n + 1 => by
    have := iS_shift f n
    simp only [iS] at this ⊢
    rw [this]
    omega
theorem adq_mod {q a b : Nat} (ha : a < q) (hb : b < q) : adq q a b = (a + b) % q := by
  show (if a + b < q then a + b else a + b - q) = _
  by_cases e : a + b < q
  · rw [if_pos e, Nat.mod_eq_of_lt e]
  · rw [if_neg e, Nat.mod_eq_sub_mod (by omega), Nat.mod_eq_of_lt (by omega)]
theorem twF_val {q l : Nat} {QU : Nat → Nat → Nat} (hq : 2 ≤ q) : ∀ (g k r : Nat) (f : Nat → Nat) (N : Nat), r ≤ g → r < q ^ N → cg q (twF q QU g k r f l : Int) ((f l : Int) + iS (fun i => ((r / q ^ i % q : Nat) : Int) * (QU (k + i) l : Int)) N) := by
  have hz : ∀ (k N : Nat), iS (fun i => ((0 / q ^ i % q : Nat) : Int) * (QU (k + i) l : Int)) N = 0 := fun k N => by
    rw [iS_congr N (g := fun _ => 0) (fun i _ => by simp), iS_zero]
  intro g
  induction g with
  | zero =>
    intro k r f N h1 h2
    obtain rfl : r = 0 := by omega
    simp only [twF]
    rw [hz, Int.add_zero]
    exact cg.rfl'
  | succ g ih =>
    intro k r f N h1 h2
    simp only [twF]
    by_cases e : r = 0
    · rw [if_pos e, e, hz, Int.add_zero]
      exact cg.rfl'
    · rw [if_neg e]
      obtain ⟨N, rfl⟩ : ∃ N', N = N' + 1 := by
        rcases N with _ | N
        · rw [Nat.pow_zero] at h2; omega
        · exact ⟨N, rfl⟩
      have hdv : r / q < r := Nat.div_lt_self (by omega) (by omega)
      have hlt : r / q < q ^ N := Nat.div_lt_of_lt_mul (by rw [Nat.mul_comm, ← Nat.pow_succ]; exact h2)
      refine (ih (k + 1) (r / q) _ N (by omega) hlt).trans ?_
      rw [iS_shift]
      have e1 : iS (fun i => ((r / q / q ^ i % q : Nat) : Int) * (QU (k + 1 + i) l : Int)) N = iS (fun i => ((r / q ^ (i + 1) % q : Nat) : Int) * (QU (k + (i + 1)) l : Int)) N := iS_congr N (fun i _ => by
        rw [Nat.div_div_eq_div_mul, ← Nat.pow_succ', show k + 1 + i = k + (i + 1) by omega])
      rw [e1, ← Int.add_assoc]
      refine cg.add ?_ cg.rfl'
      rw [Nat.pow_zero, Nat.div_one, Nat.add_zero]
      by_cases e2 : 0 < r % q
      · rw [if_pos e2]
        refine (cg_mod _).trans (cg.of ?_)
        rw [Int.natCast_add, Int.natCast_mul]
      · rw [if_neg e2, show r % q = 0 by omega]
        simp
        exact cg.rfl'
/-- what the odometer holds and what is tried go together -/
def odo (n q fr : Nat) (QU : Nat → Nat → Nat) (an : Nat → Nat) (z : (Nat → Nat) × (Nat → Nat)) : Prop := ∀ l, l < n → cg q (z.1 l : Int) ((an l : Int) + iS (fun k => (z.2 k : Int) * (QU k l : Int)) fr)
theorem iS_up {f g : Nat → Int} {k : Nat} : ∀ n, k < n → (∀ j, j < n → j ≠ k → f j = g j) → iS f n = iS g n + (f k - g k)
  | 0, h, _ => absurd h (Nat.not_lt_zero k)
  | n + 1, h, hg => by
    simp only [iS]
    by_cases e : k = n
    · subst e
      rw [iS_congr k (fun j hj => hg j (by omega) (by omega))]
      omega
    · rw [iS_up n (by omega) (fun j hj hj2 => hg j (by omega) hj2), hg n (by omega) (fun h => e h.symm)]
      omega
theorem odo_step {n q fr : Nat} {QU : Nat → Nat → Nat} {an : Nat → Nat} {z : (Nat → Nat) × (Nat → Nat)} (hz : odo n q fr QU an z) {k d : Nat} (hk : k < fr) (hd : cg q (d : Int) ((z.2 k : Int) + 1)) (h1 : ∀ l, l < n → z.1 l < q) (h2 : ∀ l, l < n → QU k l < q) : odo n q fr QU an (fun j => adq q (z.1 j) (QU k j), va_up z.2 k d) := by
  intro l hl
  dsimp only
  rw [adq_mod (h1 l hl) (h2 l hl)]
  refine (cg_mod _).trans ?_
  rw [Int.natCast_add]
  have e := iS_up (f := fun j => ((va_up z.2 k d j : Nat) : Int) * (QU j l : Int)) (g := fun j => (z.2 j : Int) * (QU j l : Int)) fr hk (fun j _ hne => by rw [up_of _ _ hne])
  rw [e, up_at]
  have h3 : cg q ((d : Int) * (QU k l : Int) - (z.2 k : Int) * (QU k l : Int)) (QU k l : Int) := by
    refine ((hd.mul (cg.rfl' (a := (QU k l : Int)))).sub (cg.rfl' (a := (z.2 k : Int) * (QU k l : Int)))).trans (cg.of ?_)
    rw [Int.add_mul, Int.one_mul]
    omega
  refine ((hz l hl).add h3.symm).trans (cg.of ?_)
  omega
theorem adv_odo {n q fr : Nat} {QU : Nat → Nat → Nat} {an : Nat → Nat} (hq : 2 ≤ q) (hQ : ∀ k, k < fr → ∀ l, l < n → QU k l < q) : ∀ (f k : Nat) (z : (Nat → Nat) × (Nat → Nat)) (m : Nat), k + f = fr → m + 1 < q ^ f → (∀ i, i < f → z.2 (k + i) = m / q ^ i % q) → (∀ l, l < n → z.1 l < q) → odo n q fr QU an z →
    odo n q fr QU an (adv q QU f k z) ∧ (∀ i, i < f → (adv q QU f k z).2 (k + i) = (m + 1) / q ^ i % q) ∧ (∀ j, j < k → (adv q QU f k z).2 j = z.2 j) ∧ ∀ l, l < n → (adv q QU f k z).1 l < q
  | 0, k, z, m, _, h2, _, _, _ => by rw [Nat.pow_zero] at h2; omega
  | f + 1, k, z, m, h1, h2, h3, h4, h5 => by
    have hk : k < fr := by omega
    have h30 := h3 0 (by omega)
    rw [Nat.add_zero, Nat.pow_zero, Nat.div_one] at h30
    have hml : m % q < q := Nat.mod_lt _ (by omega)
    have hdm := Nat.div_add_mod m q
    simp only [adv]
    by_cases e : z.2 k + 1 < q
    · rw [if_pos e]
      refine ⟨odo_step h5 hk (cg.of (by omega)) h4 (hQ k hk), fun i hi => ?_, fun j hj => by dsimp only; rw [up_of _ _ (by omega)], fun l hl => adq_lt (h4 l hl) (hQ k hk l hl)⟩
      dsimp only
      have hd : (m + 1) / q = m / q := by
        rw [Nat.div_eq_iff (by omega)]
        have : m / q * q = q * (m / q) := Nat.mul_comm _ _
        omega
      have hr : (m + 1) % q = m % q + 1 := by
        have := Nat.div_add_mod (m + 1) q
        rw [hd] at this
        omega
      rcases i with _ | i
      · show va_up z.2 k (z.2 k + 1) k = _
        rw [up_at, Nat.pow_zero, Nat.div_one, hr, h30]
      · rw [up_of _ _ (by omega), h3 (i + 1) hi, Nat.pow_succ', ← Nat.div_div_eq_div_mul, ← Nat.div_div_eq_div_mul, hd]
    · rw [if_neg e]
      have hq1 : m % q = q - 1 := by omega
      have hd : (m + 1) / q = m / q + 1 := by
        rw [Nat.div_eq_iff (by omega)]
        rw [Nat.add_mul]
        have : m / q * q = q * (m / q) := Nat.mul_comm _ _
        omega
      have hr : (m + 1) % q = 0 := by
        have := Nat.div_add_mod (m + 1) q
        rw [hd, Nat.mul_add] at this
        omega
      have hlt : m / q + 1 < q ^ f := by
        rw [← hd]
        rcases Nat.lt_or_ge ((m + 1) / q) (q ^ f) with h | h
        · exact h
        · have h6 := Nat.mul_le_mul_left q h
          rw [← Nat.pow_succ'] at h6
          have h7 := Nat.div_add_mod (m + 1) q
          have h8 : f.succ = f + 1 := rfl
          rw [h8] at h6
          omega
      have hc : cg q ((0 : Nat) : Int) ((z.2 k : Int) + 1) := by
        have : ((z.2 k : Nat) : Int) + 1 = (q : Int) := by omega
        rw [this]
        exact cg_q.symm
      obtain ⟨i1, i2, i3, i4⟩ := adv_odo hq hQ f (k + 1) (fun j => adq q (z.1 j) (QU k j), va_up z.2 k 0) (m / q) (by omega) hlt (fun i hi => by
        dsimp only
        rw [up_of _ _ (by omega), show k + 1 + i = k + (i + 1) by omega, h3 (i + 1) (by omega), Nat.pow_succ', ← Nat.div_div_eq_div_mul]) (fun l hl => adq_lt (h4 l hl) (hQ k hk l hl)) (odo_step h5 hk hc h4 (hQ k hk))
      refine ⟨i1, fun i hi => ?_, fun j hj => by rw [i3 j (by omega)]; dsimp only; rw [up_of _ _ (by omega)], i4⟩
      rcases i with _ | i
      · show (adv q QU f (k + 1) (fun j => adq q (z.1 j) (QU k j), va_up z.2 k 0)).2 k = _
        rw [i3 k (by omega)]
        dsimp only
        rw [up_at, Nat.pow_zero, Nat.div_one, hr]
      · rw [show k + (i + 1) = k + 1 + i by omega, i2 i (by omega), Nat.pow_succ', ← Nat.div_div_eq_div_mul, hd]
theorem srK_cg2 {n : Nat} {t t' l l' u u' : Nat → Nat} {z : Nat} (h1 : ∀ j, j < n → t j = t' j) (h2 : ∀ j, j < n → l j = l' j) : (∀ j, j < n → (srK n t l u z).2.1 j = (srK n t' l' u' z).2.1 j) ∧ (srK n t l u z).2.2.2 = (srK n t' l' u' z).2.2.2 := by
  unfold srK
  rw [sumF_congr n h1, lexL_congr n 0 (fun j _ hj => ⟨h1 j (by omega), h2 j (by omega)⟩)]
  split
  · exact ⟨h1, rfl⟩
  · exact ⟨h2, rfl⟩
theorem srN_fb {n q fr : Nat} {QU : Nat → Nat → Nat} {an : Nat → Nat} (hq : 2 ≤ q) (hQ : ∀ k, k < fr → ∀ l, l < n → QU k l < q) (ha : ∀ l, l < n → an l < q) : ∀ w, w < q ^ fr →
    odo n q fr QU an ((srN n q fr QU an w).1, (srN n q fr QU an w).2.2.1) ∧ (∀ i, i < fr → (srN n q fr QU an w).2.2.1 i = w / q ^ i % q) ∧ (∀ l, l < n → (srN n q fr QU an w).1 l < q) ∧
    (∀ l, l < n → (srN n q fr QU an w).1 l = ttF q QU an w l) ∧ (∀ l, l < n → (srN n q fr QU an w).2.1 l = (fbN n (ttF q QU an) w).1 l) ∧ (srN n q fr QU an w).2.2.2 = (fbN n (ttF q QU an) w).2
  | 0, _ => by
    have hz : ttF q QU an 0 = an := rfl
    simp only [srN, srB, fbN]
    rw [hz]
    refine ⟨fun l hl => ?_, fun i hi => by simp, ha, fun _ _ => rfl, fun _ _ => rfl, rfl⟩
    dsimp only
    rw [iS_congr fr (g := fun _ => 0) (fun i _ => by simp), iS_zero, Int.add_zero]
    exact cg.rfl'
  | w + 1, hw => by
    obtain ⟨i1, i2, i3, i4, i5, i6⟩ := srN_fb hq hQ ha w (by omega)
    obtain ⟨a1, a2, -, al⟩ := adv_odo (an := an) hq hQ fr 0 ((srN n q fr QU an w).1, (srN n q fr QU an w).2.2.1) w (by omega) hw (fun i hi => by dsimp only; rw [Nat.zero_add]; exact i2 i hi) i3 i1
    have e0 : srN n q fr QU an (w + 1) = srK n (adv q QU fr 0 ((srN n q fr QU an w).1, (srN n q fr QU an w).2.2.1)).1 (srN n q fr QU an w).2.1 (adv q QU fr 0 ((srN n q fr QU an w).1, (srN n q fr QU an w).2.2.1)).2 (srN n q fr QU an w).2.2.2 := rfl
    generalize hav : adv q QU fr 0 ((srN n q fr QU an w).1, (srN n q fr QU an w).2.2.1) = av at a1 a2 al e0
    have et : ∀ l, l < n → av.1 l = ttF q QU an (w + 1) l := by
      intro l hl
      refine cg_eq (al l hl) (ttF_lt (by omega) ha (w + 1) l hl) ?_
      refine (a1 l hl).trans ?_
      have := twF_val (l := l) (QU := QU) hq (w + 1) 0 (w + 1) an fr (Nat.le_refl _) hw
      refine cg.trans ?_ this.symm
      refine cg.of ?_
      congr 1
      refine iS_congr fr (fun i hi => ?_)
      have := a2 i hi
      rw [Nat.zero_add] at this ⊢
      rw [this]
    have hk := srK_cg2 (n := n) (t := av.1) (t' := ttF q QU an (w + 1)) (l := (srN n q fr QU an w).2.1) (l' := (fbN n (ttF q QU an) w).1) (u := av.2) (u' := fun _ => 0) (z := (srN n q fr QU an w).2.2.2) et i5
    have s1 : (srN n q fr QU an (w + 1)).1 = av.1 := by rw [e0]; unfold srK; split <;> rfl
    have s2 : (srN n q fr QU an (w + 1)).2.2.1 = av.2 := by rw [e0]; unfold srK; split <;> rfl
    rw [s1, s2]
    refine ⟨a1, fun i hi => by have := a2 i hi; rw [Nat.zero_add] at this; exact this, al, et, ?_, ?_⟩
    · rw [e0]; simp only [fbN]; rw [← i6]; exact hk.1
    · rw [e0]; simp only [fbN]; rw [← i6]; exact hk.2
theorem aut_fn {q : Nat} : ∀ (k a : Nat), a ≤ 20000 → (fnA q k a = none → 20000 < aut q 20000 k a) ∧ ∀ b, fnA q k a = some b → aut q 20000 k a = b ∧ b ≤ 20000
  | 0, a, h => ⟨fun h2 => (by cases h2), fun b h2 => (by cases h2; exact ⟨rfl, h⟩)⟩
  | k + 1, a, h => by
    simp only [fnA, aut]
    rw [if_neg (show ¬ 20000 < a by omega)]
    by_cases e : 20000 < a * q
    · rw [if_pos e]
      refine ⟨fun _ => ?_, fun b h2 => by cases h2⟩
      rcases k with _ | k
      · exact e
      · simp only [aut]
        rw [if_pos e]; exact e
    · rw [if_neg e]
      exact aut_fn k (a * q) (by omega)

theorem nI_or (a b : Nat) : nI a ||| nI b = nI (a ||| b) := by
  apply Int32.toBitVec_inj.mp
  show (Int32.ofNat a ||| Int32.ofNat b).toBitVec = (Int32.ofNat (a ||| b)).toBitVec
  apply BitVec.eq_of_toNat_eq
  simp [Int32.toBitVec_or, Int32.toBitVec_ofNat']
theorem nI_xor (a b : Nat) : nI a ^^^ nI b = nI (a ^^^ b) := by
  apply Int32.toBitVec_inj.mp
  show (Int32.ofNat a ^^^ Int32.ofNat b).toBitVec = (Int32.ofNat (a ^^^ b)).toBitVec
  apply BitVec.eq_of_toNat_eq
  simp [Int32.toBitVec_xor, Int32.toBitVec_ofNat']
theorem nI_shl1 {b : Nat} (hb : b < 31) : nI 1 <<< (nI b &&& 31) = nI (2 ^ b) := by
  have h : 2 ^ b < 2 ^ 31 := Nat.pow_lt_pow_right (by omega) hb
  have := pk_shlN (n := 1) (nI b &&& 31) b (s_l b (by omega)) (by omega)
  rw [Nat.one_mul] at this
  exact this
theorem bit_or {x a i : Nat} : (x ||| 2 ^ a) / 2 ^ i % 2 = if i = a then 1 else x / 2 ^ i % 2 := by
  have h1 : ((x ||| 2 ^ a).testBit i) = (x.testBit i || decide (a = i)) := by rw [Nat.testBit_or, Nat.testBit_two_pow]
  rw [Nat.testBit_eq_decide_div_mod_eq, Nat.testBit_eq_decide_div_mod_eq] at h1
  have h2 := Nat.mod_two_eq_zero_or_one ((x ||| 2 ^ a) / 2 ^ i)
  have h3 := Nat.mod_two_eq_zero_or_one (x / 2 ^ i)
  by_cases e : i = a
  · subst e
    rw [if_pos rfl]
    simp at h1
    exact h1
  · rw [if_neg e]
    simp [Ne.symm e] at h1
    rcases h2 with h2 | h2 <;> rcases h3 with h3 | h3 <;> simp [h2, h3] at h1 ⊢
theorem bit_xor {x a i : Nat} : (x ^^^ 2 ^ a) / 2 ^ i % 2 = if i = a then 1 - x / 2 ^ i % 2 else x / 2 ^ i % 2 := by
  have h1 : ((x ^^^ 2 ^ a).testBit i) = (x.testBit i ^^ decide (a = i)) := by rw [Nat.testBit_xor, Nat.testBit_two_pow]
  rw [Nat.testBit_eq_decide_div_mod_eq, Nat.testBit_eq_decide_div_mod_eq] at h1
  have h2 := Nat.mod_two_eq_zero_or_one ((x ^^^ 2 ^ a) / 2 ^ i)
  have h3 := Nat.mod_two_eq_zero_or_one (x / 2 ^ i)
  by_cases e : i = a
  · subst e
    rw [if_pos rfl]
    rcases h2 with h2 | h2 <;> rcases h3 with h3 | h3 <;> simp [h2, h3] at h1 ⊢
  · rw [if_neg e]
    simp [Ne.symm e] at h1
    rcases h2 with h2 | h2 <;> rcases h3 with h3 | h3 <;> simp [h2, h3] at h1 ⊢
theorem or_lt {x a : Nat} (hx : x < 2 ^ 30) (ha : a < 30) : x ||| 2 ^ a < 2 ^ 30 := Nat.or_lt_two_pow hx (Nat.pow_lt_pow_right (by omega) ha)
theorem xor_lt {x a : Nat} (hx : x < 2 ^ 30) (ha : a < 30) : x ^^^ 2 ^ a < 2 ^ 30 := Nat.xor_lt_two_pow hx (Nat.pow_lt_pow_right (by omega) ha)
/-- how many of the first n lamps differ -/
def apt (f g : Nat → Nat) : Nat → Nat
  | 0 => 0
  | i + 1 => if f i = g i then apt f g i else apt f g i + 1
theorem apt_le (f g : Nat → Nat) : ∀ n, apt f g n ≤ n
  | 0 => Nat.le_refl 0
  | n + 1 => by
    have := apt_le f g n
    simp only [apt]
    split <;> omega
/-- the equations are worked out for the graph tm, the states st and what is wanted -/
def eqS (n q : Nat) (tm st wt : Nat → Nat) (gR gQ : Nat → Nat) (pr : Nat → Nat → Nat) (ro : Nat → Option Nat) (bd fr : Nat) : Prop :=
  ∃ (M : Nat → Nat → Nat) (r0 : Nat → Option Nat), (∀ i, i < n → ∀ j, j < n → M i j = tm j / 2 ^ i % 2) ∧ (∀ i, i < n → M i n = (wt i + q - st i) % q) ∧ (∀ i, i < n → pr (gR i) = (rds n q M r0 n).1 i) ∧ ro = (rds n q M r0 n).2.1 ∧ bd = (rds n q M r0 n).2.2 ∧ fr = cF ro n ∧ ∀ j, j < n → ro j = none → ∀ i, i < n → pr (gQ (cF ro j)) i = qv q (rds n q M r0 n).1 ro j i
theorem eqS.lt {n q : Nat} {tm st wt gR gQ : Nat → Nat} {pr : Nat → Nat → Nat} {ro : Nat → Option Nat} {bd fr : Nat} (h : eqS n q tm st wt gR gQ pr ro bd fr) (hq : 2 ≤ q) : (∀ i, i < n → ∀ j, j < n + 1 → pr (gR i) j < q) ∧ (∀ j, j < n → ∀ r, ro j = some r → r < bd) ∧ bd ≤ n ∧ fr ≤ n := by
  obtain ⟨M, r0, h1, h2, h3, h4, h5, h6, -⟩ := h
  have hM : ∀ i, i < n → ∀ j, j < n + 1 → M i j < q := by
    intro i hi j hj
    by_cases e : j = n
    · subst e; rw [h2 i hi]; exact Nat.mod_lt _ (by omega)
    · rw [h1 i hi j (by omega)]
      have := Nat.mod_lt (tm j / 2 ^ i) (show 0 < 2 by omega)
      omega
  refine ⟨fun i hi j hj => ?_, fun j hj r hr => ?_, ?_, ?_⟩
  · rw [h3 i hi]; exact rds_lt (by omega) hM n (Nat.le_refl n) i hi j hj
  · rw [h4] at hr; rw [h5]; exact rds_ro n j hj r hr
  · rw [h5]; exact rds_bd n
  · rw [h6]; exact cF_le ro n
/-- each QUIET pattern is that of a FREE lamp -/
theorem cF_ex (ro : Nat → Option Nat) : ∀ (n k : Nat), k < cF ro n → ∃ j, j < n ∧ ro j = none ∧ cF ro j = k
  | 0, k, h => absurd h (Nat.not_lt_zero k)
  | n + 1, k, h => by
    rcases hr : ro n with _ | r
    · rw [cF_none hr] at h
      by_cases e : k = cF ro n
      · exact ⟨n, by omega, hr, e.symm⟩
      · obtain ⟨j, h1, h2, h3⟩ := cF_ex ro n k (by omega)
        exact ⟨j, by omega, h2, h3⟩
    · rw [cF_some hr] at h
      obtain ⟨j, h1, h2, h3⟩ := cF_ex ro n k h
      exact ⟨j, by omega, h2, h3⟩
theorem qv_lt {q : Nat} {M : Nat → Nat → Nat} {ro : Nat → Option Nat} {f i : Nat} (hq : 2 ≤ q) : qv q M ro f i < q := by
  unfold qv
  split
  · omega
  · rcases ro i with _ | r
    · dsimp only; omega
    · exact Nat.mod_lt _ (by omega)
theorem eqS.qlt {n q : Nat} {tm st wt gR gQ : Nat → Nat} {pr : Nat → Nat → Nat} {ro : Nat → Option Nat} {bd fr : Nat} (h : eqS n q tm st wt gR gQ pr ro bd fr) (hq : 2 ≤ q) : ∀ k, k < fr → ∀ j, j < n → pr (gQ k) j < q := by
  obtain ⟨M, r0, -, -, -, h4, h5, h6, h7⟩ := h
  intro k hk j hj
  rw [h6] at hk
  obtain ⟨f, e1, e2, e3⟩ := cF_ex ro n k hk
  rw [← e3, h7 f e1 e2 j hj]
  exact qv_lt hq

theorem kK_eq {D : va_G} {cl : List vw_C} {tys : List (ClassId × FieldType)} {U : State} (hK : va_K D cl tys U) {a b : ClassId} {ty : FieldType} (hp : ty = .int ∨ ty = .boolean) (i j : Nat) (hi : tys[i]? = some (a, ty)) (hj : tys[j]? = some (b, ty)) : b = a := by
  have h1 := (hK.2 i _ hi).2
  have h2 := (hK.2 j _ hj).2
  rcases hp with rfl | rfl
  · have h3 : some b = some a := h2.symm.trans h1
    exact Option.some.inj h3
  · have h3 : some b = some a := h2.symm.trans h1
    exact Option.some.inj h3
/-- how many lamps there are -/
def lmp (x : Int32) : Nat := if nI 1 ≤ x then (if x ≤ nI 30 then x.toNatClampNeg else 30) else 1
theorem lmp_lt (x : Int32) : 1 ≤ lmp x ∧ lmp x < 31 := by
  unfold lmp
  split
  · rename_i h1
    split
    · rename_i h2
      have h3 := Int32.le_iff_toInt_le.mp h1
      have h4 := Int32.le_iff_toInt_le.mp h2
      rw [nI_toInt (by omega)] at h3 h4
      have h5 : x.toNatClampNeg = x.toInt.toNat := rfl
      rw [h5]
      omega
    · omega
  · omega
theorem lmp_in {x : Int32} (h1 : nI 1 ≤ x) (h2 : x ≤ nI 30) : x = nI (lmp x) := by
  unfold lmp
  rw [if_pos h1, if_pos h2]
  rcases pk_ix x (n := 31) (by omega) with h | h | ⟨j, hj, rfl⟩
  · have h3 := Int32.le_iff_toInt_le.mp h1
    have h4 := Int32.lt_iff_toInt_lt.mp h
    rw [nI_toInt (by omega)] at h3
    have h5 : (0 : Int32).toInt = 0 := by decide
    omega
  · have h3 := Int32.le_iff_toInt_le.mp h2
    have h4 := Int32.le_iff_toInt_le.mp h
    rw [nI_toInt (by omega)] at h3 h4
    omega
  · rw [nI_clamp (by omega)]
theorem lmp_1 {x : Int32} (h1 : ¬ nI 1 ≤ x) : lmp x = 1 := by
  unfold lmp
  rw [if_neg h1]
theorem lmp_30 {x : Int32} (h1 : nI 1 ≤ x) (h2 : ¬ x ≤ nI 30) : lmp x = 30 := by
  unfold lmp
  rw [if_pos h1, if_neg h2]
theorem nI_nneg {n : Nat} (h : n < 2 ^ 31) : ¬ nI n < 0 := nI_pos h

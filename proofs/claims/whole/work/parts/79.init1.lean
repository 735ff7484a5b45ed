theorem pl_last {X P : va_W} {x : Nat × va_E} : ((X ++ P) ++ [x]).Perm ((X ++ [x]) ++ P) := by
  rw [List.append_assoc, List.append_assoc]
  exact List.Perm.append_left X List.perm_append_comm
theorem lmp_mm (x : Int32) : (if nI 1 < (if x < nI 30 then x else nI 30) then (if x < nI 30 then x else nI 30) else nI 1) = nI (lmp x) := by
  by_cases h1 : nI 1 ≤ x
  · by_cases h2 : x ≤ nI 30
    · have h3 := lmp_in h1 h2
      have h4 := lmp_lt x
      generalize lmp x = j at h3 h4
      subst h3
      by_cases e : j = 30
      · subst e; decide
      · rw [if_pos (nI_lt (by omega) (by omega))]
        by_cases e2 : j = 1
        · subst e2; decide
        · rw [if_pos (nI_lt (by omega) (by omega))]
    · rw [lmp_30 h1 h2]
      have h3 : ¬ x < nI 30 := fun h => h2 (Int32.le_of_lt h)
      rw [if_neg h3]
      decide
  · rw [lmp_1 h1]
    have h3 : x < nI 1 := Int32.not_le.mp h1
    have h4 : x < nI 30 := Int32.lt_trans h3 (by decide)
    rw [if_pos h4, if_neg (fun h => h1 (Int32.le_of_lt h))]

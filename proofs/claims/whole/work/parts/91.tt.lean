/-- what a method that may throw needs holds at the law's entry -/
theorem lc_tt {s : State} {bs : Nat} (hts0 : ∀ w ∈ lw_tbl, w.before #[Value.ref bs] s = true) (hgv : (Jvm.Cond.and given_1 narrow_1).before #[Value.ref bs] s = true) : ∃ str, tt_B s #[Value.ref bs] str s := by
  have hs := flat_of_before _ hgv
  have h1 : tt_r1.before #[Value.ref bs] s = true := hs _ (by decide +kernel)
  have h2 : tt_r2.before #[Value.ref bs] s = true := hs _ (by decide +kernel)
  have h3 : (Cond.exactly (.string "LightRows" 125) "java/lang/String").before #[Value.ref bs] s = true := hs _ (by decide +kernel)
  have h4 : (Cond.stringRef "LightRows" 125 "there is no such lamp").before #[Value.ref bs] s = true := hts0 _ (List.mem_append_right _ (by decide +kernel))
  obtain ⟨a, ha⟩ : ∃ a, (Term.string "LightRows" 125).eval #[Value.ref bs] s none [] s = some (.ref a) := by
    cases hv : (Term.string "LightRows" 125).eval #[Value.ref bs] s none [] s with
    | none => simp [Cond.before, Cond.holds, Cond.value, hv] at h3
    | some v =>
      cases v with
      | ref a => exact ⟨a, rfl⟩
      | null =>
        simp only [Cond.before, Cond.holds, Cond.value, hv] at h3
        cases hf : s.vm.findClass "java/lang/String" <;> simp [hf] at h3
      | _ => simp [Cond.before, Cond.holds, Cond.value, hv] at h3
  refine ⟨a, fun w hw => ?_, vk_R.of h4 ha, State.WarmedH.refl s, Nat.le_refl _, fun _ _ => rfl⟩
  have h5 := List.all_eq_true.mp tt_at_in w hw
  simp only [Bool.or_eq_true, decide_eq_true_eq] at h5
  rcases h5 with (h | h) | h
  · exact hts0 w (List.mem_append_right _ h)
  · rw [h]; exact h1
  · rw [h]; exact h2

set_option maxHeartbeats 4000000 in
set_option maxRecDepth 100000 in
theorem c_L_cell (l : Launch) (dC : Nat → ClassId) (dI : Nat → Nat → Nat) (sz : Nat) (bs LL : Nat) (xs : Nat → Int32) (k : Nat) (hk : k < 2) (hLL : LL ≤ 1538) : Met l yL_cell wsL_cell ({ frames := 0, cells := 0, slots := 0, locals := 0 }) (va_Pc [.ref bs, .int (nI (k))] (fun U => U.heap.size = sz ∧ va_P (dC, dI) vwCl [] U.heap ∧ va_K (dC, dI) vwCl [] U ∧ va_D (fun _ => True) [] ∧ va_X bs LL xs U U.heap ∧ bs < U.heap.size)) (va_Qi (fun (z : Int32) (_ : Unit) => z = if k < LL then xs k else 0) (fun _ t => va_P (dC, dI) vwCl [] t.heap ∧ va_K (dC, dI) vwCl [] t ∧ va_D (va_A [] sz) []) (va_A [] sz)) 0 0 (va_A [] sz) := by
  refine Met.ofW (cc := cL_cell) (maxL := 2) (ret := (some .int)) (by decide) rfl ?_
  intro zp ze s m args below meth zc s₁ B hml hv
  obtain ⟨hargs, hsz, hP, hK, hD0, hX, hbl⟩ := hv
  have hx := B.exec
  have hb := B.bytes
  have hr := B.returns
  have hts := atoms_spec (ws := wsL_cell) B.pre
  have hown : s.vm.findClass RL = some m.cls := findClass_of_methodNamed B.named
  have hlocks := B.notSynchronized
  subst hsz
  obtain ⟨Q, hQ⟩ : ∃ Q, Q = MQ below (va_Qi (fun (z : Int32) (_ : Unit) => z = if k < LL then xs k else 0) (fun _ t => va_P (dC, dI) vwCl [] t.heap ∧ va_K (dC, dI) vwCl [] t ∧ va_D (va_A [] s.heap.size) []) (va_A [] s.heap.size)) args s 0 0 (va_A [] s.heap.size) := ⟨_, rfl⟩
  rw [← hQ]
  have hD := hD0.self (sz := s.heap.size)
  generalize hAe : (va_A [] s.heap.size) = A at hD hQ
  have hA : ∀ q : Nat, s.heap.size ≤ q → A q := fun q h => by rw [← hAe]; exact Or.inr h
  have hS : va_S A s.heap s.heap [] := va_S.rf
  have hl := lv_entry ([.ref bs, .int (nI (k))]) (n := 2) (Nat.le_of_ble_eq_true rfl)
  generalize hen : entryFrame m args 2 = fr
  rw [hargs, lg_entry_eq] at hen
  subst hen
  generalize (lg_sl ([.ref bs, .int (nI (k))]) ++ List.replicate (2 - (lg_sl ([.ref bs, .int (nI (k))])).length) Slot.unset).toArray = ls at hl ⊢
  have hl : lv_has ls 2 [(0, .ref bs), (1, .int (nI (k)))] := hl
  have hbA : ¬ A bs := by
    rw [← hAe]
    rintro (⟨k, e, h⟩ | h)
    · simp at h
    · omega
  refine lv_iload_n hx hb dL_cell_0 rfl (lv_at hl 1 rfl) ?_
  refine lv_aload_n hx hb dL_cell_1 rfl (lv_at hl 0 rfl) ?_
  refine va_slen hx hb hX hbl hbA hS dL_cell_2 ?_
  refine tp_i (y := nI LL) rfl ?_
  refine lv_icmp_ge (tgt := 12) hx hb dL_cell_3 (by decide) (fun c => ?_) (fun c => ?_)
  · skip
    have c : LL ≤ k := (nI_leI (a := LL) (b := k) (by omega) (by omega)).mp c
    refine lv_iconst (v := nI 0) hx hb dL_cell_12 (by decide) ?_
    rw [hQ]
    exact W.iret (v := nI (0)) hx hb hr (fun t ht hW => ⟨⟨_, (), rfl, by rw [if_neg (by omega)]; exact nI_0, by rw [ht]; exact hP, va_K.moved hW.alike hK, hD⟩, hS.F ht⟩) hS.2.2 dL_cell_13
  · skip
    have c : k < LL := Nat.not_le.mp (fun h => c ((nI_leI (a := LL) (b := k) (by omega) (by omega)).mpr h))
    refine lv_aload_n hx hb dL_cell_6 rfl (lv_at hl 0 rfl) ?_
    refine lv_iload_n hx hb dL_cell_7 rfl (lv_at hl 1 rfl) ?_
    refine va_sld hx hb hX hbl hbA hS (i := nI k) (vp_in_nI (by omega) (by omega)) dL_cell_8 ?_
    refine tp_i (y := xs k) (by rw [nI_clamp (by omega)]) ?_
    refine lv_goto (tgt := 13) hx hb dL_cell_9 (by decide) ?_
    rw [hQ]
    exact W.iret (v := xs k) hx hb hr (fun t ht hW => ⟨⟨_, (), rfl, by rw [if_pos c], by rw [ht]; exact hP, va_K.moved hW.alike hK, hD⟩, hS.F ht⟩) hS.2.2 dL_cell_13

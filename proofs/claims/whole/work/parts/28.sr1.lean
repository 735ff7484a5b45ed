set_option maxHeartbeats 4000000 in
set_option maxRecDepth 100000 in
theorem c_X2_leastTotal (l : Launch) (dC : Nat → ClassId) (dI : Nat → Nat → Nat) (sz : Nat) (g0 : Nat) (r : Int32) (v0 v1 v2 v3 v4 : Value)  : Met l yX2_leastTotal wsX2_leastTotal ({ frames := 0, cells := 0, slots := 0, locals := 0 }) (va_Pc [.ref g0] (fun U => U.heap.size = sz ∧ va_P (dC, dI) vwCl [(g0, .inr (3, [v0, v1, v2, v3, v4, .int (r)]))] U.heap ∧ va_K (dC, dI) vwCl [] U ∧ va_D (fun _ => True) [(g0, .inr (3, [v0, v1, v2, v3, v4, .int (r)]))])) (va_Qi (fun (z : Int32) (_ : Unit) => z = r) (fun _ t => va_P (dC, dI) vwCl [(g0, .inr (3, [v0, v1, v2, v3, v4, .int (r)]))] t.heap ∧ va_K (dC, dI) vwCl [] t ∧ va_D (va_A [(g0, .inr (3, [v0, v1, v2, v3, v4, .int (r)]))] sz) [(g0, .inr (3, [v0, v1, v2, v3, v4, .int (r)]))]) (va_A [(g0, .inr (3, [v0, v1, v2, v3, v4, .int (r)]))] sz)) 0 0 (va_A [(g0, .inr (3, [v0, v1, v2, v3, v4, .int (r)]))] sz) := by
  refine Met.ofW (cc := cX2_leastTotal) (maxL := 1) (ret := (some .int)) (by decide) rfl ?_
  intro zp ze s m args below meth zc s₁ B hml hv
  obtain ⟨hargs, hsz, hP, hK, hD0⟩ := hv
  have hx := B.exec
  have hb := B.bytes
  have hr := B.returns
  have hts := atoms_spec (ws := wsX2_leastTotal) B.pre
  have hown : s.vm.findClass RX2 = some m.cls := findClass_of_methodNamed B.named
  have hlocks := B.notSynchronized
  subst hsz
  obtain ⟨Q, hQ⟩ : ∃ Q, Q = MQ below (va_Qi (fun (z : Int32) (_ : Unit) => z = r) (fun _ t => va_P (dC, dI) vwCl [(g0, .inr (3, [v0, v1, v2, v3, v4, .int (r)]))] t.heap ∧ va_K (dC, dI) vwCl [] t ∧ va_D (va_A [(g0, .inr (3, [v0, v1, v2, v3, v4, .int (r)]))] s.heap.size) [(g0, .inr (3, [v0, v1, v2, v3, v4, .int (r)]))]) (va_A [(g0, .inr (3, [v0, v1, v2, v3, v4, .int (r)]))] s.heap.size)) args s 0 0 (va_A [(g0, .inr (3, [v0, v1, v2, v3, v4, .int (r)]))] s.heap.size) := ⟨_, rfl⟩
  rw [← hQ]
  have hD := hD0.self (sz := s.heap.size)
  generalize hAe : (va_A [(g0, .inr (3, [v0, v1, v2, v3, v4, .int (r)]))] s.heap.size) = A at hD hQ
  have hA : ∀ q : Nat, s.heap.size ≤ q → A q := fun q h => by rw [← hAe]; exact Or.inr h
  have hS : va_S A s.heap s.heap [] := va_S.rf
  have hl := lv_entry ([.ref g0]) (n := 1) (Nat.le_of_ble_eq_true rfl)
  generalize hen : entryFrame m args 1 = fr
  rw [hargs, lg_entry_eq] at hen
  subst hen
  generalize (lg_sl ([.ref g0]) ++ List.replicate (1 - (lg_sl ([.ref g0])).length) Slot.unset).toArray = ls at hl ⊢
  have hl : lv_has ls 1 [(0, .ref g0)] := hl
  have hinX2 : ∀ w ∈ wsX20, w ∈ wsX2_leastTotal := by decide +kernel
  have hf28 := hts (.fieldLink RX2 28 "LightRows$Search" "total" "I") (by decide +kernel)
  refine lv_aload_n hx hb dX2_leastTotal_0 rfl (lv_at hl 0 rfl) ?_
  refine va_get (D := (dC, dI)) (ci := 3) (v := .int (r)) (C := RX2) (T := TX2) (N := 6) hx hb hts hinX2 hown hK hP 0 rfl rfl 5 (by decide) hf28 (fun _ h9 => h9) rfl dX2_leastTotal_1 ?_
  rw [hQ]
  exact W.iret (v := r) hx hb hr (fun t ht hW => ⟨⟨_, (), rfl, rfl, by rw [ht]; exact hP, va_K.moved hW.alike hK, hD⟩, hS.F ht⟩) hS.2.2 dX2_leastTotal_4

set_option maxHeartbeats 4000000 in
set_option maxRecDepth 100000 in
theorem c_X2_leastPresses (l : Launch) (dC : Nat → ClassId) (dI : Nat → Nat → Nat) (sz : Nat) (g0 c1 c2 c3 n q j0 : Nat) (tot : Int32) (le : Nat → Nat) (cI : ClassId) (hn : n < 1000) (hj0 : j0 < n) : Met l yX2_leastPresses wsX2_leastPresses ({ frames := 0, cells := 0, slots := 0, locals := 0 }) (va_Pc [.ref g0, .int (nI (j0))] (fun U => U.heap.size = sz ∧ va_P (dC, dI) vwCl [(g0, .inr (3, [.int (nI (n)), .int (nI (q)), .ref c1, .ref c2, .ref c3, .int (tot)])), (c2, .inl (cI, n, .inl (fun j => nI (le j))))] U.heap ∧ va_K (dC, dI) vwCl [(cI, .int)] U ∧ va_D (fun _ => True) [(g0, .inr (3, [.int (nI (n)), .int (nI (q)), .ref c1, .ref c2, .ref c3, .int (tot)])), (c2, .inl (cI, n, .inl (fun j => nI (le j))))])) (va_Qi (fun (z : Int32) (_ : Unit) => z = nI (le j0)) (fun _ t => va_P (dC, dI) vwCl [(g0, .inr (3, [.int (nI (n)), .int (nI (q)), .ref c1, .ref c2, .ref c3, .int (tot)])), (c2, .inl (cI, n, .inl (fun j => nI (le j))))] t.heap ∧ va_K (dC, dI) vwCl [(cI, .int)] t ∧ va_D (va_A [(g0, .inr (3, [.int (nI (n)), .int (nI (q)), .ref c1, .ref c2, .ref c3, .int (tot)])), (c2, .inl (cI, n, .inl (fun j => nI (le j))))] sz) [(g0, .inr (3, [.int (nI (n)), .int (nI (q)), .ref c1, .ref c2, .ref c3, .int (tot)])), (c2, .inl (cI, n, .inl (fun j => nI (le j))))]) (va_A [(g0, .inr (3, [.int (nI (n)), .int (nI (q)), .ref c1, .ref c2, .ref c3, .int (tot)])), (c2, .inl (cI, n, .inl (fun j => nI (le j))))] sz)) 0 0 (va_A [(g0, .inr (3, [.int (nI (n)), .int (nI (q)), .ref c1, .ref c2, .ref c3, .int (tot)])), (c2, .inl (cI, n, .inl (fun j => nI (le j))))] sz) := by
  refine Met.ofW (cc := cX2_leastPresses) (maxL := 2) (ret := (some .int)) (by decide) rfl ?_
  intro zp ze s m args below meth zc s₁ B hml hv
  obtain ⟨hargs, hsz, hP, hK, hD0⟩ := hv
  have hx := B.exec
  have hb := B.bytes
  have hr := B.returns
  have hts := atoms_spec (ws := wsX2_leastPresses) B.pre
  have hown : s.vm.findClass RX2 = some m.cls := findClass_of_methodNamed B.named
  have hlocks := B.notSynchronized
  subst hsz
  obtain ⟨Q, hQ⟩ : ∃ Q, Q = MQ below (va_Qi (fun (z : Int32) (_ : Unit) => z = nI (le j0)) (fun _ t => va_P (dC, dI) vwCl [(g0, .inr (3, [.int (nI (n)), .int (nI (q)), .ref c1, .ref c2, .ref c3, .int (tot)])), (c2, .inl (cI, n, .inl (fun j => nI (le j))))] t.heap ∧ va_K (dC, dI) vwCl [(cI, .int)] t ∧ va_D (va_A [(g0, .inr (3, [.int (nI (n)), .int (nI (q)), .ref c1, .ref c2, .ref c3, .int (tot)])), (c2, .inl (cI, n, .inl (fun j => nI (le j))))] s.heap.size) [(g0, .inr (3, [.int (nI (n)), .int (nI (q)), .ref c1, .ref c2, .ref c3, .int (tot)])), (c2, .inl (cI, n, .inl (fun j => nI (le j))))]) (va_A [(g0, .inr (3, [.int (nI (n)), .int (nI (q)), .ref c1, .ref c2, .ref c3, .int (tot)])), (c2, .inl (cI, n, .inl (fun j => nI (le j))))] s.heap.size)) args s 0 0 (va_A [(g0, .inr (3, [.int (nI (n)), .int (nI (q)), .ref c1, .ref c2, .ref c3, .int (tot)])), (c2, .inl (cI, n, .inl (fun j => nI (le j))))] s.heap.size) := ⟨_, rfl⟩
  rw [← hQ]
  have hD := hD0.self (sz := s.heap.size)
  generalize hAe : (va_A [(g0, .inr (3, [.int (nI (n)), .int (nI (q)), .ref c1, .ref c2, .ref c3, .int (tot)])), (c2, .inl (cI, n, .inl (fun j => nI (le j))))] s.heap.size) = A at hD hQ
  have hA : ∀ q : Nat, s.heap.size ≤ q → A q := fun q h => by rw [← hAe]; exact Or.inr h
  have hS : va_S A s.heap s.heap [] := va_S.rf
  have hl := lv_entry ([.ref g0, .int (nI (j0))]) (n := 2) (Nat.le_of_ble_eq_true rfl)
  generalize hen : entryFrame m args 2 = fr
  rw [hargs, lg_entry_eq] at hen
  subst hen
  generalize (lg_sl ([.ref g0, .int (nI (j0))]) ++ List.replicate (2 - (lg_sl ([.ref g0, .int (nI (j0))])).length) Slot.unset).toArray = ls at hl ⊢
  have hl : lv_has ls 2 [(0, .ref g0), (1, .int (nI (j0)))] := hl
  have hinX2 : ∀ w ∈ wsX20, w ∈ wsX2_leastPresses := by decide +kernel
  have hf22 := hts (.fieldLink RX2 22 "LightRows$Search" "least" "[I") (by decide +kernel)
  refine lv_aload_n hx hb dX2_leastPresses_0 rfl (lv_at hl 0 rfl) ?_
  refine va_get (D := (dC, dI)) (ci := 3) (v := .ref c2) (C := RX2) (T := TX2) (N := 6) hx hb hts hinX2 hown hK hP 0 rfl rfl 3 (by decide) hf22 (fun _ h9 => h9) rfl dX2_leastPresses_1 ?_
  refine lv_iload_n hx hb dX2_leastPresses_4 rfl (lv_at hl 1 rfl) ?_
  refine ra_ld (g := nI) (F := le) hx hb hK hP 1 0 rfl rfl (by omega) (by omega) dX2_leastPresses_5 ?_
  rw [hQ]
  exact W.iret (v := nI (le j0)) hx hb hr (fun t ht hW => ⟨⟨_, (), rfl, rfl, by rw [ht]; exact hP, va_K.moved hW.alike hK, hD⟩, hS.F ht⟩) hS.2.2 dX2_leastPresses_6

set_option maxHeartbeats 4000000 in
set_option maxRecDepth 100000 in
theorem c_X2_totalTried (l : Launch) (dC : Nat → ClassId) (dI : Nat → Nat → Nat) (sz : Nat) (g0 c1 c2 c3 n q : Nat) (tot : Int32) (tr : Nat → Nat) (cI : ClassId) (hn : n < 1000) : Met l yX2_totalTried wsX2_totalTried ({ frames := 0, cells := 0, slots := 0, locals := 0 }) (va_Pc [.ref g0] (fun U => U.heap.size = sz ∧ va_P (dC, dI) vwCl [(g0, .inr (3, [.int (nI (n)), .int (nI (q)), .ref c1, .ref c2, .ref c3, .int (tot)])), (c1, .inl (cI, n, .inl (fun j => nI (tr j))))] U.heap ∧ va_K (dC, dI) vwCl [(cI, .int)] U ∧ va_D (fun _ => True) [(g0, .inr (3, [.int (nI (n)), .int (nI (q)), .ref c1, .ref c2, .ref c3, .int (tot)])), (c1, .inl (cI, n, .inl (fun j => nI (tr j))))])) (va_Qi (fun (z : Int32) (_ : Unit) => z = nI (sumF tr n)) (fun _ t => va_P (dC, dI) vwCl [(g0, .inr (3, [.int (nI (n)), .int (nI (q)), .ref c1, .ref c2, .ref c3, .int (tot)])), (c1, .inl (cI, n, .inl (fun j => nI (tr j))))] t.heap ∧ va_K (dC, dI) vwCl [(cI, .int)] t ∧ va_D (va_A [(g0, .inr (3, [.int (nI (n)), .int (nI (q)), .ref c1, .ref c2, .ref c3, .int (tot)])), (c1, .inl (cI, n, .inl (fun j => nI (tr j))))] sz) [(g0, .inr (3, [.int (nI (n)), .int (nI (q)), .ref c1, .ref c2, .ref c3, .int (tot)])), (c1, .inl (cI, n, .inl (fun j => nI (tr j))))]) (va_A [(g0, .inr (3, [.int (nI (n)), .int (nI (q)), .ref c1, .ref c2, .ref c3, .int (tot)])), (c1, .inl (cI, n, .inl (fun j => nI (tr j))))] sz)) 0 0 (va_A [(g0, .inr (3, [.int (nI (n)), .int (nI (q)), .ref c1, .ref c2, .ref c3, .int (tot)])), (c1, .inl (cI, n, .inl (fun j => nI (tr j))))] sz) := by
  refine Met.ofW (cc := cX2_totalTried) (maxL := 3) (ret := (some .int)) (by decide) rfl ?_
  intro zp ze s m args below meth zc s₁ B hml hv
  obtain ⟨hargs, hsz, hP, hK, hD0⟩ := hv
  have hx := B.exec
  have hb := B.bytes
  have hr := B.returns
  have hts := atoms_spec (ws := wsX2_totalTried) B.pre
  have hown : s.vm.findClass RX2 = some m.cls := findClass_of_methodNamed B.named
  have hlocks := B.notSynchronized
  subst hsz
  obtain ⟨Q, hQ⟩ : ∃ Q, Q = MQ below (va_Qi (fun (z : Int32) (_ : Unit) => z = nI (sumF tr n)) (fun _ t => va_P (dC, dI) vwCl [(g0, .inr (3, [.int (nI (n)), .int (nI (q)), .ref c1, .ref c2, .ref c3, .int (tot)])), (c1, .inl (cI, n, .inl (fun j => nI (tr j))))] t.heap ∧ va_K (dC, dI) vwCl [(cI, .int)] t ∧ va_D (va_A [(g0, .inr (3, [.int (nI (n)), .int (nI (q)), .ref c1, .ref c2, .ref c3, .int (tot)])), (c1, .inl (cI, n, .inl (fun j => nI (tr j))))] s.heap.size) [(g0, .inr (3, [.int (nI (n)), .int (nI (q)), .ref c1, .ref c2, .ref c3, .int (tot)])), (c1, .inl (cI, n, .inl (fun j => nI (tr j))))]) (va_A [(g0, .inr (3, [.int (nI (n)), .int (nI (q)), .ref c1, .ref c2, .ref c3, .int (tot)])), (c1, .inl (cI, n, .inl (fun j => nI (tr j))))] s.heap.size)) args s 0 0 (va_A [(g0, .inr (3, [.int (nI (n)), .int (nI (q)), .ref c1, .ref c2, .ref c3, .int (tot)])), (c1, .inl (cI, n, .inl (fun j => nI (tr j))))] s.heap.size) := ⟨_, rfl⟩
  rw [← hQ]
  have hD := hD0.self (sz := s.heap.size)
  generalize hAe : (va_A [(g0, .inr (3, [.int (nI (n)), .int (nI (q)), .ref c1, .ref c2, .ref c3, .int (tot)])), (c1, .inl (cI, n, .inl (fun j => nI (tr j))))] s.heap.size) = A at hD hQ
  have hA : ∀ q : Nat, s.heap.size ≤ q → A q := fun q h => by rw [← hAe]; exact Or.inr h
  have hS : va_S A s.heap s.heap [] := va_S.rf
  have hl := lv_entry ([.ref g0]) (n := 3) (Nat.le_of_ble_eq_true rfl)
  generalize hen : entryFrame m args 3 = fr
  rw [hargs, lg_entry_eq] at hen
  subst hen
  generalize (lg_sl ([.ref g0]) ++ List.replicate (3 - (lg_sl ([.ref g0])).length) Slot.unset).toArray = ls at hl ⊢
  have hl : lv_has ls 3 [(0, .ref g0)] := hl
  have hinX2 : ∀ w ∈ wsX20, w ∈ wsX2_totalTried := by decide +kernel
  have hf9 := hts (.fieldLink RX2 9 "LightRows$Search" "size" "I") (by decide +kernel)
  have hf18 := hts (.fieldLink RX2 18 "LightRows$Search" "tried" "[I") (by decide +kernel)
  refine lv_iconst (v := nI 0) hx hb dX2_totalTried_0 (by decide) ?_
  refine lv_istore_n (lv' := [(1, .int (nI (0))), (0, .ref g0)]) hx hb dX2_totalTried_1 rfl hl (by decide) rfl (fun ls hl => ?_)
  refine lv_iconst (v := nI 0) hx hb dX2_totalTried_2 (by decide) ?_
  refine lv_istore_n (lv' := [(2, .int (nI (0))), (1, .int (nI (0))), (0, .ref g0)]) hx hb dX2_totalTried_3 rfl hl (by decide) rfl (fun ls hl => ?_)
  have lp : ∀ (k : Nat) (i : Nat), (i + k = n) → ∀ (H : Heap) (locs : List Loc), va_P (dC, dI) vwCl [(g0, .inr (3, [.int (nI (n)), .int (nI (q)), .ref c1, .ref c2, .ref c3, .int (tot)])), (c1, .inl (cI, n, .inl (fun j => nI (tr j))))] H → va_D A [(g0, .inr (3, [.int (nI (n)), .int (nI (q)), .ref c1, .ref c2, .ref c3, .int (tot)])), (c1, .inl (cI, n, .inl (fun j => nI (tr j))))] → va_S A s.heap H locs → ∀ (ls : Array Slot), lv_has ls 3 [(0, .ref g0), (1, .int (nI (sumF tr i))), (2, .int (nI (i)))] → W zp l ze (headSpec wsX2_totalTried ({ frames := 0, cells := 0, slots := 0, locals := 0 })).room s m args below meth zc H locs 0 0 Q (F0 m 4 ls []) := by
    intro k
    induction k with
    | zero =>
      intro i hi H locs hP hD hS ls hl
      refine lv_iload_n hx hb dX2_totalTried_4 rfl (lv_at hl 2 rfl) ?_
      refine lv_aload_n hx hb dX2_totalTried_5 rfl (lv_at hl 0 rfl) ?_
      refine va_get (D := (dC, dI)) (ci := 3) (v := .int (nI (n))) (C := RX2) (T := TX2) (N := 6) hx hb hts hinX2 hown hK hP 0 rfl rfl 0 (by decide) hf9 (fun _ h9 => h9) rfl dX2_totalTried_6 ?_
      refine lv_icmp_ge (tgt := 27) hx hb dX2_totalTried_9 (by decide) (fun c => ?_) (fun c => ?_)
      · skip
        have c : n ≤ i := (nI_leI (a := n) (b := i) (by omega) (by omega)).mp c
        obtain rfl : n = i := by omega
        refine lv_iload_n hx hb dX2_totalTried_27 rfl (lv_at hl 1 rfl) ?_
        rw [hQ]
        exact W.iret (v := nI (sumF tr n)) hx hb hr (fun t ht hW => ⟨⟨_, (), rfl, rfl, by rw [ht]; exact hP, va_K.moved hW.alike hK, hD⟩, hS.F ht⟩) hS.2.2 dX2_totalTried_28
      · skip
        have c : i < n := Nat.not_le.mp (fun h => c ((nI_leI (a := n) (b := i) (by omega) (by omega)).mpr h))
        exact absurd c (by omega)
    | succ k ih =>
      intro i hi H locs hP hD hS ls hl
      refine lv_iload_n hx hb dX2_totalTried_4 rfl (lv_at hl 2 rfl) ?_
      refine lv_aload_n hx hb dX2_totalTried_5 rfl (lv_at hl 0 rfl) ?_
      refine va_get (D := (dC, dI)) (ci := 3) (v := .int (nI (n))) (C := RX2) (T := TX2) (N := 6) hx hb hts hinX2 hown hK hP 0 rfl rfl 0 (by decide) hf9 (fun _ h9 => h9) rfl dX2_totalTried_6 ?_
      refine lv_icmp_ge (tgt := 27) hx hb dX2_totalTried_9 (by decide) (fun c => ?_) (fun c => ?_)
      · skip
        have c : n ≤ i := (nI_leI (a := n) (b := i) (by omega) (by omega)).mp c
        exact absurd c (by omega)
      · skip
        have c : i < n := Nat.not_le.mp (fun h => c ((nI_leI (a := n) (b := i) (by omega) (by omega)).mpr h))
        refine lv_iload_n hx hb dX2_totalTried_12 rfl (lv_at hl 1 rfl) ?_
        refine lv_aload_n hx hb dX2_totalTried_13 rfl (lv_at hl 0 rfl) ?_
        refine va_get (D := (dC, dI)) (ci := 3) (v := .ref c1) (C := RX2) (T := TX2) (N := 6) hx hb hts hinX2 hown hK hP 0 rfl rfl 2 (by decide) hf18 (fun _ h9 => h9) rfl dX2_totalTried_14 ?_
        refine lv_iload_n hx hb dX2_totalTried_17 rfl (lv_at hl 2 rfl) ?_
        refine ra_ld (g := nI) (F := tr) hx hb hK hP 1 0 rfl rfl (by omega) (by omega) dX2_totalTried_18 ?_
        refine lv_iadd hx hb dX2_totalTried_19 ?_
        refine tp_i (y := nI ((sumF tr i) + (tr i))) (nI_add _ _) ?_
        refine tp_i (y := nI (sumF tr (i + 1))) (rfl) ?_
        refine lv_istore_n (lv' := [(1, .int (nI (sumF tr (i + 1)))), (0, .ref g0), (2, .int (nI (i)))]) hx hb dX2_totalTried_20 rfl hl (by decide) rfl (fun ls hl => ?_)
        refine lv_iinc (v := nI (i + 1)) (lv' := [(2, .int (nI (i + 1))), (1, .int (nI (sumF tr (i + 1)))), (0, .ref g0)]) hx hb dX2_totalTried_21 hl (k := 2) rfl (nI_1 _) (by decide) rfl (fun ls hl => ?_)
        refine lv_goto (tgt := 4) hx hb dX2_totalTried_24 (by decide) ?_
        exact ih (i + 1) (by omega) _ _ hP hD hS ls (lv_sub hl [2, 1, 0] rfl)
  exact lp n 0 (by omega) _ _ hP hD hS ls (lv_sub hl [2, 1, 0] rfl)

set_option maxHeartbeats 4000000 in
set_option maxRecDepth 100000 in
theorem c_X2_triedIsAhead (l : Launch) (dC : Nat → ClassId) (dI : Nat → Nat → Nat) (sz : Nat) (g0 c1 c2 c3 n q : Nat) (tot : Int32) (tr le : Nat → Nat) (cI : ClassId) (hn : n < 1000) (h1 : ∀ j, j < n → tr j < 100) (h2 : ∀ j, j < n → le j < 100) : Met l yX2_triedIsAhead wsX2_triedIsAhead ({ frames := 0, cells := 0, slots := 0, locals := 0 }) (va_Pc [.ref g0] (fun U => U.heap.size = sz ∧ va_P (dC, dI) vwCl [(g0, .inr (3, [.int (nI (n)), .int (nI (q)), .ref c1, .ref c2, .ref c3, .int (tot)])), (c1, .inl (cI, n, .inl (fun j => nI (tr j)))), (c2, .inl (cI, n, .inl (fun j => nI (le j))))] U.heap ∧ va_K (dC, dI) vwCl [(cI, .int)] U ∧ va_D (fun _ => True) [(g0, .inr (3, [.int (nI (n)), .int (nI (q)), .ref c1, .ref c2, .ref c3, .int (tot)])), (c1, .inl (cI, n, .inl (fun j => nI (tr j)))), (c2, .inl (cI, n, .inl (fun j => nI (le j))))])) (va_Qi (fun (z : Int32) (_ : Unit) => z = bI (lexL tr le n 0)) (fun _ t => va_P (dC, dI) vwCl [(g0, .inr (3, [.int (nI (n)), .int (nI (q)), .ref c1, .ref c2, .ref c3, .int (tot)])), (c1, .inl (cI, n, .inl (fun j => nI (tr j)))), (c2, .inl (cI, n, .inl (fun j => nI (le j))))] t.heap ∧ va_K (dC, dI) vwCl [(cI, .int)] t ∧ va_D (va_A [(g0, .inr (3, [.int (nI (n)), .int (nI (q)), .ref c1, .ref c2, .ref c3, .int (tot)])), (c1, .inl (cI, n, .inl (fun j => nI (tr j)))), (c2, .inl (cI, n, .inl (fun j => nI (le j))))] sz) [(g0, .inr (3, [.int (nI (n)), .int (nI (q)), .ref c1, .ref c2, .ref c3, .int (tot)])), (c1, .inl (cI, n, .inl (fun j => nI (tr j)))), (c2, .inl (cI, n, .inl (fun j => nI (le j))))]) (va_A [(g0, .inr (3, [.int (nI (n)), .int (nI (q)), .ref c1, .ref c2, .ref c3, .int (tot)])), (c1, .inl (cI, n, .inl (fun j => nI (tr j)))), (c2, .inl (cI, n, .inl (fun j => nI (le j))))] sz)) 0 0 (va_A [(g0, .inr (3, [.int (nI (n)), .int (nI (q)), .ref c1, .ref c2, .ref c3, .int (tot)])), (c1, .inl (cI, n, .inl (fun j => nI (tr j)))), (c2, .inl (cI, n, .inl (fun j => nI (le j))))] sz) := by
  refine Met.ofW (cc := cX2_triedIsAhead) (maxL := 2) (ret := (some .boolean)) (by decide) rfl ?_
  intro zp ze s m args below meth zc s₁ B hml hv
  obtain ⟨hargs, hsz, hP, hK, hD0⟩ := hv
  have hx := B.exec
  have hb := B.bytes
  have hr := B.returns
  have hts := atoms_spec (ws := wsX2_triedIsAhead) B.pre
  have hown : s.vm.findClass RX2 = some m.cls := findClass_of_methodNamed B.named
  have hlocks := B.notSynchronized
  subst hsz
  obtain ⟨Q, hQ⟩ : ∃ Q, Q = MQ below (va_Qi (fun (z : Int32) (_ : Unit) => z = bI (lexL tr le n 0)) (fun _ t => va_P (dC, dI) vwCl [(g0, .inr (3, [.int (nI (n)), .int (nI (q)), .ref c1, .ref c2, .ref c3, .int (tot)])), (c1, .inl (cI, n, .inl (fun j => nI (tr j)))), (c2, .inl (cI, n, .inl (fun j => nI (le j))))] t.heap ∧ va_K (dC, dI) vwCl [(cI, .int)] t ∧ va_D (va_A [(g0, .inr (3, [.int (nI (n)), .int (nI (q)), .ref c1, .ref c2, .ref c3, .int (tot)])), (c1, .inl (cI, n, .inl (fun j => nI (tr j)))), (c2, .inl (cI, n, .inl (fun j => nI (le j))))] s.heap.size) [(g0, .inr (3, [.int (nI (n)), .int (nI (q)), .ref c1, .ref c2, .ref c3, .int (tot)])), (c1, .inl (cI, n, .inl (fun j => nI (tr j)))), (c2, .inl (cI, n, .inl (fun j => nI (le j))))]) (va_A [(g0, .inr (3, [.int (nI (n)), .int (nI (q)), .ref c1, .ref c2, .ref c3, .int (tot)])), (c1, .inl (cI, n, .inl (fun j => nI (tr j)))), (c2, .inl (cI, n, .inl (fun j => nI (le j))))] s.heap.size)) args s 0 0 (va_A [(g0, .inr (3, [.int (nI (n)), .int (nI (q)), .ref c1, .ref c2, .ref c3, .int (tot)])), (c1, .inl (cI, n, .inl (fun j => nI (tr j)))), (c2, .inl (cI, n, .inl (fun j => nI (le j))))] s.heap.size) := ⟨_, rfl⟩
  rw [← hQ]
  have hD := hD0.self (sz := s.heap.size)
  generalize hAe : (va_A [(g0, .inr (3, [.int (nI (n)), .int (nI (q)), .ref c1, .ref c2, .ref c3, .int (tot)])), (c1, .inl (cI, n, .inl (fun j => nI (tr j)))), (c2, .inl (cI, n, .inl (fun j => nI (le j))))] s.heap.size) = A at hD hQ
  have hA : ∀ q : Nat, s.heap.size ≤ q → A q := fun q h => by rw [← hAe]; exact Or.inr h
  have hS : va_S A s.heap s.heap [] := va_S.rf
  have hl := lv_entry ([.ref g0]) (n := 2) (Nat.le_of_ble_eq_true rfl)
  generalize hen : entryFrame m args 2 = fr
  rw [hargs, lg_entry_eq] at hen
  subst hen
  generalize (lg_sl ([.ref g0]) ++ List.replicate (2 - (lg_sl ([.ref g0])).length) Slot.unset).toArray = ls at hl ⊢
  have hl : lv_has ls 2 [(0, .ref g0)] := hl
  have hinX2 : ∀ w ∈ wsX20, w ∈ wsX2_triedIsAhead := by decide +kernel
  have hf9 := hts (.fieldLink RX2 9 "LightRows$Search" "size" "I") (by decide +kernel)
  have hf18 := hts (.fieldLink RX2 18 "LightRows$Search" "tried" "[I") (by decide +kernel)
  have hf22 := hts (.fieldLink RX2 22 "LightRows$Search" "least" "[I") (by decide +kernel)
  refine lv_iconst (v := nI 0) hx hb dX2_triedIsAhead_0 (by decide) ?_
  refine lv_istore_n (lv' := [(1, .int (nI (0))), (0, .ref g0)]) hx hb dX2_triedIsAhead_1 rfl hl (by decide) rfl (fun ls hl => ?_)
  have lp : ∀ (k : Nat) (i : Nat), (i + k = n) → (lexL tr le n 0 = lexL tr le k i) → ∀ (H : Heap) (locs : List Loc), va_P (dC, dI) vwCl [(g0, .inr (3, [.int (nI (n)), .int (nI (q)), .ref c1, .ref c2, .ref c3, .int (tot)])), (c1, .inl (cI, n, .inl (fun j => nI (tr j)))), (c2, .inl (cI, n, .inl (fun j => nI (le j))))] H → va_D A [(g0, .inr (3, [.int (nI (n)), .int (nI (q)), .ref c1, .ref c2, .ref c3, .int (tot)])), (c1, .inl (cI, n, .inl (fun j => nI (tr j)))), (c2, .inl (cI, n, .inl (fun j => nI (le j))))] → va_S A s.heap H locs → ∀ (ls : Array Slot), lv_has ls 2 [(0, .ref g0), (1, .int (nI (i)))] → W zp l ze (headSpec wsX2_triedIsAhead ({ frames := 0, cells := 0, slots := 0, locals := 0 })).room s m args below meth zc H locs 0 0 Q (F0 m 2 ls []) := by
    intro k
    induction k with
    | zero =>
      intro i hi hI H locs hP hD hS ls hl
      refine lv_iload_n hx hb dX2_triedIsAhead_2 rfl (lv_at hl 1 rfl) ?_
      refine lv_aload_n hx hb dX2_triedIsAhead_3 rfl (lv_at hl 0 rfl) ?_
      refine va_get (D := (dC, dI)) (ci := 3) (v := .int (nI (n))) (C := RX2) (T := TX2) (N := 6) hx hb hts hinX2 hown hK hP 0 rfl rfl 0 (by decide) hf9 (fun _ h9 => h9) rfl dX2_triedIsAhead_4 ?_
      refine lv_icmp_ge (tgt := 52) hx hb dX2_triedIsAhead_7 (by decide) (fun c => ?_) (fun c => ?_)
      · skip
        have c : n ≤ i := (nI_leI (a := n) (b := i) (by omega) (by omega)).mp c
        refine lv_iconst (v := nI 0) hx hb dX2_triedIsAhead_52 (by decide) ?_
        rw [hQ]
        exact W.zret (v := nI (0)) (ty := .boolean) hx hb hr rfl (fun t ht hW => ⟨⟨_, (), rfl, by rw [hI]; rfl, by rw [ht]; exact hP, va_K.moved hW.alike hK, hD⟩, hS.F ht⟩) hS.2.2 dX2_triedIsAhead_53
      · skip
        have c : i < n := Nat.not_le.mp (fun h => c ((nI_leI (a := n) (b := i) (by omega) (by omega)).mpr h))
        exact absurd c (by omega)
    | succ k ih =>
      intro i hi hI H locs hP hD hS ls hl
      refine lv_iload_n hx hb dX2_triedIsAhead_2 rfl (lv_at hl 1 rfl) ?_
      refine lv_aload_n hx hb dX2_triedIsAhead_3 rfl (lv_at hl 0 rfl) ?_
      refine va_get (D := (dC, dI)) (ci := 3) (v := .int (nI (n))) (C := RX2) (T := TX2) (N := 6) hx hb hts hinX2 hown hK hP 0 rfl rfl 0 (by decide) hf9 (fun _ h9 => h9) rfl dX2_triedIsAhead_4 ?_
      refine lv_icmp_ge (tgt := 52) hx hb dX2_triedIsAhead_7 (by decide) (fun c => ?_) (fun c => ?_)
      · skip
        have c : n ≤ i := (nI_leI (a := n) (b := i) (by omega) (by omega)).mp c
        exact absurd c (by omega)
      · skip
        have c : i < n := Nat.not_le.mp (fun h => c ((nI_leI (a := n) (b := i) (by omega) (by omega)).mpr h))
        have e1 := h1 i (by omega)
        have e2 := h2 i (by omega)
        refine lv_aload_n hx hb dX2_triedIsAhead_10 rfl (lv_at hl 0 rfl) ?_
        refine va_get (D := (dC, dI)) (ci := 3) (v := .ref c1) (C := RX2) (T := TX2) (N := 6) hx hb hts hinX2 hown hK hP 0 rfl rfl 2 (by decide) hf18 (fun _ h9 => h9) rfl dX2_triedIsAhead_11 ?_
        refine lv_iload_n hx hb dX2_triedIsAhead_14 rfl (lv_at hl 1 rfl) ?_
        refine ra_ld (g := nI) (F := tr) hx hb hK hP 1 0 rfl rfl (by omega) (by omega) dX2_triedIsAhead_15 ?_
        refine lv_aload_n hx hb dX2_triedIsAhead_16 rfl (lv_at hl 0 rfl) ?_
        refine va_get (D := (dC, dI)) (ci := 3) (v := .ref c2) (C := RX2) (T := TX2) (N := 6) hx hb hts hinX2 hown hK hP 0 rfl rfl 3 (by decide) hf22 (fun _ h9 => h9) rfl dX2_triedIsAhead_17 ?_
        refine lv_iload_n hx hb dX2_triedIsAhead_20 rfl (lv_at hl 1 rfl) ?_
        refine ra_ld (g := nI) (F := le) hx hb hK hP 2 0 rfl rfl (by omega) (by omega) dX2_triedIsAhead_21 ?_
        refine lv_icmp_eq (tgt := 46) hx hb dX2_triedIsAhead_22 (by decide) (fun hc2 => ?_) (fun hc2 => ?_)
        · skip
          have hc2 : tr i = le i := (nI_eq (a := tr i) (b := le i) (by omega) (by omega)).mp hc2
          refine lv_iinc (v := nI (i + 1)) (lv' := [(1, .int (nI (i + 1))), (0, .ref g0)]) hx hb dX2_triedIsAhead_46 hl (k := 1) rfl (nI_1 _) (by decide) rfl (fun ls hl => ?_)
          refine lv_goto (tgt := 2) hx hb dX2_triedIsAhead_49 (by decide) ?_
          exact ih (i + 1) (by omega) (by rw [hI]; simp only [lexL]; rw [if_pos hc2]) _ _ hP hD hS ls (lv_sub hl [1, 0] rfl)
        · skip
          have hc2 : tr i ≠ le i := fun h => hc2 ((nI_eq (a := tr i) (b := le i) (by omega) (by omega)).mpr h)
          refine lv_aload_n hx hb dX2_triedIsAhead_25 rfl (lv_at hl 0 rfl) ?_
          refine va_get (D := (dC, dI)) (ci := 3) (v := .ref c1) (C := RX2) (T := TX2) (N := 6) hx hb hts hinX2 hown hK hP 0 rfl rfl 2 (by decide) hf18 (fun _ h9 => h9) rfl dX2_triedIsAhead_26 ?_
          refine lv_iload_n hx hb dX2_triedIsAhead_29 rfl (lv_at hl 1 rfl) ?_
          refine ra_ld (g := nI) (F := tr) hx hb hK hP 1 0 rfl rfl (by omega) (by omega) dX2_triedIsAhead_30 ?_
          refine lv_aload_n hx hb dX2_triedIsAhead_31 rfl (lv_at hl 0 rfl) ?_
          refine va_get (D := (dC, dI)) (ci := 3) (v := .ref c2) (C := RX2) (T := TX2) (N := 6) hx hb hts hinX2 hown hK hP 0 rfl rfl 3 (by decide) hf22 (fun _ h9 => h9) rfl dX2_triedIsAhead_32 ?_
          refine lv_iload_n hx hb dX2_triedIsAhead_35 rfl (lv_at hl 1 rfl) ?_
          refine ra_ld (g := nI) (F := le) hx hb hK hP 2 0 rfl rfl (by omega) (by omega) dX2_triedIsAhead_36 ?_
          refine lv_icmp_ge (tgt := 44) hx hb dX2_triedIsAhead_37 (by decide) (fun hc3 => ?_) (fun hc3 => ?_)
          · skip
            have hc3 : le i ≤ tr i := (nI_leI (a := le i) (b := tr i) (by omega) (by omega)).mp hc3
            refine lv_iconst (v := nI 0) hx hb dX2_triedIsAhead_44 (by decide) ?_
            rw [hQ]
            exact W.zret (v := nI (0)) (ty := .boolean) hx hb hr rfl (fun t ht hW => ⟨⟨_, (), rfl, by rw [hI]; simp only [lexL]; rw [if_neg hc2, decide_eq_false (by omega)]; rfl, by rw [ht]; exact hP, va_K.moved hW.alike hK, hD⟩, hS.F ht⟩) hS.2.2 dX2_triedIsAhead_45
          · skip
            have hc3 : tr i < le i := Nat.not_le.mp (fun h => hc3 ((nI_leI (a := le i) (b := tr i) (by omega) (by omega)).mpr h))
            refine lv_iconst (v := nI 1) hx hb dX2_triedIsAhead_40 (by decide) ?_
            refine lv_goto (tgt := 45) hx hb dX2_triedIsAhead_41 (by decide) ?_
            rw [hQ]
            exact W.zret (v := nI (1)) (ty := .boolean) hx hb hr rfl (fun t ht hW => ⟨⟨_, (), rfl, by rw [hI]; simp only [lexL]; rw [if_neg hc2, decide_eq_true (by omega)]; rfl, by rw [ht]; exact hP, va_K.moved hW.alike hK, hD⟩, hS.F ht⟩) hS.2.2 dX2_triedIsAhead_45
  exact lp n 0 (by omega) rfl _ _ hP hD hS ls (lv_sub hl [1, 0] rfl)

set_option maxHeartbeats 4000000 in
set_option maxRecDepth 100000 in
theorem c_X2_keep (l : Launch) (dC : Nat → ClassId) (dI : Nat → Nat → Nat) (sz : Nat) (g0 c1 c2 c3 n q pz : Nat) (tot : Int32) (tr le : Nat → Nat) (cI : ClassId) (hn : n < 1000) : Met l yX2_keep wsX2_keep ({ frames := 1, cells := 0, slots := 0, locals := 60 }) (va_Pc [.ref g0, .int (nI (pz))] (fun U => U.heap.size = sz ∧ va_P (dC, dI) vwCl [(g0, .inr (3, [.int (nI (n)), .int (nI (q)), .ref c1, .ref c2, .ref c3, .int (tot)])), (c1, .inl (cI, n, .inl (fun j => nI (tr j)))), (c2, .inl (cI, n, .inl (fun j => nI (le j))))] U.heap ∧ va_K (dC, dI) vwCl [(cI, .int)] U ∧ va_D (fun _ => True) [(g0, .inr (3, [.int (nI (n)), .int (nI (q)), .ref c1, .ref c2, .ref c3, .int (tot)])), (c1, .inl (cI, n, .inl (fun j => nI (tr j)))), (c2, .inl (cI, n, .inl (fun j => nI (le j))))])) (va_Qv (fun _ : Unit => True) (fun _ t => va_P (dC, dI) vwCl [(g0, .inr (3, [.int (nI (n)), .int (nI (q)), .ref c1, .ref c2, .ref c3, .int (nI (pz))])), (c1, .inl (cI, n, .inl (fun j => nI (tr j)))), (c2, .inl (cI, n, .inl (fun j => nI ((fun j => if j < n then tr j else le j) j))))] t.heap ∧ va_K (dC, dI) vwCl [(cI, .int)] t ∧ va_D (va_A [(g0, .inr (3, [.int (nI (n)), .int (nI (q)), .ref c1, .ref c2, .ref c3, .int (tot)])), (c1, .inl (cI, n, .inl (fun j => nI (tr j)))), (c2, .inl (cI, n, .inl (fun j => nI (le j))))] sz) [(g0, .inr (3, [.int (nI (n)), .int (nI (q)), .ref c1, .ref c2, .ref c3, .int (nI (pz))])), (c1, .inl (cI, n, .inl (fun j => nI (tr j)))), (c2, .inl (cI, n, .inl (fun j => nI ((fun j => if j < n then tr j else le j) j))))]) (va_A [(g0, .inr (3, [.int (nI (n)), .int (nI (q)), .ref c1, .ref c2, .ref c3, .int (tot)])), (c1, .inl (cI, n, .inl (fun j => nI (tr j)))), (c2, .inl (cI, n, .inl (fun j => nI (le j))))] sz)) 0 0 (va_A [(g0, .inr (3, [.int (nI (n)), .int (nI (q)), .ref c1, .ref c2, .ref c3, .int (tot)])), (c1, .inl (cI, n, .inl (fun j => nI (tr j)))), (c2, .inl (cI, n, .inl (fun j => nI (le j))))] sz) := by
  refine Met.ofW (cc := cX2_keep) (maxL := 2) (ret := none) (by decide) rfl ?_
  intro zp ze s m args below meth zc s₁ B hml hv
  obtain ⟨hargs, hsz, hP, hK, hD0⟩ := hv
  have hx := B.exec
  have hb := B.bytes
  have hr := B.returns
  have hts := atoms_spec (ws := wsX2_keep) B.pre
  have hown : s.vm.findClass RX2 = some m.cls := findClass_of_methodNamed B.named
  have hlocks := B.notSynchronized
  subst hsz
  obtain ⟨Q, hQ⟩ : ∃ Q, Q = MQ below (va_Qv (fun _ : Unit => True) (fun _ t => va_P (dC, dI) vwCl [(g0, .inr (3, [.int (nI (n)), .int (nI (q)), .ref c1, .ref c2, .ref c3, .int (nI (pz))])), (c1, .inl (cI, n, .inl (fun j => nI (tr j)))), (c2, .inl (cI, n, .inl (fun j => nI ((fun j => if j < n then tr j else le j) j))))] t.heap ∧ va_K (dC, dI) vwCl [(cI, .int)] t ∧ va_D (va_A [(g0, .inr (3, [.int (nI (n)), .int (nI (q)), .ref c1, .ref c2, .ref c3, .int (tot)])), (c1, .inl (cI, n, .inl (fun j => nI (tr j)))), (c2, .inl (cI, n, .inl (fun j => nI (le j))))] s.heap.size) [(g0, .inr (3, [.int (nI (n)), .int (nI (q)), .ref c1, .ref c2, .ref c3, .int (nI (pz))])), (c1, .inl (cI, n, .inl (fun j => nI (tr j)))), (c2, .inl (cI, n, .inl (fun j => nI ((fun j => if j < n then tr j else le j) j))))]) (va_A [(g0, .inr (3, [.int (nI (n)), .int (nI (q)), .ref c1, .ref c2, .ref c3, .int (tot)])), (c1, .inl (cI, n, .inl (fun j => nI (tr j)))), (c2, .inl (cI, n, .inl (fun j => nI (le j))))] s.heap.size)) args s 0 0 (va_A [(g0, .inr (3, [.int (nI (n)), .int (nI (q)), .ref c1, .ref c2, .ref c3, .int (tot)])), (c1, .inl (cI, n, .inl (fun j => nI (tr j)))), (c2, .inl (cI, n, .inl (fun j => nI (le j))))] s.heap.size) := ⟨_, rfl⟩
  rw [← hQ]
  have hD := hD0.self (sz := s.heap.size)
  generalize hAe : (va_A [(g0, .inr (3, [.int (nI (n)), .int (nI (q)), .ref c1, .ref c2, .ref c3, .int (tot)])), (c1, .inl (cI, n, .inl (fun j => nI (tr j)))), (c2, .inl (cI, n, .inl (fun j => nI (le j))))] s.heap.size) = A at hD hQ
  have hA : ∀ q : Nat, s.heap.size ≤ q → A q := fun q h => by rw [← hAe]; exact Or.inr h
  have hS : va_S A s.heap s.heap [] := va_S.rf
  have hl := lv_entry ([.ref g0, .int (nI (pz))]) (n := 2) (Nat.le_of_ble_eq_true rfl)
  generalize hen : entryFrame m args 2 = fr
  rw [hargs, lg_entry_eq] at hen
  subst hen
  generalize (lg_sl ([.ref g0, .int (nI (pz))]) ++ List.replicate (2 - (lg_sl ([.ref g0, .int (nI (pz))])).length) Slot.unset).toArray = ls at hl ⊢
  have hl : lv_has ls 2 [(0, .ref g0), (1, .int (nI (pz)))] := hl
  have hinX2 : ∀ w ∈ wsX20, w ∈ wsX2_keep := by decide +kernel
  have hf9 := hts (.fieldLink RX2 9 "LightRows$Search" "size" "I") (by decide +kernel)
  have hf18 := hts (.fieldLink RX2 18 "LightRows$Search" "tried" "[I") (by decide +kernel)
  have hf22 := hts (.fieldLink RX2 22 "LightRows$Search" "least" "[I") (by decide +kernel)
  have hf28 := hts (.fieldLink RX2 28 "LightRows$Search" "total" "I") (by decide +kernel)
  refine lv_aload_n hx hb dX2_keep_0 rfl (lv_at hl 0 rfl) ?_
  refine lv_iload_n hx hb dX2_keep_1 rfl (lv_at hl 1 rfl) ?_
  refine va_put (D := (dC, dI)) (ci := 3) (v := .int (nI (pz))) (ty := .int) (C := RX2) (T := TX2) (N := 6) hx hb hts hinX2 tyX2 tyX2_ok nmX2 hown hK hP hD hS 0 rfl rfl 5 (by decide) hf28 (fun _ h9 => h9) rfl (by decide +kernel) rfl rfl (Nat.le_of_ble_eq_true rfl) dX2_keep_2 (fun H locs hP hD hS => ?_)
  have hP : va_P (dC, dI) vwCl [(g0, .inr (3, [.int (nI (n)), .int (nI (q)), .ref c1, .ref c2, .ref c3, .int (nI (pz))])), (c1, .inl (cI, n, .inl (fun j => nI (tr j)))), (c2, .inl (cI, n, .inl (fun j => nI (le j))))] H := hP
  have hD : va_D A [(g0, .inr (3, [.int (nI (n)), .int (nI (q)), .ref c1, .ref c2, .ref c3, .int (nI (pz))])), (c1, .inl (cI, n, .inl (fun j => nI (tr j)))), (c2, .inl (cI, n, .inl (fun j => nI (le j))))] := hD
  refine lv_aload_n hx hb dX2_keep_5 rfl (lv_at hl 0 rfl) ?_
  refine va_get (D := (dC, dI)) (ci := 3) (v := .ref c1) (C := RX2) (T := TX2) (N := 6) hx hb hts hinX2 hown hK hP 0 rfl rfl 2 (by decide) hf18 (fun _ h9 => h9) rfl dX2_keep_6 ?_
  refine lv_iconst (v := nI 0) hx hb dX2_keep_9 (by decide) ?_
  refine lv_aload_n hx hb dX2_keep_10 rfl (lv_at hl 0 rfl) ?_
  refine va_get (D := (dC, dI)) (ci := 3) (v := .ref c2) (C := RX2) (T := TX2) (N := 6) hx hb hts hinX2 hown hK hP 0 rfl rfl 3 (by decide) hf22 (fun _ h9 => h9) rfl dX2_keep_11 ?_
  refine lv_iconst (v := nI 0) hx hb dX2_keep_14 (by decide) ?_
  refine lv_aload_n hx hb dX2_keep_15 rfl (lv_at hl 0 rfl) ?_
  refine va_get (D := (dC, dI)) (ci := 3) (v := .int (nI (n))) (C := RX2) (T := TX2) (N := 6) hx hb hts hinX2 hown hK hP 0 rfl rfl 0 (by decide) hf9 (fun _ h9 => h9) rfl dX2_keep_16 ?_
  refine ra_cp (F := tr) (G := le) (k := n) hx hb (hml.trans hl.1.symm) hown (hts (.methodLink RX2 73 arraycopyName) (by decide +kernel)) (hts (.native arraycopyName) (by decide +kernel)) (hts (.static arraycopyName) (by decide +kernel)) (hts (.initialized "java/lang/System") (by decide +kernel)) hK hP hD hS 1 2 0 rfl rfl rfl (by omega) (by omega) (by omega) (Nat.le_of_ble_eq_true rfl) (Nat.le_of_ble_eq_true rfl) dX2_keep_19 (fun H locs hP hD hS => ?_)
  have hP : va_P (dC, dI) vwCl [(g0, .inr (3, [.int (nI (n)), .int (nI (q)), .ref c1, .ref c2, .ref c3, .int (nI (pz))])), (c1, .inl (cI, n, .inl (fun j => nI (tr j)))), (c2, .inl (cI, n, .inl (fun j => nI ((fun j => if j < n then tr j else le j) j))))] H := hP
  have hD : va_D A [(g0, .inr (3, [.int (nI (n)), .int (nI (q)), .ref c1, .ref c2, .ref c3, .int (nI (pz))])), (c1, .inl (cI, n, .inl (fun j => nI (tr j)))), (c2, .inl (cI, n, .inl (fun j => nI ((fun j => if j < n then tr j else le j) j))))] := hD
  rw [hQ]
  exact W.vret hx hb hr (fun t ht hW => ⟨⟨(), rfl, trivial, by rw [ht]; exact hP, va_K.moved hW.alike hK, hD⟩, hS.F ht⟩) hS.2.2 dX2_keep_22

set_option maxHeartbeats 4000000 in
set_option maxRecDepth 100000 in
theorem c_X2_addToTried (l : Launch) (dC : Nat → ClassId) (dI : Nat → Nat → Nat) (sz : Nat) (g0 c1 c2 c3 n q y : Nat) (tot : Int32) (tr : Nat → Nat) (cI : ClassId) (L : List Nat) (pl : Nat → Nat) (pr : Nat → Nat → Nat) (hn : n < 1000) (hq2 : q < 100) (hy : y ∈ L) (ly : pl y = n) (h1 : ∀ j, j < n → tr j < 100) (h2 : ∀ j, j < n → pr y j < 100) : Met l yX2_addToTried wsX2_addToTried ({ frames := 0, cells := 0, slots := 0, locals := 0 }) (va_Pc [.ref g0, .ref y] (fun U => U.heap.size = sz ∧ va_P (dC, dI) vwCl (([(g0, .inr (3, [.int (nI (n)), .int (nI (q)), .ref c1, .ref c2, .ref c3, .int (tot)])), (c1, .inl (cI, n, .inl (fun j => nI (tr j))))] : va_W) ++ va_pl L (pI cI pl pr)) U.heap ∧ va_K (dC, dI) vwCl [(cI, .int)] U ∧ va_D (fun _ => True) (([(g0, .inr (3, [.int (nI (n)), .int (nI (q)), .ref c1, .ref c2, .ref c3, .int (tot)])), (c1, .inl (cI, n, .inl (fun j => nI (tr j))))] : va_W) ++ va_pl L (pI cI pl pr)))) (va_Qv (fun _ : Unit => True) (fun _ t => va_P (dC, dI) vwCl (([(g0, .inr (3, [.int (nI (n)), .int (nI (q)), .ref c1, .ref c2, .ref c3, .int (tot)])), (c1, .inl (cI, n, .inl (fun j => nI ((fun j => if j < n then adq q (tr j) (pr y j) else tr j) j))))] : va_W) ++ va_pl L (pI cI pl pr)) t.heap ∧ va_K (dC, dI) vwCl [(cI, .int)] t ∧ va_D (va_A (([(g0, .inr (3, [.int (nI (n)), .int (nI (q)), .ref c1, .ref c2, .ref c3, .int (tot)])), (c1, .inl (cI, n, .inl (fun j => nI (tr j))))] : va_W) ++ va_pl L (pI cI pl pr)) sz) (([(g0, .inr (3, [.int (nI (n)), .int (nI (q)), .ref c1, .ref c2, .ref c3, .int (tot)])), (c1, .inl (cI, n, .inl (fun j => nI ((fun j => if j < n then adq q (tr j) (pr y j) else tr j) j))))] : va_W) ++ va_pl L (pI cI pl pr))) (va_A (([(g0, .inr (3, [.int (nI (n)), .int (nI (q)), .ref c1, .ref c2, .ref c3, .int (tot)])), (c1, .inl (cI, n, .inl (fun j => nI (tr j))))] : va_W) ++ va_pl L (pI cI pl pr)) sz)) 0 0 (va_A (([(g0, .inr (3, [.int (nI (n)), .int (nI (q)), .ref c1, .ref c2, .ref c3, .int (tot)])), (c1, .inl (cI, n, .inl (fun j => nI (tr j))))] : va_W) ++ va_pl L (pI cI pl pr)) sz) := by
  refine Met.ofW (cc := cX2_addToTried) (maxL := 4) (ret := none) (by decide) rfl ?_
  intro zp ze s m args below meth zc s₁ B hml hv
  obtain ⟨hargs, hsz, hP, hK, hD0⟩ := hv
  have hx := B.exec
  have hb := B.bytes
  have hr := B.returns
  have hts := atoms_spec (ws := wsX2_addToTried) B.pre
  have hown : s.vm.findClass RX2 = some m.cls := findClass_of_methodNamed B.named
  have hlocks := B.notSynchronized
  subst hsz
  obtain ⟨Q, hQ⟩ : ∃ Q, Q = MQ below (va_Qv (fun _ : Unit => True) (fun _ t => va_P (dC, dI) vwCl (([(g0, .inr (3, [.int (nI (n)), .int (nI (q)), .ref c1, .ref c2, .ref c3, .int (tot)])), (c1, .inl (cI, n, .inl (fun j => nI ((fun j => if j < n then adq q (tr j) (pr y j) else tr j) j))))] : va_W) ++ va_pl L (pI cI pl pr)) t.heap ∧ va_K (dC, dI) vwCl [(cI, .int)] t ∧ va_D (va_A (([(g0, .inr (3, [.int (nI (n)), .int (nI (q)), .ref c1, .ref c2, .ref c3, .int (tot)])), (c1, .inl (cI, n, .inl (fun j => nI (tr j))))] : va_W) ++ va_pl L (pI cI pl pr)) s.heap.size) (([(g0, .inr (3, [.int (nI (n)), .int (nI (q)), .ref c1, .ref c2, .ref c3, .int (tot)])), (c1, .inl (cI, n, .inl (fun j => nI ((fun j => if j < n then adq q (tr j) (pr y j) else tr j) j))))] : va_W) ++ va_pl L (pI cI pl pr))) (va_A (([(g0, .inr (3, [.int (nI (n)), .int (nI (q)), .ref c1, .ref c2, .ref c3, .int (tot)])), (c1, .inl (cI, n, .inl (fun j => nI (tr j))))] : va_W) ++ va_pl L (pI cI pl pr)) s.heap.size)) args s 0 0 (va_A (([(g0, .inr (3, [.int (nI (n)), .int (nI (q)), .ref c1, .ref c2, .ref c3, .int (tot)])), (c1, .inl (cI, n, .inl (fun j => nI (tr j))))] : va_W) ++ va_pl L (pI cI pl pr)) s.heap.size) := ⟨_, rfl⟩
  rw [← hQ]
  have hD := hD0.self (sz := s.heap.size)
  generalize hAe : (va_A (([(g0, .inr (3, [.int (nI (n)), .int (nI (q)), .ref c1, .ref c2, .ref c3, .int (tot)])), (c1, .inl (cI, n, .inl (fun j => nI (tr j))))] : va_W) ++ va_pl L (pI cI pl pr)) s.heap.size) = A at hD hQ
  have hA : ∀ q : Nat, s.heap.size ≤ q → A q := fun q h => by rw [← hAe]; exact Or.inr h
  have hS : va_S A s.heap s.heap [] := va_S.rf
  have hl := lv_entry ([.ref g0, .ref y]) (n := 4) (Nat.le_of_ble_eq_true rfl)
  generalize hen : entryFrame m args 4 = fr
  rw [hargs, lg_entry_eq] at hen
  subst hen
  generalize (lg_sl ([.ref g0, .ref y]) ++ List.replicate (4 - (lg_sl ([.ref g0, .ref y])).length) Slot.unset).toArray = ls at hl ⊢
  have hl : lv_has ls 4 [(0, .ref g0), (1, .ref y)] := hl
  have hinX2 : ∀ w ∈ wsX20, w ∈ wsX2_addToTried := by decide +kernel
  have hf9 := hts (.fieldLink RX2 9 "LightRows$Search" "size" "I") (by decide +kernel)
  have hf15 := hts (.fieldLink RX2 15 "LightRows$Search" "modulus" "I") (by decide +kernel)
  have hf18 := hts (.fieldLink RX2 18 "LightRows$Search" "tried" "[I") (by decide +kernel)
  refine lv_iconst (v := nI 0) hx hb dX2_addToTried_0 (by decide) ?_
  refine lv_istore_n (lv' := [(2, .int (nI (0))), (0, .ref g0), (1, .ref y)]) hx hb dX2_addToTried_1 rfl hl (by decide) rfl (fun ls hl => ?_)
  have lp : ∀ (k : Nat) (i : Nat) (F : Nat → Nat), (i + k = n) → (∀ j, F j = if j < i then (fun j => adq q (tr j) (pr y j)) j else tr j) → ∀ (H : Heap) (locs : List Loc), va_P (dC, dI) vwCl (([(g0, .inr (3, [.int (nI (n)), .int (nI (q)), .ref c1, .ref c2, .ref c3, .int (tot)])), (c1, .inl (cI, n, .inl (fun j => nI (F j))))] : va_W) ++ va_pl L (pI cI pl pr)) H → va_D A (([(g0, .inr (3, [.int (nI (n)), .int (nI (q)), .ref c1, .ref c2, .ref c3, .int (tot)])), (c1, .inl (cI, n, .inl (fun j => nI (F j))))] : va_W) ++ va_pl L (pI cI pl pr)) → va_S A s.heap H locs → ∀ (ls : Array Slot), lv_has ls 4 [(0, .ref g0), (1, .ref y), (2, .int (nI (i)))] → W zp l ze (headSpec wsX2_addToTried ({ frames := 0, cells := 0, slots := 0, locals := 0 })).room s m args below meth zc H locs 0 0 Q (F0 m 2 ls []) := by
    intro k
    induction k with
    | zero =>
      intro i F hi hF H locs hP hD hS ls hl
      refine lv_iload_n hx hb dX2_addToTried_2 rfl (lv_at hl 2 rfl) ?_
      refine lv_aload_n hx hb dX2_addToTried_3 rfl (lv_at hl 0 rfl) ?_
      refine va_get (D := (dC, dI)) (ci := 3) (v := .int (nI (n))) (C := RX2) (T := TX2) (N := 6) hx hb hts hinX2 hown hK hP 0 rfl rfl 0 (by decide) hf9 (fun _ h9 => h9) rfl dX2_addToTried_4 ?_
      refine lv_icmp_ge (tgt := 51) hx hb dX2_addToTried_7 (by decide) (fun c => ?_) (fun c => ?_)
      · skip
        have c : n ≤ i := (nI_leI (a := n) (b := i) (by omega) (by omega)).mp c
        obtain rfl : n = i := by omega
        have eF : F = fun j => if j < n then adq q (tr j) (pr y j) else tr j := funext hF
        subst eF
        rw [hQ]
        exact W.vret hx hb hr (fun t ht hW => ⟨⟨(), rfl, trivial, by rw [ht]; exact hP, va_K.moved hW.alike hK, hD⟩, hS.F ht⟩) hS.2.2 dX2_addToTried_51
      · skip
        have c : i < n := Nat.not_le.mp (fun h => c ((nI_leI (a := n) (b := i) (by omega) (by omega)).mpr h))
        exact absurd c (by omega)
    | succ k ih =>
      intro i F hi hF H locs hP hD hS ls hl
      refine lv_iload_n hx hb dX2_addToTried_2 rfl (lv_at hl 2 rfl) ?_
      refine lv_aload_n hx hb dX2_addToTried_3 rfl (lv_at hl 0 rfl) ?_
      refine va_get (D := (dC, dI)) (ci := 3) (v := .int (nI (n))) (C := RX2) (T := TX2) (N := 6) hx hb hts hinX2 hown hK hP 0 rfl rfl 0 (by decide) hf9 (fun _ h9 => h9) rfl dX2_addToTried_4 ?_
      refine lv_icmp_ge (tgt := 51) hx hb dX2_addToTried_7 (by decide) (fun c => ?_) (fun c => ?_)
      · skip
        have c : n ≤ i := (nI_leI (a := n) (b := i) (by omega) (by omega)).mp c
        exact absurd c (by omega)
      · skip
        have c : i < n := Nat.not_le.mp (fun h => c ((nI_leI (a := n) (b := i) (by omega) (by omega)).mpr h))
        have e1 := h1 i (by omega)
        have e2 := h2 i (by omega)
        have e3 : F i = tr i := by rw [hF i, if_neg (by omega)]
        refine lv_aload_n hx hb dX2_addToTried_10 rfl (lv_at hl 0 rfl) ?_
        refine va_get (D := (dC, dI)) (ci := 3) (v := .ref c1) (C := RX2) (T := TX2) (N := 6) hx hb hts hinX2 hown hK hP 0 rfl rfl 2 (by decide) hf18 (fun _ h9 => h9) rfl dX2_addToTried_11 ?_
        refine lv_iload_n hx hb dX2_addToTried_14 rfl (lv_at hl 2 rfl) ?_
        refine ra_ld (g := nI) (F := F) hx hb hK hP 1 0 rfl rfl (by omega) (by omega) dX2_addToTried_15 ?_
        refine tp_i (y := nI (tr i)) (by rw [e3]) ?_
        refine lv_aload_n hx hb dX2_addToTried_16 rfl (lv_at hl 1 rfl) ?_
        refine lv_iload_n hx hb dX2_addToTried_17 rfl (lv_at hl 2 rfl) ?_
        refine rp_ld hx hb hK hP 0 rfl (hy) (by omega) (by omega) dX2_addToTried_18 ?_
        refine lv_iadd hx hb dX2_addToTried_19 ?_
        refine tp_i (y := nI ((tr i) + (pr y i))) (nI_add _ _) ?_
        refine lv_istore_n (lv' := [(3, .int (nI ((tr i) + (pr y i)))), (0, .ref g0), (1, .ref y), (2, .int (nI (i)))]) hx hb dX2_addToTried_20 rfl hl (by decide) rfl (fun ls hl => ?_)
        refine lv_aload_n hx hb dX2_addToTried_21 rfl (lv_at hl 1 rfl) ?_
        refine va_get (D := (dC, dI)) (ci := 3) (v := .ref c1) (C := RX2) (T := TX2) (N := 6) hx hb hts hinX2 hown hK hP 0 rfl rfl 2 (by decide) hf18 (fun _ h9 => h9) rfl dX2_addToTried_22 ?_
        refine lv_iload_n hx hb dX2_addToTried_25 rfl (lv_at hl 3 rfl) ?_
        refine lv_iload_n hx hb dX2_addToTried_26 rfl (lv_at hl 0 rfl) ?_
        refine lv_aload_n hx hb dX2_addToTried_27 rfl (lv_at hl 1 rfl) ?_
        refine va_get (D := (dC, dI)) (ci := 3) (v := .int (nI (q))) (C := RX2) (T := TX2) (N := 6) hx hb hts hinX2 hown hK hP 0 rfl rfl 1 (by decide) hf15 (fun _ h9 => h9) rfl dX2_addToTried_28 ?_
        refine lv_icmp_ge (tgt := 38) hx hb dX2_addToTried_31 (by decide) (fun hc2 => ?_) (fun hc2 => ?_)
        · skip
          have hc2 : q ≤ (tr i) + (pr y i) := (nI_leI (a := q) (b := (tr i) + (pr y i)) (by omega) (by omega)).mp hc2
          refine lv_iload_n hx hb dX2_addToTried_38 rfl (lv_at hl 0 rfl) ?_
          refine lv_aload_n hx hb dX2_addToTried_39 rfl (lv_at hl 1 rfl) ?_
          refine va_get (D := (dC, dI)) (ci := 3) (v := .int (nI (q))) (C := RX2) (T := TX2) (N := 6) hx hb hts hinX2 hown hK hP 0 rfl rfl 1 (by decide) hf15 (fun _ h9 => h9) rfl dX2_addToTried_40 ?_
          refine lv_isub hx hb dX2_addToTried_43 ?_
          refine tp_i (y := nI (((tr i) + (pr y i)) - q)) (pk_sub (by omega)) ?_
          refine ra_st (g := nI) (F := F) (v := ((tr i) + (pr y i)) - q) hx hb hK hP hD hS 1 0 rfl rfl (by omega) (by omega) dX2_addToTried_44 (fun H locs hP hD hS => ?_)
          have hP : va_P (dC, dI) vwCl (([(g0, .inr (3, [.int (nI (n)), .int (nI (q)), .ref c1, .ref c2, .ref c3, .int (tot)])), (c1, .inl (cI, n, .inl (fun j => nI ((va_up F i (((tr i) + (pr y i)) - q)) j))))] : va_W) ++ va_pl L (pI cI pl pr)) H := hP
          have hD : va_D A (([(g0, .inr (3, [.int (nI (n)), .int (nI (q)), .ref c1, .ref c2, .ref c3, .int (tot)])), (c1, .inl (cI, n, .inl (fun j => nI ((va_up F i (((tr i) + (pr y i)) - q)) j))))] : va_W) ++ va_pl L (pI cI pl pr)) := hD
          refine lv_iinc (v := nI (i + 1)) (lv' := [(2, .int (nI (i + 1))), (3, .int (nI ((tr i) + (pr y i)))), (0, .ref g0), (1, .ref y)]) hx hb dX2_addToTried_45 hl (k := 3) rfl (nI_1 _) (by decide) rfl (fun ls hl => ?_)
          refine lv_goto (tgt := 2) hx hb dX2_addToTried_48 (by decide) ?_
          exact ih (i + 1) (va_up F i (tr i + pr y i - q)) (by omega) (lp_step hF (by show _ = adq q (tr i) (pr y i); unfold adq; rw [if_neg (by omega)])) _ _ hP hD hS ls (lv_sub hl [2, 3, 0] rfl)
        · skip
          have hc2 : (tr i) + (pr y i) < q := Nat.not_le.mp (fun h => hc2 ((nI_leI (a := q) (b := (tr i) + (pr y i)) (by omega) (by omega)).mpr h))
          refine lv_iload_n hx hb dX2_addToTried_34 rfl (lv_at hl 0 rfl) ?_
          refine lv_goto (tgt := 44) hx hb dX2_addToTried_35 (by decide) ?_
          refine ra_st (g := nI) (F := F) (v := (tr i) + (pr y i)) hx hb hK hP hD hS 1 0 rfl rfl (by omega) (by omega) dX2_addToTried_44 (fun H locs hP hD hS => ?_)
          have hP : va_P (dC, dI) vwCl (([(g0, .inr (3, [.int (nI (n)), .int (nI (q)), .ref c1, .ref c2, .ref c3, .int (tot)])), (c1, .inl (cI, n, .inl (fun j => nI ((va_up F i ((tr i) + (pr y i))) j))))] : va_W) ++ va_pl L (pI cI pl pr)) H := hP
          have hD : va_D A (([(g0, .inr (3, [.int (nI (n)), .int (nI (q)), .ref c1, .ref c2, .ref c3, .int (tot)])), (c1, .inl (cI, n, .inl (fun j => nI ((va_up F i ((tr i) + (pr y i))) j))))] : va_W) ++ va_pl L (pI cI pl pr)) := hD
          refine lv_iinc (v := nI (i + 1)) (lv' := [(2, .int (nI (i + 1))), (3, .int (nI ((tr i) + (pr y i)))), (0, .ref g0), (1, .ref y)]) hx hb dX2_addToTried_45 hl (k := 3) rfl (nI_1 _) (by decide) rfl (fun ls hl => ?_)
          refine lv_goto (tgt := 2) hx hb dX2_addToTried_48 (by decide) ?_
          exact ih (i + 1) (va_up F i (tr i + pr y i)) (by omega) (lp_step hF (by show _ = adq q (tr i) (pr y i); unfold adq; rw [if_pos (by omega)])) _ _ hP hD hS ls (lv_sub hl [2, 3, 0] rfl)
  exact lp n 0 tr (by omega) (lp_zero _ _) _ _ hP hD hS ls (lv_sub hl [1, 2, 0] rfl)

set_option maxHeartbeats 4000000 in
set_option maxRecDepth 100000 in
theorem c_X3_primeFor (l : Launch) (dC : Nat → ClassId) (dI : Nat → Nat → Nat) (sz : Nat) (x : Int32)  : Met l yX3_primeFor wsX3_primeFor ({ frames := 0, cells := 0, slots := 0, locals := 0 }) (va_Pc [.int (x)] (fun U => U.heap.size = sz ∧ va_P (dC, dI) vwCl [] U.heap ∧ va_K (dC, dI) vwCl [] U ∧ va_D (fun _ => True) [])) (va_Qi (fun (z : Int32) (_ : Unit) => z = nI (prm x)) (fun _ t => va_P (dC, dI) vwCl [] t.heap ∧ va_K (dC, dI) vwCl [] t ∧ va_D (va_A [] sz) []) (va_A [] sz)) 0 0 (va_A [] sz) := by
  refine Met.ofW (cc := cX3_primeFor) (maxL := 1) (ret := (some .int)) (by decide) rfl ?_
  intro zp ze s m args below meth zc s₁ B hml hv
  obtain ⟨hargs, hsz, hP, hK, hD0⟩ := hv
  have hx := B.exec
  have hb := B.bytes
  have hr := B.returns
  have hts := atoms_spec (ws := wsX3_primeFor) B.pre
  have hown : s.vm.findClass RX3 = some m.cls := findClass_of_methodNamed B.named
  have hlocks := B.notSynchronized
  subst hsz
  obtain ⟨Q, hQ⟩ : ∃ Q, Q = MQ below (va_Qi (fun (z : Int32) (_ : Unit) => z = nI (prm x)) (fun _ t => va_P (dC, dI) vwCl [] t.heap ∧ va_K (dC, dI) vwCl [] t ∧ va_D (va_A [] s.heap.size) []) (va_A [] s.heap.size)) args s 0 0 (va_A [] s.heap.size) := ⟨_, rfl⟩
  rw [← hQ]
  have hD := hD0.self (sz := s.heap.size)
  generalize hAe : (va_A [] s.heap.size) = A at hD hQ
  have hA : ∀ q : Nat, s.heap.size ≤ q → A q := fun q h => by rw [← hAe]; exact Or.inr h
  have hS : va_S A s.heap s.heap [] := va_S.rf
  have hl := lv_entry ([.int (x)]) (n := 1) (Nat.le_of_ble_eq_true rfl)
  generalize hen : entryFrame m args 1 = fr
  rw [hargs, lg_entry_eq] at hen
  subst hen
  generalize (lg_sl ([.int (x)]) ++ List.replicate (1 - (lg_sl ([.int (x)])).length) Slot.unset).toArray = ls at hl ⊢
  have hl : lv_has ls 1 [(0, .int (x))] := hl
  refine lv_iload_n hx hb dX3_primeFor_0 rfl (lv_at hl 0 rfl) ?_
  refine lv_iconst (v := nI 3) hx hb dX3_primeFor_1 (by decide) ?_
  refine lv_icmp_ge (tgt := 7) hx hb dX3_primeFor_2 (by decide) (fun c1 => ?_) (fun c1 => ?_)
  · skip
    refine lv_iload_n hx hb dX3_primeFor_7 rfl (lv_at hl 0 rfl) ?_
    refine lv_iconst (v := nI 5) hx hb dX3_primeFor_8 (by decide) ?_
    refine lv_icmp_ge (tgt := 14) hx hb dX3_primeFor_9 (by decide) (fun c2 => ?_) (fun c2 => ?_)
    · skip
      refine lv_iload_n hx hb dX3_primeFor_14 rfl (lv_at hl 0 rfl) ?_
      refine lv_bipush (v := nI 7) hx hb dX3_primeFor_15 (by decide) ?_
      refine lv_icmp_ge (tgt := 24) hx hb dX3_primeFor_17 (by decide) (fun c3 => ?_) (fun c3 => ?_)
      · skip
        refine lv_bipush (v := nI 7) hx hb dX3_primeFor_24 (by decide) ?_
        rw [hQ]
        exact W.iret (v := nI (7)) hx hb hr (fun t ht hW => ⟨⟨_, (), rfl, by unfold prm; rw [if_pos c1, if_pos c2, if_pos c3], by rw [ht]; exact hP, va_K.moved hW.alike hK, hD⟩, hS.F ht⟩) hS.2.2 dX3_primeFor_26
      · skip
        refine lv_iconst (v := nI 5) hx hb dX3_primeFor_20 (by decide) ?_
        refine lv_goto (tgt := 26) hx hb dX3_primeFor_21 (by decide) ?_
        rw [hQ]
        exact W.iret (v := nI (5)) hx hb hr (fun t ht hW => ⟨⟨_, (), rfl, by unfold prm; rw [if_pos c1, if_pos c2, if_neg c3], by rw [ht]; exact hP, va_K.moved hW.alike hK, hD⟩, hS.F ht⟩) hS.2.2 dX3_primeFor_26
    · skip
      refine lv_iconst (v := nI 3) hx hb dX3_primeFor_12 (by decide) ?_
      rw [hQ]
      exact W.iret (v := nI (3)) hx hb hr (fun t ht hW => ⟨⟨_, (), rfl, by unfold prm; rw [if_pos c1, if_neg c2], by rw [ht]; exact hP, va_K.moved hW.alike hK, hD⟩, hS.F ht⟩) hS.2.2 dX3_primeFor_13
  · skip
    refine lv_iconst (v := nI 2) hx hb dX3_primeFor_5 (by decide) ?_
    rw [hQ]
    exact W.iret (v := nI (2)) hx hb hr (fun t ht hW => ⟨⟨_, (), rfl, by unfold prm; rw [if_neg c1], by rw [ht]; exact hP, va_K.moved hW.alike hK, hD⟩, hS.F ht⟩) hS.2.2 dX3_primeFor_6

set_option maxHeartbeats 4000000 in
set_option maxRecDepth 100000 in
theorem c_X3_join (l : Launch) (dC : Nat → ClassId) (dI : Nat → Nat → Nat) (hfl : l.flags = pinnedFlags ++ [noTraceFlag]) (s0 : State) (A0 : Array Value) (str : Nat) (sz : Nat) (o0 b1 n q : Nat) (x y : Int32) (tm : Nat → Nat) (wk sd : Bool) (cI : ClassId) (v2 v3 v5 v6 v7 : Value) (hn : n < 1000) (hn1 : n < 31) (ht0 : ∀ j, j < n → tm j < 2 ^ 31) : tt_Met l yX3_join wsX3_join ({ frames := 8, cells := 2, slots := 12, locals := 116 }) (va_Pc [.ref o0, .int (x), .int (y)] (fun U => U.heap.size = sz ∧ va_P (dC, dI) vwCl [(o0, .inr (4, [.int (nI (n)), .int (nI (q)), v2, v3, .ref b1, v5, v6, v7, .int (bI wk), .int (bI sd)])), (b1, .inl (cI, n, .inl (fun j => nI (tm j))))] U.heap ∧ va_K (dC, dI) vwCl [(cI, .int)] U ∧ va_D (fun _ => True) [(o0, .inr (4, [.int (nI (n)), .int (nI (q)), v2, v3, .ref b1, v5, v6, v7, .int (bI wk), .int (bI sd)])), (b1, .inl (cI, n, .inl (fun j => nI (tm j))))] ∧ tt_B s0 A0 str U)) (tt_Q ((∃ j : Nat, j < n ∧ x = nI j) ∧ (∃ j : Nat, j < n ∧ y = nI j)) (va_Qi (fun (z : Int32) (u : (Nat → Nat) × Bool × Bool) => ∃ a b : Nat, a < n ∧ b < n ∧ x = nI a ∧ y = nI b ∧ ((z = nI 1 ∧ a ≠ b ∧ tm a / 2 ^ b % 2 = 0 ∧ (∀ c, u.1 c = if c = b then tm b ||| 2 ^ a else if c = a then tm a ||| 2 ^ b else tm c) ∧ u.2 = (false, false)) ∨ (z = nI 0 ∧ (a = b ∨ tm a / 2 ^ b % 2 = 1) ∧ u = (tm, wk, sd)))) (fun u t => va_P (dC, dI) vwCl [(o0, .inr (4, [.int (nI (n)), .int (nI (q)), v2, v3, .ref b1, v5, v6, v7, .int (bI u.2.1), .int (bI u.2.2)])), (b1, .inl (cI, n, .inl (fun j => nI (u.1 j))))] t.heap ∧ va_K (dC, dI) vwCl [(cI, .int)] t ∧ va_D (va_A [(o0, .inr (4, [.int (nI (n)), .int (nI (q)), v2, v3, .ref b1, v5, v6, v7, .int (bI wk), .int (bI sd)])), (b1, .inl (cI, n, .inl (fun j => nI (tm j))))] sz) [(o0, .inr (4, [.int (nI (n)), .int (nI (q)), v2, v3, .ref b1, v5, v6, v7, .int (bI u.2.1), .int (bI u.2.2)])), (b1, .inl (cI, n, .inl (fun j => nI (u.1 j))))]) (va_A [(o0, .inr (4, [.int (nI (n)), .int (nI (q)), v2, v3, .ref b1, v5, v6, v7, .int (bI wk), .int (bI sd)])), (b1, .inl (cI, n, .inl (fun j => nI (tm j))))] sz))) 2 12 (va_A [(o0, .inr (4, [.int (nI (n)), .int (nI (q)), v2, v3, .ref b1, v5, v6, v7, .int (bI wk), .int (bI sd)])), (b1, .inl (cI, n, .inl (fun j => nI (tm j))))] sz) := by
  refine tt_ofW (cc := cX3_join) (maxL := 3) (ret := (some .boolean)) (by decide) rfl ?_
  intro zp ze s m args below meth zc s₁ B hml hv
  obtain ⟨hargs, hsz, hP, hK, hD0, hB⟩ := hv
  have hx := B.exec
  have hb := B.bytes
  have hr := B.returns
  have hts := atoms_spec (ws := wsX3_join) B.pre
  have hown : s.vm.findClass RX3 = some m.cls := findClass_of_methodNamed B.named
  have hlocks := B.notSynchronized
  have hemp := B.noHandlers (hts _ List.mem_cons_self)
  subst hsz
  obtain ⟨Q, hQ⟩ : ∃ Q, Q = tt_MQ below (tt_Q ((∃ j : Nat, j < n ∧ x = nI j) ∧ (∃ j : Nat, j < n ∧ y = nI j)) (va_Qi (fun (z : Int32) (u : (Nat → Nat) × Bool × Bool) => ∃ a b : Nat, a < n ∧ b < n ∧ x = nI a ∧ y = nI b ∧ ((z = nI 1 ∧ a ≠ b ∧ tm a / 2 ^ b % 2 = 0 ∧ (∀ c, u.1 c = if c = b then tm b ||| 2 ^ a else if c = a then tm a ||| 2 ^ b else tm c) ∧ u.2 = (false, false)) ∨ (z = nI 0 ∧ (a = b ∨ tm a / 2 ^ b % 2 = 1) ∧ u = (tm, wk, sd)))) (fun u t => va_P (dC, dI) vwCl [(o0, .inr (4, [.int (nI (n)), .int (nI (q)), v2, v3, .ref b1, v5, v6, v7, .int (bI u.2.1), .int (bI u.2.2)])), (b1, .inl (cI, n, .inl (fun j => nI (u.1 j))))] t.heap ∧ va_K (dC, dI) vwCl [(cI, .int)] t ∧ va_D (va_A [(o0, .inr (4, [.int (nI (n)), .int (nI (q)), v2, v3, .ref b1, v5, v6, v7, .int (bI wk), .int (bI sd)])), (b1, .inl (cI, n, .inl (fun j => nI (tm j))))] s.heap.size) [(o0, .inr (4, [.int (nI (n)), .int (nI (q)), v2, v3, .ref b1, v5, v6, v7, .int (bI u.2.1), .int (bI u.2.2)])), (b1, .inl (cI, n, .inl (fun j => nI (u.1 j))))]) (va_A [(o0, .inr (4, [.int (nI (n)), .int (nI (q)), v2, v3, .ref b1, v5, v6, v7, .int (bI wk), .int (bI sd)])), (b1, .inl (cI, n, .inl (fun j => nI (tm j))))] s.heap.size))) args s 2 12 (va_A [(o0, .inr (4, [.int (nI (n)), .int (nI (q)), v2, v3, .ref b1, v5, v6, v7, .int (bI wk), .int (bI sd)])), (b1, .inl (cI, n, .inl (fun j => nI (tm j))))] s.heap.size) := ⟨_, rfl⟩
  rw [← hQ]
  have hD := hD0.self (sz := s.heap.size)
  generalize hAe : (va_A [(o0, .inr (4, [.int (nI (n)), .int (nI (q)), v2, v3, .ref b1, v5, v6, v7, .int (bI wk), .int (bI sd)])), (b1, .inl (cI, n, .inl (fun j => nI (tm j))))] s.heap.size) = A at hD hQ
  have hA : ∀ q : Nat, s.heap.size ≤ q → A q := fun q h => by rw [← hAe]; exact Or.inr h
  have hS : va_S A s.heap s.heap [] := va_S.rf
  have hl := lv_entry ([.ref o0, .int (x), .int (y)]) (n := 3) (Nat.le_of_ble_eq_true rfl)
  generalize hen : entryFrame m args 3 = fr
  rw [hargs, lg_entry_eq] at hen
  subst hen
  generalize (lg_sl ([.ref o0, .int (x), .int (y)]) ++ List.replicate (3 - (lg_sl ([.ref o0, .int (x), .int (y)])).length) Slot.unset).toArray = ls at hl ⊢
  have hl : lv_has ls 3 [(0, .ref o0), (1, .int (x)), (2, .int (y))] := hl
  have hinX3 : ∀ w ∈ wsX30, w ∈ wsX3_join := by decide +kernel
  have hf18 := hts (.fieldLink RX3 18 "LightRows" "lamps" "I") (by decide +kernel)
  have hf36 := hts (.fieldLink RX3 36 "LightRows" "touched" "[I") (by decide +kernel)
  have hf62 := hts (.fieldLink RX3 62 "LightRows" "worked" "Z") (by decide +kernel)
  have hf66 := hts (.fieldLink RX3 66 "LightRows" "searched" "Z") (by decide +kernel)
  refine lv_aload_n hx hb dX3_join_0 rfl (lv_at hl 0 rfl) ?_
  refine lv_iload_n hx hb dX3_join_1 rfl (lv_at hl 1 rfl) ?_
  have hPc := hP.sub (ws' := [(o0, .inr (4, [.int (nI (n)), .int (nI (q)), v2, v3, .ref b1, v5, v6, v7, .int (bI wk), .int (bI sd)]))]) [0] rfl
  have hDc := hD.sub (ws' := [(o0, .inr (4, [.int (nI (n)), .int (nI (q)), v2, v3, .ref b1, v5, v6, v7, .int (bI wk), .int (bI sd)]))]) [0] (by decide) rfl
  have hKc := hK.sub (tys' := []) [] rfl
  rw [hQ]
  refine tt_must (mc := 1) (ms := 6) (tt_runV (As := [.int (x)]) (rest := []) ⟨hx, hb, hml, hown, hts⟩ (c_X3_mustExist l dC dI hfl s0 A0 str s.heap.size o0 n (.int (nI (q))) (v2) (v3) (.ref b1) (v5) (v6) (v7) (.int (bI wk)) (.int (bI sd)) (x) hn) (cwV 1 hts gX3_join_X3_mustExist rfl rfl rfl (by decide +kernel) ⟨Nat.le_of_ble_eq_true rfl, Nat.le_of_ble_eq_true rfl⟩) ⟨fun a U g mk q => by obtain ⟨q0, q1, qP, qK, qD, qB⟩ := q; exact ⟨q0, q1, qP, va_K.moved (u := U) (U := U.calling g mk a) (Vm.Alike.refl U.vm) qK, qD, qB.blind rfl rfl⟩, va_recv hKc hPc (ci := 4) (q0 := 0) rfl rfl, fun U hU hW => ⟨rfl, by rw [hU], by rw [hU]; exact hPc, va_K.moved hW.alike hKc, hDc.weaken (fun _ _ _ _ => trivial), hB.later hU hW⟩⟩ rfl rfl hl.1 rfl (lv_room (Nat.le_of_ble_eq_true rfl)) dX3_join_2 ⟨Nat.le_of_ble_eq_true rfl, Nat.le_of_ble_eq_true rfl⟩) hemp hlocks (Nat.le_of_ble_eq_true rfl) (Nat.le_of_ble_eq_true rfl) (fun h h2 => h h2.1) (fun hin => ?_)
  rw [← hQ]
  obtain ⟨ja, hja, eja⟩ := id hin
  subst eja
  refine lv_aload_n hx hb dX3_join_5 rfl (lv_at hl 0 rfl) ?_
  refine lv_iload_n hx hb dX3_join_6 rfl (lv_at hl 2 rfl) ?_
  have hPc := hP.sub (ws' := [(o0, .inr (4, [.int (nI (n)), .int (nI (q)), v2, v3, .ref b1, v5, v6, v7, .int (bI wk), .int (bI sd)]))]) [0] rfl
  have hDc := hD.sub (ws' := [(o0, .inr (4, [.int (nI (n)), .int (nI (q)), v2, v3, .ref b1, v5, v6, v7, .int (bI wk), .int (bI sd)]))]) [0] (by decide) rfl
  have hKc := hK.sub (tys' := []) [] rfl
  rw [hQ]
  refine tt_must (mc := 1) (ms := 6) (tt_runV (As := [.int (y)]) (rest := []) ⟨hx, hb, hml, hown, hts⟩ (c_X3_mustExist l dC dI hfl s0 A0 str s.heap.size o0 n (.int (nI (q))) (v2) (v3) (.ref b1) (v5) (v6) (v7) (.int (bI wk)) (.int (bI sd)) (y) hn) (cwV 1 hts gX3_join_X3_mustExist rfl rfl rfl (by decide +kernel) ⟨Nat.le_of_ble_eq_true rfl, Nat.le_of_ble_eq_true rfl⟩) ⟨fun a U g mk q => by obtain ⟨q0, q1, qP, qK, qD, qB⟩ := q; exact ⟨q0, q1, qP, va_K.moved (u := U) (U := U.calling g mk a) (Vm.Alike.refl U.vm) qK, qD, qB.blind rfl rfl⟩, va_recv hKc hPc (ci := 4) (q0 := 0) rfl rfl, fun U hU hW => ⟨rfl, by rw [hU], by rw [hU]; exact hPc, va_K.moved hW.alike hKc, hDc.weaken (fun _ _ _ _ => trivial), hB.later hU hW⟩⟩ rfl rfl hl.1 rfl (lv_room (Nat.le_of_ble_eq_true rfl)) dX3_join_7 ⟨Nat.le_of_ble_eq_true rfl, Nat.le_of_ble_eq_true rfl⟩) hemp hlocks (Nat.le_of_ble_eq_true rfl) (Nat.le_of_ble_eq_true rfl) (fun h h2 => h h2.2) (fun hin2 => ?_)
  rw [← hQ]
  obtain ⟨jb, hjb, ejb⟩ := id hin2
  subst ejb
  refine lv_iload_n hx hb dX3_join_10 rfl (lv_at hl 1 rfl) ?_
  refine lv_iload_n hx hb dX3_join_11 rfl (lv_at hl 2 rfl) ?_
  refine lv_icmp_eq (tgt := 24) hx hb dX3_join_12 (by decide) (fun c => ?_) (fun c => ?_)
  · skip
    have c : ja = jb := (nI_eq (a := ja) (b := jb) (by omega) (by omega)).mp c
    refine lv_iconst (v := nI 0) hx hb dX3_join_24 (by decide) ?_
    rw [hQ]
    refine tt_ret (⟨⟨ja, hja, rfl⟩, ⟨jb, hjb, rfl⟩⟩) ?_
    exact W.zret (v := nI (0)) (ty := .boolean) hx hb hr rfl (fun t ht hW => ⟨⟨_, (tm, wk, sd), rfl, ⟨ja, jb, hja, hjb, rfl, rfl, Or.inr ⟨rfl, Or.inl c, rfl⟩⟩, by rw [ht]; exact hP, va_K.moved hW.alike hK, hD⟩, hS.F ht⟩) hS.2.2 dX3_join_25
  · skip
    have c : ja ≠ jb := fun h => c ((nI_eq (a := ja) (b := jb) (by omega) (by omega)).mpr h)
    refine lv_aload_n hx hb dX3_join_15 rfl (lv_at hl 0 rfl) ?_
    refine lv_iload_n hx hb dX3_join_16 rfl (lv_at hl 1 rfl) ?_
    refine lv_iload_n hx hb dX3_join_17 rfl (lv_at hl 2 rfl) ?_
    have hPc := hP.sub (ws' := [(o0, .inr (4, [.int (nI (n)), .int (nI (q)), v2, v3, .ref b1, v5, v6, v7, .int (bI wk), .int (bI sd)])), (b1, .inl (cI, n, .inl (fun j => nI (tm j))))]) [0, 1] rfl
    have hDc := hD.sub (ws' := [(o0, .inr (4, [.int (nI (n)), .int (nI (q)), v2, v3, .ref b1, v5, v6, v7, .int (bI wk), .int (bI sd)])), (b1, .inl (cI, n, .inl (fun j => nI (tm j))))]) [0, 1] (by decide) rfl
    have hFc := va_free (wc := [(o0, .inr (4, [.int (nI (n)), .int (nI (q)), v2, v3, .ref b1, v5, v6, v7, .int (bI wk), .int (bI sd)])), (b1, .inl (cI, n, .inl (fun j => nI (tm j))))]) hD hS hA [0, 1] rfl
    have hKc := hK.sub (tys' := [(cI, .int)]) [0] rfl
    refine va_calli (va_runV (As := [.int (nI (ja)), .int (nI (jb))]) (rest := []) ⟨hx, hb, hml, hown, hts⟩ (c_X3_touches l dC dI s.heap.size o0 b1 n q ja jb tm wk sd cI v2 v3 v5 v6 v7 hn1 hja hjb (ht0 ja hja)) (cwV 2 hts gX3_join_X3_touches rfl rfl rfl (by decide +kernel) ⟨Nat.le_of_ble_eq_true rfl, Nat.le_of_ble_eq_true rfl⟩) ⟨fun a U g mk q => by obtain ⟨q0, q1, qP, qK, qD⟩ := q; exact ⟨q0, q1, qP, va_K.moved (u := U) (U := U.calling g mk a) (Vm.Alike.refl U.vm) qK, qD⟩, va_recv hKc hPc (ci := 4) (q0 := 0) rfl rfl, fun U hU hW => ⟨rfl, by rw [hU], by rw [hU]; exact hPc, va_K.moved hW.alike hKc, hDc.weaken (fun _ _ _ _ => trivial)⟩⟩ rfl rfl hl.1 rfl (lv_room (Nat.le_of_ble_eq_true rfl)) dX3_join_18 ⟨Nat.le_of_ble_eq_true rfl, Nat.le_of_ble_eq_true rfl⟩) hS (fun q _ h => hFc q h) hFc (fun r1 u t H1 locs ht hvm hw hB hz1 hk1 hS => ?_)
    obtain ⟨hP1, hK1, hD1⟩ := hB
    rw [ht] at hP1
    try dsimp only at hw
    obtain ⟨hP, hD⟩ := va_join (wr := []) (w1 := [(o0, .inr (4, [.int (nI (n)), .int (nI (q)), v2, v3, .ref b1, v5, v6, v7, .int (bI wk), .int (bI sd)])), (b1, .inl (cI, n, .inl (fun j => nI (tm j))))]) hP hD [0, 1] [] rfl rfl (by decide) (by decide) hk1 hFc hP1 hD1
    generalize H1 = H at hP hS ⊢
    have hP := hP.sub (ws' := [(o0, .inr (4, [.int (nI (n)), .int (nI (q)), v2, v3, .ref b1, v5, v6, v7, .int (bI wk), .int (bI sd)])), (b1, .inl (cI, n, .inl (fun j => nI (tm j))))]) [0, 1] rfl
    have hD := hD.sub (ws' := [(o0, .inr (4, [.int (nI (n)), .int (nI (q)), v2, v3, .ref b1, v5, v6, v7, .int (bI wk), .int (bI sd)])), (b1, .inl (cI, n, .inl (fun j => nI (tm j))))]) [0, 1] (by decide) rfl
    have hP : va_P (dC, dI) vwCl [(o0, .inr (4, [.int (nI (n)), .int (nI (q)), v2, v3, .ref b1, v5, v6, v7, .int (bI wk), .int (bI sd)])), (b1, .inl (cI, n, .inl (fun j => nI (tm j))))] H := hP
    have hD : va_D A [(o0, .inr (4, [.int (nI (n)), .int (nI (q)), v2, v3, .ref b1, v5, v6, v7, .int (bI wk), .int (bI sd)])), (b1, .inl (cI, n, .inl (fun j => nI (tm j))))] := hD
    subst hw
    rcases hbt : decide (tm ja / 2 ^ jb % 2 = 1) with _ | _
    · skip
      refine tp_i (y := nI 0) rfl ?_
      refine lv_if_eq (tgt := 26) hx hb dX3_join_21 (by decide) (fun c4 => ?_) (fun c4 => ?_)
      · skip
        have c4 : 0 = 0 := (nI_eq (a := 0) (b := 0) (by omega) (by omega)).mp c4
        have hbt := of_decide_eq_false hbt
        refine lv_aload_n hx hb dX3_join_26 rfl (lv_at hl 0 rfl) ?_
        refine va_get (D := (dC, dI)) (ci := 4) (v := .ref b1) (C := RX3) (T := TX3) (N := 10) hx hb hts hinX3 hown hK hP 0 rfl rfl 4 (by decide) hf36 (fun _ h9 => h9) rfl dX3_join_27 ?_
        refine lv_iload_n hx hb dX3_join_30 rfl (lv_at hl 1 rfl) ?_
        refine lv_dup2_11 hx hb dX3_join_31 rfl rfl ?_
        refine ra_ld (g := nI) (F := tm) hx hb hK hP 1 0 rfl rfl (by omega) (by omega) dX3_join_32 ?_
        refine lv_iconst (v := nI 1) hx hb dX3_join_33 (by decide) ?_
        refine lv_iload_n hx hb dX3_join_34 rfl (lv_at hl 2 rfl) ?_
        refine lv_ishl hx hb dX3_join_35 ?_
        refine tp_i (y := nI (2 ^ jb)) (nI_shl1 (by omega)) ?_
        refine lv_ior hx hb dX3_join_36 ?_
        refine tp_i (y := nI ((tm ja) ||| (2 ^ jb))) (nI_or _ _) ?_
        refine ra_st (g := nI) (F := tm) (v := (tm ja) ||| (2 ^ jb)) hx hb hK hP hD hS 1 0 rfl rfl (by omega) (by omega) dX3_join_37 (fun H locs hP hD hS => ?_)
        have hP : va_P (dC, dI) vwCl [(o0, .inr (4, [.int (nI (n)), .int (nI (q)), v2, v3, .ref b1, v5, v6, v7, .int (bI wk), .int (bI sd)])), (b1, .inl (cI, n, .inl (fun j => nI ((va_up tm ja ((tm ja) ||| (2 ^ jb))) j))))] H := hP
        have hD : va_D A [(o0, .inr (4, [.int (nI (n)), .int (nI (q)), v2, v3, .ref b1, v5, v6, v7, .int (bI wk), .int (bI sd)])), (b1, .inl (cI, n, .inl (fun j => nI ((va_up tm ja ((tm ja) ||| (2 ^ jb))) j))))] := hD
        refine lv_aload_n hx hb dX3_join_38 rfl (lv_at hl 0 rfl) ?_
        refine va_get (D := (dC, dI)) (ci := 4) (v := .ref b1) (C := RX3) (T := TX3) (N := 10) hx hb hts hinX3 hown hK hP 0 rfl rfl 4 (by decide) hf36 (fun _ h9 => h9) rfl dX3_join_39 ?_
        refine lv_iload_n hx hb dX3_join_42 rfl (lv_at hl 2 rfl) ?_
        refine lv_dup2_11 hx hb dX3_join_43 rfl rfl ?_
        refine ra_ld (g := nI) (F := (va_up tm ja ((tm ja) ||| (2 ^ jb)))) hx hb hK hP 1 0 rfl rfl (by omega) (by omega) dX3_join_44 ?_
        refine lv_iconst (v := nI 1) hx hb dX3_join_45 (by decide) ?_
        refine lv_iload_n hx hb dX3_join_46 rfl (lv_at hl 1 rfl) ?_
        refine lv_ishl hx hb dX3_join_47 ?_
        refine tp_i (y := nI (2 ^ ja)) (nI_shl1 (by omega)) ?_
        refine lv_ior hx hb dX3_join_48 ?_
        refine tp_i (y := nI (((va_up tm ja ((tm ja) ||| (2 ^ jb))) jb) ||| (2 ^ ja))) (nI_or _ _) ?_
        refine ra_st (g := nI) (F := (va_up tm ja ((tm ja) ||| (2 ^ jb)))) (v := ((va_up tm ja ((tm ja) ||| (2 ^ jb))) jb) ||| (2 ^ ja)) hx hb hK hP hD hS 1 0 rfl rfl (by omega) (by omega) dX3_join_49 (fun H locs hP hD hS => ?_)
        have hP : va_P (dC, dI) vwCl [(o0, .inr (4, [.int (nI (n)), .int (nI (q)), v2, v3, .ref b1, v5, v6, v7, .int (bI wk), .int (bI sd)])), (b1, .inl (cI, n, .inl (fun j => nI ((va_up (va_up tm ja ((tm ja) ||| (2 ^ jb))) jb (((va_up tm ja ((tm ja) ||| (2 ^ jb))) jb) ||| (2 ^ ja))) j))))] H := hP
        have hD : va_D A [(o0, .inr (4, [.int (nI (n)), .int (nI (q)), v2, v3, .ref b1, v5, v6, v7, .int (bI wk), .int (bI sd)])), (b1, .inl (cI, n, .inl (fun j => nI ((va_up (va_up tm ja ((tm ja) ||| (2 ^ jb))) jb (((va_up tm ja ((tm ja) ||| (2 ^ jb))) jb) ||| (2 ^ ja))) j))))] := hD
        refine lv_aload_n hx hb dX3_join_50 rfl (lv_at hl 0 rfl) ?_
        have hPc := hP.sub (ws' := [(o0, .inr (4, [.int (nI (n)), .int (nI (q)), v2, v3, .ref b1, v5, v6, v7, .int (bI wk), .int (bI sd)]))]) [0] rfl
        have hDc := hD.sub (ws' := [(o0, .inr (4, [.int (nI (n)), .int (nI (q)), v2, v3, .ref b1, v5, v6, v7, .int (bI wk), .int (bI sd)]))]) [0] (by decide) rfl
        have hFc := va_free (wc := [(o0, .inr (4, [.int (nI (n)), .int (nI (q)), v2, v3, .ref b1, v5, v6, v7, .int (bI wk), .int (bI sd)]))]) hD hS hA [0] rfl
        have hKc := hK.sub (tys' := []) [] rfl
        refine va_callv (va_runV (As := []) (rest := []) ⟨hx, hb, hml, hown, hts⟩ (c_X3_forget l dC dI H.size o0 n q (bI wk) (bI sd) v2 v3 (.ref b1) v5 v6 v7) (cwV 0 hts gX3_join_X3_forget rfl rfl rfl (by decide +kernel) ⟨Nat.le_of_ble_eq_true rfl, Nat.le_of_ble_eq_true rfl⟩) ⟨fun a U g mk q => by obtain ⟨q0, q1, qP, qK, qD⟩ := q; exact ⟨q0, q1, qP, va_K.moved (u := U) (U := U.calling g mk a) (Vm.Alike.refl U.vm) qK, qD⟩, va_recv hKc hPc (ci := 4) (q0 := 0) rfl rfl, fun U hU hW => ⟨rfl, by rw [hU], by rw [hU]; exact hPc, va_K.moved hW.alike hKc, hDc.weaken (fun _ _ _ _ => trivial)⟩⟩ rfl rfl hl.1 rfl (lv_room (Nat.le_of_ble_eq_true rfl)) dX3_join_51 ⟨Nat.le_of_ble_eq_true rfl, Nat.le_of_ble_eq_true rfl⟩) hS (fun q _ h => hFc q h) hFc (fun u t H1 locs ht hvm hw hB hz1 hk1 hS => ?_)
        obtain ⟨hP1, hK1, hD1⟩ := hB
        rw [ht] at hP1
        try dsimp only at hw
        obtain ⟨hP, hD⟩ := va_join (wr := [(b1, .inl (cI, n, .inl (fun j => nI ((va_up (va_up tm ja ((tm ja) ||| (2 ^ jb))) jb (((va_up tm ja ((tm ja) ||| (2 ^ jb))) jb) ||| (2 ^ ja))) j))))]) (w1 := [(o0, .inr (4, [.int (nI (n)), .int (nI (q)), v2, v3, .ref b1, v5, v6, v7, .int (bI false), .int (bI false)]))]) hP hD [0] [1] rfl rfl (by decide) (by decide) hk1 hFc hP1 hD1
        generalize H1 = H at hP hS ⊢
        have hP := hP.sub (ws' := [(o0, .inr (4, [.int (nI (n)), .int (nI (q)), v2, v3, .ref b1, v5, v6, v7, .int (bI false), .int (bI false)])), (b1, .inl (cI, n, .inl (fun j => nI ((va_up (va_up tm ja ((tm ja) ||| (2 ^ jb))) jb (((va_up tm ja ((tm ja) ||| (2 ^ jb))) jb) ||| (2 ^ ja))) j))))]) [1, 0] rfl
        have hD := hD.sub (ws' := [(o0, .inr (4, [.int (nI (n)), .int (nI (q)), v2, v3, .ref b1, v5, v6, v7, .int (bI false), .int (bI false)])), (b1, .inl (cI, n, .inl (fun j => nI ((va_up (va_up tm ja ((tm ja) ||| (2 ^ jb))) jb (((va_up tm ja ((tm ja) ||| (2 ^ jb))) jb) ||| (2 ^ ja))) j))))]) [1, 0] (by decide) rfl
        have hP : va_P (dC, dI) vwCl [(o0, .inr (4, [.int (nI (n)), .int (nI (q)), v2, v3, .ref b1, v5, v6, v7, .int (bI false), .int (bI false)])), (b1, .inl (cI, n, .inl (fun j => nI ((va_up (va_up tm ja ((tm ja) ||| (2 ^ jb))) jb (((va_up tm ja ((tm ja) ||| (2 ^ jb))) jb) ||| (2 ^ ja))) j))))] H := hP
        have hD : va_D A [(o0, .inr (4, [.int (nI (n)), .int (nI (q)), v2, v3, .ref b1, v5, v6, v7, .int (bI false), .int (bI false)])), (b1, .inl (cI, n, .inl (fun j => nI ((va_up (va_up tm ja ((tm ja) ||| (2 ^ jb))) jb (((va_up tm ja ((tm ja) ||| (2 ^ jb))) jb) ||| (2 ^ ja))) j))))] := hD
        refine lv_iconst (v := nI 1) hx hb dX3_join_54 (by decide) ?_
        rw [hQ]
        refine tt_ret (⟨⟨ja, hja, rfl⟩, ⟨jb, hjb, rfl⟩⟩) ?_
        exact W.zret (v := nI (1)) (ty := .boolean) hx hb hr rfl (fun t ht hW => ⟨⟨_, (va_up (va_up tm ja (tm ja ||| 2 ^ jb)) jb (va_up tm ja (tm ja ||| 2 ^ jb) jb ||| 2 ^ ja), false, false), rfl, ⟨ja, jb, hja, hjb, rfl, rfl, Or.inl ⟨rfl, c, by have := Nat.mod_two_eq_zero_or_one (tm ja / 2 ^ jb); omega, fun d => by
              show (va_up (va_up tm ja (tm ja ||| 2 ^ jb)) jb (va_up tm ja (tm ja ||| 2 ^ jb) jb ||| 2 ^ ja)) d = _
              by_cases e1 : d = jb
              · rw [e1, up_at, up_of _ _ (Ne.symm c), if_pos rfl]
              · rw [up_of _ _ e1, if_neg e1]
                by_cases e2 : d = ja
                · rw [e2, up_at, if_pos rfl]
                · rw [up_of _ _ e2, if_neg e2], rfl⟩⟩, by rw [ht]; exact hP, va_K.moved hW.alike hK, hD⟩, hS.F ht⟩) hS.2.2 dX3_join_55
      · skip
        have c4 : 0 ≠ 0 := fun h => c4 ((nI_eq (a := 0) (b := 0) (by omega) (by omega)).mpr h)
        exact absurd rfl c4
    · skip
      refine tp_i (y := nI 1) rfl ?_
      refine lv_if_eq (tgt := 26) hx hb dX3_join_21 (by decide) (fun c4 => ?_) (fun c4 => ?_)
      · skip
        have c4 : 1 = 0 := (nI_eq (a := 1) (b := 0) (by omega) (by omega)).mp c4
        exact absurd c4 (by decide)
      · skip
        have c4 : 1 ≠ 0 := fun h => c4 ((nI_eq (a := 1) (b := 0) (by omega) (by omega)).mpr h)
        refine lv_iconst (v := nI 0) hx hb dX3_join_24 (by decide) ?_
        rw [hQ]
        refine tt_ret (⟨⟨ja, hja, rfl⟩, ⟨jb, hjb, rfl⟩⟩) ?_
        exact W.zret (v := nI (0)) (ty := .boolean) hx hb hr rfl (fun t ht hW => ⟨⟨_, (tm, wk, sd), rfl, ⟨ja, jb, hja, hjb, rfl, rfl, Or.inr ⟨rfl, Or.inr (of_decide_eq_true hbt), rfl⟩⟩, by rw [ht]; exact hP, va_K.moved hW.alike hK, hD⟩, hS.F ht⟩) hS.2.2 dX3_join_25

set_option maxHeartbeats 4000000 in
set_option maxRecDepth 100000 in
theorem c_X3_self (l : Launch) (dC : Nat → ClassId) (dI : Nat → Nat → Nat) (hfl : l.flags = pinnedFlags ++ [noTraceFlag]) (s0 : State) (A0 : Array Value) (str : Nat) (sz : Nat) (o0 b1 n q : Nat) (x : Int32) (on : Bool) (tm : Nat → Nat) (wk sd : Bool) (cI : ClassId) (v2 v3 v5 v6 v7 : Value) (hn : n < 1000) (hn1 : n < 31) (ht0 : ∀ j, j < n → tm j < 2 ^ 31) : tt_Met l yX3_self wsX3_self ({ frames := 8, cells := 1, slots := 6, locals := 116 }) (va_Pc [.ref o0, .int (x), .int (bI on)] (fun U => U.heap.size = sz ∧ va_P (dC, dI) vwCl [(o0, .inr (4, [.int (nI (n)), .int (nI (q)), v2, v3, .ref b1, v5, v6, v7, .int (bI wk), .int (bI sd)])), (b1, .inl (cI, n, .inl (fun j => nI (tm j))))] U.heap ∧ va_K (dC, dI) vwCl [(cI, .int)] U ∧ va_D (fun _ => True) [(o0, .inr (4, [.int (nI (n)), .int (nI (q)), v2, v3, .ref b1, v5, v6, v7, .int (bI wk), .int (bI sd)])), (b1, .inl (cI, n, .inl (fun j => nI (tm j))))] ∧ tt_B s0 A0 str U)) (tt_Q (∃ j : Nat, j < n ∧ x = nI j) (va_Qi (fun (z : Int32) (u : (Nat → Nat) × Bool × Bool) => ∃ a : Nat, a < n ∧ x = nI a ∧ ((z = nI 1 ∧ decide (tm a / 2 ^ a % 2 = 1) ≠ on ∧ u = (va_up tm a (tm a ^^^ 2 ^ a), false, false)) ∨ (z = nI 0 ∧ decide (tm a / 2 ^ a % 2 = 1) = on ∧ u = (tm, wk, sd)))) (fun u t => va_P (dC, dI) vwCl [(o0, .inr (4, [.int (nI (n)), .int (nI (q)), v2, v3, .ref b1, v5, v6, v7, .int (bI u.2.1), .int (bI u.2.2)])), (b1, .inl (cI, n, .inl (fun j => nI (u.1 j))))] t.heap ∧ va_K (dC, dI) vwCl [(cI, .int)] t ∧ va_D (va_A [(o0, .inr (4, [.int (nI (n)), .int (nI (q)), v2, v3, .ref b1, v5, v6, v7, .int (bI wk), .int (bI sd)])), (b1, .inl (cI, n, .inl (fun j => nI (tm j))))] sz) [(o0, .inr (4, [.int (nI (n)), .int (nI (q)), v2, v3, .ref b1, v5, v6, v7, .int (bI u.2.1), .int (bI u.2.2)])), (b1, .inl (cI, n, .inl (fun j => nI (u.1 j))))]) (va_A [(o0, .inr (4, [.int (nI (n)), .int (nI (q)), v2, v3, .ref b1, v5, v6, v7, .int (bI wk), .int (bI sd)])), (b1, .inl (cI, n, .inl (fun j => nI (tm j))))] sz))) 1 6 (va_A [(o0, .inr (4, [.int (nI (n)), .int (nI (q)), v2, v3, .ref b1, v5, v6, v7, .int (bI wk), .int (bI sd)])), (b1, .inl (cI, n, .inl (fun j => nI (tm j))))] sz) := by
  refine tt_ofW (cc := cX3_self) (maxL := 3) (ret := (some .boolean)) (by decide) rfl ?_
  intro zp ze s m args below meth zc s₁ B hml hv
  obtain ⟨hargs, hsz, hP, hK, hD0, hB⟩ := hv
  have hx := B.exec
  have hb := B.bytes
  have hr := B.returns
  have hts := atoms_spec (ws := wsX3_self) B.pre
  have hown : s.vm.findClass RX3 = some m.cls := findClass_of_methodNamed B.named
  have hlocks := B.notSynchronized
  have hemp := B.noHandlers (hts _ List.mem_cons_self)
  subst hsz
  obtain ⟨Q, hQ⟩ : ∃ Q, Q = tt_MQ below (tt_Q (∃ j : Nat, j < n ∧ x = nI j) (va_Qi (fun (z : Int32) (u : (Nat → Nat) × Bool × Bool) => ∃ a : Nat, a < n ∧ x = nI a ∧ ((z = nI 1 ∧ decide (tm a / 2 ^ a % 2 = 1) ≠ on ∧ u = (va_up tm a (tm a ^^^ 2 ^ a), false, false)) ∨ (z = nI 0 ∧ decide (tm a / 2 ^ a % 2 = 1) = on ∧ u = (tm, wk, sd)))) (fun u t => va_P (dC, dI) vwCl [(o0, .inr (4, [.int (nI (n)), .int (nI (q)), v2, v3, .ref b1, v5, v6, v7, .int (bI u.2.1), .int (bI u.2.2)])), (b1, .inl (cI, n, .inl (fun j => nI (u.1 j))))] t.heap ∧ va_K (dC, dI) vwCl [(cI, .int)] t ∧ va_D (va_A [(o0, .inr (4, [.int (nI (n)), .int (nI (q)), v2, v3, .ref b1, v5, v6, v7, .int (bI wk), .int (bI sd)])), (b1, .inl (cI, n, .inl (fun j => nI (tm j))))] s.heap.size) [(o0, .inr (4, [.int (nI (n)), .int (nI (q)), v2, v3, .ref b1, v5, v6, v7, .int (bI u.2.1), .int (bI u.2.2)])), (b1, .inl (cI, n, .inl (fun j => nI (u.1 j))))]) (va_A [(o0, .inr (4, [.int (nI (n)), .int (nI (q)), v2, v3, .ref b1, v5, v6, v7, .int (bI wk), .int (bI sd)])), (b1, .inl (cI, n, .inl (fun j => nI (tm j))))] s.heap.size))) args s 1 6 (va_A [(o0, .inr (4, [.int (nI (n)), .int (nI (q)), v2, v3, .ref b1, v5, v6, v7, .int (bI wk), .int (bI sd)])), (b1, .inl (cI, n, .inl (fun j => nI (tm j))))] s.heap.size) := ⟨_, rfl⟩
  rw [← hQ]
  have hD := hD0.self (sz := s.heap.size)
  generalize hAe : (va_A [(o0, .inr (4, [.int (nI (n)), .int (nI (q)), v2, v3, .ref b1, v5, v6, v7, .int (bI wk), .int (bI sd)])), (b1, .inl (cI, n, .inl (fun j => nI (tm j))))] s.heap.size) = A at hD hQ
  have hA : ∀ q : Nat, s.heap.size ≤ q → A q := fun q h => by rw [← hAe]; exact Or.inr h
  have hS : va_S A s.heap s.heap [] := va_S.rf
  have hl := lv_entry ([.ref o0, .int (x), .int (bI on)]) (n := 3) (Nat.le_of_ble_eq_true rfl)
  generalize hen : entryFrame m args 3 = fr
  rw [hargs, lg_entry_eq] at hen
  subst hen
  generalize (lg_sl ([.ref o0, .int (x), .int (bI on)]) ++ List.replicate (3 - (lg_sl ([.ref o0, .int (x), .int (bI on)])).length) Slot.unset).toArray = ls at hl ⊢
  have hl : lv_has ls 3 [(0, .ref o0), (1, .int (x)), (2, .int (bI on))] := hl
  have hinX3 : ∀ w ∈ wsX30, w ∈ wsX3_self := by decide +kernel
  have hf18 := hts (.fieldLink RX3 18 "LightRows" "lamps" "I") (by decide +kernel)
  have hf36 := hts (.fieldLink RX3 36 "LightRows" "touched" "[I") (by decide +kernel)
  have hf62 := hts (.fieldLink RX3 62 "LightRows" "worked" "Z") (by decide +kernel)
  have hf66 := hts (.fieldLink RX3 66 "LightRows" "searched" "Z") (by decide +kernel)
  refine lv_aload_n hx hb dX3_self_0 rfl (lv_at hl 0 rfl) ?_
  refine lv_iload_n hx hb dX3_self_1 rfl (lv_at hl 1 rfl) ?_
  have hPc := hP.sub (ws' := [(o0, .inr (4, [.int (nI (n)), .int (nI (q)), v2, v3, .ref b1, v5, v6, v7, .int (bI wk), .int (bI sd)]))]) [0] rfl
  have hDc := hD.sub (ws' := [(o0, .inr (4, [.int (nI (n)), .int (nI (q)), v2, v3, .ref b1, v5, v6, v7, .int (bI wk), .int (bI sd)]))]) [0] (by decide) rfl
  have hKc := hK.sub (tys' := []) [] rfl
  rw [hQ]
  refine tt_must (mc := 1) (ms := 6) (tt_runV (As := [.int (x)]) (rest := []) ⟨hx, hb, hml, hown, hts⟩ (c_X3_mustExist l dC dI hfl s0 A0 str s.heap.size o0 n (.int (nI (q))) (v2) (v3) (.ref b1) (v5) (v6) (v7) (.int (bI wk)) (.int (bI sd)) (x) hn) (cwV 1 hts gX3_self_X3_mustExist rfl rfl rfl (by decide +kernel) ⟨Nat.le_of_ble_eq_true rfl, Nat.le_of_ble_eq_true rfl⟩) ⟨fun a U g mk q => by obtain ⟨q0, q1, qP, qK, qD, qB⟩ := q; exact ⟨q0, q1, qP, va_K.moved (u := U) (U := U.calling g mk a) (Vm.Alike.refl U.vm) qK, qD, qB.blind rfl rfl⟩, va_recv hKc hPc (ci := 4) (q0 := 0) rfl rfl, fun U hU hW => ⟨rfl, by rw [hU], by rw [hU]; exact hPc, va_K.moved hW.alike hKc, hDc.weaken (fun _ _ _ _ => trivial), hB.later hU hW⟩⟩ rfl rfl hl.1 rfl (lv_room (Nat.le_of_ble_eq_true rfl)) dX3_self_2 ⟨Nat.le_of_ble_eq_true rfl, Nat.le_of_ble_eq_true rfl⟩) hemp hlocks (Nat.le_of_ble_eq_true rfl) (Nat.le_of_ble_eq_true rfl) (id) (fun hin => ?_)
  rw [← hQ]
  obtain ⟨ja, hja, eja⟩ := id hin
  subst eja
  refine lv_aload_n hx hb dX3_self_5 rfl (lv_at hl 0 rfl) ?_
  refine lv_iload_n hx hb dX3_self_6 rfl (lv_at hl 1 rfl) ?_
  refine lv_iload_n hx hb dX3_self_7 rfl (lv_at hl 1 rfl) ?_
  have hPc := hP.sub (ws' := [(o0, .inr (4, [.int (nI (n)), .int (nI (q)), v2, v3, .ref b1, v5, v6, v7, .int (bI wk), .int (bI sd)])), (b1, .inl (cI, n, .inl (fun j => nI (tm j))))]) [0, 1] rfl
  have hDc := hD.sub (ws' := [(o0, .inr (4, [.int (nI (n)), .int (nI (q)), v2, v3, .ref b1, v5, v6, v7, .int (bI wk), .int (bI sd)])), (b1, .inl (cI, n, .inl (fun j => nI (tm j))))]) [0, 1] (by decide) rfl
  have hFc := va_free (wc := [(o0, .inr (4, [.int (nI (n)), .int (nI (q)), v2, v3, .ref b1, v5, v6, v7, .int (bI wk), .int (bI sd)])), (b1, .inl (cI, n, .inl (fun j => nI (tm j))))]) hD hS hA [0, 1] rfl
  have hKc := hK.sub (tys' := [(cI, .int)]) [0] rfl
  refine va_calli (va_runV (As := [.int (nI (ja)), .int (nI (ja))]) (rest := []) ⟨hx, hb, hml, hown, hts⟩ (c_X3_touches l dC dI s.heap.size o0 b1 n q ja ja tm wk sd cI v2 v3 v5 v6 v7 hn1 hja hja (ht0 ja hja)) (cwV 2 hts gX3_self_X3_touches rfl rfl rfl (by decide +kernel) ⟨Nat.le_of_ble_eq_true rfl, Nat.le_of_ble_eq_true rfl⟩) ⟨fun a U g mk q => by obtain ⟨q0, q1, qP, qK, qD⟩ := q; exact ⟨q0, q1, qP, va_K.moved (u := U) (U := U.calling g mk a) (Vm.Alike.refl U.vm) qK, qD⟩, va_recv hKc hPc (ci := 4) (q0 := 0) rfl rfl, fun U hU hW => ⟨rfl, by rw [hU], by rw [hU]; exact hPc, va_K.moved hW.alike hKc, hDc.weaken (fun _ _ _ _ => trivial)⟩⟩ rfl rfl hl.1 rfl (lv_room (Nat.le_of_ble_eq_true rfl)) dX3_self_8 ⟨Nat.le_of_ble_eq_true rfl, Nat.le_of_ble_eq_true rfl⟩) hS (fun q _ h => hFc q h) hFc (fun r1 u t H1 locs ht hvm hw hB hz1 hk1 hS => ?_)
  obtain ⟨hP1, hK1, hD1⟩ := hB
  rw [ht] at hP1
  try dsimp only at hw
  obtain ⟨hP, hD⟩ := va_join (wr := []) (w1 := [(o0, .inr (4, [.int (nI (n)), .int (nI (q)), v2, v3, .ref b1, v5, v6, v7, .int (bI wk), .int (bI sd)])), (b1, .inl (cI, n, .inl (fun j => nI (tm j))))]) hP hD [0, 1] [] rfl rfl (by decide) (by decide) hk1 hFc hP1 hD1
  generalize H1 = H at hP hS ⊢
  have hP := hP.sub (ws' := [(o0, .inr (4, [.int (nI (n)), .int (nI (q)), v2, v3, .ref b1, v5, v6, v7, .int (bI wk), .int (bI sd)])), (b1, .inl (cI, n, .inl (fun j => nI (tm j))))]) [0, 1] rfl
  have hD := hD.sub (ws' := [(o0, .inr (4, [.int (nI (n)), .int (nI (q)), v2, v3, .ref b1, v5, v6, v7, .int (bI wk), .int (bI sd)])), (b1, .inl (cI, n, .inl (fun j => nI (tm j))))]) [0, 1] (by decide) rfl
  have hP : va_P (dC, dI) vwCl [(o0, .inr (4, [.int (nI (n)), .int (nI (q)), v2, v3, .ref b1, v5, v6, v7, .int (bI wk), .int (bI sd)])), (b1, .inl (cI, n, .inl (fun j => nI (tm j))))] H := hP
  have hD : va_D A [(o0, .inr (4, [.int (nI (n)), .int (nI (q)), v2, v3, .ref b1, v5, v6, v7, .int (bI wk), .int (bI sd)])), (b1, .inl (cI, n, .inl (fun j => nI (tm j))))] := hD
  subst hw
  rcases hbt : decide (tm ja / 2 ^ ja % 2 = 1) with _ | _
  · skip
    refine tp_i (y := nI 0) rfl ?_
    refine lv_iload_n hx hb dX3_self_11 rfl (lv_at hl 2 rfl) ?_
    rcases hon : on with _ | _
    · skip
      refine tp_i (y := nI 0) rfl ?_
      refine lv_icmp_ne (tgt := 17) hx hb dX3_self_12 (by decide) (fun c => ?_) (fun c => ?_)
      · skip
        have c : 0 ≠ 0 := fun h => c ((nI_eq (a := 0) (b := 0) (by omega) (by omega)).mpr h)
        exact absurd rfl c
      · skip
        have c : 0 = 0 := (nI_eq (a := 0) (b := 0) (by omega) (by omega)).mp c
        refine lv_iconst (v := nI 0) hx hb dX3_self_15 (by decide) ?_
        rw [hQ]
        refine tt_ret (⟨ja, hja, rfl⟩) ?_
        exact W.zret (v := nI (0)) (ty := .boolean) hx hb hr rfl (fun t ht hW => ⟨⟨_, (tm, wk, sd), rfl, ⟨ja, hja, rfl, Or.inr ⟨rfl, hbt.trans hon.symm, rfl⟩⟩, by rw [ht]; exact hP, va_K.moved hW.alike hK, hD⟩, hS.F ht⟩) hS.2.2 dX3_self_16
    · skip
      refine tp_i (y := nI 1) rfl ?_
      refine lv_icmp_ne (tgt := 17) hx hb dX3_self_12 (by decide) (fun c => ?_) (fun c => ?_)
      · skip
        have c : 0 ≠ 1 := fun h => c ((nI_eq (a := 0) (b := 1) (by omega) (by omega)).mpr h)
        refine lv_aload_n hx hb dX3_self_17 rfl (lv_at hl 0 rfl) ?_
        refine va_get (D := (dC, dI)) (ci := 4) (v := .ref b1) (C := RX3) (T := TX3) (N := 10) hx hb hts hinX3 hown hK hP 0 rfl rfl 4 (by decide) hf36 (fun _ h9 => h9) rfl dX3_self_18 ?_
        refine lv_iload_n hx hb dX3_self_21 rfl (lv_at hl 1 rfl) ?_
        refine lv_dup2_11 hx hb dX3_self_22 rfl rfl ?_
        refine ra_ld (g := nI) (F := tm) hx hb hK hP 1 0 rfl rfl (by omega) (by omega) dX3_self_23 ?_
        refine lv_iconst (v := nI 1) hx hb dX3_self_24 (by decide) ?_
        refine lv_iload_n hx hb dX3_self_25 rfl (lv_at hl 1 rfl) ?_
        refine lv_ishl hx hb dX3_self_26 ?_
        refine tp_i (y := nI (2 ^ ja)) (nI_shl1 (by omega)) ?_
        refine lv_ixor hx hb dX3_self_27 ?_
        refine tp_i (y := nI ((tm ja) ^^^ (2 ^ ja))) (nI_xor _ _) ?_
        refine ra_st (g := nI) (F := tm) (v := (tm ja) ^^^ (2 ^ ja)) hx hb hK hP hD hS 1 0 rfl rfl (by omega) (by omega) dX3_self_28 (fun H locs hP hD hS => ?_)
        have hP : va_P (dC, dI) vwCl [(o0, .inr (4, [.int (nI (n)), .int (nI (q)), v2, v3, .ref b1, v5, v6, v7, .int (bI wk), .int (bI sd)])), (b1, .inl (cI, n, .inl (fun j => nI ((va_up tm ja ((tm ja) ^^^ (2 ^ ja))) j))))] H := hP
        have hD : va_D A [(o0, .inr (4, [.int (nI (n)), .int (nI (q)), v2, v3, .ref b1, v5, v6, v7, .int (bI wk), .int (bI sd)])), (b1, .inl (cI, n, .inl (fun j => nI ((va_up tm ja ((tm ja) ^^^ (2 ^ ja))) j))))] := hD
        refine lv_aload_n hx hb dX3_self_29 rfl (lv_at hl 0 rfl) ?_
        have hPc := hP.sub (ws' := [(o0, .inr (4, [.int (nI (n)), .int (nI (q)), v2, v3, .ref b1, v5, v6, v7, .int (bI wk), .int (bI sd)]))]) [0] rfl
        have hDc := hD.sub (ws' := [(o0, .inr (4, [.int (nI (n)), .int (nI (q)), v2, v3, .ref b1, v5, v6, v7, .int (bI wk), .int (bI sd)]))]) [0] (by decide) rfl
        have hFc := va_free (wc := [(o0, .inr (4, [.int (nI (n)), .int (nI (q)), v2, v3, .ref b1, v5, v6, v7, .int (bI wk), .int (bI sd)]))]) hD hS hA [0] rfl
        have hKc := hK.sub (tys' := []) [] rfl
        refine va_callv (va_runV (As := []) (rest := []) ⟨hx, hb, hml, hown, hts⟩ (c_X3_forget l dC dI H.size o0 n q (bI wk) (bI sd) v2 v3 (.ref b1) v5 v6 v7) (cwV 0 hts gX3_self_X3_forget rfl rfl rfl (by decide +kernel) ⟨Nat.le_of_ble_eq_true rfl, Nat.le_of_ble_eq_true rfl⟩) ⟨fun a U g mk q => by obtain ⟨q0, q1, qP, qK, qD⟩ := q; exact ⟨q0, q1, qP, va_K.moved (u := U) (U := U.calling g mk a) (Vm.Alike.refl U.vm) qK, qD⟩, va_recv hKc hPc (ci := 4) (q0 := 0) rfl rfl, fun U hU hW => ⟨rfl, by rw [hU], by rw [hU]; exact hPc, va_K.moved hW.alike hKc, hDc.weaken (fun _ _ _ _ => trivial)⟩⟩ rfl rfl hl.1 rfl (lv_room (Nat.le_of_ble_eq_true rfl)) dX3_self_30 ⟨Nat.le_of_ble_eq_true rfl, Nat.le_of_ble_eq_true rfl⟩) hS (fun q _ h => hFc q h) hFc (fun u t H1 locs ht hvm hw hB hz1 hk1 hS => ?_)
        obtain ⟨hP1, hK1, hD1⟩ := hB
        rw [ht] at hP1
        try dsimp only at hw
        obtain ⟨hP, hD⟩ := va_join (wr := [(b1, .inl (cI, n, .inl (fun j => nI ((va_up tm ja ((tm ja) ^^^ (2 ^ ja))) j))))]) (w1 := [(o0, .inr (4, [.int (nI (n)), .int (nI (q)), v2, v3, .ref b1, v5, v6, v7, .int (bI false), .int (bI false)]))]) hP hD [0] [1] rfl rfl (by decide) (by decide) hk1 hFc hP1 hD1
        generalize H1 = H at hP hS ⊢
        have hP := hP.sub (ws' := [(o0, .inr (4, [.int (nI (n)), .int (nI (q)), v2, v3, .ref b1, v5, v6, v7, .int (bI false), .int (bI false)])), (b1, .inl (cI, n, .inl (fun j => nI ((va_up tm ja ((tm ja) ^^^ (2 ^ ja))) j))))]) [1, 0] rfl
        have hD := hD.sub (ws' := [(o0, .inr (4, [.int (nI (n)), .int (nI (q)), v2, v3, .ref b1, v5, v6, v7, .int (bI false), .int (bI false)])), (b1, .inl (cI, n, .inl (fun j => nI ((va_up tm ja ((tm ja) ^^^ (2 ^ ja))) j))))]) [1, 0] (by decide) rfl
        have hP : va_P (dC, dI) vwCl [(o0, .inr (4, [.int (nI (n)), .int (nI (q)), v2, v3, .ref b1, v5, v6, v7, .int (bI false), .int (bI false)])), (b1, .inl (cI, n, .inl (fun j => nI ((va_up tm ja ((tm ja) ^^^ (2 ^ ja))) j))))] H := hP
        have hD : va_D A [(o0, .inr (4, [.int (nI (n)), .int (nI (q)), v2, v3, .ref b1, v5, v6, v7, .int (bI false), .int (bI false)])), (b1, .inl (cI, n, .inl (fun j => nI ((va_up tm ja ((tm ja) ^^^ (2 ^ ja))) j))))] := hD
        refine lv_iconst (v := nI 1) hx hb dX3_self_33 (by decide) ?_
        rw [hQ]
        refine tt_ret (⟨ja, hja, rfl⟩) ?_
        exact W.zret (v := nI (1)) (ty := .boolean) hx hb hr rfl (fun t ht hW => ⟨⟨_, (va_up tm ja (tm ja ^^^ 2 ^ ja), false, false), rfl, ⟨ja, hja, rfl, Or.inl ⟨rfl, by rw [hbt, hon]; decide, rfl⟩⟩, by rw [ht]; exact hP, va_K.moved hW.alike hK, hD⟩, hS.F ht⟩) hS.2.2 dX3_self_34
      · skip
        have c : 0 = 1 := (nI_eq (a := 0) (b := 1) (by omega) (by omega)).mp c
        exact absurd c (by decide)
  · skip
    refine tp_i (y := nI 1) rfl ?_
    refine lv_iload_n hx hb dX3_self_11 rfl (lv_at hl 2 rfl) ?_
    rcases hon : on with _ | _
    · skip
      refine tp_i (y := nI 0) rfl ?_
      refine lv_icmp_ne (tgt := 17) hx hb dX3_self_12 (by decide) (fun c => ?_) (fun c => ?_)
      · skip
        have c : 1 ≠ 0 := fun h => c ((nI_eq (a := 1) (b := 0) (by omega) (by omega)).mpr h)
        refine lv_aload_n hx hb dX3_self_17 rfl (lv_at hl 0 rfl) ?_
        refine va_get (D := (dC, dI)) (ci := 4) (v := .ref b1) (C := RX3) (T := TX3) (N := 10) hx hb hts hinX3 hown hK hP 0 rfl rfl 4 (by decide) hf36 (fun _ h9 => h9) rfl dX3_self_18 ?_
        refine lv_iload_n hx hb dX3_self_21 rfl (lv_at hl 1 rfl) ?_
        refine lv_dup2_11 hx hb dX3_self_22 rfl rfl ?_
        refine ra_ld (g := nI) (F := tm) hx hb hK hP 1 0 rfl rfl (by omega) (by omega) dX3_self_23 ?_
        refine lv_iconst (v := nI 1) hx hb dX3_self_24 (by decide) ?_
        refine lv_iload_n hx hb dX3_self_25 rfl (lv_at hl 1 rfl) ?_
        refine lv_ishl hx hb dX3_self_26 ?_
        refine tp_i (y := nI (2 ^ ja)) (nI_shl1 (by omega)) ?_
        refine lv_ixor hx hb dX3_self_27 ?_
        refine tp_i (y := nI ((tm ja) ^^^ (2 ^ ja))) (nI_xor _ _) ?_
        refine ra_st (g := nI) (F := tm) (v := (tm ja) ^^^ (2 ^ ja)) hx hb hK hP hD hS 1 0 rfl rfl (by omega) (by omega) dX3_self_28 (fun H locs hP hD hS => ?_)
        have hP : va_P (dC, dI) vwCl [(o0, .inr (4, [.int (nI (n)), .int (nI (q)), v2, v3, .ref b1, v5, v6, v7, .int (bI wk), .int (bI sd)])), (b1, .inl (cI, n, .inl (fun j => nI ((va_up tm ja ((tm ja) ^^^ (2 ^ ja))) j))))] H := hP
        have hD : va_D A [(o0, .inr (4, [.int (nI (n)), .int (nI (q)), v2, v3, .ref b1, v5, v6, v7, .int (bI wk), .int (bI sd)])), (b1, .inl (cI, n, .inl (fun j => nI ((va_up tm ja ((tm ja) ^^^ (2 ^ ja))) j))))] := hD
        refine lv_aload_n hx hb dX3_self_29 rfl (lv_at hl 0 rfl) ?_
        have hPc := hP.sub (ws' := [(o0, .inr (4, [.int (nI (n)), .int (nI (q)), v2, v3, .ref b1, v5, v6, v7, .int (bI wk), .int (bI sd)]))]) [0] rfl
        have hDc := hD.sub (ws' := [(o0, .inr (4, [.int (nI (n)), .int (nI (q)), v2, v3, .ref b1, v5, v6, v7, .int (bI wk), .int (bI sd)]))]) [0] (by decide) rfl
        have hFc := va_free (wc := [(o0, .inr (4, [.int (nI (n)), .int (nI (q)), v2, v3, .ref b1, v5, v6, v7, .int (bI wk), .int (bI sd)]))]) hD hS hA [0] rfl
        have hKc := hK.sub (tys' := []) [] rfl
        refine va_callv (va_runV (As := []) (rest := []) ⟨hx, hb, hml, hown, hts⟩ (c_X3_forget l dC dI H.size o0 n q (bI wk) (bI sd) v2 v3 (.ref b1) v5 v6 v7) (cwV 0 hts gX3_self_X3_forget rfl rfl rfl (by decide +kernel) ⟨Nat.le_of_ble_eq_true rfl, Nat.le_of_ble_eq_true rfl⟩) ⟨fun a U g mk q => by obtain ⟨q0, q1, qP, qK, qD⟩ := q; exact ⟨q0, q1, qP, va_K.moved (u := U) (U := U.calling g mk a) (Vm.Alike.refl U.vm) qK, qD⟩, va_recv hKc hPc (ci := 4) (q0 := 0) rfl rfl, fun U hU hW => ⟨rfl, by rw [hU], by rw [hU]; exact hPc, va_K.moved hW.alike hKc, hDc.weaken (fun _ _ _ _ => trivial)⟩⟩ rfl rfl hl.1 rfl (lv_room (Nat.le_of_ble_eq_true rfl)) dX3_self_30 ⟨Nat.le_of_ble_eq_true rfl, Nat.le_of_ble_eq_true rfl⟩) hS (fun q _ h => hFc q h) hFc (fun u t H1 locs ht hvm hw hB hz1 hk1 hS => ?_)
        obtain ⟨hP1, hK1, hD1⟩ := hB
        rw [ht] at hP1
        try dsimp only at hw
        obtain ⟨hP, hD⟩ := va_join (wr := [(b1, .inl (cI, n, .inl (fun j => nI ((va_up tm ja ((tm ja) ^^^ (2 ^ ja))) j))))]) (w1 := [(o0, .inr (4, [.int (nI (n)), .int (nI (q)), v2, v3, .ref b1, v5, v6, v7, .int (bI false), .int (bI false)]))]) hP hD [0] [1] rfl rfl (by decide) (by decide) hk1 hFc hP1 hD1
        generalize H1 = H at hP hS ⊢
        have hP := hP.sub (ws' := [(o0, .inr (4, [.int (nI (n)), .int (nI (q)), v2, v3, .ref b1, v5, v6, v7, .int (bI false), .int (bI false)])), (b1, .inl (cI, n, .inl (fun j => nI ((va_up tm ja ((tm ja) ^^^ (2 ^ ja))) j))))]) [1, 0] rfl
        have hD := hD.sub (ws' := [(o0, .inr (4, [.int (nI (n)), .int (nI (q)), v2, v3, .ref b1, v5, v6, v7, .int (bI false), .int (bI false)])), (b1, .inl (cI, n, .inl (fun j => nI ((va_up tm ja ((tm ja) ^^^ (2 ^ ja))) j))))]) [1, 0] (by decide) rfl
        have hP : va_P (dC, dI) vwCl [(o0, .inr (4, [.int (nI (n)), .int (nI (q)), v2, v3, .ref b1, v5, v6, v7, .int (bI false), .int (bI false)])), (b1, .inl (cI, n, .inl (fun j => nI ((va_up tm ja ((tm ja) ^^^ (2 ^ ja))) j))))] H := hP
        have hD : va_D A [(o0, .inr (4, [.int (nI (n)), .int (nI (q)), v2, v3, .ref b1, v5, v6, v7, .int (bI false), .int (bI false)])), (b1, .inl (cI, n, .inl (fun j => nI ((va_up tm ja ((tm ja) ^^^ (2 ^ ja))) j))))] := hD
        refine lv_iconst (v := nI 1) hx hb dX3_self_33 (by decide) ?_
        rw [hQ]
        refine tt_ret (⟨ja, hja, rfl⟩) ?_
        exact W.zret (v := nI (1)) (ty := .boolean) hx hb hr rfl (fun t ht hW => ⟨⟨_, (va_up tm ja (tm ja ^^^ 2 ^ ja), false, false), rfl, ⟨ja, hja, rfl, Or.inl ⟨rfl, by rw [hbt, hon]; decide, rfl⟩⟩, by rw [ht]; exact hP, va_K.moved hW.alike hK, hD⟩, hS.F ht⟩) hS.2.2 dX3_self_34
      · skip
        have c : 1 = 0 := (nI_eq (a := 1) (b := 0) (by omega) (by omega)).mp c
        exact absurd c (by decide)
    · skip
      refine tp_i (y := nI 1) rfl ?_
      refine lv_icmp_ne (tgt := 17) hx hb dX3_self_12 (by decide) (fun c => ?_) (fun c => ?_)
      · skip
        have c : 1 ≠ 1 := fun h => c ((nI_eq (a := 1) (b := 1) (by omega) (by omega)).mpr h)
        exact absurd rfl c
      · skip
        have c : 1 = 1 := (nI_eq (a := 1) (b := 1) (by omega) (by omega)).mp c
        refine lv_iconst (v := nI 0) hx hb dX3_self_15 (by decide) ?_
        rw [hQ]
        refine tt_ret (⟨ja, hja, rfl⟩) ?_
        exact W.zret (v := nI (0)) (ty := .boolean) hx hb hr rfl (fun t ht hW => ⟨⟨_, (tm, wk, sd), rfl, ⟨ja, hja, rfl, Or.inr ⟨rfl, hbt.trans hon.symm, rfl⟩⟩, by rw [ht]; exact hP, va_K.moved hW.alike hK, hD⟩, hS.F ht⟩) hS.2.2 dX3_self_16

set_option maxHeartbeats 4000000 in
set_option maxRecDepth 100000 in
theorem c_X3_work (l : Launch) (dC : Nat → ClassId) (dI : Nat → Nat → Nat) (sz : Nat) (o0 b1 b2 b3 : Nat) (tm st wt : Nat → Nat) (wk sd : Bool) (h0 a1 a2 a3 n q bd fr : Nat) (gR gQ : Nat → Nat) (ro : Nat → Option Nat) (cG : ClassId) (cI : ClassId) (L : List Nat) (pl : Nat → Nat) (pr : Nat → Nat → Nat) (v6 v7 : Value) (hn : n < 31) (hok : eqOK n gR gQ L pl) (hq : 2 ≤ q) (hq2 : q < 100) (ht0 : ∀ j, j < n → tm j < 2 ^ 31) (hs0 : ∀ j, j < n → st j < q) (hw0 : ∀ j, j < n → wt j < q) (hwk : wk = true → eqS n q tm st wt gR gQ pr ro bd fr) : Met l yX3_work wsX3_work ({ frames := 3, cells := 0, slots := 0, locals := 69 }) (va_Pc [.ref o0] (fun U => U.heap.size = sz ∧ va_P (dC, dI) vwCl (([(o0, .inr (4, [.int (nI (n)), .int (nI (q)), .ref b2, .ref b3, .ref b1, .ref h0, v6, v7, .int (bI wk), .int (bI sd)])), (b1, .inl (cI, n, .inl (fun j => nI (tm j)))), (b2, .inl (cI, n, .inl (fun j => nI (st j)))), (b3, .inl (cI, n, .inl (fun j => nI (wt j)))), (h0, .inr (2, [.int (nI (n)), .int (nI (q)), .ref a1, .ref a2, .ref a3, .int (nI (bd)), .int (nI (fr))])), (a1, .inl (cG, n, .inr (.inr (.inr (.inr (fun j => some (gR j))))))), (a2, .inl (cI, n, .inl (fun j => oI (ro j)))), (a3, .inl (cG, n, .inr (.inr (.inr (.inr (fun j => some (gQ j)))))))] : va_W) ++ va_pl L (pI cI pl pr)) U.heap ∧ (va_K (dC, dI) vwCl [(cI, .int), (cG, .array .int)] U ∧ grK cG cI U) ∧ va_D (fun _ => True) (([(o0, .inr (4, [.int (nI (n)), .int (nI (q)), .ref b2, .ref b3, .ref b1, .ref h0, v6, v7, .int (bI wk), .int (bI sd)])), (b1, .inl (cI, n, .inl (fun j => nI (tm j)))), (b2, .inl (cI, n, .inl (fun j => nI (st j)))), (b3, .inl (cI, n, .inl (fun j => nI (wt j)))), (h0, .inr (2, [.int (nI (n)), .int (nI (q)), .ref a1, .ref a2, .ref a3, .int (nI (bd)), .int (nI (fr))])), (a1, .inl (cG, n, .inr (.inr (.inr (.inr (fun j => some (gR j))))))), (a2, .inl (cI, n, .inl (fun j => oI (ro j)))), (a3, .inl (cG, n, .inr (.inr (.inr (.inr (fun j => some (gQ j)))))))] : va_W) ++ va_pl L (pI cI pl pr)))) (va_Qv (fun u : E5 => E5ok n q tm st wt gQ L pl u ∧ (wk = true → u = (gR, pr, ro, bd, fr))) (fun u t => va_P (dC, dI) vwCl (([(o0, .inr (4, [.int (nI (n)), .int (nI (q)), .ref b2, .ref b3, .ref b1, .ref h0, v6, v7, .int (bI true), .int (bI sd)])), (b1, .inl (cI, n, .inl (fun j => nI (tm j)))), (b2, .inl (cI, n, .inl (fun j => nI (st j)))), (b3, .inl (cI, n, .inl (fun j => nI (wt j)))), (h0, .inr (2, [.int (nI (n)), .int (nI (q)), .ref a1, .ref a2, .ref a3, .int (nI (u.2.2.2.1)), .int (nI (u.2.2.2.2))])), (a1, .inl (cG, n, .inr (.inr (.inr (.inr (fun j => some (u.1 j))))))), (a2, .inl (cI, n, .inl (fun j => oI (u.2.2.1 j)))), (a3, .inl (cG, n, .inr (.inr (.inr (.inr (fun j => some (gQ j)))))))] : va_W) ++ va_pl L (pI cI pl u.2.1)) t.heap ∧ va_K (dC, dI) vwCl [(cI, .int), (cG, .array .int)] t ∧ va_D (va_A (([(o0, .inr (4, [.int (nI (n)), .int (nI (q)), .ref b2, .ref b3, .ref b1, .ref h0, v6, v7, .int (bI wk), .int (bI sd)])), (b1, .inl (cI, n, .inl (fun j => nI (tm j)))), (b2, .inl (cI, n, .inl (fun j => nI (st j)))), (b3, .inl (cI, n, .inl (fun j => nI (wt j)))), (h0, .inr (2, [.int (nI (n)), .int (nI (q)), .ref a1, .ref a2, .ref a3, .int (nI (bd)), .int (nI (fr))])), (a1, .inl (cG, n, .inr (.inr (.inr (.inr (fun j => some (gR j))))))), (a2, .inl (cI, n, .inl (fun j => oI (ro j)))), (a3, .inl (cG, n, .inr (.inr (.inr (.inr (fun j => some (gQ j)))))))] : va_W) ++ va_pl L (pI cI pl pr)) sz) (([(o0, .inr (4, [.int (nI (n)), .int (nI (q)), .ref b2, .ref b3, .ref b1, .ref h0, v6, v7, .int (bI true), .int (bI sd)])), (b1, .inl (cI, n, .inl (fun j => nI (tm j)))), (b2, .inl (cI, n, .inl (fun j => nI (st j)))), (b3, .inl (cI, n, .inl (fun j => nI (wt j)))), (h0, .inr (2, [.int (nI (n)), .int (nI (q)), .ref a1, .ref a2, .ref a3, .int (nI (u.2.2.2.1)), .int (nI (u.2.2.2.2))])), (a1, .inl (cG, n, .inr (.inr (.inr (.inr (fun j => some (u.1 j))))))), (a2, .inl (cI, n, .inl (fun j => oI (u.2.2.1 j)))), (a3, .inl (cG, n, .inr (.inr (.inr (.inr (fun j => some (gQ j)))))))] : va_W) ++ va_pl L (pI cI pl u.2.1))) (va_A (([(o0, .inr (4, [.int (nI (n)), .int (nI (q)), .ref b2, .ref b3, .ref b1, .ref h0, v6, v7, .int (bI wk), .int (bI sd)])), (b1, .inl (cI, n, .inl (fun j => nI (tm j)))), (b2, .inl (cI, n, .inl (fun j => nI (st j)))), (b3, .inl (cI, n, .inl (fun j => nI (wt j)))), (h0, .inr (2, [.int (nI (n)), .int (nI (q)), .ref a1, .ref a2, .ref a3, .int (nI (bd)), .int (nI (fr))])), (a1, .inl (cG, n, .inr (.inr (.inr (.inr (fun j => some (gR j))))))), (a2, .inl (cI, n, .inl (fun j => oI (ro j)))), (a3, .inl (cG, n, .inr (.inr (.inr (.inr (fun j => some (gQ j)))))))] : va_W) ++ va_pl L (pI cI pl pr)) sz)) 0 0 (va_A (([(o0, .inr (4, [.int (nI (n)), .int (nI (q)), .ref b2, .ref b3, .ref b1, .ref h0, v6, v7, .int (bI wk), .int (bI sd)])), (b1, .inl (cI, n, .inl (fun j => nI (tm j)))), (b2, .inl (cI, n, .inl (fun j => nI (st j)))), (b3, .inl (cI, n, .inl (fun j => nI (wt j)))), (h0, .inr (2, [.int (nI (n)), .int (nI (q)), .ref a1, .ref a2, .ref a3, .int (nI (bd)), .int (nI (fr))])), (a1, .inl (cG, n, .inr (.inr (.inr (.inr (fun j => some (gR j))))))), (a2, .inl (cI, n, .inl (fun j => oI (ro j)))), (a3, .inl (cG, n, .inr (.inr (.inr (.inr (fun j => some (gQ j)))))))] : va_W) ++ va_pl L (pI cI pl pr)) sz) := by
  refine Met.ofW (cc := cX3_work) (maxL := 1) (ret := none) (by decide) rfl ?_
  intro zp ze s m args below meth zc s₁ B hml hv
  obtain ⟨hargs, hsz, hP, ⟨hK, hG⟩, hD0⟩ := hv
  have hx := B.exec
  have hb := B.bytes
  have hr := B.returns
  have hts := atoms_spec (ws := wsX3_work) B.pre
  have hown : s.vm.findClass RX3 = some m.cls := findClass_of_methodNamed B.named
  have hlocks := B.notSynchronized
  subst hsz
  obtain ⟨Q, hQ⟩ : ∃ Q, Q = MQ below (va_Qv (fun u : E5 => E5ok n q tm st wt gQ L pl u ∧ (wk = true → u = (gR, pr, ro, bd, fr))) (fun u t => va_P (dC, dI) vwCl (([(o0, .inr (4, [.int (nI (n)), .int (nI (q)), .ref b2, .ref b3, .ref b1, .ref h0, v6, v7, .int (bI true), .int (bI sd)])), (b1, .inl (cI, n, .inl (fun j => nI (tm j)))), (b2, .inl (cI, n, .inl (fun j => nI (st j)))), (b3, .inl (cI, n, .inl (fun j => nI (wt j)))), (h0, .inr (2, [.int (nI (n)), .int (nI (q)), .ref a1, .ref a2, .ref a3, .int (nI (u.2.2.2.1)), .int (nI (u.2.2.2.2))])), (a1, .inl (cG, n, .inr (.inr (.inr (.inr (fun j => some (u.1 j))))))), (a2, .inl (cI, n, .inl (fun j => oI (u.2.2.1 j)))), (a3, .inl (cG, n, .inr (.inr (.inr (.inr (fun j => some (gQ j)))))))] : va_W) ++ va_pl L (pI cI pl u.2.1)) t.heap ∧ va_K (dC, dI) vwCl [(cI, .int), (cG, .array .int)] t ∧ va_D (va_A (([(o0, .inr (4, [.int (nI (n)), .int (nI (q)), .ref b2, .ref b3, .ref b1, .ref h0, v6, v7, .int (bI wk), .int (bI sd)])), (b1, .inl (cI, n, .inl (fun j => nI (tm j)))), (b2, .inl (cI, n, .inl (fun j => nI (st j)))), (b3, .inl (cI, n, .inl (fun j => nI (wt j)))), (h0, .inr (2, [.int (nI (n)), .int (nI (q)), .ref a1, .ref a2, .ref a3, .int (nI (bd)), .int (nI (fr))])), (a1, .inl (cG, n, .inr (.inr (.inr (.inr (fun j => some (gR j))))))), (a2, .inl (cI, n, .inl (fun j => oI (ro j)))), (a3, .inl (cG, n, .inr (.inr (.inr (.inr (fun j => some (gQ j)))))))] : va_W) ++ va_pl L (pI cI pl pr)) s.heap.size) (([(o0, .inr (4, [.int (nI (n)), .int (nI (q)), .ref b2, .ref b3, .ref b1, .ref h0, v6, v7, .int (bI true), .int (bI sd)])), (b1, .inl (cI, n, .inl (fun j => nI (tm j)))), (b2, .inl (cI, n, .inl (fun j => nI (st j)))), (b3, .inl (cI, n, .inl (fun j => nI (wt j)))), (h0, .inr (2, [.int (nI (n)), .int (nI (q)), .ref a1, .ref a2, .ref a3, .int (nI (u.2.2.2.1)), .int (nI (u.2.2.2.2))])), (a1, .inl (cG, n, .inr (.inr (.inr (.inr (fun j => some (u.1 j))))))), (a2, .inl (cI, n, .inl (fun j => oI (u.2.2.1 j)))), (a3, .inl (cG, n, .inr (.inr (.inr (.inr (fun j => some (gQ j)))))))] : va_W) ++ va_pl L (pI cI pl u.2.1))) (va_A (([(o0, .inr (4, [.int (nI (n)), .int (nI (q)), .ref b2, .ref b3, .ref b1, .ref h0, v6, v7, .int (bI wk), .int (bI sd)])), (b1, .inl (cI, n, .inl (fun j => nI (tm j)))), (b2, .inl (cI, n, .inl (fun j => nI (st j)))), (b3, .inl (cI, n, .inl (fun j => nI (wt j)))), (h0, .inr (2, [.int (nI (n)), .int (nI (q)), .ref a1, .ref a2, .ref a3, .int (nI (bd)), .int (nI (fr))])), (a1, .inl (cG, n, .inr (.inr (.inr (.inr (fun j => some (gR j))))))), (a2, .inl (cI, n, .inl (fun j => oI (ro j)))), (a3, .inl (cG, n, .inr (.inr (.inr (.inr (fun j => some (gQ j)))))))] : va_W) ++ va_pl L (pI cI pl pr)) s.heap.size)) args s 0 0 (va_A (([(o0, .inr (4, [.int (nI (n)), .int (nI (q)), .ref b2, .ref b3, .ref b1, .ref h0, v6, v7, .int (bI wk), .int (bI sd)])), (b1, .inl (cI, n, .inl (fun j => nI (tm j)))), (b2, .inl (cI, n, .inl (fun j => nI (st j)))), (b3, .inl (cI, n, .inl (fun j => nI (wt j)))), (h0, .inr (2, [.int (nI (n)), .int (nI (q)), .ref a1, .ref a2, .ref a3, .int (nI (bd)), .int (nI (fr))])), (a1, .inl (cG, n, .inr (.inr (.inr (.inr (fun j => some (gR j))))))), (a2, .inl (cI, n, .inl (fun j => oI (ro j)))), (a3, .inl (cG, n, .inr (.inr (.inr (.inr (fun j => some (gQ j)))))))] : va_W) ++ va_pl L (pI cI pl pr)) s.heap.size) := ⟨_, rfl⟩
  rw [← hQ]
  have hD := hD0.self (sz := s.heap.size)
  generalize hAe : (va_A (([(o0, .inr (4, [.int (nI (n)), .int (nI (q)), .ref b2, .ref b3, .ref b1, .ref h0, v6, v7, .int (bI wk), .int (bI sd)])), (b1, .inl (cI, n, .inl (fun j => nI (tm j)))), (b2, .inl (cI, n, .inl (fun j => nI (st j)))), (b3, .inl (cI, n, .inl (fun j => nI (wt j)))), (h0, .inr (2, [.int (nI (n)), .int (nI (q)), .ref a1, .ref a2, .ref a3, .int (nI (bd)), .int (nI (fr))])), (a1, .inl (cG, n, .inr (.inr (.inr (.inr (fun j => some (gR j))))))), (a2, .inl (cI, n, .inl (fun j => oI (ro j)))), (a3, .inl (cG, n, .inr (.inr (.inr (.inr (fun j => some (gQ j)))))))] : va_W) ++ va_pl L (pI cI pl pr)) s.heap.size) = A at hD hQ
  have hA : ∀ q : Nat, s.heap.size ≤ q → A q := fun q h => by rw [← hAe]; exact Or.inr h
  have hS : va_S A s.heap s.heap [] := va_S.rf
  have hl := lv_entry ([.ref o0]) (n := 1) (Nat.le_of_ble_eq_true rfl)
  generalize hen : entryFrame m args 1 = fr
  rw [hargs, lg_entry_eq] at hen
  subst hen
  generalize (lg_sl ([.ref o0]) ++ List.replicate (1 - (lg_sl ([.ref o0])).length) Slot.unset).toArray = ls at hl ⊢
  have hl : lv_has ls 1 [(0, .ref o0)] := hl
  have hinX1 : ∀ w ∈ wsX10, w ∈ wsX3_work := by decide +kernel
  have hinX3 : ∀ w ∈ wsX30, w ∈ wsX3_work := by decide +kernel
  have hf29 := hts (.fieldLink RX3 29 "LightRows" "now" "[I") (by decide +kernel)
  have hf33 := hts (.fieldLink RX3 33 "LightRows" "wanted" "[I") (by decide +kernel)
  have hf36 := hts (.fieldLink RX3 36 "LightRows" "touched" "[I") (by decide +kernel)
  have hf44 := hts (.fieldLink RX3 44 "LightRows" "equations" "LLightRows$Equations;") (by decide +kernel)
  have hf62 := hts (.fieldLink RX3 62 "LightRows" "worked" "Z") (by decide +kernel)
  refine lv_aload_n hx hb dX3_work_0 rfl (lv_at hl 0 rfl) ?_
  refine va_get (D := (dC, dI)) (ci := 4) (v := .int (bI wk)) (C := RX3) (T := TX3) (N := 10) hx hb hts hinX3 hown hK hP 0 rfl rfl 8 (by decide) hf62 (fun _ h9 => h9) rfl dX3_work_1 ?_
  rcases hk : wk with _ | _
  · skip
    refine tp_i (y := nI 0) rfl ?_
    refine lv_if_ne (tgt := 38) hx hb dX3_work_4 (by decide) (fun c => ?_) (fun c => ?_)
    · skip
      have c : 0 ≠ 0 := fun h => c ((nI_eq (a := 0) (b := 0) (by omega) (by omega)).mpr h)
      exact absurd rfl c
    · skip
      have c : 0 = 0 := (nI_eq (a := 0) (b := 0) (by omega) (by omega)).mp c
      refine lv_aload_n hx hb dX3_work_7 rfl (lv_at hl 0 rfl) ?_
      refine va_get (D := (dC, dI)) (ci := 4) (v := .ref h0) (C := RX3) (T := TX3) (N := 10) hx hb hts hinX3 hown hK hP 0 rfl rfl 5 (by decide) hf44 (fun _ h9 => h9) rfl dX3_work_8 ?_
      refine lv_aload_n hx hb dX3_work_11 rfl (lv_at hl 0 rfl) ?_
      refine va_get (D := (dC, dI)) (ci := 4) (v := .ref b1) (C := RX3) (T := TX3) (N := 10) hx hb hts hinX3 hown hK hP 0 rfl rfl 4 (by decide) hf36 (fun _ h9 => h9) rfl dX3_work_12 ?_
      refine lv_aload_n hx hb dX3_work_15 rfl (lv_at hl 0 rfl) ?_
      refine va_get (D := (dC, dI)) (ci := 4) (v := .ref b2) (C := RX3) (T := TX3) (N := 10) hx hb hts hinX3 hown hK hP 0 rfl rfl 2 (by decide) hf29 (fun _ h9 => h9) rfl dX3_work_16 ?_
      refine lv_aload_n hx hb dX3_work_19 rfl (lv_at hl 0 rfl) ?_
      refine va_get (D := (dC, dI)) (ci := 4) (v := .ref b3) (C := RX3) (T := TX3) (N := 10) hx hb hts hinX3 hown hK hP 0 rfl rfl 3 (by decide) hf33 (fun _ h9 => h9) rfl dX3_work_20 ?_
      have hPc := hP.part (cx := [(h0, .inr (2, [.int (nI (n)), .int (nI (q)), .ref a1, .ref a2, .ref a3, .int (nI (bd)), .int (nI (fr))])), (a1, .inl (cG, n, .inr (.inr (.inr (.inr (fun j => some (gR j))))))), (b1, .inl (cI, n, .inl (fun j => nI (tm j)))), (b2, .inl (cI, n, .inl (fun j => nI (st j)))), (b3, .inl (cI, n, .inl (fun j => nI (wt j))))]) [4, 5, 1, 2, 3] rfl
      have hDc := hD.part (cx := [(h0, .inr (2, [.int (nI (n)), .int (nI (q)), .ref a1, .ref a2, .ref a3, .int (nI (bd)), .int (nI (fr))])), (a1, .inl (cG, n, .inr (.inr (.inr (.inr (fun j => some (gR j))))))), (b1, .inl (cI, n, .inl (fun j => nI (tm j)))), (b2, .inl (cI, n, .inl (fun j => nI (st j)))), (b3, .inl (cI, n, .inl (fun j => nI (wt j))))]) [4, 5, 1, 2, 3] (by decide) rfl
      have hFc := va_freeP (cx := [(h0, .inr (2, [.int (nI (n)), .int (nI (q)), .ref a1, .ref a2, .ref a3, .int (nI (bd)), .int (nI (fr))])), (a1, .inl (cG, n, .inr (.inr (.inr (.inr (fun j => some (gR j))))))), (b1, .inl (cI, n, .inl (fun j => nI (tm j)))), (b2, .inl (cI, n, .inl (fun j => nI (st j)))), (b3, .inl (cI, n, .inl (fun j => nI (wt j))))]) hD hS hA [4, 5, 1, 2, 3] rfl
      have hKc := hK.sub (tys' := [(cI, .int), (cG, .array .int)]) [0, 1] rfl
      refine va_callv (va_runV (As := [.ref b1, .ref b2, .ref b3]) (rest := []) ⟨hx, hb, hml, hown, hts⟩ (c_X1_take l dC dI s.heap.size h0 a1 b1 b2 b3 n q (.ref a2) (.ref a3) (.int (nI bd)) (.int (nI fr)) gR tm st wt cG cI L pl pr (by omega) hok.1 hok.2.2.1 hq hq2 ht0 hs0 hw0) (cwV 3 hts gX3_work_X1_take rfl rfl rfl (by decide +kernel) ⟨Nat.le_of_ble_eq_true rfl, Nat.le_of_ble_eq_true rfl⟩) ⟨fun a U g mk q => by obtain ⟨q0, q1, qP, qK, qD⟩ := q; exact ⟨q0, q1, qP, va_K.moved (u := U) (U := U.calling g mk a) (Vm.Alike.refl U.vm) qK, qD⟩, va_recv hKc hPc (ci := 2) (q0 := 0) rfl rfl, fun U hU hW => ⟨rfl, by rw [hU], by rw [hU]; exact hPc, va_K.moved hW.alike hKc, hDc.weaken (fun _ _ _ _ => trivial)⟩⟩ rfl rfl hl.1 rfl (lv_room (Nat.le_of_ble_eq_true rfl)) dX3_work_23 ⟨Nat.le_of_ble_eq_true rfl, Nat.le_of_ble_eq_true rfl⟩) hS (fun q _ h => hFc q h) hFc (fun f1 t H1 locs ht hvm hw hB hz1 hk1 hS => ?_)
      obtain ⟨hP1, hK1, hD1⟩ := hB
      rw [ht] at hP1
      try dsimp only at hw
      obtain ⟨hP, hD⟩ := va_joinP (wr := [(o0, .inr (4, [.int (nI (n)), .int (nI (q)), .ref b2, .ref b3, .ref b1, .ref h0, v6, v7, .int (bI wk), .int (bI sd)])), (a2, .inl (cI, n, .inl (fun j => oI (ro j)))), (a3, .inl (cG, n, .inr (.inr (.inr (.inr (fun j => some (gQ j)))))))]) (rx := [(h0, .inr (2, [.int (nI (n)), .int (nI (q)), .ref a1, .ref a2, .ref a3, .int (nI (bd)), .int (nI (fr))])), (a1, .inl (cG, n, .inr (.inr (.inr (.inr (fun j => some (gR j))))))), (b1, .inl (cI, n, .inl (fun j => nI (tm j)))), (b2, .inl (cI, n, .inl (fun j => nI (st j)))), (b3, .inl (cI, n, .inl (fun j => nI (wt j))))]) (pl1 := va_pl L (pI cI pl f1)) hP hD [4, 5, 1, 2, 3] [0, 6, 7] rfl rfl (by decide) (by decide) hk1 hFc hP1 hD1
      generalize H1 = H at hP hS ⊢
      have hP := hP.part (cx := [(o0, .inr (4, [.int (nI (n)), .int (nI (q)), .ref b2, .ref b3, .ref b1, .ref h0, v6, v7, .int (bI wk), .int (bI sd)])), (b1, .inl (cI, n, .inl (fun j => nI (tm j)))), (b2, .inl (cI, n, .inl (fun j => nI (st j)))), (b3, .inl (cI, n, .inl (fun j => nI (wt j)))), (h0, .inr (2, [.int (nI (n)), .int (nI (q)), .ref a1, .ref a2, .ref a3, .int (nI (bd)), .int (nI (fr))])), (a1, .inl (cG, n, .inr (.inr (.inr (.inr (fun j => some (gR j))))))), (a2, .inl (cI, n, .inl (fun j => oI (ro j)))), (a3, .inl (cG, n, .inr (.inr (.inr (.inr (fun j => some (gQ j)))))))]) [0, 5, 6, 7, 3, 4, 1, 2] rfl
      have hD := hD.part (cx := [(o0, .inr (4, [.int (nI (n)), .int (nI (q)), .ref b2, .ref b3, .ref b1, .ref h0, v6, v7, .int (bI wk), .int (bI sd)])), (b1, .inl (cI, n, .inl (fun j => nI (tm j)))), (b2, .inl (cI, n, .inl (fun j => nI (st j)))), (b3, .inl (cI, n, .inl (fun j => nI (wt j)))), (h0, .inr (2, [.int (nI (n)), .int (nI (q)), .ref a1, .ref a2, .ref a3, .int (nI (bd)), .int (nI (fr))])), (a1, .inl (cG, n, .inr (.inr (.inr (.inr (fun j => some (gR j))))))), (a2, .inl (cI, n, .inl (fun j => oI (ro j)))), (a3, .inl (cG, n, .inr (.inr (.inr (.inr (fun j => some (gQ j)))))))]) [0, 5, 6, 7, 3, 4, 1, 2] (by decide) rfl
      have hP : va_P (dC, dI) vwCl (([(o0, .inr (4, [.int (nI (n)), .int (nI (q)), .ref b2, .ref b3, .ref b1, .ref h0, v6, v7, .int (bI wk), .int (bI sd)])), (b1, .inl (cI, n, .inl (fun j => nI (tm j)))), (b2, .inl (cI, n, .inl (fun j => nI (st j)))), (b3, .inl (cI, n, .inl (fun j => nI (wt j)))), (h0, .inr (2, [.int (nI (n)), .int (nI (q)), .ref a1, .ref a2, .ref a3, .int (nI (bd)), .int (nI (fr))])), (a1, .inl (cG, n, .inr (.inr (.inr (.inr (fun j => some (gR j))))))), (a2, .inl (cI, n, .inl (fun j => oI (ro j)))), (a3, .inl (cG, n, .inr (.inr (.inr (.inr (fun j => some (gQ j)))))))] : va_W) ++ va_pl L (pI cI pl f1)) H := hP
      have hD : va_D A (([(o0, .inr (4, [.int (nI (n)), .int (nI (q)), .ref b2, .ref b3, .ref b1, .ref h0, v6, v7, .int (bI wk), .int (bI sd)])), (b1, .inl (cI, n, .inl (fun j => nI (tm j)))), (b2, .inl (cI, n, .inl (fun j => nI (st j)))), (b3, .inl (cI, n, .inl (fun j => nI (wt j)))), (h0, .inr (2, [.int (nI (n)), .int (nI (q)), .ref a1, .ref a2, .ref a3, .int (nI (bd)), .int (nI (fr))])), (a1, .inl (cG, n, .inr (.inr (.inr (.inr (fun j => some (gR j))))))), (a2, .inl (cI, n, .inl (fun j => oI (ro j)))), (a3, .inl (cG, n, .inr (.inr (.inr (.inr (fun j => some (gQ j)))))))] : va_W) ++ va_pl L (pI cI pl f1)) := hD
      have bl : ∀ i, i < n → ∀ j, j < n + 1 → f1 (gR i) j < q := by
        intro i hi j hj
        by_cases e : j = n
        · rw [e, hw.2 i hi]; exact Nat.mod_lt _ (by omega)
        · rw [hw.1 i hi j (by omega)]; have := Nat.mod_lt (tm j / 2 ^ i) (show 0 < 2 by omega); omega
      refine lv_aload_n hx hb dX3_work_26 rfl (lv_at hl 0 rfl) ?_
      refine va_get (D := (dC, dI)) (ci := 4) (v := .ref h0) (C := RX3) (T := TX3) (N := 10) hx hb hts hinX3 hown hK hP 0 rfl rfl 5 (by decide) hf44 (fun _ h9 => h9) rfl dX3_work_27 ?_
      have hPc := hP.part (cx := [(h0, .inr (2, [.int (nI (n)), .int (nI (q)), .ref a1, .ref a2, .ref a3, .int (nI (bd)), .int (nI (fr))])), (a1, .inl (cG, n, .inr (.inr (.inr (.inr (fun j => some (gR j))))))), (a2, .inl (cI, n, .inl (fun j => oI (ro j)))), (a3, .inl (cG, n, .inr (.inr (.inr (.inr (fun j => some (gQ j)))))))]) [4, 5, 6, 7] rfl
      have hDc := hD.part (cx := [(h0, .inr (2, [.int (nI (n)), .int (nI (q)), .ref a1, .ref a2, .ref a3, .int (nI (bd)), .int (nI (fr))])), (a1, .inl (cG, n, .inr (.inr (.inr (.inr (fun j => some (gR j))))))), (a2, .inl (cI, n, .inl (fun j => oI (ro j)))), (a3, .inl (cG, n, .inr (.inr (.inr (.inr (fun j => some (gQ j)))))))]) [4, 5, 6, 7] (by decide) rfl
      have hFc := va_freeP (cx := [(h0, .inr (2, [.int (nI (n)), .int (nI (q)), .ref a1, .ref a2, .ref a3, .int (nI (bd)), .int (nI (fr))])), (a1, .inl (cG, n, .inr (.inr (.inr (.inr (fun j => some (gR j))))))), (a2, .inl (cI, n, .inl (fun j => oI (ro j)))), (a3, .inl (cG, n, .inr (.inr (.inr (.inr (fun j => some (gQ j)))))))]) hD hS hA [4, 5, 6, 7] rfl
      have hKc := hK.sub (tys' := [(cI, .int), (cG, .array .int)]) [0, 1] rfl
      refine va_callv (va_runV (As := []) (rest := []) ⟨hx, hb, hml, hown, hts⟩ (c_X1_reduce l dC dI H.size h0 a1 a2 a3 n q bd fr gR gQ ro cG cI L pl f1 (by omega) hok hq hq2 bl) (cwV 0 hts gX3_work_X1_reduce rfl rfl rfl (by decide +kernel) ⟨Nat.le_of_ble_eq_true rfl, Nat.le_of_ble_eq_true rfl⟩) ⟨fun a U g mk q => by obtain ⟨q0, q1, qP, ⟨qK, qG⟩, qD⟩ := q; exact ⟨q0, q1, qP, ⟨va_K.moved (u := U) (U := U.calling g mk a) (Vm.Alike.refl U.vm) qK, qG.moved (u := U) (U := U.calling g mk a) (Vm.Alike.refl U.vm)⟩, qD⟩, va_recv hKc hPc (ci := 2) (q0 := 0) rfl rfl, fun U hU hW => ⟨rfl, by rw [hU], by rw [hU]; exact hPc, ⟨va_K.moved hW.alike hKc, hG.moved hW.alike⟩, hDc.weaken (fun _ _ _ _ => trivial)⟩⟩ rfl rfl hl.1 rfl (lv_room (Nat.le_of_ble_eq_true rfl)) dX3_work_30 ⟨Nat.le_of_ble_eq_true rfl, Nat.le_of_ble_eq_true rfl⟩) hS (fun q _ h => hFc q h) hFc (fun u t H1 locs ht hvm hw2 hB hz1 hk1 hS => ?_)
      obtain ⟨g2, f2⟩ := u
      obtain ⟨hP1, hK1, hD1⟩ := hB
      rw [ht] at hP1
      try dsimp only at hw2
      obtain ⟨hP, hD⟩ := va_joinP (wr := [(o0, .inr (4, [.int (nI (n)), .int (nI (q)), .ref b2, .ref b3, .ref b1, .ref h0, v6, v7, .int (bI wk), .int (bI sd)])), (b1, .inl (cI, n, .inl (fun j => nI (tm j)))), (b2, .inl (cI, n, .inl (fun j => nI (st j)))), (b3, .inl (cI, n, .inl (fun j => nI (wt j))))]) (rx := [(h0, .inr (2, [.int (nI (n)), .int (nI (q)), .ref a1, .ref a2, .ref a3, .int (nI ((rds n q (fun i => f1 (gR i)) ro n).2.2)), .int (nI (cF (rds n q (fun i => f1 (gR i)) ro n).2.1 n))])), (a1, .inl (cG, n, .inr (.inr (.inr (.inr (fun j => some (g2 j))))))), (a2, .inl (cI, n, .inl (fun j => oI (((rds n q (fun i => f1 (gR i)) ro n).2.1) j)))), (a3, .inl (cG, n, .inr (.inr (.inr (.inr (fun j => some (gQ j)))))))]) (pl1 := va_pl L (pI cI pl f2)) hP hD [4, 5, 6, 7] [0, 1, 2, 3] rfl rfl (by decide) (by decide) hk1 hFc hP1 hD1
      generalize H1 = H at hP hS ⊢
      have hP := hP.part (cx := [(o0, .inr (4, [.int (nI (n)), .int (nI (q)), .ref b2, .ref b3, .ref b1, .ref h0, v6, v7, .int (bI wk), .int (bI sd)])), (b1, .inl (cI, n, .inl (fun j => nI (tm j)))), (b2, .inl (cI, n, .inl (fun j => nI (st j)))), (b3, .inl (cI, n, .inl (fun j => nI (wt j)))), (h0, .inr (2, [.int (nI (n)), .int (nI (q)), .ref a1, .ref a2, .ref a3, .int (nI ((rds n q (fun i => f1 (gR i)) ro n).2.2)), .int (nI (cF (rds n q (fun i => f1 (gR i)) ro n).2.1 n))])), (a1, .inl (cG, n, .inr (.inr (.inr (.inr (fun j => some (g2 j))))))), (a2, .inl (cI, n, .inl (fun j => oI (((rds n q (fun i => f1 (gR i)) ro n).2.1) j)))), (a3, .inl (cG, n, .inr (.inr (.inr (.inr (fun j => some (gQ j)))))))]) [0, 1, 2, 3, 4, 5, 6, 7] rfl
      have hD := hD.part (cx := [(o0, .inr (4, [.int (nI (n)), .int (nI (q)), .ref b2, .ref b3, .ref b1, .ref h0, v6, v7, .int (bI wk), .int (bI sd)])), (b1, .inl (cI, n, .inl (fun j => nI (tm j)))), (b2, .inl (cI, n, .inl (fun j => nI (st j)))), (b3, .inl (cI, n, .inl (fun j => nI (wt j)))), (h0, .inr (2, [.int (nI (n)), .int (nI (q)), .ref a1, .ref a2, .ref a3, .int (nI ((rds n q (fun i => f1 (gR i)) ro n).2.2)), .int (nI (cF (rds n q (fun i => f1 (gR i)) ro n).2.1 n))])), (a1, .inl (cG, n, .inr (.inr (.inr (.inr (fun j => some (g2 j))))))), (a2, .inl (cI, n, .inl (fun j => oI (((rds n q (fun i => f1 (gR i)) ro n).2.1) j)))), (a3, .inl (cG, n, .inr (.inr (.inr (.inr (fun j => some (gQ j)))))))]) [0, 1, 2, 3, 4, 5, 6, 7] (by decide) rfl
      have hP : va_P (dC, dI) vwCl (([(o0, .inr (4, [.int (nI (n)), .int (nI (q)), .ref b2, .ref b3, .ref b1, .ref h0, v6, v7, .int (bI wk), .int (bI sd)])), (b1, .inl (cI, n, .inl (fun j => nI (tm j)))), (b2, .inl (cI, n, .inl (fun j => nI (st j)))), (b3, .inl (cI, n, .inl (fun j => nI (wt j)))), (h0, .inr (2, [.int (nI (n)), .int (nI (q)), .ref a1, .ref a2, .ref a3, .int (nI ((rds n q (fun i => f1 (gR i)) ro n).2.2)), .int (nI (cF (rds n q (fun i => f1 (gR i)) ro n).2.1 n))])), (a1, .inl (cG, n, .inr (.inr (.inr (.inr (fun j => some (g2 j))))))), (a2, .inl (cI, n, .inl (fun j => oI (((rds n q (fun i => f1 (gR i)) ro n).2.1) j)))), (a3, .inl (cG, n, .inr (.inr (.inr (.inr (fun j => some (gQ j)))))))] : va_W) ++ va_pl L (pI cI pl f2)) H := hP
      have hD : va_D A (([(o0, .inr (4, [.int (nI (n)), .int (nI (q)), .ref b2, .ref b3, .ref b1, .ref h0, v6, v7, .int (bI wk), .int (bI sd)])), (b1, .inl (cI, n, .inl (fun j => nI (tm j)))), (b2, .inl (cI, n, .inl (fun j => nI (st j)))), (b3, .inl (cI, n, .inl (fun j => nI (wt j)))), (h0, .inr (2, [.int (nI (n)), .int (nI (q)), .ref a1, .ref a2, .ref a3, .int (nI ((rds n q (fun i => f1 (gR i)) ro n).2.2)), .int (nI (cF (rds n q (fun i => f1 (gR i)) ro n).2.1 n))])), (a1, .inl (cG, n, .inr (.inr (.inr (.inr (fun j => some (g2 j))))))), (a2, .inl (cI, n, .inl (fun j => oI (((rds n q (fun i => f1 (gR i)) ro n).2.1) j)))), (a3, .inl (cG, n, .inr (.inr (.inr (.inr (fun j => some (gQ j)))))))] : va_W) ++ va_pl L (pI cI pl f2)) := hD
      refine lv_aload_n hx hb dX3_work_33 rfl (lv_at hl 0 rfl) ?_
      refine lv_iconst (v := nI 1) hx hb dX3_work_34 (by decide) ?_
      refine va_put (D := (dC, dI)) (ci := 4) (v := .int (nI (1))) (ty := .boolean) (C := RX3) (T := TX3) (N := 10) hx hb hts hinX3 tyX3 tyX3_ok nmX3 hown hK hP hD hS 0 rfl rfl 8 (by decide) hf62 (fun _ h9 => h9) rfl (by decide +kernel) rfl rfl (Nat.le_of_ble_eq_true rfl) dX3_work_35 (fun H locs hP hD hS => ?_)
      have hP : va_P (dC, dI) vwCl (([(o0, .inr (4, [.int (nI (n)), .int (nI (q)), .ref b2, .ref b3, .ref b1, .ref h0, v6, v7, .int (nI (1)), .int (bI sd)])), (b1, .inl (cI, n, .inl (fun j => nI (tm j)))), (b2, .inl (cI, n, .inl (fun j => nI (st j)))), (b3, .inl (cI, n, .inl (fun j => nI (wt j)))), (h0, .inr (2, [.int (nI (n)), .int (nI (q)), .ref a1, .ref a2, .ref a3, .int (nI ((rds n q (fun i => f1 (gR i)) ro n).2.2)), .int (nI (cF (rds n q (fun i => f1 (gR i)) ro n).2.1 n))])), (a1, .inl (cG, n, .inr (.inr (.inr (.inr (fun j => some (g2 j))))))), (a2, .inl (cI, n, .inl (fun j => oI (((rds n q (fun i => f1 (gR i)) ro n).2.1) j)))), (a3, .inl (cG, n, .inr (.inr (.inr (.inr (fun j => some (gQ j)))))))] : va_W) ++ va_pl L (pI cI pl f2)) H := hP
      have hD : va_D A (([(o0, .inr (4, [.int (nI (n)), .int (nI (q)), .ref b2, .ref b3, .ref b1, .ref h0, v6, v7, .int (nI (1)), .int (bI sd)])), (b1, .inl (cI, n, .inl (fun j => nI (tm j)))), (b2, .inl (cI, n, .inl (fun j => nI (st j)))), (b3, .inl (cI, n, .inl (fun j => nI (wt j)))), (h0, .inr (2, [.int (nI (n)), .int (nI (q)), .ref a1, .ref a2, .ref a3, .int (nI ((rds n q (fun i => f1 (gR i)) ro n).2.2)), .int (nI (cF (rds n q (fun i => f1 (gR i)) ro n).2.1 n))])), (a1, .inl (cG, n, .inr (.inr (.inr (.inr (fun j => some (g2 j))))))), (a2, .inl (cI, n, .inl (fun j => oI (((rds n q (fun i => f1 (gR i)) ro n).2.1) j)))), (a3, .inl (cG, n, .inr (.inr (.inr (.inr (fun j => some (gQ j)))))))] : va_W) ++ va_pl L (pI cI pl f2)) := hD
      rw [hQ]
      exact W.vret hx hb hr (fun t ht hW => ⟨⟨(g2, f2, (rds n q (fun i => f1 (gR i)) ro n).2.1, (rds n q (fun i => f1 (gR i)) ro n).2.2, cF (rds n q (fun i => f1 (gR i)) ro n).2.1 n), rfl, ⟨⟨hw2.1, fun i => f1 (gR i), ro, hw.1, hw.2, hw2.2.1, rfl, rfl, rfl, hw2.2.2⟩, fun h => by rw [hk] at h; exact absurd h (by decide)⟩, by rw [ht]; exact hP, va_K.moved hW.alike hK, hD⟩, hS.F ht⟩) hS.2.2 dX3_work_38
  · skip
    refine tp_i (y := nI 1) rfl ?_
    subst hk
    refine lv_if_ne (tgt := 38) hx hb dX3_work_4 (by decide) (fun c => ?_) (fun c => ?_)
    · skip
      have c : 1 ≠ 0 := fun h => c ((nI_eq (a := 1) (b := 0) (by omega) (by omega)).mpr h)
      rw [hQ]
      exact W.vret hx hb hr (fun t ht hW => ⟨⟨(gR, pr, ro, bd, fr), rfl, ⟨⟨hok, hwk rfl⟩, fun _ => rfl⟩, by rw [ht]; exact hP, va_K.moved hW.alike hK, hD⟩, hS.F ht⟩) hS.2.2 dX3_work_38
    · skip
      have c : 1 = 0 := (nI_eq (a := 1) (b := 0) (by omega) (by omega)).mp c
      exact absurd c (by decide)

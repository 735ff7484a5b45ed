set_option maxHeartbeats 4000000 in
set_option maxRecDepth 100000 in
theorem c_X3_forget (l : Launch) (dC : Nat → ClassId) (dI : Nat → Nat → Nat) (sz : Nat) (o0 n q : Nat) (aw as : Int32) (v2 v3 v4 v5 v6 v7 : Value)  : Met l yX3_forget wsX3_forget ({ frames := 0, cells := 0, slots := 0, locals := 0 }) (va_Pc [.ref o0] (fun U => U.heap.size = sz ∧ va_P (dC, dI) vwCl [(o0, .inr (4, [.int (nI (n)), .int (nI (q)), v2, v3, v4, v5, v6, v7, .int (aw), .int (as)]))] U.heap ∧ va_K (dC, dI) vwCl [] U ∧ va_D (fun _ => True) [(o0, .inr (4, [.int (nI (n)), .int (nI (q)), v2, v3, v4, v5, v6, v7, .int (aw), .int (as)]))])) (va_Qv (fun _ : Unit => True) (fun _ t => va_P (dC, dI) vwCl [(o0, .inr (4, [.int (nI (n)), .int (nI (q)), v2, v3, v4, v5, v6, v7, .int (bI false), .int (bI false)]))] t.heap ∧ va_K (dC, dI) vwCl [] t ∧ va_D (va_A [(o0, .inr (4, [.int (nI (n)), .int (nI (q)), v2, v3, v4, v5, v6, v7, .int (aw), .int (as)]))] sz) [(o0, .inr (4, [.int (nI (n)), .int (nI (q)), v2, v3, v4, v5, v6, v7, .int (bI false), .int (bI false)]))]) (va_A [(o0, .inr (4, [.int (nI (n)), .int (nI (q)), v2, v3, v4, v5, v6, v7, .int (aw), .int (as)]))] sz)) 0 0 (va_A [(o0, .inr (4, [.int (nI (n)), .int (nI (q)), v2, v3, v4, v5, v6, v7, .int (aw), .int (as)]))] sz) := by
  refine Met.ofW (cc := cX3_forget) (maxL := 1) (ret := none) (by decide) rfl ?_
  intro zp ze s m args below meth zc s₁ B hml hv
  obtain ⟨hargs, hsz, hP, hK, hD0⟩ := hv
  have hx := B.exec
  have hb := B.bytes
  have hr := B.returns
  have hts := atoms_spec (ws := wsX3_forget) B.pre
  have hown : s.vm.findClass RX3 = some m.cls := findClass_of_methodNamed B.named
  have hlocks := B.notSynchronized
  subst hsz
  obtain ⟨Q, hQ⟩ : ∃ Q, Q = MQ below (va_Qv (fun _ : Unit => True) (fun _ t => va_P (dC, dI) vwCl [(o0, .inr (4, [.int (nI (n)), .int (nI (q)), v2, v3, v4, v5, v6, v7, .int (bI false), .int (bI false)]))] t.heap ∧ va_K (dC, dI) vwCl [] t ∧ va_D (va_A [(o0, .inr (4, [.int (nI (n)), .int (nI (q)), v2, v3, v4, v5, v6, v7, .int (aw), .int (as)]))] s.heap.size) [(o0, .inr (4, [.int (nI (n)), .int (nI (q)), v2, v3, v4, v5, v6, v7, .int (bI false), .int (bI false)]))]) (va_A [(o0, .inr (4, [.int (nI (n)), .int (nI (q)), v2, v3, v4, v5, v6, v7, .int (aw), .int (as)]))] s.heap.size)) args s 0 0 (va_A [(o0, .inr (4, [.int (nI (n)), .int (nI (q)), v2, v3, v4, v5, v6, v7, .int (aw), .int (as)]))] s.heap.size) := ⟨_, rfl⟩
  rw [← hQ]
  have hD := hD0.self (sz := s.heap.size)
  generalize hAe : (va_A [(o0, .inr (4, [.int (nI (n)), .int (nI (q)), v2, v3, v4, v5, v6, v7, .int (aw), .int (as)]))] s.heap.size) = A at hD hQ
  have hA : ∀ q : Nat, s.heap.size ≤ q → A q := fun q h => by rw [← hAe]; exact Or.inr h
  have hS : va_S A s.heap s.heap [] := va_S.rf
  have hl := lv_entry ([.ref o0]) (n := 1) (Nat.le_of_ble_eq_true rfl)
  generalize hen : entryFrame m args 1 = fr
  rw [hargs, lg_entry_eq] at hen
  subst hen
  generalize (lg_sl ([.ref o0]) ++ List.replicate (1 - (lg_sl ([.ref o0])).length) Slot.unset).toArray = ls at hl ⊢
  have hl : lv_has ls 1 [(0, .ref o0)] := hl
  have hinX3 : ∀ w ∈ wsX30, w ∈ wsX3_forget := by decide +kernel
  have hf62 := hts (.fieldLink RX3 62 "LightRows" "worked" "Z") (by decide +kernel)
  have hf66 := hts (.fieldLink RX3 66 "LightRows" "searched" "Z") (by decide +kernel)
  refine lv_aload_n hx hb dX3_forget_0 rfl (lv_at hl 0 rfl) ?_
  refine lv_iconst (v := nI 0) hx hb dX3_forget_1 (by decide) ?_
  refine va_put (D := (dC, dI)) (ci := 4) (v := .int (nI (0))) (ty := .boolean) (C := RX3) (T := TX3) (N := 10) hx hb hts hinX3 tyX3 tyX3_ok nmX3 hown hK hP hD hS 0 rfl rfl 8 (by decide) hf62 (fun _ h9 => h9) rfl (by decide +kernel) rfl rfl (Nat.le_of_ble_eq_true rfl) dX3_forget_2 (fun H locs hP hD hS => ?_)
  have hP : va_P (dC, dI) vwCl [(o0, .inr (4, [.int (nI (n)), .int (nI (q)), v2, v3, v4, v5, v6, v7, .int (nI (0)), .int (as)]))] H := hP
  have hD : va_D A [(o0, .inr (4, [.int (nI (n)), .int (nI (q)), v2, v3, v4, v5, v6, v7, .int (nI (0)), .int (as)]))] := hD
  refine lv_aload_n hx hb dX3_forget_5 rfl (lv_at hl 0 rfl) ?_
  refine lv_iconst (v := nI 0) hx hb dX3_forget_6 (by decide) ?_
  refine va_put (D := (dC, dI)) (ci := 4) (v := .int (nI (0))) (ty := .boolean) (C := RX3) (T := TX3) (N := 10) hx hb hts hinX3 tyX3 tyX3_ok nmX3 hown hK hP hD hS 0 rfl rfl 9 (by decide) hf66 (fun _ h9 => h9) rfl (by decide +kernel) rfl rfl (Nat.le_of_ble_eq_true rfl) dX3_forget_7 (fun H locs hP hD hS => ?_)
  have hP : va_P (dC, dI) vwCl [(o0, .inr (4, [.int (nI (n)), .int (nI (q)), v2, v3, v4, v5, v6, v7, .int (nI (0)), .int (nI (0))]))] H := hP
  have hD : va_D A [(o0, .inr (4, [.int (nI (n)), .int (nI (q)), v2, v3, v4, v5, v6, v7, .int (nI (0)), .int (nI (0))]))] := hD
  rw [hQ]
  exact W.vret hx hb hr (fun t ht hW => ⟨⟨(), rfl, trivial, by rw [ht]; exact hP, va_K.moved hW.alike hK, hD⟩, hS.F ht⟩) hS.2.2 dX3_forget_10

set_option maxHeartbeats 4000000 in
set_option maxRecDepth 100000 in
theorem c_X3_touches (l : Launch) (dC : Nat → ClassId) (dI : Nat → Nat → Nat) (sz : Nat) (o0 b1 n q a b : Nat) (tm : Nat → Nat) (wk sd : Bool) (cI : ClassId) (v2 v3 v5 v6 v7 : Value) (hn : n < 31) (ha : a < n) (hb0 : b < n) (ht0 : tm a < 2 ^ 31) : Met l yX3_touches wsX3_touches ({ frames := 0, cells := 0, slots := 0, locals := 0 }) (va_Pc [.ref o0, .int (nI (a)), .int (nI (b))] (fun U => U.heap.size = sz ∧ va_P (dC, dI) vwCl [(o0, .inr (4, [.int (nI (n)), .int (nI (q)), v2, v3, .ref b1, v5, v6, v7, .int (bI wk), .int (bI sd)])), (b1, .inl (cI, n, .inl (fun j => nI (tm j))))] U.heap ∧ va_K (dC, dI) vwCl [(cI, .int)] U ∧ va_D (fun _ => True) [(o0, .inr (4, [.int (nI (n)), .int (nI (q)), v2, v3, .ref b1, v5, v6, v7, .int (bI wk), .int (bI sd)])), (b1, .inl (cI, n, .inl (fun j => nI (tm j))))])) (va_Qi (fun (z : Int32) (_ : Unit) => z = bI (decide (tm a / 2 ^ b % 2 = 1))) (fun _ t => va_P (dC, dI) vwCl [(o0, .inr (4, [.int (nI (n)), .int (nI (q)), v2, v3, .ref b1, v5, v6, v7, .int (bI wk), .int (bI sd)])), (b1, .inl (cI, n, .inl (fun j => nI (tm j))))] t.heap ∧ va_K (dC, dI) vwCl [(cI, .int)] t ∧ va_D (va_A [(o0, .inr (4, [.int (nI (n)), .int (nI (q)), v2, v3, .ref b1, v5, v6, v7, .int (bI wk), .int (bI sd)])), (b1, .inl (cI, n, .inl (fun j => nI (tm j))))] sz) [(o0, .inr (4, [.int (nI (n)), .int (nI (q)), v2, v3, .ref b1, v5, v6, v7, .int (bI wk), .int (bI sd)])), (b1, .inl (cI, n, .inl (fun j => nI (tm j))))]) (va_A [(o0, .inr (4, [.int (nI (n)), .int (nI (q)), v2, v3, .ref b1, v5, v6, v7, .int (bI wk), .int (bI sd)])), (b1, .inl (cI, n, .inl (fun j => nI (tm j))))] sz)) 0 0 (va_A [(o0, .inr (4, [.int (nI (n)), .int (nI (q)), v2, v3, .ref b1, v5, v6, v7, .int (bI wk), .int (bI sd)])), (b1, .inl (cI, n, .inl (fun j => nI (tm j))))] sz) := by
  refine Met.ofW (cc := cX3_touches) (maxL := 3) (ret := (some .boolean)) (by decide) rfl ?_
  intro zp ze s m args below meth zc s₁ B hml hv
  obtain ⟨hargs, hsz, hP, hK, hD0⟩ := hv
  have hx := B.exec
  have hb := B.bytes
  have hr := B.returns
  have hts := atoms_spec (ws := wsX3_touches) B.pre
  have hown : s.vm.findClass RX3 = some m.cls := findClass_of_methodNamed B.named
  have hlocks := B.notSynchronized
  subst hsz
  obtain ⟨Q, hQ⟩ : ∃ Q, Q = MQ below (va_Qi (fun (z : Int32) (_ : Unit) => z = bI (decide (tm a / 2 ^ b % 2 = 1))) (fun _ t => va_P (dC, dI) vwCl [(o0, .inr (4, [.int (nI (n)), .int (nI (q)), v2, v3, .ref b1, v5, v6, v7, .int (bI wk), .int (bI sd)])), (b1, .inl (cI, n, .inl (fun j => nI (tm j))))] t.heap ∧ va_K (dC, dI) vwCl [(cI, .int)] t ∧ va_D (va_A [(o0, .inr (4, [.int (nI (n)), .int (nI (q)), v2, v3, .ref b1, v5, v6, v7, .int (bI wk), .int (bI sd)])), (b1, .inl (cI, n, .inl (fun j => nI (tm j))))] s.heap.size) [(o0, .inr (4, [.int (nI (n)), .int (nI (q)), v2, v3, .ref b1, v5, v6, v7, .int (bI wk), .int (bI sd)])), (b1, .inl (cI, n, .inl (fun j => nI (tm j))))]) (va_A [(o0, .inr (4, [.int (nI (n)), .int (nI (q)), v2, v3, .ref b1, v5, v6, v7, .int (bI wk), .int (bI sd)])), (b1, .inl (cI, n, .inl (fun j => nI (tm j))))] s.heap.size)) args s 0 0 (va_A [(o0, .inr (4, [.int (nI (n)), .int (nI (q)), v2, v3, .ref b1, v5, v6, v7, .int (bI wk), .int (bI sd)])), (b1, .inl (cI, n, .inl (fun j => nI (tm j))))] s.heap.size) := ⟨_, rfl⟩
  rw [← hQ]
  have hD := hD0.self (sz := s.heap.size)
  generalize hAe : (va_A [(o0, .inr (4, [.int (nI (n)), .int (nI (q)), v2, v3, .ref b1, v5, v6, v7, .int (bI wk), .int (bI sd)])), (b1, .inl (cI, n, .inl (fun j => nI (tm j))))] s.heap.size) = A at hD hQ
  have hA : ∀ q : Nat, s.heap.size ≤ q → A q := fun q h => by rw [← hAe]; exact Or.inr h
  have hS : va_S A s.heap s.heap [] := va_S.rf
  have hl := lv_entry ([.ref o0, .int (nI (a)), .int (nI (b))]) (n := 3) (Nat.le_of_ble_eq_true rfl)
  generalize hen : entryFrame m args 3 = fr
  rw [hargs, lg_entry_eq] at hen
  subst hen
  generalize (lg_sl ([.ref o0, .int (nI (a)), .int (nI (b))]) ++ List.replicate (3 - (lg_sl ([.ref o0, .int (nI (a)), .int (nI (b))])).length) Slot.unset).toArray = ls at hl ⊢
  have hl : lv_has ls 3 [(0, .ref o0), (1, .int (nI (a))), (2, .int (nI (b)))] := hl
  have hinX3 : ∀ w ∈ wsX30, w ∈ wsX3_touches := by decide +kernel
  have hf36 := hts (.fieldLink RX3 36 "LightRows" "touched" "[I") (by decide +kernel)
  have e4 : tm a / 2 ^ b ≤ tm a := Nat.div_le_self _ _
  refine lv_aload_n hx hb dX3_touches_0 rfl (lv_at hl 0 rfl) ?_
  refine va_get (D := (dC, dI)) (ci := 4) (v := .ref b1) (C := RX3) (T := TX3) (N := 10) hx hb hts hinX3 hown hK hP 0 rfl rfl 4 (by decide) hf36 (fun _ h9 => h9) rfl dX3_touches_1 ?_
  refine lv_iload_n hx hb dX3_touches_4 rfl (lv_at hl 1 rfl) ?_
  refine ra_ld (g := nI) (F := tm) hx hb hK hP 1 0 rfl rfl (by omega) (by omega) dX3_touches_5 ?_
  refine lv_iload_n hx hb dX3_touches_6 rfl (lv_at hl 2 rfl) ?_
  refine lv_ishr hx hb dX3_touches_7 ?_
  refine tp_i (y := nI ((tm a) / 2 ^ b)) (pk_shrN (by omega) _ _ (s_l _ (by omega))) ?_
  refine lv_iconst (v := nI 1) hx hb dX3_touches_8 (by decide) ?_
  refine lv_iand hx hb dX3_touches_9 ?_
  refine tp_i (y := nI (((tm a) / 2 ^ b) % 2)) (pk_andN (by omega) 1 (by decide)) ?_
  refine lv_iconst (v := nI 1) hx hb dX3_touches_10 (by decide) ?_
  refine lv_icmp_ne (tgt := 18) hx hb dX3_touches_11 (by decide) (fun c => ?_) (fun c => ?_)
  · skip
    have c : ((tm a) / 2 ^ b) % 2 ≠ 1 := fun h => c ((nI_eq (a := ((tm a) / 2 ^ b) % 2) (b := 1) (by omega) (by omega)).mpr h)
    refine lv_iconst (v := nI 0) hx hb dX3_touches_18 (by decide) ?_
    rw [hQ]
    exact W.zret (v := nI (0)) (ty := .boolean) hx hb hr rfl (fun t ht hW => ⟨⟨_, (), rfl, by rw [decide_eq_false c]; rfl, by rw [ht]; exact hP, va_K.moved hW.alike hK, hD⟩, hS.F ht⟩) hS.2.2 dX3_touches_19
  · skip
    have c : ((tm a) / 2 ^ b) % 2 = 1 := (nI_eq (a := ((tm a) / 2 ^ b) % 2) (b := 1) (by omega) (by omega)).mp c
    refine lv_iconst (v := nI 1) hx hb dX3_touches_14 (by decide) ?_
    refine lv_goto (tgt := 19) hx hb dX3_touches_15 (by decide) ?_
    rw [hQ]
    exact W.zret (v := nI (1)) (ty := .boolean) hx hb hr rfl (fun t ht hW => ⟨⟨_, (), rfl, by rw [decide_eq_true c]; rfl, by rw [ht]; exact hP, va_K.moved hW.alike hK, hD⟩, hS.F ht⟩) hS.2.2 dX3_touches_19

set_option maxHeartbeats 4000000 in
set_option maxRecDepth 100000 in
theorem c_X3_isState (l : Launch) (dC : Nat → ClassId) (dI : Nat → Nat → Nat) (sz : Nat) (o0 n q : Nat) (v : Int32) (wk sd : Bool) (v2 v3 v4 v5 v6 v7 : Value) (hq : q < 100) : Met l yX3_isState wsX3_isState ({ frames := 0, cells := 0, slots := 0, locals := 0 }) (va_Pc [.ref o0, .int (v)] (fun U => U.heap.size = sz ∧ va_P (dC, dI) vwCl [(o0, .inr (4, [.int (nI (n)), .int (nI (q)), v2, v3, v4, v5, v6, v7, .int (bI wk), .int (bI sd)]))] U.heap ∧ va_K (dC, dI) vwCl [] U ∧ va_D (fun _ => True) [(o0, .inr (4, [.int (nI (n)), .int (nI (q)), v2, v3, v4, v5, v6, v7, .int (bI wk), .int (bI sd)]))])) (va_Qi (fun (z : Int32) (_ : Unit) => (z = nI 1 ∧ ∃ k : Nat, k < q ∧ v = nI k) ∨ (z = nI 0 ∧ ∀ k : Nat, k < q → v ≠ nI k)) (fun _ t => va_P (dC, dI) vwCl [(o0, .inr (4, [.int (nI (n)), .int (nI (q)), v2, v3, v4, v5, v6, v7, .int (bI wk), .int (bI sd)]))] t.heap ∧ va_K (dC, dI) vwCl [] t ∧ va_D (va_A [(o0, .inr (4, [.int (nI (n)), .int (nI (q)), v2, v3, v4, v5, v6, v7, .int (bI wk), .int (bI sd)]))] sz) [(o0, .inr (4, [.int (nI (n)), .int (nI (q)), v2, v3, v4, v5, v6, v7, .int (bI wk), .int (bI sd)]))]) (va_A [(o0, .inr (4, [.int (nI (n)), .int (nI (q)), v2, v3, v4, v5, v6, v7, .int (bI wk), .int (bI sd)]))] sz)) 0 0 (va_A [(o0, .inr (4, [.int (nI (n)), .int (nI (q)), v2, v3, v4, v5, v6, v7, .int (bI wk), .int (bI sd)]))] sz) := by
  refine Met.ofW (cc := cX3_isState) (maxL := 2) (ret := (some .boolean)) (by decide) rfl ?_
  intro zp ze s m args below meth zc s₁ B hml hv
  obtain ⟨hargs, hsz, hP, hK, hD0⟩ := hv
  have hx := B.exec
  have hb := B.bytes
  have hr := B.returns
  have hts := atoms_spec (ws := wsX3_isState) B.pre
  have hown : s.vm.findClass RX3 = some m.cls := findClass_of_methodNamed B.named
  have hlocks := B.notSynchronized
  subst hsz
  obtain ⟨Q, hQ⟩ : ∃ Q, Q = MQ below (va_Qi (fun (z : Int32) (_ : Unit) => (z = nI 1 ∧ ∃ k : Nat, k < q ∧ v = nI k) ∨ (z = nI 0 ∧ ∀ k : Nat, k < q → v ≠ nI k)) (fun _ t => va_P (dC, dI) vwCl [(o0, .inr (4, [.int (nI (n)), .int (nI (q)), v2, v3, v4, v5, v6, v7, .int (bI wk), .int (bI sd)]))] t.heap ∧ va_K (dC, dI) vwCl [] t ∧ va_D (va_A [(o0, .inr (4, [.int (nI (n)), .int (nI (q)), v2, v3, v4, v5, v6, v7, .int (bI wk), .int (bI sd)]))] s.heap.size) [(o0, .inr (4, [.int (nI (n)), .int (nI (q)), v2, v3, v4, v5, v6, v7, .int (bI wk), .int (bI sd)]))]) (va_A [(o0, .inr (4, [.int (nI (n)), .int (nI (q)), v2, v3, v4, v5, v6, v7, .int (bI wk), .int (bI sd)]))] s.heap.size)) args s 0 0 (va_A [(o0, .inr (4, [.int (nI (n)), .int (nI (q)), v2, v3, v4, v5, v6, v7, .int (bI wk), .int (bI sd)]))] s.heap.size) := ⟨_, rfl⟩
  rw [← hQ]
  have hD := hD0.self (sz := s.heap.size)
  generalize hAe : (va_A [(o0, .inr (4, [.int (nI (n)), .int (nI (q)), v2, v3, v4, v5, v6, v7, .int (bI wk), .int (bI sd)]))] s.heap.size) = A at hD hQ
  have hA : ∀ q : Nat, s.heap.size ≤ q → A q := fun q h => by rw [← hAe]; exact Or.inr h
  have hS : va_S A s.heap s.heap [] := va_S.rf
  have hl := lv_entry ([.ref o0, .int (v)]) (n := 2) (Nat.le_of_ble_eq_true rfl)
  generalize hen : entryFrame m args 2 = fr
  rw [hargs, lg_entry_eq] at hen
  subst hen
  generalize (lg_sl ([.ref o0, .int (v)]) ++ List.replicate (2 - (lg_sl ([.ref o0, .int (v)])).length) Slot.unset).toArray = ls at hl ⊢
  have hl : lv_has ls 2 [(0, .ref o0), (1, .int (v))] := hl
  have hinX3 : ∀ w ∈ wsX30, w ∈ wsX3_isState := by decide +kernel
  have hf26 := hts (.fieldLink RX3 26 "LightRows" "states" "I") (by decide +kernel)
  refine lv_iload_n hx hb dX3_isState_0 rfl (lv_at hl 1 rfl) ?_
  refine lv_if_lt (tgt := 16) hx hb dX3_isState_1 (by decide) (fun c => ?_) (fun c => ?_)
  · skip
    refine lv_iconst (v := nI 0) hx hb dX3_isState_16 (by decide) ?_
    rw [hQ]
    exact W.zret (v := nI (0)) (ty := .boolean) hx hb hr rfl (fun t ht hW => ⟨⟨_, (), rfl, Or.inr ⟨rfl, fun k hk e => nI_pos (by omega) (e ▸ c)⟩, by rw [ht]; exact hP, va_K.moved hW.alike hK, hD⟩, hS.F ht⟩) hS.2.2 dX3_isState_17
  · skip
    refine lv_iload_n hx hb dX3_isState_4 rfl (lv_at hl 1 rfl) ?_
    refine lv_aload_n hx hb dX3_isState_5 rfl (lv_at hl 0 rfl) ?_
    refine va_get (D := (dC, dI)) (ci := 4) (v := .int (nI (q))) (C := RX3) (T := TX3) (N := 10) hx hb hts hinX3 hown hK hP 0 rfl rfl 1 (by decide) hf26 (fun _ h9 => h9) rfl dX3_isState_6 ?_
    refine lv_icmp_ge (tgt := 16) hx hb dX3_isState_9 (by decide) (fun c2 => ?_) (fun c2 => ?_)
    · skip
      refine lv_iconst (v := nI 0) hx hb dX3_isState_16 (by decide) ?_
      rw [hQ]
      exact W.zret (v := nI (0)) (ty := .boolean) hx hb hr rfl (fun t ht hW => ⟨⟨_, (), rfl, Or.inr ⟨rfl, fun k hk e => by rw [e, nI_leI (by omega) (by omega)] at c2; omega⟩, by rw [ht]; exact hP, va_K.moved hW.alike hK, hD⟩, hS.F ht⟩) hS.2.2 dX3_isState_17
    · skip
      refine lv_iconst (v := nI 1) hx hb dX3_isState_12 (by decide) ?_
      refine lv_goto (tgt := 17) hx hb dX3_isState_13 (by decide) ?_
      rw [hQ]
      exact W.zret (v := nI (1)) (ty := .boolean) hx hb hr rfl (fun t ht hW => ⟨⟨_, (), rfl, Or.inl ⟨rfl, by
            rcases pk_ix v (n := q) (by omega) with h | h | h
            · exact absurd h c
            · exact absurd h c2
            · exact h⟩, by rw [ht]; exact hP, va_K.moved hW.alike hK, hD⟩, hS.F ht⟩) hS.2.2 dX3_isState_17

set_option maxHeartbeats 4000000 in
set_option maxRecDepth 100000 in
theorem c_X3_at (l : Launch) (dC : Nat → ClassId) (dI : Nat → Nat → Nat) (hfl : l.flags = pinnedFlags ++ [noTraceFlag]) (s0 : State) (A0 : Array Value) (str : Nat) (sz : Nat) (o0 b2 n q : Nat) (x : Int32) (st : Nat → Nat) (wk sd : Bool) (cI : ClassId) (v3 v4 v5 v6 v7 : Value) (hn : n < 1000) : tt_Met l yX3_at wsX3_at ({ frames := 8, cells := 1, slots := 6, locals := 116 }) (va_Pc [.ref o0, .int (x)] (fun U => U.heap.size = sz ∧ va_P (dC, dI) vwCl [(o0, .inr (4, [.int (nI (n)), .int (nI (q)), .ref b2, v3, v4, v5, v6, v7, .int (bI wk), .int (bI sd)])), (b2, .inl (cI, n, .inl (fun j => nI (st j))))] U.heap ∧ va_K (dC, dI) vwCl [(cI, .int)] U ∧ va_D (fun _ => True) [(o0, .inr (4, [.int (nI (n)), .int (nI (q)), .ref b2, v3, v4, v5, v6, v7, .int (bI wk), .int (bI sd)])), (b2, .inl (cI, n, .inl (fun j => nI (st j))))] ∧ tt_B s0 A0 str U)) (tt_Q (∃ j : Nat, j < n ∧ x = nI j) (va_Qi (fun (z : Int32) (_ : Unit) => ∃ j : Nat, j < n ∧ x = nI j ∧ z = nI (st j)) (fun _ t => va_P (dC, dI) vwCl [(o0, .inr (4, [.int (nI (n)), .int (nI (q)), .ref b2, v3, v4, v5, v6, v7, .int (bI wk), .int (bI sd)])), (b2, .inl (cI, n, .inl (fun j => nI (st j))))] t.heap ∧ va_K (dC, dI) vwCl [(cI, .int)] t ∧ va_D (va_A [(o0, .inr (4, [.int (nI (n)), .int (nI (q)), .ref b2, v3, v4, v5, v6, v7, .int (bI wk), .int (bI sd)])), (b2, .inl (cI, n, .inl (fun j => nI (st j))))] sz) [(o0, .inr (4, [.int (nI (n)), .int (nI (q)), .ref b2, v3, v4, v5, v6, v7, .int (bI wk), .int (bI sd)])), (b2, .inl (cI, n, .inl (fun j => nI (st j))))]) (va_A [(o0, .inr (4, [.int (nI (n)), .int (nI (q)), .ref b2, v3, v4, v5, v6, v7, .int (bI wk), .int (bI sd)])), (b2, .inl (cI, n, .inl (fun j => nI (st j))))] sz))) 1 6 (va_A [(o0, .inr (4, [.int (nI (n)), .int (nI (q)), .ref b2, v3, v4, v5, v6, v7, .int (bI wk), .int (bI sd)])), (b2, .inl (cI, n, .inl (fun j => nI (st j))))] sz) := by
  refine tt_ofW (cc := cX3_at) (maxL := 2) (ret := (some .int)) (by decide) rfl ?_
  intro zp ze s m args below meth zc s₁ B hml hv
  obtain ⟨hargs, hsz, hP, hK, hD0, hB⟩ := hv
  have hx := B.exec
  have hb := B.bytes
  have hr := B.returns
  have hts := atoms_spec (ws := wsX3_at) B.pre
  have hown : s.vm.findClass RX3 = some m.cls := findClass_of_methodNamed B.named
  have hlocks := B.notSynchronized
  have hemp := B.noHandlers (hts _ List.mem_cons_self)
  subst hsz
  obtain ⟨Q, hQ⟩ : ∃ Q, Q = tt_MQ below (tt_Q (∃ j : Nat, j < n ∧ x = nI j) (va_Qi (fun (z : Int32) (_ : Unit) => ∃ j : Nat, j < n ∧ x = nI j ∧ z = nI (st j)) (fun _ t => va_P (dC, dI) vwCl [(o0, .inr (4, [.int (nI (n)), .int (nI (q)), .ref b2, v3, v4, v5, v6, v7, .int (bI wk), .int (bI sd)])), (b2, .inl (cI, n, .inl (fun j => nI (st j))))] t.heap ∧ va_K (dC, dI) vwCl [(cI, .int)] t ∧ va_D (va_A [(o0, .inr (4, [.int (nI (n)), .int (nI (q)), .ref b2, v3, v4, v5, v6, v7, .int (bI wk), .int (bI sd)])), (b2, .inl (cI, n, .inl (fun j => nI (st j))))] s.heap.size) [(o0, .inr (4, [.int (nI (n)), .int (nI (q)), .ref b2, v3, v4, v5, v6, v7, .int (bI wk), .int (bI sd)])), (b2, .inl (cI, n, .inl (fun j => nI (st j))))]) (va_A [(o0, .inr (4, [.int (nI (n)), .int (nI (q)), .ref b2, v3, v4, v5, v6, v7, .int (bI wk), .int (bI sd)])), (b2, .inl (cI, n, .inl (fun j => nI (st j))))] s.heap.size))) args s 1 6 (va_A [(o0, .inr (4, [.int (nI (n)), .int (nI (q)), .ref b2, v3, v4, v5, v6, v7, .int (bI wk), .int (bI sd)])), (b2, .inl (cI, n, .inl (fun j => nI (st j))))] s.heap.size) := ⟨_, rfl⟩
  rw [← hQ]
  have hD := hD0.self (sz := s.heap.size)
  generalize hAe : (va_A [(o0, .inr (4, [.int (nI (n)), .int (nI (q)), .ref b2, v3, v4, v5, v6, v7, .int (bI wk), .int (bI sd)])), (b2, .inl (cI, n, .inl (fun j => nI (st j))))] s.heap.size) = A at hD hQ
  have hA : ∀ q : Nat, s.heap.size ≤ q → A q := fun q h => by rw [← hAe]; exact Or.inr h
  have hS : va_S A s.heap s.heap [] := va_S.rf
  have hl := lv_entry ([.ref o0, .int (x)]) (n := 2) (Nat.le_of_ble_eq_true rfl)
  generalize hen : entryFrame m args 2 = fr
  rw [hargs, lg_entry_eq] at hen
  subst hen
  generalize (lg_sl ([.ref o0, .int (x)]) ++ List.replicate (2 - (lg_sl ([.ref o0, .int (x)])).length) Slot.unset).toArray = ls at hl ⊢
  have hl : lv_has ls 2 [(0, .ref o0), (1, .int (x))] := hl
  have hinX3 : ∀ w ∈ wsX30, w ∈ wsX3_at := by decide +kernel
  have hf18 := hts (.fieldLink RX3 18 "LightRows" "lamps" "I") (by decide +kernel)
  have hf29 := hts (.fieldLink RX3 29 "LightRows" "now" "[I") (by decide +kernel)
  refine lv_aload_n hx hb dX3_at_0 rfl (lv_at hl 0 rfl) ?_
  refine lv_iload_n hx hb dX3_at_1 rfl (lv_at hl 1 rfl) ?_
  have hPc := hP.sub (ws' := [(o0, .inr (4, [.int (nI (n)), .int (nI (q)), .ref b2, v3, v4, v5, v6, v7, .int (bI wk), .int (bI sd)]))]) [0] rfl
  have hDc := hD.sub (ws' := [(o0, .inr (4, [.int (nI (n)), .int (nI (q)), .ref b2, v3, v4, v5, v6, v7, .int (bI wk), .int (bI sd)]))]) [0] (by decide) rfl
  have hKc := hK.sub (tys' := []) [] rfl
  rw [hQ]
  refine tt_must (mc := 1) (ms := 6) (tt_runV (As := [.int (x)]) (rest := []) ⟨hx, hb, hml, hown, hts⟩ (c_X3_mustExist l dC dI hfl s0 A0 str s.heap.size o0 n (.int (nI (q))) (.ref b2) (v3) (v4) (v5) (v6) (v7) (.int (bI wk)) (.int (bI sd)) (x) hn) (cwV 1 hts gX3_at_X3_mustExist rfl rfl rfl (by decide +kernel) ⟨Nat.le_of_ble_eq_true rfl, Nat.le_of_ble_eq_true rfl⟩) ⟨fun a U g mk q => by obtain ⟨q0, q1, qP, qK, qD, qB⟩ := q; exact ⟨q0, q1, qP, va_K.moved (u := U) (U := U.calling g mk a) (Vm.Alike.refl U.vm) qK, qD, qB.blind rfl rfl⟩, va_recv hKc hPc (ci := 4) (q0 := 0) rfl rfl, fun U hU hW => ⟨rfl, by rw [hU], by rw [hU]; exact hPc, va_K.moved hW.alike hKc, hDc.weaken (fun _ _ _ _ => trivial), hB.later hU hW⟩⟩ rfl rfl hl.1 rfl (lv_room (Nat.le_of_ble_eq_true rfl)) dX3_at_2 ⟨Nat.le_of_ble_eq_true rfl, Nat.le_of_ble_eq_true rfl⟩) hemp hlocks (Nat.le_of_ble_eq_true rfl) (Nat.le_of_ble_eq_true rfl) (id) (fun hin => ?_)
  rw [← hQ]
  obtain ⟨ja, hja, eja⟩ := id hin
  subst eja
  refine lv_aload_n hx hb dX3_at_5 rfl (lv_at hl 0 rfl) ?_
  refine va_get (D := (dC, dI)) (ci := 4) (v := .ref b2) (C := RX3) (T := TX3) (N := 10) hx hb hts hinX3 hown hK hP 0 rfl rfl 2 (by decide) hf29 (fun _ h9 => h9) rfl dX3_at_6 ?_
  refine lv_iload_n hx hb dX3_at_9 rfl (lv_at hl 1 rfl) ?_
  refine ra_ld (g := nI) (F := st) hx hb hK hP 1 0 rfl rfl (by omega) (by omega) dX3_at_10 ?_
  rw [hQ]
  refine tt_ret (⟨ja, hja, rfl⟩) ?_
  exact W.iret (v := nI (st ja)) hx hb hr (fun t ht hW => ⟨⟨_, (), rfl, ⟨ja, hja, rfl, rfl⟩, by rw [ht]; exact hP, va_K.moved hW.alike hK, hD⟩, hS.F ht⟩) hS.2.2 dX3_at_11

set_option maxHeartbeats 4000000 in
set_option maxRecDepth 100000 in
theorem c_X3_set (l : Launch) (dC : Nat → ClassId) (dI : Nat → Nat → Nat) (hfl : l.flags = pinnedFlags ++ [noTraceFlag]) (s0 : State) (A0 : Array Value) (str : Nat) (sz : Nat) (o0 b2 n q : Nat) (x v : Int32) (st : Nat → Nat) (wk sd : Bool) (cI : ClassId) (v3 v4 v5 v6 v7 : Value) (hn : n < 1000) (hq : q < 100) : tt_Met l yX3_set wsX3_set ({ frames := 8, cells := 1, slots := 6, locals := 116 }) (va_Pc [.ref o0, .int (x), .int (v)] (fun U => U.heap.size = sz ∧ va_P (dC, dI) vwCl [(o0, .inr (4, [.int (nI (n)), .int (nI (q)), .ref b2, v3, v4, v5, v6, v7, .int (bI wk), .int (bI sd)])), (b2, .inl (cI, n, .inl (fun j => nI (st j))))] U.heap ∧ va_K (dC, dI) vwCl [(cI, .int)] U ∧ va_D (fun _ => True) [(o0, .inr (4, [.int (nI (n)), .int (nI (q)), .ref b2, v3, v4, v5, v6, v7, .int (bI wk), .int (bI sd)])), (b2, .inl (cI, n, .inl (fun j => nI (st j))))] ∧ tt_B s0 A0 str U)) (tt_Q (∃ j : Nat, j < n ∧ x = nI j) (va_Qi (fun (z : Int32) (u : (Nat → Nat) × Bool × Bool) => (z = nI 1 ∧ ∃ j k : Nat, j < n ∧ k < q ∧ x = nI j ∧ v = nI k ∧ u = (va_up st j k, false, false)) ∨ (z = nI 0 ∧ (∀ k : Nat, k < q → v ≠ nI k) ∧ u = (st, wk, sd))) (fun u t => va_P (dC, dI) vwCl [(o0, .inr (4, [.int (nI (n)), .int (nI (q)), .ref b2, v3, v4, v5, v6, v7, .int (bI u.2.1), .int (bI u.2.2)])), (b2, .inl (cI, n, .inl (fun j => nI (u.1 j))))] t.heap ∧ va_K (dC, dI) vwCl [(cI, .int)] t ∧ va_D (va_A [(o0, .inr (4, [.int (nI (n)), .int (nI (q)), .ref b2, v3, v4, v5, v6, v7, .int (bI wk), .int (bI sd)])), (b2, .inl (cI, n, .inl (fun j => nI (st j))))] sz) [(o0, .inr (4, [.int (nI (n)), .int (nI (q)), .ref b2, v3, v4, v5, v6, v7, .int (bI u.2.1), .int (bI u.2.2)])), (b2, .inl (cI, n, .inl (fun j => nI (u.1 j))))]) (va_A [(o0, .inr (4, [.int (nI (n)), .int (nI (q)), .ref b2, v3, v4, v5, v6, v7, .int (bI wk), .int (bI sd)])), (b2, .inl (cI, n, .inl (fun j => nI (st j))))] sz))) 1 6 (va_A [(o0, .inr (4, [.int (nI (n)), .int (nI (q)), .ref b2, v3, v4, v5, v6, v7, .int (bI wk), .int (bI sd)])), (b2, .inl (cI, n, .inl (fun j => nI (st j))))] sz) := by
  refine tt_ofW (cc := cX3_set) (maxL := 3) (ret := (some .boolean)) (by decide) rfl ?_
  intro zp ze s m args below meth zc s₁ B hml hv
  obtain ⟨hargs, hsz, hP, hK, hD0, hB⟩ := hv
  have hx := B.exec
  have hb := B.bytes
  have hr := B.returns
  have hts := atoms_spec (ws := wsX3_set) B.pre
  have hown : s.vm.findClass RX3 = some m.cls := findClass_of_methodNamed B.named
  have hlocks := B.notSynchronized
  have hemp := B.noHandlers (hts _ List.mem_cons_self)
  subst hsz
  obtain ⟨Q, hQ⟩ : ∃ Q, Q = tt_MQ below (tt_Q (∃ j : Nat, j < n ∧ x = nI j) (va_Qi (fun (z : Int32) (u : (Nat → Nat) × Bool × Bool) => (z = nI 1 ∧ ∃ j k : Nat, j < n ∧ k < q ∧ x = nI j ∧ v = nI k ∧ u = (va_up st j k, false, false)) ∨ (z = nI 0 ∧ (∀ k : Nat, k < q → v ≠ nI k) ∧ u = (st, wk, sd))) (fun u t => va_P (dC, dI) vwCl [(o0, .inr (4, [.int (nI (n)), .int (nI (q)), .ref b2, v3, v4, v5, v6, v7, .int (bI u.2.1), .int (bI u.2.2)])), (b2, .inl (cI, n, .inl (fun j => nI (u.1 j))))] t.heap ∧ va_K (dC, dI) vwCl [(cI, .int)] t ∧ va_D (va_A [(o0, .inr (4, [.int (nI (n)), .int (nI (q)), .ref b2, v3, v4, v5, v6, v7, .int (bI wk), .int (bI sd)])), (b2, .inl (cI, n, .inl (fun j => nI (st j))))] s.heap.size) [(o0, .inr (4, [.int (nI (n)), .int (nI (q)), .ref b2, v3, v4, v5, v6, v7, .int (bI u.2.1), .int (bI u.2.2)])), (b2, .inl (cI, n, .inl (fun j => nI (u.1 j))))]) (va_A [(o0, .inr (4, [.int (nI (n)), .int (nI (q)), .ref b2, v3, v4, v5, v6, v7, .int (bI wk), .int (bI sd)])), (b2, .inl (cI, n, .inl (fun j => nI (st j))))] s.heap.size))) args s 1 6 (va_A [(o0, .inr (4, [.int (nI (n)), .int (nI (q)), .ref b2, v3, v4, v5, v6, v7, .int (bI wk), .int (bI sd)])), (b2, .inl (cI, n, .inl (fun j => nI (st j))))] s.heap.size) := ⟨_, rfl⟩
  rw [← hQ]
  have hD := hD0.self (sz := s.heap.size)
  generalize hAe : (va_A [(o0, .inr (4, [.int (nI (n)), .int (nI (q)), .ref b2, v3, v4, v5, v6, v7, .int (bI wk), .int (bI sd)])), (b2, .inl (cI, n, .inl (fun j => nI (st j))))] s.heap.size) = A at hD hQ
  have hA : ∀ q : Nat, s.heap.size ≤ q → A q := fun q h => by rw [← hAe]; exact Or.inr h
  have hS : va_S A s.heap s.heap [] := va_S.rf
  have hl := lv_entry ([.ref o0, .int (x), .int (v)]) (n := 3) (Nat.le_of_ble_eq_true rfl)
  generalize hen : entryFrame m args 3 = fr
  rw [hargs, lg_entry_eq] at hen
  subst hen
  generalize (lg_sl ([.ref o0, .int (x), .int (v)]) ++ List.replicate (3 - (lg_sl ([.ref o0, .int (x), .int (v)])).length) Slot.unset).toArray = ls at hl ⊢
  have hl : lv_has ls 3 [(0, .ref o0), (1, .int (x)), (2, .int (v))] := hl
  have hinX3 : ∀ w ∈ wsX30, w ∈ wsX3_set := by decide +kernel
  have hf18 := hts (.fieldLink RX3 18 "LightRows" "lamps" "I") (by decide +kernel)
  have hf26 := hts (.fieldLink RX3 26 "LightRows" "states" "I") (by decide +kernel)
  have hf29 := hts (.fieldLink RX3 29 "LightRows" "now" "[I") (by decide +kernel)
  have hf62 := hts (.fieldLink RX3 62 "LightRows" "worked" "Z") (by decide +kernel)
  have hf66 := hts (.fieldLink RX3 66 "LightRows" "searched" "Z") (by decide +kernel)
  refine lv_aload_n hx hb dX3_set_0 rfl (lv_at hl 0 rfl) ?_
  refine lv_iload_n hx hb dX3_set_1 rfl (lv_at hl 1 rfl) ?_
  have hPc := hP.sub (ws' := [(o0, .inr (4, [.int (nI (n)), .int (nI (q)), .ref b2, v3, v4, v5, v6, v7, .int (bI wk), .int (bI sd)]))]) [0] rfl
  have hDc := hD.sub (ws' := [(o0, .inr (4, [.int (nI (n)), .int (nI (q)), .ref b2, v3, v4, v5, v6, v7, .int (bI wk), .int (bI sd)]))]) [0] (by decide) rfl
  have hKc := hK.sub (tys' := []) [] rfl
  rw [hQ]
  refine tt_must (mc := 1) (ms := 6) (tt_runV (As := [.int (x)]) (rest := []) ⟨hx, hb, hml, hown, hts⟩ (c_X3_mustExist l dC dI hfl s0 A0 str s.heap.size o0 n (.int (nI (q))) (.ref b2) (v3) (v4) (v5) (v6) (v7) (.int (bI wk)) (.int (bI sd)) (x) hn) (cwV 1 hts gX3_set_X3_mustExist rfl rfl rfl (by decide +kernel) ⟨Nat.le_of_ble_eq_true rfl, Nat.le_of_ble_eq_true rfl⟩) ⟨fun a U g mk q => by obtain ⟨q0, q1, qP, qK, qD, qB⟩ := q; exact ⟨q0, q1, qP, va_K.moved (u := U) (U := U.calling g mk a) (Vm.Alike.refl U.vm) qK, qD, qB.blind rfl rfl⟩, va_recv hKc hPc (ci := 4) (q0 := 0) rfl rfl, fun U hU hW => ⟨rfl, by rw [hU], by rw [hU]; exact hPc, va_K.moved hW.alike hKc, hDc.weaken (fun _ _ _ _ => trivial), hB.later hU hW⟩⟩ rfl rfl hl.1 rfl (lv_room (Nat.le_of_ble_eq_true rfl)) dX3_set_2 ⟨Nat.le_of_ble_eq_true rfl, Nat.le_of_ble_eq_true rfl⟩) hemp hlocks (Nat.le_of_ble_eq_true rfl) (Nat.le_of_ble_eq_true rfl) (id) (fun hin => ?_)
  rw [← hQ]
  obtain ⟨ja, hja, eja⟩ := id hin
  subst eja
  refine lv_aload_n hx hb dX3_set_5 rfl (lv_at hl 0 rfl) ?_
  refine lv_iload_n hx hb dX3_set_6 rfl (lv_at hl 2 rfl) ?_
  have hPc := hP.sub (ws' := [(o0, .inr (4, [.int (nI (n)), .int (nI (q)), .ref b2, v3, v4, v5, v6, v7, .int (bI wk), .int (bI sd)]))]) [0] rfl
  have hDc := hD.sub (ws' := [(o0, .inr (4, [.int (nI (n)), .int (nI (q)), .ref b2, v3, v4, v5, v6, v7, .int (bI wk), .int (bI sd)]))]) [0] (by decide) rfl
  have hFc := va_free (wc := [(o0, .inr (4, [.int (nI (n)), .int (nI (q)), .ref b2, v3, v4, v5, v6, v7, .int (bI wk), .int (bI sd)]))]) hD hS hA [0] rfl
  have hKc := hK.sub (tys' := []) [] rfl
  refine va_calli (va_runV (As := [.int (v)]) (rest := []) ⟨hx, hb, hml, hown, hts⟩ (c_X3_isState l dC dI s.heap.size o0 n q v wk sd (.ref b2) v3 v4 v5 v6 v7 hq) (cwV 1 hts gX3_set_X3_isState rfl rfl rfl (by decide +kernel) ⟨Nat.le_of_ble_eq_true rfl, Nat.le_of_ble_eq_true rfl⟩) ⟨fun a U g mk q => by obtain ⟨q0, q1, qP, qK, qD⟩ := q; exact ⟨q0, q1, qP, va_K.moved (u := U) (U := U.calling g mk a) (Vm.Alike.refl U.vm) qK, qD⟩, va_recv hKc hPc (ci := 4) (q0 := 0) rfl rfl, fun U hU hW => ⟨rfl, by rw [hU], by rw [hU]; exact hPc, va_K.moved hW.alike hKc, hDc.weaken (fun _ _ _ _ => trivial)⟩⟩ rfl rfl hl.1 rfl (lv_room (Nat.le_of_ble_eq_true rfl)) dX3_set_7 ⟨Nat.le_of_ble_eq_true rfl, Nat.le_of_ble_eq_true rfl⟩) hS (fun q _ h => hFc q h) hFc (fun r1 u t H1 locs ht hvm hw hB hz1 hk1 hS => ?_)
  obtain ⟨hP1, hK1, hD1⟩ := hB
  rw [ht] at hP1
  try dsimp only at hw
  obtain ⟨hP, hD⟩ := va_join (wr := [(b2, .inl (cI, n, .inl (fun j => nI (st j))))]) (w1 := [(o0, .inr (4, [.int (nI (n)), .int (nI (q)), .ref b2, v3, v4, v5, v6, v7, .int (bI wk), .int (bI sd)]))]) hP hD [0] [1] rfl rfl (by decide) (by decide) hk1 hFc hP1 hD1
  generalize H1 = H at hP hS ⊢
  have hP := hP.sub (ws' := [(o0, .inr (4, [.int (nI (n)), .int (nI (q)), .ref b2, v3, v4, v5, v6, v7, .int (bI wk), .int (bI sd)])), (b2, .inl (cI, n, .inl (fun j => nI (st j))))]) [1, 0] rfl
  have hD := hD.sub (ws' := [(o0, .inr (4, [.int (nI (n)), .int (nI (q)), .ref b2, v3, v4, v5, v6, v7, .int (bI wk), .int (bI sd)])), (b2, .inl (cI, n, .inl (fun j => nI (st j))))]) [1, 0] (by decide) rfl
  have hP : va_P (dC, dI) vwCl [(o0, .inr (4, [.int (nI (n)), .int (nI (q)), .ref b2, v3, v4, v5, v6, v7, .int (bI wk), .int (bI sd)])), (b2, .inl (cI, n, .inl (fun j => nI (st j))))] H := hP
  have hD : va_D A [(o0, .inr (4, [.int (nI (n)), .int (nI (q)), .ref b2, v3, v4, v5, v6, v7, .int (bI wk), .int (bI sd)])), (b2, .inl (cI, n, .inl (fun j => nI (st j))))] := hD
  rcases hw with ⟨rfl, k, hk, rfl⟩ | ⟨rfl, hno⟩
  · skip
    refine lv_if_ne (tgt := 15) hx hb dX3_set_10 (by decide) (fun c => ?_) (fun c => ?_)
    · skip
      have c : 1 ≠ 0 := fun h => c ((nI_eq (a := 1) (b := 0) (by omega) (by omega)).mpr h)
      refine lv_aload_n hx hb dX3_set_15 rfl (lv_at hl 0 rfl) ?_
      refine va_get (D := (dC, dI)) (ci := 4) (v := .ref b2) (C := RX3) (T := TX3) (N := 10) hx hb hts hinX3 hown hK hP 0 rfl rfl 2 (by decide) hf29 (fun _ h9 => h9) rfl dX3_set_16 ?_
      refine lv_iload_n hx hb dX3_set_19 rfl (lv_at hl 1 rfl) ?_
      refine lv_iload_n hx hb dX3_set_20 rfl (lv_at hl 2 rfl) ?_
      refine ra_st (g := nI) (F := st) (v := k) hx hb hK hP hD hS 1 0 rfl rfl (by omega) (by omega) dX3_set_21 (fun H locs hP hD hS => ?_)
      have hP : va_P (dC, dI) vwCl [(o0, .inr (4, [.int (nI (n)), .int (nI (q)), .ref b2, v3, v4, v5, v6, v7, .int (bI wk), .int (bI sd)])), (b2, .inl (cI, n, .inl (fun j => nI ((va_up st ja (k)) j))))] H := hP
      have hD : va_D A [(o0, .inr (4, [.int (nI (n)), .int (nI (q)), .ref b2, v3, v4, v5, v6, v7, .int (bI wk), .int (bI sd)])), (b2, .inl (cI, n, .inl (fun j => nI ((va_up st ja (k)) j))))] := hD
      refine lv_aload_n hx hb dX3_set_22 rfl (lv_at hl 0 rfl) ?_
      have hPc := hP.sub (ws' := [(o0, .inr (4, [.int (nI (n)), .int (nI (q)), .ref b2, v3, v4, v5, v6, v7, .int (bI wk), .int (bI sd)]))]) [0] rfl
      have hDc := hD.sub (ws' := [(o0, .inr (4, [.int (nI (n)), .int (nI (q)), .ref b2, v3, v4, v5, v6, v7, .int (bI wk), .int (bI sd)]))]) [0] (by decide) rfl
      have hFc := va_free (wc := [(o0, .inr (4, [.int (nI (n)), .int (nI (q)), .ref b2, v3, v4, v5, v6, v7, .int (bI wk), .int (bI sd)]))]) hD hS hA [0] rfl
      have hKc := hK.sub (tys' := []) [] rfl
      refine va_callv (va_runV (As := []) (rest := []) ⟨hx, hb, hml, hown, hts⟩ (c_X3_forget l dC dI H.size o0 n q (bI wk) (bI sd) (.ref b2) v3 v4 v5 v6 v7) (cwV 0 hts gX3_set_X3_forget rfl rfl rfl (by decide +kernel) ⟨Nat.le_of_ble_eq_true rfl, Nat.le_of_ble_eq_true rfl⟩) ⟨fun a U g mk q => by obtain ⟨q0, q1, qP, qK, qD⟩ := q; exact ⟨q0, q1, qP, va_K.moved (u := U) (U := U.calling g mk a) (Vm.Alike.refl U.vm) qK, qD⟩, va_recv hKc hPc (ci := 4) (q0 := 0) rfl rfl, fun U hU hW => ⟨rfl, by rw [hU], by rw [hU]; exact hPc, va_K.moved hW.alike hKc, hDc.weaken (fun _ _ _ _ => trivial)⟩⟩ rfl rfl hl.1 rfl (lv_room (Nat.le_of_ble_eq_true rfl)) dX3_set_23 ⟨Nat.le_of_ble_eq_true rfl, Nat.le_of_ble_eq_true rfl⟩) hS (fun q _ h => hFc q h) hFc (fun u t H1 locs ht hvm hw hB hz1 hk1 hS => ?_)
      obtain ⟨hP1, hK1, hD1⟩ := hB
      rw [ht] at hP1
      try dsimp only at hw
      obtain ⟨hP, hD⟩ := va_join (wr := [(b2, .inl (cI, n, .inl (fun j => nI ((va_up st ja (k)) j))))]) (w1 := [(o0, .inr (4, [.int (nI (n)), .int (nI (q)), .ref b2, v3, v4, v5, v6, v7, .int (bI false), .int (bI false)]))]) hP hD [0] [1] rfl rfl (by decide) (by decide) hk1 hFc hP1 hD1
      generalize H1 = H at hP hS ⊢
      have hP := hP.sub (ws' := [(o0, .inr (4, [.int (nI (n)), .int (nI (q)), .ref b2, v3, v4, v5, v6, v7, .int (bI false), .int (bI false)])), (b2, .inl (cI, n, .inl (fun j => nI ((va_up st ja (k)) j))))]) [1, 0] rfl
      have hD := hD.sub (ws' := [(o0, .inr (4, [.int (nI (n)), .int (nI (q)), .ref b2, v3, v4, v5, v6, v7, .int (bI false), .int (bI false)])), (b2, .inl (cI, n, .inl (fun j => nI ((va_up st ja (k)) j))))]) [1, 0] (by decide) rfl
      have hP : va_P (dC, dI) vwCl [(o0, .inr (4, [.int (nI (n)), .int (nI (q)), .ref b2, v3, v4, v5, v6, v7, .int (bI false), .int (bI false)])), (b2, .inl (cI, n, .inl (fun j => nI ((va_up st ja (k)) j))))] H := hP
      have hD : va_D A [(o0, .inr (4, [.int (nI (n)), .int (nI (q)), .ref b2, v3, v4, v5, v6, v7, .int (bI false), .int (bI false)])), (b2, .inl (cI, n, .inl (fun j => nI ((va_up st ja (k)) j))))] := hD
      refine lv_iconst (v := nI 1) hx hb dX3_set_26 (by decide) ?_
      rw [hQ]
      refine tt_ret (⟨ja, hja, rfl⟩) ?_
      exact W.zret (v := nI (1)) (ty := .boolean) hx hb hr rfl (fun t ht hW => ⟨⟨_, (va_up st ja k, false, false), rfl, Or.inl ⟨rfl, ja, k, hja, hk, rfl, rfl, rfl⟩, by rw [ht]; exact hP, va_K.moved hW.alike hK, hD⟩, hS.F ht⟩) hS.2.2 dX3_set_27
    · skip
      have c : 1 = 0 := (nI_eq (a := 1) (b := 0) (by omega) (by omega)).mp c
      exact absurd c (by decide)
  · skip
    refine lv_if_ne (tgt := 15) hx hb dX3_set_10 (by decide) (fun c => ?_) (fun c => ?_)
    · skip
      have c : 0 ≠ 0 := fun h => c ((nI_eq (a := 0) (b := 0) (by omega) (by omega)).mpr h)
      exact absurd rfl c
    · skip
      have c : 0 = 0 := (nI_eq (a := 0) (b := 0) (by omega) (by omega)).mp c
      refine lv_iconst (v := nI 0) hx hb dX3_set_13 (by decide) ?_
      rw [hQ]
      refine tt_ret (⟨ja, hja, rfl⟩) ?_
      exact W.zret (v := nI (0)) (ty := .boolean) hx hb hr rfl (fun t ht hW => ⟨⟨_, (st, wk, sd), rfl, Or.inr ⟨rfl, hno, rfl⟩, by rw [ht]; exact hP, va_K.moved hW.alike hK, hD⟩, hS.F ht⟩) hS.2.2 dX3_set_14

set_option maxHeartbeats 4000000 in
set_option maxRecDepth 100000 in
theorem c_X3_want (l : Launch) (dC : Nat → ClassId) (dI : Nat → Nat → Nat) (hfl : l.flags = pinnedFlags ++ [noTraceFlag]) (s0 : State) (A0 : Array Value) (str : Nat) (sz : Nat) (o0 b2 n q : Nat) (x v : Int32) (st : Nat → Nat) (wk sd : Bool) (cI : ClassId) (v2 v4 v5 v6 v7 : Value) (hn : n < 1000) (hq : q < 100) : tt_Met l yX3_want wsX3_want ({ frames := 8, cells := 1, slots := 6, locals := 116 }) (va_Pc [.ref o0, .int (x), .int (v)] (fun U => U.heap.size = sz ∧ va_P (dC, dI) vwCl [(o0, .inr (4, [.int (nI (n)), .int (nI (q)), v2, .ref b2, v4, v5, v6, v7, .int (bI wk), .int (bI sd)])), (b2, .inl (cI, n, .inl (fun j => nI (st j))))] U.heap ∧ va_K (dC, dI) vwCl [(cI, .int)] U ∧ va_D (fun _ => True) [(o0, .inr (4, [.int (nI (n)), .int (nI (q)), v2, .ref b2, v4, v5, v6, v7, .int (bI wk), .int (bI sd)])), (b2, .inl (cI, n, .inl (fun j => nI (st j))))] ∧ tt_B s0 A0 str U)) (tt_Q (∃ j : Nat, j < n ∧ x = nI j) (va_Qi (fun (z : Int32) (u : (Nat → Nat) × Bool × Bool) => (z = nI 1 ∧ ∃ j k : Nat, j < n ∧ k < q ∧ x = nI j ∧ v = nI k ∧ u = (va_up st j k, false, false)) ∨ (z = nI 0 ∧ (∀ k : Nat, k < q → v ≠ nI k) ∧ u = (st, wk, sd))) (fun u t => va_P (dC, dI) vwCl [(o0, .inr (4, [.int (nI (n)), .int (nI (q)), v2, .ref b2, v4, v5, v6, v7, .int (bI u.2.1), .int (bI u.2.2)])), (b2, .inl (cI, n, .inl (fun j => nI (u.1 j))))] t.heap ∧ va_K (dC, dI) vwCl [(cI, .int)] t ∧ va_D (va_A [(o0, .inr (4, [.int (nI (n)), .int (nI (q)), v2, .ref b2, v4, v5, v6, v7, .int (bI wk), .int (bI sd)])), (b2, .inl (cI, n, .inl (fun j => nI (st j))))] sz) [(o0, .inr (4, [.int (nI (n)), .int (nI (q)), v2, .ref b2, v4, v5, v6, v7, .int (bI u.2.1), .int (bI u.2.2)])), (b2, .inl (cI, n, .inl (fun j => nI (u.1 j))))]) (va_A [(o0, .inr (4, [.int (nI (n)), .int (nI (q)), v2, .ref b2, v4, v5, v6, v7, .int (bI wk), .int (bI sd)])), (b2, .inl (cI, n, .inl (fun j => nI (st j))))] sz))) 1 6 (va_A [(o0, .inr (4, [.int (nI (n)), .int (nI (q)), v2, .ref b2, v4, v5, v6, v7, .int (bI wk), .int (bI sd)])), (b2, .inl (cI, n, .inl (fun j => nI (st j))))] sz) := by
  refine tt_ofW (cc := cX3_want) (maxL := 3) (ret := (some .boolean)) (by decide) rfl ?_
  intro zp ze s m args below meth zc s₁ B hml hv
  obtain ⟨hargs, hsz, hP, hK, hD0, hB⟩ := hv
  have hx := B.exec
  have hb := B.bytes
  have hr := B.returns
  have hts := atoms_spec (ws := wsX3_want) B.pre
  have hown : s.vm.findClass RX3 = some m.cls := findClass_of_methodNamed B.named
  have hlocks := B.notSynchronized
  have hemp := B.noHandlers (hts _ List.mem_cons_self)
  subst hsz
  obtain ⟨Q, hQ⟩ : ∃ Q, Q = tt_MQ below (tt_Q (∃ j : Nat, j < n ∧ x = nI j) (va_Qi (fun (z : Int32) (u : (Nat → Nat) × Bool × Bool) => (z = nI 1 ∧ ∃ j k : Nat, j < n ∧ k < q ∧ x = nI j ∧ v = nI k ∧ u = (va_up st j k, false, false)) ∨ (z = nI 0 ∧ (∀ k : Nat, k < q → v ≠ nI k) ∧ u = (st, wk, sd))) (fun u t => va_P (dC, dI) vwCl [(o0, .inr (4, [.int (nI (n)), .int (nI (q)), v2, .ref b2, v4, v5, v6, v7, .int (bI u.2.1), .int (bI u.2.2)])), (b2, .inl (cI, n, .inl (fun j => nI (u.1 j))))] t.heap ∧ va_K (dC, dI) vwCl [(cI, .int)] t ∧ va_D (va_A [(o0, .inr (4, [.int (nI (n)), .int (nI (q)), v2, .ref b2, v4, v5, v6, v7, .int (bI wk), .int (bI sd)])), (b2, .inl (cI, n, .inl (fun j => nI (st j))))] s.heap.size) [(o0, .inr (4, [.int (nI (n)), .int (nI (q)), v2, .ref b2, v4, v5, v6, v7, .int (bI u.2.1), .int (bI u.2.2)])), (b2, .inl (cI, n, .inl (fun j => nI (u.1 j))))]) (va_A [(o0, .inr (4, [.int (nI (n)), .int (nI (q)), v2, .ref b2, v4, v5, v6, v7, .int (bI wk), .int (bI sd)])), (b2, .inl (cI, n, .inl (fun j => nI (st j))))] s.heap.size))) args s 1 6 (va_A [(o0, .inr (4, [.int (nI (n)), .int (nI (q)), v2, .ref b2, v4, v5, v6, v7, .int (bI wk), .int (bI sd)])), (b2, .inl (cI, n, .inl (fun j => nI (st j))))] s.heap.size) := ⟨_, rfl⟩
  rw [← hQ]
  have hD := hD0.self (sz := s.heap.size)
  generalize hAe : (va_A [(o0, .inr (4, [.int (nI (n)), .int (nI (q)), v2, .ref b2, v4, v5, v6, v7, .int (bI wk), .int (bI sd)])), (b2, .inl (cI, n, .inl (fun j => nI (st j))))] s.heap.size) = A at hD hQ
  have hA : ∀ q : Nat, s.heap.size ≤ q → A q := fun q h => by rw [← hAe]; exact Or.inr h
  have hS : va_S A s.heap s.heap [] := va_S.rf
  have hl := lv_entry ([.ref o0, .int (x), .int (v)]) (n := 3) (Nat.le_of_ble_eq_true rfl)
  generalize hen : entryFrame m args 3 = fr
  rw [hargs, lg_entry_eq] at hen
  subst hen
  generalize (lg_sl ([.ref o0, .int (x), .int (v)]) ++ List.replicate (3 - (lg_sl ([.ref o0, .int (x), .int (v)])).length) Slot.unset).toArray = ls at hl ⊢
  have hl : lv_has ls 3 [(0, .ref o0), (1, .int (x)), (2, .int (v))] := hl
  have hinX3 : ∀ w ∈ wsX30, w ∈ wsX3_want := by decide +kernel
  have hf18 := hts (.fieldLink RX3 18 "LightRows" "lamps" "I") (by decide +kernel)
  have hf26 := hts (.fieldLink RX3 26 "LightRows" "states" "I") (by decide +kernel)
  have hf33 := hts (.fieldLink RX3 33 "LightRows" "wanted" "[I") (by decide +kernel)
  have hf62 := hts (.fieldLink RX3 62 "LightRows" "worked" "Z") (by decide +kernel)
  have hf66 := hts (.fieldLink RX3 66 "LightRows" "searched" "Z") (by decide +kernel)
  refine lv_aload_n hx hb dX3_want_0 rfl (lv_at hl 0 rfl) ?_
  refine lv_iload_n hx hb dX3_want_1 rfl (lv_at hl 1 rfl) ?_
  have hPc := hP.sub (ws' := [(o0, .inr (4, [.int (nI (n)), .int (nI (q)), v2, .ref b2, v4, v5, v6, v7, .int (bI wk), .int (bI sd)]))]) [0] rfl
  have hDc := hD.sub (ws' := [(o0, .inr (4, [.int (nI (n)), .int (nI (q)), v2, .ref b2, v4, v5, v6, v7, .int (bI wk), .int (bI sd)]))]) [0] (by decide) rfl
  have hKc := hK.sub (tys' := []) [] rfl
  rw [hQ]
  refine tt_must (mc := 1) (ms := 6) (tt_runV (As := [.int (x)]) (rest := []) ⟨hx, hb, hml, hown, hts⟩ (c_X3_mustExist l dC dI hfl s0 A0 str s.heap.size o0 n (.int (nI (q))) (v2) (.ref b2) (v4) (v5) (v6) (v7) (.int (bI wk)) (.int (bI sd)) (x) hn) (cwV 1 hts gX3_want_X3_mustExist rfl rfl rfl (by decide +kernel) ⟨Nat.le_of_ble_eq_true rfl, Nat.le_of_ble_eq_true rfl⟩) ⟨fun a U g mk q => by obtain ⟨q0, q1, qP, qK, qD, qB⟩ := q; exact ⟨q0, q1, qP, va_K.moved (u := U) (U := U.calling g mk a) (Vm.Alike.refl U.vm) qK, qD, qB.blind rfl rfl⟩, va_recv hKc hPc (ci := 4) (q0 := 0) rfl rfl, fun U hU hW => ⟨rfl, by rw [hU], by rw [hU]; exact hPc, va_K.moved hW.alike hKc, hDc.weaken (fun _ _ _ _ => trivial), hB.later hU hW⟩⟩ rfl rfl hl.1 rfl (lv_room (Nat.le_of_ble_eq_true rfl)) dX3_want_2 ⟨Nat.le_of_ble_eq_true rfl, Nat.le_of_ble_eq_true rfl⟩) hemp hlocks (Nat.le_of_ble_eq_true rfl) (Nat.le_of_ble_eq_true rfl) (id) (fun hin => ?_)
  rw [← hQ]
  obtain ⟨ja, hja, eja⟩ := id hin
  subst eja
  refine lv_aload_n hx hb dX3_want_5 rfl (lv_at hl 0 rfl) ?_
  refine lv_iload_n hx hb dX3_want_6 rfl (lv_at hl 2 rfl) ?_
  have hPc := hP.sub (ws' := [(o0, .inr (4, [.int (nI (n)), .int (nI (q)), v2, .ref b2, v4, v5, v6, v7, .int (bI wk), .int (bI sd)]))]) [0] rfl
  have hDc := hD.sub (ws' := [(o0, .inr (4, [.int (nI (n)), .int (nI (q)), v2, .ref b2, v4, v5, v6, v7, .int (bI wk), .int (bI sd)]))]) [0] (by decide) rfl
  have hFc := va_free (wc := [(o0, .inr (4, [.int (nI (n)), .int (nI (q)), v2, .ref b2, v4, v5, v6, v7, .int (bI wk), .int (bI sd)]))]) hD hS hA [0] rfl
  have hKc := hK.sub (tys' := []) [] rfl
  refine va_calli (va_runV (As := [.int (v)]) (rest := []) ⟨hx, hb, hml, hown, hts⟩ (c_X3_isState l dC dI s.heap.size o0 n q v wk sd v2 (.ref b2) v4 v5 v6 v7 hq) (cwV 1 hts gX3_want_X3_isState rfl rfl rfl (by decide +kernel) ⟨Nat.le_of_ble_eq_true rfl, Nat.le_of_ble_eq_true rfl⟩) ⟨fun a U g mk q => by obtain ⟨q0, q1, qP, qK, qD⟩ := q; exact ⟨q0, q1, qP, va_K.moved (u := U) (U := U.calling g mk a) (Vm.Alike.refl U.vm) qK, qD⟩, va_recv hKc hPc (ci := 4) (q0 := 0) rfl rfl, fun U hU hW => ⟨rfl, by rw [hU], by rw [hU]; exact hPc, va_K.moved hW.alike hKc, hDc.weaken (fun _ _ _ _ => trivial)⟩⟩ rfl rfl hl.1 rfl (lv_room (Nat.le_of_ble_eq_true rfl)) dX3_want_7 ⟨Nat.le_of_ble_eq_true rfl, Nat.le_of_ble_eq_true rfl⟩) hS (fun q _ h => hFc q h) hFc (fun r1 u t H1 locs ht hvm hw hB hz1 hk1 hS => ?_)
  obtain ⟨hP1, hK1, hD1⟩ := hB
  rw [ht] at hP1
  try dsimp only at hw
  obtain ⟨hP, hD⟩ := va_join (wr := [(b2, .inl (cI, n, .inl (fun j => nI (st j))))]) (w1 := [(o0, .inr (4, [.int (nI (n)), .int (nI (q)), v2, .ref b2, v4, v5, v6, v7, .int (bI wk), .int (bI sd)]))]) hP hD [0] [1] rfl rfl (by decide) (by decide) hk1 hFc hP1 hD1
  generalize H1 = H at hP hS ⊢
  have hP := hP.sub (ws' := [(o0, .inr (4, [.int (nI (n)), .int (nI (q)), v2, .ref b2, v4, v5, v6, v7, .int (bI wk), .int (bI sd)])), (b2, .inl (cI, n, .inl (fun j => nI (st j))))]) [1, 0] rfl
  have hD := hD.sub (ws' := [(o0, .inr (4, [.int (nI (n)), .int (nI (q)), v2, .ref b2, v4, v5, v6, v7, .int (bI wk), .int (bI sd)])), (b2, .inl (cI, n, .inl (fun j => nI (st j))))]) [1, 0] (by decide) rfl
  have hP : va_P (dC, dI) vwCl [(o0, .inr (4, [.int (nI (n)), .int (nI (q)), v2, .ref b2, v4, v5, v6, v7, .int (bI wk), .int (bI sd)])), (b2, .inl (cI, n, .inl (fun j => nI (st j))))] H := hP
  have hD : va_D A [(o0, .inr (4, [.int (nI (n)), .int (nI (q)), v2, .ref b2, v4, v5, v6, v7, .int (bI wk), .int (bI sd)])), (b2, .inl (cI, n, .inl (fun j => nI (st j))))] := hD
  rcases hw with ⟨rfl, k, hk, rfl⟩ | ⟨rfl, hno⟩
  · skip
    refine lv_if_ne (tgt := 15) hx hb dX3_want_10 (by decide) (fun c => ?_) (fun c => ?_)
    · skip
      have c : 1 ≠ 0 := fun h => c ((nI_eq (a := 1) (b := 0) (by omega) (by omega)).mpr h)
      refine lv_aload_n hx hb dX3_want_15 rfl (lv_at hl 0 rfl) ?_
      refine va_get (D := (dC, dI)) (ci := 4) (v := .ref b2) (C := RX3) (T := TX3) (N := 10) hx hb hts hinX3 hown hK hP 0 rfl rfl 3 (by decide) hf33 (fun _ h9 => h9) rfl dX3_want_16 ?_
      refine lv_iload_n hx hb dX3_want_19 rfl (lv_at hl 1 rfl) ?_
      refine lv_iload_n hx hb dX3_want_20 rfl (lv_at hl 2 rfl) ?_
      refine ra_st (g := nI) (F := st) (v := k) hx hb hK hP hD hS 1 0 rfl rfl (by omega) (by omega) dX3_want_21 (fun H locs hP hD hS => ?_)
      have hP : va_P (dC, dI) vwCl [(o0, .inr (4, [.int (nI (n)), .int (nI (q)), v2, .ref b2, v4, v5, v6, v7, .int (bI wk), .int (bI sd)])), (b2, .inl (cI, n, .inl (fun j => nI ((va_up st ja (k)) j))))] H := hP
      have hD : va_D A [(o0, .inr (4, [.int (nI (n)), .int (nI (q)), v2, .ref b2, v4, v5, v6, v7, .int (bI wk), .int (bI sd)])), (b2, .inl (cI, n, .inl (fun j => nI ((va_up st ja (k)) j))))] := hD
      refine lv_aload_n hx hb dX3_want_22 rfl (lv_at hl 0 rfl) ?_
      have hPc := hP.sub (ws' := [(o0, .inr (4, [.int (nI (n)), .int (nI (q)), v2, .ref b2, v4, v5, v6, v7, .int (bI wk), .int (bI sd)]))]) [0] rfl
      have hDc := hD.sub (ws' := [(o0, .inr (4, [.int (nI (n)), .int (nI (q)), v2, .ref b2, v4, v5, v6, v7, .int (bI wk), .int (bI sd)]))]) [0] (by decide) rfl
      have hFc := va_free (wc := [(o0, .inr (4, [.int (nI (n)), .int (nI (q)), v2, .ref b2, v4, v5, v6, v7, .int (bI wk), .int (bI sd)]))]) hD hS hA [0] rfl
      have hKc := hK.sub (tys' := []) [] rfl
      refine va_callv (va_runV (As := []) (rest := []) ⟨hx, hb, hml, hown, hts⟩ (c_X3_forget l dC dI H.size o0 n q (bI wk) (bI sd) v2 (.ref b2) v4 v5 v6 v7) (cwV 0 hts gX3_want_X3_forget rfl rfl rfl (by decide +kernel) ⟨Nat.le_of_ble_eq_true rfl, Nat.le_of_ble_eq_true rfl⟩) ⟨fun a U g mk q => by obtain ⟨q0, q1, qP, qK, qD⟩ := q; exact ⟨q0, q1, qP, va_K.moved (u := U) (U := U.calling g mk a) (Vm.Alike.refl U.vm) qK, qD⟩, va_recv hKc hPc (ci := 4) (q0 := 0) rfl rfl, fun U hU hW => ⟨rfl, by rw [hU], by rw [hU]; exact hPc, va_K.moved hW.alike hKc, hDc.weaken (fun _ _ _ _ => trivial)⟩⟩ rfl rfl hl.1 rfl (lv_room (Nat.le_of_ble_eq_true rfl)) dX3_want_23 ⟨Nat.le_of_ble_eq_true rfl, Nat.le_of_ble_eq_true rfl⟩) hS (fun q _ h => hFc q h) hFc (fun u t H1 locs ht hvm hw hB hz1 hk1 hS => ?_)
      obtain ⟨hP1, hK1, hD1⟩ := hB
      rw [ht] at hP1
      try dsimp only at hw
      obtain ⟨hP, hD⟩ := va_join (wr := [(b2, .inl (cI, n, .inl (fun j => nI ((va_up st ja (k)) j))))]) (w1 := [(o0, .inr (4, [.int (nI (n)), .int (nI (q)), v2, .ref b2, v4, v5, v6, v7, .int (bI false), .int (bI false)]))]) hP hD [0] [1] rfl rfl (by decide) (by decide) hk1 hFc hP1 hD1
      generalize H1 = H at hP hS ⊢
      have hP := hP.sub (ws' := [(o0, .inr (4, [.int (nI (n)), .int (nI (q)), v2, .ref b2, v4, v5, v6, v7, .int (bI false), .int (bI false)])), (b2, .inl (cI, n, .inl (fun j => nI ((va_up st ja (k)) j))))]) [1, 0] rfl
      have hD := hD.sub (ws' := [(o0, .inr (4, [.int (nI (n)), .int (nI (q)), v2, .ref b2, v4, v5, v6, v7, .int (bI false), .int (bI false)])), (b2, .inl (cI, n, .inl (fun j => nI ((va_up st ja (k)) j))))]) [1, 0] (by decide) rfl
      have hP : va_P (dC, dI) vwCl [(o0, .inr (4, [.int (nI (n)), .int (nI (q)), v2, .ref b2, v4, v5, v6, v7, .int (bI false), .int (bI false)])), (b2, .inl (cI, n, .inl (fun j => nI ((va_up st ja (k)) j))))] H := hP
      have hD : va_D A [(o0, .inr (4, [.int (nI (n)), .int (nI (q)), v2, .ref b2, v4, v5, v6, v7, .int (bI false), .int (bI false)])), (b2, .inl (cI, n, .inl (fun j => nI ((va_up st ja (k)) j))))] := hD
      refine lv_iconst (v := nI 1) hx hb dX3_want_26 (by decide) ?_
      rw [hQ]
      refine tt_ret (⟨ja, hja, rfl⟩) ?_
      exact W.zret (v := nI (1)) (ty := .boolean) hx hb hr rfl (fun t ht hW => ⟨⟨_, (va_up st ja k, false, false), rfl, Or.inl ⟨rfl, ja, k, hja, hk, rfl, rfl, rfl⟩, by rw [ht]; exact hP, va_K.moved hW.alike hK, hD⟩, hS.F ht⟩) hS.2.2 dX3_want_27
    · skip
      have c : 1 = 0 := (nI_eq (a := 1) (b := 0) (by omega) (by omega)).mp c
      exact absurd c (by decide)
  · skip
    refine lv_if_ne (tgt := 15) hx hb dX3_want_10 (by decide) (fun c => ?_) (fun c => ?_)
    · skip
      have c : 0 ≠ 0 := fun h => c ((nI_eq (a := 0) (b := 0) (by omega) (by omega)).mpr h)
      exact absurd rfl c
    · skip
      have c : 0 = 0 := (nI_eq (a := 0) (b := 0) (by omega) (by omega)).mp c
      refine lv_iconst (v := nI 0) hx hb dX3_want_13 (by decide) ?_
      rw [hQ]
      refine tt_ret (⟨ja, hja, rfl⟩) ?_
      exact W.zret (v := nI (0)) (ty := .boolean) hx hb hr rfl (fun t ht hW => ⟨⟨_, (st, wk, sd), rfl, Or.inr ⟨rfl, hno, rfl⟩, by rw [ht]; exact hP, va_K.moved hW.alike hK, hD⟩, hS.F ht⟩) hS.2.2 dX3_want_14

set_option maxHeartbeats 4000000 in
set_option maxRecDepth 100000 in
theorem c_X3_apart (l : Launch) (dC : Nat → ClassId) (dI : Nat → Nat → Nat) (sz : Nat) (o0 b2 b3 n q : Nat) (st wt : Nat → Nat) (wk sd : Bool) (cI : ClassId) (v4 v5 v6 v7 : Value) (hn : n < 1000) (hs0 : ∀ j, j < n → st j < 100) (hw0 : ∀ j, j < n → wt j < 100) : Met l yX3_apart wsX3_apart ({ frames := 0, cells := 0, slots := 0, locals := 0 }) (va_Pc [.ref o0] (fun U => U.heap.size = sz ∧ va_P (dC, dI) vwCl [(o0, .inr (4, [.int (nI (n)), .int (nI (q)), .ref b2, .ref b3, v4, v5, v6, v7, .int (bI wk), .int (bI sd)])), (b2, .inl (cI, n, .inl (fun j => nI (st j)))), (b3, .inl (cI, n, .inl (fun j => nI (wt j))))] U.heap ∧ va_K (dC, dI) vwCl [(cI, .int)] U ∧ va_D (fun _ => True) [(o0, .inr (4, [.int (nI (n)), .int (nI (q)), .ref b2, .ref b3, v4, v5, v6, v7, .int (bI wk), .int (bI sd)])), (b2, .inl (cI, n, .inl (fun j => nI (st j)))), (b3, .inl (cI, n, .inl (fun j => nI (wt j))))])) (va_Qi (fun (z : Int32) (_ : Unit) => z = nI (apt st wt n)) (fun _ t => va_P (dC, dI) vwCl [(o0, .inr (4, [.int (nI (n)), .int (nI (q)), .ref b2, .ref b3, v4, v5, v6, v7, .int (bI wk), .int (bI sd)])), (b2, .inl (cI, n, .inl (fun j => nI (st j)))), (b3, .inl (cI, n, .inl (fun j => nI (wt j))))] t.heap ∧ va_K (dC, dI) vwCl [(cI, .int)] t ∧ va_D (va_A [(o0, .inr (4, [.int (nI (n)), .int (nI (q)), .ref b2, .ref b3, v4, v5, v6, v7, .int (bI wk), .int (bI sd)])), (b2, .inl (cI, n, .inl (fun j => nI (st j)))), (b3, .inl (cI, n, .inl (fun j => nI (wt j))))] sz) [(o0, .inr (4, [.int (nI (n)), .int (nI (q)), .ref b2, .ref b3, v4, v5, v6, v7, .int (bI wk), .int (bI sd)])), (b2, .inl (cI, n, .inl (fun j => nI (st j)))), (b3, .inl (cI, n, .inl (fun j => nI (wt j))))]) (va_A [(o0, .inr (4, [.int (nI (n)), .int (nI (q)), .ref b2, .ref b3, v4, v5, v6, v7, .int (bI wk), .int (bI sd)])), (b2, .inl (cI, n, .inl (fun j => nI (st j)))), (b3, .inl (cI, n, .inl (fun j => nI (wt j))))] sz)) 0 0 (va_A [(o0, .inr (4, [.int (nI (n)), .int (nI (q)), .ref b2, .ref b3, v4, v5, v6, v7, .int (bI wk), .int (bI sd)])), (b2, .inl (cI, n, .inl (fun j => nI (st j)))), (b3, .inl (cI, n, .inl (fun j => nI (wt j))))] sz) := by
  refine Met.ofW (cc := cX3_apart) (maxL := 3) (ret := (some .int)) (by decide) rfl ?_
  intro zp ze s m args below meth zc s₁ B hml hv
  obtain ⟨hargs, hsz, hP, hK, hD0⟩ := hv
  have hx := B.exec
  have hb := B.bytes
  have hr := B.returns
  have hts := atoms_spec (ws := wsX3_apart) B.pre
  have hown : s.vm.findClass RX3 = some m.cls := findClass_of_methodNamed B.named
  have hlocks := B.notSynchronized
  subst hsz
  obtain ⟨Q, hQ⟩ : ∃ Q, Q = MQ below (va_Qi (fun (z : Int32) (_ : Unit) => z = nI (apt st wt n)) (fun _ t => va_P (dC, dI) vwCl [(o0, .inr (4, [.int (nI (n)), .int (nI (q)), .ref b2, .ref b3, v4, v5, v6, v7, .int (bI wk), .int (bI sd)])), (b2, .inl (cI, n, .inl (fun j => nI (st j)))), (b3, .inl (cI, n, .inl (fun j => nI (wt j))))] t.heap ∧ va_K (dC, dI) vwCl [(cI, .int)] t ∧ va_D (va_A [(o0, .inr (4, [.int (nI (n)), .int (nI (q)), .ref b2, .ref b3, v4, v5, v6, v7, .int (bI wk), .int (bI sd)])), (b2, .inl (cI, n, .inl (fun j => nI (st j)))), (b3, .inl (cI, n, .inl (fun j => nI (wt j))))] s.heap.size) [(o0, .inr (4, [.int (nI (n)), .int (nI (q)), .ref b2, .ref b3, v4, v5, v6, v7, .int (bI wk), .int (bI sd)])), (b2, .inl (cI, n, .inl (fun j => nI (st j)))), (b3, .inl (cI, n, .inl (fun j => nI (wt j))))]) (va_A [(o0, .inr (4, [.int (nI (n)), .int (nI (q)), .ref b2, .ref b3, v4, v5, v6, v7, .int (bI wk), .int (bI sd)])), (b2, .inl (cI, n, .inl (fun j => nI (st j)))), (b3, .inl (cI, n, .inl (fun j => nI (wt j))))] s.heap.size)) args s 0 0 (va_A [(o0, .inr (4, [.int (nI (n)), .int (nI (q)), .ref b2, .ref b3, v4, v5, v6, v7, .int (bI wk), .int (bI sd)])), (b2, .inl (cI, n, .inl (fun j => nI (st j)))), (b3, .inl (cI, n, .inl (fun j => nI (wt j))))] s.heap.size) := ⟨_, rfl⟩
  rw [← hQ]
  have hD := hD0.self (sz := s.heap.size)
  generalize hAe : (va_A [(o0, .inr (4, [.int (nI (n)), .int (nI (q)), .ref b2, .ref b3, v4, v5, v6, v7, .int (bI wk), .int (bI sd)])), (b2, .inl (cI, n, .inl (fun j => nI (st j)))), (b3, .inl (cI, n, .inl (fun j => nI (wt j))))] s.heap.size) = A at hD hQ
  have hA : ∀ q : Nat, s.heap.size ≤ q → A q := fun q h => by rw [← hAe]; exact Or.inr h
  have hS : va_S A s.heap s.heap [] := va_S.rf
  have hl := lv_entry ([.ref o0]) (n := 3) (Nat.le_of_ble_eq_true rfl)
  generalize hen : entryFrame m args 3 = fr
  rw [hargs, lg_entry_eq] at hen
  subst hen
  generalize (lg_sl ([.ref o0]) ++ List.replicate (3 - (lg_sl ([.ref o0])).length) Slot.unset).toArray = ls at hl ⊢
  have hl : lv_has ls 3 [(0, .ref o0)] := hl
  have hinX3 : ∀ w ∈ wsX30, w ∈ wsX3_apart := by decide +kernel
  have hf18 := hts (.fieldLink RX3 18 "LightRows" "lamps" "I") (by decide +kernel)
  have hf29 := hts (.fieldLink RX3 29 "LightRows" "now" "[I") (by decide +kernel)
  have hf33 := hts (.fieldLink RX3 33 "LightRows" "wanted" "[I") (by decide +kernel)
  refine lv_iconst (v := nI 0) hx hb dX3_apart_0 (by decide) ?_
  refine lv_istore_n (lv' := [(1, .int (nI (0))), (0, .ref o0)]) hx hb dX3_apart_1 rfl hl (by decide) rfl (fun ls hl => ?_)
  refine lv_iconst (v := nI 0) hx hb dX3_apart_2 (by decide) ?_
  refine lv_istore_n (lv' := [(2, .int (nI (0))), (1, .int (nI (0))), (0, .ref o0)]) hx hb dX3_apart_3 rfl hl (by decide) rfl (fun ls hl => ?_)
  have lp : ∀ (k : Nat) (i : Nat) (y : Nat), (i + k = n) → (y = apt st wt i) → ∀ (H : Heap) (locs : List Loc), va_P (dC, dI) vwCl [(o0, .inr (4, [.int (nI (n)), .int (nI (q)), .ref b2, .ref b3, v4, v5, v6, v7, .int (bI wk), .int (bI sd)])), (b2, .inl (cI, n, .inl (fun j => nI (st j)))), (b3, .inl (cI, n, .inl (fun j => nI (wt j))))] H → va_D A [(o0, .inr (4, [.int (nI (n)), .int (nI (q)), .ref b2, .ref b3, v4, v5, v6, v7, .int (bI wk), .int (bI sd)])), (b2, .inl (cI, n, .inl (fun j => nI (st j)))), (b3, .inl (cI, n, .inl (fun j => nI (wt j))))] → va_S A s.heap H locs → ∀ (ls : Array Slot), lv_has ls 3 [(0, .ref o0), (1, .int (nI (y))), (2, .int (nI (i)))] → W zp l ze (headSpec wsX3_apart ({ frames := 0, cells := 0, slots := 0, locals := 0 })).room s m args below meth zc H locs 0 0 Q (F0 m 4 ls []) := by
    intro k
    induction k with
    | zero =>
      intro i y hi hy H locs hP hD hS ls hl
      refine lv_iload_n hx hb dX3_apart_4 rfl (lv_at hl 2 rfl) ?_
      refine lv_aload_n hx hb dX3_apart_5 rfl (lv_at hl 0 rfl) ?_
      refine va_get (D := (dC, dI)) (ci := 4) (v := .int (nI (n))) (C := RX3) (T := TX3) (N := 10) hx hb hts hinX3 hown hK hP 0 rfl rfl 0 (by decide) hf18 (fun _ h9 => h9) rfl dX3_apart_6 ?_
      refine lv_icmp_ge (tgt := 36) hx hb dX3_apart_9 (by decide) (fun c => ?_) (fun c => ?_)
      · skip
        have c : n ≤ i := (nI_leI (a := n) (b := i) (by omega) (by omega)).mp c
        obtain rfl : n = i := by omega
        refine lv_iload_n hx hb dX3_apart_36 rfl (lv_at hl 1 rfl) ?_
        rw [hQ]
        exact W.iret (v := nI (y)) hx hb hr (fun t ht hW => ⟨⟨_, (), rfl, by rw [hy], by rw [ht]; exact hP, va_K.moved hW.alike hK, hD⟩, hS.F ht⟩) hS.2.2 dX3_apart_37
      · skip
        have c : i < n := Nat.not_le.mp (fun h => c ((nI_leI (a := n) (b := i) (by omega) (by omega)).mpr h))
        exact absurd c (by omega)
    | succ k ih =>
      intro i y hi hy H locs hP hD hS ls hl
      refine lv_iload_n hx hb dX3_apart_4 rfl (lv_at hl 2 rfl) ?_
      refine lv_aload_n hx hb dX3_apart_5 rfl (lv_at hl 0 rfl) ?_
      refine va_get (D := (dC, dI)) (ci := 4) (v := .int (nI (n))) (C := RX3) (T := TX3) (N := 10) hx hb hts hinX3 hown hK hP 0 rfl rfl 0 (by decide) hf18 (fun _ h9 => h9) rfl dX3_apart_6 ?_
      refine lv_icmp_ge (tgt := 36) hx hb dX3_apart_9 (by decide) (fun c => ?_) (fun c => ?_)
      · skip
        have c : n ≤ i := (nI_leI (a := n) (b := i) (by omega) (by omega)).mp c
        exact absurd c (by omega)
      · skip
        have c : i < n := Nat.not_le.mp (fun h => c ((nI_leI (a := n) (b := i) (by omega) (by omega)).mpr h))
        have e1 := hs0 i (by omega)
        have e2 := hw0 i (by omega)
        refine lv_aload_n hx hb dX3_apart_12 rfl (lv_at hl 0 rfl) ?_
        refine va_get (D := (dC, dI)) (ci := 4) (v := .ref b2) (C := RX3) (T := TX3) (N := 10) hx hb hts hinX3 hown hK hP 0 rfl rfl 2 (by decide) hf29 (fun _ h9 => h9) rfl dX3_apart_13 ?_
        refine lv_iload_n hx hb dX3_apart_16 rfl (lv_at hl 2 rfl) ?_
        refine ra_ld (g := nI) (F := st) hx hb hK hP 1 0 rfl rfl (by omega) (by omega) dX3_apart_17 ?_
        refine lv_aload_n hx hb dX3_apart_18 rfl (lv_at hl 0 rfl) ?_
        refine va_get (D := (dC, dI)) (ci := 4) (v := .ref b3) (C := RX3) (T := TX3) (N := 10) hx hb hts hinX3 hown hK hP 0 rfl rfl 3 (by decide) hf33 (fun _ h9 => h9) rfl dX3_apart_19 ?_
        refine lv_iload_n hx hb dX3_apart_22 rfl (lv_at hl 2 rfl) ?_
        refine ra_ld (g := nI) (F := wt) hx hb hK hP 2 0 rfl rfl (by omega) (by omega) dX3_apart_23 ?_
        refine lv_icmp_eq (tgt := 30) hx hb dX3_apart_24 (by decide) (fun c2 => ?_) (fun c2 => ?_)
        · skip
          have c2 : st i = wt i := (nI_eq (a := st i) (b := wt i) (by omega) (by omega)).mp c2
          refine lv_iinc (v := nI (i + 1)) (lv' := [(2, .int (nI (i + 1))), (0, .ref o0), (1, .int (nI (y)))]) hx hb dX3_apart_30 hl (k := 2) rfl (nI_1 _) (by decide) rfl (fun ls hl => ?_)
          refine lv_goto (tgt := 4) hx hb dX3_apart_33 (by decide) ?_
          exact ih (i + 1) y (by omega) (by simp only [apt]; rw [if_pos c2, hy]) _ _ hP hD hS ls (lv_sub hl [1, 2, 0] rfl)
        · skip
          have c2 : st i ≠ wt i := fun h => c2 ((nI_eq (a := st i) (b := wt i) (by omega) (by omega)).mpr h)
          refine lv_iinc (v := nI (y + 1)) (lv' := [(1, .int (nI (y + 1))), (0, .ref o0), (2, .int (nI (i)))]) hx hb dX3_apart_27 hl (k := 1) rfl (nI_1 _) (by decide) rfl (fun ls hl => ?_)
          refine lv_iinc (v := nI (i + 1)) (lv' := [(2, .int (nI (i + 1))), (1, .int (nI (y + 1))), (0, .ref o0)]) hx hb dX3_apart_30 hl (k := 2) rfl (nI_1 _) (by decide) rfl (fun ls hl => ?_)
          refine lv_goto (tgt := 4) hx hb dX3_apart_33 (by decide) ?_
          exact ih (i + 1) (y + 1) (by omega) (by simp only [apt]; rw [if_neg c2, hy]) _ _ hP hD hS ls (lv_sub hl [2, 1, 0] rfl)
  exact lp n 0 0 (by omega) rfl _ _ hP hD hS ls (lv_sub hl [2, 1, 0] rfl)

set_option maxHeartbeats 4000000 in
set_option maxRecDepth 100000 in
theorem c_X3_clear (l : Launch) (dC : Nat → ClassId) (dI : Nat → Nat → Nat) (sz : Nat) (o0 b2 b3 n q : Nat) (st wt : Nat → Nat) (wk sd : Bool) (cI : ClassId) (v4 v5 v6 v7 : Value) (hn : n < 1000) : Met l yX3_clear wsX3_clear ({ frames := 1, cells := 0, slots := 0, locals := 20 }) (va_Pc [.ref o0] (fun U => U.heap.size = sz ∧ va_P (dC, dI) vwCl [(o0, .inr (4, [.int (nI (n)), .int (nI (q)), .ref b2, .ref b3, v4, v5, v6, v7, .int (bI wk), .int (bI sd)])), (b2, .inl (cI, n, .inl (fun j => nI (st j)))), (b3, .inl (cI, n, .inl (fun j => nI (wt j))))] U.heap ∧ va_K (dC, dI) vwCl [(cI, .int)] U ∧ va_D (fun _ => True) [(o0, .inr (4, [.int (nI (n)), .int (nI (q)), .ref b2, .ref b3, v4, v5, v6, v7, .int (bI wk), .int (bI sd)])), (b2, .inl (cI, n, .inl (fun j => nI (st j)))), (b3, .inl (cI, n, .inl (fun j => nI (wt j))))])) (va_Qv (fun u : (Nat → Nat) × (Nat → Nat) => (∀ j, j < n → u.1 j = 0) ∧ ∀ j, j < n → u.2 j = 0) (fun u t => va_P (dC, dI) vwCl [(o0, .inr (4, [.int (nI (n)), .int (nI (q)), .ref b2, .ref b3, v4, v5, v6, v7, .int (bI false), .int (bI false)])), (b2, .inl (cI, n, .inl (fun j => nI (u.1 j)))), (b3, .inl (cI, n, .inl (fun j => nI (u.2 j))))] t.heap ∧ va_K (dC, dI) vwCl [(cI, .int)] t ∧ va_D (va_A [(o0, .inr (4, [.int (nI (n)), .int (nI (q)), .ref b2, .ref b3, v4, v5, v6, v7, .int (bI wk), .int (bI sd)])), (b2, .inl (cI, n, .inl (fun j => nI (st j)))), (b3, .inl (cI, n, .inl (fun j => nI (wt j))))] sz) [(o0, .inr (4, [.int (nI (n)), .int (nI (q)), .ref b2, .ref b3, v4, v5, v6, v7, .int (bI false), .int (bI false)])), (b2, .inl (cI, n, .inl (fun j => nI (u.1 j)))), (b3, .inl (cI, n, .inl (fun j => nI (u.2 j))))]) (va_A [(o0, .inr (4, [.int (nI (n)), .int (nI (q)), .ref b2, .ref b3, v4, v5, v6, v7, .int (bI wk), .int (bI sd)])), (b2, .inl (cI, n, .inl (fun j => nI (st j)))), (b3, .inl (cI, n, .inl (fun j => nI (wt j))))] sz)) 0 0 (va_A [(o0, .inr (4, [.int (nI (n)), .int (nI (q)), .ref b2, .ref b3, v4, v5, v6, v7, .int (bI wk), .int (bI sd)])), (b2, .inl (cI, n, .inl (fun j => nI (st j)))), (b3, .inl (cI, n, .inl (fun j => nI (wt j))))] sz) := by
  refine Met.ofW (cc := cX3_clear) (maxL := 2) (ret := none) (by decide) rfl ?_
  intro zp ze s m args below meth zc s₁ B hml hv
  obtain ⟨hargs, hsz, hP, hK, hD0⟩ := hv
  have hx := B.exec
  have hb := B.bytes
  have hr := B.returns
  have hts := atoms_spec (ws := wsX3_clear) B.pre
  have hown : s.vm.findClass RX3 = some m.cls := findClass_of_methodNamed B.named
  have hlocks := B.notSynchronized
  subst hsz
  obtain ⟨Q, hQ⟩ : ∃ Q, Q = MQ below (va_Qv (fun u : (Nat → Nat) × (Nat → Nat) => (∀ j, j < n → u.1 j = 0) ∧ ∀ j, j < n → u.2 j = 0) (fun u t => va_P (dC, dI) vwCl [(o0, .inr (4, [.int (nI (n)), .int (nI (q)), .ref b2, .ref b3, v4, v5, v6, v7, .int (bI false), .int (bI false)])), (b2, .inl (cI, n, .inl (fun j => nI (u.1 j)))), (b3, .inl (cI, n, .inl (fun j => nI (u.2 j))))] t.heap ∧ va_K (dC, dI) vwCl [(cI, .int)] t ∧ va_D (va_A [(o0, .inr (4, [.int (nI (n)), .int (nI (q)), .ref b2, .ref b3, v4, v5, v6, v7, .int (bI wk), .int (bI sd)])), (b2, .inl (cI, n, .inl (fun j => nI (st j)))), (b3, .inl (cI, n, .inl (fun j => nI (wt j))))] s.heap.size) [(o0, .inr (4, [.int (nI (n)), .int (nI (q)), .ref b2, .ref b3, v4, v5, v6, v7, .int (bI false), .int (bI false)])), (b2, .inl (cI, n, .inl (fun j => nI (u.1 j)))), (b3, .inl (cI, n, .inl (fun j => nI (u.2 j))))]) (va_A [(o0, .inr (4, [.int (nI (n)), .int (nI (q)), .ref b2, .ref b3, v4, v5, v6, v7, .int (bI wk), .int (bI sd)])), (b2, .inl (cI, n, .inl (fun j => nI (st j)))), (b3, .inl (cI, n, .inl (fun j => nI (wt j))))] s.heap.size)) args s 0 0 (va_A [(o0, .inr (4, [.int (nI (n)), .int (nI (q)), .ref b2, .ref b3, v4, v5, v6, v7, .int (bI wk), .int (bI sd)])), (b2, .inl (cI, n, .inl (fun j => nI (st j)))), (b3, .inl (cI, n, .inl (fun j => nI (wt j))))] s.heap.size) := ⟨_, rfl⟩
  rw [← hQ]
  have hD := hD0.self (sz := s.heap.size)
  generalize hAe : (va_A [(o0, .inr (4, [.int (nI (n)), .int (nI (q)), .ref b2, .ref b3, v4, v5, v6, v7, .int (bI wk), .int (bI sd)])), (b2, .inl (cI, n, .inl (fun j => nI (st j)))), (b3, .inl (cI, n, .inl (fun j => nI (wt j))))] s.heap.size) = A at hD hQ
  have hA : ∀ q : Nat, s.heap.size ≤ q → A q := fun q h => by rw [← hAe]; exact Or.inr h
  have hS : va_S A s.heap s.heap [] := va_S.rf
  have hl := lv_entry ([.ref o0]) (n := 2) (Nat.le_of_ble_eq_true rfl)
  generalize hen : entryFrame m args 2 = fr
  rw [hargs, lg_entry_eq] at hen
  subst hen
  generalize (lg_sl ([.ref o0]) ++ List.replicate (2 - (lg_sl ([.ref o0])).length) Slot.unset).toArray = ls at hl ⊢
  have hl : lv_has ls 2 [(0, .ref o0)] := hl
  have hinX3 : ∀ w ∈ wsX30, w ∈ wsX3_clear := by decide +kernel
  have hf18 := hts (.fieldLink RX3 18 "LightRows" "lamps" "I") (by decide +kernel)
  have hf29 := hts (.fieldLink RX3 29 "LightRows" "now" "[I") (by decide +kernel)
  have hf33 := hts (.fieldLink RX3 33 "LightRows" "wanted" "[I") (by decide +kernel)
  have hf62 := hts (.fieldLink RX3 62 "LightRows" "worked" "Z") (by decide +kernel)
  have hf66 := hts (.fieldLink RX3 66 "LightRows" "searched" "Z") (by decide +kernel)
  refine lv_iconst (v := nI 0) hx hb dX3_clear_0 (by decide) ?_
  refine lv_istore_n (lv' := [(1, .int (nI (0))), (0, .ref o0)]) hx hb dX3_clear_1 rfl hl (by decide) rfl (fun ls hl => ?_)
  have lp : ∀ (k : Nat) (i : Nat) (F : Nat → Nat) (G : Nat → Nat), (i + k = n) → (∀ j, j < i → F j = 0) → (∀ j, j < i → G j = 0) → ∀ (H : Heap) (locs : List Loc), va_P (dC, dI) vwCl [(o0, .inr (4, [.int (nI (n)), .int (nI (q)), .ref b2, .ref b3, v4, v5, v6, v7, .int (bI wk), .int (bI sd)])), (b2, .inl (cI, n, .inl (fun j => nI (F j)))), (b3, .inl (cI, n, .inl (fun j => nI (G j))))] H → va_D A [(o0, .inr (4, [.int (nI (n)), .int (nI (q)), .ref b2, .ref b3, v4, v5, v6, v7, .int (bI wk), .int (bI sd)])), (b2, .inl (cI, n, .inl (fun j => nI (F j)))), (b3, .inl (cI, n, .inl (fun j => nI (G j))))] → va_S A s.heap H locs → ∀ (ls : Array Slot), lv_has ls 2 [(0, .ref o0), (1, .int (nI (i)))] → W zp l ze (headSpec wsX3_clear ({ frames := 1, cells := 0, slots := 0, locals := 20 })).room s m args below meth zc H locs 0 0 Q (F0 m 2 ls []) := by
    intro k
    induction k with
    | zero =>
      intro i F G hi h1 h2 H locs hP hD hS ls hl
      refine lv_iload_n hx hb dX3_clear_2 rfl (lv_at hl 1 rfl) ?_
      refine lv_aload_n hx hb dX3_clear_3 rfl (lv_at hl 0 rfl) ?_
      refine va_get (D := (dC, dI)) (ci := 4) (v := .int (nI (n))) (C := RX3) (T := TX3) (N := 10) hx hb hts hinX3 hown hK hP 0 rfl rfl 0 (by decide) hf18 (fun _ h9 => h9) rfl dX3_clear_4 ?_
      refine lv_icmp_ge (tgt := 30) hx hb dX3_clear_7 (by decide) (fun c => ?_) (fun c => ?_)
      · skip
        have c : n ≤ i := (nI_leI (a := n) (b := i) (by omega) (by omega)).mp c
        obtain rfl : n = i := by omega
        refine lv_aload_n hx hb dX3_clear_30 rfl (lv_at hl 0 rfl) ?_
        have hPc := hP.sub (ws' := [(o0, .inr (4, [.int (nI (n)), .int (nI (q)), .ref b2, .ref b3, v4, v5, v6, v7, .int (bI wk), .int (bI sd)]))]) [0] rfl
        have hDc := hD.sub (ws' := [(o0, .inr (4, [.int (nI (n)), .int (nI (q)), .ref b2, .ref b3, v4, v5, v6, v7, .int (bI wk), .int (bI sd)]))]) [0] (by decide) rfl
        have hFc := va_free (wc := [(o0, .inr (4, [.int (nI (n)), .int (nI (q)), .ref b2, .ref b3, v4, v5, v6, v7, .int (bI wk), .int (bI sd)]))]) hD hS hA [0] rfl
        have hKc := hK.sub (tys' := []) [] rfl
        refine va_callv (va_runV (As := []) (rest := []) ⟨hx, hb, hml, hown, hts⟩ (c_X3_forget l dC dI H.size o0 n q (bI wk) (bI sd) (.ref b2) (.ref b3) v4 v5 v6 v7) (cwV 0 hts gX3_clear_X3_forget rfl rfl rfl (by decide +kernel) ⟨Nat.le_of_ble_eq_true rfl, Nat.le_of_ble_eq_true rfl⟩) ⟨fun a U g mk q => by obtain ⟨q0, q1, qP, qK, qD⟩ := q; exact ⟨q0, q1, qP, va_K.moved (u := U) (U := U.calling g mk a) (Vm.Alike.refl U.vm) qK, qD⟩, va_recv hKc hPc (ci := 4) (q0 := 0) rfl rfl, fun U hU hW => ⟨rfl, by rw [hU], by rw [hU]; exact hPc, va_K.moved hW.alike hKc, hDc.weaken (fun _ _ _ _ => trivial)⟩⟩ rfl rfl hl.1 rfl (lv_room (Nat.le_of_ble_eq_true rfl)) dX3_clear_31 ⟨Nat.le_of_ble_eq_true rfl, Nat.le_of_ble_eq_true rfl⟩) hS (fun q _ h => hFc q h) hFc (fun u t H1 locs ht hvm hw hB hz1 hk1 hS => ?_)
        obtain ⟨hP1, hK1, hD1⟩ := hB
        rw [ht] at hP1
        try dsimp only at hw
        obtain ⟨hP, hD⟩ := va_join (wr := [(b2, .inl (cI, n, .inl (fun j => nI (F j)))), (b3, .inl (cI, n, .inl (fun j => nI (G j))))]) (w1 := [(o0, .inr (4, [.int (nI (n)), .int (nI (q)), .ref b2, .ref b3, v4, v5, v6, v7, .int (bI false), .int (bI false)]))]) hP hD [0] [1, 2] rfl rfl (by decide) (by decide) hk1 hFc hP1 hD1
        generalize H1 = H at hP hS ⊢
        have hP := hP.sub (ws' := [(o0, .inr (4, [.int (nI (n)), .int (nI (q)), .ref b2, .ref b3, v4, v5, v6, v7, .int (bI false), .int (bI false)])), (b2, .inl (cI, n, .inl (fun j => nI (F j)))), (b3, .inl (cI, n, .inl (fun j => nI (G j))))]) [2, 0, 1] rfl
        have hD := hD.sub (ws' := [(o0, .inr (4, [.int (nI (n)), .int (nI (q)), .ref b2, .ref b3, v4, v5, v6, v7, .int (bI false), .int (bI false)])), (b2, .inl (cI, n, .inl (fun j => nI (F j)))), (b3, .inl (cI, n, .inl (fun j => nI (G j))))]) [2, 0, 1] (by decide) rfl
        have hP : va_P (dC, dI) vwCl [(o0, .inr (4, [.int (nI (n)), .int (nI (q)), .ref b2, .ref b3, v4, v5, v6, v7, .int (bI false), .int (bI false)])), (b2, .inl (cI, n, .inl (fun j => nI (F j)))), (b3, .inl (cI, n, .inl (fun j => nI (G j))))] H := hP
        have hD : va_D A [(o0, .inr (4, [.int (nI (n)), .int (nI (q)), .ref b2, .ref b3, v4, v5, v6, v7, .int (bI false), .int (bI false)])), (b2, .inl (cI, n, .inl (fun j => nI (F j)))), (b3, .inl (cI, n, .inl (fun j => nI (G j))))] := hD
        rw [hQ]
        exact W.vret hx hb hr (fun t ht hW => ⟨⟨(F, G), rfl, ⟨h1, h2⟩, by rw [ht]; exact hP, va_K.moved hW.alike hK, hD⟩, hS.F ht⟩) hS.2.2 dX3_clear_34
      · skip
        have c : i < n := Nat.not_le.mp (fun h => c ((nI_leI (a := n) (b := i) (by omega) (by omega)).mpr h))
        exact absurd c (by omega)
    | succ k ih =>
      intro i F G hi h1 h2 H locs hP hD hS ls hl
      refine lv_iload_n hx hb dX3_clear_2 rfl (lv_at hl 1 rfl) ?_
      refine lv_aload_n hx hb dX3_clear_3 rfl (lv_at hl 0 rfl) ?_
      refine va_get (D := (dC, dI)) (ci := 4) (v := .int (nI (n))) (C := RX3) (T := TX3) (N := 10) hx hb hts hinX3 hown hK hP 0 rfl rfl 0 (by decide) hf18 (fun _ h9 => h9) rfl dX3_clear_4 ?_
      refine lv_icmp_ge (tgt := 30) hx hb dX3_clear_7 (by decide) (fun c => ?_) (fun c => ?_)
      · skip
        have c : n ≤ i := (nI_leI (a := n) (b := i) (by omega) (by omega)).mp c
        exact absurd c (by omega)
      · skip
        have c : i < n := Nat.not_le.mp (fun h => c ((nI_leI (a := n) (b := i) (by omega) (by omega)).mpr h))
        refine lv_aload_n hx hb dX3_clear_10 rfl (lv_at hl 0 rfl) ?_
        refine va_get (D := (dC, dI)) (ci := 4) (v := .ref b2) (C := RX3) (T := TX3) (N := 10) hx hb hts hinX3 hown hK hP 0 rfl rfl 2 (by decide) hf29 (fun _ h9 => h9) rfl dX3_clear_11 ?_
        refine lv_iload_n hx hb dX3_clear_14 rfl (lv_at hl 1 rfl) ?_
        refine lv_iconst (v := nI 0) hx hb dX3_clear_15 (by decide) ?_
        refine ra_st (g := nI) (F := F) (v := 0) hx hb hK hP hD hS 1 0 rfl rfl (by omega) (by omega) dX3_clear_16 (fun H locs hP hD hS => ?_)
        have hP : va_P (dC, dI) vwCl [(o0, .inr (4, [.int (nI (n)), .int (nI (q)), .ref b2, .ref b3, v4, v5, v6, v7, .int (bI wk), .int (bI sd)])), (b2, .inl (cI, n, .inl (fun j => nI ((va_up F i (0)) j)))), (b3, .inl (cI, n, .inl (fun j => nI (G j))))] H := hP
        have hD : va_D A [(o0, .inr (4, [.int (nI (n)), .int (nI (q)), .ref b2, .ref b3, v4, v5, v6, v7, .int (bI wk), .int (bI sd)])), (b2, .inl (cI, n, .inl (fun j => nI ((va_up F i (0)) j)))), (b3, .inl (cI, n, .inl (fun j => nI (G j))))] := hD
        refine lv_aload_n hx hb dX3_clear_17 rfl (lv_at hl 0 rfl) ?_
        refine va_get (D := (dC, dI)) (ci := 4) (v := .ref b3) (C := RX3) (T := TX3) (N := 10) hx hb hts hinX3 hown hK hP 0 rfl rfl 3 (by decide) hf33 (fun _ h9 => h9) rfl dX3_clear_18 ?_
        refine lv_iload_n hx hb dX3_clear_21 rfl (lv_at hl 1 rfl) ?_
        refine lv_iconst (v := nI 0) hx hb dX3_clear_22 (by decide) ?_
        refine ra_st (g := nI) (F := G) (v := 0) hx hb hK hP hD hS 2 0 rfl rfl (by omega) (by omega) dX3_clear_23 (fun H locs hP hD hS => ?_)
        have hP : va_P (dC, dI) vwCl [(o0, .inr (4, [.int (nI (n)), .int (nI (q)), .ref b2, .ref b3, v4, v5, v6, v7, .int (bI wk), .int (bI sd)])), (b2, .inl (cI, n, .inl (fun j => nI ((va_up F i (0)) j)))), (b3, .inl (cI, n, .inl (fun j => nI ((va_up G i (0)) j))))] H := hP
        have hD : va_D A [(o0, .inr (4, [.int (nI (n)), .int (nI (q)), .ref b2, .ref b3, v4, v5, v6, v7, .int (bI wk), .int (bI sd)])), (b2, .inl (cI, n, .inl (fun j => nI ((va_up F i (0)) j)))), (b3, .inl (cI, n, .inl (fun j => nI ((va_up G i (0)) j))))] := hD
        refine lv_iinc (v := nI (i + 1)) (lv' := [(1, .int (nI (i + 1))), (0, .ref o0)]) hx hb dX3_clear_24 hl (k := 1) rfl (nI_1 _) (by decide) rfl (fun ls hl => ?_)
        refine lv_goto (tgt := 2) hx hb dX3_clear_27 (by decide) ?_
        exact ih (i + 1) (va_up F i 0) (va_up G i 0) (by omega) (fun j hj => by
              by_cases e : j = i
              · rw [e, up_at]
              · rw [up_of _ _ e]; exact h1 j (by omega)) (fun j hj => by
              by_cases e : j = i
              · rw [e, up_at]
              · rw [up_of _ _ e]; exact h2 j (by omega)) _ _ hP hD hS ls (lv_sub hl [1, 0] rfl)
  exact lp n 0 st wt (by omega) (fun j h => absurd h (by omega)) (fun j h => absurd h (by omega)) _ _ hP hD hS ls (lv_sub hl [1, 0] rfl)

set_option maxHeartbeats 4000000 in
set_option maxRecDepth 100000 in
theorem c_X3_press (l : Launch) (dC : Nat → ClassId) (dI : Nat → Nat → Nat) (hfl : l.flags = pinnedFlags ++ [noTraceFlag]) (s0 : State) (A0 : Array Value) (str : Nat) (sz : Nat) (o0 b1 b2 n q : Nat) (x v : Int32) (st tm : Nat → Nat) (wk sd : Bool) (cI : ClassId) (v3 v5 v6 v7 : Value) (hn : n < 1000) (hn1 : n < 31) (hq0 : 2 ≤ q) (hq : q < 100) (ht0 : ∀ j, j < n → tm j < 2 ^ 31) (hs0 : ∀ j, j < n → st j < q) : tt_Met l yX3_press wsX3_press ({ frames := 8, cells := 1, slots := 6, locals := 116 }) (va_Pc [.ref o0, .int (x), .int (v)] (fun U => U.heap.size = sz ∧ va_P (dC, dI) vwCl [(o0, .inr (4, [.int (nI (n)), .int (nI (q)), .ref b2, v3, .ref b1, v5, v6, v7, .int (bI wk), .int (bI sd)])), (b2, .inl (cI, n, .inl (fun j => nI (st j)))), (b1, .inl (cI, n, .inl (fun j => nI (tm j))))] U.heap ∧ va_K (dC, dI) vwCl [(cI, .int)] U ∧ va_D (fun _ => True) [(o0, .inr (4, [.int (nI (n)), .int (nI (q)), .ref b2, v3, .ref b1, v5, v6, v7, .int (bI wk), .int (bI sd)])), (b2, .inl (cI, n, .inl (fun j => nI (st j)))), (b1, .inl (cI, n, .inl (fun j => nI (tm j))))] ∧ tt_B s0 A0 str U)) (tt_Q (∃ j : Nat, j < n ∧ x = nI j) (va_Qi (fun (z : Int32) (u : (Nat → Nat) × Bool × Bool) => (z = nI 1 ∧ ∃ j k : Nat, j < n ∧ k ≤ 1000 ∧ x = nI j ∧ v = nI k ∧ (∀ i, i < n → u.1 i = if tm j / 2 ^ i % 2 = 1 then (st i + k) % q else st i) ∧ u.2 = (false, false)) ∨ (z = nI 0 ∧ (∀ k : Nat, k ≤ 1000 → v ≠ nI k) ∧ u = (st, wk, sd))) (fun u t => va_P (dC, dI) vwCl [(o0, .inr (4, [.int (nI (n)), .int (nI (q)), .ref b2, v3, .ref b1, v5, v6, v7, .int (bI u.2.1), .int (bI u.2.2)])), (b2, .inl (cI, n, .inl (fun j => nI (u.1 j)))), (b1, .inl (cI, n, .inl (fun j => nI (tm j))))] t.heap ∧ va_K (dC, dI) vwCl [(cI, .int)] t ∧ va_D (va_A [(o0, .inr (4, [.int (nI (n)), .int (nI (q)), .ref b2, v3, .ref b1, v5, v6, v7, .int (bI wk), .int (bI sd)])), (b2, .inl (cI, n, .inl (fun j => nI (st j)))), (b1, .inl (cI, n, .inl (fun j => nI (tm j))))] sz) [(o0, .inr (4, [.int (nI (n)), .int (nI (q)), .ref b2, v3, .ref b1, v5, v6, v7, .int (bI u.2.1), .int (bI u.2.2)])), (b2, .inl (cI, n, .inl (fun j => nI (u.1 j)))), (b1, .inl (cI, n, .inl (fun j => nI (tm j))))]) (va_A [(o0, .inr (4, [.int (nI (n)), .int (nI (q)), .ref b2, v3, .ref b1, v5, v6, v7, .int (bI wk), .int (bI sd)])), (b2, .inl (cI, n, .inl (fun j => nI (st j)))), (b1, .inl (cI, n, .inl (fun j => nI (tm j))))] sz))) 1 6 (va_A [(o0, .inr (4, [.int (nI (n)), .int (nI (q)), .ref b2, v3, .ref b1, v5, v6, v7, .int (bI wk), .int (bI sd)])), (b2, .inl (cI, n, .inl (fun j => nI (st j)))), (b1, .inl (cI, n, .inl (fun j => nI (tm j))))] sz) := by
  refine tt_ofW (cc := cX3_press) (maxL := 4) (ret := (some .boolean)) (by decide) rfl ?_
  intro zp ze s m args below meth zc s₁ B hml hv
  obtain ⟨hargs, hsz, hP, hK, hD0, hB⟩ := hv
  have hx := B.exec
  have hb := B.bytes
  have hr := B.returns
  have hts := atoms_spec (ws := wsX3_press) B.pre
  have hown : s.vm.findClass RX3 = some m.cls := findClass_of_methodNamed B.named
  have hlocks := B.notSynchronized
  have hemp := B.noHandlers (hts _ List.mem_cons_self)
  subst hsz
  obtain ⟨Q, hQ⟩ : ∃ Q, Q = tt_MQ below (tt_Q (∃ j : Nat, j < n ∧ x = nI j) (va_Qi (fun (z : Int32) (u : (Nat → Nat) × Bool × Bool) => (z = nI 1 ∧ ∃ j k : Nat, j < n ∧ k ≤ 1000 ∧ x = nI j ∧ v = nI k ∧ (∀ i, i < n → u.1 i = if tm j / 2 ^ i % 2 = 1 then (st i + k) % q else st i) ∧ u.2 = (false, false)) ∨ (z = nI 0 ∧ (∀ k : Nat, k ≤ 1000 → v ≠ nI k) ∧ u = (st, wk, sd))) (fun u t => va_P (dC, dI) vwCl [(o0, .inr (4, [.int (nI (n)), .int (nI (q)), .ref b2, v3, .ref b1, v5, v6, v7, .int (bI u.2.1), .int (bI u.2.2)])), (b2, .inl (cI, n, .inl (fun j => nI (u.1 j)))), (b1, .inl (cI, n, .inl (fun j => nI (tm j))))] t.heap ∧ va_K (dC, dI) vwCl [(cI, .int)] t ∧ va_D (va_A [(o0, .inr (4, [.int (nI (n)), .int (nI (q)), .ref b2, v3, .ref b1, v5, v6, v7, .int (bI wk), .int (bI sd)])), (b2, .inl (cI, n, .inl (fun j => nI (st j)))), (b1, .inl (cI, n, .inl (fun j => nI (tm j))))] s.heap.size) [(o0, .inr (4, [.int (nI (n)), .int (nI (q)), .ref b2, v3, .ref b1, v5, v6, v7, .int (bI u.2.1), .int (bI u.2.2)])), (b2, .inl (cI, n, .inl (fun j => nI (u.1 j)))), (b1, .inl (cI, n, .inl (fun j => nI (tm j))))]) (va_A [(o0, .inr (4, [.int (nI (n)), .int (nI (q)), .ref b2, v3, .ref b1, v5, v6, v7, .int (bI wk), .int (bI sd)])), (b2, .inl (cI, n, .inl (fun j => nI (st j)))), (b1, .inl (cI, n, .inl (fun j => nI (tm j))))] s.heap.size))) args s 1 6 (va_A [(o0, .inr (4, [.int (nI (n)), .int (nI (q)), .ref b2, v3, .ref b1, v5, v6, v7, .int (bI wk), .int (bI sd)])), (b2, .inl (cI, n, .inl (fun j => nI (st j)))), (b1, .inl (cI, n, .inl (fun j => nI (tm j))))] s.heap.size) := ⟨_, rfl⟩
  rw [← hQ]
  have hD := hD0.self (sz := s.heap.size)
  generalize hAe : (va_A [(o0, .inr (4, [.int (nI (n)), .int (nI (q)), .ref b2, v3, .ref b1, v5, v6, v7, .int (bI wk), .int (bI sd)])), (b2, .inl (cI, n, .inl (fun j => nI (st j)))), (b1, .inl (cI, n, .inl (fun j => nI (tm j))))] s.heap.size) = A at hD hQ
  have hA : ∀ q : Nat, s.heap.size ≤ q → A q := fun q h => by rw [← hAe]; exact Or.inr h
  have hS : va_S A s.heap s.heap [] := va_S.rf
  have hl := lv_entry ([.ref o0, .int (x), .int (v)]) (n := 4) (Nat.le_of_ble_eq_true rfl)
  generalize hen : entryFrame m args 4 = fr
  rw [hargs, lg_entry_eq] at hen
  subst hen
  generalize (lg_sl ([.ref o0, .int (x), .int (v)]) ++ List.replicate (4 - (lg_sl ([.ref o0, .int (x), .int (v)])).length) Slot.unset).toArray = ls at hl ⊢
  have hl : lv_has ls 4 [(0, .ref o0), (1, .int (x)), (2, .int (v))] := hl
  have hinX3 : ∀ w ∈ wsX30, w ∈ wsX3_press := by decide +kernel
  have hf18 := hts (.fieldLink RX3 18 "LightRows" "lamps" "I") (by decide +kernel)
  have hf26 := hts (.fieldLink RX3 26 "LightRows" "states" "I") (by decide +kernel)
  have hf29 := hts (.fieldLink RX3 29 "LightRows" "now" "[I") (by decide +kernel)
  have hf36 := hts (.fieldLink RX3 36 "LightRows" "touched" "[I") (by decide +kernel)
  have hf62 := hts (.fieldLink RX3 62 "LightRows" "worked" "Z") (by decide +kernel)
  have hf66 := hts (.fieldLink RX3 66 "LightRows" "searched" "Z") (by decide +kernel)
  refine lv_aload_n hx hb dX3_press_0 rfl (lv_at hl 0 rfl) ?_
  refine lv_iload_n hx hb dX3_press_1 rfl (lv_at hl 1 rfl) ?_
  have hPc := hP.sub (ws' := [(o0, .inr (4, [.int (nI (n)), .int (nI (q)), .ref b2, v3, .ref b1, v5, v6, v7, .int (bI wk), .int (bI sd)]))]) [0] rfl
  have hDc := hD.sub (ws' := [(o0, .inr (4, [.int (nI (n)), .int (nI (q)), .ref b2, v3, .ref b1, v5, v6, v7, .int (bI wk), .int (bI sd)]))]) [0] (by decide) rfl
  have hKc := hK.sub (tys' := []) [] rfl
  rw [hQ]
  refine tt_must (mc := 1) (ms := 6) (tt_runV (As := [.int (x)]) (rest := []) ⟨hx, hb, hml, hown, hts⟩ (c_X3_mustExist l dC dI hfl s0 A0 str s.heap.size o0 n (.int (nI (q))) (.ref b2) (v3) (.ref b1) (v5) (v6) (v7) (.int (bI wk)) (.int (bI sd)) (x) hn) (cwV 1 hts gX3_press_X3_mustExist rfl rfl rfl (by decide +kernel) ⟨Nat.le_of_ble_eq_true rfl, Nat.le_of_ble_eq_true rfl⟩) ⟨fun a U g mk q => by obtain ⟨q0, q1, qP, qK, qD, qB⟩ := q; exact ⟨q0, q1, qP, va_K.moved (u := U) (U := U.calling g mk a) (Vm.Alike.refl U.vm) qK, qD, qB.blind rfl rfl⟩, va_recv hKc hPc (ci := 4) (q0 := 0) rfl rfl, fun U hU hW => ⟨rfl, by rw [hU], by rw [hU]; exact hPc, va_K.moved hW.alike hKc, hDc.weaken (fun _ _ _ _ => trivial), hB.later hU hW⟩⟩ rfl rfl hl.1 rfl (lv_room (Nat.le_of_ble_eq_true rfl)) dX3_press_2 ⟨Nat.le_of_ble_eq_true rfl, Nat.le_of_ble_eq_true rfl⟩) hemp hlocks (Nat.le_of_ble_eq_true rfl) (Nat.le_of_ble_eq_true rfl) (id) (fun hin => ?_)
  rw [← hQ]
  obtain ⟨ja, hja, eja⟩ := id hin
  subst eja
  refine lv_iload_n hx hb dX3_press_5 rfl (lv_at hl 2 rfl) ?_
  refine lv_if_lt (tgt := 16) hx hb dX3_press_6 (by decide) (fun c => ?_) (fun c => ?_)
  · skip
    refine lv_iconst (v := nI 0) hx hb dX3_press_16 (by decide) ?_
    rw [hQ]
    refine tt_ret (⟨ja, hja, rfl⟩) ?_
    exact W.zret (v := nI (0)) (ty := .boolean) hx hb hr rfl (fun t ht hW => ⟨⟨_, (st, wk, sd), rfl, Or.inr ⟨rfl, fun k hk e => nI_pos (by omega) (e ▸ c), rfl⟩, by rw [ht]; exact hP, va_K.moved hW.alike hK, hD⟩, hS.F ht⟩) hS.2.2 dX3_press_17
  · skip
    refine lv_iload_n hx hb dX3_press_9 rfl (lv_at hl 2 rfl) ?_
    refine lv_sipush (v := nI 1000) hx hb dX3_press_10 (by decide) ?_
    refine lv_icmp_le (tgt := 18) hx hb dX3_press_13 (by decide) (fun c2 => ?_) (fun c2 => ?_)
    · skip
      obtain ⟨k, hk, rfl⟩ : ∃ k : Nat, k ≤ 1000 ∧ v = nI k := nI_of2 (M := nI 1000) (by rw [nI_toInt (by omega)]) c c2
      refine lv_iconst (v := nI 0) hx hb dX3_press_18 (by decide) ?_
      refine lv_istore_n (lv' := [(3, .int (nI (0))), (0, .ref o0), (1, .int (nI (ja))), (2, .int (nI (k)))]) hx hb dX3_press_19 rfl hl (by decide) rfl (fun ls hl => ?_)
      have lp : ∀ (kk : Nat) (i : Nat) (F : Nat → Nat), (i + kk = n) → (∀ a, F a = if a < i then (fun i => if tm ja / 2 ^ i % 2 = 1 then (st i + k) % q else st i) a else st a) → ∀ (H : Heap) (locs : List Loc), va_P (dC, dI) vwCl [(o0, .inr (4, [.int (nI (n)), .int (nI (q)), .ref b2, v3, .ref b1, v5, v6, v7, .int (bI wk), .int (bI sd)])), (b2, .inl (cI, n, .inl (fun j => nI (F j)))), (b1, .inl (cI, n, .inl (fun j => nI (tm j))))] H → va_D A [(o0, .inr (4, [.int (nI (n)), .int (nI (q)), .ref b2, v3, .ref b1, v5, v6, v7, .int (bI wk), .int (bI sd)])), (b2, .inl (cI, n, .inl (fun j => nI (F j)))), (b1, .inl (cI, n, .inl (fun j => nI (tm j))))] → va_S A s.heap H locs → ∀ (ls : Array Slot), lv_has ls 4 [(0, .ref o0), (1, .int (nI (ja))), (2, .int (nI (k))), (3, .int (nI (i)))] → W zp l ze (headSpec wsX3_press ({ frames := 8, cells := 1, slots := 6, locals := 116 })).room s m args below meth zc H locs (0 + 1) (0 + 6) Q (F0 m 20 ls []) := by
        intro kk
        induction kk with
        | zero =>
          intro i F hi h1 H locs hP hD hS ls hl
          refine lv_iload_n hx hb dX3_press_20 rfl (lv_at hl 3 rfl) ?_
          refine lv_aload_n hx hb dX3_press_21 rfl (lv_at hl 0 rfl) ?_
          refine va_get (D := (dC, dI)) (ci := 4) (v := .int (nI (n))) (C := RX3) (T := TX3) (N := 10) hx hb hts hinX3 hown hK hP 0 rfl rfl 0 (by decide) hf18 (fun _ h9 => h9) rfl dX3_press_22 ?_
          refine lv_icmp_ge (tgt := 62) hx hb dX3_press_25 (by decide) (fun c3 => ?_) (fun c3 => ?_)
          · skip
            have c3 : n ≤ i := (nI_leI (a := n) (b := i) (by omega) (by omega)).mp c3
            obtain rfl : n = i := by omega
            refine lv_aload_n hx hb dX3_press_62 rfl (lv_at hl 0 rfl) ?_
            have hPc := hP.sub (ws' := [(o0, .inr (4, [.int (nI (n)), .int (nI (q)), .ref b2, v3, .ref b1, v5, v6, v7, .int (bI wk), .int (bI sd)]))]) [0] rfl
            have hDc := hD.sub (ws' := [(o0, .inr (4, [.int (nI (n)), .int (nI (q)), .ref b2, v3, .ref b1, v5, v6, v7, .int (bI wk), .int (bI sd)]))]) [0] (by decide) rfl
            have hFc := va_free (wc := [(o0, .inr (4, [.int (nI (n)), .int (nI (q)), .ref b2, v3, .ref b1, v5, v6, v7, .int (bI wk), .int (bI sd)]))]) hD hS hA [0] rfl
            have hKc := hK.sub (tys' := []) [] rfl
            refine va_callv (va_runV (As := []) (rest := []) ⟨hx, hb, hml, hown, hts⟩ (c_X3_forget l dC dI H.size o0 n q (bI wk) (bI sd) (.ref b2) v3 (.ref b1) v5 v6 v7) (cwV 0 hts gX3_press_X3_forget rfl rfl rfl (by decide +kernel) ⟨Nat.le_of_ble_eq_true rfl, Nat.le_of_ble_eq_true rfl⟩) ⟨fun a U g mk q => by obtain ⟨q0, q1, qP, qK, qD⟩ := q; exact ⟨q0, q1, qP, va_K.moved (u := U) (U := U.calling g mk a) (Vm.Alike.refl U.vm) qK, qD⟩, va_recv hKc hPc (ci := 4) (q0 := 0) rfl rfl, fun U hU hW => ⟨rfl, by rw [hU], by rw [hU]; exact hPc, va_K.moved hW.alike hKc, hDc.weaken (fun _ _ _ _ => trivial)⟩⟩ rfl rfl hl.1 rfl (lv_room (Nat.le_of_ble_eq_true rfl)) dX3_press_63 ⟨Nat.le_of_ble_eq_true rfl, Nat.le_of_ble_eq_true rfl⟩) hS (fun q _ h => hFc q h) hFc (fun u t H1 locs ht hvm hw hB hz1 hk1 hS => ?_)
            obtain ⟨hP1, hK1, hD1⟩ := hB
            rw [ht] at hP1
            try dsimp only at hw
            obtain ⟨hP, hD⟩ := va_join (wr := [(b2, .inl (cI, n, .inl (fun j => nI (F j)))), (b1, .inl (cI, n, .inl (fun j => nI (tm j))))]) (w1 := [(o0, .inr (4, [.int (nI (n)), .int (nI (q)), .ref b2, v3, .ref b1, v5, v6, v7, .int (bI false), .int (bI false)]))]) hP hD [0] [1, 2] rfl rfl (by decide) (by decide) hk1 hFc hP1 hD1
            generalize H1 = H at hP hS ⊢
            have hP := hP.sub (ws' := [(o0, .inr (4, [.int (nI (n)), .int (nI (q)), .ref b2, v3, .ref b1, v5, v6, v7, .int (bI false), .int (bI false)])), (b2, .inl (cI, n, .inl (fun j => nI (F j)))), (b1, .inl (cI, n, .inl (fun j => nI (tm j))))]) [2, 0, 1] rfl
            have hD := hD.sub (ws' := [(o0, .inr (4, [.int (nI (n)), .int (nI (q)), .ref b2, v3, .ref b1, v5, v6, v7, .int (bI false), .int (bI false)])), (b2, .inl (cI, n, .inl (fun j => nI (F j)))), (b1, .inl (cI, n, .inl (fun j => nI (tm j))))]) [2, 0, 1] (by decide) rfl
            have hP : va_P (dC, dI) vwCl [(o0, .inr (4, [.int (nI (n)), .int (nI (q)), .ref b2, v3, .ref b1, v5, v6, v7, .int (bI false), .int (bI false)])), (b2, .inl (cI, n, .inl (fun j => nI (F j)))), (b1, .inl (cI, n, .inl (fun j => nI (tm j))))] H := hP
            have hD : va_D A [(o0, .inr (4, [.int (nI (n)), .int (nI (q)), .ref b2, v3, .ref b1, v5, v6, v7, .int (bI false), .int (bI false)])), (b2, .inl (cI, n, .inl (fun j => nI (F j)))), (b1, .inl (cI, n, .inl (fun j => nI (tm j))))] := hD
            refine lv_iconst (v := nI 1) hx hb dX3_press_66 (by decide) ?_
            rw [hQ]
            refine tt_ret (⟨ja, hja, rfl⟩) ?_
            exact W.zret (v := nI (1)) (ty := .boolean) hx hb hr rfl (fun t ht hW => ⟨⟨_, (F, false, false), rfl, Or.inl ⟨rfl, ja, k, hja, hk, rfl, rfl, fun i hi => by show F i = _; rw [h1 i, if_pos hi], rfl⟩, by rw [ht]; exact hP, va_K.moved hW.alike hK, hD⟩, hS.F ht⟩) hS.2.2 dX3_press_67
          · skip
            have c3 : i < n := Nat.not_le.mp (fun h => c3 ((nI_leI (a := n) (b := i) (by omega) (by omega)).mpr h))
            exact absurd c3 (by omega)
        | succ kk ih =>
          intro i F hi h1 H locs hP hD hS ls hl
          refine lv_iload_n hx hb dX3_press_20 rfl (lv_at hl 3 rfl) ?_
          refine lv_aload_n hx hb dX3_press_21 rfl (lv_at hl 0 rfl) ?_
          refine va_get (D := (dC, dI)) (ci := 4) (v := .int (nI (n))) (C := RX3) (T := TX3) (N := 10) hx hb hts hinX3 hown hK hP 0 rfl rfl 0 (by decide) hf18 (fun _ h9 => h9) rfl dX3_press_22 ?_
          refine lv_icmp_ge (tgt := 62) hx hb dX3_press_25 (by decide) (fun c3 => ?_) (fun c3 => ?_)
          · skip
            have c3 : n ≤ i := (nI_leI (a := n) (b := i) (by omega) (by omega)).mp c3
            exact absurd c3 (by omega)
          · skip
            have c3 : i < n := Nat.not_le.mp (fun h => c3 ((nI_leI (a := n) (b := i) (by omega) (by omega)).mpr h))
            have e1 := hs0 i (by omega)
            have e2 : F i = st i := by rw [h1 i, if_neg (by omega)]
            refine lv_aload_n hx hb dX3_press_28 rfl (lv_at hl 0 rfl) ?_
            refine lv_iload_n hx hb dX3_press_29 rfl (lv_at hl 1 rfl) ?_
            refine lv_iload_n hx hb dX3_press_30 rfl (lv_at hl 3 rfl) ?_
            have hPc := hP.sub (ws' := [(o0, .inr (4, [.int (nI (n)), .int (nI (q)), .ref b2, v3, .ref b1, v5, v6, v7, .int (bI wk), .int (bI sd)])), (b1, .inl (cI, n, .inl (fun j => nI (tm j))))]) [0, 2] rfl
            have hDc := hD.sub (ws' := [(o0, .inr (4, [.int (nI (n)), .int (nI (q)), .ref b2, v3, .ref b1, v5, v6, v7, .int (bI wk), .int (bI sd)])), (b1, .inl (cI, n, .inl (fun j => nI (tm j))))]) [0, 2] (by decide) rfl
            have hFc := va_free (wc := [(o0, .inr (4, [.int (nI (n)), .int (nI (q)), .ref b2, v3, .ref b1, v5, v6, v7, .int (bI wk), .int (bI sd)])), (b1, .inl (cI, n, .inl (fun j => nI (tm j))))]) hD hS hA [0, 2] rfl
            have hKc := hK.sub (tys' := [(cI, .int)]) [0] rfl
            refine va_calli (va_runV (As := [.int (nI (ja)), .int (nI (i))]) (rest := []) ⟨hx, hb, hml, hown, hts⟩ (c_X3_touches l dC dI H.size o0 b1 n q ja i tm wk sd cI (.ref b2) v3 v5 v6 v7 hn1 hja (by omega) (ht0 ja hja)) (cwV 2 hts gX3_press_X3_touches rfl rfl rfl (by decide +kernel) ⟨Nat.le_of_ble_eq_true rfl, Nat.le_of_ble_eq_true rfl⟩) ⟨fun a U g mk q => by obtain ⟨q0, q1, qP, qK, qD⟩ := q; exact ⟨q0, q1, qP, va_K.moved (u := U) (U := U.calling g mk a) (Vm.Alike.refl U.vm) qK, qD⟩, va_recv hKc hPc (ci := 4) (q0 := 0) rfl rfl, fun U hU hW => ⟨rfl, by rw [hU], by rw [hU]; exact hPc, va_K.moved hW.alike hKc, hDc.weaken (fun _ _ _ _ => trivial)⟩⟩ rfl rfl hl.1 rfl (lv_room (Nat.le_of_ble_eq_true rfl)) dX3_press_31 ⟨Nat.le_of_ble_eq_true rfl, Nat.le_of_ble_eq_true rfl⟩) hS (fun q _ h => hFc q h) hFc (fun r2 u t H1 locs ht hvm hw hB hz1 hk1 hS => ?_)
            obtain ⟨hP1, hK1, hD1⟩ := hB
            rw [ht] at hP1
            try dsimp only at hw
            obtain ⟨hP, hD⟩ := va_join (wr := [(b2, .inl (cI, n, .inl (fun j => nI (F j))))]) (w1 := [(o0, .inr (4, [.int (nI (n)), .int (nI (q)), .ref b2, v3, .ref b1, v5, v6, v7, .int (bI wk), .int (bI sd)])), (b1, .inl (cI, n, .inl (fun j => nI (tm j))))]) hP hD [0, 2] [1] rfl rfl (by decide) (by decide) hk1 hFc hP1 hD1
            generalize H1 = H at hP hS ⊢
            have hP := hP.sub (ws' := [(o0, .inr (4, [.int (nI (n)), .int (nI (q)), .ref b2, v3, .ref b1, v5, v6, v7, .int (bI wk), .int (bI sd)])), (b2, .inl (cI, n, .inl (fun j => nI (F j)))), (b1, .inl (cI, n, .inl (fun j => nI (tm j))))]) [1, 0, 2] rfl
            have hD := hD.sub (ws' := [(o0, .inr (4, [.int (nI (n)), .int (nI (q)), .ref b2, v3, .ref b1, v5, v6, v7, .int (bI wk), .int (bI sd)])), (b2, .inl (cI, n, .inl (fun j => nI (F j)))), (b1, .inl (cI, n, .inl (fun j => nI (tm j))))]) [1, 0, 2] (by decide) rfl
            have hP : va_P (dC, dI) vwCl [(o0, .inr (4, [.int (nI (n)), .int (nI (q)), .ref b2, v3, .ref b1, v5, v6, v7, .int (bI wk), .int (bI sd)])), (b2, .inl (cI, n, .inl (fun j => nI (F j)))), (b1, .inl (cI, n, .inl (fun j => nI (tm j))))] H := hP
            have hD : va_D A [(o0, .inr (4, [.int (nI (n)), .int (nI (q)), .ref b2, v3, .ref b1, v5, v6, v7, .int (bI wk), .int (bI sd)])), (b2, .inl (cI, n, .inl (fun j => nI (F j)))), (b1, .inl (cI, n, .inl (fun j => nI (tm j))))] := hD
            subst hw
            rcases hbt : decide (tm ja / 2 ^ i % 2 = 1) with _ | _
            · skip
              refine tp_i (y := nI 0) rfl ?_
              refine lv_if_eq (tgt := 56) hx hb dX3_press_34 (by decide) (fun c4 => ?_) (fun c4 => ?_)
              · skip
                have c4 : 0 = 0 := (nI_eq (a := 0) (b := 0) (by omega) (by omega)).mp c4
                refine lv_iinc (v := nI (i + 1)) (lv' := [(3, .int (nI (i + 1))), (0, .ref o0), (1, .int (nI (ja))), (2, .int (nI (k)))]) hx hb dX3_press_56 hl (k := 3) rfl (nI_1 _) (by decide) rfl (fun ls hl => ?_)
                refine lv_goto (tgt := 20) hx hb dX3_press_59 (by decide) ?_
                have hbt := of_decide_eq_false hbt
                exact ih (i + 1) F (by omega) (fun a => by
                      rw [h1 a]
                      by_cases e : a = i
                      · subst e; rw [if_neg (by omega), if_pos (by omega)]; show st a = if _ then _ else _; rw [if_neg hbt]
                      · by_cases e3 : a < i
                        · rw [if_pos e3, if_pos (by omega)]
                        · rw [if_neg e3, if_neg (by omega)]) _ _ hP hD hS ls (lv_sub hl [1, 2, 3, 0] rfl)
              · skip
                have c4 : 0 ≠ 0 := fun h => c4 ((nI_eq (a := 0) (b := 0) (by omega) (by omega)).mpr h)
                exact absurd rfl c4
            · skip
              refine tp_i (y := nI 1) rfl ?_
              refine lv_if_eq (tgt := 56) hx hb dX3_press_34 (by decide) (fun c4 => ?_) (fun c4 => ?_)
              · skip
                have c4 : 1 = 0 := (nI_eq (a := 1) (b := 0) (by omega) (by omega)).mp c4
                exact absurd c4 (by decide)
              · skip
                have c4 : 1 ≠ 0 := fun h => c4 ((nI_eq (a := 1) (b := 0) (by omega) (by omega)).mpr h)
                refine lv_aload_n hx hb dX3_press_37 rfl (lv_at hl 0 rfl) ?_
                refine va_get (D := (dC, dI)) (ci := 4) (v := .ref b2) (C := RX3) (T := TX3) (N := 10) hx hb hts hinX3 hown hK hP 0 rfl rfl 2 (by decide) hf29 (fun _ h9 => h9) rfl dX3_press_38 ?_
                refine lv_iload_n hx hb dX3_press_41 rfl (lv_at hl 3 rfl) ?_
                refine lv_aload_n hx hb dX3_press_42 rfl (lv_at hl 0 rfl) ?_
                refine va_get (D := (dC, dI)) (ci := 4) (v := .ref b2) (C := RX3) (T := TX3) (N := 10) hx hb hts hinX3 hown hK hP 0 rfl rfl 2 (by decide) hf29 (fun _ h9 => h9) rfl dX3_press_43 ?_
                refine lv_iload_n hx hb dX3_press_46 rfl (lv_at hl 3 rfl) ?_
                refine ra_ld (g := nI) (F := F) hx hb hK hP 1 0 rfl rfl (by omega) (by omega) dX3_press_47 ?_
                refine tp_i (y := nI (st i)) (by rw [e2]) ?_
                refine lv_iload_n hx hb dX3_press_48 rfl (lv_at hl 2 rfl) ?_
                refine lv_iadd hx hb dX3_press_49 ?_
                refine tp_i (y := nI ((st i) + k)) (nI_add _ _) ?_
                refine lv_aload_n hx hb dX3_press_50 rfl (lv_at hl 0 rfl) ?_
                refine va_get (D := (dC, dI)) (ci := 4) (v := .int (nI (q))) (C := RX3) (T := TX3) (N := 10) hx hb hts hinX3 hown hK hP 0 rfl rfl 1 (by decide) hf26 (fun _ h9 => h9) rfl dX3_press_51 ?_
                refine lv_irem hx hb dX3_press_54 (nI_ne0 (by omega) (by omega)) ?_
                refine tp_i (y := nI (((st i) + k) % q)) (pk_rem (by omega) (by omega) (by omega)) ?_
                refine ra_st (g := nI) (F := F) (v := ((st i) + k) % q) hx hb hK hP hD hS 1 0 rfl rfl (by omega) (by omega) dX3_press_55 (fun H locs hP hD hS => ?_)
                have hP : va_P (dC, dI) vwCl [(o0, .inr (4, [.int (nI (n)), .int (nI (q)), .ref b2, v3, .ref b1, v5, v6, v7, .int (bI wk), .int (bI sd)])), (b2, .inl (cI, n, .inl (fun j => nI ((va_up F i (((st i) + k) % q)) j)))), (b1, .inl (cI, n, .inl (fun j => nI (tm j))))] H := hP
                have hD : va_D A [(o0, .inr (4, [.int (nI (n)), .int (nI (q)), .ref b2, v3, .ref b1, v5, v6, v7, .int (bI wk), .int (bI sd)])), (b2, .inl (cI, n, .inl (fun j => nI ((va_up F i (((st i) + k) % q)) j)))), (b1, .inl (cI, n, .inl (fun j => nI (tm j))))] := hD
                refine lv_iinc (v := nI (i + 1)) (lv' := [(3, .int (nI (i + 1))), (0, .ref o0), (1, .int (nI (ja))), (2, .int (nI (k)))]) hx hb dX3_press_56 hl (k := 3) rfl (nI_1 _) (by decide) rfl (fun ls hl => ?_)
                refine lv_goto (tgt := 20) hx hb dX3_press_59 (by decide) ?_
                have hbt := of_decide_eq_true hbt
                exact ih (i + 1) (va_up F i ((st i + k) % q)) (by omega) (lp_step h1 (by show _ = if _ then _ else _; rw [if_pos hbt])) _ _ hP hD hS ls (lv_sub hl [1, 2, 3, 0] rfl)
      exact lp n 0 st (by omega) (lp_zero _ _) _ _ hP hD hS ls (lv_sub hl [1, 2, 3, 0] rfl)
    · skip
      refine lv_iconst (v := nI 0) hx hb dX3_press_16 (by decide) ?_
      rw [hQ]
      refine tt_ret (⟨ja, hja, rfl⟩) ?_
      exact W.zret (v := nI (0)) (ty := .boolean) hx hb hr rfl (fun t ht hW => ⟨⟨_, (st, wk, sd), rfl, Or.inr ⟨rfl, fun k hk e => c2 (by rw [e]; exact nI_le hk (by omega)), rfl⟩, by rw [ht]; exact hP, va_K.moved hW.alike hK, hD⟩, hS.F ht⟩) hS.2.2 dX3_press_17

set_option maxHeartbeats 4000000 in
set_option maxRecDepth 100000 in
theorem c_X0_init (l : Launch) (dC : Nat → ClassId) (dI : Nat → Nat → Nat) (sz : Nat) (d0 : Nat) (cI : ClassId)  : Met l yX0_init wsX0_init ({ frames := 1, cells := 1, slots := 26, locals := 12 }) (va_Pc [.ref d0] (fun U => U.heap.size = sz ∧ va_P (dC, dI) vwCl [(d0, .inr (1, [.null, .int (nI (0))]))] U.heap ∧ va_K (dC, dI) vwCl [(cI, .int)] U ∧ va_D (fun _ => True) [(d0, .inr (1, [.null, .int (nI (0))]))])) (va_Qv (fun u : Nat => True) (fun u t => va_P (dC, dI) vwCl [(d0, .inr (1, [.ref u, .int (nI (1))])), (u, .inl (cI, 26, .inl (fun j => nI (((fun _ => 0)) j))))] t.heap ∧ va_K (dC, dI) vwCl [(cI, .int)] t ∧ va_D (va_A [(d0, .inr (1, [.null, .int (nI (0))]))] sz) [(d0, .inr (1, [.ref u, .int (nI (1))])), (u, .inl (cI, 26, .inl (fun j => nI (((fun _ => 0)) j))))]) (va_A [(d0, .inr (1, [.null, .int (nI (0))]))] sz)) 1 26 (va_A [(d0, .inr (1, [.null, .int (nI (0))]))] sz) := by
  refine Met.ofW (cc := cX0_init) (maxL := 1) (ret := none) (by decide) rfl ?_
  intro zp ze s m args below meth zc s₁ B hml hv
  obtain ⟨hargs, hsz, hP, hK, hD0⟩ := hv
  have hx := B.exec
  have hb := B.bytes
  have hr := B.returns
  have hts := atoms_spec (ws := wsX0_init) B.pre
  have hown : s.vm.findClass RX0 = some m.cls := findClass_of_methodNamed B.named
  have hlocks := B.notSynchronized
  have hin : meth.name = "<init>" := (name_of_methodNamed B.named B.method).1
  subst hsz
  obtain ⟨Q, hQ⟩ : ∃ Q, Q = MQ below (va_Qv (fun u : Nat => True) (fun u t => va_P (dC, dI) vwCl [(d0, .inr (1, [.ref u, .int (nI (1))])), (u, .inl (cI, 26, .inl (fun j => nI (((fun _ => 0)) j))))] t.heap ∧ va_K (dC, dI) vwCl [(cI, .int)] t ∧ va_D (va_A [(d0, .inr (1, [.null, .int (nI (0))]))] s.heap.size) [(d0, .inr (1, [.ref u, .int (nI (1))])), (u, .inl (cI, 26, .inl (fun j => nI (((fun _ => 0)) j))))]) (va_A [(d0, .inr (1, [.null, .int (nI (0))]))] s.heap.size)) args s 1 26 (va_A [(d0, .inr (1, [.null, .int (nI (0))]))] s.heap.size) := ⟨_, rfl⟩
  rw [← hQ]
  have hD := hD0.self (sz := s.heap.size)
  generalize hAe : (va_A [(d0, .inr (1, [.null, .int (nI (0))]))] s.heap.size) = A at hD hQ
  have hA : ∀ q : Nat, s.heap.size ≤ q → A q := fun q h => by rw [← hAe]; exact Or.inr h
  have hS : va_S A s.heap s.heap [] := va_S.rf
  have hl := lv_entry ([.ref d0]) (n := 1) (Nat.le_of_ble_eq_true rfl)
  generalize hen : entryFrame m args 1 = fr
  rw [hargs, lg_entry_eq] at hen
  subst hen
  generalize (lg_sl ([.ref d0]) ++ List.replicate (1 - (lg_sl ([.ref d0])).length) Slot.unset).toArray = ls at hl ⊢
  have hl : lv_has ls 1 [(0, .ref d0)] := hl
  have hinX0 : ∀ w ∈ wsX00, w ∈ wsX0_init := by decide +kernel
  have hf11 := hts (.fieldLink RX0 11 "LightRows$Decimal" "digits" "[I") (by decide +kernel)
  have hf15 := hts (.fieldLink RX0 15 "LightRows$Decimal" "length" "I") (by decide +kernel)
  refine lv_aload_n hx hb dX0_init_0 rfl (lv_at hl 0 rfl) ?_
  refine W.objInit hx hb hown (hts (.methodLink RX0 3 objectInit) (by decide +kernel)) (hts (.instanceMethod objectInit) (by decide +kernel)) (hts (.code objectInit ⟨#[0xb1]⟩ 1 none) (List.mem_of_getElem? (i := 3) rfl)) rfl (by rw [hml]; exact hl.1) rfl dX0_init_1 (Nat.le_of_ble_eq_true rfl) (Nat.le_of_ble_eq_true rfl) ?_
  refine W.eq (g2 := F0 m 4 ls []) rfl ?_
  refine lv_aload_n hx hb dX0_init_4 rfl (lv_at hl 0 rfl) ?_
  refine lv_bipush (v := nI 26) hx hb dX0_init_5 (by decide) ?_
  refine va_newa (D := (dC, dI)) (atype := .int) (ty := .int) (N' := 26) (a0 := (26, .inl (fun j => nI ((fun _ => 0) j)))) hx hb (hts (.arrayClass .int) (by decide +kernel)) rfl hK hP hD hS hA (fun _ => rfl) (nI_nneg (by omega)) (nI_clamp (by omega)) (by show 26 * 4 ≤ 536870912; omega) (Nat.le_of_ble_eq_true rfl) (by show 0 + 26 ≤ 26; omega) dX0_init_7 (fun e0 cN H hK hP hD hS => ?_)
  refine W.widen (k := 1) (n := 26) (by omega) (by omega) ?_
  obtain rfl := kK_eq hK (Or.inl rfl) 1 0 rfl rfl
  have hK := hK.sub (tys' := [(cI, .int)]) [0] rfl
  have hP : va_P (dC, dI) vwCl [(d0, .inr (1, [.null, .int (nI (0))])), (e0, .inl (cI, 26, .inl (fun j => nI (((fun _ => 0)) j))))] H := hP
  have hD : va_D A [(d0, .inr (1, [.null, .int (nI (0))])), (e0, .inl (cI, 26, .inl (fun j => nI (((fun _ => 0)) j))))] := hD
  refine va_putF (D := (dC, dI)) (ci := 1) (v := .ref e0) (ty := (.array .int)) (C := RX0) (T := TX0) (N := 2) hx hb hts hinX0 tyX0 tyX0_ok nmX0 hown hK hP hD hS 0 rfl rfl 0 (by decide) hf11 (fun _ h9 => h9) rfl hin rfl (by decide +kernel) rfl rfl (Nat.le_of_ble_eq_true rfl) dX0_init_9 (fun H locs hP hD hS => ?_)
  have hP : va_P (dC, dI) vwCl [(d0, .inr (1, [.ref e0, .int (nI (0))])), (e0, .inl (cI, 26, .inl (fun j => nI (((fun _ => 0)) j))))] H := hP
  have hD : va_D A [(d0, .inr (1, [.ref e0, .int (nI (0))])), (e0, .inl (cI, 26, .inl (fun j => nI (((fun _ => 0)) j))))] := hD
  refine lv_aload_n hx hb dX0_init_12 rfl (lv_at hl 0 rfl) ?_
  refine lv_iconst (v := nI 1) hx hb dX0_init_13 (by decide) ?_
  refine va_put (D := (dC, dI)) (ci := 1) (v := .int (nI (1))) (ty := .int) (C := RX0) (T := TX0) (N := 2) hx hb hts hinX0 tyX0 tyX0_ok nmX0 hown hK hP hD hS 0 rfl rfl 1 (by decide) hf15 (fun _ h9 => h9) rfl (by decide +kernel) rfl rfl (Nat.le_of_ble_eq_true rfl) dX0_init_14 (fun H locs hP hD hS => ?_)
  have hP : va_P (dC, dI) vwCl [(d0, .inr (1, [.ref e0, .int (nI (1))])), (e0, .inl (cI, 26, .inl (fun j => nI (((fun _ => 0)) j))))] H := hP
  have hD : va_D A [(d0, .inr (1, [.ref e0, .int (nI (1))])), (e0, .inl (cI, 26, .inl (fun j => nI (((fun _ => 0)) j))))] := hD
  rw [hQ]
  exact W.vret hx hb hr (fun t ht hW => ⟨⟨e0, rfl, trivial, by rw [ht]; exact hP, va_K.moved hW.alike hK, hD⟩, hS.F ht⟩) hS.2.2 dX0_init_17

set_option maxHeartbeats 4000000 in
set_option maxRecDepth 100000 in
theorem c_X2_init (l : Launch) (dC : Nat → ClassId) (dI : Nat → Nat → Nat) (sz : Nat) (g0 n q : Nat) (cI : ClassId) (hn : n < 31) : Met l yX2_init wsX2_init ({ frames := 1, cells := 3, slots := 90, locals := 12 }) (va_Pc [.ref g0, .int (nI (n)), .int (nI (q))] (fun U => U.heap.size = sz ∧ va_P (dC, dI) vwCl [(g0, .inr (3, [.int (nI (0)), .int (nI (0)), .null, .null, .null, .int (nI (0))]))] U.heap ∧ va_K (dC, dI) vwCl [(cI, .int)] U ∧ va_D (fun _ => True) [(g0, .inr (3, [.int (nI (0)), .int (nI (0)), .null, .null, .null, .int (nI (0))]))])) (va_Qv (fun u : Nat × Nat × Nat => True) (fun u t => va_P (dC, dI) vwCl [(g0, .inr (3, [.int (nI (n)), .int (nI (q)), .ref u.1, .ref u.2.1, .ref u.2.2, .int ((-1))])), ((u.1), .inl (cI, n, .inl (fun j => nI (((fun _ => 0)) j)))), ((u.2.1), .inl (cI, n, .inl (fun j => nI (((fun _ => 0)) j)))), ((u.2.2), .inl (cI, n, .inl (fun j => nI (((fun _ => 0)) j))))] t.heap ∧ va_K (dC, dI) vwCl [(cI, .int)] t ∧ va_D (va_A [(g0, .inr (3, [.int (nI (0)), .int (nI (0)), .null, .null, .null, .int (nI (0))]))] sz) [(g0, .inr (3, [.int (nI (n)), .int (nI (q)), .ref u.1, .ref u.2.1, .ref u.2.2, .int ((-1))])), ((u.1), .inl (cI, n, .inl (fun j => nI (((fun _ => 0)) j)))), ((u.2.1), .inl (cI, n, .inl (fun j => nI (((fun _ => 0)) j)))), ((u.2.2), .inl (cI, n, .inl (fun j => nI (((fun _ => 0)) j))))]) (va_A [(g0, .inr (3, [.int (nI (0)), .int (nI (0)), .null, .null, .null, .int (nI (0))]))] sz)) 3 90 (va_A [(g0, .inr (3, [.int (nI (0)), .int (nI (0)), .null, .null, .null, .int (nI (0))]))] sz) := by
  refine Met.ofW (cc := cX2_init) (maxL := 3) (ret := none) (by decide) rfl ?_
  intro zp ze s m args below meth zc s₁ B hml hv
  obtain ⟨hargs, hsz, hP, hK, hD0⟩ := hv
  have hx := B.exec
  have hb := B.bytes
  have hr := B.returns
  have hts := atoms_spec (ws := wsX2_init) B.pre
  have hown : s.vm.findClass RX2 = some m.cls := findClass_of_methodNamed B.named
  have hlocks := B.notSynchronized
  have hin : meth.name = "<init>" := (name_of_methodNamed B.named B.method).1
  subst hsz
  obtain ⟨Q, hQ⟩ : ∃ Q, Q = MQ below (va_Qv (fun u : Nat × Nat × Nat => True) (fun u t => va_P (dC, dI) vwCl [(g0, .inr (3, [.int (nI (n)), .int (nI (q)), .ref u.1, .ref u.2.1, .ref u.2.2, .int ((-1))])), ((u.1), .inl (cI, n, .inl (fun j => nI (((fun _ => 0)) j)))), ((u.2.1), .inl (cI, n, .inl (fun j => nI (((fun _ => 0)) j)))), ((u.2.2), .inl (cI, n, .inl (fun j => nI (((fun _ => 0)) j))))] t.heap ∧ va_K (dC, dI) vwCl [(cI, .int)] t ∧ va_D (va_A [(g0, .inr (3, [.int (nI (0)), .int (nI (0)), .null, .null, .null, .int (nI (0))]))] s.heap.size) [(g0, .inr (3, [.int (nI (n)), .int (nI (q)), .ref u.1, .ref u.2.1, .ref u.2.2, .int ((-1))])), ((u.1), .inl (cI, n, .inl (fun j => nI (((fun _ => 0)) j)))), ((u.2.1), .inl (cI, n, .inl (fun j => nI (((fun _ => 0)) j)))), ((u.2.2), .inl (cI, n, .inl (fun j => nI (((fun _ => 0)) j))))]) (va_A [(g0, .inr (3, [.int (nI (0)), .int (nI (0)), .null, .null, .null, .int (nI (0))]))] s.heap.size)) args s 3 90 (va_A [(g0, .inr (3, [.int (nI (0)), .int (nI (0)), .null, .null, .null, .int (nI (0))]))] s.heap.size) := ⟨_, rfl⟩
  rw [← hQ]
  have hD := hD0.self (sz := s.heap.size)
  generalize hAe : (va_A [(g0, .inr (3, [.int (nI (0)), .int (nI (0)), .null, .null, .null, .int (nI (0))]))] s.heap.size) = A at hD hQ
  have hA : ∀ q : Nat, s.heap.size ≤ q → A q := fun q h => by rw [← hAe]; exact Or.inr h
  have hS : va_S A s.heap s.heap [] := va_S.rf
  have hl := lv_entry ([.ref g0, .int (nI (n)), .int (nI (q))]) (n := 3) (Nat.le_of_ble_eq_true rfl)
  generalize hen : entryFrame m args 3 = fr
  rw [hargs, lg_entry_eq] at hen
  subst hen
  generalize (lg_sl ([.ref g0, .int (nI (n)), .int (nI (q))]) ++ List.replicate (3 - (lg_sl ([.ref g0, .int (nI (n)), .int (nI (q))])).length) Slot.unset).toArray = ls at hl ⊢
  have hl : lv_has ls 3 [(0, .ref g0), (1, .int (nI (n))), (2, .int (nI (q)))] := hl
  have hinX2 : ∀ w ∈ wsX20, w ∈ wsX2_init := by decide +kernel
  have hf9 := hts (.fieldLink RX2 9 "LightRows$Search" "size" "I") (by decide +kernel)
  have hf15 := hts (.fieldLink RX2 15 "LightRows$Search" "modulus" "I") (by decide +kernel)
  have hf18 := hts (.fieldLink RX2 18 "LightRows$Search" "tried" "[I") (by decide +kernel)
  have hf22 := hts (.fieldLink RX2 22 "LightRows$Search" "least" "[I") (by decide +kernel)
  have hf25 := hts (.fieldLink RX2 25 "LightRows$Search" "turns" "[I") (by decide +kernel)
  have hf28 := hts (.fieldLink RX2 28 "LightRows$Search" "total" "I") (by decide +kernel)
  refine lv_aload_n hx hb dX2_init_0 rfl (lv_at hl 0 rfl) ?_
  refine W.objInit hx hb hown (hts (.methodLink RX2 3 objectInit) (by decide +kernel)) (hts (.instanceMethod objectInit) (by decide +kernel)) (hts (.code objectInit ⟨#[0xb1]⟩ 1 none) (List.mem_of_getElem? (i := 3) rfl)) rfl (by rw [hml]; exact hl.1) rfl dX2_init_1 (Nat.le_of_ble_eq_true rfl) (Nat.le_of_ble_eq_true rfl) ?_
  refine W.eq (g2 := F0 m 4 ls []) rfl ?_
  refine lv_aload_n hx hb dX2_init_4 rfl (lv_at hl 0 rfl) ?_
  refine lv_iload_n hx hb dX2_init_5 rfl (lv_at hl 1 rfl) ?_
  refine va_putF (D := (dC, dI)) (ci := 3) (v := .int (nI (n))) (ty := .int) (C := RX2) (T := TX2) (N := 6) hx hb hts hinX2 tyX2 tyX2_ok nmX2 hown hK hP hD hS 0 rfl rfl 0 (by decide) hf9 (fun _ h9 => h9) rfl hin rfl (by decide +kernel) rfl rfl (Nat.le_of_ble_eq_true rfl) dX2_init_6 (fun H locs hP hD hS => ?_)
  have hP : va_P (dC, dI) vwCl [(g0, .inr (3, [.int (nI (n)), .int (nI (0)), .null, .null, .null, .int (nI (0))]))] H := hP
  have hD : va_D A [(g0, .inr (3, [.int (nI (n)), .int (nI (0)), .null, .null, .null, .int (nI (0))]))] := hD
  refine lv_aload_n hx hb dX2_init_9 rfl (lv_at hl 0 rfl) ?_
  refine lv_iload_n hx hb dX2_init_10 rfl (lv_at hl 2 rfl) ?_
  refine va_putF (D := (dC, dI)) (ci := 3) (v := .int (nI (q))) (ty := .int) (C := RX2) (T := TX2) (N := 6) hx hb hts hinX2 tyX2 tyX2_ok nmX2 hown hK hP hD hS 0 rfl rfl 1 (by decide) hf15 (fun _ h9 => h9) rfl hin rfl (by decide +kernel) rfl rfl (Nat.le_of_ble_eq_true rfl) dX2_init_11 (fun H locs hP hD hS => ?_)
  have hP : va_P (dC, dI) vwCl [(g0, .inr (3, [.int (nI (n)), .int (nI (q)), .null, .null, .null, .int (nI (0))]))] H := hP
  have hD : va_D A [(g0, .inr (3, [.int (nI (n)), .int (nI (q)), .null, .null, .null, .int (nI (0))]))] := hD
  refine lv_aload_n hx hb dX2_init_14 rfl (lv_at hl 0 rfl) ?_
  refine lv_iload_n hx hb dX2_init_15 rfl (lv_at hl 1 rfl) ?_
  refine va_newa (D := (dC, dI)) (atype := .int) (ty := .int) (N' := n) (a0 := (n, .inl (fun j => nI ((fun _ => 0) j)))) hx hb (hts (.arrayClass .int) (by decide +kernel)) rfl hK hP hD hS hA (fun _ => rfl) (nI_nneg (by omega)) (nI_clamp (by omega)) (by show n * 4 ≤ 536870912; omega) (Nat.le_of_ble_eq_true rfl) (by show 0 + n ≤ 90; omega) dX2_init_16 (fun e1 cN H hK hP hD hS => ?_)
  refine W.widen (k := 1) (n := 30) (by omega) (by omega) ?_
  obtain rfl := kK_eq hK (Or.inl rfl) 1 0 rfl rfl
  have hK := hK.sub (tys' := [(cI, .int)]) [0] rfl
  have hP : va_P (dC, dI) vwCl [(g0, .inr (3, [.int (nI (n)), .int (nI (q)), .null, .null, .null, .int (nI (0))])), (e1, .inl (cI, n, .inl (fun j => nI (((fun _ => 0)) j))))] H := hP
  have hD : va_D A [(g0, .inr (3, [.int (nI (n)), .int (nI (q)), .null, .null, .null, .int (nI (0))])), (e1, .inl (cI, n, .inl (fun j => nI (((fun _ => 0)) j))))] := hD
  refine va_putF (D := (dC, dI)) (ci := 3) (v := .ref e1) (ty := (.array .int)) (C := RX2) (T := TX2) (N := 6) hx hb hts hinX2 tyX2 tyX2_ok nmX2 hown hK hP hD hS 0 rfl rfl 2 (by decide) hf18 (fun _ h9 => h9) rfl hin rfl (by decide +kernel) rfl rfl (Nat.le_of_ble_eq_true rfl) dX2_init_18 (fun H locs hP hD hS => ?_)
  have hP : va_P (dC, dI) vwCl [(g0, .inr (3, [.int (nI (n)), .int (nI (q)), .ref e1, .null, .null, .int (nI (0))])), (e1, .inl (cI, n, .inl (fun j => nI (((fun _ => 0)) j))))] H := hP
  have hD : va_D A [(g0, .inr (3, [.int (nI (n)), .int (nI (q)), .ref e1, .null, .null, .int (nI (0))])), (e1, .inl (cI, n, .inl (fun j => nI (((fun _ => 0)) j))))] := hD
  refine lv_aload_n hx hb dX2_init_21 rfl (lv_at hl 0 rfl) ?_
  refine lv_iload_n hx hb dX2_init_22 rfl (lv_at hl 1 rfl) ?_
  refine va_newa (D := (dC, dI)) (atype := .int) (ty := .int) (N' := n) (a0 := (n, .inl (fun j => nI ((fun _ => 0) j)))) hx hb (hts (.arrayClass .int) (by decide +kernel)) rfl hK hP hD hS hA (fun _ => rfl) (nI_nneg (by omega)) (nI_clamp (by omega)) (by show n * 4 ≤ 536870912; omega) (Nat.le_of_ble_eq_true rfl) (by show 30 + n ≤ 90; omega) dX2_init_23 (fun e2 cN H hK hP hD hS => ?_)
  refine W.widen (k := 2) (n := 60) (by omega) (by omega) ?_
  obtain rfl := kK_eq hK (Or.inl rfl) 1 0 rfl rfl
  have hK := hK.sub (tys' := [(cI, .int)]) [0] rfl
  have hP : va_P (dC, dI) vwCl [(g0, .inr (3, [.int (nI (n)), .int (nI (q)), .ref e1, .null, .null, .int (nI (0))])), (e1, .inl (cI, n, .inl (fun j => nI (((fun _ => 0)) j)))), (e2, .inl (cI, n, .inl (fun j => nI (((fun _ => 0)) j))))] H := hP
  have hD : va_D A [(g0, .inr (3, [.int (nI (n)), .int (nI (q)), .ref e1, .null, .null, .int (nI (0))])), (e1, .inl (cI, n, .inl (fun j => nI (((fun _ => 0)) j)))), (e2, .inl (cI, n, .inl (fun j => nI (((fun _ => 0)) j))))] := hD
  refine va_putF (D := (dC, dI)) (ci := 3) (v := .ref e2) (ty := (.array .int)) (C := RX2) (T := TX2) (N := 6) hx hb hts hinX2 tyX2 tyX2_ok nmX2 hown hK hP hD hS 0 rfl rfl 3 (by decide) hf22 (fun _ h9 => h9) rfl hin rfl (by decide +kernel) rfl rfl (Nat.le_of_ble_eq_true rfl) dX2_init_25 (fun H locs hP hD hS => ?_)
  have hP : va_P (dC, dI) vwCl [(g0, .inr (3, [.int (nI (n)), .int (nI (q)), .ref e1, .ref e2, .null, .int (nI (0))])), (e1, .inl (cI, n, .inl (fun j => nI (((fun _ => 0)) j)))), (e2, .inl (cI, n, .inl (fun j => nI (((fun _ => 0)) j))))] H := hP
  have hD : va_D A [(g0, .inr (3, [.int (nI (n)), .int (nI (q)), .ref e1, .ref e2, .null, .int (nI (0))])), (e1, .inl (cI, n, .inl (fun j => nI (((fun _ => 0)) j)))), (e2, .inl (cI, n, .inl (fun j => nI (((fun _ => 0)) j))))] := hD
  refine lv_aload_n hx hb dX2_init_28 rfl (lv_at hl 0 rfl) ?_
  refine lv_iload_n hx hb dX2_init_29 rfl (lv_at hl 1 rfl) ?_
  refine va_newa (D := (dC, dI)) (atype := .int) (ty := .int) (N' := n) (a0 := (n, .inl (fun j => nI ((fun _ => 0) j)))) hx hb (hts (.arrayClass .int) (by decide +kernel)) rfl hK hP hD hS hA (fun _ => rfl) (nI_nneg (by omega)) (nI_clamp (by omega)) (by show n * 4 ≤ 536870912; omega) (Nat.le_of_ble_eq_true rfl) (by show 60 + n ≤ 90; omega) dX2_init_30 (fun e3 cN H hK hP hD hS => ?_)
  refine W.widen (k := 3) (n := 90) (by omega) (by omega) ?_
  obtain rfl := kK_eq hK (Or.inl rfl) 1 0 rfl rfl
  have hK := hK.sub (tys' := [(cI, .int)]) [0] rfl
  have hP : va_P (dC, dI) vwCl [(g0, .inr (3, [.int (nI (n)), .int (nI (q)), .ref e1, .ref e2, .null, .int (nI (0))])), (e1, .inl (cI, n, .inl (fun j => nI (((fun _ => 0)) j)))), (e2, .inl (cI, n, .inl (fun j => nI (((fun _ => 0)) j)))), (e3, .inl (cI, n, .inl (fun j => nI (((fun _ => 0)) j))))] H := hP
  have hD : va_D A [(g0, .inr (3, [.int (nI (n)), .int (nI (q)), .ref e1, .ref e2, .null, .int (nI (0))])), (e1, .inl (cI, n, .inl (fun j => nI (((fun _ => 0)) j)))), (e2, .inl (cI, n, .inl (fun j => nI (((fun _ => 0)) j)))), (e3, .inl (cI, n, .inl (fun j => nI (((fun _ => 0)) j))))] := hD
  refine va_putF (D := (dC, dI)) (ci := 3) (v := .ref e3) (ty := (.array .int)) (C := RX2) (T := TX2) (N := 6) hx hb hts hinX2 tyX2 tyX2_ok nmX2 hown hK hP hD hS 0 rfl rfl 4 (by decide) hf25 (fun _ h9 => h9) rfl hin rfl (by decide +kernel) rfl rfl (Nat.le_of_ble_eq_true rfl) dX2_init_32 (fun H locs hP hD hS => ?_)
  have hP : va_P (dC, dI) vwCl [(g0, .inr (3, [.int (nI (n)), .int (nI (q)), .ref e1, .ref e2, .ref e3, .int (nI (0))])), (e1, .inl (cI, n, .inl (fun j => nI (((fun _ => 0)) j)))), (e2, .inl (cI, n, .inl (fun j => nI (((fun _ => 0)) j)))), (e3, .inl (cI, n, .inl (fun j => nI (((fun _ => 0)) j))))] H := hP
  have hD : va_D A [(g0, .inr (3, [.int (nI (n)), .int (nI (q)), .ref e1, .ref e2, .ref e3, .int (nI (0))])), (e1, .inl (cI, n, .inl (fun j => nI (((fun _ => 0)) j)))), (e2, .inl (cI, n, .inl (fun j => nI (((fun _ => 0)) j)))), (e3, .inl (cI, n, .inl (fun j => nI (((fun _ => 0)) j))))] := hD
  refine lv_aload_n hx hb dX2_init_35 rfl (lv_at hl 0 rfl) ?_
  refine lv_iconst (v := (-1)) hx hb dX2_init_36 (by decide) ?_
  refine va_put (D := (dC, dI)) (ci := 3) (v := .int ((-1))) (ty := .int) (C := RX2) (T := TX2) (N := 6) hx hb hts hinX2 tyX2 tyX2_ok nmX2 hown hK hP hD hS 0 rfl rfl 5 (by decide) hf28 (fun _ h9 => h9) rfl (by decide +kernel) rfl rfl (Nat.le_of_ble_eq_true rfl) dX2_init_37 (fun H locs hP hD hS => ?_)
  have hP : va_P (dC, dI) vwCl [(g0, .inr (3, [.int (nI (n)), .int (nI (q)), .ref e1, .ref e2, .ref e3, .int ((-1))])), (e1, .inl (cI, n, .inl (fun j => nI (((fun _ => 0)) j)))), (e2, .inl (cI, n, .inl (fun j => nI (((fun _ => 0)) j)))), (e3, .inl (cI, n, .inl (fun j => nI (((fun _ => 0)) j))))] H := hP
  have hD : va_D A [(g0, .inr (3, [.int (nI (n)), .int (nI (q)), .ref e1, .ref e2, .ref e3, .int ((-1))])), (e1, .inl (cI, n, .inl (fun j => nI (((fun _ => 0)) j)))), (e2, .inl (cI, n, .inl (fun j => nI (((fun _ => 0)) j)))), (e3, .inl (cI, n, .inl (fun j => nI (((fun _ => 0)) j))))] := hD
  rw [hQ]
  exact W.vret hx hb hr (fun t ht hW => ⟨⟨(e1, e2, e3), rfl, trivial, by rw [ht]; exact hP, va_K.moved hW.alike hK, hD⟩, hS.F ht⟩) hS.2.2 dX2_init_40

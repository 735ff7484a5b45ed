set_option maxHeartbeats 4000000 in
set_option maxRecDepth 100000 in
theorem c_X4_thrown (l : Launch) (dC : Nat → ClassId) (dI : Nat → Nat → Nat) (sz : Nat) (m0 aJ aS aT aW aR aP aH aK aE aY aN aQ aB aI aD n q rk : Nat) (th : Int32) (kn : Bool) (cI cZ : ClassId)  : Met l yX4_thrown wsX4_thrown ({ frames := 0, cells := 0, slots := 0, locals := 0 }) (va_Pc [.ref m0] (fun U => U.heap.size = sz ∧ va_P (dC, dI) vwCl [(m0, .inr (5, [.int (th), .int (nI (n)), .int (nI (q)), .ref aJ, .ref aS, .ref aT, .ref aW, .int (bI kn), .int (nI (rk)), .ref aR, .ref aP, .ref aH, .ref aK, .ref aE, .ref aY, .ref aN, .ref aQ, .ref aB, .ref aI, .ref aD]))] U.heap ∧ va_K (dC, dI) vwCl [(cI, .int), (cZ, .boolean)] U ∧ va_D (fun _ => True) [(m0, .inr (5, [.int (th), .int (nI (n)), .int (nI (q)), .ref aJ, .ref aS, .ref aT, .ref aW, .int (bI kn), .int (nI (rk)), .ref aR, .ref aP, .ref aH, .ref aK, .ref aE, .ref aY, .ref aN, .ref aQ, .ref aB, .ref aI, .ref aD]))])) (va_Qi (fun (z : Int32) (_ : Unit) => z = th) (fun _ t => va_P (dC, dI) vwCl [(m0, .inr (5, [.int (th), .int (nI (n)), .int (nI (q)), .ref aJ, .ref aS, .ref aT, .ref aW, .int (bI kn), .int (nI (rk)), .ref aR, .ref aP, .ref aH, .ref aK, .ref aE, .ref aY, .ref aN, .ref aQ, .ref aB, .ref aI, .ref aD]))] t.heap ∧ va_K (dC, dI) vwCl [(cI, .int), (cZ, .boolean)] t ∧ va_D (va_A [(m0, .inr (5, [.int (th), .int (nI (n)), .int (nI (q)), .ref aJ, .ref aS, .ref aT, .ref aW, .int (bI kn), .int (nI (rk)), .ref aR, .ref aP, .ref aH, .ref aK, .ref aE, .ref aY, .ref aN, .ref aQ, .ref aB, .ref aI, .ref aD]))] sz) [(m0, .inr (5, [.int (th), .int (nI (n)), .int (nI (q)), .ref aJ, .ref aS, .ref aT, .ref aW, .int (bI kn), .int (nI (rk)), .ref aR, .ref aP, .ref aH, .ref aK, .ref aE, .ref aY, .ref aN, .ref aQ, .ref aB, .ref aI, .ref aD]))]) (va_A [(m0, .inr (5, [.int (th), .int (nI (n)), .int (nI (q)), .ref aJ, .ref aS, .ref aT, .ref aW, .int (bI kn), .int (nI (rk)), .ref aR, .ref aP, .ref aH, .ref aK, .ref aE, .ref aY, .ref aN, .ref aQ, .ref aB, .ref aI, .ref aD]))] sz)) 0 0 (va_A [(m0, .inr (5, [.int (th), .int (nI (n)), .int (nI (q)), .ref aJ, .ref aS, .ref aT, .ref aW, .int (bI kn), .int (nI (rk)), .ref aR, .ref aP, .ref aH, .ref aK, .ref aE, .ref aY, .ref aN, .ref aQ, .ref aB, .ref aI, .ref aD]))] sz) := by
  refine Met.ofW (cc := cX4_thrown) (maxL := 1) (ret := (some .int)) (by decide) rfl ?_
  intro zp ze s m args below meth zc s₁ B hml hv
  obtain ⟨hargs, hsz, hP, hK, hD0⟩ := hv
  have hx := B.exec
  have hb := B.bytes
  have hr := B.returns
  have hts := atoms_spec (ws := wsX4_thrown) B.pre
  have hown : s.vm.findClass RX4 = some m.cls := findClass_of_methodNamed B.named
  have hlocks := B.notSynchronized
  subst hsz
  obtain ⟨Q, hQ⟩ : ∃ Q, Q = MQ below (va_Qi (fun (z : Int32) (_ : Unit) => z = th) (fun _ t => va_P (dC, dI) vwCl [(m0, .inr (5, [.int (th), .int (nI (n)), .int (nI (q)), .ref aJ, .ref aS, .ref aT, .ref aW, .int (bI kn), .int (nI (rk)), .ref aR, .ref aP, .ref aH, .ref aK, .ref aE, .ref aY, .ref aN, .ref aQ, .ref aB, .ref aI, .ref aD]))] t.heap ∧ va_K (dC, dI) vwCl [(cI, .int), (cZ, .boolean)] t ∧ va_D (va_A [(m0, .inr (5, [.int (th), .int (nI (n)), .int (nI (q)), .ref aJ, .ref aS, .ref aT, .ref aW, .int (bI kn), .int (nI (rk)), .ref aR, .ref aP, .ref aH, .ref aK, .ref aE, .ref aY, .ref aN, .ref aQ, .ref aB, .ref aI, .ref aD]))] s.heap.size) [(m0, .inr (5, [.int (th), .int (nI (n)), .int (nI (q)), .ref aJ, .ref aS, .ref aT, .ref aW, .int (bI kn), .int (nI (rk)), .ref aR, .ref aP, .ref aH, .ref aK, .ref aE, .ref aY, .ref aN, .ref aQ, .ref aB, .ref aI, .ref aD]))]) (va_A [(m0, .inr (5, [.int (th), .int (nI (n)), .int (nI (q)), .ref aJ, .ref aS, .ref aT, .ref aW, .int (bI kn), .int (nI (rk)), .ref aR, .ref aP, .ref aH, .ref aK, .ref aE, .ref aY, .ref aN, .ref aQ, .ref aB, .ref aI, .ref aD]))] s.heap.size)) args s 0 0 (va_A [(m0, .inr (5, [.int (th), .int (nI (n)), .int (nI (q)), .ref aJ, .ref aS, .ref aT, .ref aW, .int (bI kn), .int (nI (rk)), .ref aR, .ref aP, .ref aH, .ref aK, .ref aE, .ref aY, .ref aN, .ref aQ, .ref aB, .ref aI, .ref aD]))] s.heap.size) := ⟨_, rfl⟩
  rw [← hQ]
  have hD := hD0.self (sz := s.heap.size)
  generalize hAe : (va_A [(m0, .inr (5, [.int (th), .int (nI (n)), .int (nI (q)), .ref aJ, .ref aS, .ref aT, .ref aW, .int (bI kn), .int (nI (rk)), .ref aR, .ref aP, .ref aH, .ref aK, .ref aE, .ref aY, .ref aN, .ref aQ, .ref aB, .ref aI, .ref aD]))] s.heap.size) = A at hD hQ
  have hA : ∀ q : Nat, s.heap.size ≤ q → A q := fun q h => by rw [← hAe]; exact Or.inr h
  have hS : va_S A s.heap s.heap [] := va_S.rf
  have hl := lv_entry ([.ref m0]) (n := 1) (Nat.le_of_ble_eq_true rfl)
  generalize hen : entryFrame m args 1 = fr
  rw [hargs, lg_entry_eq] at hen
  subst hen
  generalize (lg_sl ([.ref m0]) ++ List.replicate (1 - (lg_sl ([.ref m0])).length) Slot.unset).toArray = ls at hl ⊢
  have hl : lv_has ls 1 [(0, .ref m0)] := hl
  have hinX4 : ∀ w ∈ wsX40, w ∈ wsX4_thrown := by decide +kernel
  have hf63 := hts (.fieldLink RX4 63 "LightRowsModel" "thrown" "I") (by decide +kernel)
  refine lv_aload_n hx hb dX4_thrown_0 rfl (lv_at hl 0 rfl) ?_
  refine va_get (D := (dC, dI)) (ci := 5) (v := .int (th)) (C := RX4) (T := TX4) (N := 20) hx hb hts hinX4 hown hK hP 0 rfl rfl 0 (by decide) hf63 (fun _ h9 => h9) rfl dX4_thrown_1 ?_
  rw [hQ]
  exact W.iret (v := th) hx hb hr (fun t ht hW => ⟨⟨_, (), rfl, rfl, by rw [ht]; exact hP, va_K.moved hW.alike hK, hD⟩, hS.F ht⟩) hS.2.2 dX4_thrown_4

set_option maxHeartbeats 4000000 in
set_option maxRecDepth 100000 in
theorem c_X4_fails (l : Launch) (dC : Nat → ClassId) (dI : Nat → Nat → Nat) (sz : Nat) (m0 aJ aS aT aW aR aP aH aK aE aY aN aQ aB aI aD n q rk : Nat) (th : Int32) (kn : Bool) (cI cZ : ClassId) (b : Bool)  : Met l yX4_fails wsX4_fails ({ frames := 0, cells := 0, slots := 0, locals := 0 }) (va_Pc [.ref m0, .int (bI b)] (fun U => U.heap.size = sz ∧ va_P (dC, dI) vwCl [(m0, .inr (5, [.int (th), .int (nI (n)), .int (nI (q)), .ref aJ, .ref aS, .ref aT, .ref aW, .int (bI kn), .int (nI (rk)), .ref aR, .ref aP, .ref aH, .ref aK, .ref aE, .ref aY, .ref aN, .ref aQ, .ref aB, .ref aI, .ref aD]))] U.heap ∧ va_K (dC, dI) vwCl [(cI, .int), (cZ, .boolean)] U ∧ va_D (fun _ => True) [(m0, .inr (5, [.int (th), .int (nI (n)), .int (nI (q)), .ref aJ, .ref aS, .ref aT, .ref aW, .int (bI kn), .int (nI (rk)), .ref aR, .ref aP, .ref aH, .ref aK, .ref aE, .ref aY, .ref aN, .ref aQ, .ref aB, .ref aI, .ref aD]))])) (va_Qi (fun (z : Int32) (_ : Unit) => z = bI b) (fun _ t => va_P (dC, dI) vwCl [(m0, .inr (5, [.int (bI b), .int (nI (n)), .int (nI (q)), .ref aJ, .ref aS, .ref aT, .ref aW, .int (bI kn), .int (nI (rk)), .ref aR, .ref aP, .ref aH, .ref aK, .ref aE, .ref aY, .ref aN, .ref aQ, .ref aB, .ref aI, .ref aD]))] t.heap ∧ va_K (dC, dI) vwCl [(cI, .int), (cZ, .boolean)] t ∧ va_D (va_A [(m0, .inr (5, [.int (th), .int (nI (n)), .int (nI (q)), .ref aJ, .ref aS, .ref aT, .ref aW, .int (bI kn), .int (nI (rk)), .ref aR, .ref aP, .ref aH, .ref aK, .ref aE, .ref aY, .ref aN, .ref aQ, .ref aB, .ref aI, .ref aD]))] sz) [(m0, .inr (5, [.int (bI b), .int (nI (n)), .int (nI (q)), .ref aJ, .ref aS, .ref aT, .ref aW, .int (bI kn), .int (nI (rk)), .ref aR, .ref aP, .ref aH, .ref aK, .ref aE, .ref aY, .ref aN, .ref aQ, .ref aB, .ref aI, .ref aD]))]) (va_A [(m0, .inr (5, [.int (th), .int (nI (n)), .int (nI (q)), .ref aJ, .ref aS, .ref aT, .ref aW, .int (bI kn), .int (nI (rk)), .ref aR, .ref aP, .ref aH, .ref aK, .ref aE, .ref aY, .ref aN, .ref aQ, .ref aB, .ref aI, .ref aD]))] sz)) 0 0 (va_A [(m0, .inr (5, [.int (th), .int (nI (n)), .int (nI (q)), .ref aJ, .ref aS, .ref aT, .ref aW, .int (bI kn), .int (nI (rk)), .ref aR, .ref aP, .ref aH, .ref aK, .ref aE, .ref aY, .ref aN, .ref aQ, .ref aB, .ref aI, .ref aD]))] sz) := by
  refine Met.ofW (cc := cX4_fails) (maxL := 2) (ret := (some .boolean)) (by decide) rfl ?_
  intro zp ze s m args below meth zc s₁ B hml hv
  obtain ⟨hargs, hsz, hP, hK, hD0⟩ := hv
  have hx := B.exec
  have hb := B.bytes
  have hr := B.returns
  have hts := atoms_spec (ws := wsX4_fails) B.pre
  have hown : s.vm.findClass RX4 = some m.cls := findClass_of_methodNamed B.named
  have hlocks := B.notSynchronized
  subst hsz
  obtain ⟨Q, hQ⟩ : ∃ Q, Q = MQ below (va_Qi (fun (z : Int32) (_ : Unit) => z = bI b) (fun _ t => va_P (dC, dI) vwCl [(m0, .inr (5, [.int (bI b), .int (nI (n)), .int (nI (q)), .ref aJ, .ref aS, .ref aT, .ref aW, .int (bI kn), .int (nI (rk)), .ref aR, .ref aP, .ref aH, .ref aK, .ref aE, .ref aY, .ref aN, .ref aQ, .ref aB, .ref aI, .ref aD]))] t.heap ∧ va_K (dC, dI) vwCl [(cI, .int), (cZ, .boolean)] t ∧ va_D (va_A [(m0, .inr (5, [.int (th), .int (nI (n)), .int (nI (q)), .ref aJ, .ref aS, .ref aT, .ref aW, .int (bI kn), .int (nI (rk)), .ref aR, .ref aP, .ref aH, .ref aK, .ref aE, .ref aY, .ref aN, .ref aQ, .ref aB, .ref aI, .ref aD]))] s.heap.size) [(m0, .inr (5, [.int (bI b), .int (nI (n)), .int (nI (q)), .ref aJ, .ref aS, .ref aT, .ref aW, .int (bI kn), .int (nI (rk)), .ref aR, .ref aP, .ref aH, .ref aK, .ref aE, .ref aY, .ref aN, .ref aQ, .ref aB, .ref aI, .ref aD]))]) (va_A [(m0, .inr (5, [.int (th), .int (nI (n)), .int (nI (q)), .ref aJ, .ref aS, .ref aT, .ref aW, .int (bI kn), .int (nI (rk)), .ref aR, .ref aP, .ref aH, .ref aK, .ref aE, .ref aY, .ref aN, .ref aQ, .ref aB, .ref aI, .ref aD]))] s.heap.size)) args s 0 0 (va_A [(m0, .inr (5, [.int (th), .int (nI (n)), .int (nI (q)), .ref aJ, .ref aS, .ref aT, .ref aW, .int (bI kn), .int (nI (rk)), .ref aR, .ref aP, .ref aH, .ref aK, .ref aE, .ref aY, .ref aN, .ref aQ, .ref aB, .ref aI, .ref aD]))] s.heap.size) := ⟨_, rfl⟩
  rw [← hQ]
  have hD := hD0.self (sz := s.heap.size)
  generalize hAe : (va_A [(m0, .inr (5, [.int (th), .int (nI (n)), .int (nI (q)), .ref aJ, .ref aS, .ref aT, .ref aW, .int (bI kn), .int (nI (rk)), .ref aR, .ref aP, .ref aH, .ref aK, .ref aE, .ref aY, .ref aN, .ref aQ, .ref aB, .ref aI, .ref aD]))] s.heap.size) = A at hD hQ
  have hA : ∀ q : Nat, s.heap.size ≤ q → A q := fun q h => by rw [← hAe]; exact Or.inr h
  have hS : va_S A s.heap s.heap [] := va_S.rf
  have hl := lv_entry ([.ref m0, .int (bI b)]) (n := 2) (Nat.le_of_ble_eq_true rfl)
  generalize hen : entryFrame m args 2 = fr
  rw [hargs, lg_entry_eq] at hen
  subst hen
  generalize (lg_sl ([.ref m0, .int (bI b)]) ++ List.replicate (2 - (lg_sl ([.ref m0, .int (bI b)])).length) Slot.unset).toArray = ls at hl ⊢
  have hl : lv_has ls 2 [(0, .ref m0), (1, .int (bI b))] := hl
  have hinX4 : ∀ w ∈ wsX40, w ∈ wsX4_fails := by decide +kernel
  have hf63 := hts (.fieldLink RX4 63 "LightRowsModel" "thrown" "I") (by decide +kernel)
  refine lv_aload_n hx hb dX4_fails_0 rfl (lv_at hl 0 rfl) ?_
  refine lv_iload_n hx hb dX4_fails_1 rfl (lv_at hl 1 rfl) ?_
  rcases hbb : b with _ | _
  · skip
    refine tp_i (y := nI 0) rfl ?_
    subst hbb
    refine lv_if_eq (tgt := 9) hx hb dX4_fails_2 (by decide) (fun c => ?_) (fun c => ?_)
    · skip
      have c : 0 = 0 := (nI_eq (a := 0) (b := 0) (by omega) (by omega)).mp c
      refine lv_iconst (v := nI 0) hx hb dX4_fails_9 (by decide) ?_
      refine va_put (D := (dC, dI)) (ci := 5) (v := .int (nI (0))) (ty := .int) (C := RX4) (T := TX4) (N := 20) hx hb hts hinX4 tyX4 tyX4_ok nmX4 hown hK hP hD hS 0 rfl rfl 0 (by decide) hf63 (fun _ h9 => h9) rfl (by decide +kernel) rfl rfl (Nat.le_of_ble_eq_true rfl) dX4_fails_10 (fun H locs hP hD hS => ?_)
      have hP : va_P (dC, dI) vwCl [(m0, .inr (5, [.int (nI (0)), .int (nI (n)), .int (nI (q)), .ref aJ, .ref aS, .ref aT, .ref aW, .int (bI kn), .int (nI (rk)), .ref aR, .ref aP, .ref aH, .ref aK, .ref aE, .ref aY, .ref aN, .ref aQ, .ref aB, .ref aI, .ref aD]))] H := hP
      have hD : va_D A [(m0, .inr (5, [.int (nI (0)), .int (nI (n)), .int (nI (q)), .ref aJ, .ref aS, .ref aT, .ref aW, .int (bI kn), .int (nI (rk)), .ref aR, .ref aP, .ref aH, .ref aK, .ref aE, .ref aY, .ref aN, .ref aQ, .ref aB, .ref aI, .ref aD]))] := hD
      refine lv_iload_n hx hb dX4_fails_13 rfl (lv_at hl 1 rfl) ?_
      rw [hQ]
      exact W.zret (v := bI false) (ty := .boolean) hx hb hr (bI_nar _) (fun t ht hW => ⟨⟨_, (), rfl, rfl, by rw [ht]; exact hP, va_K.moved hW.alike hK, hD⟩, hS.F ht⟩) hS.2.2 dX4_fails_14
    · skip
      have c : 0 ≠ 0 := fun h => c ((nI_eq (a := 0) (b := 0) (by omega) (by omega)).mpr h)
      exact absurd rfl c
  · skip
    refine tp_i (y := nI 1) rfl ?_
    subst hbb
    refine lv_if_eq (tgt := 9) hx hb dX4_fails_2 (by decide) (fun c => ?_) (fun c => ?_)
    · skip
      have c : 1 = 0 := (nI_eq (a := 1) (b := 0) (by omega) (by omega)).mp c
      exact absurd c (by decide)
    · skip
      have c : 1 ≠ 0 := fun h => c ((nI_eq (a := 1) (b := 0) (by omega) (by omega)).mpr h)
      refine lv_iconst (v := nI 1) hx hb dX4_fails_5 (by decide) ?_
      refine lv_goto (tgt := 10) hx hb dX4_fails_6 (by decide) ?_
      refine va_put (D := (dC, dI)) (ci := 5) (v := .int (nI (1))) (ty := .int) (C := RX4) (T := TX4) (N := 20) hx hb hts hinX4 tyX4 tyX4_ok nmX4 hown hK hP hD hS 0 rfl rfl 0 (by decide) hf63 (fun _ h9 => h9) rfl (by decide +kernel) rfl rfl (Nat.le_of_ble_eq_true rfl) dX4_fails_10 (fun H locs hP hD hS => ?_)
      have hP : va_P (dC, dI) vwCl [(m0, .inr (5, [.int (nI (1)), .int (nI (n)), .int (nI (q)), .ref aJ, .ref aS, .ref aT, .ref aW, .int (bI kn), .int (nI (rk)), .ref aR, .ref aP, .ref aH, .ref aK, .ref aE, .ref aY, .ref aN, .ref aQ, .ref aB, .ref aI, .ref aD]))] H := hP
      have hD : va_D A [(m0, .inr (5, [.int (nI (1)), .int (nI (n)), .int (nI (q)), .ref aJ, .ref aS, .ref aT, .ref aW, .int (bI kn), .int (nI (rk)), .ref aR, .ref aP, .ref aH, .ref aK, .ref aE, .ref aY, .ref aN, .ref aQ, .ref aB, .ref aI, .ref aD]))] := hD
      refine lv_iload_n hx hb dX4_fails_13 rfl (lv_at hl 1 rfl) ?_
      rw [hQ]
      exact W.zret (v := bI true) (ty := .boolean) hx hb hr (bI_nar _) (fun t ht hW => ⟨⟨_, (), rfl, rfl, by rw [ht]; exact hP, va_K.moved hW.alike hK, hD⟩, hS.F ht⟩) hS.2.2 dX4_fails_14

set_option maxHeartbeats 4000000 in
set_option maxRecDepth 100000 in
theorem c_X4_isLamp (l : Launch) (dC : Nat → ClassId) (dI : Nat → Nat → Nat) (sz : Nat) (m0 aJ aS aT aW aR aP aH aK aE aY aN aQ aB aI aD n q rk : Nat) (th : Int32) (kn : Bool) (cI cZ : ClassId) (x : Int32) (hn : n < 31) : Met l yX4_isLamp wsX4_isLamp ({ frames := 0, cells := 0, slots := 0, locals := 0 }) (va_Pc [.ref m0, .int (x)] (fun U => U.heap.size = sz ∧ va_P (dC, dI) vwCl [(m0, .inr (5, [.int (th), .int (nI (n)), .int (nI (q)), .ref aJ, .ref aS, .ref aT, .ref aW, .int (bI kn), .int (nI (rk)), .ref aR, .ref aP, .ref aH, .ref aK, .ref aE, .ref aY, .ref aN, .ref aQ, .ref aB, .ref aI, .ref aD]))] U.heap ∧ va_K (dC, dI) vwCl [(cI, .int), (cZ, .boolean)] U ∧ va_D (fun _ => True) [(m0, .inr (5, [.int (th), .int (nI (n)), .int (nI (q)), .ref aJ, .ref aS, .ref aT, .ref aW, .int (bI kn), .int (nI (rk)), .ref aR, .ref aP, .ref aH, .ref aK, .ref aE, .ref aY, .ref aN, .ref aQ, .ref aB, .ref aI, .ref aD]))])) (va_Qi (fun (z : Int32) (_ : Unit) => z = bI (inb n x)) (fun _ t => va_P (dC, dI) vwCl [(m0, .inr (5, [.int (th), .int (nI (n)), .int (nI (q)), .ref aJ, .ref aS, .ref aT, .ref aW, .int (bI kn), .int (nI (rk)), .ref aR, .ref aP, .ref aH, .ref aK, .ref aE, .ref aY, .ref aN, .ref aQ, .ref aB, .ref aI, .ref aD]))] t.heap ∧ va_K (dC, dI) vwCl [(cI, .int), (cZ, .boolean)] t ∧ va_D (va_A [(m0, .inr (5, [.int (th), .int (nI (n)), .int (nI (q)), .ref aJ, .ref aS, .ref aT, .ref aW, .int (bI kn), .int (nI (rk)), .ref aR, .ref aP, .ref aH, .ref aK, .ref aE, .ref aY, .ref aN, .ref aQ, .ref aB, .ref aI, .ref aD]))] sz) [(m0, .inr (5, [.int (th), .int (nI (n)), .int (nI (q)), .ref aJ, .ref aS, .ref aT, .ref aW, .int (bI kn), .int (nI (rk)), .ref aR, .ref aP, .ref aH, .ref aK, .ref aE, .ref aY, .ref aN, .ref aQ, .ref aB, .ref aI, .ref aD]))]) (va_A [(m0, .inr (5, [.int (th), .int (nI (n)), .int (nI (q)), .ref aJ, .ref aS, .ref aT, .ref aW, .int (bI kn), .int (nI (rk)), .ref aR, .ref aP, .ref aH, .ref aK, .ref aE, .ref aY, .ref aN, .ref aQ, .ref aB, .ref aI, .ref aD]))] sz)) 0 0 (va_A [(m0, .inr (5, [.int (th), .int (nI (n)), .int (nI (q)), .ref aJ, .ref aS, .ref aT, .ref aW, .int (bI kn), .int (nI (rk)), .ref aR, .ref aP, .ref aH, .ref aK, .ref aE, .ref aY, .ref aN, .ref aQ, .ref aB, .ref aI, .ref aD]))] sz) := by
  refine Met.ofW (cc := cX4_isLamp) (maxL := 2) (ret := (some .boolean)) (by decide) rfl ?_
  intro zp ze s m args below meth zc s₁ B hml hv
  obtain ⟨hargs, hsz, hP, hK, hD0⟩ := hv
  have hx := B.exec
  have hb := B.bytes
  have hr := B.returns
  have hts := atoms_spec (ws := wsX4_isLamp) B.pre
  have hown : s.vm.findClass RX4 = some m.cls := findClass_of_methodNamed B.named
  have hlocks := B.notSynchronized
  subst hsz
  obtain ⟨Q, hQ⟩ : ∃ Q, Q = MQ below (va_Qi (fun (z : Int32) (_ : Unit) => z = bI (inb n x)) (fun _ t => va_P (dC, dI) vwCl [(m0, .inr (5, [.int (th), .int (nI (n)), .int (nI (q)), .ref aJ, .ref aS, .ref aT, .ref aW, .int (bI kn), .int (nI (rk)), .ref aR, .ref aP, .ref aH, .ref aK, .ref aE, .ref aY, .ref aN, .ref aQ, .ref aB, .ref aI, .ref aD]))] t.heap ∧ va_K (dC, dI) vwCl [(cI, .int), (cZ, .boolean)] t ∧ va_D (va_A [(m0, .inr (5, [.int (th), .int (nI (n)), .int (nI (q)), .ref aJ, .ref aS, .ref aT, .ref aW, .int (bI kn), .int (nI (rk)), .ref aR, .ref aP, .ref aH, .ref aK, .ref aE, .ref aY, .ref aN, .ref aQ, .ref aB, .ref aI, .ref aD]))] s.heap.size) [(m0, .inr (5, [.int (th), .int (nI (n)), .int (nI (q)), .ref aJ, .ref aS, .ref aT, .ref aW, .int (bI kn), .int (nI (rk)), .ref aR, .ref aP, .ref aH, .ref aK, .ref aE, .ref aY, .ref aN, .ref aQ, .ref aB, .ref aI, .ref aD]))]) (va_A [(m0, .inr (5, [.int (th), .int (nI (n)), .int (nI (q)), .ref aJ, .ref aS, .ref aT, .ref aW, .int (bI kn), .int (nI (rk)), .ref aR, .ref aP, .ref aH, .ref aK, .ref aE, .ref aY, .ref aN, .ref aQ, .ref aB, .ref aI, .ref aD]))] s.heap.size)) args s 0 0 (va_A [(m0, .inr (5, [.int (th), .int (nI (n)), .int (nI (q)), .ref aJ, .ref aS, .ref aT, .ref aW, .int (bI kn), .int (nI (rk)), .ref aR, .ref aP, .ref aH, .ref aK, .ref aE, .ref aY, .ref aN, .ref aQ, .ref aB, .ref aI, .ref aD]))] s.heap.size) := ⟨_, rfl⟩
  rw [← hQ]
  have hD := hD0.self (sz := s.heap.size)
  generalize hAe : (va_A [(m0, .inr (5, [.int (th), .int (nI (n)), .int (nI (q)), .ref aJ, .ref aS, .ref aT, .ref aW, .int (bI kn), .int (nI (rk)), .ref aR, .ref aP, .ref aH, .ref aK, .ref aE, .ref aY, .ref aN, .ref aQ, .ref aB, .ref aI, .ref aD]))] s.heap.size) = A at hD hQ
  have hA : ∀ q : Nat, s.heap.size ≤ q → A q := fun q h => by rw [← hAe]; exact Or.inr h
  have hS : va_S A s.heap s.heap [] := va_S.rf
  have hl := lv_entry ([.ref m0, .int (x)]) (n := 2) (Nat.le_of_ble_eq_true rfl)
  generalize hen : entryFrame m args 2 = fr
  rw [hargs, lg_entry_eq] at hen
  subst hen
  generalize (lg_sl ([.ref m0, .int (x)]) ++ List.replicate (2 - (lg_sl ([.ref m0, .int (x)])).length) Slot.unset).toArray = ls at hl ⊢
  have hl : lv_has ls 2 [(0, .ref m0), (1, .int (x))] := hl
  have hinX4 : ∀ w ∈ wsX40, w ∈ wsX4_isLamp := by decide +kernel
  have hf56 := hts (.fieldLink RX4 56 "LightRowsModel" "lamps" "I") (by decide +kernel)
  refine lv_iload_n hx hb dX4_isLamp_0 rfl (lv_at hl 1 rfl) ?_
  refine lv_if_lt (tgt := 16) hx hb dX4_isLamp_1 (by decide) (fun c => ?_) (fun c => ?_)
  · skip
    refine lv_iconst (v := nI 0) hx hb dX4_isLamp_16 (by decide) ?_
    rw [hQ]
    exact W.zret (v := nI (0)) (ty := .boolean) hx hb hr rfl (fun t ht hW => ⟨⟨_, (), rfl, by rw [inb_neg c]; rfl, by rw [ht]; exact hP, va_K.moved hW.alike hK, hD⟩, hS.F ht⟩) hS.2.2 dX4_isLamp_17
  · skip
    refine lv_iload_n hx hb dX4_isLamp_4 rfl (lv_at hl 1 rfl) ?_
    refine lv_aload_n hx hb dX4_isLamp_5 rfl (lv_at hl 0 rfl) ?_
    refine va_get (D := (dC, dI)) (ci := 5) (v := .int (nI (n))) (C := RX4) (T := TX4) (N := 20) hx hb hts hinX4 hown hK hP 0 rfl rfl 1 (by decide) hf56 (fun _ h9 => h9) rfl dX4_isLamp_6 ?_
    refine lv_icmp_ge (tgt := 16) hx hb dX4_isLamp_9 (by decide) (fun c2 => ?_) (fun c2 => ?_)
    · skip
      refine lv_iconst (v := nI 0) hx hb dX4_isLamp_16 (by decide) ?_
      rw [hQ]
      exact W.zret (v := nI (0)) (ty := .boolean) hx hb hr rfl (fun t ht hW => ⟨⟨_, (), rfl, by rw [inb_ge (by omega) c2]; rfl, by rw [ht]; exact hP, va_K.moved hW.alike hK, hD⟩, hS.F ht⟩) hS.2.2 dX4_isLamp_17
    · skip
      refine lv_iconst (v := nI 1) hx hb dX4_isLamp_12 (by decide) ?_
      refine lv_goto (tgt := 17) hx hb dX4_isLamp_13 (by decide) ?_
      rw [hQ]
      exact W.zret (v := nI (1)) (ty := .boolean) hx hb hr rfl (fun t ht hW => ⟨⟨_, (), rfl, by rw [inb_in (by omega) c c2]; rfl, by rw [ht]; exact hP, va_K.moved hW.alike hK, hD⟩, hS.F ht⟩) hS.2.2 dX4_isLamp_17

set_option maxHeartbeats 4000000 in
set_option maxRecDepth 100000 in
theorem c_X4_isState (l : Launch) (dC : Nat → ClassId) (dI : Nat → Nat → Nat) (sz : Nat) (m0 aJ aS aT aW aR aP aH aK aE aY aN aQ aB aI aD n q rk : Nat) (th : Int32) (kn : Bool) (cI cZ : ClassId) (x : Int32) (hq : q < 100) : Met l yX4_isState wsX4_isState ({ frames := 0, cells := 0, slots := 0, locals := 0 }) (va_Pc [.ref m0, .int (x)] (fun U => U.heap.size = sz ∧ va_P (dC, dI) vwCl [(m0, .inr (5, [.int (th), .int (nI (n)), .int (nI (q)), .ref aJ, .ref aS, .ref aT, .ref aW, .int (bI kn), .int (nI (rk)), .ref aR, .ref aP, .ref aH, .ref aK, .ref aE, .ref aY, .ref aN, .ref aQ, .ref aB, .ref aI, .ref aD]))] U.heap ∧ va_K (dC, dI) vwCl [(cI, .int), (cZ, .boolean)] U ∧ va_D (fun _ => True) [(m0, .inr (5, [.int (th), .int (nI (n)), .int (nI (q)), .ref aJ, .ref aS, .ref aT, .ref aW, .int (bI kn), .int (nI (rk)), .ref aR, .ref aP, .ref aH, .ref aK, .ref aE, .ref aY, .ref aN, .ref aQ, .ref aB, .ref aI, .ref aD]))])) (va_Qi (fun (z : Int32) (_ : Unit) => z = bI (inb q x)) (fun _ t => va_P (dC, dI) vwCl [(m0, .inr (5, [.int (th), .int (nI (n)), .int (nI (q)), .ref aJ, .ref aS, .ref aT, .ref aW, .int (bI kn), .int (nI (rk)), .ref aR, .ref aP, .ref aH, .ref aK, .ref aE, .ref aY, .ref aN, .ref aQ, .ref aB, .ref aI, .ref aD]))] t.heap ∧ va_K (dC, dI) vwCl [(cI, .int), (cZ, .boolean)] t ∧ va_D (va_A [(m0, .inr (5, [.int (th), .int (nI (n)), .int (nI (q)), .ref aJ, .ref aS, .ref aT, .ref aW, .int (bI kn), .int (nI (rk)), .ref aR, .ref aP, .ref aH, .ref aK, .ref aE, .ref aY, .ref aN, .ref aQ, .ref aB, .ref aI, .ref aD]))] sz) [(m0, .inr (5, [.int (th), .int (nI (n)), .int (nI (q)), .ref aJ, .ref aS, .ref aT, .ref aW, .int (bI kn), .int (nI (rk)), .ref aR, .ref aP, .ref aH, .ref aK, .ref aE, .ref aY, .ref aN, .ref aQ, .ref aB, .ref aI, .ref aD]))]) (va_A [(m0, .inr (5, [.int (th), .int (nI (n)), .int (nI (q)), .ref aJ, .ref aS, .ref aT, .ref aW, .int (bI kn), .int (nI (rk)), .ref aR, .ref aP, .ref aH, .ref aK, .ref aE, .ref aY, .ref aN, .ref aQ, .ref aB, .ref aI, .ref aD]))] sz)) 0 0 (va_A [(m0, .inr (5, [.int (th), .int (nI (n)), .int (nI (q)), .ref aJ, .ref aS, .ref aT, .ref aW, .int (bI kn), .int (nI (rk)), .ref aR, .ref aP, .ref aH, .ref aK, .ref aE, .ref aY, .ref aN, .ref aQ, .ref aB, .ref aI, .ref aD]))] sz) := by
  refine Met.ofW (cc := cX4_isState) (maxL := 2) (ret := (some .boolean)) (by decide) rfl ?_
  intro zp ze s m args below meth zc s₁ B hml hv
  obtain ⟨hargs, hsz, hP, hK, hD0⟩ := hv
  have hx := B.exec
  have hb := B.bytes
  have hr := B.returns
  have hts := atoms_spec (ws := wsX4_isState) B.pre
  have hown : s.vm.findClass RX4 = some m.cls := findClass_of_methodNamed B.named
  have hlocks := B.notSynchronized
  subst hsz
  obtain ⟨Q, hQ⟩ : ∃ Q, Q = MQ below (va_Qi (fun (z : Int32) (_ : Unit) => z = bI (inb q x)) (fun _ t => va_P (dC, dI) vwCl [(m0, .inr (5, [.int (th), .int (nI (n)), .int (nI (q)), .ref aJ, .ref aS, .ref aT, .ref aW, .int (bI kn), .int (nI (rk)), .ref aR, .ref aP, .ref aH, .ref aK, .ref aE, .ref aY, .ref aN, .ref aQ, .ref aB, .ref aI, .ref aD]))] t.heap ∧ va_K (dC, dI) vwCl [(cI, .int), (cZ, .boolean)] t ∧ va_D (va_A [(m0, .inr (5, [.int (th), .int (nI (n)), .int (nI (q)), .ref aJ, .ref aS, .ref aT, .ref aW, .int (bI kn), .int (nI (rk)), .ref aR, .ref aP, .ref aH, .ref aK, .ref aE, .ref aY, .ref aN, .ref aQ, .ref aB, .ref aI, .ref aD]))] s.heap.size) [(m0, .inr (5, [.int (th), .int (nI (n)), .int (nI (q)), .ref aJ, .ref aS, .ref aT, .ref aW, .int (bI kn), .int (nI (rk)), .ref aR, .ref aP, .ref aH, .ref aK, .ref aE, .ref aY, .ref aN, .ref aQ, .ref aB, .ref aI, .ref aD]))]) (va_A [(m0, .inr (5, [.int (th), .int (nI (n)), .int (nI (q)), .ref aJ, .ref aS, .ref aT, .ref aW, .int (bI kn), .int (nI (rk)), .ref aR, .ref aP, .ref aH, .ref aK, .ref aE, .ref aY, .ref aN, .ref aQ, .ref aB, .ref aI, .ref aD]))] s.heap.size)) args s 0 0 (va_A [(m0, .inr (5, [.int (th), .int (nI (n)), .int (nI (q)), .ref aJ, .ref aS, .ref aT, .ref aW, .int (bI kn), .int (nI (rk)), .ref aR, .ref aP, .ref aH, .ref aK, .ref aE, .ref aY, .ref aN, .ref aQ, .ref aB, .ref aI, .ref aD]))] s.heap.size) := ⟨_, rfl⟩
  rw [← hQ]
  have hD := hD0.self (sz := s.heap.size)
  generalize hAe : (va_A [(m0, .inr (5, [.int (th), .int (nI (n)), .int (nI (q)), .ref aJ, .ref aS, .ref aT, .ref aW, .int (bI kn), .int (nI (rk)), .ref aR, .ref aP, .ref aH, .ref aK, .ref aE, .ref aY, .ref aN, .ref aQ, .ref aB, .ref aI, .ref aD]))] s.heap.size) = A at hD hQ
  have hA : ∀ q : Nat, s.heap.size ≤ q → A q := fun q h => by rw [← hAe]; exact Or.inr h
  have hS : va_S A s.heap s.heap [] := va_S.rf
  have hl := lv_entry ([.ref m0, .int (x)]) (n := 2) (Nat.le_of_ble_eq_true rfl)
  generalize hen : entryFrame m args 2 = fr
  rw [hargs, lg_entry_eq] at hen
  subst hen
  generalize (lg_sl ([.ref m0, .int (x)]) ++ List.replicate (2 - (lg_sl ([.ref m0, .int (x)])).length) Slot.unset).toArray = ls at hl ⊢
  have hl : lv_has ls 2 [(0, .ref m0), (1, .int (x))] := hl
  have hinX4 : ∀ w ∈ wsX40, w ∈ wsX4_isState := by decide +kernel
  have hf60 := hts (.fieldLink RX4 60 "LightRowsModel" "p" "I") (by decide +kernel)
  refine lv_iload_n hx hb dX4_isState_0 rfl (lv_at hl 1 rfl) ?_
  refine lv_if_lt (tgt := 16) hx hb dX4_isState_1 (by decide) (fun c => ?_) (fun c => ?_)
  · skip
    refine lv_iconst (v := nI 0) hx hb dX4_isState_16 (by decide) ?_
    rw [hQ]
    exact W.zret (v := nI (0)) (ty := .boolean) hx hb hr rfl (fun t ht hW => ⟨⟨_, (), rfl, by rw [inb_neg c]; rfl, by rw [ht]; exact hP, va_K.moved hW.alike hK, hD⟩, hS.F ht⟩) hS.2.2 dX4_isState_17
  · skip
    refine lv_iload_n hx hb dX4_isState_4 rfl (lv_at hl 1 rfl) ?_
    refine lv_aload_n hx hb dX4_isState_5 rfl (lv_at hl 0 rfl) ?_
    refine va_get (D := (dC, dI)) (ci := 5) (v := .int (nI (q))) (C := RX4) (T := TX4) (N := 20) hx hb hts hinX4 hown hK hP 0 rfl rfl 2 (by decide) hf60 (fun _ h9 => h9) rfl dX4_isState_6 ?_
    refine lv_icmp_ge (tgt := 16) hx hb dX4_isState_9 (by decide) (fun c2 => ?_) (fun c2 => ?_)
    · skip
      refine lv_iconst (v := nI 0) hx hb dX4_isState_16 (by decide) ?_
      rw [hQ]
      exact W.zret (v := nI (0)) (ty := .boolean) hx hb hr rfl (fun t ht hW => ⟨⟨_, (), rfl, by rw [inb_ge (by omega) c2]; rfl, by rw [ht]; exact hP, va_K.moved hW.alike hK, hD⟩, hS.F ht⟩) hS.2.2 dX4_isState_17
    · skip
      refine lv_iconst (v := nI 1) hx hb dX4_isState_12 (by decide) ?_
      refine lv_goto (tgt := 17) hx hb dX4_isState_13 (by decide) ?_
      rw [hQ]
      exact W.zret (v := nI (1)) (ty := .boolean) hx hb hr rfl (fun t ht hW => ⟨⟨_, (), rfl, by rw [inb_in (by omega) c c2]; rfl, by rw [ht]; exact hP, va_K.moved hW.alike hK, hD⟩, hS.F ht⟩) hS.2.2 dX4_isState_17

set_option maxHeartbeats 4000000 in
set_option maxRecDepth 100000 in
theorem c_X4_at (l : Launch) (dC : Nat → ClassId) (dI : Nat → Nat → Nat) (sz : Nat) (m0 aJ aS aT aW aR aP aH aK aE aY aN aQ aB aI aD n q rk : Nat) (th : Int32) (kn : Bool) (cI cZ : ClassId) (st : Nat → Nat) (x : Int32) (hn : n < 31)  : Met l yX4_at wsX4_at ({ frames := 1, cells := 0, slots := 0, locals := 21 }) (va_Pc [.ref m0, .int (x)] (fun U => U.heap.size = sz ∧ va_P (dC, dI) vwCl [(m0, .inr (5, [.int (th), .int (nI (n)), .int (nI (q)), .ref aJ, .ref aS, .ref aT, .ref aW, .int (bI kn), .int (nI (rk)), .ref aR, .ref aP, .ref aH, .ref aK, .ref aE, .ref aY, .ref aN, .ref aQ, .ref aB, .ref aI, .ref aD])), (aT, .inl (cI, 30, .inl (fun j => nI (st j))))] U.heap ∧ va_K (dC, dI) vwCl [(cI, .int), (cZ, .boolean)] U ∧ va_D (fun _ => True) [(m0, .inr (5, [.int (th), .int (nI (n)), .int (nI (q)), .ref aJ, .ref aS, .ref aT, .ref aW, .int (bI kn), .int (nI (rk)), .ref aR, .ref aP, .ref aH, .ref aK, .ref aE, .ref aY, .ref aN, .ref aQ, .ref aB, .ref aI, .ref aD])), (aT, .inl (cI, 30, .inl (fun j => nI (st j))))])) (va_Qi (fun (z : Int32) (u : Bool) => (inb n x = false ∧ u = true) ∨ ∃ j : Nat, j < n ∧ x = nI j ∧ u = false ∧ z = nI (st j)) (fun u t => va_P (dC, dI) vwCl [(m0, .inr (5, [.int (bI u), .int (nI (n)), .int (nI (q)), .ref aJ, .ref aS, .ref aT, .ref aW, .int (bI kn), .int (nI (rk)), .ref aR, .ref aP, .ref aH, .ref aK, .ref aE, .ref aY, .ref aN, .ref aQ, .ref aB, .ref aI, .ref aD])), (aT, .inl (cI, 30, .inl (fun j => nI (st j))))] t.heap ∧ va_K (dC, dI) vwCl [(cI, .int), (cZ, .boolean)] t ∧ va_D (va_A [(m0, .inr (5, [.int (th), .int (nI (n)), .int (nI (q)), .ref aJ, .ref aS, .ref aT, .ref aW, .int (bI kn), .int (nI (rk)), .ref aR, .ref aP, .ref aH, .ref aK, .ref aE, .ref aY, .ref aN, .ref aQ, .ref aB, .ref aI, .ref aD])), (aT, .inl (cI, 30, .inl (fun j => nI (st j))))] sz) [(m0, .inr (5, [.int (bI u), .int (nI (n)), .int (nI (q)), .ref aJ, .ref aS, .ref aT, .ref aW, .int (bI kn), .int (nI (rk)), .ref aR, .ref aP, .ref aH, .ref aK, .ref aE, .ref aY, .ref aN, .ref aQ, .ref aB, .ref aI, .ref aD])), (aT, .inl (cI, 30, .inl (fun j => nI (st j))))]) (va_A [(m0, .inr (5, [.int (th), .int (nI (n)), .int (nI (q)), .ref aJ, .ref aS, .ref aT, .ref aW, .int (bI kn), .int (nI (rk)), .ref aR, .ref aP, .ref aH, .ref aK, .ref aE, .ref aY, .ref aN, .ref aQ, .ref aB, .ref aI, .ref aD])), (aT, .inl (cI, 30, .inl (fun j => nI (st j))))] sz)) 0 0 (va_A [(m0, .inr (5, [.int (th), .int (nI (n)), .int (nI (q)), .ref aJ, .ref aS, .ref aT, .ref aW, .int (bI kn), .int (nI (rk)), .ref aR, .ref aP, .ref aH, .ref aK, .ref aE, .ref aY, .ref aN, .ref aQ, .ref aB, .ref aI, .ref aD])), (aT, .inl (cI, 30, .inl (fun j => nI (st j))))] sz) := by
  refine Met.ofW (cc := cX4_at) (maxL := 2) (ret := (some .int)) (by decide) rfl ?_
  intro zp ze s m args below meth zc s₁ B hml hv
  obtain ⟨hargs, hsz, hP, hK, hD0⟩ := hv
  have hx := B.exec
  have hb := B.bytes
  have hr := B.returns
  have hts := atoms_spec (ws := wsX4_at) B.pre
  have hown : s.vm.findClass RX4 = some m.cls := findClass_of_methodNamed B.named
  have hlocks := B.notSynchronized
  subst hsz
  obtain ⟨Q, hQ⟩ : ∃ Q, Q = MQ below (va_Qi (fun (z : Int32) (u : Bool) => (inb n x = false ∧ u = true) ∨ ∃ j : Nat, j < n ∧ x = nI j ∧ u = false ∧ z = nI (st j)) (fun u t => va_P (dC, dI) vwCl [(m0, .inr (5, [.int (bI u), .int (nI (n)), .int (nI (q)), .ref aJ, .ref aS, .ref aT, .ref aW, .int (bI kn), .int (nI (rk)), .ref aR, .ref aP, .ref aH, .ref aK, .ref aE, .ref aY, .ref aN, .ref aQ, .ref aB, .ref aI, .ref aD])), (aT, .inl (cI, 30, .inl (fun j => nI (st j))))] t.heap ∧ va_K (dC, dI) vwCl [(cI, .int), (cZ, .boolean)] t ∧ va_D (va_A [(m0, .inr (5, [.int (th), .int (nI (n)), .int (nI (q)), .ref aJ, .ref aS, .ref aT, .ref aW, .int (bI kn), .int (nI (rk)), .ref aR, .ref aP, .ref aH, .ref aK, .ref aE, .ref aY, .ref aN, .ref aQ, .ref aB, .ref aI, .ref aD])), (aT, .inl (cI, 30, .inl (fun j => nI (st j))))] s.heap.size) [(m0, .inr (5, [.int (bI u), .int (nI (n)), .int (nI (q)), .ref aJ, .ref aS, .ref aT, .ref aW, .int (bI kn), .int (nI (rk)), .ref aR, .ref aP, .ref aH, .ref aK, .ref aE, .ref aY, .ref aN, .ref aQ, .ref aB, .ref aI, .ref aD])), (aT, .inl (cI, 30, .inl (fun j => nI (st j))))]) (va_A [(m0, .inr (5, [.int (th), .int (nI (n)), .int (nI (q)), .ref aJ, .ref aS, .ref aT, .ref aW, .int (bI kn), .int (nI (rk)), .ref aR, .ref aP, .ref aH, .ref aK, .ref aE, .ref aY, .ref aN, .ref aQ, .ref aB, .ref aI, .ref aD])), (aT, .inl (cI, 30, .inl (fun j => nI (st j))))] s.heap.size)) args s 0 0 (va_A [(m0, .inr (5, [.int (th), .int (nI (n)), .int (nI (q)), .ref aJ, .ref aS, .ref aT, .ref aW, .int (bI kn), .int (nI (rk)), .ref aR, .ref aP, .ref aH, .ref aK, .ref aE, .ref aY, .ref aN, .ref aQ, .ref aB, .ref aI, .ref aD])), (aT, .inl (cI, 30, .inl (fun j => nI (st j))))] s.heap.size) := ⟨_, rfl⟩
  rw [← hQ]
  have hD := hD0.self (sz := s.heap.size)
  generalize hAe : (va_A [(m0, .inr (5, [.int (th), .int (nI (n)), .int (nI (q)), .ref aJ, .ref aS, .ref aT, .ref aW, .int (bI kn), .int (nI (rk)), .ref aR, .ref aP, .ref aH, .ref aK, .ref aE, .ref aY, .ref aN, .ref aQ, .ref aB, .ref aI, .ref aD])), (aT, .inl (cI, 30, .inl (fun j => nI (st j))))] s.heap.size) = A at hD hQ
  have hA : ∀ q : Nat, s.heap.size ≤ q → A q := fun q h => by rw [← hAe]; exact Or.inr h
  have hS : va_S A s.heap s.heap [] := va_S.rf
  have hl := lv_entry ([.ref m0, .int (x)]) (n := 2) (Nat.le_of_ble_eq_true rfl)
  generalize hen : entryFrame m args 2 = fr
  rw [hargs, lg_entry_eq] at hen
  subst hen
  generalize (lg_sl ([.ref m0, .int (x)]) ++ List.replicate (2 - (lg_sl ([.ref m0, .int (x)])).length) Slot.unset).toArray = ls at hl ⊢
  have hl : lv_has ls 2 [(0, .ref m0), (1, .int (x))] := hl
  have hinX4 : ∀ w ∈ wsX40, w ∈ wsX4_at := by decide +kernel
  have hf16 := hts (.fieldLink RX4 16 "LightRowsModel" "states" "[I") (by decide +kernel)
  have hf56 := hts (.fieldLink RX4 56 "LightRowsModel" "lamps" "I") (by decide +kernel)
  have hf63 := hts (.fieldLink RX4 63 "LightRowsModel" "thrown" "I") (by decide +kernel)
  refine lv_aload_n hx hb dX4_at_0 rfl (lv_at hl 0 rfl) ?_
  refine lv_aload_n hx hb dX4_at_1 rfl (lv_at hl 0 rfl) ?_
  refine lv_iload_n hx hb dX4_at_2 rfl (lv_at hl 1 rfl) ?_
  have hPc := hP.sub (ws' := [(m0, .inr (5, [.int (th), .int (nI (n)), .int (nI (q)), .ref aJ, .ref aS, .ref aT, .ref aW, .int (bI kn), .int (nI (rk)), .ref aR, .ref aP, .ref aH, .ref aK, .ref aE, .ref aY, .ref aN, .ref aQ, .ref aB, .ref aI, .ref aD]))]) [0] rfl
  have hDc := hD.sub (ws' := [(m0, .inr (5, [.int (th), .int (nI (n)), .int (nI (q)), .ref aJ, .ref aS, .ref aT, .ref aW, .int (bI kn), .int (nI (rk)), .ref aR, .ref aP, .ref aH, .ref aK, .ref aE, .ref aY, .ref aN, .ref aQ, .ref aB, .ref aI, .ref aD]))]) [0] (by decide) rfl
  have hFc := va_free (wc := [(m0, .inr (5, [.int (th), .int (nI (n)), .int (nI (q)), .ref aJ, .ref aS, .ref aT, .ref aW, .int (bI kn), .int (nI (rk)), .ref aR, .ref aP, .ref aH, .ref aK, .ref aE, .ref aY, .ref aN, .ref aQ, .ref aB, .ref aI, .ref aD]))]) hD hS hA [0] rfl
  have hKc := hK.sub (tys' := [(cI, .int), (cZ, .boolean)]) [0, 1] rfl
  refine va_calli (va_runV (As := [.int (x)]) (rest := [.ref m0]) ⟨hx, hb, hml, hown, hts⟩ (c_X4_isLamp l dC dI s.heap.size m0 aJ aS aT aW aR aP aH aK aE aY aN aQ aB aI aD n q rk th kn cI cZ x hn) (cwV 1 hts gX4_at_X4_isLamp rfl rfl rfl (by decide +kernel) ⟨Nat.le_of_ble_eq_true rfl, Nat.le_of_ble_eq_true rfl⟩) ⟨fun a U g mk q => by obtain ⟨q0, q1, qP, qK, qD⟩ := q; exact ⟨q0, q1, qP, va_K.moved (u := U) (U := U.calling g mk a) (Vm.Alike.refl U.vm) qK, qD⟩, va_recv hKc hPc (ci := 5) (q0 := 0) rfl rfl, fun U hU hW => ⟨rfl, by rw [hU], by rw [hU]; exact hPc, va_K.moved hW.alike hKc, hDc.weaken (fun _ _ _ _ => trivial)⟩⟩ rfl rfl hl.1 rfl (lv_room (Nat.le_of_ble_eq_true rfl)) dX4_at_3 ⟨Nat.le_of_ble_eq_true rfl, Nat.le_of_ble_eq_true rfl⟩) hS (fun q _ h => hFc q h) hFc (fun r1 uu t H1 locs ht hvm hw hB hz1 hk1 hS => ?_)
  obtain ⟨hP1, hK1, hD1⟩ := hB
  rw [ht] at hP1
  try dsimp only at hw
  obtain ⟨hP, hD⟩ := va_join (wr := [(aT, .inl (cI, 30, .inl (fun j => nI (st j))))]) (w1 := [(m0, .inr (5, [.int (th), .int (nI (n)), .int (nI (q)), .ref aJ, .ref aS, .ref aT, .ref aW, .int (bI kn), .int (nI (rk)), .ref aR, .ref aP, .ref aH, .ref aK, .ref aE, .ref aY, .ref aN, .ref aQ, .ref aB, .ref aI, .ref aD]))]) hP hD [0] [1] rfl rfl (by decide) (by decide) hk1 hFc hP1 hD1
  generalize H1 = H at hP hS ⊢
  have hP := hP.sub (ws' := [(m0, .inr (5, [.int (th), .int (nI (n)), .int (nI (q)), .ref aJ, .ref aS, .ref aT, .ref aW, .int (bI kn), .int (nI (rk)), .ref aR, .ref aP, .ref aH, .ref aK, .ref aE, .ref aY, .ref aN, .ref aQ, .ref aB, .ref aI, .ref aD])), (aT, .inl (cI, 30, .inl (fun j => nI (st j))))]) [1, 0] rfl
  have hD := hD.sub (ws' := [(m0, .inr (5, [.int (th), .int (nI (n)), .int (nI (q)), .ref aJ, .ref aS, .ref aT, .ref aW, .int (bI kn), .int (nI (rk)), .ref aR, .ref aP, .ref aH, .ref aK, .ref aE, .ref aY, .ref aN, .ref aQ, .ref aB, .ref aI, .ref aD])), (aT, .inl (cI, 30, .inl (fun j => nI (st j))))]) [1, 0] (by decide) rfl
  have hP : va_P (dC, dI) vwCl [(m0, .inr (5, [.int (th), .int (nI (n)), .int (nI (q)), .ref aJ, .ref aS, .ref aT, .ref aW, .int (bI kn), .int (nI (rk)), .ref aR, .ref aP, .ref aH, .ref aK, .ref aE, .ref aY, .ref aN, .ref aQ, .ref aB, .ref aI, .ref aD])), (aT, .inl (cI, 30, .inl (fun j => nI (st j))))] H := hP
  have hD : va_D A [(m0, .inr (5, [.int (th), .int (nI (n)), .int (nI (q)), .ref aJ, .ref aS, .ref aT, .ref aW, .int (bI kn), .int (nI (rk)), .ref aR, .ref aP, .ref aH, .ref aK, .ref aE, .ref aY, .ref aN, .ref aQ, .ref aB, .ref aI, .ref aD])), (aT, .inl (cI, 30, .inl (fun j => nI (st j))))] := hD
  subst hw
  rcases hib : inb n x with _ | _
  · skip
    refine tp_i (y := nI 0) rfl ?_
    refine lv_if_ne (tgt := 13) hx hb dX4_at_6 (by decide) (fun c => ?_) (fun c => ?_)
    · skip
      have c : 0 ≠ 0 := fun h => c ((nI_eq (a := 0) (b := 0) (by omega) (by omega)).mpr h)
      exact absurd rfl c
    · skip
      have c : 0 = 0 := (nI_eq (a := 0) (b := 0) (by omega) (by omega)).mp c
      refine lv_iconst (v := nI 1) hx hb dX4_at_9 (by decide) ?_
      refine lv_goto (tgt := 14) hx hb dX4_at_10 (by decide) ?_
      refine tp_i (y := bI true) rfl ?_
      have hPc := hP.sub (ws' := [(m0, .inr (5, [.int (th), .int (nI (n)), .int (nI (q)), .ref aJ, .ref aS, .ref aT, .ref aW, .int (bI kn), .int (nI (rk)), .ref aR, .ref aP, .ref aH, .ref aK, .ref aE, .ref aY, .ref aN, .ref aQ, .ref aB, .ref aI, .ref aD]))]) [0] rfl
      have hDc := hD.sub (ws' := [(m0, .inr (5, [.int (th), .int (nI (n)), .int (nI (q)), .ref aJ, .ref aS, .ref aT, .ref aW, .int (bI kn), .int (nI (rk)), .ref aR, .ref aP, .ref aH, .ref aK, .ref aE, .ref aY, .ref aN, .ref aQ, .ref aB, .ref aI, .ref aD]))]) [0] (by decide) rfl
      have hFc := va_free (wc := [(m0, .inr (5, [.int (th), .int (nI (n)), .int (nI (q)), .ref aJ, .ref aS, .ref aT, .ref aW, .int (bI kn), .int (nI (rk)), .ref aR, .ref aP, .ref aH, .ref aK, .ref aE, .ref aY, .ref aN, .ref aQ, .ref aB, .ref aI, .ref aD]))]) hD hS hA [0] rfl
      have hKc := hK.sub (tys' := [(cI, .int), (cZ, .boolean)]) [0, 1] rfl
      refine va_calli (va_runV (As := [.int (bI true)]) (rest := []) ⟨hx, hb, hml, hown, hts⟩ (c_X4_fails l dC dI H.size m0 aJ aS aT aW aR aP aH aK aE aY aN aQ aB aI aD n q rk th kn cI cZ true) (cwV 1 hts gX4_at_X4_fails rfl rfl rfl (by decide +kernel) ⟨Nat.le_of_ble_eq_true rfl, Nat.le_of_ble_eq_true rfl⟩) ⟨fun a U g mk q => by obtain ⟨q0, q1, qP, qK, qD⟩ := q; exact ⟨q0, q1, qP, va_K.moved (u := U) (U := U.calling g mk a) (Vm.Alike.refl U.vm) qK, qD⟩, va_recv hKc hPc (ci := 5) (q0 := 0) rfl rfl, fun U hU hW => ⟨rfl, by rw [hU], by rw [hU]; exact hPc, va_K.moved hW.alike hKc, hDc.weaken (fun _ _ _ _ => trivial)⟩⟩ rfl rfl hl.1 rfl (lv_room (Nat.le_of_ble_eq_true rfl)) dX4_at_14 ⟨Nat.le_of_ble_eq_true rfl, Nat.le_of_ble_eq_true rfl⟩) hS (fun q _ h => hFc q h) hFc (fun r2 uu t H1 locs ht hvm hw hB hz1 hk1 hS => ?_)
      obtain ⟨hP1, hK1, hD1⟩ := hB
      rw [ht] at hP1
      try dsimp only at hw
      obtain ⟨hP, hD⟩ := va_join (wr := [(aT, .inl (cI, 30, .inl (fun j => nI (st j))))]) (w1 := [(m0, .inr (5, [.int (bI true), .int (nI (n)), .int (nI (q)), .ref aJ, .ref aS, .ref aT, .ref aW, .int (bI kn), .int (nI (rk)), .ref aR, .ref aP, .ref aH, .ref aK, .ref aE, .ref aY, .ref aN, .ref aQ, .ref aB, .ref aI, .ref aD]))]) hP hD [0] [1] rfl rfl (by decide) (by decide) hk1 hFc hP1 hD1
      generalize H1 = H at hP hS ⊢
      have hP := hP.sub (ws' := [(m0, .inr (5, [.int (bI true), .int (nI (n)), .int (nI (q)), .ref aJ, .ref aS, .ref aT, .ref aW, .int (bI kn), .int (nI (rk)), .ref aR, .ref aP, .ref aH, .ref aK, .ref aE, .ref aY, .ref aN, .ref aQ, .ref aB, .ref aI, .ref aD])), (aT, .inl (cI, 30, .inl (fun j => nI (st j))))]) [1, 0] rfl
      have hD := hD.sub (ws' := [(m0, .inr (5, [.int (bI true), .int (nI (n)), .int (nI (q)), .ref aJ, .ref aS, .ref aT, .ref aW, .int (bI kn), .int (nI (rk)), .ref aR, .ref aP, .ref aH, .ref aK, .ref aE, .ref aY, .ref aN, .ref aQ, .ref aB, .ref aI, .ref aD])), (aT, .inl (cI, 30, .inl (fun j => nI (st j))))]) [1, 0] (by decide) rfl
      have hP : va_P (dC, dI) vwCl [(m0, .inr (5, [.int (bI true), .int (nI (n)), .int (nI (q)), .ref aJ, .ref aS, .ref aT, .ref aW, .int (bI kn), .int (nI (rk)), .ref aR, .ref aP, .ref aH, .ref aK, .ref aE, .ref aY, .ref aN, .ref aQ, .ref aB, .ref aI, .ref aD])), (aT, .inl (cI, 30, .inl (fun j => nI (st j))))] H := hP
      have hD : va_D A [(m0, .inr (5, [.int (bI true), .int (nI (n)), .int (nI (q)), .ref aJ, .ref aS, .ref aT, .ref aW, .int (bI kn), .int (nI (rk)), .ref aR, .ref aP, .ref aH, .ref aK, .ref aE, .ref aY, .ref aN, .ref aQ, .ref aB, .ref aI, .ref aD])), (aT, .inl (cI, 30, .inl (fun j => nI (st j))))] := hD
      subst hw
      refine tp_i (y := nI 1) rfl ?_
      refine lv_if_eq (tgt := 24) hx hb dX4_at_17 (by decide) (fun c5 => ?_) (fun c5 => ?_)
      · skip
        have c5 : 1 = 0 := (nI_eq (a := 1) (b := 0) (by omega) (by omega)).mp c5
        exact absurd c5 (by decide)
      · skip
        have c5 : 1 ≠ 0 := fun h => c5 ((nI_eq (a := 1) (b := 0) (by omega) (by omega)).mpr h)
        refine lv_iconst (v := nI 0) hx hb dX4_at_20 (by decide) ?_
        refine lv_goto (tgt := 30) hx hb dX4_at_21 (by decide) ?_
        rw [hQ]
        exact W.iret (v := nI (0)) hx hb hr (fun t ht hW => ⟨⟨_, true, rfl, Or.inl ⟨hib, rfl⟩, by rw [ht]; exact hP, va_K.moved hW.alike hK, hD⟩, hS.F ht⟩) hS.2.2 dX4_at_30
  · skip
    refine tp_i (y := nI 1) rfl ?_
    obtain ⟨ja, hja, rfl⟩ := inb_ex (show n < 100 by omega) hib
    refine lv_if_ne (tgt := 13) hx hb dX4_at_6 (by decide) (fun c => ?_) (fun c => ?_)
    · skip
      have c : 1 ≠ 0 := fun h => c ((nI_eq (a := 1) (b := 0) (by omega) (by omega)).mpr h)
      refine lv_iconst (v := nI 0) hx hb dX4_at_13 (by decide) ?_
      refine tp_i (y := bI false) rfl ?_
      have hPc := hP.sub (ws' := [(m0, .inr (5, [.int (th), .int (nI (n)), .int (nI (q)), .ref aJ, .ref aS, .ref aT, .ref aW, .int (bI kn), .int (nI (rk)), .ref aR, .ref aP, .ref aH, .ref aK, .ref aE, .ref aY, .ref aN, .ref aQ, .ref aB, .ref aI, .ref aD]))]) [0] rfl
      have hDc := hD.sub (ws' := [(m0, .inr (5, [.int (th), .int (nI (n)), .int (nI (q)), .ref aJ, .ref aS, .ref aT, .ref aW, .int (bI kn), .int (nI (rk)), .ref aR, .ref aP, .ref aH, .ref aK, .ref aE, .ref aY, .ref aN, .ref aQ, .ref aB, .ref aI, .ref aD]))]) [0] (by decide) rfl
      have hFc := va_free (wc := [(m0, .inr (5, [.int (th), .int (nI (n)), .int (nI (q)), .ref aJ, .ref aS, .ref aT, .ref aW, .int (bI kn), .int (nI (rk)), .ref aR, .ref aP, .ref aH, .ref aK, .ref aE, .ref aY, .ref aN, .ref aQ, .ref aB, .ref aI, .ref aD]))]) hD hS hA [0] rfl
      have hKc := hK.sub (tys' := [(cI, .int), (cZ, .boolean)]) [0, 1] rfl
      refine va_calli (va_runV (As := [.int (bI false)]) (rest := []) ⟨hx, hb, hml, hown, hts⟩ (c_X4_fails l dC dI H.size m0 aJ aS aT aW aR aP aH aK aE aY aN aQ aB aI aD n q rk th kn cI cZ false) (cwV 1 hts gX4_at_X4_fails rfl rfl rfl (by decide +kernel) ⟨Nat.le_of_ble_eq_true rfl, Nat.le_of_ble_eq_true rfl⟩) ⟨fun a U g mk q => by obtain ⟨q0, q1, qP, qK, qD⟩ := q; exact ⟨q0, q1, qP, va_K.moved (u := U) (U := U.calling g mk a) (Vm.Alike.refl U.vm) qK, qD⟩, va_recv hKc hPc (ci := 5) (q0 := 0) rfl rfl, fun U hU hW => ⟨rfl, by rw [hU], by rw [hU]; exact hPc, va_K.moved hW.alike hKc, hDc.weaken (fun _ _ _ _ => trivial)⟩⟩ rfl rfl hl.1 rfl (lv_room (Nat.le_of_ble_eq_true rfl)) dX4_at_14 ⟨Nat.le_of_ble_eq_true rfl, Nat.le_of_ble_eq_true rfl⟩) hS (fun q _ h => hFc q h) hFc (fun r3 uu t H1 locs ht hvm hw hB hz1 hk1 hS => ?_)
      obtain ⟨hP1, hK1, hD1⟩ := hB
      rw [ht] at hP1
      try dsimp only at hw
      obtain ⟨hP, hD⟩ := va_join (wr := [(aT, .inl (cI, 30, .inl (fun j => nI (st j))))]) (w1 := [(m0, .inr (5, [.int (bI false), .int (nI (n)), .int (nI (q)), .ref aJ, .ref aS, .ref aT, .ref aW, .int (bI kn), .int (nI (rk)), .ref aR, .ref aP, .ref aH, .ref aK, .ref aE, .ref aY, .ref aN, .ref aQ, .ref aB, .ref aI, .ref aD]))]) hP hD [0] [1] rfl rfl (by decide) (by decide) hk1 hFc hP1 hD1
      generalize H1 = H at hP hS ⊢
      have hP := hP.sub (ws' := [(m0, .inr (5, [.int (bI false), .int (nI (n)), .int (nI (q)), .ref aJ, .ref aS, .ref aT, .ref aW, .int (bI kn), .int (nI (rk)), .ref aR, .ref aP, .ref aH, .ref aK, .ref aE, .ref aY, .ref aN, .ref aQ, .ref aB, .ref aI, .ref aD])), (aT, .inl (cI, 30, .inl (fun j => nI (st j))))]) [1, 0] rfl
      have hD := hD.sub (ws' := [(m0, .inr (5, [.int (bI false), .int (nI (n)), .int (nI (q)), .ref aJ, .ref aS, .ref aT, .ref aW, .int (bI kn), .int (nI (rk)), .ref aR, .ref aP, .ref aH, .ref aK, .ref aE, .ref aY, .ref aN, .ref aQ, .ref aB, .ref aI, .ref aD])), (aT, .inl (cI, 30, .inl (fun j => nI (st j))))]) [1, 0] (by decide) rfl
      have hP : va_P (dC, dI) vwCl [(m0, .inr (5, [.int (bI false), .int (nI (n)), .int (nI (q)), .ref aJ, .ref aS, .ref aT, .ref aW, .int (bI kn), .int (nI (rk)), .ref aR, .ref aP, .ref aH, .ref aK, .ref aE, .ref aY, .ref aN, .ref aQ, .ref aB, .ref aI, .ref aD])), (aT, .inl (cI, 30, .inl (fun j => nI (st j))))] H := hP
      have hD : va_D A [(m0, .inr (5, [.int (bI false), .int (nI (n)), .int (nI (q)), .ref aJ, .ref aS, .ref aT, .ref aW, .int (bI kn), .int (nI (rk)), .ref aR, .ref aP, .ref aH, .ref aK, .ref aE, .ref aY, .ref aN, .ref aQ, .ref aB, .ref aI, .ref aD])), (aT, .inl (cI, 30, .inl (fun j => nI (st j))))] := hD
      subst hw
      refine tp_i (y := nI 0) rfl ?_
      refine lv_if_eq (tgt := 24) hx hb dX4_at_17 (by decide) (fun c5 => ?_) (fun c5 => ?_)
      · skip
        have c5 : 0 = 0 := (nI_eq (a := 0) (b := 0) (by omega) (by omega)).mp c5
        refine lv_aload_n hx hb dX4_at_24 rfl (lv_at hl 0 rfl) ?_
        refine va_get (D := (dC, dI)) (ci := 5) (v := .ref aT) (C := RX4) (T := TX4) (N := 20) hx hb hts hinX4 hown hK hP 0 rfl rfl 5 (by decide) hf16 (fun _ h9 => h9) rfl dX4_at_25 ?_
        refine lv_iload_n hx hb dX4_at_28 rfl (lv_at hl 1 rfl) ?_
        refine ra_ld (g := nI) (F := st) hx hb hK hP 1 0 rfl rfl (by omega) (by omega) dX4_at_29 ?_
        rw [hQ]
        exact W.iret (v := nI (st ja)) hx hb hr (fun t ht hW => ⟨⟨_, false, rfl, Or.inr ⟨ja, hja, rfl, rfl, rfl⟩, by rw [ht]; exact hP, va_K.moved hW.alike hK, hD⟩, hS.F ht⟩) hS.2.2 dX4_at_30
      · skip
        have c5 : 0 ≠ 0 := fun h => c5 ((nI_eq (a := 0) (b := 0) (by omega) (by omega)).mpr h)
        exact absurd rfl c5
    · skip
      have c : 1 = 0 := (nI_eq (a := 1) (b := 0) (by omega) (by omega)).mp c
      exact absurd c (by decide)

set_option maxHeartbeats 4000000 in
set_option maxRecDepth 100000 in
theorem c_X4_set (l : Launch) (dC : Nat → ClassId) (dI : Nat → Nat → Nat) (sz : Nat) (m0 aJ aS aT aW aR aP aH aK aE aY aN aQ aB aI aD n q rk : Nat) (th : Int32) (kn : Bool) (cI cZ : ClassId) (st : Nat → Nat) (x v : Int32) (hn : n < 31) (hq : q < 100) : Met l yX4_set wsX4_set ({ frames := 1, cells := 0, slots := 0, locals := 21 }) (va_Pc [.ref m0, .int (x), .int (v)] (fun U => U.heap.size = sz ∧ va_P (dC, dI) vwCl [(m0, .inr (5, [.int (th), .int (nI (n)), .int (nI (q)), .ref aJ, .ref aS, .ref aT, .ref aW, .int (bI kn), .int (nI (rk)), .ref aR, .ref aP, .ref aH, .ref aK, .ref aE, .ref aY, .ref aN, .ref aQ, .ref aB, .ref aI, .ref aD])), (aT, .inl (cI, 30, .inl (fun j => nI (st j))))] U.heap ∧ va_K (dC, dI) vwCl [(cI, .int), (cZ, .boolean)] U ∧ va_D (fun _ => True) [(m0, .inr (5, [.int (th), .int (nI (n)), .int (nI (q)), .ref aJ, .ref aS, .ref aT, .ref aW, .int (bI kn), .int (nI (rk)), .ref aR, .ref aP, .ref aH, .ref aK, .ref aE, .ref aY, .ref aN, .ref aQ, .ref aB, .ref aI, .ref aD])), (aT, .inl (cI, 30, .inl (fun j => nI (st j))))])) (va_Qi (fun (z : Int32) (u : Bool × (Nat → Nat)) => (inb n x = false ∧ u = (true, st) ∧ z = nI 0) ∨ ∃ j : Nat, j < n ∧ x = nI j ∧ u.1 = false ∧ ((inb q v = false ∧ z = nI 0 ∧ u.2 = st) ∨ ∃ k : Nat, k < q ∧ v = nI k ∧ z = nI 1 ∧ u.2 = va_up st j k)) (fun u t => va_P (dC, dI) vwCl [(m0, .inr (5, [.int (bI u.1), .int (nI (n)), .int (nI (q)), .ref aJ, .ref aS, .ref aT, .ref aW, .int (bI kn), .int (nI (rk)), .ref aR, .ref aP, .ref aH, .ref aK, .ref aE, .ref aY, .ref aN, .ref aQ, .ref aB, .ref aI, .ref aD])), (aT, .inl (cI, 30, .inl (fun j => nI (u.2 j))))] t.heap ∧ va_K (dC, dI) vwCl [(cI, .int), (cZ, .boolean)] t ∧ va_D (va_A [(m0, .inr (5, [.int (th), .int (nI (n)), .int (nI (q)), .ref aJ, .ref aS, .ref aT, .ref aW, .int (bI kn), .int (nI (rk)), .ref aR, .ref aP, .ref aH, .ref aK, .ref aE, .ref aY, .ref aN, .ref aQ, .ref aB, .ref aI, .ref aD])), (aT, .inl (cI, 30, .inl (fun j => nI (st j))))] sz) [(m0, .inr (5, [.int (bI u.1), .int (nI (n)), .int (nI (q)), .ref aJ, .ref aS, .ref aT, .ref aW, .int (bI kn), .int (nI (rk)), .ref aR, .ref aP, .ref aH, .ref aK, .ref aE, .ref aY, .ref aN, .ref aQ, .ref aB, .ref aI, .ref aD])), (aT, .inl (cI, 30, .inl (fun j => nI (u.2 j))))]) (va_A [(m0, .inr (5, [.int (th), .int (nI (n)), .int (nI (q)), .ref aJ, .ref aS, .ref aT, .ref aW, .int (bI kn), .int (nI (rk)), .ref aR, .ref aP, .ref aH, .ref aK, .ref aE, .ref aY, .ref aN, .ref aQ, .ref aB, .ref aI, .ref aD])), (aT, .inl (cI, 30, .inl (fun j => nI (st j))))] sz)) 0 0 (va_A [(m0, .inr (5, [.int (th), .int (nI (n)), .int (nI (q)), .ref aJ, .ref aS, .ref aT, .ref aW, .int (bI kn), .int (nI (rk)), .ref aR, .ref aP, .ref aH, .ref aK, .ref aE, .ref aY, .ref aN, .ref aQ, .ref aB, .ref aI, .ref aD])), (aT, .inl (cI, 30, .inl (fun j => nI (st j))))] sz) := by
  refine Met.ofW (cc := cX4_set) (maxL := 3) (ret := (some .boolean)) (by decide) rfl ?_
  intro zp ze s m args below meth zc s₁ B hml hv
  obtain ⟨hargs, hsz, hP, hK, hD0⟩ := hv
  have hx := B.exec
  have hb := B.bytes
  have hr := B.returns
  have hts := atoms_spec (ws := wsX4_set) B.pre
  have hown : s.vm.findClass RX4 = some m.cls := findClass_of_methodNamed B.named
  have hlocks := B.notSynchronized
  subst hsz
  obtain ⟨Q, hQ⟩ : ∃ Q, Q = MQ below (va_Qi (fun (z : Int32) (u : Bool × (Nat → Nat)) => (inb n x = false ∧ u = (true, st) ∧ z = nI 0) ∨ ∃ j : Nat, j < n ∧ x = nI j ∧ u.1 = false ∧ ((inb q v = false ∧ z = nI 0 ∧ u.2 = st) ∨ ∃ k : Nat, k < q ∧ v = nI k ∧ z = nI 1 ∧ u.2 = va_up st j k)) (fun u t => va_P (dC, dI) vwCl [(m0, .inr (5, [.int (bI u.1), .int (nI (n)), .int (nI (q)), .ref aJ, .ref aS, .ref aT, .ref aW, .int (bI kn), .int (nI (rk)), .ref aR, .ref aP, .ref aH, .ref aK, .ref aE, .ref aY, .ref aN, .ref aQ, .ref aB, .ref aI, .ref aD])), (aT, .inl (cI, 30, .inl (fun j => nI (u.2 j))))] t.heap ∧ va_K (dC, dI) vwCl [(cI, .int), (cZ, .boolean)] t ∧ va_D (va_A [(m0, .inr (5, [.int (th), .int (nI (n)), .int (nI (q)), .ref aJ, .ref aS, .ref aT, .ref aW, .int (bI kn), .int (nI (rk)), .ref aR, .ref aP, .ref aH, .ref aK, .ref aE, .ref aY, .ref aN, .ref aQ, .ref aB, .ref aI, .ref aD])), (aT, .inl (cI, 30, .inl (fun j => nI (st j))))] s.heap.size) [(m0, .inr (5, [.int (bI u.1), .int (nI (n)), .int (nI (q)), .ref aJ, .ref aS, .ref aT, .ref aW, .int (bI kn), .int (nI (rk)), .ref aR, .ref aP, .ref aH, .ref aK, .ref aE, .ref aY, .ref aN, .ref aQ, .ref aB, .ref aI, .ref aD])), (aT, .inl (cI, 30, .inl (fun j => nI (u.2 j))))]) (va_A [(m0, .inr (5, [.int (th), .int (nI (n)), .int (nI (q)), .ref aJ, .ref aS, .ref aT, .ref aW, .int (bI kn), .int (nI (rk)), .ref aR, .ref aP, .ref aH, .ref aK, .ref aE, .ref aY, .ref aN, .ref aQ, .ref aB, .ref aI, .ref aD])), (aT, .inl (cI, 30, .inl (fun j => nI (st j))))] s.heap.size)) args s 0 0 (va_A [(m0, .inr (5, [.int (th), .int (nI (n)), .int (nI (q)), .ref aJ, .ref aS, .ref aT, .ref aW, .int (bI kn), .int (nI (rk)), .ref aR, .ref aP, .ref aH, .ref aK, .ref aE, .ref aY, .ref aN, .ref aQ, .ref aB, .ref aI, .ref aD])), (aT, .inl (cI, 30, .inl (fun j => nI (st j))))] s.heap.size) := ⟨_, rfl⟩
  rw [← hQ]
  have hD := hD0.self (sz := s.heap.size)
  generalize hAe : (va_A [(m0, .inr (5, [.int (th), .int (nI (n)), .int (nI (q)), .ref aJ, .ref aS, .ref aT, .ref aW, .int (bI kn), .int (nI (rk)), .ref aR, .ref aP, .ref aH, .ref aK, .ref aE, .ref aY, .ref aN, .ref aQ, .ref aB, .ref aI, .ref aD])), (aT, .inl (cI, 30, .inl (fun j => nI (st j))))] s.heap.size) = A at hD hQ
  have hA : ∀ q : Nat, s.heap.size ≤ q → A q := fun q h => by rw [← hAe]; exact Or.inr h
  have hS : va_S A s.heap s.heap [] := va_S.rf
  have hl := lv_entry ([.ref m0, .int (x), .int (v)]) (n := 3) (Nat.le_of_ble_eq_true rfl)
  generalize hen : entryFrame m args 3 = fr
  rw [hargs, lg_entry_eq] at hen
  subst hen
  generalize (lg_sl ([.ref m0, .int (x), .int (v)]) ++ List.replicate (3 - (lg_sl ([.ref m0, .int (x), .int (v)])).length) Slot.unset).toArray = ls at hl ⊢
  have hl : lv_has ls 3 [(0, .ref m0), (1, .int (x)), (2, .int (v))] := hl
  have hinX4 : ∀ w ∈ wsX40, w ∈ wsX4_set := by decide +kernel
  have hf16 := hts (.fieldLink RX4 16 "LightRowsModel" "states" "[I") (by decide +kernel)
  have hf56 := hts (.fieldLink RX4 56 "LightRowsModel" "lamps" "I") (by decide +kernel)
  have hf60 := hts (.fieldLink RX4 60 "LightRowsModel" "p" "I") (by decide +kernel)
  have hf63 := hts (.fieldLink RX4 63 "LightRowsModel" "thrown" "I") (by decide +kernel)
  refine lv_aload_n hx hb dX4_set_0 rfl (lv_at hl 0 rfl) ?_
  refine lv_aload_n hx hb dX4_set_1 rfl (lv_at hl 0 rfl) ?_
  refine lv_iload_n hx hb dX4_set_2 rfl (lv_at hl 1 rfl) ?_
  have hPc := hP.sub (ws' := [(m0, .inr (5, [.int (th), .int (nI (n)), .int (nI (q)), .ref aJ, .ref aS, .ref aT, .ref aW, .int (bI kn), .int (nI (rk)), .ref aR, .ref aP, .ref aH, .ref aK, .ref aE, .ref aY, .ref aN, .ref aQ, .ref aB, .ref aI, .ref aD]))]) [0] rfl
  have hDc := hD.sub (ws' := [(m0, .inr (5, [.int (th), .int (nI (n)), .int (nI (q)), .ref aJ, .ref aS, .ref aT, .ref aW, .int (bI kn), .int (nI (rk)), .ref aR, .ref aP, .ref aH, .ref aK, .ref aE, .ref aY, .ref aN, .ref aQ, .ref aB, .ref aI, .ref aD]))]) [0] (by decide) rfl
  have hFc := va_free (wc := [(m0, .inr (5, [.int (th), .int (nI (n)), .int (nI (q)), .ref aJ, .ref aS, .ref aT, .ref aW, .int (bI kn), .int (nI (rk)), .ref aR, .ref aP, .ref aH, .ref aK, .ref aE, .ref aY, .ref aN, .ref aQ, .ref aB, .ref aI, .ref aD]))]) hD hS hA [0] rfl
  have hKc := hK.sub (tys' := [(cI, .int), (cZ, .boolean)]) [0, 1] rfl
  refine va_calli (va_runV (As := [.int (x)]) (rest := [.ref m0]) ⟨hx, hb, hml, hown, hts⟩ (c_X4_isLamp l dC dI s.heap.size m0 aJ aS aT aW aR aP aH aK aE aY aN aQ aB aI aD n q rk th kn cI cZ x hn) (cwV 1 hts gX4_set_X4_isLamp rfl rfl rfl (by decide +kernel) ⟨Nat.le_of_ble_eq_true rfl, Nat.le_of_ble_eq_true rfl⟩) ⟨fun a U g mk q => by obtain ⟨q0, q1, qP, qK, qD⟩ := q; exact ⟨q0, q1, qP, va_K.moved (u := U) (U := U.calling g mk a) (Vm.Alike.refl U.vm) qK, qD⟩, va_recv hKc hPc (ci := 5) (q0 := 0) rfl rfl, fun U hU hW => ⟨rfl, by rw [hU], by rw [hU]; exact hPc, va_K.moved hW.alike hKc, hDc.weaken (fun _ _ _ _ => trivial)⟩⟩ rfl rfl hl.1 rfl (lv_room (Nat.le_of_ble_eq_true rfl)) dX4_set_3 ⟨Nat.le_of_ble_eq_true rfl, Nat.le_of_ble_eq_true rfl⟩) hS (fun q _ h => hFc q h) hFc (fun r1 uu t H1 locs ht hvm hw hB hz1 hk1 hS => ?_)
  obtain ⟨hP1, hK1, hD1⟩ := hB
  rw [ht] at hP1
  try dsimp only at hw
  obtain ⟨hP, hD⟩ := va_join (wr := [(aT, .inl (cI, 30, .inl (fun j => nI (st j))))]) (w1 := [(m0, .inr (5, [.int (th), .int (nI (n)), .int (nI (q)), .ref aJ, .ref aS, .ref aT, .ref aW, .int (bI kn), .int (nI (rk)), .ref aR, .ref aP, .ref aH, .ref aK, .ref aE, .ref aY, .ref aN, .ref aQ, .ref aB, .ref aI, .ref aD]))]) hP hD [0] [1] rfl rfl (by decide) (by decide) hk1 hFc hP1 hD1
  generalize H1 = H at hP hS ⊢
  have hP := hP.sub (ws' := [(m0, .inr (5, [.int (th), .int (nI (n)), .int (nI (q)), .ref aJ, .ref aS, .ref aT, .ref aW, .int (bI kn), .int (nI (rk)), .ref aR, .ref aP, .ref aH, .ref aK, .ref aE, .ref aY, .ref aN, .ref aQ, .ref aB, .ref aI, .ref aD])), (aT, .inl (cI, 30, .inl (fun j => nI (st j))))]) [1, 0] rfl
  have hD := hD.sub (ws' := [(m0, .inr (5, [.int (th), .int (nI (n)), .int (nI (q)), .ref aJ, .ref aS, .ref aT, .ref aW, .int (bI kn), .int (nI (rk)), .ref aR, .ref aP, .ref aH, .ref aK, .ref aE, .ref aY, .ref aN, .ref aQ, .ref aB, .ref aI, .ref aD])), (aT, .inl (cI, 30, .inl (fun j => nI (st j))))]) [1, 0] (by decide) rfl
  have hP : va_P (dC, dI) vwCl [(m0, .inr (5, [.int (th), .int (nI (n)), .int (nI (q)), .ref aJ, .ref aS, .ref aT, .ref aW, .int (bI kn), .int (nI (rk)), .ref aR, .ref aP, .ref aH, .ref aK, .ref aE, .ref aY, .ref aN, .ref aQ, .ref aB, .ref aI, .ref aD])), (aT, .inl (cI, 30, .inl (fun j => nI (st j))))] H := hP
  have hD : va_D A [(m0, .inr (5, [.int (th), .int (nI (n)), .int (nI (q)), .ref aJ, .ref aS, .ref aT, .ref aW, .int (bI kn), .int (nI (rk)), .ref aR, .ref aP, .ref aH, .ref aK, .ref aE, .ref aY, .ref aN, .ref aQ, .ref aB, .ref aI, .ref aD])), (aT, .inl (cI, 30, .inl (fun j => nI (st j))))] := hD
  subst hw
  rcases hib : inb n x with _ | _
  · skip
    refine tp_i (y := nI 0) rfl ?_
    refine lv_if_ne (tgt := 13) hx hb dX4_set_6 (by decide) (fun c => ?_) (fun c => ?_)
    · skip
      have c : 0 ≠ 0 := fun h => c ((nI_eq (a := 0) (b := 0) (by omega) (by omega)).mpr h)
      exact absurd rfl c
    · skip
      have c : 0 = 0 := (nI_eq (a := 0) (b := 0) (by omega) (by omega)).mp c
      refine lv_iconst (v := nI 1) hx hb dX4_set_9 (by decide) ?_
      refine lv_goto (tgt := 14) hx hb dX4_set_10 (by decide) ?_
      refine tp_i (y := bI true) rfl ?_
      have hPc := hP.sub (ws' := [(m0, .inr (5, [.int (th), .int (nI (n)), .int (nI (q)), .ref aJ, .ref aS, .ref aT, .ref aW, .int (bI kn), .int (nI (rk)), .ref aR, .ref aP, .ref aH, .ref aK, .ref aE, .ref aY, .ref aN, .ref aQ, .ref aB, .ref aI, .ref aD]))]) [0] rfl
      have hDc := hD.sub (ws' := [(m0, .inr (5, [.int (th), .int (nI (n)), .int (nI (q)), .ref aJ, .ref aS, .ref aT, .ref aW, .int (bI kn), .int (nI (rk)), .ref aR, .ref aP, .ref aH, .ref aK, .ref aE, .ref aY, .ref aN, .ref aQ, .ref aB, .ref aI, .ref aD]))]) [0] (by decide) rfl
      have hFc := va_free (wc := [(m0, .inr (5, [.int (th), .int (nI (n)), .int (nI (q)), .ref aJ, .ref aS, .ref aT, .ref aW, .int (bI kn), .int (nI (rk)), .ref aR, .ref aP, .ref aH, .ref aK, .ref aE, .ref aY, .ref aN, .ref aQ, .ref aB, .ref aI, .ref aD]))]) hD hS hA [0] rfl
      have hKc := hK.sub (tys' := [(cI, .int), (cZ, .boolean)]) [0, 1] rfl
      refine va_calli (va_runV (As := [.int (bI true)]) (rest := []) ⟨hx, hb, hml, hown, hts⟩ (c_X4_fails l dC dI H.size m0 aJ aS aT aW aR aP aH aK aE aY aN aQ aB aI aD n q rk th kn cI cZ true) (cwV 1 hts gX4_set_X4_fails rfl rfl rfl (by decide +kernel) ⟨Nat.le_of_ble_eq_true rfl, Nat.le_of_ble_eq_true rfl⟩) ⟨fun a U g mk q => by obtain ⟨q0, q1, qP, qK, qD⟩ := q; exact ⟨q0, q1, qP, va_K.moved (u := U) (U := U.calling g mk a) (Vm.Alike.refl U.vm) qK, qD⟩, va_recv hKc hPc (ci := 5) (q0 := 0) rfl rfl, fun U hU hW => ⟨rfl, by rw [hU], by rw [hU]; exact hPc, va_K.moved hW.alike hKc, hDc.weaken (fun _ _ _ _ => trivial)⟩⟩ rfl rfl hl.1 rfl (lv_room (Nat.le_of_ble_eq_true rfl)) dX4_set_14 ⟨Nat.le_of_ble_eq_true rfl, Nat.le_of_ble_eq_true rfl⟩) hS (fun q _ h => hFc q h) hFc (fun r2 uu t H1 locs ht hvm hw hB hz1 hk1 hS => ?_)
      obtain ⟨hP1, hK1, hD1⟩ := hB
      rw [ht] at hP1
      try dsimp only at hw
      obtain ⟨hP, hD⟩ := va_join (wr := [(aT, .inl (cI, 30, .inl (fun j => nI (st j))))]) (w1 := [(m0, .inr (5, [.int (bI true), .int (nI (n)), .int (nI (q)), .ref aJ, .ref aS, .ref aT, .ref aW, .int (bI kn), .int (nI (rk)), .ref aR, .ref aP, .ref aH, .ref aK, .ref aE, .ref aY, .ref aN, .ref aQ, .ref aB, .ref aI, .ref aD]))]) hP hD [0] [1] rfl rfl (by decide) (by decide) hk1 hFc hP1 hD1
      generalize H1 = H at hP hS ⊢
      have hP := hP.sub (ws' := [(m0, .inr (5, [.int (bI true), .int (nI (n)), .int (nI (q)), .ref aJ, .ref aS, .ref aT, .ref aW, .int (bI kn), .int (nI (rk)), .ref aR, .ref aP, .ref aH, .ref aK, .ref aE, .ref aY, .ref aN, .ref aQ, .ref aB, .ref aI, .ref aD])), (aT, .inl (cI, 30, .inl (fun j => nI (st j))))]) [1, 0] rfl
      have hD := hD.sub (ws' := [(m0, .inr (5, [.int (bI true), .int (nI (n)), .int (nI (q)), .ref aJ, .ref aS, .ref aT, .ref aW, .int (bI kn), .int (nI (rk)), .ref aR, .ref aP, .ref aH, .ref aK, .ref aE, .ref aY, .ref aN, .ref aQ, .ref aB, .ref aI, .ref aD])), (aT, .inl (cI, 30, .inl (fun j => nI (st j))))]) [1, 0] (by decide) rfl
      have hP : va_P (dC, dI) vwCl [(m0, .inr (5, [.int (bI true), .int (nI (n)), .int (nI (q)), .ref aJ, .ref aS, .ref aT, .ref aW, .int (bI kn), .int (nI (rk)), .ref aR, .ref aP, .ref aH, .ref aK, .ref aE, .ref aY, .ref aN, .ref aQ, .ref aB, .ref aI, .ref aD])), (aT, .inl (cI, 30, .inl (fun j => nI (st j))))] H := hP
      have hD : va_D A [(m0, .inr (5, [.int (bI true), .int (nI (n)), .int (nI (q)), .ref aJ, .ref aS, .ref aT, .ref aW, .int (bI kn), .int (nI (rk)), .ref aR, .ref aP, .ref aH, .ref aK, .ref aE, .ref aY, .ref aN, .ref aQ, .ref aB, .ref aI, .ref aD])), (aT, .inl (cI, 30, .inl (fun j => nI (st j))))] := hD
      subst hw
      refine tp_i (y := nI 1) rfl ?_
      refine lv_if_ne (tgt := 28) hx hb dX4_set_17 (by decide) (fun c5 => ?_) (fun c5 => ?_)
      · skip
        have c5 : 1 ≠ 0 := fun h => c5 ((nI_eq (a := 1) (b := 0) (by omega) (by omega)).mpr h)
        refine lv_iconst (v := nI 0) hx hb dX4_set_28 (by decide) ?_
        rw [hQ]
        exact W.zret (v := nI (0)) (ty := .boolean) hx hb hr rfl (fun t ht hW => ⟨⟨_, (true, st), rfl, Or.inl ⟨hib, rfl, rfl⟩, by rw [ht]; exact hP, va_K.moved hW.alike hK, hD⟩, hS.F ht⟩) hS.2.2 dX4_set_29
      · skip
        have c5 : 1 = 0 := (nI_eq (a := 1) (b := 0) (by omega) (by omega)).mp c5
        exact absurd c5 (by decide)
  · skip
    refine tp_i (y := nI 1) rfl ?_
    obtain ⟨ja, hja, rfl⟩ := inb_ex (show n < 100 by omega) hib
    refine lv_if_ne (tgt := 13) hx hb dX4_set_6 (by decide) (fun c => ?_) (fun c => ?_)
    · skip
      have c : 1 ≠ 0 := fun h => c ((nI_eq (a := 1) (b := 0) (by omega) (by omega)).mpr h)
      refine lv_iconst (v := nI 0) hx hb dX4_set_13 (by decide) ?_
      refine tp_i (y := bI false) rfl ?_
      have hPc := hP.sub (ws' := [(m0, .inr (5, [.int (th), .int (nI (n)), .int (nI (q)), .ref aJ, .ref aS, .ref aT, .ref aW, .int (bI kn), .int (nI (rk)), .ref aR, .ref aP, .ref aH, .ref aK, .ref aE, .ref aY, .ref aN, .ref aQ, .ref aB, .ref aI, .ref aD]))]) [0] rfl
      have hDc := hD.sub (ws' := [(m0, .inr (5, [.int (th), .int (nI (n)), .int (nI (q)), .ref aJ, .ref aS, .ref aT, .ref aW, .int (bI kn), .int (nI (rk)), .ref aR, .ref aP, .ref aH, .ref aK, .ref aE, .ref aY, .ref aN, .ref aQ, .ref aB, .ref aI, .ref aD]))]) [0] (by decide) rfl
      have hFc := va_free (wc := [(m0, .inr (5, [.int (th), .int (nI (n)), .int (nI (q)), .ref aJ, .ref aS, .ref aT, .ref aW, .int (bI kn), .int (nI (rk)), .ref aR, .ref aP, .ref aH, .ref aK, .ref aE, .ref aY, .ref aN, .ref aQ, .ref aB, .ref aI, .ref aD]))]) hD hS hA [0] rfl
      have hKc := hK.sub (tys' := [(cI, .int), (cZ, .boolean)]) [0, 1] rfl
      refine va_calli (va_runV (As := [.int (bI false)]) (rest := []) ⟨hx, hb, hml, hown, hts⟩ (c_X4_fails l dC dI H.size m0 aJ aS aT aW aR aP aH aK aE aY aN aQ aB aI aD n q rk th kn cI cZ false) (cwV 1 hts gX4_set_X4_fails rfl rfl rfl (by decide +kernel) ⟨Nat.le_of_ble_eq_true rfl, Nat.le_of_ble_eq_true rfl⟩) ⟨fun a U g mk q => by obtain ⟨q0, q1, qP, qK, qD⟩ := q; exact ⟨q0, q1, qP, va_K.moved (u := U) (U := U.calling g mk a) (Vm.Alike.refl U.vm) qK, qD⟩, va_recv hKc hPc (ci := 5) (q0 := 0) rfl rfl, fun U hU hW => ⟨rfl, by rw [hU], by rw [hU]; exact hPc, va_K.moved hW.alike hKc, hDc.weaken (fun _ _ _ _ => trivial)⟩⟩ rfl rfl hl.1 rfl (lv_room (Nat.le_of_ble_eq_true rfl)) dX4_set_14 ⟨Nat.le_of_ble_eq_true rfl, Nat.le_of_ble_eq_true rfl⟩) hS (fun q _ h => hFc q h) hFc (fun r3 uu t H1 locs ht hvm hw hB hz1 hk1 hS => ?_)
      obtain ⟨hP1, hK1, hD1⟩ := hB
      rw [ht] at hP1
      try dsimp only at hw
      obtain ⟨hP, hD⟩ := va_join (wr := [(aT, .inl (cI, 30, .inl (fun j => nI (st j))))]) (w1 := [(m0, .inr (5, [.int (bI false), .int (nI (n)), .int (nI (q)), .ref aJ, .ref aS, .ref aT, .ref aW, .int (bI kn), .int (nI (rk)), .ref aR, .ref aP, .ref aH, .ref aK, .ref aE, .ref aY, .ref aN, .ref aQ, .ref aB, .ref aI, .ref aD]))]) hP hD [0] [1] rfl rfl (by decide) (by decide) hk1 hFc hP1 hD1
      generalize H1 = H at hP hS ⊢
      have hP := hP.sub (ws' := [(m0, .inr (5, [.int (bI false), .int (nI (n)), .int (nI (q)), .ref aJ, .ref aS, .ref aT, .ref aW, .int (bI kn), .int (nI (rk)), .ref aR, .ref aP, .ref aH, .ref aK, .ref aE, .ref aY, .ref aN, .ref aQ, .ref aB, .ref aI, .ref aD])), (aT, .inl (cI, 30, .inl (fun j => nI (st j))))]) [1, 0] rfl
      have hD := hD.sub (ws' := [(m0, .inr (5, [.int (bI false), .int (nI (n)), .int (nI (q)), .ref aJ, .ref aS, .ref aT, .ref aW, .int (bI kn), .int (nI (rk)), .ref aR, .ref aP, .ref aH, .ref aK, .ref aE, .ref aY, .ref aN, .ref aQ, .ref aB, .ref aI, .ref aD])), (aT, .inl (cI, 30, .inl (fun j => nI (st j))))]) [1, 0] (by decide) rfl
      have hP : va_P (dC, dI) vwCl [(m0, .inr (5, [.int (bI false), .int (nI (n)), .int (nI (q)), .ref aJ, .ref aS, .ref aT, .ref aW, .int (bI kn), .int (nI (rk)), .ref aR, .ref aP, .ref aH, .ref aK, .ref aE, .ref aY, .ref aN, .ref aQ, .ref aB, .ref aI, .ref aD])), (aT, .inl (cI, 30, .inl (fun j => nI (st j))))] H := hP
      have hD : va_D A [(m0, .inr (5, [.int (bI false), .int (nI (n)), .int (nI (q)), .ref aJ, .ref aS, .ref aT, .ref aW, .int (bI kn), .int (nI (rk)), .ref aR, .ref aP, .ref aH, .ref aK, .ref aE, .ref aY, .ref aN, .ref aQ, .ref aB, .ref aI, .ref aD])), (aT, .inl (cI, 30, .inl (fun j => nI (st j))))] := hD
      subst hw
      refine tp_i (y := nI 0) rfl ?_
      refine lv_if_ne (tgt := 28) hx hb dX4_set_17 (by decide) (fun c5 => ?_) (fun c5 => ?_)
      · skip
        have c5 : 0 ≠ 0 := fun h => c5 ((nI_eq (a := 0) (b := 0) (by omega) (by omega)).mpr h)
        exact absurd rfl c5
      · skip
        have c5 : 0 = 0 := (nI_eq (a := 0) (b := 0) (by omega) (by omega)).mp c5
        refine lv_aload_n hx hb dX4_set_20 rfl (lv_at hl 0 rfl) ?_
        refine lv_iload_n hx hb dX4_set_21 rfl (lv_at hl 2 rfl) ?_
        have hPc := hP.sub (ws' := [(m0, .inr (5, [.int (bI false), .int (nI (n)), .int (nI (q)), .ref aJ, .ref aS, .ref aT, .ref aW, .int (bI kn), .int (nI (rk)), .ref aR, .ref aP, .ref aH, .ref aK, .ref aE, .ref aY, .ref aN, .ref aQ, .ref aB, .ref aI, .ref aD]))]) [0] rfl
        have hDc := hD.sub (ws' := [(m0, .inr (5, [.int (bI false), .int (nI (n)), .int (nI (q)), .ref aJ, .ref aS, .ref aT, .ref aW, .int (bI kn), .int (nI (rk)), .ref aR, .ref aP, .ref aH, .ref aK, .ref aE, .ref aY, .ref aN, .ref aQ, .ref aB, .ref aI, .ref aD]))]) [0] (by decide) rfl
        have hFc := va_free (wc := [(m0, .inr (5, [.int (bI false), .int (nI (n)), .int (nI (q)), .ref aJ, .ref aS, .ref aT, .ref aW, .int (bI kn), .int (nI (rk)), .ref aR, .ref aP, .ref aH, .ref aK, .ref aE, .ref aY, .ref aN, .ref aQ, .ref aB, .ref aI, .ref aD]))]) hD hS hA [0] rfl
        have hKc := hK.sub (tys' := [(cI, .int), (cZ, .boolean)]) [0, 1] rfl
        refine va_calli (va_runV (As := [.int (v)]) (rest := []) ⟨hx, hb, hml, hown, hts⟩ (c_X4_isState l dC dI H.size m0 aJ aS aT aW aR aP aH aK aE aY aN aQ aB aI aD n q rk (bI false) kn cI cZ v hq) (cwV 1 hts gX4_set_X4_isState rfl rfl rfl (by decide +kernel) ⟨Nat.le_of_ble_eq_true rfl, Nat.le_of_ble_eq_true rfl⟩) ⟨fun a U g mk q => by obtain ⟨q0, q1, qP, qK, qD⟩ := q; exact ⟨q0, q1, qP, va_K.moved (u := U) (U := U.calling g mk a) (Vm.Alike.refl U.vm) qK, qD⟩, va_recv hKc hPc (ci := 5) (q0 := 0) rfl rfl, fun U hU hW => ⟨rfl, by rw [hU], by rw [hU]; exact hPc, va_K.moved hW.alike hKc, hDc.weaken (fun _ _ _ _ => trivial)⟩⟩ rfl rfl hl.1 rfl (lv_room (Nat.le_of_ble_eq_true rfl)) dX4_set_22 ⟨Nat.le_of_ble_eq_true rfl, Nat.le_of_ble_eq_true rfl⟩) hS (fun q _ h => hFc q h) hFc (fun r4 uu t H1 locs ht hvm hw hB hz1 hk1 hS => ?_)
        obtain ⟨hP1, hK1, hD1⟩ := hB
        rw [ht] at hP1
        try dsimp only at hw
        obtain ⟨hP, hD⟩ := va_join (wr := [(aT, .inl (cI, 30, .inl (fun j => nI (st j))))]) (w1 := [(m0, .inr (5, [.int (bI false), .int (nI (n)), .int (nI (q)), .ref aJ, .ref aS, .ref aT, .ref aW, .int (bI kn), .int (nI (rk)), .ref aR, .ref aP, .ref aH, .ref aK, .ref aE, .ref aY, .ref aN, .ref aQ, .ref aB, .ref aI, .ref aD]))]) hP hD [0] [1] rfl rfl (by decide) (by decide) hk1 hFc hP1 hD1
        generalize H1 = H at hP hS ⊢
        have hP := hP.sub (ws' := [(m0, .inr (5, [.int (bI false), .int (nI (n)), .int (nI (q)), .ref aJ, .ref aS, .ref aT, .ref aW, .int (bI kn), .int (nI (rk)), .ref aR, .ref aP, .ref aH, .ref aK, .ref aE, .ref aY, .ref aN, .ref aQ, .ref aB, .ref aI, .ref aD])), (aT, .inl (cI, 30, .inl (fun j => nI (st j))))]) [1, 0] rfl
        have hD := hD.sub (ws' := [(m0, .inr (5, [.int (bI false), .int (nI (n)), .int (nI (q)), .ref aJ, .ref aS, .ref aT, .ref aW, .int (bI kn), .int (nI (rk)), .ref aR, .ref aP, .ref aH, .ref aK, .ref aE, .ref aY, .ref aN, .ref aQ, .ref aB, .ref aI, .ref aD])), (aT, .inl (cI, 30, .inl (fun j => nI (st j))))]) [1, 0] (by decide) rfl
        have hP : va_P (dC, dI) vwCl [(m0, .inr (5, [.int (bI false), .int (nI (n)), .int (nI (q)), .ref aJ, .ref aS, .ref aT, .ref aW, .int (bI kn), .int (nI (rk)), .ref aR, .ref aP, .ref aH, .ref aK, .ref aE, .ref aY, .ref aN, .ref aQ, .ref aB, .ref aI, .ref aD])), (aT, .inl (cI, 30, .inl (fun j => nI (st j))))] H := hP
        have hD : va_D A [(m0, .inr (5, [.int (bI false), .int (nI (n)), .int (nI (q)), .ref aJ, .ref aS, .ref aT, .ref aW, .int (bI kn), .int (nI (rk)), .ref aR, .ref aP, .ref aH, .ref aK, .ref aE, .ref aY, .ref aN, .ref aQ, .ref aB, .ref aI, .ref aD])), (aT, .inl (cI, 30, .inl (fun j => nI (st j))))] := hD
        subst hw
        rcases hiv : inb q v with _ | _
        · skip
          refine tp_i (y := nI 0) rfl ?_
          refine lv_if_ne (tgt := 30) hx hb dX4_set_25 (by decide) (fun c6 => ?_) (fun c6 => ?_)
          · skip
            have c6 : 0 ≠ 0 := fun h => c6 ((nI_eq (a := 0) (b := 0) (by omega) (by omega)).mpr h)
            exact absurd rfl c6
          · skip
            have c6 : 0 = 0 := (nI_eq (a := 0) (b := 0) (by omega) (by omega)).mp c6
            refine lv_iconst (v := nI 0) hx hb dX4_set_28 (by decide) ?_
            rw [hQ]
            exact W.zret (v := nI (0)) (ty := .boolean) hx hb hr rfl (fun t ht hW => ⟨⟨_, (false, st), rfl, Or.inr ⟨ja, hja, rfl, rfl, Or.inl ⟨hiv, rfl, rfl⟩⟩, by rw [ht]; exact hP, va_K.moved hW.alike hK, hD⟩, hS.F ht⟩) hS.2.2 dX4_set_29
        · skip
          refine tp_i (y := nI 1) rfl ?_
          obtain ⟨k, hk, rfl⟩ := inb_ex hq hiv
          refine lv_if_ne (tgt := 30) hx hb dX4_set_25 (by decide) (fun c6 => ?_) (fun c6 => ?_)
          · skip
            have c6 : 1 ≠ 0 := fun h => c6 ((nI_eq (a := 1) (b := 0) (by omega) (by omega)).mpr h)
            refine lv_aload_n hx hb dX4_set_30 rfl (lv_at hl 0 rfl) ?_
            refine va_get (D := (dC, dI)) (ci := 5) (v := .ref aT) (C := RX4) (T := TX4) (N := 20) hx hb hts hinX4 hown hK hP 0 rfl rfl 5 (by decide) hf16 (fun _ h9 => h9) rfl dX4_set_31 ?_
            refine lv_iload_n hx hb dX4_set_34 rfl (lv_at hl 1 rfl) ?_
            refine lv_iload_n hx hb dX4_set_35 rfl (lv_at hl 2 rfl) ?_
            refine ra_st (g := nI) (F := st) (v := k) hx hb hK hP hD hS 1 0 rfl rfl (by omega) (by omega) dX4_set_36 (fun H locs hP hD hS => ?_)
            have hP : va_P (dC, dI) vwCl [(m0, .inr (5, [.int (bI false), .int (nI (n)), .int (nI (q)), .ref aJ, .ref aS, .ref aT, .ref aW, .int (bI kn), .int (nI (rk)), .ref aR, .ref aP, .ref aH, .ref aK, .ref aE, .ref aY, .ref aN, .ref aQ, .ref aB, .ref aI, .ref aD])), (aT, .inl (cI, 30, .inl (fun j => nI ((va_up st ja (k)) j))))] H := hP
            have hD : va_D A [(m0, .inr (5, [.int (bI false), .int (nI (n)), .int (nI (q)), .ref aJ, .ref aS, .ref aT, .ref aW, .int (bI kn), .int (nI (rk)), .ref aR, .ref aP, .ref aH, .ref aK, .ref aE, .ref aY, .ref aN, .ref aQ, .ref aB, .ref aI, .ref aD])), (aT, .inl (cI, 30, .inl (fun j => nI ((va_up st ja (k)) j))))] := hD
            refine lv_iconst (v := nI 1) hx hb dX4_set_37 (by decide) ?_
            rw [hQ]
            exact W.zret (v := nI (1)) (ty := .boolean) hx hb hr rfl (fun t ht hW => ⟨⟨_, (false, va_up st ja k), rfl, Or.inr ⟨ja, hja, rfl, rfl, Or.inr ⟨k, hk, rfl, rfl, rfl⟩⟩, by rw [ht]; exact hP, va_K.moved hW.alike hK, hD⟩, hS.F ht⟩) hS.2.2 dX4_set_38
          · skip
            have c6 : 1 = 0 := (nI_eq (a := 1) (b := 0) (by omega) (by omega)).mp c6
            exact absurd c6 (by decide)
    · skip
      have c : 1 = 0 := (nI_eq (a := 1) (b := 0) (by omega) (by omega)).mp c
      exact absurd c (by decide)

set_option maxHeartbeats 4000000 in
set_option maxRecDepth 100000 in
theorem c_X4_want (l : Launch) (dC : Nat → ClassId) (dI : Nat → Nat → Nat) (sz : Nat) (m0 aJ aS aT aW aR aP aH aK aE aY aN aQ aB aI aD n q rk : Nat) (th : Int32) (kn : Bool) (cI cZ : ClassId) (wt : Nat → Nat) (x v : Int32) (hn : n < 31) (hq : q < 100) : Met l yX4_want wsX4_want ({ frames := 1, cells := 0, slots := 0, locals := 21 }) (va_Pc [.ref m0, .int (x), .int (v)] (fun U => U.heap.size = sz ∧ va_P (dC, dI) vwCl [(m0, .inr (5, [.int (th), .int (nI (n)), .int (nI (q)), .ref aJ, .ref aS, .ref aT, .ref aW, .int (bI kn), .int (nI (rk)), .ref aR, .ref aP, .ref aH, .ref aK, .ref aE, .ref aY, .ref aN, .ref aQ, .ref aB, .ref aI, .ref aD])), (aW, .inl (cI, 30, .inl (fun j => nI (wt j))))] U.heap ∧ va_K (dC, dI) vwCl [(cI, .int), (cZ, .boolean)] U ∧ va_D (fun _ => True) [(m0, .inr (5, [.int (th), .int (nI (n)), .int (nI (q)), .ref aJ, .ref aS, .ref aT, .ref aW, .int (bI kn), .int (nI (rk)), .ref aR, .ref aP, .ref aH, .ref aK, .ref aE, .ref aY, .ref aN, .ref aQ, .ref aB, .ref aI, .ref aD])), (aW, .inl (cI, 30, .inl (fun j => nI (wt j))))])) (va_Qi (fun (z : Int32) (u : Bool × (Nat → Nat)) => (inb n x = false ∧ u = (true, wt) ∧ z = nI 0) ∨ ∃ j : Nat, j < n ∧ x = nI j ∧ u.1 = false ∧ ((inb q v = false ∧ z = nI 0 ∧ u.2 = wt) ∨ ∃ k : Nat, k < q ∧ v = nI k ∧ z = nI 1 ∧ u.2 = va_up wt j k)) (fun u t => va_P (dC, dI) vwCl [(m0, .inr (5, [.int (bI u.1), .int (nI (n)), .int (nI (q)), .ref aJ, .ref aS, .ref aT, .ref aW, .int (bI kn), .int (nI (rk)), .ref aR, .ref aP, .ref aH, .ref aK, .ref aE, .ref aY, .ref aN, .ref aQ, .ref aB, .ref aI, .ref aD])), (aW, .inl (cI, 30, .inl (fun j => nI (u.2 j))))] t.heap ∧ va_K (dC, dI) vwCl [(cI, .int), (cZ, .boolean)] t ∧ va_D (va_A [(m0, .inr (5, [.int (th), .int (nI (n)), .int (nI (q)), .ref aJ, .ref aS, .ref aT, .ref aW, .int (bI kn), .int (nI (rk)), .ref aR, .ref aP, .ref aH, .ref aK, .ref aE, .ref aY, .ref aN, .ref aQ, .ref aB, .ref aI, .ref aD])), (aW, .inl (cI, 30, .inl (fun j => nI (wt j))))] sz) [(m0, .inr (5, [.int (bI u.1), .int (nI (n)), .int (nI (q)), .ref aJ, .ref aS, .ref aT, .ref aW, .int (bI kn), .int (nI (rk)), .ref aR, .ref aP, .ref aH, .ref aK, .ref aE, .ref aY, .ref aN, .ref aQ, .ref aB, .ref aI, .ref aD])), (aW, .inl (cI, 30, .inl (fun j => nI (u.2 j))))]) (va_A [(m0, .inr (5, [.int (th), .int (nI (n)), .int (nI (q)), .ref aJ, .ref aS, .ref aT, .ref aW, .int (bI kn), .int (nI (rk)), .ref aR, .ref aP, .ref aH, .ref aK, .ref aE, .ref aY, .ref aN, .ref aQ, .ref aB, .ref aI, .ref aD])), (aW, .inl (cI, 30, .inl (fun j => nI (wt j))))] sz)) 0 0 (va_A [(m0, .inr (5, [.int (th), .int (nI (n)), .int (nI (q)), .ref aJ, .ref aS, .ref aT, .ref aW, .int (bI kn), .int (nI (rk)), .ref aR, .ref aP, .ref aH, .ref aK, .ref aE, .ref aY, .ref aN, .ref aQ, .ref aB, .ref aI, .ref aD])), (aW, .inl (cI, 30, .inl (fun j => nI (wt j))))] sz) := by
  refine Met.ofW (cc := cX4_want) (maxL := 3) (ret := (some .boolean)) (by decide) rfl ?_
  intro zp ze s m args below meth zc s₁ B hml hv
  obtain ⟨hargs, hsz, hP, hK, hD0⟩ := hv
  have hx := B.exec
  have hb := B.bytes
  have hr := B.returns
  have hts := atoms_spec (ws := wsX4_want) B.pre
  have hown : s.vm.findClass RX4 = some m.cls := findClass_of_methodNamed B.named
  have hlocks := B.notSynchronized
  subst hsz
  obtain ⟨Q, hQ⟩ : ∃ Q, Q = MQ below (va_Qi (fun (z : Int32) (u : Bool × (Nat → Nat)) => (inb n x = false ∧ u = (true, wt) ∧ z = nI 0) ∨ ∃ j : Nat, j < n ∧ x = nI j ∧ u.1 = false ∧ ((inb q v = false ∧ z = nI 0 ∧ u.2 = wt) ∨ ∃ k : Nat, k < q ∧ v = nI k ∧ z = nI 1 ∧ u.2 = va_up wt j k)) (fun u t => va_P (dC, dI) vwCl [(m0, .inr (5, [.int (bI u.1), .int (nI (n)), .int (nI (q)), .ref aJ, .ref aS, .ref aT, .ref aW, .int (bI kn), .int (nI (rk)), .ref aR, .ref aP, .ref aH, .ref aK, .ref aE, .ref aY, .ref aN, .ref aQ, .ref aB, .ref aI, .ref aD])), (aW, .inl (cI, 30, .inl (fun j => nI (u.2 j))))] t.heap ∧ va_K (dC, dI) vwCl [(cI, .int), (cZ, .boolean)] t ∧ va_D (va_A [(m0, .inr (5, [.int (th), .int (nI (n)), .int (nI (q)), .ref aJ, .ref aS, .ref aT, .ref aW, .int (bI kn), .int (nI (rk)), .ref aR, .ref aP, .ref aH, .ref aK, .ref aE, .ref aY, .ref aN, .ref aQ, .ref aB, .ref aI, .ref aD])), (aW, .inl (cI, 30, .inl (fun j => nI (wt j))))] s.heap.size) [(m0, .inr (5, [.int (bI u.1), .int (nI (n)), .int (nI (q)), .ref aJ, .ref aS, .ref aT, .ref aW, .int (bI kn), .int (nI (rk)), .ref aR, .ref aP, .ref aH, .ref aK, .ref aE, .ref aY, .ref aN, .ref aQ, .ref aB, .ref aI, .ref aD])), (aW, .inl (cI, 30, .inl (fun j => nI (u.2 j))))]) (va_A [(m0, .inr (5, [.int (th), .int (nI (n)), .int (nI (q)), .ref aJ, .ref aS, .ref aT, .ref aW, .int (bI kn), .int (nI (rk)), .ref aR, .ref aP, .ref aH, .ref aK, .ref aE, .ref aY, .ref aN, .ref aQ, .ref aB, .ref aI, .ref aD])), (aW, .inl (cI, 30, .inl (fun j => nI (wt j))))] s.heap.size)) args s 0 0 (va_A [(m0, .inr (5, [.int (th), .int (nI (n)), .int (nI (q)), .ref aJ, .ref aS, .ref aT, .ref aW, .int (bI kn), .int (nI (rk)), .ref aR, .ref aP, .ref aH, .ref aK, .ref aE, .ref aY, .ref aN, .ref aQ, .ref aB, .ref aI, .ref aD])), (aW, .inl (cI, 30, .inl (fun j => nI (wt j))))] s.heap.size) := ⟨_, rfl⟩
  rw [← hQ]
  have hD := hD0.self (sz := s.heap.size)
  generalize hAe : (va_A [(m0, .inr (5, [.int (th), .int (nI (n)), .int (nI (q)), .ref aJ, .ref aS, .ref aT, .ref aW, .int (bI kn), .int (nI (rk)), .ref aR, .ref aP, .ref aH, .ref aK, .ref aE, .ref aY, .ref aN, .ref aQ, .ref aB, .ref aI, .ref aD])), (aW, .inl (cI, 30, .inl (fun j => nI (wt j))))] s.heap.size) = A at hD hQ
  have hA : ∀ q : Nat, s.heap.size ≤ q → A q := fun q h => by rw [← hAe]; exact Or.inr h
  have hS : va_S A s.heap s.heap [] := va_S.rf
  have hl := lv_entry ([.ref m0, .int (x), .int (v)]) (n := 3) (Nat.le_of_ble_eq_true rfl)
  generalize hen : entryFrame m args 3 = fr
  rw [hargs, lg_entry_eq] at hen
  subst hen
  generalize (lg_sl ([.ref m0, .int (x), .int (v)]) ++ List.replicate (3 - (lg_sl ([.ref m0, .int (x), .int (v)])).length) Slot.unset).toArray = ls at hl ⊢
  have hl : lv_has ls 3 [(0, .ref m0), (1, .int (x)), (2, .int (v))] := hl
  have hinX4 : ∀ w ∈ wsX40, w ∈ wsX4_want := by decide +kernel
  have hf20 := hts (.fieldLink RX4 20 "LightRowsModel" "wanted" "[I") (by decide +kernel)
  have hf56 := hts (.fieldLink RX4 56 "LightRowsModel" "lamps" "I") (by decide +kernel)
  have hf60 := hts (.fieldLink RX4 60 "LightRowsModel" "p" "I") (by decide +kernel)
  have hf63 := hts (.fieldLink RX4 63 "LightRowsModel" "thrown" "I") (by decide +kernel)
  refine lv_aload_n hx hb dX4_want_0 rfl (lv_at hl 0 rfl) ?_
  refine lv_aload_n hx hb dX4_want_1 rfl (lv_at hl 0 rfl) ?_
  refine lv_iload_n hx hb dX4_want_2 rfl (lv_at hl 1 rfl) ?_
  have hPc := hP.sub (ws' := [(m0, .inr (5, [.int (th), .int (nI (n)), .int (nI (q)), .ref aJ, .ref aS, .ref aT, .ref aW, .int (bI kn), .int (nI (rk)), .ref aR, .ref aP, .ref aH, .ref aK, .ref aE, .ref aY, .ref aN, .ref aQ, .ref aB, .ref aI, .ref aD]))]) [0] rfl
  have hDc := hD.sub (ws' := [(m0, .inr (5, [.int (th), .int (nI (n)), .int (nI (q)), .ref aJ, .ref aS, .ref aT, .ref aW, .int (bI kn), .int (nI (rk)), .ref aR, .ref aP, .ref aH, .ref aK, .ref aE, .ref aY, .ref aN, .ref aQ, .ref aB, .ref aI, .ref aD]))]) [0] (by decide) rfl
  have hFc := va_free (wc := [(m0, .inr (5, [.int (th), .int (nI (n)), .int (nI (q)), .ref aJ, .ref aS, .ref aT, .ref aW, .int (bI kn), .int (nI (rk)), .ref aR, .ref aP, .ref aH, .ref aK, .ref aE, .ref aY, .ref aN, .ref aQ, .ref aB, .ref aI, .ref aD]))]) hD hS hA [0] rfl
  have hKc := hK.sub (tys' := [(cI, .int), (cZ, .boolean)]) [0, 1] rfl
  refine va_calli (va_runV (As := [.int (x)]) (rest := [.ref m0]) ⟨hx, hb, hml, hown, hts⟩ (c_X4_isLamp l dC dI s.heap.size m0 aJ aS aT aW aR aP aH aK aE aY aN aQ aB aI aD n q rk th kn cI cZ x hn) (cwV 1 hts gX4_want_X4_isLamp rfl rfl rfl (by decide +kernel) ⟨Nat.le_of_ble_eq_true rfl, Nat.le_of_ble_eq_true rfl⟩) ⟨fun a U g mk q => by obtain ⟨q0, q1, qP, qK, qD⟩ := q; exact ⟨q0, q1, qP, va_K.moved (u := U) (U := U.calling g mk a) (Vm.Alike.refl U.vm) qK, qD⟩, va_recv hKc hPc (ci := 5) (q0 := 0) rfl rfl, fun U hU hW => ⟨rfl, by rw [hU], by rw [hU]; exact hPc, va_K.moved hW.alike hKc, hDc.weaken (fun _ _ _ _ => trivial)⟩⟩ rfl rfl hl.1 rfl (lv_room (Nat.le_of_ble_eq_true rfl)) dX4_want_3 ⟨Nat.le_of_ble_eq_true rfl, Nat.le_of_ble_eq_true rfl⟩) hS (fun q _ h => hFc q h) hFc (fun r1 uu t H1 locs ht hvm hw hB hz1 hk1 hS => ?_)
  obtain ⟨hP1, hK1, hD1⟩ := hB
  rw [ht] at hP1
  try dsimp only at hw
  obtain ⟨hP, hD⟩ := va_join (wr := [(aW, .inl (cI, 30, .inl (fun j => nI (wt j))))]) (w1 := [(m0, .inr (5, [.int (th), .int (nI (n)), .int (nI (q)), .ref aJ, .ref aS, .ref aT, .ref aW, .int (bI kn), .int (nI (rk)), .ref aR, .ref aP, .ref aH, .ref aK, .ref aE, .ref aY, .ref aN, .ref aQ, .ref aB, .ref aI, .ref aD]))]) hP hD [0] [1] rfl rfl (by decide) (by decide) hk1 hFc hP1 hD1
  generalize H1 = H at hP hS ⊢
  have hP := hP.sub (ws' := [(m0, .inr (5, [.int (th), .int (nI (n)), .int (nI (q)), .ref aJ, .ref aS, .ref aT, .ref aW, .int (bI kn), .int (nI (rk)), .ref aR, .ref aP, .ref aH, .ref aK, .ref aE, .ref aY, .ref aN, .ref aQ, .ref aB, .ref aI, .ref aD])), (aW, .inl (cI, 30, .inl (fun j => nI (wt j))))]) [1, 0] rfl
  have hD := hD.sub (ws' := [(m0, .inr (5, [.int (th), .int (nI (n)), .int (nI (q)), .ref aJ, .ref aS, .ref aT, .ref aW, .int (bI kn), .int (nI (rk)), .ref aR, .ref aP, .ref aH, .ref aK, .ref aE, .ref aY, .ref aN, .ref aQ, .ref aB, .ref aI, .ref aD])), (aW, .inl (cI, 30, .inl (fun j => nI (wt j))))]) [1, 0] (by decide) rfl
  have hP : va_P (dC, dI) vwCl [(m0, .inr (5, [.int (th), .int (nI (n)), .int (nI (q)), .ref aJ, .ref aS, .ref aT, .ref aW, .int (bI kn), .int (nI (rk)), .ref aR, .ref aP, .ref aH, .ref aK, .ref aE, .ref aY, .ref aN, .ref aQ, .ref aB, .ref aI, .ref aD])), (aW, .inl (cI, 30, .inl (fun j => nI (wt j))))] H := hP
  have hD : va_D A [(m0, .inr (5, [.int (th), .int (nI (n)), .int (nI (q)), .ref aJ, .ref aS, .ref aT, .ref aW, .int (bI kn), .int (nI (rk)), .ref aR, .ref aP, .ref aH, .ref aK, .ref aE, .ref aY, .ref aN, .ref aQ, .ref aB, .ref aI, .ref aD])), (aW, .inl (cI, 30, .inl (fun j => nI (wt j))))] := hD
  subst hw
  rcases hib : inb n x with _ | _
  · skip
    refine tp_i (y := nI 0) rfl ?_
    refine lv_if_ne (tgt := 13) hx hb dX4_want_6 (by decide) (fun c => ?_) (fun c => ?_)
    · skip
      have c : 0 ≠ 0 := fun h => c ((nI_eq (a := 0) (b := 0) (by omega) (by omega)).mpr h)
      exact absurd rfl c
    · skip
      have c : 0 = 0 := (nI_eq (a := 0) (b := 0) (by omega) (by omega)).mp c
      refine lv_iconst (v := nI 1) hx hb dX4_want_9 (by decide) ?_
      refine lv_goto (tgt := 14) hx hb dX4_want_10 (by decide) ?_
      refine tp_i (y := bI true) rfl ?_
      have hPc := hP.sub (ws' := [(m0, .inr (5, [.int (th), .int (nI (n)), .int (nI (q)), .ref aJ, .ref aS, .ref aT, .ref aW, .int (bI kn), .int (nI (rk)), .ref aR, .ref aP, .ref aH, .ref aK, .ref aE, .ref aY, .ref aN, .ref aQ, .ref aB, .ref aI, .ref aD]))]) [0] rfl
      have hDc := hD.sub (ws' := [(m0, .inr (5, [.int (th), .int (nI (n)), .int (nI (q)), .ref aJ, .ref aS, .ref aT, .ref aW, .int (bI kn), .int (nI (rk)), .ref aR, .ref aP, .ref aH, .ref aK, .ref aE, .ref aY, .ref aN, .ref aQ, .ref aB, .ref aI, .ref aD]))]) [0] (by decide) rfl
      have hFc := va_free (wc := [(m0, .inr (5, [.int (th), .int (nI (n)), .int (nI (q)), .ref aJ, .ref aS, .ref aT, .ref aW, .int (bI kn), .int (nI (rk)), .ref aR, .ref aP, .ref aH, .ref aK, .ref aE, .ref aY, .ref aN, .ref aQ, .ref aB, .ref aI, .ref aD]))]) hD hS hA [0] rfl
      have hKc := hK.sub (tys' := [(cI, .int), (cZ, .boolean)]) [0, 1] rfl
      refine va_calli (va_runV (As := [.int (bI true)]) (rest := []) ⟨hx, hb, hml, hown, hts⟩ (c_X4_fails l dC dI H.size m0 aJ aS aT aW aR aP aH aK aE aY aN aQ aB aI aD n q rk th kn cI cZ true) (cwV 1 hts gX4_want_X4_fails rfl rfl rfl (by decide +kernel) ⟨Nat.le_of_ble_eq_true rfl, Nat.le_of_ble_eq_true rfl⟩) ⟨fun a U g mk q => by obtain ⟨q0, q1, qP, qK, qD⟩ := q; exact ⟨q0, q1, qP, va_K.moved (u := U) (U := U.calling g mk a) (Vm.Alike.refl U.vm) qK, qD⟩, va_recv hKc hPc (ci := 5) (q0 := 0) rfl rfl, fun U hU hW => ⟨rfl, by rw [hU], by rw [hU]; exact hPc, va_K.moved hW.alike hKc, hDc.weaken (fun _ _ _ _ => trivial)⟩⟩ rfl rfl hl.1 rfl (lv_room (Nat.le_of_ble_eq_true rfl)) dX4_want_14 ⟨Nat.le_of_ble_eq_true rfl, Nat.le_of_ble_eq_true rfl⟩) hS (fun q _ h => hFc q h) hFc (fun r2 uu t H1 locs ht hvm hw hB hz1 hk1 hS => ?_)
      obtain ⟨hP1, hK1, hD1⟩ := hB
      rw [ht] at hP1
      try dsimp only at hw
      obtain ⟨hP, hD⟩ := va_join (wr := [(aW, .inl (cI, 30, .inl (fun j => nI (wt j))))]) (w1 := [(m0, .inr (5, [.int (bI true), .int (nI (n)), .int (nI (q)), .ref aJ, .ref aS, .ref aT, .ref aW, .int (bI kn), .int (nI (rk)), .ref aR, .ref aP, .ref aH, .ref aK, .ref aE, .ref aY, .ref aN, .ref aQ, .ref aB, .ref aI, .ref aD]))]) hP hD [0] [1] rfl rfl (by decide) (by decide) hk1 hFc hP1 hD1
      generalize H1 = H at hP hS ⊢
      have hP := hP.sub (ws' := [(m0, .inr (5, [.int (bI true), .int (nI (n)), .int (nI (q)), .ref aJ, .ref aS, .ref aT, .ref aW, .int (bI kn), .int (nI (rk)), .ref aR, .ref aP, .ref aH, .ref aK, .ref aE, .ref aY, .ref aN, .ref aQ, .ref aB, .ref aI, .ref aD])), (aW, .inl (cI, 30, .inl (fun j => nI (wt j))))]) [1, 0] rfl
      have hD := hD.sub (ws' := [(m0, .inr (5, [.int (bI true), .int (nI (n)), .int (nI (q)), .ref aJ, .ref aS, .ref aT, .ref aW, .int (bI kn), .int (nI (rk)), .ref aR, .ref aP, .ref aH, .ref aK, .ref aE, .ref aY, .ref aN, .ref aQ, .ref aB, .ref aI, .ref aD])), (aW, .inl (cI, 30, .inl (fun j => nI (wt j))))]) [1, 0] (by decide) rfl
      have hP : va_P (dC, dI) vwCl [(m0, .inr (5, [.int (bI true), .int (nI (n)), .int (nI (q)), .ref aJ, .ref aS, .ref aT, .ref aW, .int (bI kn), .int (nI (rk)), .ref aR, .ref aP, .ref aH, .ref aK, .ref aE, .ref aY, .ref aN, .ref aQ, .ref aB, .ref aI, .ref aD])), (aW, .inl (cI, 30, .inl (fun j => nI (wt j))))] H := hP
      have hD : va_D A [(m0, .inr (5, [.int (bI true), .int (nI (n)), .int (nI (q)), .ref aJ, .ref aS, .ref aT, .ref aW, .int (bI kn), .int (nI (rk)), .ref aR, .ref aP, .ref aH, .ref aK, .ref aE, .ref aY, .ref aN, .ref aQ, .ref aB, .ref aI, .ref aD])), (aW, .inl (cI, 30, .inl (fun j => nI (wt j))))] := hD
      subst hw
      refine tp_i (y := nI 1) rfl ?_
      refine lv_if_ne (tgt := 28) hx hb dX4_want_17 (by decide) (fun c5 => ?_) (fun c5 => ?_)
      · skip
        have c5 : 1 ≠ 0 := fun h => c5 ((nI_eq (a := 1) (b := 0) (by omega) (by omega)).mpr h)
        refine lv_iconst (v := nI 0) hx hb dX4_want_28 (by decide) ?_
        rw [hQ]
        exact W.zret (v := nI (0)) (ty := .boolean) hx hb hr rfl (fun t ht hW => ⟨⟨_, (true, wt), rfl, Or.inl ⟨hib, rfl, rfl⟩, by rw [ht]; exact hP, va_K.moved hW.alike hK, hD⟩, hS.F ht⟩) hS.2.2 dX4_want_29
      · skip
        have c5 : 1 = 0 := (nI_eq (a := 1) (b := 0) (by omega) (by omega)).mp c5
        exact absurd c5 (by decide)
  · skip
    refine tp_i (y := nI 1) rfl ?_
    obtain ⟨ja, hja, rfl⟩ := inb_ex (show n < 100 by omega) hib
    refine lv_if_ne (tgt := 13) hx hb dX4_want_6 (by decide) (fun c => ?_) (fun c => ?_)
    · skip
      have c : 1 ≠ 0 := fun h => c ((nI_eq (a := 1) (b := 0) (by omega) (by omega)).mpr h)
      refine lv_iconst (v := nI 0) hx hb dX4_want_13 (by decide) ?_
      refine tp_i (y := bI false) rfl ?_
      have hPc := hP.sub (ws' := [(m0, .inr (5, [.int (th), .int (nI (n)), .int (nI (q)), .ref aJ, .ref aS, .ref aT, .ref aW, .int (bI kn), .int (nI (rk)), .ref aR, .ref aP, .ref aH, .ref aK, .ref aE, .ref aY, .ref aN, .ref aQ, .ref aB, .ref aI, .ref aD]))]) [0] rfl
      have hDc := hD.sub (ws' := [(m0, .inr (5, [.int (th), .int (nI (n)), .int (nI (q)), .ref aJ, .ref aS, .ref aT, .ref aW, .int (bI kn), .int (nI (rk)), .ref aR, .ref aP, .ref aH, .ref aK, .ref aE, .ref aY, .ref aN, .ref aQ, .ref aB, .ref aI, .ref aD]))]) [0] (by decide) rfl
      have hFc := va_free (wc := [(m0, .inr (5, [.int (th), .int (nI (n)), .int (nI (q)), .ref aJ, .ref aS, .ref aT, .ref aW, .int (bI kn), .int (nI (rk)), .ref aR, .ref aP, .ref aH, .ref aK, .ref aE, .ref aY, .ref aN, .ref aQ, .ref aB, .ref aI, .ref aD]))]) hD hS hA [0] rfl
      have hKc := hK.sub (tys' := [(cI, .int), (cZ, .boolean)]) [0, 1] rfl
      refine va_calli (va_runV (As := [.int (bI false)]) (rest := []) ⟨hx, hb, hml, hown, hts⟩ (c_X4_fails l dC dI H.size m0 aJ aS aT aW aR aP aH aK aE aY aN aQ aB aI aD n q rk th kn cI cZ false) (cwV 1 hts gX4_want_X4_fails rfl rfl rfl (by decide +kernel) ⟨Nat.le_of_ble_eq_true rfl, Nat.le_of_ble_eq_true rfl⟩) ⟨fun a U g mk q => by obtain ⟨q0, q1, qP, qK, qD⟩ := q; exact ⟨q0, q1, qP, va_K.moved (u := U) (U := U.calling g mk a) (Vm.Alike.refl U.vm) qK, qD⟩, va_recv hKc hPc (ci := 5) (q0 := 0) rfl rfl, fun U hU hW => ⟨rfl, by rw [hU], by rw [hU]; exact hPc, va_K.moved hW.alike hKc, hDc.weaken (fun _ _ _ _ => trivial)⟩⟩ rfl rfl hl.1 rfl (lv_room (Nat.le_of_ble_eq_true rfl)) dX4_want_14 ⟨Nat.le_of_ble_eq_true rfl, Nat.le_of_ble_eq_true rfl⟩) hS (fun q _ h => hFc q h) hFc (fun r3 uu t H1 locs ht hvm hw hB hz1 hk1 hS => ?_)
      obtain ⟨hP1, hK1, hD1⟩ := hB
      rw [ht] at hP1
      try dsimp only at hw
      obtain ⟨hP, hD⟩ := va_join (wr := [(aW, .inl (cI, 30, .inl (fun j => nI (wt j))))]) (w1 := [(m0, .inr (5, [.int (bI false), .int (nI (n)), .int (nI (q)), .ref aJ, .ref aS, .ref aT, .ref aW, .int (bI kn), .int (nI (rk)), .ref aR, .ref aP, .ref aH, .ref aK, .ref aE, .ref aY, .ref aN, .ref aQ, .ref aB, .ref aI, .ref aD]))]) hP hD [0] [1] rfl rfl (by decide) (by decide) hk1 hFc hP1 hD1
      generalize H1 = H at hP hS ⊢
      have hP := hP.sub (ws' := [(m0, .inr (5, [.int (bI false), .int (nI (n)), .int (nI (q)), .ref aJ, .ref aS, .ref aT, .ref aW, .int (bI kn), .int (nI (rk)), .ref aR, .ref aP, .ref aH, .ref aK, .ref aE, .ref aY, .ref aN, .ref aQ, .ref aB, .ref aI, .ref aD])), (aW, .inl (cI, 30, .inl (fun j => nI (wt j))))]) [1, 0] rfl
      have hD := hD.sub (ws' := [(m0, .inr (5, [.int (bI false), .int (nI (n)), .int (nI (q)), .ref aJ, .ref aS, .ref aT, .ref aW, .int (bI kn), .int (nI (rk)), .ref aR, .ref aP, .ref aH, .ref aK, .ref aE, .ref aY, .ref aN, .ref aQ, .ref aB, .ref aI, .ref aD])), (aW, .inl (cI, 30, .inl (fun j => nI (wt j))))]) [1, 0] (by decide) rfl
      have hP : va_P (dC, dI) vwCl [(m0, .inr (5, [.int (bI false), .int (nI (n)), .int (nI (q)), .ref aJ, .ref aS, .ref aT, .ref aW, .int (bI kn), .int (nI (rk)), .ref aR, .ref aP, .ref aH, .ref aK, .ref aE, .ref aY, .ref aN, .ref aQ, .ref aB, .ref aI, .ref aD])), (aW, .inl (cI, 30, .inl (fun j => nI (wt j))))] H := hP
      have hD : va_D A [(m0, .inr (5, [.int (bI false), .int (nI (n)), .int (nI (q)), .ref aJ, .ref aS, .ref aT, .ref aW, .int (bI kn), .int (nI (rk)), .ref aR, .ref aP, .ref aH, .ref aK, .ref aE, .ref aY, .ref aN, .ref aQ, .ref aB, .ref aI, .ref aD])), (aW, .inl (cI, 30, .inl (fun j => nI (wt j))))] := hD
      subst hw
      refine tp_i (y := nI 0) rfl ?_
      refine lv_if_ne (tgt := 28) hx hb dX4_want_17 (by decide) (fun c5 => ?_) (fun c5 => ?_)
      · skip
        have c5 : 0 ≠ 0 := fun h => c5 ((nI_eq (a := 0) (b := 0) (by omega) (by omega)).mpr h)
        exact absurd rfl c5
      · skip
        have c5 : 0 = 0 := (nI_eq (a := 0) (b := 0) (by omega) (by omega)).mp c5
        refine lv_aload_n hx hb dX4_want_20 rfl (lv_at hl 0 rfl) ?_
        refine lv_iload_n hx hb dX4_want_21 rfl (lv_at hl 2 rfl) ?_
        have hPc := hP.sub (ws' := [(m0, .inr (5, [.int (bI false), .int (nI (n)), .int (nI (q)), .ref aJ, .ref aS, .ref aT, .ref aW, .int (bI kn), .int (nI (rk)), .ref aR, .ref aP, .ref aH, .ref aK, .ref aE, .ref aY, .ref aN, .ref aQ, .ref aB, .ref aI, .ref aD]))]) [0] rfl
        have hDc := hD.sub (ws' := [(m0, .inr (5, [.int (bI false), .int (nI (n)), .int (nI (q)), .ref aJ, .ref aS, .ref aT, .ref aW, .int (bI kn), .int (nI (rk)), .ref aR, .ref aP, .ref aH, .ref aK, .ref aE, .ref aY, .ref aN, .ref aQ, .ref aB, .ref aI, .ref aD]))]) [0] (by decide) rfl
        have hFc := va_free (wc := [(m0, .inr (5, [.int (bI false), .int (nI (n)), .int (nI (q)), .ref aJ, .ref aS, .ref aT, .ref aW, .int (bI kn), .int (nI (rk)), .ref aR, .ref aP, .ref aH, .ref aK, .ref aE, .ref aY, .ref aN, .ref aQ, .ref aB, .ref aI, .ref aD]))]) hD hS hA [0] rfl
        have hKc := hK.sub (tys' := [(cI, .int), (cZ, .boolean)]) [0, 1] rfl
        refine va_calli (va_runV (As := [.int (v)]) (rest := []) ⟨hx, hb, hml, hown, hts⟩ (c_X4_isState l dC dI H.size m0 aJ aS aT aW aR aP aH aK aE aY aN aQ aB aI aD n q rk (bI false) kn cI cZ v hq) (cwV 1 hts gX4_want_X4_isState rfl rfl rfl (by decide +kernel) ⟨Nat.le_of_ble_eq_true rfl, Nat.le_of_ble_eq_true rfl⟩) ⟨fun a U g mk q => by obtain ⟨q0, q1, qP, qK, qD⟩ := q; exact ⟨q0, q1, qP, va_K.moved (u := U) (U := U.calling g mk a) (Vm.Alike.refl U.vm) qK, qD⟩, va_recv hKc hPc (ci := 5) (q0 := 0) rfl rfl, fun U hU hW => ⟨rfl, by rw [hU], by rw [hU]; exact hPc, va_K.moved hW.alike hKc, hDc.weaken (fun _ _ _ _ => trivial)⟩⟩ rfl rfl hl.1 rfl (lv_room (Nat.le_of_ble_eq_true rfl)) dX4_want_22 ⟨Nat.le_of_ble_eq_true rfl, Nat.le_of_ble_eq_true rfl⟩) hS (fun q _ h => hFc q h) hFc (fun r4 uu t H1 locs ht hvm hw hB hz1 hk1 hS => ?_)
        obtain ⟨hP1, hK1, hD1⟩ := hB
        rw [ht] at hP1
        try dsimp only at hw
        obtain ⟨hP, hD⟩ := va_join (wr := [(aW, .inl (cI, 30, .inl (fun j => nI (wt j))))]) (w1 := [(m0, .inr (5, [.int (bI false), .int (nI (n)), .int (nI (q)), .ref aJ, .ref aS, .ref aT, .ref aW, .int (bI kn), .int (nI (rk)), .ref aR, .ref aP, .ref aH, .ref aK, .ref aE, .ref aY, .ref aN, .ref aQ, .ref aB, .ref aI, .ref aD]))]) hP hD [0] [1] rfl rfl (by decide) (by decide) hk1 hFc hP1 hD1
        generalize H1 = H at hP hS ⊢
        have hP := hP.sub (ws' := [(m0, .inr (5, [.int (bI false), .int (nI (n)), .int (nI (q)), .ref aJ, .ref aS, .ref aT, .ref aW, .int (bI kn), .int (nI (rk)), .ref aR, .ref aP, .ref aH, .ref aK, .ref aE, .ref aY, .ref aN, .ref aQ, .ref aB, .ref aI, .ref aD])), (aW, .inl (cI, 30, .inl (fun j => nI (wt j))))]) [1, 0] rfl
        have hD := hD.sub (ws' := [(m0, .inr (5, [.int (bI false), .int (nI (n)), .int (nI (q)), .ref aJ, .ref aS, .ref aT, .ref aW, .int (bI kn), .int (nI (rk)), .ref aR, .ref aP, .ref aH, .ref aK, .ref aE, .ref aY, .ref aN, .ref aQ, .ref aB, .ref aI, .ref aD])), (aW, .inl (cI, 30, .inl (fun j => nI (wt j))))]) [1, 0] (by decide) rfl
        have hP : va_P (dC, dI) vwCl [(m0, .inr (5, [.int (bI false), .int (nI (n)), .int (nI (q)), .ref aJ, .ref aS, .ref aT, .ref aW, .int (bI kn), .int (nI (rk)), .ref aR, .ref aP, .ref aH, .ref aK, .ref aE, .ref aY, .ref aN, .ref aQ, .ref aB, .ref aI, .ref aD])), (aW, .inl (cI, 30, .inl (fun j => nI (wt j))))] H := hP
        have hD : va_D A [(m0, .inr (5, [.int (bI false), .int (nI (n)), .int (nI (q)), .ref aJ, .ref aS, .ref aT, .ref aW, .int (bI kn), .int (nI (rk)), .ref aR, .ref aP, .ref aH, .ref aK, .ref aE, .ref aY, .ref aN, .ref aQ, .ref aB, .ref aI, .ref aD])), (aW, .inl (cI, 30, .inl (fun j => nI (wt j))))] := hD
        subst hw
        rcases hiv : inb q v with _ | _
        · skip
          refine tp_i (y := nI 0) rfl ?_
          refine lv_if_ne (tgt := 30) hx hb dX4_want_25 (by decide) (fun c6 => ?_) (fun c6 => ?_)
          · skip
            have c6 : 0 ≠ 0 := fun h => c6 ((nI_eq (a := 0) (b := 0) (by omega) (by omega)).mpr h)
            exact absurd rfl c6
          · skip
            have c6 : 0 = 0 := (nI_eq (a := 0) (b := 0) (by omega) (by omega)).mp c6
            refine lv_iconst (v := nI 0) hx hb dX4_want_28 (by decide) ?_
            rw [hQ]
            exact W.zret (v := nI (0)) (ty := .boolean) hx hb hr rfl (fun t ht hW => ⟨⟨_, (false, wt), rfl, Or.inr ⟨ja, hja, rfl, rfl, Or.inl ⟨hiv, rfl, rfl⟩⟩, by rw [ht]; exact hP, va_K.moved hW.alike hK, hD⟩, hS.F ht⟩) hS.2.2 dX4_want_29
        · skip
          refine tp_i (y := nI 1) rfl ?_
          obtain ⟨k, hk, rfl⟩ := inb_ex hq hiv
          refine lv_if_ne (tgt := 30) hx hb dX4_want_25 (by decide) (fun c6 => ?_) (fun c6 => ?_)
          · skip
            have c6 : 1 ≠ 0 := fun h => c6 ((nI_eq (a := 1) (b := 0) (by omega) (by omega)).mpr h)
            refine lv_aload_n hx hb dX4_want_30 rfl (lv_at hl 0 rfl) ?_
            refine va_get (D := (dC, dI)) (ci := 5) (v := .ref aW) (C := RX4) (T := TX4) (N := 20) hx hb hts hinX4 hown hK hP 0 rfl rfl 6 (by decide) hf20 (fun _ h9 => h9) rfl dX4_want_31 ?_
            refine lv_iload_n hx hb dX4_want_34 rfl (lv_at hl 1 rfl) ?_
            refine lv_iload_n hx hb dX4_want_35 rfl (lv_at hl 2 rfl) ?_
            refine ra_st (g := nI) (F := wt) (v := k) hx hb hK hP hD hS 1 0 rfl rfl (by omega) (by omega) dX4_want_36 (fun H locs hP hD hS => ?_)
            have hP : va_P (dC, dI) vwCl [(m0, .inr (5, [.int (bI false), .int (nI (n)), .int (nI (q)), .ref aJ, .ref aS, .ref aT, .ref aW, .int (bI kn), .int (nI (rk)), .ref aR, .ref aP, .ref aH, .ref aK, .ref aE, .ref aY, .ref aN, .ref aQ, .ref aB, .ref aI, .ref aD])), (aW, .inl (cI, 30, .inl (fun j => nI ((va_up wt ja (k)) j))))] H := hP
            have hD : va_D A [(m0, .inr (5, [.int (bI false), .int (nI (n)), .int (nI (q)), .ref aJ, .ref aS, .ref aT, .ref aW, .int (bI kn), .int (nI (rk)), .ref aR, .ref aP, .ref aH, .ref aK, .ref aE, .ref aY, .ref aN, .ref aQ, .ref aB, .ref aI, .ref aD])), (aW, .inl (cI, 30, .inl (fun j => nI ((va_up wt ja (k)) j))))] := hD
            refine lv_iconst (v := nI 1) hx hb dX4_want_37 (by decide) ?_
            rw [hQ]
            exact W.zret (v := nI (1)) (ty := .boolean) hx hb hr rfl (fun t ht hW => ⟨⟨_, (false, va_up wt ja k), rfl, Or.inr ⟨ja, hja, rfl, rfl, Or.inr ⟨k, hk, rfl, rfl, rfl⟩⟩, by rw [ht]; exact hP, va_K.moved hW.alike hK, hD⟩, hS.F ht⟩) hS.2.2 dX4_want_38
          · skip
            have c6 : 1 = 0 := (nI_eq (a := 1) (b := 0) (by omega) (by omega)).mp c6
            exact absurd c6 (by decide)
    · skip
      have c : 1 = 0 := (nI_eq (a := 1) (b := 0) (by omega) (by omega)).mp c
      exact absurd c (by decide)

set_option maxHeartbeats 4000000 in
set_option maxRecDepth 100000 in
theorem c_X4_effect (l : Launch) (dC : Nat → ClassId) (dI : Nat → Nat → Nat) (sz : Nat) (m0 aJ aS aT aW aR aP aH aK aE aY aN aQ aB aI aD n q rk : Nat) (th : Int32) (kn : Bool) (cI cZ : ClassId) (jn : Nat → Bool) (ns : Nat → Bool) (a b : Nat) (hn : n < 31) (ha : a < n) (hb0 : b < n) : Met l yX4_effect wsX4_effect ({ frames := 0, cells := 0, slots := 0, locals := 0 }) (va_Pc [.ref m0, .int (nI (a)), .int (nI (b))] (fun U => U.heap.size = sz ∧ va_P (dC, dI) vwCl [(m0, .inr (5, [.int (th), .int (nI (n)), .int (nI (q)), .ref aJ, .ref aS, .ref aT, .ref aW, .int (bI kn), .int (nI (rk)), .ref aR, .ref aP, .ref aH, .ref aK, .ref aE, .ref aY, .ref aN, .ref aQ, .ref aB, .ref aI, .ref aD])), (aJ, .inl (cZ, 900, .inl (fun j => bI (jn j)))), (aS, .inl (cZ, 30, .inl (fun j => bI (ns j))))] U.heap ∧ va_K (dC, dI) vwCl [(cI, .int), (cZ, .boolean)] U ∧ va_D (fun _ => True) [(m0, .inr (5, [.int (th), .int (nI (n)), .int (nI (q)), .ref aJ, .ref aS, .ref aT, .ref aW, .int (bI kn), .int (nI (rk)), .ref aR, .ref aP, .ref aH, .ref aK, .ref aE, .ref aY, .ref aN, .ref aQ, .ref aB, .ref aI, .ref aD])), (aJ, .inl (cZ, 900, .inl (fun j => bI (jn j)))), (aS, .inl (cZ, 30, .inl (fun j => bI (ns j))))])) (va_Qi (fun (z : Int32) (_ : Unit) => z = nI (eff jn ns a b)) (fun _ t => va_P (dC, dI) vwCl [(m0, .inr (5, [.int (th), .int (nI (n)), .int (nI (q)), .ref aJ, .ref aS, .ref aT, .ref aW, .int (bI kn), .int (nI (rk)), .ref aR, .ref aP, .ref aH, .ref aK, .ref aE, .ref aY, .ref aN, .ref aQ, .ref aB, .ref aI, .ref aD])), (aJ, .inl (cZ, 900, .inl (fun j => bI (jn j)))), (aS, .inl (cZ, 30, .inl (fun j => bI (ns j))))] t.heap ∧ va_K (dC, dI) vwCl [(cI, .int), (cZ, .boolean)] t ∧ va_D (va_A [(m0, .inr (5, [.int (th), .int (nI (n)), .int (nI (q)), .ref aJ, .ref aS, .ref aT, .ref aW, .int (bI kn), .int (nI (rk)), .ref aR, .ref aP, .ref aH, .ref aK, .ref aE, .ref aY, .ref aN, .ref aQ, .ref aB, .ref aI, .ref aD])), (aJ, .inl (cZ, 900, .inl (fun j => bI (jn j)))), (aS, .inl (cZ, 30, .inl (fun j => bI (ns j))))] sz) [(m0, .inr (5, [.int (th), .int (nI (n)), .int (nI (q)), .ref aJ, .ref aS, .ref aT, .ref aW, .int (bI kn), .int (nI (rk)), .ref aR, .ref aP, .ref aH, .ref aK, .ref aE, .ref aY, .ref aN, .ref aQ, .ref aB, .ref aI, .ref aD])), (aJ, .inl (cZ, 900, .inl (fun j => bI (jn j)))), (aS, .inl (cZ, 30, .inl (fun j => bI (ns j))))]) (va_A [(m0, .inr (5, [.int (th), .int (nI (n)), .int (nI (q)), .ref aJ, .ref aS, .ref aT, .ref aW, .int (bI kn), .int (nI (rk)), .ref aR, .ref aP, .ref aH, .ref aK, .ref aE, .ref aY, .ref aN, .ref aQ, .ref aB, .ref aI, .ref aD])), (aJ, .inl (cZ, 900, .inl (fun j => bI (jn j)))), (aS, .inl (cZ, 30, .inl (fun j => bI (ns j))))] sz)) 0 0 (va_A [(m0, .inr (5, [.int (th), .int (nI (n)), .int (nI (q)), .ref aJ, .ref aS, .ref aT, .ref aW, .int (bI kn), .int (nI (rk)), .ref aR, .ref aP, .ref aH, .ref aK, .ref aE, .ref aY, .ref aN, .ref aQ, .ref aB, .ref aI, .ref aD])), (aJ, .inl (cZ, 900, .inl (fun j => bI (jn j)))), (aS, .inl (cZ, 30, .inl (fun j => bI (ns j))))] sz) := by
  refine Met.ofW (cc := cX4_effect) (maxL := 3) (ret := (some .int)) (by decide) rfl ?_
  intro zp ze s m args below meth zc s₁ B hml hv
  obtain ⟨hargs, hsz, hP, hK, hD0⟩ := hv
  have hx := B.exec
  have hb := B.bytes
  have hr := B.returns
  have hts := atoms_spec (ws := wsX4_effect) B.pre
  have hown : s.vm.findClass RX4 = some m.cls := findClass_of_methodNamed B.named
  have hlocks := B.notSynchronized
  subst hsz
  obtain ⟨Q, hQ⟩ : ∃ Q, Q = MQ below (va_Qi (fun (z : Int32) (_ : Unit) => z = nI (eff jn ns a b)) (fun _ t => va_P (dC, dI) vwCl [(m0, .inr (5, [.int (th), .int (nI (n)), .int (nI (q)), .ref aJ, .ref aS, .ref aT, .ref aW, .int (bI kn), .int (nI (rk)), .ref aR, .ref aP, .ref aH, .ref aK, .ref aE, .ref aY, .ref aN, .ref aQ, .ref aB, .ref aI, .ref aD])), (aJ, .inl (cZ, 900, .inl (fun j => bI (jn j)))), (aS, .inl (cZ, 30, .inl (fun j => bI (ns j))))] t.heap ∧ va_K (dC, dI) vwCl [(cI, .int), (cZ, .boolean)] t ∧ va_D (va_A [(m0, .inr (5, [.int (th), .int (nI (n)), .int (nI (q)), .ref aJ, .ref aS, .ref aT, .ref aW, .int (bI kn), .int (nI (rk)), .ref aR, .ref aP, .ref aH, .ref aK, .ref aE, .ref aY, .ref aN, .ref aQ, .ref aB, .ref aI, .ref aD])), (aJ, .inl (cZ, 900, .inl (fun j => bI (jn j)))), (aS, .inl (cZ, 30, .inl (fun j => bI (ns j))))] s.heap.size) [(m0, .inr (5, [.int (th), .int (nI (n)), .int (nI (q)), .ref aJ, .ref aS, .ref aT, .ref aW, .int (bI kn), .int (nI (rk)), .ref aR, .ref aP, .ref aH, .ref aK, .ref aE, .ref aY, .ref aN, .ref aQ, .ref aB, .ref aI, .ref aD])), (aJ, .inl (cZ, 900, .inl (fun j => bI (jn j)))), (aS, .inl (cZ, 30, .inl (fun j => bI (ns j))))]) (va_A [(m0, .inr (5, [.int (th), .int (nI (n)), .int (nI (q)), .ref aJ, .ref aS, .ref aT, .ref aW, .int (bI kn), .int (nI (rk)), .ref aR, .ref aP, .ref aH, .ref aK, .ref aE, .ref aY, .ref aN, .ref aQ, .ref aB, .ref aI, .ref aD])), (aJ, .inl (cZ, 900, .inl (fun j => bI (jn j)))), (aS, .inl (cZ, 30, .inl (fun j => bI (ns j))))] s.heap.size)) args s 0 0 (va_A [(m0, .inr (5, [.int (th), .int (nI (n)), .int (nI (q)), .ref aJ, .ref aS, .ref aT, .ref aW, .int (bI kn), .int (nI (rk)), .ref aR, .ref aP, .ref aH, .ref aK, .ref aE, .ref aY, .ref aN, .ref aQ, .ref aB, .ref aI, .ref aD])), (aJ, .inl (cZ, 900, .inl (fun j => bI (jn j)))), (aS, .inl (cZ, 30, .inl (fun j => bI (ns j))))] s.heap.size) := ⟨_, rfl⟩
  rw [← hQ]
  have hD := hD0.self (sz := s.heap.size)
  generalize hAe : (va_A [(m0, .inr (5, [.int (th), .int (nI (n)), .int (nI (q)), .ref aJ, .ref aS, .ref aT, .ref aW, .int (bI kn), .int (nI (rk)), .ref aR, .ref aP, .ref aH, .ref aK, .ref aE, .ref aY, .ref aN, .ref aQ, .ref aB, .ref aI, .ref aD])), (aJ, .inl (cZ, 900, .inl (fun j => bI (jn j)))), (aS, .inl (cZ, 30, .inl (fun j => bI (ns j))))] s.heap.size) = A at hD hQ
  have hA : ∀ q : Nat, s.heap.size ≤ q → A q := fun q h => by rw [← hAe]; exact Or.inr h
  have hS : va_S A s.heap s.heap [] := va_S.rf
  have hl := lv_entry ([.ref m0, .int (nI (a)), .int (nI (b))]) (n := 3) (Nat.le_of_ble_eq_true rfl)
  generalize hen : entryFrame m args 3 = fr
  rw [hargs, lg_entry_eq] at hen
  subst hen
  generalize (lg_sl ([.ref m0, .int (nI (a)), .int (nI (b))]) ++ List.replicate (3 - (lg_sl ([.ref m0, .int (nI (a)), .int (nI (b))])).length) Slot.unset).toArray = ls at hl ⊢
  have hl : lv_has ls 3 [(0, .ref m0), (1, .int (nI (a))), (2, .int (nI (b)))] := hl
  have hinX4 : ∀ w ∈ wsX40, w ∈ wsX4_effect := by decide +kernel
  have hf7 := hts (.fieldLink RX4 7 "LightRowsModel" "joined" "[Z") (by decide +kernel)
  have hf13 := hts (.fieldLink RX4 13 "LightRowsModel" "isNotSelf" "[Z") (by decide +kernel)
  refine lv_iload_n hx hb dX4_effect_0 rfl (lv_at hl 1 rfl) ?_
  refine lv_iload_n hx hb dX4_effect_1 rfl (lv_at hl 2 rfl) ?_
  refine lv_icmp_ne (tgt := 22) hx hb dX4_effect_2 (by decide) (fun c => ?_) (fun c => ?_)
  · skip
    have c : a ≠ b := fun h => c ((nI_eq (a := a) (b := b) (by omega) (by omega)).mpr h)
    refine lv_aload_n hx hb dX4_effect_22 rfl (lv_at hl 0 rfl) ?_
    refine va_get (D := (dC, dI)) (ci := 5) (v := .ref aJ) (C := RX4) (T := TX4) (N := 20) hx hb hts hinX4 hown hK hP 0 rfl rfl 3 (by decide) hf7 (fun _ h9 => h9) rfl dX4_effect_23 ?_
    refine lv_bipush (v := nI 30) hx hb dX4_effect_26 (by decide) ?_
    refine lv_iload_n hx hb dX4_effect_28 rfl (lv_at hl 1 rfl) ?_
    refine lv_imul hx hb dX4_effect_29 ?_
    refine tp_i (y := nI (30 * a)) (pk_mul _ _) ?_
    refine lv_iload_n hx hb dX4_effect_30 rfl (lv_at hl 2 rfl) ?_
    refine lv_iadd hx hb dX4_effect_31 ?_
    refine tp_i (y := nI ((30 * a) + b)) (nI_add _ _) ?_
    refine rz_ld (g := bI) (F := jn) hx hb hK hP 1 1 rfl rfl (by omega) (by omega) dX4_effect_32 ?_
    rcases hj : jn (30 * a + b) with _ | _
    · skip
      refine tp_i (y := nI 0) rfl ?_
      refine lv_if_eq (tgt := 40) hx hb dX4_effect_33 (by decide) (fun c2 => ?_) (fun c2 => ?_)
      · skip
        have c2 : 0 = 0 := (nI_eq (a := 0) (b := 0) (by omega) (by omega)).mp c2
        refine lv_iconst (v := nI 0) hx hb dX4_effect_40 (by decide) ?_
        rw [hQ]
        exact W.iret (v := nI (0)) hx hb hr (fun t ht hW => ⟨⟨_, (), rfl, by unfold eff; rw [if_neg c, hj]; rfl, by rw [ht]; exact hP, va_K.moved hW.alike hK, hD⟩, hS.F ht⟩) hS.2.2 dX4_effect_41
      · skip
        have c2 : 0 ≠ 0 := fun h => c2 ((nI_eq (a := 0) (b := 0) (by omega) (by omega)).mpr h)
        exact absurd rfl c2
    · skip
      refine tp_i (y := nI 1) rfl ?_
      refine lv_if_eq (tgt := 40) hx hb dX4_effect_33 (by decide) (fun c2 => ?_) (fun c2 => ?_)
      · skip
        have c2 : 1 = 0 := (nI_eq (a := 1) (b := 0) (by omega) (by omega)).mp c2
        exact absurd c2 (by decide)
      · skip
        have c2 : 1 ≠ 0 := fun h => c2 ((nI_eq (a := 1) (b := 0) (by omega) (by omega)).mpr h)
        refine lv_iconst (v := nI 1) hx hb dX4_effect_36 (by decide) ?_
        refine lv_goto (tgt := 41) hx hb dX4_effect_37 (by decide) ?_
        rw [hQ]
        exact W.iret (v := nI (1)) hx hb hr (fun t ht hW => ⟨⟨_, (), rfl, by unfold eff; rw [if_neg c, hj]; rfl, by rw [ht]; exact hP, va_K.moved hW.alike hK, hD⟩, hS.F ht⟩) hS.2.2 dX4_effect_41
  · skip
    have c : a = b := (nI_eq (a := a) (b := b) (by omega) (by omega)).mp c
    refine lv_aload_n hx hb dX4_effect_5 rfl (lv_at hl 0 rfl) ?_
    refine va_get (D := (dC, dI)) (ci := 5) (v := .ref aS) (C := RX4) (T := TX4) (N := 20) hx hb hts hinX4 hown hK hP 0 rfl rfl 4 (by decide) hf13 (fun _ h9 => h9) rfl dX4_effect_6 ?_
    refine lv_iload_n hx hb dX4_effect_9 rfl (lv_at hl 1 rfl) ?_
    refine rz_ld (g := bI) (F := ns) hx hb hK hP 2 1 rfl rfl (by omega) (by omega) dX4_effect_10 ?_
    rcases hj : ns a with _ | _
    · skip
      refine tp_i (y := nI 0) rfl ?_
      refine lv_if_eq (tgt := 18) hx hb dX4_effect_11 (by decide) (fun c2 => ?_) (fun c2 => ?_)
      · skip
        have c2 : 0 = 0 := (nI_eq (a := 0) (b := 0) (by omega) (by omega)).mp c2
        refine lv_iconst (v := nI 1) hx hb dX4_effect_18 (by decide) ?_
        refine lv_goto (tgt := 41) hx hb dX4_effect_19 (by decide) ?_
        rw [hQ]
        exact W.iret (v := nI (1)) hx hb hr (fun t ht hW => ⟨⟨_, (), rfl, by unfold eff; rw [if_pos c, hj]; rfl, by rw [ht]; exact hP, va_K.moved hW.alike hK, hD⟩, hS.F ht⟩) hS.2.2 dX4_effect_41
      · skip
        have c2 : 0 ≠ 0 := fun h => c2 ((nI_eq (a := 0) (b := 0) (by omega) (by omega)).mpr h)
        exact absurd rfl c2
    · skip
      refine tp_i (y := nI 1) rfl ?_
      refine lv_if_eq (tgt := 18) hx hb dX4_effect_11 (by decide) (fun c2 => ?_) (fun c2 => ?_)
      · skip
        have c2 : 1 = 0 := (nI_eq (a := 1) (b := 0) (by omega) (by omega)).mp c2
        exact absurd c2 (by decide)
      · skip
        have c2 : 1 ≠ 0 := fun h => c2 ((nI_eq (a := 1) (b := 0) (by omega) (by omega)).mpr h)
        refine lv_iconst (v := nI 0) hx hb dX4_effect_14 (by decide) ?_
        refine lv_goto (tgt := 41) hx hb dX4_effect_15 (by decide) ?_
        rw [hQ]
        exact W.iret (v := nI (0)) hx hb hr (fun t ht hW => ⟨⟨_, (), rfl, by unfold eff; rw [if_pos c, hj]; rfl, by rw [ht]; exact hP, va_K.moved hW.alike hK, hD⟩, hS.F ht⟩) hS.2.2 dX4_effect_41

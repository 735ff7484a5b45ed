set_option maxHeartbeats 4000000 in
set_option maxRecDepth 100000 in
theorem c_X4_know (l : Launch) (dC : Nat → ClassId) (dI : Nat → Nat → Nat) (sz : Nat) (m0 aJ aS aT aW aR aP aH aK aE aY aN aQ aB aI aD n q rk : Nat) (th : Int32) (kn : Bool) (cI cZ : ClassId) (jn : Nat → Bool) (ns : Nat → Bool) (rw : Nat → Nat) (ps : Nat → Nat) (hd : Nat → Nat) (bo : Nat → Bool) (re : Nat → Nat) (yy : Nat → Nat) (qu : Nat → Nat) (hn : n < 31) (hq : 2 ≤ q) (hq2 : q < 100) (hinv : hasInv q) (hkn : kn = true → kOK n (knN n q (eff jn ns) n) rk rw ps hd qu) : Met l yX4_know wsX4_know ({ frames := 2, cells := 0, slots := 0, locals := 45 }) (va_Pc [.ref m0] (fun U => U.heap.size = sz ∧ va_P (dC, dI) vwCl [(m0, .inr (5, [.int (th), .int (nI (n)), .int (nI (q)), .ref aJ, .ref aS, .ref aT, .ref aW, .int (bI kn), .int (nI (rk)), .ref aR, .ref aP, .ref aH, .ref aK, .ref aE, .ref aY, .ref aN, .ref aQ, .ref aB, .ref aI, .ref aD])), (aJ, .inl (cZ, 900, .inl (fun j => bI (jn j)))), (aS, .inl (cZ, 30, .inl (fun j => bI (ns j)))), (aR, .inl (cI, 900, .inl (fun j => nI (rw j)))), (aP, .inl (cI, 900, .inl (fun j => nI (ps j)))), (aH, .inl (cI, 30, .inl (fun j => nI (hd j)))), (aK, .inl (cZ, 30, .inl (fun j => bI (bo j)))), (aE, .inl (cI, 30, .inl (fun j => nI (re j)))), (aY, .inl (cI, 30, .inl (fun j => nI (yy j)))), (aQ, .inl (cI, 900, .inl (fun j => nI (qu j))))] U.heap ∧ va_K (dC, dI) vwCl [(cI, .int), (cZ, .boolean)] U ∧ va_D (fun _ => True) [(m0, .inr (5, [.int (th), .int (nI (n)), .int (nI (q)), .ref aJ, .ref aS, .ref aT, .ref aW, .int (bI kn), .int (nI (rk)), .ref aR, .ref aP, .ref aH, .ref aK, .ref aE, .ref aY, .ref aN, .ref aQ, .ref aB, .ref aI, .ref aD])), (aJ, .inl (cZ, 900, .inl (fun j => bI (jn j)))), (aS, .inl (cZ, 30, .inl (fun j => bI (ns j)))), (aR, .inl (cI, 900, .inl (fun j => nI (rw j)))), (aP, .inl (cI, 900, .inl (fun j => nI (ps j)))), (aH, .inl (cI, 30, .inl (fun j => nI (hd j)))), (aK, .inl (cZ, 30, .inl (fun j => bI (bo j)))), (aE, .inl (cI, 30, .inl (fun j => nI (re j)))), (aY, .inl (cI, 30, .inl (fun j => nI (yy j)))), (aQ, .inl (cI, 900, .inl (fun j => nI (qu j))))])) (va_Qv (fun u : Nat × (Nat → Nat) × (Nat → Nat) × (Nat → Nat) × (Nat → Bool) × (Nat → Nat) × (Nat → Nat) × (Nat → Nat) => kOK n (knN n q (eff jn ns) n) u.1 u.2.1 u.2.2.1 u.2.2.2.1 u.2.2.2.2.2.2.2) (fun u t => va_P (dC, dI) vwCl [(m0, .inr (5, [.int (th), .int (nI (n)), .int (nI (q)), .ref aJ, .ref aS, .ref aT, .ref aW, .int (bI true), .int (nI (u.1)), .ref aR, .ref aP, .ref aH, .ref aK, .ref aE, .ref aY, .ref aN, .ref aQ, .ref aB, .ref aI, .ref aD])), (aJ, .inl (cZ, 900, .inl (fun j => bI (jn j)))), (aS, .inl (cZ, 30, .inl (fun j => bI (ns j)))), (aR, .inl (cI, 900, .inl (fun j => nI (u.2.1 j)))), (aP, .inl (cI, 900, .inl (fun j => nI (u.2.2.1 j)))), (aH, .inl (cI, 30, .inl (fun j => nI (u.2.2.2.1 j)))), (aK, .inl (cZ, 30, .inl (fun j => bI (u.2.2.2.2.1 j)))), (aE, .inl (cI, 30, .inl (fun j => nI (u.2.2.2.2.2.1 j)))), (aY, .inl (cI, 30, .inl (fun j => nI (u.2.2.2.2.2.2.1 j)))), (aQ, .inl (cI, 900, .inl (fun j => nI (u.2.2.2.2.2.2.2 j))))] t.heap ∧ va_K (dC, dI) vwCl [(cI, .int), (cZ, .boolean)] t ∧ va_D (va_A [(m0, .inr (5, [.int (th), .int (nI (n)), .int (nI (q)), .ref aJ, .ref aS, .ref aT, .ref aW, .int (bI kn), .int (nI (rk)), .ref aR, .ref aP, .ref aH, .ref aK, .ref aE, .ref aY, .ref aN, .ref aQ, .ref aB, .ref aI, .ref aD])), (aJ, .inl (cZ, 900, .inl (fun j => bI (jn j)))), (aS, .inl (cZ, 30, .inl (fun j => bI (ns j)))), (aR, .inl (cI, 900, .inl (fun j => nI (rw j)))), (aP, .inl (cI, 900, .inl (fun j => nI (ps j)))), (aH, .inl (cI, 30, .inl (fun j => nI (hd j)))), (aK, .inl (cZ, 30, .inl (fun j => bI (bo j)))), (aE, .inl (cI, 30, .inl (fun j => nI (re j)))), (aY, .inl (cI, 30, .inl (fun j => nI (yy j)))), (aQ, .inl (cI, 900, .inl (fun j => nI (qu j))))] sz) [(m0, .inr (5, [.int (th), .int (nI (n)), .int (nI (q)), .ref aJ, .ref aS, .ref aT, .ref aW, .int (bI true), .int (nI (u.1)), .ref aR, .ref aP, .ref aH, .ref aK, .ref aE, .ref aY, .ref aN, .ref aQ, .ref aB, .ref aI, .ref aD])), (aJ, .inl (cZ, 900, .inl (fun j => bI (jn j)))), (aS, .inl (cZ, 30, .inl (fun j => bI (ns j)))), (aR, .inl (cI, 900, .inl (fun j => nI (u.2.1 j)))), (aP, .inl (cI, 900, .inl (fun j => nI (u.2.2.1 j)))), (aH, .inl (cI, 30, .inl (fun j => nI (u.2.2.2.1 j)))), (aK, .inl (cZ, 30, .inl (fun j => bI (u.2.2.2.2.1 j)))), (aE, .inl (cI, 30, .inl (fun j => nI (u.2.2.2.2.2.1 j)))), (aY, .inl (cI, 30, .inl (fun j => nI (u.2.2.2.2.2.2.1 j)))), (aQ, .inl (cI, 900, .inl (fun j => nI (u.2.2.2.2.2.2.2 j))))]) (va_A [(m0, .inr (5, [.int (th), .int (nI (n)), .int (nI (q)), .ref aJ, .ref aS, .ref aT, .ref aW, .int (bI kn), .int (nI (rk)), .ref aR, .ref aP, .ref aH, .ref aK, .ref aE, .ref aY, .ref aN, .ref aQ, .ref aB, .ref aI, .ref aD])), (aJ, .inl (cZ, 900, .inl (fun j => bI (jn j)))), (aS, .inl (cZ, 30, .inl (fun j => bI (ns j)))), (aR, .inl (cI, 900, .inl (fun j => nI (rw j)))), (aP, .inl (cI, 900, .inl (fun j => nI (ps j)))), (aH, .inl (cI, 30, .inl (fun j => nI (hd j)))), (aK, .inl (cZ, 30, .inl (fun j => bI (bo j)))), (aE, .inl (cI, 30, .inl (fun j => nI (re j)))), (aY, .inl (cI, 30, .inl (fun j => nI (yy j)))), (aQ, .inl (cI, 900, .inl (fun j => nI (qu j))))] sz)) 0 0 (va_A [(m0, .inr (5, [.int (th), .int (nI (n)), .int (nI (q)), .ref aJ, .ref aS, .ref aT, .ref aW, .int (bI kn), .int (nI (rk)), .ref aR, .ref aP, .ref aH, .ref aK, .ref aE, .ref aY, .ref aN, .ref aQ, .ref aB, .ref aI, .ref aD])), (aJ, .inl (cZ, 900, .inl (fun j => bI (jn j)))), (aS, .inl (cZ, 30, .inl (fun j => bI (ns j)))), (aR, .inl (cI, 900, .inl (fun j => nI (rw j)))), (aP, .inl (cI, 900, .inl (fun j => nI (ps j)))), (aH, .inl (cI, 30, .inl (fun j => nI (hd j)))), (aK, .inl (cZ, 30, .inl (fun j => bI (bo j)))), (aE, .inl (cI, 30, .inl (fun j => nI (re j)))), (aY, .inl (cI, 30, .inl (fun j => nI (yy j)))), (aQ, .inl (cI, 900, .inl (fun j => nI (qu j))))] sz) := by
  refine Met.ofW (cc := cX4_know) (maxL := 5) (ret := none) (by decide) rfl ?_
  intro zp ze s m args below meth zc s₁ B hml hv
  obtain ⟨hargs, hsz, hP, hK, hD0⟩ := hv
  have hx := B.exec
  have hb := B.bytes
  have hr := B.returns
  have hts := atoms_spec (ws := wsX4_know) B.pre
  have hown : s.vm.findClass RX4 = some m.cls := findClass_of_methodNamed B.named
  have hlocks := B.notSynchronized
  subst hsz
  obtain ⟨Q, hQ⟩ : ∃ Q, Q = MQ below (va_Qv (fun u : Nat × (Nat → Nat) × (Nat → Nat) × (Nat → Nat) × (Nat → Bool) × (Nat → Nat) × (Nat → Nat) × (Nat → Nat) => kOK n (knN n q (eff jn ns) n) u.1 u.2.1 u.2.2.1 u.2.2.2.1 u.2.2.2.2.2.2.2) (fun u t => va_P (dC, dI) vwCl [(m0, .inr (5, [.int (th), .int (nI (n)), .int (nI (q)), .ref aJ, .ref aS, .ref aT, .ref aW, .int (bI true), .int (nI (u.1)), .ref aR, .ref aP, .ref aH, .ref aK, .ref aE, .ref aY, .ref aN, .ref aQ, .ref aB, .ref aI, .ref aD])), (aJ, .inl (cZ, 900, .inl (fun j => bI (jn j)))), (aS, .inl (cZ, 30, .inl (fun j => bI (ns j)))), (aR, .inl (cI, 900, .inl (fun j => nI (u.2.1 j)))), (aP, .inl (cI, 900, .inl (fun j => nI (u.2.2.1 j)))), (aH, .inl (cI, 30, .inl (fun j => nI (u.2.2.2.1 j)))), (aK, .inl (cZ, 30, .inl (fun j => bI (u.2.2.2.2.1 j)))), (aE, .inl (cI, 30, .inl (fun j => nI (u.2.2.2.2.2.1 j)))), (aY, .inl (cI, 30, .inl (fun j => nI (u.2.2.2.2.2.2.1 j)))), (aQ, .inl (cI, 900, .inl (fun j => nI (u.2.2.2.2.2.2.2 j))))] t.heap ∧ va_K (dC, dI) vwCl [(cI, .int), (cZ, .boolean)] t ∧ va_D (va_A [(m0, .inr (5, [.int (th), .int (nI (n)), .int (nI (q)), .ref aJ, .ref aS, .ref aT, .ref aW, .int (bI kn), .int (nI (rk)), .ref aR, .ref aP, .ref aH, .ref aK, .ref aE, .ref aY, .ref aN, .ref aQ, .ref aB, .ref aI, .ref aD])), (aJ, .inl (cZ, 900, .inl (fun j => bI (jn j)))), (aS, .inl (cZ, 30, .inl (fun j => bI (ns j)))), (aR, .inl (cI, 900, .inl (fun j => nI (rw j)))), (aP, .inl (cI, 900, .inl (fun j => nI (ps j)))), (aH, .inl (cI, 30, .inl (fun j => nI (hd j)))), (aK, .inl (cZ, 30, .inl (fun j => bI (bo j)))), (aE, .inl (cI, 30, .inl (fun j => nI (re j)))), (aY, .inl (cI, 30, .inl (fun j => nI (yy j)))), (aQ, .inl (cI, 900, .inl (fun j => nI (qu j))))] s.heap.size) [(m0, .inr (5, [.int (th), .int (nI (n)), .int (nI (q)), .ref aJ, .ref aS, .ref aT, .ref aW, .int (bI true), .int (nI (u.1)), .ref aR, .ref aP, .ref aH, .ref aK, .ref aE, .ref aY, .ref aN, .ref aQ, .ref aB, .ref aI, .ref aD])), (aJ, .inl (cZ, 900, .inl (fun j => bI (jn j)))), (aS, .inl (cZ, 30, .inl (fun j => bI (ns j)))), (aR, .inl (cI, 900, .inl (fun j => nI (u.2.1 j)))), (aP, .inl (cI, 900, .inl (fun j => nI (u.2.2.1 j)))), (aH, .inl (cI, 30, .inl (fun j => nI (u.2.2.2.1 j)))), (aK, .inl (cZ, 30, .inl (fun j => bI (u.2.2.2.2.1 j)))), (aE, .inl (cI, 30, .inl (fun j => nI (u.2.2.2.2.2.1 j)))), (aY, .inl (cI, 30, .inl (fun j => nI (u.2.2.2.2.2.2.1 j)))), (aQ, .inl (cI, 900, .inl (fun j => nI (u.2.2.2.2.2.2.2 j))))]) (va_A [(m0, .inr (5, [.int (th), .int (nI (n)), .int (nI (q)), .ref aJ, .ref aS, .ref aT, .ref aW, .int (bI kn), .int (nI (rk)), .ref aR, .ref aP, .ref aH, .ref aK, .ref aE, .ref aY, .ref aN, .ref aQ, .ref aB, .ref aI, .ref aD])), (aJ, .inl (cZ, 900, .inl (fun j => bI (jn j)))), (aS, .inl (cZ, 30, .inl (fun j => bI (ns j)))), (aR, .inl (cI, 900, .inl (fun j => nI (rw j)))), (aP, .inl (cI, 900, .inl (fun j => nI (ps j)))), (aH, .inl (cI, 30, .inl (fun j => nI (hd j)))), (aK, .inl (cZ, 30, .inl (fun j => bI (bo j)))), (aE, .inl (cI, 30, .inl (fun j => nI (re j)))), (aY, .inl (cI, 30, .inl (fun j => nI (yy j)))), (aQ, .inl (cI, 900, .inl (fun j => nI (qu j))))] s.heap.size)) args s 0 0 (va_A [(m0, .inr (5, [.int (th), .int (nI (n)), .int (nI (q)), .ref aJ, .ref aS, .ref aT, .ref aW, .int (bI kn), .int (nI (rk)), .ref aR, .ref aP, .ref aH, .ref aK, .ref aE, .ref aY, .ref aN, .ref aQ, .ref aB, .ref aI, .ref aD])), (aJ, .inl (cZ, 900, .inl (fun j => bI (jn j)))), (aS, .inl (cZ, 30, .inl (fun j => bI (ns j)))), (aR, .inl (cI, 900, .inl (fun j => nI (rw j)))), (aP, .inl (cI, 900, .inl (fun j => nI (ps j)))), (aH, .inl (cI, 30, .inl (fun j => nI (hd j)))), (aK, .inl (cZ, 30, .inl (fun j => bI (bo j)))), (aE, .inl (cI, 30, .inl (fun j => nI (re j)))), (aY, .inl (cI, 30, .inl (fun j => nI (yy j)))), (aQ, .inl (cI, 900, .inl (fun j => nI (qu j))))] s.heap.size) := ⟨_, rfl⟩
  rw [← hQ]
  have hD := hD0.self (sz := s.heap.size)
  generalize hAe : (va_A [(m0, .inr (5, [.int (th), .int (nI (n)), .int (nI (q)), .ref aJ, .ref aS, .ref aT, .ref aW, .int (bI kn), .int (nI (rk)), .ref aR, .ref aP, .ref aH, .ref aK, .ref aE, .ref aY, .ref aN, .ref aQ, .ref aB, .ref aI, .ref aD])), (aJ, .inl (cZ, 900, .inl (fun j => bI (jn j)))), (aS, .inl (cZ, 30, .inl (fun j => bI (ns j)))), (aR, .inl (cI, 900, .inl (fun j => nI (rw j)))), (aP, .inl (cI, 900, .inl (fun j => nI (ps j)))), (aH, .inl (cI, 30, .inl (fun j => nI (hd j)))), (aK, .inl (cZ, 30, .inl (fun j => bI (bo j)))), (aE, .inl (cI, 30, .inl (fun j => nI (re j)))), (aY, .inl (cI, 30, .inl (fun j => nI (yy j)))), (aQ, .inl (cI, 900, .inl (fun j => nI (qu j))))] s.heap.size) = A at hD hQ
  have hA : ∀ q : Nat, s.heap.size ≤ q → A q := fun q h => by rw [← hAe]; exact Or.inr h
  have hS : va_S A s.heap s.heap [] := va_S.rf
  have hl := lv_entry ([.ref m0]) (n := 5) (Nat.le_of_ble_eq_true rfl)
  generalize hen : entryFrame m args 5 = fr
  rw [hargs, lg_entry_eq] at hen
  subst hen
  generalize (lg_sl ([.ref m0]) ++ List.replicate (5 - (lg_sl ([.ref m0])).length) Slot.unset).toArray = ls at hl ⊢
  have hl : lv_has ls 5 [(0, .ref m0)] := hl
  have hinX4 : ∀ w ∈ wsX40, w ∈ wsX4_know := by decide +kernel
  have hf7 := hts (.fieldLink RX4 7 "LightRowsModel" "joined" "[Z") (by decide +kernel)
  have hf13 := hts (.fieldLink RX4 13 "LightRowsModel" "isNotSelf" "[Z") (by decide +kernel)
  have hf23 := hts (.fieldLink RX4 23 "LightRowsModel" "rows" "[I") (by decide +kernel)
  have hf26 := hts (.fieldLink RX4 26 "LightRowsModel" "presses" "[I") (by decide +kernel)
  have hf29 := hts (.fieldLink RX4 29 "LightRowsModel" "heads" "[I") (by decide +kernel)
  have hf32 := hts (.fieldLink RX4 32 "LightRowsModel" "isBound" "[Z") (by decide +kernel)
  have hf35 := hts (.fieldLink RX4 35 "LightRowsModel" "rest" "[I") (by decide +kernel)
  have hf38 := hts (.fieldLink RX4 38 "LightRowsModel" "by" "[I") (by decide +kernel)
  have hf44 := hts (.fieldLink RX4 44 "LightRowsModel" "quiet" "[I") (by decide +kernel)
  have hf56 := hts (.fieldLink RX4 56 "LightRowsModel" "lamps" "I") (by decide +kernel)
  have hf60 := hts (.fieldLink RX4 60 "LightRowsModel" "p" "I") (by decide +kernel)
  have hf74 := hts (.fieldLink RX4 74 "LightRowsModel" "isKnown" "Z") (by decide +kernel)
  have hf85 := hts (.fieldLink RX4 85 "LightRowsModel" "rank" "I") (by decide +kernel)
  refine lv_aload_n hx hb dX4_know_0 rfl (lv_at hl 0 rfl) ?_
  refine va_get (D := (dC, dI)) (ci := 5) (v := .int (bI kn)) (C := RX4) (T := TX4) (N := 20) hx hb hts hinX4 hown hK hP 0 rfl rfl 7 (by decide) hf74 (fun _ h9 => h9) rfl dX4_know_1 ?_
  rcases hk : kn with _ | _
  · skip
    refine tp_i (y := nI 0) rfl ?_
    refine lv_if_eq (tgt := 8) hx hb dX4_know_4 (by decide) (fun c => ?_) (fun c => ?_)
    · skip
      have c : 0 = 0 := (nI_eq (a := 0) (b := 0) (by omega) (by omega)).mp c
      have hE : ∀ l, l < n → ∀ k, k < n → eff jn ns l k < q := fun l _ k _ => by have := eff_le jn ns l k; omega
      have hlt := knN_lt (E := eff jn ns) hq hinv hE
      refine lv_aload_n hx hb dX4_know_8 rfl (lv_at hl 0 rfl) ?_
      refine lv_iconst (v := nI 1) hx hb dX4_know_9 (by decide) ?_
      refine va_put (D := (dC, dI)) (ci := 5) (v := .int (nI (1))) (ty := .boolean) (C := RX4) (T := TX4) (N := 20) hx hb hts hinX4 tyX4 tyX4_ok nmX4 hown hK hP hD hS 0 rfl rfl 7 (by decide) hf74 (fun _ h9 => h9) rfl (by decide +kernel) rfl rfl (Nat.le_of_ble_eq_true rfl) dX4_know_10 (fun H locs hP hD hS => ?_)
      have hP : va_P (dC, dI) vwCl [(m0, .inr (5, [.int (th), .int (nI (n)), .int (nI (q)), .ref aJ, .ref aS, .ref aT, .ref aW, .int (nI (1)), .int (nI (rk)), .ref aR, .ref aP, .ref aH, .ref aK, .ref aE, .ref aY, .ref aN, .ref aQ, .ref aB, .ref aI, .ref aD])), (aJ, .inl (cZ, 900, .inl (fun j => bI (jn j)))), (aS, .inl (cZ, 30, .inl (fun j => bI (ns j)))), (aR, .inl (cI, 900, .inl (fun j => nI (rw j)))), (aP, .inl (cI, 900, .inl (fun j => nI (ps j)))), (aH, .inl (cI, 30, .inl (fun j => nI (hd j)))), (aK, .inl (cZ, 30, .inl (fun j => bI (bo j)))), (aE, .inl (cI, 30, .inl (fun j => nI (re j)))), (aY, .inl (cI, 30, .inl (fun j => nI (yy j)))), (aQ, .inl (cI, 900, .inl (fun j => nI (qu j))))] H := hP
      have hD : va_D A [(m0, .inr (5, [.int (th), .int (nI (n)), .int (nI (q)), .ref aJ, .ref aS, .ref aT, .ref aW, .int (nI (1)), .int (nI (rk)), .ref aR, .ref aP, .ref aH, .ref aK, .ref aE, .ref aY, .ref aN, .ref aQ, .ref aB, .ref aI, .ref aD])), (aJ, .inl (cZ, 900, .inl (fun j => bI (jn j)))), (aS, .inl (cZ, 30, .inl (fun j => bI (ns j)))), (aR, .inl (cI, 900, .inl (fun j => nI (rw j)))), (aP, .inl (cI, 900, .inl (fun j => nI (ps j)))), (aH, .inl (cI, 30, .inl (fun j => nI (hd j)))), (aK, .inl (cZ, 30, .inl (fun j => bI (bo j)))), (aE, .inl (cI, 30, .inl (fun j => nI (re j)))), (aY, .inl (cI, 30, .inl (fun j => nI (yy j)))), (aQ, .inl (cI, 900, .inl (fun j => nI (qu j))))] := hD
      refine lv_aload_n hx hb dX4_know_13 rfl (lv_at hl 0 rfl) ?_
      refine lv_iconst (v := nI 0) hx hb dX4_know_14 (by decide) ?_
      refine va_put (D := (dC, dI)) (ci := 5) (v := .int (nI (0))) (ty := .int) (C := RX4) (T := TX4) (N := 20) hx hb hts hinX4 tyX4 tyX4_ok nmX4 hown hK hP hD hS 0 rfl rfl 8 (by decide) hf85 (fun _ h9 => h9) rfl (by decide +kernel) rfl rfl (Nat.le_of_ble_eq_true rfl) dX4_know_15 (fun H locs hP hD hS => ?_)
      have hP : va_P (dC, dI) vwCl [(m0, .inr (5, [.int (th), .int (nI (n)), .int (nI (q)), .ref aJ, .ref aS, .ref aT, .ref aW, .int (nI (1)), .int (nI (0)), .ref aR, .ref aP, .ref aH, .ref aK, .ref aE, .ref aY, .ref aN, .ref aQ, .ref aB, .ref aI, .ref aD])), (aJ, .inl (cZ, 900, .inl (fun j => bI (jn j)))), (aS, .inl (cZ, 30, .inl (fun j => bI (ns j)))), (aR, .inl (cI, 900, .inl (fun j => nI (rw j)))), (aP, .inl (cI, 900, .inl (fun j => nI (ps j)))), (aH, .inl (cI, 30, .inl (fun j => nI (hd j)))), (aK, .inl (cZ, 30, .inl (fun j => bI (bo j)))), (aE, .inl (cI, 30, .inl (fun j => nI (re j)))), (aY, .inl (cI, 30, .inl (fun j => nI (yy j)))), (aQ, .inl (cI, 900, .inl (fun j => nI (qu j))))] H := hP
      have hD : va_D A [(m0, .inr (5, [.int (th), .int (nI (n)), .int (nI (q)), .ref aJ, .ref aS, .ref aT, .ref aW, .int (nI (1)), .int (nI (0)), .ref aR, .ref aP, .ref aH, .ref aK, .ref aE, .ref aY, .ref aN, .ref aQ, .ref aB, .ref aI, .ref aD])), (aJ, .inl (cZ, 900, .inl (fun j => bI (jn j)))), (aS, .inl (cZ, 30, .inl (fun j => bI (ns j)))), (aR, .inl (cI, 900, .inl (fun j => nI (rw j)))), (aP, .inl (cI, 900, .inl (fun j => nI (ps j)))), (aH, .inl (cI, 30, .inl (fun j => nI (hd j)))), (aK, .inl (cZ, 30, .inl (fun j => bI (bo j)))), (aE, .inl (cI, 30, .inl (fun j => nI (re j)))), (aY, .inl (cI, 30, .inl (fun j => nI (yy j)))), (aQ, .inl (cI, 900, .inl (fun j => nI (qu j))))] := hD
      refine lv_iconst (v := nI 0) hx hb dX4_know_18 (by decide) ?_
      refine lv_istore_n (lv' := [(1, .int (nI (0))), (0, .ref m0)]) hx hb dX4_know_19 rfl hl (by decide) rfl (fun ls hl => ?_)
      refine lv_iconst (v := nI 0) hx hb dX4_know_20 (by decide) ?_
      refine lv_istore_n (lv' := [(2, .int (nI (0))), (1, .int (nI (0))), (0, .ref m0)]) hx hb dX4_know_21 rfl hl (by decide) rfl (fun ls hl => ?_)
      have lp : ∀ (k0 : Nat) (i : Nat) (x0 : Nat) (x1 : Nat → Nat) (x2 : Nat → Nat) (x3 : Nat → Nat) (x4 : Nat → Bool) (x5 : Nat → Nat) (x6 : Nat → Nat) (x7 : Nat → Nat), (i + k0 = n) → (kOK n (knN n q (eff jn ns) i) x0 x1 x2 x3 x7) → ∀ (H : Heap) (locs : List Loc), va_P (dC, dI) vwCl [(m0, .inr (5, [.int (th), .int (nI (n)), .int (nI (q)), .ref aJ, .ref aS, .ref aT, .ref aW, .int (bI true), .int (nI (x0)), .ref aR, .ref aP, .ref aH, .ref aK, .ref aE, .ref aY, .ref aN, .ref aQ, .ref aB, .ref aI, .ref aD])), (aJ, .inl (cZ, 900, .inl (fun j => bI (jn j)))), (aS, .inl (cZ, 30, .inl (fun j => bI (ns j)))), (aR, .inl (cI, 900, .inl (fun j => nI (x1 j)))), (aP, .inl (cI, 900, .inl (fun j => nI (x2 j)))), (aH, .inl (cI, 30, .inl (fun j => nI (x3 j)))), (aK, .inl (cZ, 30, .inl (fun j => bI (x4 j)))), (aE, .inl (cI, 30, .inl (fun j => nI (x5 j)))), (aY, .inl (cI, 30, .inl (fun j => nI (x6 j)))), (aQ, .inl (cI, 900, .inl (fun j => nI (x7 j))))] H → va_D A [(m0, .inr (5, [.int (th), .int (nI (n)), .int (nI (q)), .ref aJ, .ref aS, .ref aT, .ref aW, .int (bI true), .int (nI (x0)), .ref aR, .ref aP, .ref aH, .ref aK, .ref aE, .ref aY, .ref aN, .ref aQ, .ref aB, .ref aI, .ref aD])), (aJ, .inl (cZ, 900, .inl (fun j => bI (jn j)))), (aS, .inl (cZ, 30, .inl (fun j => bI (ns j)))), (aR, .inl (cI, 900, .inl (fun j => nI (x1 j)))), (aP, .inl (cI, 900, .inl (fun j => nI (x2 j)))), (aH, .inl (cI, 30, .inl (fun j => nI (x3 j)))), (aK, .inl (cZ, 30, .inl (fun j => bI (x4 j)))), (aE, .inl (cI, 30, .inl (fun j => nI (x5 j)))), (aY, .inl (cI, 30, .inl (fun j => nI (x6 j)))), (aQ, .inl (cI, 900, .inl (fun j => nI (x7 j))))] → va_S A s.heap H locs → ∀ (ls : Array Slot), lv_has ls 5 [(0, .ref m0), (1, .int (nI ((knN n q (eff jn ns) i).2.2.2.2.1))), (2, .int (nI (i)))] → W zp l ze (headSpec wsX4_know ({ frames := 2, cells := 0, slots := 0, locals := 45 })).room s m args below meth zc H locs 0 0 Q (F0 m 22 ls []) := by
        intro k0
        induction k0 with
        | zero =>
          intro i x0 x1 x2 x3 x4 x5 x6 x7 hi hO H locs hP hD hS ls hl
          refine lv_iload_n hx hb dX4_know_22 rfl (lv_at hl 2 rfl) ?_
          refine lv_aload_n hx hb dX4_know_23 rfl (lv_at hl 0 rfl) ?_
          refine va_get (D := (dC, dI)) (ci := 5) (v := .int (nI (n))) (C := RX4) (T := TX4) (N := 20) hx hb hts hinX4 hown hK hP 0 rfl rfl 1 (by decide) hf56 (fun _ h9 => h9) rfl dX4_know_24 ?_
          refine lv_icmp_ge (tgt := 257) hx hb dX4_know_27 (by decide) (fun ca => ?_) (fun ca => ?_)
          · skip
            have ca : n ≤ i := (nI_leI (a := n) (b := i) (by omega) (by omega)).mp ca
            obtain rfl : n = i := by omega
            rw [hQ]
            exact W.vret hx hb hr (fun t ht hW => ⟨⟨(x0, x1, x2, x3, x4, x5, x6, x7), rfl, hO, by rw [ht]; exact hP, va_K.moved hW.alike hK, hD⟩, hS.F ht⟩) hS.2.2 dX4_know_257
          · skip
            have ca : i < n := Nat.not_le.mp (fun h => ca ((nI_leI (a := n) (b := i) (by omega) (by omega)).mpr h))
            exact absurd ca (by omega)
        | succ k0 ih =>
          intro i x0 x1 x2 x3 x4 x5 x6 x7 hi hO H locs hP hD hS ls hl
          refine lv_iload_n hx hb dX4_know_22 rfl (lv_at hl 2 rfl) ?_
          refine lv_aload_n hx hb dX4_know_23 rfl (lv_at hl 0 rfl) ?_
          refine va_get (D := (dC, dI)) (ci := 5) (v := .int (nI (n))) (C := RX4) (T := TX4) (N := 20) hx hb hts hinX4 hown hK hP 0 rfl rfl 1 (by decide) hf56 (fun _ h9 => h9) rfl dX4_know_24 ?_
          refine lv_icmp_ge (tgt := 257) hx hb dX4_know_27 (by decide) (fun ca => ?_) (fun ca => ?_)
          · skip
            have ca : n ≤ i := (nI_leI (a := n) (b := i) (by omega) (by omega)).mp ca
            exact absurd ca (by omega)
          · skip
            have ca : i < n := Nat.not_le.mp (fun h => ca ((nI_leI (a := n) (b := i) (by omega) (by omega)).mpr h))
            have hsum := knN_sum (n := n) (q := q) (E := eff jn ns) i
            obtain ⟨o1, o2, o3, o4, o5⟩ := hO
            obtain ⟨t1, t2, t3, t4, t5⟩ := hlt i (by omega)
            have hkS : knN n q (eff jn ns) (i + 1) = knS n q (eff jn ns) i (knN n q (eff jn ns) i) := rfl
            generalize hc : knN n q (eff jn ns) i = cc at o1 o2 o3 o4 o5 t1 t2 t3 t4 t5 hsum hkS hl ⊢
            subst o1
            refine lv_iconst (v := nI 0) hx hb dX4_know_30 (by decide) ?_
            refine lv_istore_n (lv' := [(3, .int (nI (0))), (0, .ref m0), (1, .int (nI (cc.2.2.2.2.1))), (2, .int (nI (i)))]) hx hb dX4_know_31 rfl hl (by decide) rfl (fun ls hl => ?_)
            have lp2 : ∀ (k2 : Nat) (b : Nat) (F : Nat → Nat), (b + k2 = n) → (∀ k, k < b → F k = eff jn ns i k) → ∀ (H : Heap) (locs : List Loc), va_P (dC, dI) vwCl [(m0, .inr (5, [.int (th), .int (nI (n)), .int (nI (q)), .ref aJ, .ref aS, .ref aT, .ref aW, .int (bI true), .int (nI (cc.1)), .ref aR, .ref aP, .ref aH, .ref aK, .ref aE, .ref aY, .ref aN, .ref aQ, .ref aB, .ref aI, .ref aD])), (aJ, .inl (cZ, 900, .inl (fun j => bI (jn j)))), (aS, .inl (cZ, 30, .inl (fun j => bI (ns j)))), (aR, .inl (cI, 900, .inl (fun j => nI (x1 j)))), (aP, .inl (cI, 900, .inl (fun j => nI (x2 j)))), (aH, .inl (cI, 30, .inl (fun j => nI (x3 j)))), (aK, .inl (cZ, 30, .inl (fun j => bI (x4 j)))), (aE, .inl (cI, 30, .inl (fun j => nI (F j)))), (aY, .inl (cI, 30, .inl (fun j => nI (x6 j)))), (aQ, .inl (cI, 900, .inl (fun j => nI (x7 j))))] H → va_D A [(m0, .inr (5, [.int (th), .int (nI (n)), .int (nI (q)), .ref aJ, .ref aS, .ref aT, .ref aW, .int (bI true), .int (nI (cc.1)), .ref aR, .ref aP, .ref aH, .ref aK, .ref aE, .ref aY, .ref aN, .ref aQ, .ref aB, .ref aI, .ref aD])), (aJ, .inl (cZ, 900, .inl (fun j => bI (jn j)))), (aS, .inl (cZ, 30, .inl (fun j => bI (ns j)))), (aR, .inl (cI, 900, .inl (fun j => nI (x1 j)))), (aP, .inl (cI, 900, .inl (fun j => nI (x2 j)))), (aH, .inl (cI, 30, .inl (fun j => nI (x3 j)))), (aK, .inl (cZ, 30, .inl (fun j => bI (x4 j)))), (aE, .inl (cI, 30, .inl (fun j => nI (F j)))), (aY, .inl (cI, 30, .inl (fun j => nI (x6 j)))), (aQ, .inl (cI, 900, .inl (fun j => nI (x7 j))))] → va_S A s.heap H locs → ∀ (ls : Array Slot), lv_has ls 5 [(0, .ref m0), (1, .int (nI (cc.2.2.2.2.1))), (2, .int (nI (i))), (3, .int (nI (b)))] → W zp l ze (headSpec wsX4_know ({ frames := 2, cells := 0, slots := 0, locals := 45 })).room s m args below meth zc H locs 0 0 Q (F0 m 32 ls []) := by
              intro k2
              induction k2 with
              | zero =>
                intro b F hb2 f1 H locs hP hD hS ls hl
                refine lv_iload_n hx hb dX4_know_32 rfl (lv_at hl 3 rfl) ?_
                refine lv_aload_n hx hb dX4_know_33 rfl (lv_at hl 0 rfl) ?_
                refine va_get (D := (dC, dI)) (ci := 5) (v := .int (nI (n))) (C := RX4) (T := TX4) (N := 20) hx hb hts hinX4 hown hK hP 0 rfl rfl 1 (by decide) hf56 (fun _ h9 => h9) rfl dX4_know_34 ?_
                refine lv_icmp_ge (tgt := 58) hx hb dX4_know_37 (by decide) (fun cb => ?_) (fun cb => ?_)
                · skip
                  have cb : n ≤ b := (nI_leI (a := n) (b := b) (by omega) (by omega)).mp cb
                  obtain rfl : n = b := by omega
                  refine lv_aload_n hx hb dX4_know_58 rfl (lv_at hl 0 rfl) ?_
                  have hPc := hP.sub (ws' := [(m0, .inr (5, [.int (th), .int (nI (n)), .int (nI (q)), .ref aJ, .ref aS, .ref aT, .ref aW, .int (bI true), .int (nI (cc.1)), .ref aR, .ref aP, .ref aH, .ref aK, .ref aE, .ref aY, .ref aN, .ref aQ, .ref aB, .ref aI, .ref aD])), (aR, .inl (cI, 900, .inl (fun j => nI (x1 j)))), (aP, .inl (cI, 900, .inl (fun j => nI (x2 j)))), (aH, .inl (cI, 30, .inl (fun j => nI (x3 j)))), (aE, .inl (cI, 30, .inl (fun j => nI (F j)))), (aY, .inl (cI, 30, .inl (fun j => nI (x6 j))))]) [0, 3, 4, 5, 7, 8] rfl
                  have hDc := hD.sub (ws' := [(m0, .inr (5, [.int (th), .int (nI (n)), .int (nI (q)), .ref aJ, .ref aS, .ref aT, .ref aW, .int (bI true), .int (nI (cc.1)), .ref aR, .ref aP, .ref aH, .ref aK, .ref aE, .ref aY, .ref aN, .ref aQ, .ref aB, .ref aI, .ref aD])), (aR, .inl (cI, 900, .inl (fun j => nI (x1 j)))), (aP, .inl (cI, 900, .inl (fun j => nI (x2 j)))), (aH, .inl (cI, 30, .inl (fun j => nI (x3 j)))), (aE, .inl (cI, 30, .inl (fun j => nI (F j)))), (aY, .inl (cI, 30, .inl (fun j => nI (x6 j))))]) [0, 3, 4, 5, 7, 8] (by decide) rfl
                  have hFc := va_free (wc := [(m0, .inr (5, [.int (th), .int (nI (n)), .int (nI (q)), .ref aJ, .ref aS, .ref aT, .ref aW, .int (bI true), .int (nI (cc.1)), .ref aR, .ref aP, .ref aH, .ref aK, .ref aE, .ref aY, .ref aN, .ref aQ, .ref aB, .ref aI, .ref aD])), (aR, .inl (cI, 900, .inl (fun j => nI (x1 j)))), (aP, .inl (cI, 900, .inl (fun j => nI (x2 j)))), (aH, .inl (cI, 30, .inl (fun j => nI (x3 j)))), (aE, .inl (cI, 30, .inl (fun j => nI (F j)))), (aY, .inl (cI, 30, .inl (fun j => nI (x6 j))))]) hD hS hA [0, 3, 4, 5, 7, 8] rfl
                  have hKc := hK.sub (tys' := [(cI, .int), (cZ, .boolean)]) [0, 1] rfl
                  refine va_callv (va_runV (As := []) (rest := []) ⟨hx, hb, hml, hown, hts⟩ (c_X4_takeApart l dC dI H.size m0 aJ aS aT aW aR aP aH aK aE aY aN aQ aB aI aD n q cc.1 th true cI cZ x1 x2 x3 F x6 cc.2.1 cc.2.2.1 hn hq hq2 (by omega) (fun r hr => by rw [o4 r hr]; exact t1 r hr) o2 o3 t2 t3 (fun r hr => by rw [o4 r hr]; exact t4 r hr) (fun k hk => by rw [f1 k hk]; exact hE i (by omega) k hk)) (cwV 0 hts gX4_know_X4_takeApart rfl rfl rfl (by decide +kernel) ⟨Nat.le_of_ble_eq_true rfl, Nat.le_of_ble_eq_true rfl⟩) ⟨fun a U g mk q => by obtain ⟨q0, q1, qP, qK, qD⟩ := q; exact ⟨q0, q1, qP, va_K.moved (u := U) (U := U.calling g mk a) (Vm.Alike.refl U.vm) qK, qD⟩, va_recv hKc hPc (ci := 5) (q0 := 0) rfl rfl, fun U hU hW => ⟨rfl, by rw [hU], by rw [hU]; exact hPc, va_K.moved hW.alike hKc, hDc.weaken (fun _ _ _ _ => trivial)⟩⟩ rfl rfl hl.1 rfl (lv_room (Nat.le_of_ble_eq_true rfl)) dX4_know_59 ⟨Nat.le_of_ble_eq_true rfl, Nat.le_of_ble_eq_true rfl⟩) hS (fun q _ h => hFc q h) hFc (fun u t H1 locs ht hvm hw hB hz1 hk1 hS => ?_)
                  obtain ⟨F2, G2⟩ := u
                  obtain ⟨hP1, hK1, hD1⟩ := hB
                  rw [ht] at hP1
                  try dsimp only at hw
                  obtain ⟨hP, hD⟩ := va_join (wr := [(aJ, .inl (cZ, 900, .inl (fun j => bI (jn j)))), (aS, .inl (cZ, 30, .inl (fun j => bI (ns j)))), (aK, .inl (cZ, 30, .inl (fun j => bI (x4 j)))), (aQ, .inl (cI, 900, .inl (fun j => nI (x7 j))))]) (w1 := [(m0, .inr (5, [.int (th), .int (nI (n)), .int (nI (q)), .ref aJ, .ref aS, .ref aT, .ref aW, .int (bI true), .int (nI (cc.1)), .ref aR, .ref aP, .ref aH, .ref aK, .ref aE, .ref aY, .ref aN, .ref aQ, .ref aB, .ref aI, .ref aD])), (aR, .inl (cI, 900, .inl (fun j => nI (x1 j)))), (aP, .inl (cI, 900, .inl (fun j => nI (x2 j)))), (aH, .inl (cI, 30, .inl (fun j => nI (x3 j)))), (aE, .inl (cI, 30, .inl (fun j => nI (F2 j)))), (aY, .inl (cI, 30, .inl (fun j => nI (G2 j))))]) hP hD [0, 3, 4, 5, 7, 8] [1, 2, 6, 9] rfl rfl (by decide) (by decide) hk1 hFc hP1 hD1
                  generalize H1 = H at hP hS ⊢
                  have hP := hP.sub (ws' := [(m0, .inr (5, [.int (th), .int (nI (n)), .int (nI (q)), .ref aJ, .ref aS, .ref aT, .ref aW, .int (bI true), .int (nI (cc.1)), .ref aR, .ref aP, .ref aH, .ref aK, .ref aE, .ref aY, .ref aN, .ref aQ, .ref aB, .ref aI, .ref aD])), (aJ, .inl (cZ, 900, .inl (fun j => bI (jn j)))), (aS, .inl (cZ, 30, .inl (fun j => bI (ns j)))), (aR, .inl (cI, 900, .inl (fun j => nI (x1 j)))), (aP, .inl (cI, 900, .inl (fun j => nI (x2 j)))), (aH, .inl (cI, 30, .inl (fun j => nI (x3 j)))), (aK, .inl (cZ, 30, .inl (fun j => bI (x4 j)))), (aE, .inl (cI, 30, .inl (fun j => nI (F2 j)))), (aY, .inl (cI, 30, .inl (fun j => nI (G2 j)))), (aQ, .inl (cI, 900, .inl (fun j => nI (x7 j))))]) [4, 0, 1, 5, 6, 7, 2, 8, 9, 3] rfl
                  have hD := hD.sub (ws' := [(m0, .inr (5, [.int (th), .int (nI (n)), .int (nI (q)), .ref aJ, .ref aS, .ref aT, .ref aW, .int (bI true), .int (nI (cc.1)), .ref aR, .ref aP, .ref aH, .ref aK, .ref aE, .ref aY, .ref aN, .ref aQ, .ref aB, .ref aI, .ref aD])), (aJ, .inl (cZ, 900, .inl (fun j => bI (jn j)))), (aS, .inl (cZ, 30, .inl (fun j => bI (ns j)))), (aR, .inl (cI, 900, .inl (fun j => nI (x1 j)))), (aP, .inl (cI, 900, .inl (fun j => nI (x2 j)))), (aH, .inl (cI, 30, .inl (fun j => nI (x3 j)))), (aK, .inl (cZ, 30, .inl (fun j => bI (x4 j)))), (aE, .inl (cI, 30, .inl (fun j => nI (F2 j)))), (aY, .inl (cI, 30, .inl (fun j => nI (G2 j)))), (aQ, .inl (cI, 900, .inl (fun j => nI (x7 j))))]) [4, 0, 1, 5, 6, 7, 2, 8, 9, 3] (by decide) rfl
                  have hP : va_P (dC, dI) vwCl [(m0, .inr (5, [.int (th), .int (nI (n)), .int (nI (q)), .ref aJ, .ref aS, .ref aT, .ref aW, .int (bI true), .int (nI (cc.1)), .ref aR, .ref aP, .ref aH, .ref aK, .ref aE, .ref aY, .ref aN, .ref aQ, .ref aB, .ref aI, .ref aD])), (aJ, .inl (cZ, 900, .inl (fun j => bI (jn j)))), (aS, .inl (cZ, 30, .inl (fun j => bI (ns j)))), (aR, .inl (cI, 900, .inl (fun j => nI (x1 j)))), (aP, .inl (cI, 900, .inl (fun j => nI (x2 j)))), (aH, .inl (cI, 30, .inl (fun j => nI (x3 j)))), (aK, .inl (cZ, 30, .inl (fun j => bI (x4 j)))), (aE, .inl (cI, 30, .inl (fun j => nI (F2 j)))), (aY, .inl (cI, 30, .inl (fun j => nI (G2 j)))), (aQ, .inl (cI, 900, .inl (fun j => nI (x7 j))))] H := hP
                  have hD : va_D A [(m0, .inr (5, [.int (th), .int (nI (n)), .int (nI (q)), .ref aJ, .ref aS, .ref aT, .ref aW, .int (bI true), .int (nI (cc.1)), .ref aR, .ref aP, .ref aH, .ref aK, .ref aE, .ref aY, .ref aN, .ref aQ, .ref aB, .ref aI, .ref aD])), (aJ, .inl (cZ, 900, .inl (fun j => bI (jn j)))), (aS, .inl (cZ, 30, .inl (fun j => bI (ns j)))), (aR, .inl (cI, 900, .inl (fun j => nI (x1 j)))), (aP, .inl (cI, 900, .inl (fun j => nI (x2 j)))), (aH, .inl (cI, 30, .inl (fun j => nI (x3 j)))), (aK, .inl (cZ, 30, .inl (fun j => bI (x4 j)))), (aE, .inl (cI, 30, .inl (fun j => nI (F2 j)))), (aY, .inl (cI, 30, .inl (fun j => nI (G2 j)))), (aQ, .inl (cI, 900, .inl (fun j => nI (x7 j))))] := hD
                  have hcg := tkA_congr (n := n) (q := q) (RW := cc.2.1) (PS := cc.2.2.1) (RW' := cc.2.1) (PS' := cc.2.2.1) (hd := x3) (hd' := cc.2.2.2.1) (z := (F, fun _ => 0)) (z' := (eff jn ns i, fun _ => 0)) (R := cc.1) (fun r hr => ⟨o4 r hr, by rw [o4 r hr]; exact t1 r hr⟩) (fun _ _ _ _ => rfl) (fun _ _ _ _ => rfl) f1 (fun _ _ => rfl) cc.1 (Nat.le_refl _)
                  have w1 : ∀ k, k < n → F2 k = (knT n q (eff jn ns) i cc).1 k := fun k hk => (hw.1 k hk).trans (hcg.1 k hk)
                  have w2 : ∀ k, k < n → G2 k = (knT n q (eff jn ns) i cc).2 k := fun k hk => (hw.2 k hk).trans (hcg.2 k hk)
                  have tl := knT_lt (c := cc) hq (hE i (by omega))
                  refine lv_aload_n hx hb dX4_know_62 rfl (lv_at hl 0 rfl) ?_
                  have elf : lft F2 n 0 = lft (knT n q (eff jn ns) i cc).1 n 0 := lft_congr n 0 (fun k _ hk => w1 k (by omega))
                  have hPc := hP.sub (ws' := [(m0, .inr (5, [.int (th), .int (nI (n)), .int (nI (q)), .ref aJ, .ref aS, .ref aT, .ref aW, .int (bI true), .int (nI (cc.1)), .ref aR, .ref aP, .ref aH, .ref aK, .ref aE, .ref aY, .ref aN, .ref aQ, .ref aB, .ref aI, .ref aD])), (aE, .inl (cI, 30, .inl (fun j => nI (F2 j))))]) [0, 7] rfl
                  have hDc := hD.sub (ws' := [(m0, .inr (5, [.int (th), .int (nI (n)), .int (nI (q)), .ref aJ, .ref aS, .ref aT, .ref aW, .int (bI true), .int (nI (cc.1)), .ref aR, .ref aP, .ref aH, .ref aK, .ref aE, .ref aY, .ref aN, .ref aQ, .ref aB, .ref aI, .ref aD])), (aE, .inl (cI, 30, .inl (fun j => nI (F2 j))))]) [0, 7] (by decide) rfl
                  have hFc := va_free (wc := [(m0, .inr (5, [.int (th), .int (nI (n)), .int (nI (q)), .ref aJ, .ref aS, .ref aT, .ref aW, .int (bI true), .int (nI (cc.1)), .ref aR, .ref aP, .ref aH, .ref aK, .ref aE, .ref aY, .ref aN, .ref aQ, .ref aB, .ref aI, .ref aD])), (aE, .inl (cI, 30, .inl (fun j => nI (F2 j))))]) hD hS hA [0, 7] rfl
                  have hKc := hK.sub (tys' := [(cI, .int), (cZ, .boolean)]) [0, 1] rfl
                  refine va_calli (va_runV (As := []) (rest := []) ⟨hx, hb, hml, hown, hts⟩ (c_X4_left l dC dI H.size m0 aJ aS aT aW aR aP aH aK aE aY aN aQ aB aI aD n q cc.1 th true cI cZ F2 hn (fun k hk => by rw [w1 k hk]; have := tl.1 k hk; omega)) (cwV 0 hts gX4_know_X4_left rfl rfl rfl (by decide +kernel) ⟨Nat.le_of_ble_eq_true rfl, Nat.le_of_ble_eq_true rfl⟩) ⟨fun a U g mk q => by obtain ⟨q0, q1, qP, qK, qD⟩ := q; exact ⟨q0, q1, qP, va_K.moved (u := U) (U := U.calling g mk a) (Vm.Alike.refl U.vm) qK, qD⟩, va_recv hKc hPc (ci := 5) (q0 := 0) rfl rfl, fun U hU hW => ⟨rfl, by rw [hU], by rw [hU]; exact hPc, va_K.moved hW.alike hKc, hDc.weaken (fun _ _ _ _ => trivial)⟩⟩ rfl rfl hl.1 rfl (lv_room (Nat.le_of_ble_eq_true rfl)) dX4_know_63 ⟨Nat.le_of_ble_eq_true rfl, Nat.le_of_ble_eq_true rfl⟩) hS (fun q _ h => hFc q h) hFc (fun r2 uu t H1 locs ht hvm hw3 hB hz1 hk1 hS => ?_)
                  obtain ⟨hP1, hK1, hD1⟩ := hB
                  rw [ht] at hP1
                  try dsimp only at hw3
                  obtain ⟨hP, hD⟩ := va_join (wr := [(aJ, .inl (cZ, 900, .inl (fun j => bI (jn j)))), (aS, .inl (cZ, 30, .inl (fun j => bI (ns j)))), (aR, .inl (cI, 900, .inl (fun j => nI (x1 j)))), (aP, .inl (cI, 900, .inl (fun j => nI (x2 j)))), (aH, .inl (cI, 30, .inl (fun j => nI (x3 j)))), (aK, .inl (cZ, 30, .inl (fun j => bI (x4 j)))), (aY, .inl (cI, 30, .inl (fun j => nI (G2 j)))), (aQ, .inl (cI, 900, .inl (fun j => nI (x7 j))))]) (w1 := [(m0, .inr (5, [.int (th), .int (nI (n)), .int (nI (q)), .ref aJ, .ref aS, .ref aT, .ref aW, .int (bI true), .int (nI (cc.1)), .ref aR, .ref aP, .ref aH, .ref aK, .ref aE, .ref aY, .ref aN, .ref aQ, .ref aB, .ref aI, .ref aD])), (aE, .inl (cI, 30, .inl (fun j => nI (F2 j))))]) hP hD [0, 7] [1, 2, 3, 4, 5, 6, 8, 9] rfl rfl (by decide) (by decide) hk1 hFc hP1 hD1
                  generalize H1 = H at hP hS ⊢
                  have hP := hP.sub (ws' := [(m0, .inr (5, [.int (th), .int (nI (n)), .int (nI (q)), .ref aJ, .ref aS, .ref aT, .ref aW, .int (bI true), .int (nI (cc.1)), .ref aR, .ref aP, .ref aH, .ref aK, .ref aE, .ref aY, .ref aN, .ref aQ, .ref aB, .ref aI, .ref aD])), (aJ, .inl (cZ, 900, .inl (fun j => bI (jn j)))), (aS, .inl (cZ, 30, .inl (fun j => bI (ns j)))), (aR, .inl (cI, 900, .inl (fun j => nI (x1 j)))), (aP, .inl (cI, 900, .inl (fun j => nI (x2 j)))), (aH, .inl (cI, 30, .inl (fun j => nI (x3 j)))), (aK, .inl (cZ, 30, .inl (fun j => bI (x4 j)))), (aE, .inl (cI, 30, .inl (fun j => nI (F2 j)))), (aY, .inl (cI, 30, .inl (fun j => nI (G2 j)))), (aQ, .inl (cI, 900, .inl (fun j => nI (x7 j))))]) [8, 0, 1, 2, 3, 4, 5, 9, 6, 7] rfl
                  have hD := hD.sub (ws' := [(m0, .inr (5, [.int (th), .int (nI (n)), .int (nI (q)), .ref aJ, .ref aS, .ref aT, .ref aW, .int (bI true), .int (nI (cc.1)), .ref aR, .ref aP, .ref aH, .ref aK, .ref aE, .ref aY, .ref aN, .ref aQ, .ref aB, .ref aI, .ref aD])), (aJ, .inl (cZ, 900, .inl (fun j => bI (jn j)))), (aS, .inl (cZ, 30, .inl (fun j => bI (ns j)))), (aR, .inl (cI, 900, .inl (fun j => nI (x1 j)))), (aP, .inl (cI, 900, .inl (fun j => nI (x2 j)))), (aH, .inl (cI, 30, .inl (fun j => nI (x3 j)))), (aK, .inl (cZ, 30, .inl (fun j => bI (x4 j)))), (aE, .inl (cI, 30, .inl (fun j => nI (F2 j)))), (aY, .inl (cI, 30, .inl (fun j => nI (G2 j)))), (aQ, .inl (cI, 900, .inl (fun j => nI (x7 j))))]) [8, 0, 1, 2, 3, 4, 5, 9, 6, 7] (by decide) rfl
                  have hP : va_P (dC, dI) vwCl [(m0, .inr (5, [.int (th), .int (nI (n)), .int (nI (q)), .ref aJ, .ref aS, .ref aT, .ref aW, .int (bI true), .int (nI (cc.1)), .ref aR, .ref aP, .ref aH, .ref aK, .ref aE, .ref aY, .ref aN, .ref aQ, .ref aB, .ref aI, .ref aD])), (aJ, .inl (cZ, 900, .inl (fun j => bI (jn j)))), (aS, .inl (cZ, 30, .inl (fun j => bI (ns j)))), (aR, .inl (cI, 900, .inl (fun j => nI (x1 j)))), (aP, .inl (cI, 900, .inl (fun j => nI (x2 j)))), (aH, .inl (cI, 30, .inl (fun j => nI (x3 j)))), (aK, .inl (cZ, 30, .inl (fun j => bI (x4 j)))), (aE, .inl (cI, 30, .inl (fun j => nI (F2 j)))), (aY, .inl (cI, 30, .inl (fun j => nI (G2 j)))), (aQ, .inl (cI, 900, .inl (fun j => nI (x7 j))))] H := hP
                  have hD : va_D A [(m0, .inr (5, [.int (th), .int (nI (n)), .int (nI (q)), .ref aJ, .ref aS, .ref aT, .ref aW, .int (bI true), .int (nI (cc.1)), .ref aR, .ref aP, .ref aH, .ref aK, .ref aE, .ref aY, .ref aN, .ref aQ, .ref aB, .ref aI, .ref aD])), (aJ, .inl (cZ, 900, .inl (fun j => bI (jn j)))), (aS, .inl (cZ, 30, .inl (fun j => bI (ns j)))), (aR, .inl (cI, 900, .inl (fun j => nI (x1 j)))), (aP, .inl (cI, 900, .inl (fun j => nI (x2 j)))), (aH, .inl (cI, 30, .inl (fun j => nI (x3 j)))), (aK, .inl (cZ, 30, .inl (fun j => bI (x4 j)))), (aE, .inl (cI, 30, .inl (fun j => nI (F2 j)))), (aY, .inl (cI, 30, .inl (fun j => nI (G2 j)))), (aQ, .inl (cI, 900, .inl (fun j => nI (x7 j))))] := hD
                  rw [elf] at hw3
                  subst hw3
                  rcases hlf : lft (knT n q (eff jn ns) i cc).1 n 0 with _ | h0
                  · skip
                    refine tp_i (y := (-1)) rfl ?_
                    have es : knS n q (eff jn ns) i cc = (cc.1, cc.2.1, cc.2.2.1, cc.2.2.2.1, cc.2.2.2.2.1 + 1, va_up cc.2.2.2.2.2 cc.2.2.2.2.1 (knP n q (eff jn ns) i cc)) := by unfold knS; rw [hlf]
                    refine lv_istore_n (lv' := [(3, .int ((-1))), (0, .ref m0), (1, .int (nI (cc.2.2.2.2.1))), (2, .int (nI (i)))]) hx hb dX4_know_66 rfl hl (by decide) rfl (fun ls hl => ?_)
                    refine lv_aload_n hx hb dX4_know_67 rfl (lv_at hl 1 rfl) ?_
                    refine va_get (D := (dC, dI)) (ci := 5) (v := .ref aK) (C := RX4) (T := TX4) (N := 20) hx hb hts hinX4 hown hK hP 0 rfl rfl 12 (by decide) hf32 (fun _ h9 => h9) rfl dX4_know_68 ?_
                    refine lv_iload_n hx hb dX4_know_71 rfl (lv_at hl 3 rfl) ?_
                    refine lv_iload_n hx hb dX4_know_72 rfl (lv_at hl 0 rfl) ?_
                    refine lv_if_lt (tgt := 80) hx hb dX4_know_73 (by decide) (fun cd => ?_) (fun cd => ?_)
                    · skip
                      refine lv_iconst (v := nI 0) hx hb dX4_know_80 (by decide) ?_
                      refine rz_st (g := bI) (F := x4) (v := false) hx hb hK hP hD hS 6 1 rfl rfl (by omega) (by omega) dX4_know_81 (bI_vnar _) (fun H locs hP hD hS => ?_)
                      have hP : va_P (dC, dI) vwCl [(m0, .inr (5, [.int (th), .int (nI (n)), .int (nI (q)), .ref aJ, .ref aS, .ref aT, .ref aW, .int (bI true), .int (nI (cc.1)), .ref aR, .ref aP, .ref aH, .ref aK, .ref aE, .ref aY, .ref aN, .ref aQ, .ref aB, .ref aI, .ref aD])), (aJ, .inl (cZ, 900, .inl (fun j => bI (jn j)))), (aS, .inl (cZ, 30, .inl (fun j => bI (ns j)))), (aR, .inl (cI, 900, .inl (fun j => nI (x1 j)))), (aP, .inl (cI, 900, .inl (fun j => nI (x2 j)))), (aH, .inl (cI, 30, .inl (fun j => nI (x3 j)))), (aK, .inl (cZ, 30, .inl (fun j => bI ((va_up x4 i (false)) j)))), (aE, .inl (cI, 30, .inl (fun j => nI (F2 j)))), (aY, .inl (cI, 30, .inl (fun j => nI (G2 j)))), (aQ, .inl (cI, 900, .inl (fun j => nI (x7 j))))] H := hP
                      have hD : va_D A [(m0, .inr (5, [.int (th), .int (nI (n)), .int (nI (q)), .ref aJ, .ref aS, .ref aT, .ref aW, .int (bI true), .int (nI (cc.1)), .ref aR, .ref aP, .ref aH, .ref aK, .ref aE, .ref aY, .ref aN, .ref aQ, .ref aB, .ref aI, .ref aD])), (aJ, .inl (cZ, 900, .inl (fun j => bI (jn j)))), (aS, .inl (cZ, 30, .inl (fun j => bI (ns j)))), (aR, .inl (cI, 900, .inl (fun j => nI (x1 j)))), (aP, .inl (cI, 900, .inl (fun j => nI (x2 j)))), (aH, .inl (cI, 30, .inl (fun j => nI (x3 j)))), (aK, .inl (cZ, 30, .inl (fun j => bI ((va_up x4 i (false)) j)))), (aE, .inl (cI, 30, .inl (fun j => nI (F2 j)))), (aY, .inl (cI, 30, .inl (fun j => nI (G2 j)))), (aQ, .inl (cI, 900, .inl (fun j => nI (x7 j))))] := hD
                      refine lv_iload_n hx hb dX4_know_82 rfl (lv_at hl 0 rfl) ?_
                      refine lv_if_lt (tgt := 191) hx hb dX4_know_83 (by decide) (fun ce => ?_) (fun ce => ?_)
                      · skip
                        refine lv_iconst (v := nI 0) hx hb dX4_know_191 (by decide) ?_
                        refine lv_istore (lv' := [(4, .int (nI (0))), (3, .int ((-1))), (0, .ref m0), (1, .int (nI (cc.2.2.2.2.1))), (2, .int (nI (i)))]) hx hb dX4_know_192 hl (by decide) rfl (fun ls hl => ?_)
                        have lp3 : ∀ (k3 : Nat) (b : Nat) (Y : Nat → Nat), (b + k3 = n) → (∀ k, k < b → Y (30 * cc.2.2.2.2.1 + k) = knP n q (eff jn ns) i cc k) → (∀ f, f < cc.2.2.2.2.1 → ∀ k, k < n → Y (30 * f + k) = cc.2.2.2.2.2 f k) → ∀ (H : Heap) (locs : List Loc), va_P (dC, dI) vwCl [(m0, .inr (5, [.int (th), .int (nI (n)), .int (nI (q)), .ref aJ, .ref aS, .ref aT, .ref aW, .int (bI true), .int (nI (cc.1)), .ref aR, .ref aP, .ref aH, .ref aK, .ref aE, .ref aY, .ref aN, .ref aQ, .ref aB, .ref aI, .ref aD])), (aJ, .inl (cZ, 900, .inl (fun j => bI (jn j)))), (aS, .inl (cZ, 30, .inl (fun j => bI (ns j)))), (aR, .inl (cI, 900, .inl (fun j => nI (x1 j)))), (aP, .inl (cI, 900, .inl (fun j => nI (x2 j)))), (aH, .inl (cI, 30, .inl (fun j => nI (x3 j)))), (aK, .inl (cZ, 30, .inl (fun j => bI ((va_up x4 i (false)) j)))), (aE, .inl (cI, 30, .inl (fun j => nI (F2 j)))), (aY, .inl (cI, 30, .inl (fun j => nI (G2 j)))), (aQ, .inl (cI, 900, .inl (fun j => nI (Y j))))] H → va_D A [(m0, .inr (5, [.int (th), .int (nI (n)), .int (nI (q)), .ref aJ, .ref aS, .ref aT, .ref aW, .int (bI true), .int (nI (cc.1)), .ref aR, .ref aP, .ref aH, .ref aK, .ref aE, .ref aY, .ref aN, .ref aQ, .ref aB, .ref aI, .ref aD])), (aJ, .inl (cZ, 900, .inl (fun j => bI (jn j)))), (aS, .inl (cZ, 30, .inl (fun j => bI (ns j)))), (aR, .inl (cI, 900, .inl (fun j => nI (x1 j)))), (aP, .inl (cI, 900, .inl (fun j => nI (x2 j)))), (aH, .inl (cI, 30, .inl (fun j => nI (x3 j)))), (aK, .inl (cZ, 30, .inl (fun j => bI ((va_up x4 i (false)) j)))), (aE, .inl (cI, 30, .inl (fun j => nI (F2 j)))), (aY, .inl (cI, 30, .inl (fun j => nI (G2 j)))), (aQ, .inl (cI, 900, .inl (fun j => nI (Y j))))] → va_S A s.heap H locs → ∀ (ls : Array Slot), lv_has ls 5 [(0, .ref m0), (1, .int (nI (cc.2.2.2.2.1))), (2, .int (nI (i))), (3, .int ((-1))), (4, .int (nI (b)))] → W zp l ze (headSpec wsX4_know ({ frames := 2, cells := 0, slots := 0, locals := 45 })).room s m args below meth zc H locs 0 0 Q (F0 m 194 ls []) := by
                          intro k3
                          induction k3 with
                          | zero =>
                            intro b Y hb3 y1 y2 H locs hP hD hS ls hl
                            refine lv_iload hx hb dX4_know_194 (lv_at hl 4 rfl) ?_
                            refine lv_aload_n hx hb dX4_know_196 rfl (lv_at hl 0 rfl) ?_
                            refine va_get (D := (dC, dI)) (ci := 5) (v := .int (nI (n))) (C := RX4) (T := TX4) (N := 20) hx hb hts hinX4 hown hK hP 0 rfl rfl 1 (by decide) hf56 (fun _ h9 => h9) rfl dX4_know_197 ?_
                            refine lv_icmp_ge (tgt := 248) hx hb dX4_know_200 (by decide) (fun cf => ?_) (fun cf => ?_)
                            · skip
                              have cf : n ≤ b := (nI_leI (a := n) (b := b) (by omega) (by omega)).mp cf
                              refine lv_iinc (v := nI (cc.2.2.2.2.1 + 1)) (lv' := [(1, .int (nI (cc.2.2.2.2.1 + 1))), (0, .ref m0), (2, .int (nI (i))), (3, .int ((-1))), (4, .int (nI (b)))]) hx hb dX4_know_248 hl (k := 1) rfl (nI_1 _) (by decide) rfl (fun ls hl => ?_)
                              refine lv_iinc (v := nI (i + 1)) (lv' := [(2, .int (nI (i + 1))), (1, .int (nI (cc.2.2.2.2.1 + 1))), (0, .ref m0), (3, .int ((-1))), (4, .int (nI (b)))]) hx hb dX4_know_251 hl (k := 2) rfl (nI_1 _) (by decide) rfl (fun ls hl => ?_)
                              refine lv_goto (tgt := 22) hx hb dX4_know_254 (by decide) ?_
                              have hl : lv_has ls 5 [(2, .int (nI (i + 1))), (1, .int (nI ((knN n q (eff jn ns) (i + 1)).2.2.2.2.1))), (0, .ref m0), (3, .int ((-1))), (4, .int (nI (b)))] := by rw [hkS, es]; exact hl
                              exact ih (i + 1) cc.1 x1 x2 x3 (va_up x4 i (false)) F2 G2 Y (by omega) (by
                                    rw [hkS, es]
                                    refine ⟨rfl, o2, o3, o4, fun f hf k hk => ?_⟩
                                    dsimp only at hf ⊢
                                    by_cases e : f = cc.2.2.2.2.1
                                    · rw [e, up_at]; exact y1 k (by omega)
                                    · rw [up_of _ _ e]; exact y2 f (by omega) k hk) _ _ hP hD hS ls (lv_sub hl [2, 1, 0] rfl)
                            · skip
                              have cf : b < n := Nat.not_le.mp (fun h => cf ((nI_leI (a := n) (b := b) (by omega) (by omega)).mpr h))
                              exact absurd cf (by omega)
                          | succ k3 ih3 =>
                            intro b Y hb3 y1 y2 H locs hP hD hS ls hl
                            refine lv_iload hx hb dX4_know_194 (lv_at hl 4 rfl) ?_
                            refine lv_aload_n hx hb dX4_know_196 rfl (lv_at hl 0 rfl) ?_
                            refine va_get (D := (dC, dI)) (ci := 5) (v := .int (nI (n))) (C := RX4) (T := TX4) (N := 20) hx hb hts hinX4 hown hK hP 0 rfl rfl 1 (by decide) hf56 (fun _ h9 => h9) rfl dX4_know_197 ?_
                            refine lv_icmp_ge (tgt := 248) hx hb dX4_know_200 (by decide) (fun cf => ?_) (fun cf => ?_)
                            · skip
                              have cf : n ≤ b := (nI_leI (a := n) (b := b) (by omega) (by omega)).mp cf
                              exact absurd cf (by omega)
                            · skip
                              have cf : b < n := Nat.not_le.mp (fun h => cf ((nI_leI (a := n) (b := b) (by omega) (by omega)).mpr h))
                              have g1 := tl.2 b (by omega)
                              have g2 := w2 b (by omega)
                              refine lv_aload_n hx hb dX4_know_203 rfl (lv_at hl 0 rfl) ?_
                              refine va_get (D := (dC, dI)) (ci := 5) (v := .ref aQ) (C := RX4) (T := TX4) (N := 20) hx hb hts hinX4 hown hK hP 0 rfl rfl 16 (by decide) hf44 (fun _ h9 => h9) rfl dX4_know_204 ?_
                              refine lv_bipush (v := nI 30) hx hb dX4_know_207 (by decide) ?_
                              refine lv_iload_n hx hb dX4_know_209 rfl (lv_at hl 1 rfl) ?_
                              refine lv_imul hx hb dX4_know_210 ?_
                              refine tp_i (y := nI (30 * cc.2.2.2.2.1)) (pk_mul _ _) ?_
                              refine lv_iload hx hb dX4_know_211 (lv_at hl 4 rfl) ?_
                              refine lv_iadd hx hb dX4_know_213 ?_
                              refine tp_i (y := nI ((30 * cc.2.2.2.2.1) + b)) (nI_add _ _) ?_
                              refine lv_iload hx hb dX4_know_214 (lv_at hl 4 rfl) ?_
                              refine lv_iload_n hx hb dX4_know_216 rfl (lv_at hl 2 rfl) ?_
                              refine lv_icmp_ne (tgt := 224) hx hb dX4_know_217 (by decide) (fun cg => ?_) (fun cg => ?_)
                              · skip
                                have cg : b ≠ i := fun h => cg ((nI_eq (a := b) (b := i) (by omega) (by omega)).mpr h)
                                refine lv_aload_n hx hb dX4_know_224 rfl (lv_at hl 0 rfl) ?_
                                refine va_get (D := (dC, dI)) (ci := 5) (v := .int (nI (q))) (C := RX4) (T := TX4) (N := 20) hx hb hts hinX4 hown hK hP 0 rfl rfl 2 (by decide) hf60 (fun _ h9 => h9) rfl dX4_know_225 ?_
                                refine lv_aload_n hx hb dX4_know_228 rfl (lv_at hl 0 rfl) ?_
                                refine va_get (D := (dC, dI)) (ci := 5) (v := .ref aY) (C := RX4) (T := TX4) (N := 20) hx hb hts hinX4 hown hK hP 0 rfl rfl 14 (by decide) hf38 (fun _ h9 => h9) rfl dX4_know_229 ?_
                                refine lv_iload hx hb dX4_know_232 (lv_at hl 4 rfl) ?_
                                refine ra_ld (g := nI) (F := G2) hx hb hK hP 8 0 rfl rfl (by omega) (by omega) dX4_know_234 ?_
                                refine tp_i (y := nI ((knT n q (eff jn ns) i cc).2 b)) (by rw [g2]) ?_
                                refine lv_isub hx hb dX4_know_235 ?_
                                refine tp_i (y := nI (q - ((knT n q (eff jn ns) i cc).2 b))) (pk_sub (by omega)) ?_
                                refine lv_aload_n hx hb dX4_know_236 rfl (lv_at hl 0 rfl) ?_
                                refine va_get (D := (dC, dI)) (ci := 5) (v := .int (nI (q))) (C := RX4) (T := TX4) (N := 20) hx hb hts hinX4 hown hK hP 0 rfl rfl 2 (by decide) hf60 (fun _ h9 => h9) rfl dX4_know_237 ?_
                                refine lv_irem hx hb dX4_know_240 (nI_ne0 (by omega) (by omega)) ?_
                                refine tp_i (y := nI ((q - ((knT n q (eff jn ns) i cc).2 b)) % q)) (pk_rem (by omega) (by omega) (by omega)) ?_
                                refine ra_st (g := nI) (F := Y) (v := (q - ((knT n q (eff jn ns) i cc).2 b)) % q) hx hb hK hP hD hS 9 0 rfl rfl (by omega) (by omega) dX4_know_241 (fun H locs hP hD hS => ?_)
                                have hP : va_P (dC, dI) vwCl [(m0, .inr (5, [.int (th), .int (nI (n)), .int (nI (q)), .ref aJ, .ref aS, .ref aT, .ref aW, .int (bI true), .int (nI (cc.1)), .ref aR, .ref aP, .ref aH, .ref aK, .ref aE, .ref aY, .ref aN, .ref aQ, .ref aB, .ref aI, .ref aD])), (aJ, .inl (cZ, 900, .inl (fun j => bI (jn j)))), (aS, .inl (cZ, 30, .inl (fun j => bI (ns j)))), (aR, .inl (cI, 900, .inl (fun j => nI (x1 j)))), (aP, .inl (cI, 900, .inl (fun j => nI (x2 j)))), (aH, .inl (cI, 30, .inl (fun j => nI (x3 j)))), (aK, .inl (cZ, 30, .inl (fun j => bI ((va_up x4 i (false)) j)))), (aE, .inl (cI, 30, .inl (fun j => nI (F2 j)))), (aY, .inl (cI, 30, .inl (fun j => nI (G2 j)))), (aQ, .inl (cI, 900, .inl (fun j => nI ((va_up Y ((30 * cc.2.2.2.2.1) + b) ((q - ((knT n q (eff jn ns) i cc).2 b)) % q)) j))))] H := hP
                                have hD : va_D A [(m0, .inr (5, [.int (th), .int (nI (n)), .int (nI (q)), .ref aJ, .ref aS, .ref aT, .ref aW, .int (bI true), .int (nI (cc.1)), .ref aR, .ref aP, .ref aH, .ref aK, .ref aE, .ref aY, .ref aN, .ref aQ, .ref aB, .ref aI, .ref aD])), (aJ, .inl (cZ, 900, .inl (fun j => bI (jn j)))), (aS, .inl (cZ, 30, .inl (fun j => bI (ns j)))), (aR, .inl (cI, 900, .inl (fun j => nI (x1 j)))), (aP, .inl (cI, 900, .inl (fun j => nI (x2 j)))), (aH, .inl (cI, 30, .inl (fun j => nI (x3 j)))), (aK, .inl (cZ, 30, .inl (fun j => bI ((va_up x4 i (false)) j)))), (aE, .inl (cI, 30, .inl (fun j => nI (F2 j)))), (aY, .inl (cI, 30, .inl (fun j => nI (G2 j)))), (aQ, .inl (cI, 900, .inl (fun j => nI ((va_up Y ((30 * cc.2.2.2.2.1) + b) ((q - ((knT n q (eff jn ns) i cc).2 b)) % q)) j))))] := hD
                                refine lv_iinc (v := nI (b + 1)) (lv' := [(4, .int (nI (b + 1))), (0, .ref m0), (1, .int (nI (cc.2.2.2.2.1))), (2, .int (nI (i))), (3, .int ((-1)))]) hx hb dX4_know_242 hl (k := 4) rfl (nI_1 _) (by decide) rfl (fun ls hl => ?_)
                                refine lv_goto (tgt := 194) hx hb dX4_know_245 (by decide) ?_
                                exact ih3 (b + 1) (va_up Y (30 * cc.2.2.2.2.1 + b) ((q - (knT n q (eff jn ns) i cc).2 b) % q)) (by omega) (fun k hk => by
                                      by_cases e : k = b
                                      · subst e; rw [up_at]; unfold knP; rw [if_neg cg]
                                      · rw [up_of _ _ (by omega)]; exact y1 k (by omega)) (fun f hf k hk => by rw [up_of _ _ (by omega)]; exact y2 f hf k hk) _ _ hP hD hS ls (lv_sub hl [1, 2, 3, 4, 0] rfl)
                              · skip
                                have cg : b = i := (nI_eq (a := b) (b := i) (by omega) (by omega)).mp cg
                                refine lv_iconst (v := nI 1) hx hb dX4_know_220 (by decide) ?_
                                refine lv_goto (tgt := 241) hx hb dX4_know_221 (by decide) ?_
                                refine ra_st (g := nI) (F := Y) (v := 1) hx hb hK hP hD hS 9 0 rfl rfl (by omega) (by omega) dX4_know_241 (fun H locs hP hD hS => ?_)
                                have hP : va_P (dC, dI) vwCl [(m0, .inr (5, [.int (th), .int (nI (n)), .int (nI (q)), .ref aJ, .ref aS, .ref aT, .ref aW, .int (bI true), .int (nI (cc.1)), .ref aR, .ref aP, .ref aH, .ref aK, .ref aE, .ref aY, .ref aN, .ref aQ, .ref aB, .ref aI, .ref aD])), (aJ, .inl (cZ, 900, .inl (fun j => bI (jn j)))), (aS, .inl (cZ, 30, .inl (fun j => bI (ns j)))), (aR, .inl (cI, 900, .inl (fun j => nI (x1 j)))), (aP, .inl (cI, 900, .inl (fun j => nI (x2 j)))), (aH, .inl (cI, 30, .inl (fun j => nI (x3 j)))), (aK, .inl (cZ, 30, .inl (fun j => bI ((va_up x4 i (false)) j)))), (aE, .inl (cI, 30, .inl (fun j => nI (F2 j)))), (aY, .inl (cI, 30, .inl (fun j => nI (G2 j)))), (aQ, .inl (cI, 900, .inl (fun j => nI ((va_up Y ((30 * cc.2.2.2.2.1) + b) (1)) j))))] H := hP
                                have hD : va_D A [(m0, .inr (5, [.int (th), .int (nI (n)), .int (nI (q)), .ref aJ, .ref aS, .ref aT, .ref aW, .int (bI true), .int (nI (cc.1)), .ref aR, .ref aP, .ref aH, .ref aK, .ref aE, .ref aY, .ref aN, .ref aQ, .ref aB, .ref aI, .ref aD])), (aJ, .inl (cZ, 900, .inl (fun j => bI (jn j)))), (aS, .inl (cZ, 30, .inl (fun j => bI (ns j)))), (aR, .inl (cI, 900, .inl (fun j => nI (x1 j)))), (aP, .inl (cI, 900, .inl (fun j => nI (x2 j)))), (aH, .inl (cI, 30, .inl (fun j => nI (x3 j)))), (aK, .inl (cZ, 30, .inl (fun j => bI ((va_up x4 i (false)) j)))), (aE, .inl (cI, 30, .inl (fun j => nI (F2 j)))), (aY, .inl (cI, 30, .inl (fun j => nI (G2 j)))), (aQ, .inl (cI, 900, .inl (fun j => nI ((va_up Y ((30 * cc.2.2.2.2.1) + b) (1)) j))))] := hD
                                refine lv_iinc (v := nI (b + 1)) (lv' := [(4, .int (nI (b + 1))), (0, .ref m0), (1, .int (nI (cc.2.2.2.2.1))), (2, .int (nI (i))), (3, .int ((-1)))]) hx hb dX4_know_242 hl (k := 4) rfl (nI_1 _) (by decide) rfl (fun ls hl => ?_)
                                refine lv_goto (tgt := 194) hx hb dX4_know_245 (by decide) ?_
                                exact ih3 (b + 1) (va_up Y (30 * cc.2.2.2.2.1 + b) 1) (by omega) (fun k hk => by
                                      by_cases e : k = b
                                      · subst e; rw [up_at]; unfold knP; rw [if_pos cg]
                                      · rw [up_of _ _ (by omega)]; exact y1 k (by omega)) (fun f hf k hk => by rw [up_of _ _ (by omega)]; exact y2 f hf k hk) _ _ hP hD hS ls (lv_sub hl [1, 2, 3, 4, 0] rfl)
                        exact lp3 n 0 x7 (by omega) (fun k h => absurd h (by omega)) o5 _ _ hP hD hS ls (lv_sub hl [2, 3, 4, 1, 0] rfl)
                      · skip
                        exact absurd ce (by decide)
                    · skip
                      exact absurd cd (by decide)
                  · skip
                    refine tp_i (y := nI h0) rfl ?_
                    have hs := lft_some n 0 hlf
                    have h0n : h0 < n := by omega
                    have es : knS n q (eff jn ns) i cc = (cc.1 + 1, va_up cc.2.1 cc.1 (knT n q (eff jn ns) i cc).1, va_up cc.2.2.1 cc.1 (knP n q (eff jn ns) i cc), va_up cc.2.2.2.1 cc.1 h0, cc.2.2.2.2.1, cc.2.2.2.2.2) := by unfold knS; rw [hlf]
                    refine lv_istore_n (lv' := [(3, .int (nI (h0))), (0, .ref m0), (1, .int (nI (cc.2.2.2.2.1))), (2, .int (nI (i)))]) hx hb dX4_know_66 rfl hl (by decide) rfl (fun ls hl => ?_)
                    refine lv_aload_n hx hb dX4_know_67 rfl (lv_at hl 1 rfl) ?_
                    refine va_get (D := (dC, dI)) (ci := 5) (v := .ref aK) (C := RX4) (T := TX4) (N := 20) hx hb hts hinX4 hown hK hP 0 rfl rfl 12 (by decide) hf32 (fun _ h9 => h9) rfl dX4_know_68 ?_
                    refine lv_iload_n hx hb dX4_know_71 rfl (lv_at hl 3 rfl) ?_
                    refine lv_iload_n hx hb dX4_know_72 rfl (lv_at hl 0 rfl) ?_
                    refine lv_if_lt (tgt := 80) hx hb dX4_know_73 (by decide) (fun cd => ?_) (fun cd => ?_)
                    · skip
                      exact absurd cd (nI_pos (by omega))
                    · skip
                      refine lv_iconst (v := nI 1) hx hb dX4_know_76 (by decide) ?_
                      refine lv_goto (tgt := 81) hx hb dX4_know_77 (by decide) ?_
                      refine rz_st (g := bI) (F := x4) (v := true) hx hb hK hP hD hS 6 1 rfl rfl (by omega) (by omega) dX4_know_81 (bI_vnar _) (fun H locs hP hD hS => ?_)
                      have hP : va_P (dC, dI) vwCl [(m0, .inr (5, [.int (th), .int (nI (n)), .int (nI (q)), .ref aJ, .ref aS, .ref aT, .ref aW, .int (bI true), .int (nI (cc.1)), .ref aR, .ref aP, .ref aH, .ref aK, .ref aE, .ref aY, .ref aN, .ref aQ, .ref aB, .ref aI, .ref aD])), (aJ, .inl (cZ, 900, .inl (fun j => bI (jn j)))), (aS, .inl (cZ, 30, .inl (fun j => bI (ns j)))), (aR, .inl (cI, 900, .inl (fun j => nI (x1 j)))), (aP, .inl (cI, 900, .inl (fun j => nI (x2 j)))), (aH, .inl (cI, 30, .inl (fun j => nI (x3 j)))), (aK, .inl (cZ, 30, .inl (fun j => bI ((va_up x4 i (true)) j)))), (aE, .inl (cI, 30, .inl (fun j => nI (F2 j)))), (aY, .inl (cI, 30, .inl (fun j => nI (G2 j)))), (aQ, .inl (cI, 900, .inl (fun j => nI (x7 j))))] H := hP
                      have hD : va_D A [(m0, .inr (5, [.int (th), .int (nI (n)), .int (nI (q)), .ref aJ, .ref aS, .ref aT, .ref aW, .int (bI true), .int (nI (cc.1)), .ref aR, .ref aP, .ref aH, .ref aK, .ref aE, .ref aY, .ref aN, .ref aQ, .ref aB, .ref aI, .ref aD])), (aJ, .inl (cZ, 900, .inl (fun j => bI (jn j)))), (aS, .inl (cZ, 30, .inl (fun j => bI (ns j)))), (aR, .inl (cI, 900, .inl (fun j => nI (x1 j)))), (aP, .inl (cI, 900, .inl (fun j => nI (x2 j)))), (aH, .inl (cI, 30, .inl (fun j => nI (x3 j)))), (aK, .inl (cZ, 30, .inl (fun j => bI ((va_up x4 i (true)) j)))), (aE, .inl (cI, 30, .inl (fun j => nI (F2 j)))), (aY, .inl (cI, 30, .inl (fun j => nI (G2 j)))), (aQ, .inl (cI, 900, .inl (fun j => nI (x7 j))))] := hD
                      refine lv_iload_n hx hb dX4_know_82 rfl (lv_at hl 0 rfl) ?_
                      refine lv_if_lt (tgt := 191) hx hb dX4_know_83 (by decide) (fun ce => ?_) (fun ce => ?_)
                      · skip
                        exact absurd ce (nI_pos (by omega))
                      · skip
                        refine lv_iconst (v := nI 0) hx hb dX4_know_86 (by decide) ?_
                        refine lv_istore (lv' := [(4, .int (nI (0))), (3, .int (nI (h0))), (0, .ref m0), (1, .int (nI (cc.2.2.2.2.1))), (2, .int (nI (i)))]) hx hb dX4_know_87 hl (by decide) rfl (fun ls hl => ?_)
                        have lp4 : ∀ (k4 : Nat) (b : Nat) (X : Nat → Nat) (Y : Nat → Nat), (b + k4 = n) → (∀ k, k < b → X (30 * cc.1 + k) = (knT n q (eff jn ns) i cc).1 k) → (∀ r, r < cc.1 → ∀ k, k < n → X (30 * r + k) = cc.2.1 r k) → (∀ k, k < b → Y (30 * cc.1 + k) = knP n q (eff jn ns) i cc k) → (∀ r, r < cc.1 → ∀ k, k < n → Y (30 * r + k) = cc.2.2.1 r k) → ∀ (H : Heap) (locs : List Loc), va_P (dC, dI) vwCl [(m0, .inr (5, [.int (th), .int (nI (n)), .int (nI (q)), .ref aJ, .ref aS, .ref aT, .ref aW, .int (bI true), .int (nI (cc.1)), .ref aR, .ref aP, .ref aH, .ref aK, .ref aE, .ref aY, .ref aN, .ref aQ, .ref aB, .ref aI, .ref aD])), (aJ, .inl (cZ, 900, .inl (fun j => bI (jn j)))), (aS, .inl (cZ, 30, .inl (fun j => bI (ns j)))), (aR, .inl (cI, 900, .inl (fun j => nI (X j)))), (aP, .inl (cI, 900, .inl (fun j => nI (Y j)))), (aH, .inl (cI, 30, .inl (fun j => nI (x3 j)))), (aK, .inl (cZ, 30, .inl (fun j => bI ((va_up x4 i (true)) j)))), (aE, .inl (cI, 30, .inl (fun j => nI (F2 j)))), (aY, .inl (cI, 30, .inl (fun j => nI (G2 j)))), (aQ, .inl (cI, 900, .inl (fun j => nI (x7 j))))] H → va_D A [(m0, .inr (5, [.int (th), .int (nI (n)), .int (nI (q)), .ref aJ, .ref aS, .ref aT, .ref aW, .int (bI true), .int (nI (cc.1)), .ref aR, .ref aP, .ref aH, .ref aK, .ref aE, .ref aY, .ref aN, .ref aQ, .ref aB, .ref aI, .ref aD])), (aJ, .inl (cZ, 900, .inl (fun j => bI (jn j)))), (aS, .inl (cZ, 30, .inl (fun j => bI (ns j)))), (aR, .inl (cI, 900, .inl (fun j => nI (X j)))), (aP, .inl (cI, 900, .inl (fun j => nI (Y j)))), (aH, .inl (cI, 30, .inl (fun j => nI (x3 j)))), (aK, .inl (cZ, 30, .inl (fun j => bI ((va_up x4 i (true)) j)))), (aE, .inl (cI, 30, .inl (fun j => nI (F2 j)))), (aY, .inl (cI, 30, .inl (fun j => nI (G2 j)))), (aQ, .inl (cI, 900, .inl (fun j => nI (x7 j))))] → va_S A s.heap H locs → ∀ (ls : Array Slot), lv_has ls 5 [(0, .ref m0), (1, .int (nI (cc.2.2.2.2.1))), (2, .int (nI (i))), (3, .int (nI (h0))), (4, .int (nI (b)))] → W zp l ze (headSpec wsX4_know ({ frames := 2, cells := 0, slots := 0, locals := 45 })).room s m args below meth zc H locs 0 0 Q (F0 m 89 ls []) := by
                          intro k4
                          induction k4 with
                          | zero =>
                            intro b X Y hb4 z1 z2 y1 y2 H locs hP hD hS ls hl
                            refine lv_iload hx hb dX4_know_89 (lv_at hl 4 rfl) ?_
                            refine lv_aload_n hx hb dX4_know_91 rfl (lv_at hl 0 rfl) ?_
                            refine va_get (D := (dC, dI)) (ci := 5) (v := .int (nI (n))) (C := RX4) (T := TX4) (N := 20) hx hb hts hinX4 hown hK hP 0 rfl rfl 1 (by decide) hf56 (fun _ h9 => h9) rfl dX4_know_92 ?_
                            refine lv_icmp_ge (tgt := 168) hx hb dX4_know_95 (by decide) (fun cf => ?_) (fun cf => ?_)
                            · skip
                              have cf : n ≤ b := (nI_leI (a := n) (b := b) (by omega) (by omega)).mp cf
                              refine lv_aload_n hx hb dX4_know_168 rfl (lv_at hl 0 rfl) ?_
                              refine va_get (D := (dC, dI)) (ci := 5) (v := .ref aH) (C := RX4) (T := TX4) (N := 20) hx hb hts hinX4 hown hK hP 0 rfl rfl 11 (by decide) hf29 (fun _ h9 => h9) rfl dX4_know_169 ?_
                              refine lv_aload_n hx hb dX4_know_172 rfl (lv_at hl 0 rfl) ?_
                              refine va_get (D := (dC, dI)) (ci := 5) (v := .int (nI (cc.1))) (C := RX4) (T := TX4) (N := 20) hx hb hts hinX4 hown hK hP 0 rfl rfl 8 (by decide) hf85 (fun _ h9 => h9) rfl dX4_know_173 ?_
                              refine lv_iload_n hx hb dX4_know_176 rfl (lv_at hl 3 rfl) ?_
                              refine ra_st (g := nI) (F := x3) (v := h0) hx hb hK hP hD hS 5 0 rfl rfl (by omega) (by omega) dX4_know_177 (fun H locs hP hD hS => ?_)
                              have hP : va_P (dC, dI) vwCl [(m0, .inr (5, [.int (th), .int (nI (n)), .int (nI (q)), .ref aJ, .ref aS, .ref aT, .ref aW, .int (bI true), .int (nI (cc.1)), .ref aR, .ref aP, .ref aH, .ref aK, .ref aE, .ref aY, .ref aN, .ref aQ, .ref aB, .ref aI, .ref aD])), (aJ, .inl (cZ, 900, .inl (fun j => bI (jn j)))), (aS, .inl (cZ, 30, .inl (fun j => bI (ns j)))), (aR, .inl (cI, 900, .inl (fun j => nI (X j)))), (aP, .inl (cI, 900, .inl (fun j => nI (Y j)))), (aH, .inl (cI, 30, .inl (fun j => nI ((va_up x3 cc.1 (h0)) j)))), (aK, .inl (cZ, 30, .inl (fun j => bI ((va_up x4 i (true)) j)))), (aE, .inl (cI, 30, .inl (fun j => nI (F2 j)))), (aY, .inl (cI, 30, .inl (fun j => nI (G2 j)))), (aQ, .inl (cI, 900, .inl (fun j => nI (x7 j))))] H := hP
                              have hD : va_D A [(m0, .inr (5, [.int (th), .int (nI (n)), .int (nI (q)), .ref aJ, .ref aS, .ref aT, .ref aW, .int (bI true), .int (nI (cc.1)), .ref aR, .ref aP, .ref aH, .ref aK, .ref aE, .ref aY, .ref aN, .ref aQ, .ref aB, .ref aI, .ref aD])), (aJ, .inl (cZ, 900, .inl (fun j => bI (jn j)))), (aS, .inl (cZ, 30, .inl (fun j => bI (ns j)))), (aR, .inl (cI, 900, .inl (fun j => nI (X j)))), (aP, .inl (cI, 900, .inl (fun j => nI (Y j)))), (aH, .inl (cI, 30, .inl (fun j => nI ((va_up x3 cc.1 (h0)) j)))), (aK, .inl (cZ, 30, .inl (fun j => bI ((va_up x4 i (true)) j)))), (aE, .inl (cI, 30, .inl (fun j => nI (F2 j)))), (aY, .inl (cI, 30, .inl (fun j => nI (G2 j)))), (aQ, .inl (cI, 900, .inl (fun j => nI (x7 j))))] := hD
                              refine lv_aload_n hx hb dX4_know_178 rfl (lv_at hl 0 rfl) ?_
                              refine lv_dup hx hb dX4_know_179 rfl ?_
                              refine va_get (D := (dC, dI)) (ci := 5) (v := .int (nI (cc.1))) (C := RX4) (T := TX4) (N := 20) hx hb hts hinX4 hown hK hP 0 rfl rfl 8 (by decide) hf85 (fun _ h9 => h9) rfl dX4_know_180 ?_
                              refine lv_iconst (v := nI 1) hx hb dX4_know_183 (by decide) ?_
                              refine lv_iadd hx hb dX4_know_184 ?_
                              refine tp_i (y := nI (cc.1 + 1)) (nI_add _ _) ?_
                              refine va_put (D := (dC, dI)) (ci := 5) (v := .int (nI (cc.1 + 1))) (ty := .int) (C := RX4) (T := TX4) (N := 20) hx hb hts hinX4 tyX4 tyX4_ok nmX4 hown hK hP hD hS 0 rfl rfl 8 (by decide) hf85 (fun _ h9 => h9) rfl (by decide +kernel) rfl rfl (Nat.le_of_ble_eq_true rfl) dX4_know_185 (fun H locs hP hD hS => ?_)
                              have hP : va_P (dC, dI) vwCl [(m0, .inr (5, [.int (th), .int (nI (n)), .int (nI (q)), .ref aJ, .ref aS, .ref aT, .ref aW, .int (bI true), .int (nI (cc.1 + 1)), .ref aR, .ref aP, .ref aH, .ref aK, .ref aE, .ref aY, .ref aN, .ref aQ, .ref aB, .ref aI, .ref aD])), (aJ, .inl (cZ, 900, .inl (fun j => bI (jn j)))), (aS, .inl (cZ, 30, .inl (fun j => bI (ns j)))), (aR, .inl (cI, 900, .inl (fun j => nI (X j)))), (aP, .inl (cI, 900, .inl (fun j => nI (Y j)))), (aH, .inl (cI, 30, .inl (fun j => nI ((va_up x3 cc.1 (h0)) j)))), (aK, .inl (cZ, 30, .inl (fun j => bI ((va_up x4 i (true)) j)))), (aE, .inl (cI, 30, .inl (fun j => nI (F2 j)))), (aY, .inl (cI, 30, .inl (fun j => nI (G2 j)))), (aQ, .inl (cI, 900, .inl (fun j => nI (x7 j))))] H := hP
                              have hD : va_D A [(m0, .inr (5, [.int (th), .int (nI (n)), .int (nI (q)), .ref aJ, .ref aS, .ref aT, .ref aW, .int (bI true), .int (nI (cc.1 + 1)), .ref aR, .ref aP, .ref aH, .ref aK, .ref aE, .ref aY, .ref aN, .ref aQ, .ref aB, .ref aI, .ref aD])), (aJ, .inl (cZ, 900, .inl (fun j => bI (jn j)))), (aS, .inl (cZ, 30, .inl (fun j => bI (ns j)))), (aR, .inl (cI, 900, .inl (fun j => nI (X j)))), (aP, .inl (cI, 900, .inl (fun j => nI (Y j)))), (aH, .inl (cI, 30, .inl (fun j => nI ((va_up x3 cc.1 (h0)) j)))), (aK, .inl (cZ, 30, .inl (fun j => bI ((va_up x4 i (true)) j)))), (aE, .inl (cI, 30, .inl (fun j => nI (F2 j)))), (aY, .inl (cI, 30, .inl (fun j => nI (G2 j)))), (aQ, .inl (cI, 900, .inl (fun j => nI (x7 j))))] := hD
                              refine lv_goto (tgt := 251) hx hb dX4_know_188 (by decide) ?_
                              refine lv_iinc (v := nI (i + 1)) (lv' := [(2, .int (nI (i + 1))), (0, .ref m0), (1, .int (nI (cc.2.2.2.2.1))), (3, .int (nI (h0))), (4, .int (nI (b)))]) hx hb dX4_know_251 hl (k := 2) rfl (nI_1 _) (by decide) rfl (fun ls hl => ?_)
                              refine lv_goto (tgt := 22) hx hb dX4_know_254 (by decide) ?_
                              have hl : lv_has ls 5 [(2, .int (nI (i + 1))), (0, .ref m0), (1, .int (nI ((knN n q (eff jn ns) (i + 1)).2.2.2.2.1))), (3, .int (nI (h0))), (4, .int (nI (b)))] := by rw [hkS, es]; exact hl
                              exact ih (i + 1) (cc.1 + 1) X Y (va_up x3 cc.1 (h0)) (va_up x4 i (true)) F2 G2 x7 (by omega) (by
                                    rw [hkS, es]
                                    refine ⟨rfl, fun r hr k hk => ?_, fun r hr k hk => ?_, fun r hr => ?_, o5⟩ <;> dsimp only at hr ⊢ <;> by_cases e : r = cc.1
                                    · rw [e, up_at]; exact z1 k (by omega)
                                    · rw [up_of _ _ e]; exact z2 r (by omega) k hk
                                    · rw [e, up_at]; exact y1 k (by omega)
                                    · rw [up_of _ _ e]; exact y2 r (by omega) k hk
                                    · rw [e, up_at, up_at]
                                    · rw [up_of _ _ e, up_of _ _ e]; exact o4 r (by omega)) _ _ hP hD hS ls (lv_sub hl [1, 2, 0] rfl)
                            · skip
                              have cf : b < n := Nat.not_le.mp (fun h => cf ((nI_leI (a := n) (b := b) (by omega) (by omega)).mpr h))
                              exact absurd cf (by omega)
                          | succ k4 ih3 =>
                            intro b X Y hb4 z1 z2 y1 y2 H locs hP hD hS ls hl
                            refine lv_iload hx hb dX4_know_89 (lv_at hl 4 rfl) ?_
                            refine lv_aload_n hx hb dX4_know_91 rfl (lv_at hl 0 rfl) ?_
                            refine va_get (D := (dC, dI)) (ci := 5) (v := .int (nI (n))) (C := RX4) (T := TX4) (N := 20) hx hb hts hinX4 hown hK hP 0 rfl rfl 1 (by decide) hf56 (fun _ h9 => h9) rfl dX4_know_92 ?_
                            refine lv_icmp_ge (tgt := 168) hx hb dX4_know_95 (by decide) (fun cf => ?_) (fun cf => ?_)
                            · skip
                              have cf : n ≤ b := (nI_leI (a := n) (b := b) (by omega) (by omega)).mp cf
                              exact absurd cf (by omega)
                            · skip
                              have cf : b < n := Nat.not_le.mp (fun h => cf ((nI_leI (a := n) (b := b) (by omega) (by omega)).mpr h))
                              have g1 := tl.2 b (by omega)
                              have g2 := w2 b (by omega)
                              refine lv_aload_n hx hb dX4_know_98 rfl (lv_at hl 0 rfl) ?_
                              refine va_get (D := (dC, dI)) (ci := 5) (v := .ref aR) (C := RX4) (T := TX4) (N := 20) hx hb hts hinX4 hown hK hP 0 rfl rfl 9 (by decide) hf23 (fun _ h9 => h9) rfl dX4_know_99 ?_
                              refine lv_bipush (v := nI 30) hx hb dX4_know_102 (by decide) ?_
                              refine lv_aload_n hx hb dX4_know_104 rfl (lv_at hl 0 rfl) ?_
                              refine va_get (D := (dC, dI)) (ci := 5) (v := .int (nI (cc.1))) (C := RX4) (T := TX4) (N := 20) hx hb hts hinX4 hown hK hP 0 rfl rfl 8 (by decide) hf85 (fun _ h9 => h9) rfl dX4_know_105 ?_
                              refine lv_imul hx hb dX4_know_108 ?_
                              refine tp_i (y := nI (30 * cc.1)) (pk_mul _ _) ?_
                              refine lv_iload hx hb dX4_know_109 (lv_at hl 4 rfl) ?_
                              refine lv_iadd hx hb dX4_know_111 ?_
                              refine tp_i (y := nI ((30 * cc.1) + b)) (nI_add _ _) ?_
                              refine lv_aload_n hx hb dX4_know_112 rfl (lv_at hl 0 rfl) ?_
                              refine va_get (D := (dC, dI)) (ci := 5) (v := .ref aE) (C := RX4) (T := TX4) (N := 20) hx hb hts hinX4 hown hK hP 0 rfl rfl 13 (by decide) hf35 (fun _ h9 => h9) rfl dX4_know_113 ?_
                              refine lv_iload hx hb dX4_know_116 (lv_at hl 4 rfl) ?_
                              refine ra_ld (g := nI) (F := F2) hx hb hK hP 7 0 rfl rfl (by omega) (by omega) dX4_know_118 ?_
                              refine tp_i (y := nI ((knT n q (eff jn ns) i cc).1 b)) (by rw [w1 b (by omega)]) ?_
                              refine ra_st (g := nI) (F := X) (v := (knT n q (eff jn ns) i cc).1 b) hx hb hK hP hD hS 3 0 rfl rfl (by omega) (by omega) dX4_know_119 (fun H locs hP hD hS => ?_)
                              have hP : va_P (dC, dI) vwCl [(m0, .inr (5, [.int (th), .int (nI (n)), .int (nI (q)), .ref aJ, .ref aS, .ref aT, .ref aW, .int (bI true), .int (nI (cc.1)), .ref aR, .ref aP, .ref aH, .ref aK, .ref aE, .ref aY, .ref aN, .ref aQ, .ref aB, .ref aI, .ref aD])), (aJ, .inl (cZ, 900, .inl (fun j => bI (jn j)))), (aS, .inl (cZ, 30, .inl (fun j => bI (ns j)))), (aR, .inl (cI, 900, .inl (fun j => nI ((va_up X ((30 * cc.1) + b) ((knT n q (eff jn ns) i cc).1 b)) j)))), (aP, .inl (cI, 900, .inl (fun j => nI (Y j)))), (aH, .inl (cI, 30, .inl (fun j => nI (x3 j)))), (aK, .inl (cZ, 30, .inl (fun j => bI ((va_up x4 i (true)) j)))), (aE, .inl (cI, 30, .inl (fun j => nI (F2 j)))), (aY, .inl (cI, 30, .inl (fun j => nI (G2 j)))), (aQ, .inl (cI, 900, .inl (fun j => nI (x7 j))))] H := hP
                              have hD : va_D A [(m0, .inr (5, [.int (th), .int (nI (n)), .int (nI (q)), .ref aJ, .ref aS, .ref aT, .ref aW, .int (bI true), .int (nI (cc.1)), .ref aR, .ref aP, .ref aH, .ref aK, .ref aE, .ref aY, .ref aN, .ref aQ, .ref aB, .ref aI, .ref aD])), (aJ, .inl (cZ, 900, .inl (fun j => bI (jn j)))), (aS, .inl (cZ, 30, .inl (fun j => bI (ns j)))), (aR, .inl (cI, 900, .inl (fun j => nI ((va_up X ((30 * cc.1) + b) ((knT n q (eff jn ns) i cc).1 b)) j)))), (aP, .inl (cI, 900, .inl (fun j => nI (Y j)))), (aH, .inl (cI, 30, .inl (fun j => nI (x3 j)))), (aK, .inl (cZ, 30, .inl (fun j => bI ((va_up x4 i (true)) j)))), (aE, .inl (cI, 30, .inl (fun j => nI (F2 j)))), (aY, .inl (cI, 30, .inl (fun j => nI (G2 j)))), (aQ, .inl (cI, 900, .inl (fun j => nI (x7 j))))] := hD
                              refine lv_aload_n hx hb dX4_know_120 rfl (lv_at hl 0 rfl) ?_
                              refine va_get (D := (dC, dI)) (ci := 5) (v := .ref aP) (C := RX4) (T := TX4) (N := 20) hx hb hts hinX4 hown hK hP 0 rfl rfl 10 (by decide) hf26 (fun _ h9 => h9) rfl dX4_know_121 ?_
                              refine lv_bipush (v := nI 30) hx hb dX4_know_124 (by decide) ?_
                              refine lv_aload_n hx hb dX4_know_126 rfl (lv_at hl 0 rfl) ?_
                              refine va_get (D := (dC, dI)) (ci := 5) (v := .int (nI (cc.1))) (C := RX4) (T := TX4) (N := 20) hx hb hts hinX4 hown hK hP 0 rfl rfl 8 (by decide) hf85 (fun _ h9 => h9) rfl dX4_know_127 ?_
                              refine lv_imul hx hb dX4_know_130 ?_
                              refine tp_i (y := nI (30 * cc.1)) (pk_mul _ _) ?_
                              refine lv_iload hx hb dX4_know_131 (lv_at hl 4 rfl) ?_
                              refine lv_iadd hx hb dX4_know_133 ?_
                              refine tp_i (y := nI ((30 * cc.1) + b)) (nI_add _ _) ?_
                              refine lv_iload hx hb dX4_know_134 (lv_at hl 4 rfl) ?_
                              refine lv_iload_n hx hb dX4_know_136 rfl (lv_at hl 2 rfl) ?_
                              refine lv_icmp_ne (tgt := 144) hx hb dX4_know_137 (by decide) (fun cg => ?_) (fun cg => ?_)
                              · skip
                                have cg : b ≠ i := fun h => cg ((nI_eq (a := b) (b := i) (by omega) (by omega)).mpr h)
                                refine lv_aload_n hx hb dX4_know_144 rfl (lv_at hl 0 rfl) ?_
                                refine va_get (D := (dC, dI)) (ci := 5) (v := .int (nI (q))) (C := RX4) (T := TX4) (N := 20) hx hb hts hinX4 hown hK hP 0 rfl rfl 2 (by decide) hf60 (fun _ h9 => h9) rfl dX4_know_145 ?_
                                refine lv_aload_n hx hb dX4_know_148 rfl (lv_at hl 0 rfl) ?_
                                refine va_get (D := (dC, dI)) (ci := 5) (v := .ref aY) (C := RX4) (T := TX4) (N := 20) hx hb hts hinX4 hown hK hP 0 rfl rfl 14 (by decide) hf38 (fun _ h9 => h9) rfl dX4_know_149 ?_
                                refine lv_iload hx hb dX4_know_152 (lv_at hl 4 rfl) ?_
                                refine ra_ld (g := nI) (F := G2) hx hb hK hP 8 0 rfl rfl (by omega) (by omega) dX4_know_154 ?_
                                refine tp_i (y := nI ((knT n q (eff jn ns) i cc).2 b)) (by rw [g2]) ?_
                                refine lv_isub hx hb dX4_know_155 ?_
                                refine tp_i (y := nI (q - ((knT n q (eff jn ns) i cc).2 b))) (pk_sub (by omega)) ?_
                                refine lv_aload_n hx hb dX4_know_156 rfl (lv_at hl 0 rfl) ?_
                                refine va_get (D := (dC, dI)) (ci := 5) (v := .int (nI (q))) (C := RX4) (T := TX4) (N := 20) hx hb hts hinX4 hown hK hP 0 rfl rfl 2 (by decide) hf60 (fun _ h9 => h9) rfl dX4_know_157 ?_
                                refine lv_irem hx hb dX4_know_160 (nI_ne0 (by omega) (by omega)) ?_
                                refine tp_i (y := nI ((q - ((knT n q (eff jn ns) i cc).2 b)) % q)) (pk_rem (by omega) (by omega) (by omega)) ?_
                                refine ra_st (g := nI) (F := Y) (v := (q - ((knT n q (eff jn ns) i cc).2 b)) % q) hx hb hK hP hD hS 4 0 rfl rfl (by omega) (by omega) dX4_know_161 (fun H locs hP hD hS => ?_)
                                have hP : va_P (dC, dI) vwCl [(m0, .inr (5, [.int (th), .int (nI (n)), .int (nI (q)), .ref aJ, .ref aS, .ref aT, .ref aW, .int (bI true), .int (nI (cc.1)), .ref aR, .ref aP, .ref aH, .ref aK, .ref aE, .ref aY, .ref aN, .ref aQ, .ref aB, .ref aI, .ref aD])), (aJ, .inl (cZ, 900, .inl (fun j => bI (jn j)))), (aS, .inl (cZ, 30, .inl (fun j => bI (ns j)))), (aR, .inl (cI, 900, .inl (fun j => nI ((va_up X ((30 * cc.1) + b) ((knT n q (eff jn ns) i cc).1 b)) j)))), (aP, .inl (cI, 900, .inl (fun j => nI ((va_up Y ((30 * cc.1) + b) ((q - ((knT n q (eff jn ns) i cc).2 b)) % q)) j)))), (aH, .inl (cI, 30, .inl (fun j => nI (x3 j)))), (aK, .inl (cZ, 30, .inl (fun j => bI ((va_up x4 i (true)) j)))), (aE, .inl (cI, 30, .inl (fun j => nI (F2 j)))), (aY, .inl (cI, 30, .inl (fun j => nI (G2 j)))), (aQ, .inl (cI, 900, .inl (fun j => nI (x7 j))))] H := hP
                                have hD : va_D A [(m0, .inr (5, [.int (th), .int (nI (n)), .int (nI (q)), .ref aJ, .ref aS, .ref aT, .ref aW, .int (bI true), .int (nI (cc.1)), .ref aR, .ref aP, .ref aH, .ref aK, .ref aE, .ref aY, .ref aN, .ref aQ, .ref aB, .ref aI, .ref aD])), (aJ, .inl (cZ, 900, .inl (fun j => bI (jn j)))), (aS, .inl (cZ, 30, .inl (fun j => bI (ns j)))), (aR, .inl (cI, 900, .inl (fun j => nI ((va_up X ((30 * cc.1) + b) ((knT n q (eff jn ns) i cc).1 b)) j)))), (aP, .inl (cI, 900, .inl (fun j => nI ((va_up Y ((30 * cc.1) + b) ((q - ((knT n q (eff jn ns) i cc).2 b)) % q)) j)))), (aH, .inl (cI, 30, .inl (fun j => nI (x3 j)))), (aK, .inl (cZ, 30, .inl (fun j => bI ((va_up x4 i (true)) j)))), (aE, .inl (cI, 30, .inl (fun j => nI (F2 j)))), (aY, .inl (cI, 30, .inl (fun j => nI (G2 j)))), (aQ, .inl (cI, 900, .inl (fun j => nI (x7 j))))] := hD
                                refine lv_iinc (v := nI (b + 1)) (lv' := [(4, .int (nI (b + 1))), (0, .ref m0), (1, .int (nI (cc.2.2.2.2.1))), (2, .int (nI (i))), (3, .int (nI (h0)))]) hx hb dX4_know_162 hl (k := 4) rfl (nI_1 _) (by decide) rfl (fun ls hl => ?_)
                                refine lv_goto (tgt := 89) hx hb dX4_know_165 (by decide) ?_
                                exact ih3 (b + 1) (va_up X (30 * cc.1 + b) ((knT n q (eff jn ns) i cc).1 b)) (va_up Y (30 * cc.1 + b) ((q - (knT n q (eff jn ns) i cc).2 b) % q)) (by omega) (fun k hk => by
                                      by_cases e : k = b
                                      · subst e; rw [up_at]
                                      · rw [up_of _ _ (by omega)]; exact z1 k (by omega)) (fun r hr k hk => by rw [up_of _ _ (by omega)]; exact z2 r hr k hk) (fun k hk => by
                                      by_cases e : k = b
                                      · subst e; rw [up_at]; unfold knP; rw [if_neg cg]
                                      · rw [up_of _ _ (by omega)]; exact y1 k (by omega)) (fun r hr k hk => by rw [up_of _ _ (by omega)]; exact y2 r hr k hk) _ _ hP hD hS ls (lv_sub hl [1, 2, 3, 4, 0] rfl)
                              · skip
                                have cg : b = i := (nI_eq (a := b) (b := i) (by omega) (by omega)).mp cg
                                refine lv_iconst (v := nI 1) hx hb dX4_know_140 (by decide) ?_
                                refine lv_goto (tgt := 161) hx hb dX4_know_141 (by decide) ?_
                                refine ra_st (g := nI) (F := Y) (v := 1) hx hb hK hP hD hS 4 0 rfl rfl (by omega) (by omega) dX4_know_161 (fun H locs hP hD hS => ?_)
                                have hP : va_P (dC, dI) vwCl [(m0, .inr (5, [.int (th), .int (nI (n)), .int (nI (q)), .ref aJ, .ref aS, .ref aT, .ref aW, .int (bI true), .int (nI (cc.1)), .ref aR, .ref aP, .ref aH, .ref aK, .ref aE, .ref aY, .ref aN, .ref aQ, .ref aB, .ref aI, .ref aD])), (aJ, .inl (cZ, 900, .inl (fun j => bI (jn j)))), (aS, .inl (cZ, 30, .inl (fun j => bI (ns j)))), (aR, .inl (cI, 900, .inl (fun j => nI ((va_up X ((30 * cc.1) + b) ((knT n q (eff jn ns) i cc).1 b)) j)))), (aP, .inl (cI, 900, .inl (fun j => nI ((va_up Y ((30 * cc.1) + b) (1)) j)))), (aH, .inl (cI, 30, .inl (fun j => nI (x3 j)))), (aK, .inl (cZ, 30, .inl (fun j => bI ((va_up x4 i (true)) j)))), (aE, .inl (cI, 30, .inl (fun j => nI (F2 j)))), (aY, .inl (cI, 30, .inl (fun j => nI (G2 j)))), (aQ, .inl (cI, 900, .inl (fun j => nI (x7 j))))] H := hP
                                have hD : va_D A [(m0, .inr (5, [.int (th), .int (nI (n)), .int (nI (q)), .ref aJ, .ref aS, .ref aT, .ref aW, .int (bI true), .int (nI (cc.1)), .ref aR, .ref aP, .ref aH, .ref aK, .ref aE, .ref aY, .ref aN, .ref aQ, .ref aB, .ref aI, .ref aD])), (aJ, .inl (cZ, 900, .inl (fun j => bI (jn j)))), (aS, .inl (cZ, 30, .inl (fun j => bI (ns j)))), (aR, .inl (cI, 900, .inl (fun j => nI ((va_up X ((30 * cc.1) + b) ((knT n q (eff jn ns) i cc).1 b)) j)))), (aP, .inl (cI, 900, .inl (fun j => nI ((va_up Y ((30 * cc.1) + b) (1)) j)))), (aH, .inl (cI, 30, .inl (fun j => nI (x3 j)))), (aK, .inl (cZ, 30, .inl (fun j => bI ((va_up x4 i (true)) j)))), (aE, .inl (cI, 30, .inl (fun j => nI (F2 j)))), (aY, .inl (cI, 30, .inl (fun j => nI (G2 j)))), (aQ, .inl (cI, 900, .inl (fun j => nI (x7 j))))] := hD
                                refine lv_iinc (v := nI (b + 1)) (lv' := [(4, .int (nI (b + 1))), (0, .ref m0), (1, .int (nI (cc.2.2.2.2.1))), (2, .int (nI (i))), (3, .int (nI (h0)))]) hx hb dX4_know_162 hl (k := 4) rfl (nI_1 _) (by decide) rfl (fun ls hl => ?_)
                                refine lv_goto (tgt := 89) hx hb dX4_know_165 (by decide) ?_
                                exact ih3 (b + 1) (va_up X (30 * cc.1 + b) ((knT n q (eff jn ns) i cc).1 b)) (va_up Y (30 * cc.1 + b) 1) (by omega) (fun k hk => by
                                      by_cases e : k = b
                                      · subst e; rw [up_at]
                                      · rw [up_of _ _ (by omega)]; exact z1 k (by omega)) (fun r hr k hk => by rw [up_of _ _ (by omega)]; exact z2 r hr k hk) (fun k hk => by
                                      by_cases e : k = b
                                      · subst e; rw [up_at]; unfold knP; rw [if_pos cg]
                                      · rw [up_of _ _ (by omega)]; exact y1 k (by omega)) (fun r hr k hk => by rw [up_of _ _ (by omega)]; exact y2 r hr k hk) _ _ hP hD hS ls (lv_sub hl [1, 2, 3, 4, 0] rfl)
                        exact lp4 n 0 x1 x2 (by omega) (fun k h => absurd h (by omega)) o2 (fun k h => absurd h (by omega)) o3 _ _ hP hD hS ls (lv_sub hl [2, 3, 4, 1, 0] rfl)
                · skip
                  have cb : b < n := Nat.not_le.mp (fun h => cb ((nI_leI (a := n) (b := b) (by omega) (by omega)).mpr h))
                  exact absurd cb (by omega)
              | succ k2 ih2 =>
                intro b F hb2 f1 H locs hP hD hS ls hl
                refine lv_iload_n hx hb dX4_know_32 rfl (lv_at hl 3 rfl) ?_
                refine lv_aload_n hx hb dX4_know_33 rfl (lv_at hl 0 rfl) ?_
                refine va_get (D := (dC, dI)) (ci := 5) (v := .int (nI (n))) (C := RX4) (T := TX4) (N := 20) hx hb hts hinX4 hown hK hP 0 rfl rfl 1 (by decide) hf56 (fun _ h9 => h9) rfl dX4_know_34 ?_
                refine lv_icmp_ge (tgt := 58) hx hb dX4_know_37 (by decide) (fun cb => ?_) (fun cb => ?_)
                · skip
                  have cb : n ≤ b := (nI_leI (a := n) (b := b) (by omega) (by omega)).mp cb
                  exact absurd cb (by omega)
                · skip
                  have cb : b < n := Nat.not_le.mp (fun h => cb ((nI_leI (a := n) (b := b) (by omega) (by omega)).mpr h))
                  refine lv_aload_n hx hb dX4_know_40 rfl (lv_at hl 0 rfl) ?_
                  refine va_get (D := (dC, dI)) (ci := 5) (v := .ref aE) (C := RX4) (T := TX4) (N := 20) hx hb hts hinX4 hown hK hP 0 rfl rfl 13 (by decide) hf35 (fun _ h9 => h9) rfl dX4_know_41 ?_
                  refine lv_iload_n hx hb dX4_know_44 rfl (lv_at hl 3 rfl) ?_
                  refine lv_aload_n hx hb dX4_know_45 rfl (lv_at hl 0 rfl) ?_
                  refine lv_iload_n hx hb dX4_know_46 rfl (lv_at hl 2 rfl) ?_
                  refine lv_iload_n hx hb dX4_know_47 rfl (lv_at hl 3 rfl) ?_
                  have hPc := hP.sub (ws' := [(m0, .inr (5, [.int (th), .int (nI (n)), .int (nI (q)), .ref aJ, .ref aS, .ref aT, .ref aW, .int (bI true), .int (nI (cc.1)), .ref aR, .ref aP, .ref aH, .ref aK, .ref aE, .ref aY, .ref aN, .ref aQ, .ref aB, .ref aI, .ref aD])), (aJ, .inl (cZ, 900, .inl (fun j => bI (jn j)))), (aS, .inl (cZ, 30, .inl (fun j => bI (ns j))))]) [0, 1, 2] rfl
                  have hDc := hD.sub (ws' := [(m0, .inr (5, [.int (th), .int (nI (n)), .int (nI (q)), .ref aJ, .ref aS, .ref aT, .ref aW, .int (bI true), .int (nI (cc.1)), .ref aR, .ref aP, .ref aH, .ref aK, .ref aE, .ref aY, .ref aN, .ref aQ, .ref aB, .ref aI, .ref aD])), (aJ, .inl (cZ, 900, .inl (fun j => bI (jn j)))), (aS, .inl (cZ, 30, .inl (fun j => bI (ns j))))]) [0, 1, 2] (by decide) rfl
                  have hFc := va_free (wc := [(m0, .inr (5, [.int (th), .int (nI (n)), .int (nI (q)), .ref aJ, .ref aS, .ref aT, .ref aW, .int (bI true), .int (nI (cc.1)), .ref aR, .ref aP, .ref aH, .ref aK, .ref aE, .ref aY, .ref aN, .ref aQ, .ref aB, .ref aI, .ref aD])), (aJ, .inl (cZ, 900, .inl (fun j => bI (jn j)))), (aS, .inl (cZ, 30, .inl (fun j => bI (ns j))))]) hD hS hA [0, 1, 2] rfl
                  have hKc := hK.sub (tys' := [(cI, .int), (cZ, .boolean)]) [0, 1] rfl
                  refine va_calli (va_runV (As := [.int (nI (i)), .int (nI (b))]) (rest := [.int (nI (b)), .ref aE]) ⟨hx, hb, hml, hown, hts⟩ (c_X4_effect l dC dI H.size m0 aJ aS aT aW aR aP aH aK aE aY aN aQ aB aI aD n q cc.1 th true cI cZ jn ns i b hn (by omega) (by omega)) (cwV 2 hts gX4_know_X4_effect rfl rfl rfl (by decide +kernel) ⟨Nat.le_of_ble_eq_true rfl, Nat.le_of_ble_eq_true rfl⟩) ⟨fun a U g mk q => by obtain ⟨q0, q1, qP, qK, qD⟩ := q; exact ⟨q0, q1, qP, va_K.moved (u := U) (U := U.calling g mk a) (Vm.Alike.refl U.vm) qK, qD⟩, va_recv hKc hPc (ci := 5) (q0 := 0) rfl rfl, fun U hU hW => ⟨rfl, by rw [hU], by rw [hU]; exact hPc, va_K.moved hW.alike hKc, hDc.weaken (fun _ _ _ _ => trivial)⟩⟩ rfl rfl hl.1 rfl (lv_room (Nat.le_of_ble_eq_true rfl)) dX4_know_48 ⟨Nat.le_of_ble_eq_true rfl, Nat.le_of_ble_eq_true rfl⟩) hS (fun q _ h => hFc q h) hFc (fun r3 uu t H1 locs ht hvm hw hB hz1 hk1 hS => ?_)
                  obtain ⟨hP1, hK1, hD1⟩ := hB
                  rw [ht] at hP1
                  try dsimp only at hw
                  obtain ⟨hP, hD⟩ := va_join (wr := [(aR, .inl (cI, 900, .inl (fun j => nI (x1 j)))), (aP, .inl (cI, 900, .inl (fun j => nI (x2 j)))), (aH, .inl (cI, 30, .inl (fun j => nI (x3 j)))), (aK, .inl (cZ, 30, .inl (fun j => bI (x4 j)))), (aE, .inl (cI, 30, .inl (fun j => nI (F j)))), (aY, .inl (cI, 30, .inl (fun j => nI (x6 j)))), (aQ, .inl (cI, 900, .inl (fun j => nI (x7 j))))]) (w1 := [(m0, .inr (5, [.int (th), .int (nI (n)), .int (nI (q)), .ref aJ, .ref aS, .ref aT, .ref aW, .int (bI true), .int (nI (cc.1)), .ref aR, .ref aP, .ref aH, .ref aK, .ref aE, .ref aY, .ref aN, .ref aQ, .ref aB, .ref aI, .ref aD])), (aJ, .inl (cZ, 900, .inl (fun j => bI (jn j)))), (aS, .inl (cZ, 30, .inl (fun j => bI (ns j))))]) hP hD [0, 1, 2] [3, 4, 5, 6, 7, 8, 9] rfl rfl (by decide) (by decide) hk1 hFc hP1 hD1
                  generalize H1 = H at hP hS ⊢
                  have hP := hP.sub (ws' := [(m0, .inr (5, [.int (th), .int (nI (n)), .int (nI (q)), .ref aJ, .ref aS, .ref aT, .ref aW, .int (bI true), .int (nI (cc.1)), .ref aR, .ref aP, .ref aH, .ref aK, .ref aE, .ref aY, .ref aN, .ref aQ, .ref aB, .ref aI, .ref aD])), (aJ, .inl (cZ, 900, .inl (fun j => bI (jn j)))), (aS, .inl (cZ, 30, .inl (fun j => bI (ns j)))), (aR, .inl (cI, 900, .inl (fun j => nI (x1 j)))), (aP, .inl (cI, 900, .inl (fun j => nI (x2 j)))), (aH, .inl (cI, 30, .inl (fun j => nI (x3 j)))), (aK, .inl (cZ, 30, .inl (fun j => bI (x4 j)))), (aE, .inl (cI, 30, .inl (fun j => nI (F j)))), (aY, .inl (cI, 30, .inl (fun j => nI (x6 j)))), (aQ, .inl (cI, 900, .inl (fun j => nI (x7 j))))]) [7, 8, 9, 0, 1, 2, 3, 4, 5, 6] rfl
                  have hD := hD.sub (ws' := [(m0, .inr (5, [.int (th), .int (nI (n)), .int (nI (q)), .ref aJ, .ref aS, .ref aT, .ref aW, .int (bI true), .int (nI (cc.1)), .ref aR, .ref aP, .ref aH, .ref aK, .ref aE, .ref aY, .ref aN, .ref aQ, .ref aB, .ref aI, .ref aD])), (aJ, .inl (cZ, 900, .inl (fun j => bI (jn j)))), (aS, .inl (cZ, 30, .inl (fun j => bI (ns j)))), (aR, .inl (cI, 900, .inl (fun j => nI (x1 j)))), (aP, .inl (cI, 900, .inl (fun j => nI (x2 j)))), (aH, .inl (cI, 30, .inl (fun j => nI (x3 j)))), (aK, .inl (cZ, 30, .inl (fun j => bI (x4 j)))), (aE, .inl (cI, 30, .inl (fun j => nI (F j)))), (aY, .inl (cI, 30, .inl (fun j => nI (x6 j)))), (aQ, .inl (cI, 900, .inl (fun j => nI (x7 j))))]) [7, 8, 9, 0, 1, 2, 3, 4, 5, 6] (by decide) rfl
                  have hP : va_P (dC, dI) vwCl [(m0, .inr (5, [.int (th), .int (nI (n)), .int (nI (q)), .ref aJ, .ref aS, .ref aT, .ref aW, .int (bI true), .int (nI (cc.1)), .ref aR, .ref aP, .ref aH, .ref aK, .ref aE, .ref aY, .ref aN, .ref aQ, .ref aB, .ref aI, .ref aD])), (aJ, .inl (cZ, 900, .inl (fun j => bI (jn j)))), (aS, .inl (cZ, 30, .inl (fun j => bI (ns j)))), (aR, .inl (cI, 900, .inl (fun j => nI (x1 j)))), (aP, .inl (cI, 900, .inl (fun j => nI (x2 j)))), (aH, .inl (cI, 30, .inl (fun j => nI (x3 j)))), (aK, .inl (cZ, 30, .inl (fun j => bI (x4 j)))), (aE, .inl (cI, 30, .inl (fun j => nI (F j)))), (aY, .inl (cI, 30, .inl (fun j => nI (x6 j)))), (aQ, .inl (cI, 900, .inl (fun j => nI (x7 j))))] H := hP
                  have hD : va_D A [(m0, .inr (5, [.int (th), .int (nI (n)), .int (nI (q)), .ref aJ, .ref aS, .ref aT, .ref aW, .int (bI true), .int (nI (cc.1)), .ref aR, .ref aP, .ref aH, .ref aK, .ref aE, .ref aY, .ref aN, .ref aQ, .ref aB, .ref aI, .ref aD])), (aJ, .inl (cZ, 900, .inl (fun j => bI (jn j)))), (aS, .inl (cZ, 30, .inl (fun j => bI (ns j)))), (aR, .inl (cI, 900, .inl (fun j => nI (x1 j)))), (aP, .inl (cI, 900, .inl (fun j => nI (x2 j)))), (aH, .inl (cI, 30, .inl (fun j => nI (x3 j)))), (aK, .inl (cZ, 30, .inl (fun j => bI (x4 j)))), (aE, .inl (cI, 30, .inl (fun j => nI (F j)))), (aY, .inl (cI, 30, .inl (fun j => nI (x6 j)))), (aQ, .inl (cI, 900, .inl (fun j => nI (x7 j))))] := hD
                  subst hw
                  refine ra_st (g := nI) (F := F) (v := eff jn ns i b) hx hb hK hP hD hS 7 0 rfl rfl (by omega) (by omega) dX4_know_51 (fun H locs hP hD hS => ?_)
                  have hP : va_P (dC, dI) vwCl [(m0, .inr (5, [.int (th), .int (nI (n)), .int (nI (q)), .ref aJ, .ref aS, .ref aT, .ref aW, .int (bI true), .int (nI (cc.1)), .ref aR, .ref aP, .ref aH, .ref aK, .ref aE, .ref aY, .ref aN, .ref aQ, .ref aB, .ref aI, .ref aD])), (aJ, .inl (cZ, 900, .inl (fun j => bI (jn j)))), (aS, .inl (cZ, 30, .inl (fun j => bI (ns j)))), (aR, .inl (cI, 900, .inl (fun j => nI (x1 j)))), (aP, .inl (cI, 900, .inl (fun j => nI (x2 j)))), (aH, .inl (cI, 30, .inl (fun j => nI (x3 j)))), (aK, .inl (cZ, 30, .inl (fun j => bI (x4 j)))), (aE, .inl (cI, 30, .inl (fun j => nI ((va_up F b (eff jn ns i b)) j)))), (aY, .inl (cI, 30, .inl (fun j => nI (x6 j)))), (aQ, .inl (cI, 900, .inl (fun j => nI (x7 j))))] H := hP
                  have hD : va_D A [(m0, .inr (5, [.int (th), .int (nI (n)), .int (nI (q)), .ref aJ, .ref aS, .ref aT, .ref aW, .int (bI true), .int (nI (cc.1)), .ref aR, .ref aP, .ref aH, .ref aK, .ref aE, .ref aY, .ref aN, .ref aQ, .ref aB, .ref aI, .ref aD])), (aJ, .inl (cZ, 900, .inl (fun j => bI (jn j)))), (aS, .inl (cZ, 30, .inl (fun j => bI (ns j)))), (aR, .inl (cI, 900, .inl (fun j => nI (x1 j)))), (aP, .inl (cI, 900, .inl (fun j => nI (x2 j)))), (aH, .inl (cI, 30, .inl (fun j => nI (x3 j)))), (aK, .inl (cZ, 30, .inl (fun j => bI (x4 j)))), (aE, .inl (cI, 30, .inl (fun j => nI ((va_up F b (eff jn ns i b)) j)))), (aY, .inl (cI, 30, .inl (fun j => nI (x6 j)))), (aQ, .inl (cI, 900, .inl (fun j => nI (x7 j))))] := hD
                  refine lv_iinc (v := nI (b + 1)) (lv' := [(3, .int (nI (b + 1))), (0, .ref m0), (1, .int (nI (cc.2.2.2.2.1))), (2, .int (nI (i)))]) hx hb dX4_know_52 hl (k := 3) rfl (nI_1 _) (by decide) rfl (fun ls hl => ?_)
                  refine lv_goto (tgt := 32) hx hb dX4_know_55 (by decide) ?_
                  exact ih2 (b + 1) (va_up F b (eff jn ns i b)) (by omega) (fun k hk => by
                        by_cases e : k = b
                        · rw [e, up_at]
                        · rw [up_of _ _ e]; exact f1 k (by omega)) _ _ hP hD hS ls (lv_sub hl [1, 2, 3, 0] rfl)
            exact lp2 n 0 x5 (by omega) (fun k h => absurd h (by omega)) _ _ hP hD hS ls (lv_sub hl [1, 2, 3, 0] rfl)
      exact lp n 0 0 rw ps hd bo re yy qu (by omega) ⟨rfl, fun r h => absurd h (Nat.not_lt_zero r), fun r h => absurd h (Nat.not_lt_zero r), fun r h => absurd h (Nat.not_lt_zero r), fun r h => absurd h (Nat.not_lt_zero r)⟩ _ _ hP hD hS ls (lv_sub hl [2, 1, 0] rfl)
    · skip
      have c : 0 ≠ 0 := fun h => c ((nI_eq (a := 0) (b := 0) (by omega) (by omega)).mpr h)
      exact absurd rfl c
  · skip
    refine tp_i (y := nI 1) rfl ?_
    subst hk
    refine lv_if_eq (tgt := 8) hx hb dX4_know_4 (by decide) (fun c => ?_) (fun c => ?_)
    · skip
      have c : 1 = 0 := (nI_eq (a := 1) (b := 0) (by omega) (by omega)).mp c
      exact absurd c (by decide)
    · skip
      have c : 1 ≠ 0 := fun h => c ((nI_eq (a := 1) (b := 0) (by omega) (by omega)).mpr h)
      rw [hQ]
      exact W.vret hx hb hr (fun t ht hW => ⟨⟨(rk, rw, ps, hd, bo, re, yy, qu), rfl, hkn rfl, by rw [ht]; exact hP, va_K.moved hW.alike hK, hD⟩, hS.F ht⟩) hS.2.2 dX4_know_7

set_option maxHeartbeats 4000000 in
set_option maxRecDepth 100000 in
theorem c_X4_apart (l : Launch) (dC : Nat → ClassId) (dI : Nat → Nat → Nat) (sz : Nat) (m0 aJ aS aT aW aR aP aH aK aE aY aN aQ aB aI aD n q rk : Nat) (th : Int32) (kn : Bool) (cI cZ : ClassId) (st : Nat → Nat) (wt : Nat → Nat) (hn : n < 31) (hs0 : ∀ k, k < n → st k < 100) (hw0 : ∀ k, k < n → wt k < 100) : Met l yX4_apart wsX4_apart ({ frames := 0, cells := 0, slots := 0, locals := 0 }) (va_Pc [.ref m0] (fun U => U.heap.size = sz ∧ va_P (dC, dI) vwCl [(m0, .inr (5, [.int (th), .int (nI (n)), .int (nI (q)), .ref aJ, .ref aS, .ref aT, .ref aW, .int (bI kn), .int (nI (rk)), .ref aR, .ref aP, .ref aH, .ref aK, .ref aE, .ref aY, .ref aN, .ref aQ, .ref aB, .ref aI, .ref aD])), (aT, .inl (cI, 30, .inl (fun j => nI (st j)))), (aW, .inl (cI, 30, .inl (fun j => nI (wt j))))] U.heap ∧ va_K (dC, dI) vwCl [(cI, .int), (cZ, .boolean)] U ∧ va_D (fun _ => True) [(m0, .inr (5, [.int (th), .int (nI (n)), .int (nI (q)), .ref aJ, .ref aS, .ref aT, .ref aW, .int (bI kn), .int (nI (rk)), .ref aR, .ref aP, .ref aH, .ref aK, .ref aE, .ref aY, .ref aN, .ref aQ, .ref aB, .ref aI, .ref aD])), (aT, .inl (cI, 30, .inl (fun j => nI (st j)))), (aW, .inl (cI, 30, .inl (fun j => nI (wt j))))])) (va_Qi (fun (z : Int32) (_ : Unit) => z = nI (apt st wt n)) (fun _ t => va_P (dC, dI) vwCl [(m0, .inr (5, [.int (bI false), .int (nI (n)), .int (nI (q)), .ref aJ, .ref aS, .ref aT, .ref aW, .int (bI kn), .int (nI (rk)), .ref aR, .ref aP, .ref aH, .ref aK, .ref aE, .ref aY, .ref aN, .ref aQ, .ref aB, .ref aI, .ref aD])), (aT, .inl (cI, 30, .inl (fun j => nI (st j)))), (aW, .inl (cI, 30, .inl (fun j => nI (wt j))))] t.heap ∧ va_K (dC, dI) vwCl [(cI, .int), (cZ, .boolean)] t ∧ va_D (va_A [(m0, .inr (5, [.int (th), .int (nI (n)), .int (nI (q)), .ref aJ, .ref aS, .ref aT, .ref aW, .int (bI kn), .int (nI (rk)), .ref aR, .ref aP, .ref aH, .ref aK, .ref aE, .ref aY, .ref aN, .ref aQ, .ref aB, .ref aI, .ref aD])), (aT, .inl (cI, 30, .inl (fun j => nI (st j)))), (aW, .inl (cI, 30, .inl (fun j => nI (wt j))))] sz) [(m0, .inr (5, [.int (bI false), .int (nI (n)), .int (nI (q)), .ref aJ, .ref aS, .ref aT, .ref aW, .int (bI kn), .int (nI (rk)), .ref aR, .ref aP, .ref aH, .ref aK, .ref aE, .ref aY, .ref aN, .ref aQ, .ref aB, .ref aI, .ref aD])), (aT, .inl (cI, 30, .inl (fun j => nI (st j)))), (aW, .inl (cI, 30, .inl (fun j => nI (wt j))))]) (va_A [(m0, .inr (5, [.int (th), .int (nI (n)), .int (nI (q)), .ref aJ, .ref aS, .ref aT, .ref aW, .int (bI kn), .int (nI (rk)), .ref aR, .ref aP, .ref aH, .ref aK, .ref aE, .ref aY, .ref aN, .ref aQ, .ref aB, .ref aI, .ref aD])), (aT, .inl (cI, 30, .inl (fun j => nI (st j)))), (aW, .inl (cI, 30, .inl (fun j => nI (wt j))))] sz)) 0 0 (va_A [(m0, .inr (5, [.int (th), .int (nI (n)), .int (nI (q)), .ref aJ, .ref aS, .ref aT, .ref aW, .int (bI kn), .int (nI (rk)), .ref aR, .ref aP, .ref aH, .ref aK, .ref aE, .ref aY, .ref aN, .ref aQ, .ref aB, .ref aI, .ref aD])), (aT, .inl (cI, 30, .inl (fun j => nI (st j)))), (aW, .inl (cI, 30, .inl (fun j => nI (wt j))))] sz) := by
  refine Met.ofW (cc := cX4_apart) (maxL := 3) (ret := (some .int)) (by decide) rfl ?_
  intro zp ze s m args below meth zc s₁ B hml hv
  obtain ⟨hargs, hsz, hP, hK, hD0⟩ := hv
  have hx := B.exec
  have hb := B.bytes
  have hr := B.returns
  have hts := atoms_spec (ws := wsX4_apart) B.pre
  have hown : s.vm.findClass RX4 = some m.cls := findClass_of_methodNamed B.named
  have hlocks := B.notSynchronized
  subst hsz
  obtain ⟨Q, hQ⟩ : ∃ Q, Q = MQ below (va_Qi (fun (z : Int32) (_ : Unit) => z = nI (apt st wt n)) (fun _ t => va_P (dC, dI) vwCl [(m0, .inr (5, [.int (bI false), .int (nI (n)), .int (nI (q)), .ref aJ, .ref aS, .ref aT, .ref aW, .int (bI kn), .int (nI (rk)), .ref aR, .ref aP, .ref aH, .ref aK, .ref aE, .ref aY, .ref aN, .ref aQ, .ref aB, .ref aI, .ref aD])), (aT, .inl (cI, 30, .inl (fun j => nI (st j)))), (aW, .inl (cI, 30, .inl (fun j => nI (wt j))))] t.heap ∧ va_K (dC, dI) vwCl [(cI, .int), (cZ, .boolean)] t ∧ va_D (va_A [(m0, .inr (5, [.int (th), .int (nI (n)), .int (nI (q)), .ref aJ, .ref aS, .ref aT, .ref aW, .int (bI kn), .int (nI (rk)), .ref aR, .ref aP, .ref aH, .ref aK, .ref aE, .ref aY, .ref aN, .ref aQ, .ref aB, .ref aI, .ref aD])), (aT, .inl (cI, 30, .inl (fun j => nI (st j)))), (aW, .inl (cI, 30, .inl (fun j => nI (wt j))))] s.heap.size) [(m0, .inr (5, [.int (bI false), .int (nI (n)), .int (nI (q)), .ref aJ, .ref aS, .ref aT, .ref aW, .int (bI kn), .int (nI (rk)), .ref aR, .ref aP, .ref aH, .ref aK, .ref aE, .ref aY, .ref aN, .ref aQ, .ref aB, .ref aI, .ref aD])), (aT, .inl (cI, 30, .inl (fun j => nI (st j)))), (aW, .inl (cI, 30, .inl (fun j => nI (wt j))))]) (va_A [(m0, .inr (5, [.int (th), .int (nI (n)), .int (nI (q)), .ref aJ, .ref aS, .ref aT, .ref aW, .int (bI kn), .int (nI (rk)), .ref aR, .ref aP, .ref aH, .ref aK, .ref aE, .ref aY, .ref aN, .ref aQ, .ref aB, .ref aI, .ref aD])), (aT, .inl (cI, 30, .inl (fun j => nI (st j)))), (aW, .inl (cI, 30, .inl (fun j => nI (wt j))))] s.heap.size)) args s 0 0 (va_A [(m0, .inr (5, [.int (th), .int (nI (n)), .int (nI (q)), .ref aJ, .ref aS, .ref aT, .ref aW, .int (bI kn), .int (nI (rk)), .ref aR, .ref aP, .ref aH, .ref aK, .ref aE, .ref aY, .ref aN, .ref aQ, .ref aB, .ref aI, .ref aD])), (aT, .inl (cI, 30, .inl (fun j => nI (st j)))), (aW, .inl (cI, 30, .inl (fun j => nI (wt j))))] s.heap.size) := ⟨_, rfl⟩
  rw [← hQ]
  have hD := hD0.self (sz := s.heap.size)
  generalize hAe : (va_A [(m0, .inr (5, [.int (th), .int (nI (n)), .int (nI (q)), .ref aJ, .ref aS, .ref aT, .ref aW, .int (bI kn), .int (nI (rk)), .ref aR, .ref aP, .ref aH, .ref aK, .ref aE, .ref aY, .ref aN, .ref aQ, .ref aB, .ref aI, .ref aD])), (aT, .inl (cI, 30, .inl (fun j => nI (st j)))), (aW, .inl (cI, 30, .inl (fun j => nI (wt j))))] s.heap.size) = A at hD hQ
  have hA : ∀ q : Nat, s.heap.size ≤ q → A q := fun q h => by rw [← hAe]; exact Or.inr h
  have hS : va_S A s.heap s.heap [] := va_S.rf
  have hl := lv_entry ([.ref m0]) (n := 3) (Nat.le_of_ble_eq_true rfl)
  generalize hen : entryFrame m args 3 = fr
  rw [hargs, lg_entry_eq] at hen
  subst hen
  generalize (lg_sl ([.ref m0]) ++ List.replicate (3 - (lg_sl ([.ref m0])).length) Slot.unset).toArray = ls at hl ⊢
  have hl : lv_has ls 3 [(0, .ref m0)] := hl
  have hinX4 : ∀ w ∈ wsX40, w ∈ wsX4_apart := by decide +kernel
  have hf16 := hts (.fieldLink RX4 16 "LightRowsModel" "states" "[I") (by decide +kernel)
  have hf20 := hts (.fieldLink RX4 20 "LightRowsModel" "wanted" "[I") (by decide +kernel)
  have hf56 := hts (.fieldLink RX4 56 "LightRowsModel" "lamps" "I") (by decide +kernel)
  have hf63 := hts (.fieldLink RX4 63 "LightRowsModel" "thrown" "I") (by decide +kernel)
  refine lv_aload_n hx hb dX4_apart_0 rfl (lv_at hl 0 rfl) ?_
  refine lv_iconst (v := nI 0) hx hb dX4_apart_1 (by decide) ?_
  refine va_put (D := (dC, dI)) (ci := 5) (v := .int (nI (0))) (ty := .int) (C := RX4) (T := TX4) (N := 20) hx hb hts hinX4 tyX4 tyX4_ok nmX4 hown hK hP hD hS 0 rfl rfl 0 (by decide) hf63 (fun _ h9 => h9) rfl (by decide +kernel) rfl rfl (Nat.le_of_ble_eq_true rfl) dX4_apart_2 (fun H locs hP hD hS => ?_)
  have hP : va_P (dC, dI) vwCl [(m0, .inr (5, [.int (nI (0)), .int (nI (n)), .int (nI (q)), .ref aJ, .ref aS, .ref aT, .ref aW, .int (bI kn), .int (nI (rk)), .ref aR, .ref aP, .ref aH, .ref aK, .ref aE, .ref aY, .ref aN, .ref aQ, .ref aB, .ref aI, .ref aD])), (aT, .inl (cI, 30, .inl (fun j => nI (st j)))), (aW, .inl (cI, 30, .inl (fun j => nI (wt j))))] H := hP
  have hD : va_D A [(m0, .inr (5, [.int (nI (0)), .int (nI (n)), .int (nI (q)), .ref aJ, .ref aS, .ref aT, .ref aW, .int (bI kn), .int (nI (rk)), .ref aR, .ref aP, .ref aH, .ref aK, .ref aE, .ref aY, .ref aN, .ref aQ, .ref aB, .ref aI, .ref aD])), (aT, .inl (cI, 30, .inl (fun j => nI (st j)))), (aW, .inl (cI, 30, .inl (fun j => nI (wt j))))] := hD
  refine lv_iconst (v := nI 0) hx hb dX4_apart_5 (by decide) ?_
  refine lv_istore_n (lv' := [(1, .int (nI (0))), (0, .ref m0)]) hx hb dX4_apart_6 rfl hl (by decide) rfl (fun ls hl => ?_)
  refine lv_iconst (v := nI 0) hx hb dX4_apart_7 (by decide) ?_
  refine lv_istore_n (lv' := [(2, .int (nI (0))), (1, .int (nI (0))), (0, .ref m0)]) hx hb dX4_apart_8 rfl hl (by decide) rfl (fun ls hl => ?_)
  have lp : ∀ (k : Nat) (i : Nat) (y : Nat), (i + k = n) → (y = apt st wt i) → ∀ (H : Heap) (locs : List Loc), va_P (dC, dI) vwCl [(m0, .inr (5, [.int (bI false), .int (nI (n)), .int (nI (q)), .ref aJ, .ref aS, .ref aT, .ref aW, .int (bI kn), .int (nI (rk)), .ref aR, .ref aP, .ref aH, .ref aK, .ref aE, .ref aY, .ref aN, .ref aQ, .ref aB, .ref aI, .ref aD])), (aT, .inl (cI, 30, .inl (fun j => nI (st j)))), (aW, .inl (cI, 30, .inl (fun j => nI (wt j))))] H → va_D A [(m0, .inr (5, [.int (bI false), .int (nI (n)), .int (nI (q)), .ref aJ, .ref aS, .ref aT, .ref aW, .int (bI kn), .int (nI (rk)), .ref aR, .ref aP, .ref aH, .ref aK, .ref aE, .ref aY, .ref aN, .ref aQ, .ref aB, .ref aI, .ref aD])), (aT, .inl (cI, 30, .inl (fun j => nI (st j)))), (aW, .inl (cI, 30, .inl (fun j => nI (wt j))))] → va_S A s.heap H locs → ∀ (ls : Array Slot), lv_has ls 3 [(0, .ref m0), (1, .int (nI (y))), (2, .int (nI (i)))] → W zp l ze (headSpec wsX4_apart ({ frames := 0, cells := 0, slots := 0, locals := 0 })).room s m args below meth zc H locs 0 0 Q (F0 m 9 ls []) := by
    intro k
    induction k with
    | zero =>
      intro i y hi hy H locs hP hD hS ls hl
      refine lv_iload_n hx hb dX4_apart_9 rfl (lv_at hl 2 rfl) ?_
      refine lv_aload_n hx hb dX4_apart_10 rfl (lv_at hl 0 rfl) ?_
      refine va_get (D := (dC, dI)) (ci := 5) (v := .int (nI (n))) (C := RX4) (T := TX4) (N := 20) hx hb hts hinX4 hown hK hP 0 rfl rfl 1 (by decide) hf56 (fun _ h9 => h9) rfl dX4_apart_11 ?_
      refine lv_icmp_ge (tgt := 46) hx hb dX4_apart_14 (by decide) (fun c => ?_) (fun c => ?_)
      · skip
        have c : n ≤ i := (nI_leI (a := n) (b := i) (by omega) (by omega)).mp c
        obtain rfl : n = i := by omega
        refine lv_iload_n hx hb dX4_apart_46 rfl (lv_at hl 1 rfl) ?_
        rw [hQ]
        exact W.iret (v := nI (y)) hx hb hr (fun t ht hW => ⟨⟨_, (), rfl, by rw [hy], by rw [ht]; exact hP, va_K.moved hW.alike hK, hD⟩, hS.F ht⟩) hS.2.2 dX4_apart_47
      · skip
        have c : i < n := Nat.not_le.mp (fun h => c ((nI_leI (a := n) (b := i) (by omega) (by omega)).mpr h))
        exact absurd c (by omega)
    | succ k ih =>
      intro i y hi hy H locs hP hD hS ls hl
      refine lv_iload_n hx hb dX4_apart_9 rfl (lv_at hl 2 rfl) ?_
      refine lv_aload_n hx hb dX4_apart_10 rfl (lv_at hl 0 rfl) ?_
      refine va_get (D := (dC, dI)) (ci := 5) (v := .int (nI (n))) (C := RX4) (T := TX4) (N := 20) hx hb hts hinX4 hown hK hP 0 rfl rfl 1 (by decide) hf56 (fun _ h9 => h9) rfl dX4_apart_11 ?_
      refine lv_icmp_ge (tgt := 46) hx hb dX4_apart_14 (by decide) (fun c => ?_) (fun c => ?_)
      · skip
        have c : n ≤ i := (nI_leI (a := n) (b := i) (by omega) (by omega)).mp c
        exact absurd c (by omega)
      · skip
        have c : i < n := Nat.not_le.mp (fun h => c ((nI_leI (a := n) (b := i) (by omega) (by omega)).mpr h))
        have e1 := hs0 i (by omega)
        have e2 := hw0 i (by omega)
        refine lv_iload_n hx hb dX4_apart_17 rfl (lv_at hl 1 rfl) ?_
        refine lv_aload_n hx hb dX4_apart_18 rfl (lv_at hl 0 rfl) ?_
        refine va_get (D := (dC, dI)) (ci := 5) (v := .ref aT) (C := RX4) (T := TX4) (N := 20) hx hb hts hinX4 hown hK hP 0 rfl rfl 5 (by decide) hf16 (fun _ h9 => h9) rfl dX4_apart_19 ?_
        refine lv_iload_n hx hb dX4_apart_22 rfl (lv_at hl 2 rfl) ?_
        refine ra_ld (g := nI) (F := st) hx hb hK hP 1 0 rfl rfl (by omega) (by omega) dX4_apart_23 ?_
        refine lv_aload_n hx hb dX4_apart_24 rfl (lv_at hl 0 rfl) ?_
        refine va_get (D := (dC, dI)) (ci := 5) (v := .ref aW) (C := RX4) (T := TX4) (N := 20) hx hb hts hinX4 hown hK hP 0 rfl rfl 6 (by decide) hf20 (fun _ h9 => h9) rfl dX4_apart_25 ?_
        refine lv_iload_n hx hb dX4_apart_28 rfl (lv_at hl 2 rfl) ?_
        refine ra_ld (g := nI) (F := wt) hx hb hK hP 2 0 rfl rfl (by omega) (by omega) dX4_apart_29 ?_
        refine lv_icmp_ne (tgt := 37) hx hb dX4_apart_30 (by decide) (fun c2 => ?_) (fun c2 => ?_)
        · skip
          have c2 : st i ≠ wt i := fun h => c2 ((nI_eq (a := st i) (b := wt i) (by omega) (by omega)).mpr h)
          refine lv_iconst (v := nI 1) hx hb dX4_apart_37 (by decide) ?_
          refine lv_iadd hx hb dX4_apart_38 ?_
          refine tp_i (y := nI (y + 1)) (nI_add _ _) ?_
          refine lv_istore_n (lv' := [(1, .int (nI (y + 1))), (0, .ref m0), (2, .int (nI (i)))]) hx hb dX4_apart_39 rfl hl (by decide) rfl (fun ls hl => ?_)
          refine lv_iinc (v := nI (i + 1)) (lv' := [(2, .int (nI (i + 1))), (1, .int (nI (y + 1))), (0, .ref m0)]) hx hb dX4_apart_40 hl (k := 2) rfl (nI_1 _) (by decide) rfl (fun ls hl => ?_)
          refine lv_goto (tgt := 9) hx hb dX4_apart_43 (by decide) ?_
          exact ih (i + 1) (y + 1) (by omega) (by simp only [apt]; rw [if_neg c2, hy]) _ _ hP hD hS ls (lv_sub hl [2, 1, 0] rfl)
        · skip
          have c2 : st i = wt i := (nI_eq (a := st i) (b := wt i) (by omega) (by omega)).mp c2
          refine lv_iconst (v := nI 0) hx hb dX4_apart_33 (by decide) ?_
          refine lv_goto (tgt := 38) hx hb dX4_apart_34 (by decide) ?_
          refine lv_iadd hx hb dX4_apart_38 ?_
          refine tp_i (y := nI (y + 0)) (nI_add _ _) ?_
          refine lv_istore_n (lv' := [(1, .int (nI (y + 0))), (0, .ref m0), (2, .int (nI (i)))]) hx hb dX4_apart_39 rfl hl (by decide) rfl (fun ls hl => ?_)
          refine lv_iinc (v := nI (i + 1)) (lv' := [(2, .int (nI (i + 1))), (1, .int (nI (y + 0))), (0, .ref m0)]) hx hb dX4_apart_40 hl (k := 2) rfl (nI_1 _) (by decide) rfl (fun ls hl => ?_)
          refine lv_goto (tgt := 9) hx hb dX4_apart_43 (by decide) ?_
          exact ih (i + 1) (y + 0) (by omega) (by simp only [apt]; rw [if_pos c2, hy]; rfl) _ _ hP hD hS ls (lv_sub hl [2, 1, 0] rfl)
  exact lp n 0 0 (by omega) rfl _ _ hP hD hS ls (lv_sub hl [2, 1, 0] rfl)

set_option maxHeartbeats 4000000 in
set_option maxRecDepth 100000 in
theorem c_X4_clear (l : Launch) (dC : Nat → ClassId) (dI : Nat → Nat → Nat) (sz : Nat) (m0 aJ aS aT aW aR aP aH aK aE aY aN aQ aB aI aD n q rk : Nat) (th : Int32) (kn : Bool) (cI cZ : ClassId) (st : Nat → Nat) (wt : Nat → Nat) (hn : n < 31) : Met l yX4_clear wsX4_clear ({ frames := 0, cells := 0, slots := 0, locals := 0 }) (va_Pc [.ref m0] (fun U => U.heap.size = sz ∧ va_P (dC, dI) vwCl [(m0, .inr (5, [.int (th), .int (nI (n)), .int (nI (q)), .ref aJ, .ref aS, .ref aT, .ref aW, .int (bI kn), .int (nI (rk)), .ref aR, .ref aP, .ref aH, .ref aK, .ref aE, .ref aY, .ref aN, .ref aQ, .ref aB, .ref aI, .ref aD])), (aT, .inl (cI, 30, .inl (fun j => nI (st j)))), (aW, .inl (cI, 30, .inl (fun j => nI (wt j))))] U.heap ∧ va_K (dC, dI) vwCl [(cI, .int), (cZ, .boolean)] U ∧ va_D (fun _ => True) [(m0, .inr (5, [.int (th), .int (nI (n)), .int (nI (q)), .ref aJ, .ref aS, .ref aT, .ref aW, .int (bI kn), .int (nI (rk)), .ref aR, .ref aP, .ref aH, .ref aK, .ref aE, .ref aY, .ref aN, .ref aQ, .ref aB, .ref aI, .ref aD])), (aT, .inl (cI, 30, .inl (fun j => nI (st j)))), (aW, .inl (cI, 30, .inl (fun j => nI (wt j))))])) (va_Qv (fun u : (Nat → Nat) × (Nat → Nat) => (∀ k, k < n → u.1 k = 0) ∧ ∀ k, k < n → u.2 k = 0) (fun u t => va_P (dC, dI) vwCl [(m0, .inr (5, [.int (bI false), .int (nI (n)), .int (nI (q)), .ref aJ, .ref aS, .ref aT, .ref aW, .int (bI kn), .int (nI (rk)), .ref aR, .ref aP, .ref aH, .ref aK, .ref aE, .ref aY, .ref aN, .ref aQ, .ref aB, .ref aI, .ref aD])), (aT, .inl (cI, 30, .inl (fun j => nI (u.1 j)))), (aW, .inl (cI, 30, .inl (fun j => nI (u.2 j))))] t.heap ∧ va_K (dC, dI) vwCl [(cI, .int), (cZ, .boolean)] t ∧ va_D (va_A [(m0, .inr (5, [.int (th), .int (nI (n)), .int (nI (q)), .ref aJ, .ref aS, .ref aT, .ref aW, .int (bI kn), .int (nI (rk)), .ref aR, .ref aP, .ref aH, .ref aK, .ref aE, .ref aY, .ref aN, .ref aQ, .ref aB, .ref aI, .ref aD])), (aT, .inl (cI, 30, .inl (fun j => nI (st j)))), (aW, .inl (cI, 30, .inl (fun j => nI (wt j))))] sz) [(m0, .inr (5, [.int (bI false), .int (nI (n)), .int (nI (q)), .ref aJ, .ref aS, .ref aT, .ref aW, .int (bI kn), .int (nI (rk)), .ref aR, .ref aP, .ref aH, .ref aK, .ref aE, .ref aY, .ref aN, .ref aQ, .ref aB, .ref aI, .ref aD])), (aT, .inl (cI, 30, .inl (fun j => nI (u.1 j)))), (aW, .inl (cI, 30, .inl (fun j => nI (u.2 j))))]) (va_A [(m0, .inr (5, [.int (th), .int (nI (n)), .int (nI (q)), .ref aJ, .ref aS, .ref aT, .ref aW, .int (bI kn), .int (nI (rk)), .ref aR, .ref aP, .ref aH, .ref aK, .ref aE, .ref aY, .ref aN, .ref aQ, .ref aB, .ref aI, .ref aD])), (aT, .inl (cI, 30, .inl (fun j => nI (st j)))), (aW, .inl (cI, 30, .inl (fun j => nI (wt j))))] sz)) 0 0 (va_A [(m0, .inr (5, [.int (th), .int (nI (n)), .int (nI (q)), .ref aJ, .ref aS, .ref aT, .ref aW, .int (bI kn), .int (nI (rk)), .ref aR, .ref aP, .ref aH, .ref aK, .ref aE, .ref aY, .ref aN, .ref aQ, .ref aB, .ref aI, .ref aD])), (aT, .inl (cI, 30, .inl (fun j => nI (st j)))), (aW, .inl (cI, 30, .inl (fun j => nI (wt j))))] sz) := by
  refine Met.ofW (cc := cX4_clear) (maxL := 2) (ret := none) (by decide) rfl ?_
  intro zp ze s m args below meth zc s₁ B hml hv
  obtain ⟨hargs, hsz, hP, hK, hD0⟩ := hv
  have hx := B.exec
  have hb := B.bytes
  have hr := B.returns
  have hts := atoms_spec (ws := wsX4_clear) B.pre
  have hown : s.vm.findClass RX4 = some m.cls := findClass_of_methodNamed B.named
  have hlocks := B.notSynchronized
  subst hsz
  obtain ⟨Q, hQ⟩ : ∃ Q, Q = MQ below (va_Qv (fun u : (Nat → Nat) × (Nat → Nat) => (∀ k, k < n → u.1 k = 0) ∧ ∀ k, k < n → u.2 k = 0) (fun u t => va_P (dC, dI) vwCl [(m0, .inr (5, [.int (bI false), .int (nI (n)), .int (nI (q)), .ref aJ, .ref aS, .ref aT, .ref aW, .int (bI kn), .int (nI (rk)), .ref aR, .ref aP, .ref aH, .ref aK, .ref aE, .ref aY, .ref aN, .ref aQ, .ref aB, .ref aI, .ref aD])), (aT, .inl (cI, 30, .inl (fun j => nI (u.1 j)))), (aW, .inl (cI, 30, .inl (fun j => nI (u.2 j))))] t.heap ∧ va_K (dC, dI) vwCl [(cI, .int), (cZ, .boolean)] t ∧ va_D (va_A [(m0, .inr (5, [.int (th), .int (nI (n)), .int (nI (q)), .ref aJ, .ref aS, .ref aT, .ref aW, .int (bI kn), .int (nI (rk)), .ref aR, .ref aP, .ref aH, .ref aK, .ref aE, .ref aY, .ref aN, .ref aQ, .ref aB, .ref aI, .ref aD])), (aT, .inl (cI, 30, .inl (fun j => nI (st j)))), (aW, .inl (cI, 30, .inl (fun j => nI (wt j))))] s.heap.size) [(m0, .inr (5, [.int (bI false), .int (nI (n)), .int (nI (q)), .ref aJ, .ref aS, .ref aT, .ref aW, .int (bI kn), .int (nI (rk)), .ref aR, .ref aP, .ref aH, .ref aK, .ref aE, .ref aY, .ref aN, .ref aQ, .ref aB, .ref aI, .ref aD])), (aT, .inl (cI, 30, .inl (fun j => nI (u.1 j)))), (aW, .inl (cI, 30, .inl (fun j => nI (u.2 j))))]) (va_A [(m0, .inr (5, [.int (th), .int (nI (n)), .int (nI (q)), .ref aJ, .ref aS, .ref aT, .ref aW, .int (bI kn), .int (nI (rk)), .ref aR, .ref aP, .ref aH, .ref aK, .ref aE, .ref aY, .ref aN, .ref aQ, .ref aB, .ref aI, .ref aD])), (aT, .inl (cI, 30, .inl (fun j => nI (st j)))), (aW, .inl (cI, 30, .inl (fun j => nI (wt j))))] s.heap.size)) args s 0 0 (va_A [(m0, .inr (5, [.int (th), .int (nI (n)), .int (nI (q)), .ref aJ, .ref aS, .ref aT, .ref aW, .int (bI kn), .int (nI (rk)), .ref aR, .ref aP, .ref aH, .ref aK, .ref aE, .ref aY, .ref aN, .ref aQ, .ref aB, .ref aI, .ref aD])), (aT, .inl (cI, 30, .inl (fun j => nI (st j)))), (aW, .inl (cI, 30, .inl (fun j => nI (wt j))))] s.heap.size) := ⟨_, rfl⟩
  rw [← hQ]
  have hD := hD0.self (sz := s.heap.size)
  generalize hAe : (va_A [(m0, .inr (5, [.int (th), .int (nI (n)), .int (nI (q)), .ref aJ, .ref aS, .ref aT, .ref aW, .int (bI kn), .int (nI (rk)), .ref aR, .ref aP, .ref aH, .ref aK, .ref aE, .ref aY, .ref aN, .ref aQ, .ref aB, .ref aI, .ref aD])), (aT, .inl (cI, 30, .inl (fun j => nI (st j)))), (aW, .inl (cI, 30, .inl (fun j => nI (wt j))))] s.heap.size) = A at hD hQ
  have hA : ∀ q : Nat, s.heap.size ≤ q → A q := fun q h => by rw [← hAe]; exact Or.inr h
  have hS : va_S A s.heap s.heap [] := va_S.rf
  have hl := lv_entry ([.ref m0]) (n := 2) (Nat.le_of_ble_eq_true rfl)
  generalize hen : entryFrame m args 2 = fr
  rw [hargs, lg_entry_eq] at hen
  subst hen
  generalize (lg_sl ([.ref m0]) ++ List.replicate (2 - (lg_sl ([.ref m0])).length) Slot.unset).toArray = ls at hl ⊢
  have hl : lv_has ls 2 [(0, .ref m0)] := hl
  have hinX4 : ∀ w ∈ wsX40, w ∈ wsX4_clear := by decide +kernel
  have hf16 := hts (.fieldLink RX4 16 "LightRowsModel" "states" "[I") (by decide +kernel)
  have hf20 := hts (.fieldLink RX4 20 "LightRowsModel" "wanted" "[I") (by decide +kernel)
  have hf56 := hts (.fieldLink RX4 56 "LightRowsModel" "lamps" "I") (by decide +kernel)
  have hf63 := hts (.fieldLink RX4 63 "LightRowsModel" "thrown" "I") (by decide +kernel)
  refine lv_aload_n hx hb dX4_clear_0 rfl (lv_at hl 0 rfl) ?_
  refine lv_iconst (v := nI 0) hx hb dX4_clear_1 (by decide) ?_
  refine va_put (D := (dC, dI)) (ci := 5) (v := .int (nI (0))) (ty := .int) (C := RX4) (T := TX4) (N := 20) hx hb hts hinX4 tyX4 tyX4_ok nmX4 hown hK hP hD hS 0 rfl rfl 0 (by decide) hf63 (fun _ h9 => h9) rfl (by decide +kernel) rfl rfl (Nat.le_of_ble_eq_true rfl) dX4_clear_2 (fun H locs hP hD hS => ?_)
  have hP : va_P (dC, dI) vwCl [(m0, .inr (5, [.int (nI (0)), .int (nI (n)), .int (nI (q)), .ref aJ, .ref aS, .ref aT, .ref aW, .int (bI kn), .int (nI (rk)), .ref aR, .ref aP, .ref aH, .ref aK, .ref aE, .ref aY, .ref aN, .ref aQ, .ref aB, .ref aI, .ref aD])), (aT, .inl (cI, 30, .inl (fun j => nI (st j)))), (aW, .inl (cI, 30, .inl (fun j => nI (wt j))))] H := hP
  have hD : va_D A [(m0, .inr (5, [.int (nI (0)), .int (nI (n)), .int (nI (q)), .ref aJ, .ref aS, .ref aT, .ref aW, .int (bI kn), .int (nI (rk)), .ref aR, .ref aP, .ref aH, .ref aK, .ref aE, .ref aY, .ref aN, .ref aQ, .ref aB, .ref aI, .ref aD])), (aT, .inl (cI, 30, .inl (fun j => nI (st j)))), (aW, .inl (cI, 30, .inl (fun j => nI (wt j))))] := hD
  refine lv_iconst (v := nI 0) hx hb dX4_clear_5 (by decide) ?_
  refine lv_istore_n (lv' := [(1, .int (nI (0))), (0, .ref m0)]) hx hb dX4_clear_6 rfl hl (by decide) rfl (fun ls hl => ?_)
  have lp : ∀ (k : Nat) (i : Nat) (F : Nat → Nat) (G : Nat → Nat), (i + k = n) → (∀ k, k < i → F k = 0) → (∀ k, k < i → G k = 0) → ∀ (H : Heap) (locs : List Loc), va_P (dC, dI) vwCl [(m0, .inr (5, [.int (bI false), .int (nI (n)), .int (nI (q)), .ref aJ, .ref aS, .ref aT, .ref aW, .int (bI kn), .int (nI (rk)), .ref aR, .ref aP, .ref aH, .ref aK, .ref aE, .ref aY, .ref aN, .ref aQ, .ref aB, .ref aI, .ref aD])), (aT, .inl (cI, 30, .inl (fun j => nI (F j)))), (aW, .inl (cI, 30, .inl (fun j => nI (G j))))] H → va_D A [(m0, .inr (5, [.int (bI false), .int (nI (n)), .int (nI (q)), .ref aJ, .ref aS, .ref aT, .ref aW, .int (bI kn), .int (nI (rk)), .ref aR, .ref aP, .ref aH, .ref aK, .ref aE, .ref aY, .ref aN, .ref aQ, .ref aB, .ref aI, .ref aD])), (aT, .inl (cI, 30, .inl (fun j => nI (F j)))), (aW, .inl (cI, 30, .inl (fun j => nI (G j))))] → va_S A s.heap H locs → ∀ (ls : Array Slot), lv_has ls 2 [(0, .ref m0), (1, .int (nI (i)))] → W zp l ze (headSpec wsX4_clear ({ frames := 0, cells := 0, slots := 0, locals := 0 })).room s m args below meth zc H locs 0 0 Q (F0 m 7 ls []) := by
    intro k
    induction k with
    | zero =>
      intro i F G hi h1 h2 H locs hP hD hS ls hl
      refine lv_iload_n hx hb dX4_clear_7 rfl (lv_at hl 1 rfl) ?_
      refine lv_aload_n hx hb dX4_clear_8 rfl (lv_at hl 0 rfl) ?_
      refine va_get (D := (dC, dI)) (ci := 5) (v := .int (nI (n))) (C := RX4) (T := TX4) (N := 20) hx hb hts hinX4 hown hK hP 0 rfl rfl 1 (by decide) hf56 (fun _ h9 => h9) rfl dX4_clear_9 ?_
      refine lv_icmp_ge (tgt := 35) hx hb dX4_clear_12 (by decide) (fun c => ?_) (fun c => ?_)
      · skip
        have c : n ≤ i := (nI_leI (a := n) (b := i) (by omega) (by omega)).mp c
        obtain rfl : n = i := by omega
        rw [hQ]
        exact W.vret hx hb hr (fun t ht hW => ⟨⟨(F, G), rfl, ⟨h1, h2⟩, by rw [ht]; exact hP, va_K.moved hW.alike hK, hD⟩, hS.F ht⟩) hS.2.2 dX4_clear_35
      · skip
        have c : i < n := Nat.not_le.mp (fun h => c ((nI_leI (a := n) (b := i) (by omega) (by omega)).mpr h))
        exact absurd c (by omega)
    | succ k ih =>
      intro i F G hi h1 h2 H locs hP hD hS ls hl
      refine lv_iload_n hx hb dX4_clear_7 rfl (lv_at hl 1 rfl) ?_
      refine lv_aload_n hx hb dX4_clear_8 rfl (lv_at hl 0 rfl) ?_
      refine va_get (D := (dC, dI)) (ci := 5) (v := .int (nI (n))) (C := RX4) (T := TX4) (N := 20) hx hb hts hinX4 hown hK hP 0 rfl rfl 1 (by decide) hf56 (fun _ h9 => h9) rfl dX4_clear_9 ?_
      refine lv_icmp_ge (tgt := 35) hx hb dX4_clear_12 (by decide) (fun c => ?_) (fun c => ?_)
      · skip
        have c : n ≤ i := (nI_leI (a := n) (b := i) (by omega) (by omega)).mp c
        exact absurd c (by omega)
      · skip
        have c : i < n := Nat.not_le.mp (fun h => c ((nI_leI (a := n) (b := i) (by omega) (by omega)).mpr h))
        refine lv_aload_n hx hb dX4_clear_15 rfl (lv_at hl 0 rfl) ?_
        refine va_get (D := (dC, dI)) (ci := 5) (v := .ref aT) (C := RX4) (T := TX4) (N := 20) hx hb hts hinX4 hown hK hP 0 rfl rfl 5 (by decide) hf16 (fun _ h9 => h9) rfl dX4_clear_16 ?_
        refine lv_iload_n hx hb dX4_clear_19 rfl (lv_at hl 1 rfl) ?_
        refine lv_iconst (v := nI 0) hx hb dX4_clear_20 (by decide) ?_
        refine ra_st (g := nI) (F := F) (v := 0) hx hb hK hP hD hS 1 0 rfl rfl (by omega) (by omega) dX4_clear_21 (fun H locs hP hD hS => ?_)
        have hP : va_P (dC, dI) vwCl [(m0, .inr (5, [.int (bI false), .int (nI (n)), .int (nI (q)), .ref aJ, .ref aS, .ref aT, .ref aW, .int (bI kn), .int (nI (rk)), .ref aR, .ref aP, .ref aH, .ref aK, .ref aE, .ref aY, .ref aN, .ref aQ, .ref aB, .ref aI, .ref aD])), (aT, .inl (cI, 30, .inl (fun j => nI ((va_up F i (0)) j)))), (aW, .inl (cI, 30, .inl (fun j => nI (G j))))] H := hP
        have hD : va_D A [(m0, .inr (5, [.int (bI false), .int (nI (n)), .int (nI (q)), .ref aJ, .ref aS, .ref aT, .ref aW, .int (bI kn), .int (nI (rk)), .ref aR, .ref aP, .ref aH, .ref aK, .ref aE, .ref aY, .ref aN, .ref aQ, .ref aB, .ref aI, .ref aD])), (aT, .inl (cI, 30, .inl (fun j => nI ((va_up F i (0)) j)))), (aW, .inl (cI, 30, .inl (fun j => nI (G j))))] := hD
        refine lv_aload_n hx hb dX4_clear_22 rfl (lv_at hl 0 rfl) ?_
        refine va_get (D := (dC, dI)) (ci := 5) (v := .ref aW) (C := RX4) (T := TX4) (N := 20) hx hb hts hinX4 hown hK hP 0 rfl rfl 6 (by decide) hf20 (fun _ h9 => h9) rfl dX4_clear_23 ?_
        refine lv_iload_n hx hb dX4_clear_26 rfl (lv_at hl 1 rfl) ?_
        refine lv_iconst (v := nI 0) hx hb dX4_clear_27 (by decide) ?_
        refine ra_st (g := nI) (F := G) (v := 0) hx hb hK hP hD hS 2 0 rfl rfl (by omega) (by omega) dX4_clear_28 (fun H locs hP hD hS => ?_)
        have hP : va_P (dC, dI) vwCl [(m0, .inr (5, [.int (bI false), .int (nI (n)), .int (nI (q)), .ref aJ, .ref aS, .ref aT, .ref aW, .int (bI kn), .int (nI (rk)), .ref aR, .ref aP, .ref aH, .ref aK, .ref aE, .ref aY, .ref aN, .ref aQ, .ref aB, .ref aI, .ref aD])), (aT, .inl (cI, 30, .inl (fun j => nI ((va_up F i (0)) j)))), (aW, .inl (cI, 30, .inl (fun j => nI ((va_up G i (0)) j))))] H := hP
        have hD : va_D A [(m0, .inr (5, [.int (bI false), .int (nI (n)), .int (nI (q)), .ref aJ, .ref aS, .ref aT, .ref aW, .int (bI kn), .int (nI (rk)), .ref aR, .ref aP, .ref aH, .ref aK, .ref aE, .ref aY, .ref aN, .ref aQ, .ref aB, .ref aI, .ref aD])), (aT, .inl (cI, 30, .inl (fun j => nI ((va_up F i (0)) j)))), (aW, .inl (cI, 30, .inl (fun j => nI ((va_up G i (0)) j))))] := hD
        refine lv_iinc (v := nI (i + 1)) (lv' := [(1, .int (nI (i + 1))), (0, .ref m0)]) hx hb dX4_clear_29 hl (k := 1) rfl (nI_1 _) (by decide) rfl (fun ls hl => ?_)
        refine lv_goto (tgt := 7) hx hb dX4_clear_32 (by decide) ?_
        exact ih (i + 1) (va_up F i 0) (va_up G i 0) (by omega) (fun k hk => by
              by_cases e : k = i
              · rw [e, up_at]
              · rw [up_of _ _ e]; exact h1 k (by omega)) (fun k hk => by
              by_cases e : k = i
              · rw [e, up_at]
              · rw [up_of _ _ e]; exact h2 k (by omega)) _ _ hP hD hS ls (lv_sub hl [1, 0] rfl)
  exact lp n 0 st wt (by omega) (fun k h => absurd h (by omega)) (fun k h => absurd h (by omega)) _ _ hP hD hS ls (lv_sub hl [1, 0] rfl)

set_option maxHeartbeats 4000000 in
set_option maxRecDepth 100000 in
theorem c_X4_press (l : Launch) (dC : Nat → ClassId) (dI : Nat → Nat → Nat) (sz : Nat) (m0 aJ aS aT aW aR aP aH aK aE aY aN aQ aB aI aD n q rk : Nat) (th : Int32) (kn : Bool) (cI cZ : ClassId) (jn : Nat → Bool) (ns : Nat → Bool) (st : Nat → Nat) (x v : Int32) (hn : n < 31) (hq0 : 2 ≤ q) (hq : q < 100) (hs0 : ∀ k, k < n → st k < q) : Met l yX4_press wsX4_press ({ frames := 1, cells := 0, slots := 0, locals := 22 }) (va_Pc [.ref m0, .int (x), .int (v)] (fun U => U.heap.size = sz ∧ va_P (dC, dI) vwCl [(m0, .inr (5, [.int (th), .int (nI (n)), .int (nI (q)), .ref aJ, .ref aS, .ref aT, .ref aW, .int (bI kn), .int (nI (rk)), .ref aR, .ref aP, .ref aH, .ref aK, .ref aE, .ref aY, .ref aN, .ref aQ, .ref aB, .ref aI, .ref aD])), (aJ, .inl (cZ, 900, .inl (fun j => bI (jn j)))), (aS, .inl (cZ, 30, .inl (fun j => bI (ns j)))), (aT, .inl (cI, 30, .inl (fun j => nI (st j))))] U.heap ∧ va_K (dC, dI) vwCl [(cI, .int), (cZ, .boolean)] U ∧ va_D (fun _ => True) [(m0, .inr (5, [.int (th), .int (nI (n)), .int (nI (q)), .ref aJ, .ref aS, .ref aT, .ref aW, .int (bI kn), .int (nI (rk)), .ref aR, .ref aP, .ref aH, .ref aK, .ref aE, .ref aY, .ref aN, .ref aQ, .ref aB, .ref aI, .ref aD])), (aJ, .inl (cZ, 900, .inl (fun j => bI (jn j)))), (aS, .inl (cZ, 30, .inl (fun j => bI (ns j)))), (aT, .inl (cI, 30, .inl (fun j => nI (st j))))])) (va_Qi (fun (z : Int32) (u : Bool × (Nat → Nat)) => (inb n x = false ∧ u = (true, st) ∧ z = nI 0) ∨ ∃ j : Nat, j < n ∧ x = nI j ∧ u.1 = false ∧ (((∀ k : Nat, k ≤ 1000 → v ≠ nI k) ∧ z = nI 0 ∧ u.2 = st) ∨ ∃ k : Nat, k ≤ 1000 ∧ v = nI k ∧ z = nI 1 ∧ ∀ i, i < n → u.2 i = (st i + k * eff jn ns j i) % q)) (fun u t => va_P (dC, dI) vwCl [(m0, .inr (5, [.int (bI u.1), .int (nI (n)), .int (nI (q)), .ref aJ, .ref aS, .ref aT, .ref aW, .int (bI kn), .int (nI (rk)), .ref aR, .ref aP, .ref aH, .ref aK, .ref aE, .ref aY, .ref aN, .ref aQ, .ref aB, .ref aI, .ref aD])), (aJ, .inl (cZ, 900, .inl (fun j => bI (jn j)))), (aS, .inl (cZ, 30, .inl (fun j => bI (ns j)))), (aT, .inl (cI, 30, .inl (fun j => nI (u.2 j))))] t.heap ∧ va_K (dC, dI) vwCl [(cI, .int), (cZ, .boolean)] t ∧ va_D (va_A [(m0, .inr (5, [.int (th), .int (nI (n)), .int (nI (q)), .ref aJ, .ref aS, .ref aT, .ref aW, .int (bI kn), .int (nI (rk)), .ref aR, .ref aP, .ref aH, .ref aK, .ref aE, .ref aY, .ref aN, .ref aQ, .ref aB, .ref aI, .ref aD])), (aJ, .inl (cZ, 900, .inl (fun j => bI (jn j)))), (aS, .inl (cZ, 30, .inl (fun j => bI (ns j)))), (aT, .inl (cI, 30, .inl (fun j => nI (st j))))] sz) [(m0, .inr (5, [.int (bI u.1), .int (nI (n)), .int (nI (q)), .ref aJ, .ref aS, .ref aT, .ref aW, .int (bI kn), .int (nI (rk)), .ref aR, .ref aP, .ref aH, .ref aK, .ref aE, .ref aY, .ref aN, .ref aQ, .ref aB, .ref aI, .ref aD])), (aJ, .inl (cZ, 900, .inl (fun j => bI (jn j)))), (aS, .inl (cZ, 30, .inl (fun j => bI (ns j)))), (aT, .inl (cI, 30, .inl (fun j => nI (u.2 j))))]) (va_A [(m0, .inr (5, [.int (th), .int (nI (n)), .int (nI (q)), .ref aJ, .ref aS, .ref aT, .ref aW, .int (bI kn), .int (nI (rk)), .ref aR, .ref aP, .ref aH, .ref aK, .ref aE, .ref aY, .ref aN, .ref aQ, .ref aB, .ref aI, .ref aD])), (aJ, .inl (cZ, 900, .inl (fun j => bI (jn j)))), (aS, .inl (cZ, 30, .inl (fun j => bI (ns j)))), (aT, .inl (cI, 30, .inl (fun j => nI (st j))))] sz)) 0 0 (va_A [(m0, .inr (5, [.int (th), .int (nI (n)), .int (nI (q)), .ref aJ, .ref aS, .ref aT, .ref aW, .int (bI kn), .int (nI (rk)), .ref aR, .ref aP, .ref aH, .ref aK, .ref aE, .ref aY, .ref aN, .ref aQ, .ref aB, .ref aI, .ref aD])), (aJ, .inl (cZ, 900, .inl (fun j => bI (jn j)))), (aS, .inl (cZ, 30, .inl (fun j => bI (ns j)))), (aT, .inl (cI, 30, .inl (fun j => nI (st j))))] sz) := by
  refine Met.ofW (cc := cX4_press) (maxL := 4) (ret := (some .boolean)) (by decide) rfl ?_
  intro zp ze s m args below meth zc s₁ B hml hv
  obtain ⟨hargs, hsz, hP, hK, hD0⟩ := hv
  have hx := B.exec
  have hb := B.bytes
  have hr := B.returns
  have hts := atoms_spec (ws := wsX4_press) B.pre
  have hown : s.vm.findClass RX4 = some m.cls := findClass_of_methodNamed B.named
  have hlocks := B.notSynchronized
  subst hsz
  obtain ⟨Q, hQ⟩ : ∃ Q, Q = MQ below (va_Qi (fun (z : Int32) (u : Bool × (Nat → Nat)) => (inb n x = false ∧ u = (true, st) ∧ z = nI 0) ∨ ∃ j : Nat, j < n ∧ x = nI j ∧ u.1 = false ∧ (((∀ k : Nat, k ≤ 1000 → v ≠ nI k) ∧ z = nI 0 ∧ u.2 = st) ∨ ∃ k : Nat, k ≤ 1000 ∧ v = nI k ∧ z = nI 1 ∧ ∀ i, i < n → u.2 i = (st i + k * eff jn ns j i) % q)) (fun u t => va_P (dC, dI) vwCl [(m0, .inr (5, [.int (bI u.1), .int (nI (n)), .int (nI (q)), .ref aJ, .ref aS, .ref aT, .ref aW, .int (bI kn), .int (nI (rk)), .ref aR, .ref aP, .ref aH, .ref aK, .ref aE, .ref aY, .ref aN, .ref aQ, .ref aB, .ref aI, .ref aD])), (aJ, .inl (cZ, 900, .inl (fun j => bI (jn j)))), (aS, .inl (cZ, 30, .inl (fun j => bI (ns j)))), (aT, .inl (cI, 30, .inl (fun j => nI (u.2 j))))] t.heap ∧ va_K (dC, dI) vwCl [(cI, .int), (cZ, .boolean)] t ∧ va_D (va_A [(m0, .inr (5, [.int (th), .int (nI (n)), .int (nI (q)), .ref aJ, .ref aS, .ref aT, .ref aW, .int (bI kn), .int (nI (rk)), .ref aR, .ref aP, .ref aH, .ref aK, .ref aE, .ref aY, .ref aN, .ref aQ, .ref aB, .ref aI, .ref aD])), (aJ, .inl (cZ, 900, .inl (fun j => bI (jn j)))), (aS, .inl (cZ, 30, .inl (fun j => bI (ns j)))), (aT, .inl (cI, 30, .inl (fun j => nI (st j))))] s.heap.size) [(m0, .inr (5, [.int (bI u.1), .int (nI (n)), .int (nI (q)), .ref aJ, .ref aS, .ref aT, .ref aW, .int (bI kn), .int (nI (rk)), .ref aR, .ref aP, .ref aH, .ref aK, .ref aE, .ref aY, .ref aN, .ref aQ, .ref aB, .ref aI, .ref aD])), (aJ, .inl (cZ, 900, .inl (fun j => bI (jn j)))), (aS, .inl (cZ, 30, .inl (fun j => bI (ns j)))), (aT, .inl (cI, 30, .inl (fun j => nI (u.2 j))))]) (va_A [(m0, .inr (5, [.int (th), .int (nI (n)), .int (nI (q)), .ref aJ, .ref aS, .ref aT, .ref aW, .int (bI kn), .int (nI (rk)), .ref aR, .ref aP, .ref aH, .ref aK, .ref aE, .ref aY, .ref aN, .ref aQ, .ref aB, .ref aI, .ref aD])), (aJ, .inl (cZ, 900, .inl (fun j => bI (jn j)))), (aS, .inl (cZ, 30, .inl (fun j => bI (ns j)))), (aT, .inl (cI, 30, .inl (fun j => nI (st j))))] s.heap.size)) args s 0 0 (va_A [(m0, .inr (5, [.int (th), .int (nI (n)), .int (nI (q)), .ref aJ, .ref aS, .ref aT, .ref aW, .int (bI kn), .int (nI (rk)), .ref aR, .ref aP, .ref aH, .ref aK, .ref aE, .ref aY, .ref aN, .ref aQ, .ref aB, .ref aI, .ref aD])), (aJ, .inl (cZ, 900, .inl (fun j => bI (jn j)))), (aS, .inl (cZ, 30, .inl (fun j => bI (ns j)))), (aT, .inl (cI, 30, .inl (fun j => nI (st j))))] s.heap.size) := ⟨_, rfl⟩
  rw [← hQ]
  have hD := hD0.self (sz := s.heap.size)
  generalize hAe : (va_A [(m0, .inr (5, [.int (th), .int (nI (n)), .int (nI (q)), .ref aJ, .ref aS, .ref aT, .ref aW, .int (bI kn), .int (nI (rk)), .ref aR, .ref aP, .ref aH, .ref aK, .ref aE, .ref aY, .ref aN, .ref aQ, .ref aB, .ref aI, .ref aD])), (aJ, .inl (cZ, 900, .inl (fun j => bI (jn j)))), (aS, .inl (cZ, 30, .inl (fun j => bI (ns j)))), (aT, .inl (cI, 30, .inl (fun j => nI (st j))))] s.heap.size) = A at hD hQ
  have hA : ∀ q : Nat, s.heap.size ≤ q → A q := fun q h => by rw [← hAe]; exact Or.inr h
  have hS : va_S A s.heap s.heap [] := va_S.rf
  have hl := lv_entry ([.ref m0, .int (x), .int (v)]) (n := 4) (Nat.le_of_ble_eq_true rfl)
  generalize hen : entryFrame m args 4 = fr
  rw [hargs, lg_entry_eq] at hen
  subst hen
  generalize (lg_sl ([.ref m0, .int (x), .int (v)]) ++ List.replicate (4 - (lg_sl ([.ref m0, .int (x), .int (v)])).length) Slot.unset).toArray = ls at hl ⊢
  have hl : lv_has ls 4 [(0, .ref m0), (1, .int (x)), (2, .int (v))] := hl
  have hinX4 : ∀ w ∈ wsX40, w ∈ wsX4_press := by decide +kernel
  have hf7 := hts (.fieldLink RX4 7 "LightRowsModel" "joined" "[Z") (by decide +kernel)
  have hf13 := hts (.fieldLink RX4 13 "LightRowsModel" "isNotSelf" "[Z") (by decide +kernel)
  have hf16 := hts (.fieldLink RX4 16 "LightRowsModel" "states" "[I") (by decide +kernel)
  have hf56 := hts (.fieldLink RX4 56 "LightRowsModel" "lamps" "I") (by decide +kernel)
  have hf60 := hts (.fieldLink RX4 60 "LightRowsModel" "p" "I") (by decide +kernel)
  have hf63 := hts (.fieldLink RX4 63 "LightRowsModel" "thrown" "I") (by decide +kernel)
  refine lv_aload_n hx hb dX4_press_0 rfl (lv_at hl 0 rfl) ?_
  refine lv_aload_n hx hb dX4_press_1 rfl (lv_at hl 0 rfl) ?_
  refine lv_iload_n hx hb dX4_press_2 rfl (lv_at hl 1 rfl) ?_
  have hPc := hP.sub (ws' := [(m0, .inr (5, [.int (th), .int (nI (n)), .int (nI (q)), .ref aJ, .ref aS, .ref aT, .ref aW, .int (bI kn), .int (nI (rk)), .ref aR, .ref aP, .ref aH, .ref aK, .ref aE, .ref aY, .ref aN, .ref aQ, .ref aB, .ref aI, .ref aD]))]) [0] rfl
  have hDc := hD.sub (ws' := [(m0, .inr (5, [.int (th), .int (nI (n)), .int (nI (q)), .ref aJ, .ref aS, .ref aT, .ref aW, .int (bI kn), .int (nI (rk)), .ref aR, .ref aP, .ref aH, .ref aK, .ref aE, .ref aY, .ref aN, .ref aQ, .ref aB, .ref aI, .ref aD]))]) [0] (by decide) rfl
  have hFc := va_free (wc := [(m0, .inr (5, [.int (th), .int (nI (n)), .int (nI (q)), .ref aJ, .ref aS, .ref aT, .ref aW, .int (bI kn), .int (nI (rk)), .ref aR, .ref aP, .ref aH, .ref aK, .ref aE, .ref aY, .ref aN, .ref aQ, .ref aB, .ref aI, .ref aD]))]) hD hS hA [0] rfl
  have hKc := hK.sub (tys' := [(cI, .int), (cZ, .boolean)]) [0, 1] rfl
  refine va_calli (va_runV (As := [.int (x)]) (rest := [.ref m0]) ⟨hx, hb, hml, hown, hts⟩ (c_X4_isLamp l dC dI s.heap.size m0 aJ aS aT aW aR aP aH aK aE aY aN aQ aB aI aD n q rk th kn cI cZ x hn) (cwV 1 hts gX4_press_X4_isLamp rfl rfl rfl (by decide +kernel) ⟨Nat.le_of_ble_eq_true rfl, Nat.le_of_ble_eq_true rfl⟩) ⟨fun a U g mk q => by obtain ⟨q0, q1, qP, qK, qD⟩ := q; exact ⟨q0, q1, qP, va_K.moved (u := U) (U := U.calling g mk a) (Vm.Alike.refl U.vm) qK, qD⟩, va_recv hKc hPc (ci := 5) (q0 := 0) rfl rfl, fun U hU hW => ⟨rfl, by rw [hU], by rw [hU]; exact hPc, va_K.moved hW.alike hKc, hDc.weaken (fun _ _ _ _ => trivial)⟩⟩ rfl rfl hl.1 rfl (lv_room (Nat.le_of_ble_eq_true rfl)) dX4_press_3 ⟨Nat.le_of_ble_eq_true rfl, Nat.le_of_ble_eq_true rfl⟩) hS (fun q _ h => hFc q h) hFc (fun r1 uu t H1 locs ht hvm hw hB hz1 hk1 hS => ?_)
  obtain ⟨hP1, hK1, hD1⟩ := hB
  rw [ht] at hP1
  try dsimp only at hw
  obtain ⟨hP, hD⟩ := va_join (wr := [(aJ, .inl (cZ, 900, .inl (fun j => bI (jn j)))), (aS, .inl (cZ, 30, .inl (fun j => bI (ns j)))), (aT, .inl (cI, 30, .inl (fun j => nI (st j))))]) (w1 := [(m0, .inr (5, [.int (th), .int (nI (n)), .int (nI (q)), .ref aJ, .ref aS, .ref aT, .ref aW, .int (bI kn), .int (nI (rk)), .ref aR, .ref aP, .ref aH, .ref aK, .ref aE, .ref aY, .ref aN, .ref aQ, .ref aB, .ref aI, .ref aD]))]) hP hD [0] [1, 2, 3] rfl rfl (by decide) (by decide) hk1 hFc hP1 hD1
  generalize H1 = H at hP hS ⊢
  have hP := hP.sub (ws' := [(m0, .inr (5, [.int (th), .int (nI (n)), .int (nI (q)), .ref aJ, .ref aS, .ref aT, .ref aW, .int (bI kn), .int (nI (rk)), .ref aR, .ref aP, .ref aH, .ref aK, .ref aE, .ref aY, .ref aN, .ref aQ, .ref aB, .ref aI, .ref aD])), (aJ, .inl (cZ, 900, .inl (fun j => bI (jn j)))), (aS, .inl (cZ, 30, .inl (fun j => bI (ns j)))), (aT, .inl (cI, 30, .inl (fun j => nI (st j))))]) [3, 0, 1, 2] rfl
  have hD := hD.sub (ws' := [(m0, .inr (5, [.int (th), .int (nI (n)), .int (nI (q)), .ref aJ, .ref aS, .ref aT, .ref aW, .int (bI kn), .int (nI (rk)), .ref aR, .ref aP, .ref aH, .ref aK, .ref aE, .ref aY, .ref aN, .ref aQ, .ref aB, .ref aI, .ref aD])), (aJ, .inl (cZ, 900, .inl (fun j => bI (jn j)))), (aS, .inl (cZ, 30, .inl (fun j => bI (ns j)))), (aT, .inl (cI, 30, .inl (fun j => nI (st j))))]) [3, 0, 1, 2] (by decide) rfl
  have hP : va_P (dC, dI) vwCl [(m0, .inr (5, [.int (th), .int (nI (n)), .int (nI (q)), .ref aJ, .ref aS, .ref aT, .ref aW, .int (bI kn), .int (nI (rk)), .ref aR, .ref aP, .ref aH, .ref aK, .ref aE, .ref aY, .ref aN, .ref aQ, .ref aB, .ref aI, .ref aD])), (aJ, .inl (cZ, 900, .inl (fun j => bI (jn j)))), (aS, .inl (cZ, 30, .inl (fun j => bI (ns j)))), (aT, .inl (cI, 30, .inl (fun j => nI (st j))))] H := hP
  have hD : va_D A [(m0, .inr (5, [.int (th), .int (nI (n)), .int (nI (q)), .ref aJ, .ref aS, .ref aT, .ref aW, .int (bI kn), .int (nI (rk)), .ref aR, .ref aP, .ref aH, .ref aK, .ref aE, .ref aY, .ref aN, .ref aQ, .ref aB, .ref aI, .ref aD])), (aJ, .inl (cZ, 900, .inl (fun j => bI (jn j)))), (aS, .inl (cZ, 30, .inl (fun j => bI (ns j)))), (aT, .inl (cI, 30, .inl (fun j => nI (st j))))] := hD
  subst hw
  rcases hib : inb n x with _ | _
  · skip
    refine tp_i (y := nI 0) rfl ?_
    refine lv_if_ne (tgt := 13) hx hb dX4_press_6 (by decide) (fun c => ?_) (fun c => ?_)
    · skip
      have c : 0 ≠ 0 := fun h => c ((nI_eq (a := 0) (b := 0) (by omega) (by omega)).mpr h)
      exact absurd rfl c
    · skip
      have c : 0 = 0 := (nI_eq (a := 0) (b := 0) (by omega) (by omega)).mp c
      refine lv_iconst (v := nI 1) hx hb dX4_press_9 (by decide) ?_
      refine lv_goto (tgt := 14) hx hb dX4_press_10 (by decide) ?_
      refine tp_i (y := bI true) rfl ?_
      have hPc := hP.sub (ws' := [(m0, .inr (5, [.int (th), .int (nI (n)), .int (nI (q)), .ref aJ, .ref aS, .ref aT, .ref aW, .int (bI kn), .int (nI (rk)), .ref aR, .ref aP, .ref aH, .ref aK, .ref aE, .ref aY, .ref aN, .ref aQ, .ref aB, .ref aI, .ref aD]))]) [0] rfl
      have hDc := hD.sub (ws' := [(m0, .inr (5, [.int (th), .int (nI (n)), .int (nI (q)), .ref aJ, .ref aS, .ref aT, .ref aW, .int (bI kn), .int (nI (rk)), .ref aR, .ref aP, .ref aH, .ref aK, .ref aE, .ref aY, .ref aN, .ref aQ, .ref aB, .ref aI, .ref aD]))]) [0] (by decide) rfl
      have hFc := va_free (wc := [(m0, .inr (5, [.int (th), .int (nI (n)), .int (nI (q)), .ref aJ, .ref aS, .ref aT, .ref aW, .int (bI kn), .int (nI (rk)), .ref aR, .ref aP, .ref aH, .ref aK, .ref aE, .ref aY, .ref aN, .ref aQ, .ref aB, .ref aI, .ref aD]))]) hD hS hA [0] rfl
      have hKc := hK.sub (tys' := [(cI, .int), (cZ, .boolean)]) [0, 1] rfl
      refine va_calli (va_runV (As := [.int (bI true)]) (rest := []) ⟨hx, hb, hml, hown, hts⟩ (c_X4_fails l dC dI H.size m0 aJ aS aT aW aR aP aH aK aE aY aN aQ aB aI aD n q rk th kn cI cZ true) (cwV 1 hts gX4_press_X4_fails rfl rfl rfl (by decide +kernel) ⟨Nat.le_of_ble_eq_true rfl, Nat.le_of_ble_eq_true rfl⟩) ⟨fun a U g mk q => by obtain ⟨q0, q1, qP, qK, qD⟩ := q; exact ⟨q0, q1, qP, va_K.moved (u := U) (U := U.calling g mk a) (Vm.Alike.refl U.vm) qK, qD⟩, va_recv hKc hPc (ci := 5) (q0 := 0) rfl rfl, fun U hU hW => ⟨rfl, by rw [hU], by rw [hU]; exact hPc, va_K.moved hW.alike hKc, hDc.weaken (fun _ _ _ _ => trivial)⟩⟩ rfl rfl hl.1 rfl (lv_room (Nat.le_of_ble_eq_true rfl)) dX4_press_14 ⟨Nat.le_of_ble_eq_true rfl, Nat.le_of_ble_eq_true rfl⟩) hS (fun q _ h => hFc q h) hFc (fun r2 uu t H1 locs ht hvm hw hB hz1 hk1 hS => ?_)
      obtain ⟨hP1, hK1, hD1⟩ := hB
      rw [ht] at hP1
      try dsimp only at hw
      obtain ⟨hP, hD⟩ := va_join (wr := [(aJ, .inl (cZ, 900, .inl (fun j => bI (jn j)))), (aS, .inl (cZ, 30, .inl (fun j => bI (ns j)))), (aT, .inl (cI, 30, .inl (fun j => nI (st j))))]) (w1 := [(m0, .inr (5, [.int (bI true), .int (nI (n)), .int (nI (q)), .ref aJ, .ref aS, .ref aT, .ref aW, .int (bI kn), .int (nI (rk)), .ref aR, .ref aP, .ref aH, .ref aK, .ref aE, .ref aY, .ref aN, .ref aQ, .ref aB, .ref aI, .ref aD]))]) hP hD [0] [1, 2, 3] rfl rfl (by decide) (by decide) hk1 hFc hP1 hD1
      generalize H1 = H at hP hS ⊢
      have hP := hP.sub (ws' := [(m0, .inr (5, [.int (bI true), .int (nI (n)), .int (nI (q)), .ref aJ, .ref aS, .ref aT, .ref aW, .int (bI kn), .int (nI (rk)), .ref aR, .ref aP, .ref aH, .ref aK, .ref aE, .ref aY, .ref aN, .ref aQ, .ref aB, .ref aI, .ref aD])), (aJ, .inl (cZ, 900, .inl (fun j => bI (jn j)))), (aS, .inl (cZ, 30, .inl (fun j => bI (ns j)))), (aT, .inl (cI, 30, .inl (fun j => nI (st j))))]) [3, 0, 1, 2] rfl
      have hD := hD.sub (ws' := [(m0, .inr (5, [.int (bI true), .int (nI (n)), .int (nI (q)), .ref aJ, .ref aS, .ref aT, .ref aW, .int (bI kn), .int (nI (rk)), .ref aR, .ref aP, .ref aH, .ref aK, .ref aE, .ref aY, .ref aN, .ref aQ, .ref aB, .ref aI, .ref aD])), (aJ, .inl (cZ, 900, .inl (fun j => bI (jn j)))), (aS, .inl (cZ, 30, .inl (fun j => bI (ns j)))), (aT, .inl (cI, 30, .inl (fun j => nI (st j))))]) [3, 0, 1, 2] (by decide) rfl
      have hP : va_P (dC, dI) vwCl [(m0, .inr (5, [.int (bI true), .int (nI (n)), .int (nI (q)), .ref aJ, .ref aS, .ref aT, .ref aW, .int (bI kn), .int (nI (rk)), .ref aR, .ref aP, .ref aH, .ref aK, .ref aE, .ref aY, .ref aN, .ref aQ, .ref aB, .ref aI, .ref aD])), (aJ, .inl (cZ, 900, .inl (fun j => bI (jn j)))), (aS, .inl (cZ, 30, .inl (fun j => bI (ns j)))), (aT, .inl (cI, 30, .inl (fun j => nI (st j))))] H := hP
      have hD : va_D A [(m0, .inr (5, [.int (bI true), .int (nI (n)), .int (nI (q)), .ref aJ, .ref aS, .ref aT, .ref aW, .int (bI kn), .int (nI (rk)), .ref aR, .ref aP, .ref aH, .ref aK, .ref aE, .ref aY, .ref aN, .ref aQ, .ref aB, .ref aI, .ref aD])), (aJ, .inl (cZ, 900, .inl (fun j => bI (jn j)))), (aS, .inl (cZ, 30, .inl (fun j => bI (ns j)))), (aT, .inl (cI, 30, .inl (fun j => nI (st j))))] := hD
      subst hw
      refine tp_i (y := nI 1) rfl ?_
      refine lv_if_ne (tgt := 31) hx hb dX4_press_17 (by decide) (fun c5 => ?_) (fun c5 => ?_)
      · skip
        have c5 : 1 ≠ 0 := fun h => c5 ((nI_eq (a := 1) (b := 0) (by omega) (by omega)).mpr h)
        refine lv_iconst (v := nI 0) hx hb dX4_press_31 (by decide) ?_
        rw [hQ]
        exact W.zret (v := nI (0)) (ty := .boolean) hx hb hr rfl (fun t ht hW => ⟨⟨_, (true, st), rfl, Or.inl ⟨hib, rfl, rfl⟩, by rw [ht]; exact hP, va_K.moved hW.alike hK, hD⟩, hS.F ht⟩) hS.2.2 dX4_press_32
      · skip
        have c5 : 1 = 0 := (nI_eq (a := 1) (b := 0) (by omega) (by omega)).mp c5
        exact absurd c5 (by decide)
  · skip
    refine tp_i (y := nI 1) rfl ?_
    obtain ⟨ja, hja, rfl⟩ := inb_ex (show n < 100 by omega) hib
    refine lv_if_ne (tgt := 13) hx hb dX4_press_6 (by decide) (fun c => ?_) (fun c => ?_)
    · skip
      have c : 1 ≠ 0 := fun h => c ((nI_eq (a := 1) (b := 0) (by omega) (by omega)).mpr h)
      refine lv_iconst (v := nI 0) hx hb dX4_press_13 (by decide) ?_
      refine tp_i (y := bI false) rfl ?_
      have hPc := hP.sub (ws' := [(m0, .inr (5, [.int (th), .int (nI (n)), .int (nI (q)), .ref aJ, .ref aS, .ref aT, .ref aW, .int (bI kn), .int (nI (rk)), .ref aR, .ref aP, .ref aH, .ref aK, .ref aE, .ref aY, .ref aN, .ref aQ, .ref aB, .ref aI, .ref aD]))]) [0] rfl
      have hDc := hD.sub (ws' := [(m0, .inr (5, [.int (th), .int (nI (n)), .int (nI (q)), .ref aJ, .ref aS, .ref aT, .ref aW, .int (bI kn), .int (nI (rk)), .ref aR, .ref aP, .ref aH, .ref aK, .ref aE, .ref aY, .ref aN, .ref aQ, .ref aB, .ref aI, .ref aD]))]) [0] (by decide) rfl
      have hFc := va_free (wc := [(m0, .inr (5, [.int (th), .int (nI (n)), .int (nI (q)), .ref aJ, .ref aS, .ref aT, .ref aW, .int (bI kn), .int (nI (rk)), .ref aR, .ref aP, .ref aH, .ref aK, .ref aE, .ref aY, .ref aN, .ref aQ, .ref aB, .ref aI, .ref aD]))]) hD hS hA [0] rfl
      have hKc := hK.sub (tys' := [(cI, .int), (cZ, .boolean)]) [0, 1] rfl
      refine va_calli (va_runV (As := [.int (bI false)]) (rest := []) ⟨hx, hb, hml, hown, hts⟩ (c_X4_fails l dC dI H.size m0 aJ aS aT aW aR aP aH aK aE aY aN aQ aB aI aD n q rk th kn cI cZ false) (cwV 1 hts gX4_press_X4_fails rfl rfl rfl (by decide +kernel) ⟨Nat.le_of_ble_eq_true rfl, Nat.le_of_ble_eq_true rfl⟩) ⟨fun a U g mk q => by obtain ⟨q0, q1, qP, qK, qD⟩ := q; exact ⟨q0, q1, qP, va_K.moved (u := U) (U := U.calling g mk a) (Vm.Alike.refl U.vm) qK, qD⟩, va_recv hKc hPc (ci := 5) (q0 := 0) rfl rfl, fun U hU hW => ⟨rfl, by rw [hU], by rw [hU]; exact hPc, va_K.moved hW.alike hKc, hDc.weaken (fun _ _ _ _ => trivial)⟩⟩ rfl rfl hl.1 rfl (lv_room (Nat.le_of_ble_eq_true rfl)) dX4_press_14 ⟨Nat.le_of_ble_eq_true rfl, Nat.le_of_ble_eq_true rfl⟩) hS (fun q _ h => hFc q h) hFc (fun r3 uu t H1 locs ht hvm hw hB hz1 hk1 hS => ?_)
      obtain ⟨hP1, hK1, hD1⟩ := hB
      rw [ht] at hP1
      try dsimp only at hw
      obtain ⟨hP, hD⟩ := va_join (wr := [(aJ, .inl (cZ, 900, .inl (fun j => bI (jn j)))), (aS, .inl (cZ, 30, .inl (fun j => bI (ns j)))), (aT, .inl (cI, 30, .inl (fun j => nI (st j))))]) (w1 := [(m0, .inr (5, [.int (bI false), .int (nI (n)), .int (nI (q)), .ref aJ, .ref aS, .ref aT, .ref aW, .int (bI kn), .int (nI (rk)), .ref aR, .ref aP, .ref aH, .ref aK, .ref aE, .ref aY, .ref aN, .ref aQ, .ref aB, .ref aI, .ref aD]))]) hP hD [0] [1, 2, 3] rfl rfl (by decide) (by decide) hk1 hFc hP1 hD1
      generalize H1 = H at hP hS ⊢
      have hP := hP.sub (ws' := [(m0, .inr (5, [.int (bI false), .int (nI (n)), .int (nI (q)), .ref aJ, .ref aS, .ref aT, .ref aW, .int (bI kn), .int (nI (rk)), .ref aR, .ref aP, .ref aH, .ref aK, .ref aE, .ref aY, .ref aN, .ref aQ, .ref aB, .ref aI, .ref aD])), (aJ, .inl (cZ, 900, .inl (fun j => bI (jn j)))), (aS, .inl (cZ, 30, .inl (fun j => bI (ns j)))), (aT, .inl (cI, 30, .inl (fun j => nI (st j))))]) [3, 0, 1, 2] rfl
      have hD := hD.sub (ws' := [(m0, .inr (5, [.int (bI false), .int (nI (n)), .int (nI (q)), .ref aJ, .ref aS, .ref aT, .ref aW, .int (bI kn), .int (nI (rk)), .ref aR, .ref aP, .ref aH, .ref aK, .ref aE, .ref aY, .ref aN, .ref aQ, .ref aB, .ref aI, .ref aD])), (aJ, .inl (cZ, 900, .inl (fun j => bI (jn j)))), (aS, .inl (cZ, 30, .inl (fun j => bI (ns j)))), (aT, .inl (cI, 30, .inl (fun j => nI (st j))))]) [3, 0, 1, 2] (by decide) rfl
      have hP : va_P (dC, dI) vwCl [(m0, .inr (5, [.int (bI false), .int (nI (n)), .int (nI (q)), .ref aJ, .ref aS, .ref aT, .ref aW, .int (bI kn), .int (nI (rk)), .ref aR, .ref aP, .ref aH, .ref aK, .ref aE, .ref aY, .ref aN, .ref aQ, .ref aB, .ref aI, .ref aD])), (aJ, .inl (cZ, 900, .inl (fun j => bI (jn j)))), (aS, .inl (cZ, 30, .inl (fun j => bI (ns j)))), (aT, .inl (cI, 30, .inl (fun j => nI (st j))))] H := hP
      have hD : va_D A [(m0, .inr (5, [.int (bI false), .int (nI (n)), .int (nI (q)), .ref aJ, .ref aS, .ref aT, .ref aW, .int (bI kn), .int (nI (rk)), .ref aR, .ref aP, .ref aH, .ref aK, .ref aE, .ref aY, .ref aN, .ref aQ, .ref aB, .ref aI, .ref aD])), (aJ, .inl (cZ, 900, .inl (fun j => bI (jn j)))), (aS, .inl (cZ, 30, .inl (fun j => bI (ns j)))), (aT, .inl (cI, 30, .inl (fun j => nI (st j))))] := hD
      subst hw
      refine tp_i (y := nI 0) rfl ?_
      refine lv_if_ne (tgt := 31) hx hb dX4_press_17 (by decide) (fun c5 => ?_) (fun c5 => ?_)
      · skip
        have c5 : 0 ≠ 0 := fun h => c5 ((nI_eq (a := 0) (b := 0) (by omega) (by omega)).mpr h)
        exact absurd rfl c5
      · skip
        have c5 : 0 = 0 := (nI_eq (a := 0) (b := 0) (by omega) (by omega)).mp c5
        refine lv_iload_n hx hb dX4_press_20 rfl (lv_at hl 2 rfl) ?_
        refine lv_if_lt (tgt := 31) hx hb dX4_press_21 (by decide) (fun c6 => ?_) (fun c6 => ?_)
        · skip
          refine lv_iconst (v := nI 0) hx hb dX4_press_31 (by decide) ?_
          rw [hQ]
          exact W.zret (v := nI (0)) (ty := .boolean) hx hb hr rfl (fun t ht hW => ⟨⟨_, (false, st), rfl, Or.inr ⟨ja, hja, rfl, rfl, Or.inl ⟨fun k hk e => nI_pos (by omega) (e ▸ c6), rfl, rfl⟩⟩, by rw [ht]; exact hP, va_K.moved hW.alike hK, hD⟩, hS.F ht⟩) hS.2.2 dX4_press_32
        · skip
          refine lv_iload_n hx hb dX4_press_24 rfl (lv_at hl 2 rfl) ?_
          refine lv_sipush (v := nI 1000) hx hb dX4_press_25 (by decide) ?_
          refine lv_icmp_le (tgt := 33) hx hb dX4_press_28 (by decide) (fun c7 => ?_) (fun c7 => ?_)
          · skip
            obtain ⟨k, hk, rfl⟩ : ∃ k : Nat, k ≤ 1000 ∧ v = nI k := nI_of2 (M := nI 1000) (by rw [nI_toInt (by omega)]) c6 c7
            refine lv_iconst (v := nI 0) hx hb dX4_press_33 (by decide) ?_
            refine lv_istore_n (lv' := [(3, .int (nI (0))), (0, .ref m0), (1, .int (nI (ja))), (2, .int (nI (k)))]) hx hb dX4_press_34 rfl hl (by decide) rfl (fun ls hl => ?_)
            have lp : ∀ (kk : Nat) (i : Nat) (F : Nat → Nat), (i + kk = n) → (∀ a, F a = if a < i then (fun i => (st i + k * eff jn ns ja i) % q) a else st a) → ∀ (H : Heap) (locs : List Loc), va_P (dC, dI) vwCl [(m0, .inr (5, [.int (bI false), .int (nI (n)), .int (nI (q)), .ref aJ, .ref aS, .ref aT, .ref aW, .int (bI kn), .int (nI (rk)), .ref aR, .ref aP, .ref aH, .ref aK, .ref aE, .ref aY, .ref aN, .ref aQ, .ref aB, .ref aI, .ref aD])), (aJ, .inl (cZ, 900, .inl (fun j => bI (jn j)))), (aS, .inl (cZ, 30, .inl (fun j => bI (ns j)))), (aT, .inl (cI, 30, .inl (fun j => nI (F j))))] H → va_D A [(m0, .inr (5, [.int (bI false), .int (nI (n)), .int (nI (q)), .ref aJ, .ref aS, .ref aT, .ref aW, .int (bI kn), .int (nI (rk)), .ref aR, .ref aP, .ref aH, .ref aK, .ref aE, .ref aY, .ref aN, .ref aQ, .ref aB, .ref aI, .ref aD])), (aJ, .inl (cZ, 900, .inl (fun j => bI (jn j)))), (aS, .inl (cZ, 30, .inl (fun j => bI (ns j)))), (aT, .inl (cI, 30, .inl (fun j => nI (F j))))] → va_S A s.heap H locs → ∀ (ls : Array Slot), lv_has ls 4 [(0, .ref m0), (1, .int (nI (ja))), (2, .int (nI (k))), (3, .int (nI (i)))] → W zp l ze (headSpec wsX4_press ({ frames := 1, cells := 0, slots := 0, locals := 22 })).room s m args below meth zc H locs 0 0 Q (F0 m 35 ls []) := by
              intro kk
              induction kk with
              | zero =>
                intro i F hi h1 H locs hP hD hS ls hl
                refine lv_iload_n hx hb dX4_press_35 rfl (lv_at hl 3 rfl) ?_
                refine lv_aload_n hx hb dX4_press_36 rfl (lv_at hl 0 rfl) ?_
                refine va_get (D := (dC, dI)) (ci := 5) (v := .int (nI (n))) (C := RX4) (T := TX4) (N := 20) hx hb hts hinX4 hown hK hP 0 rfl rfl 1 (by decide) hf56 (fun _ h9 => h9) rfl dX4_press_37 ?_
                refine lv_icmp_ge (tgt := 75) hx hb dX4_press_40 (by decide) (fun c8 => ?_) (fun c8 => ?_)
                · skip
                  have c8 : n ≤ i := (nI_leI (a := n) (b := i) (by omega) (by omega)).mp c8
                  obtain rfl : n = i := by omega
                  refine lv_iconst (v := nI 1) hx hb dX4_press_75 (by decide) ?_
                  rw [hQ]
                  exact W.zret (v := nI (1)) (ty := .boolean) hx hb hr rfl (fun t ht hW => ⟨⟨_, (false, F), rfl, Or.inr ⟨ja, hja, rfl, rfl, Or.inr ⟨k, hk, rfl, rfl, fun i hi => by show F i = _; rw [h1 i, if_pos hi]⟩⟩, by rw [ht]; exact hP, va_K.moved hW.alike hK, hD⟩, hS.F ht⟩) hS.2.2 dX4_press_76
                · skip
                  have c8 : i < n := Nat.not_le.mp (fun h => c8 ((nI_leI (a := n) (b := i) (by omega) (by omega)).mpr h))
                  exact absurd c8 (by omega)
              | succ kk ih =>
                intro i F hi h1 H locs hP hD hS ls hl
                refine lv_iload_n hx hb dX4_press_35 rfl (lv_at hl 3 rfl) ?_
                refine lv_aload_n hx hb dX4_press_36 rfl (lv_at hl 0 rfl) ?_
                refine va_get (D := (dC, dI)) (ci := 5) (v := .int (nI (n))) (C := RX4) (T := TX4) (N := 20) hx hb hts hinX4 hown hK hP 0 rfl rfl 1 (by decide) hf56 (fun _ h9 => h9) rfl dX4_press_37 ?_
                refine lv_icmp_ge (tgt := 75) hx hb dX4_press_40 (by decide) (fun c8 => ?_) (fun c8 => ?_)
                · skip
                  have c8 : n ≤ i := (nI_leI (a := n) (b := i) (by omega) (by omega)).mp c8
                  exact absurd c8 (by omega)
                · skip
                  have c8 : i < n := Nat.not_le.mp (fun h => c8 ((nI_leI (a := n) (b := i) (by omega) (by omega)).mpr h))
                  have e1 := hs0 i (by omega)
                  have e2 : F i = st i := by rw [h1 i, if_neg (by omega)]
                  have e3 : eff jn ns ja i ≤ 1 := eff_le _ _ _ _
                  have e4 : k * eff jn ns ja i ≤ 1000 * 1 := Nat.mul_le_mul hk e3
                  refine lv_aload_n hx hb dX4_press_43 rfl (lv_at hl 0 rfl) ?_
                  refine va_get (D := (dC, dI)) (ci := 5) (v := .ref aT) (C := RX4) (T := TX4) (N := 20) hx hb hts hinX4 hown hK hP 0 rfl rfl 5 (by decide) hf16 (fun _ h9 => h9) rfl dX4_press_44 ?_
                  refine lv_iload_n hx hb dX4_press_47 rfl (lv_at hl 3 rfl) ?_
                  refine lv_aload_n hx hb dX4_press_48 rfl (lv_at hl 0 rfl) ?_
                  refine va_get (D := (dC, dI)) (ci := 5) (v := .ref aT) (C := RX4) (T := TX4) (N := 20) hx hb hts hinX4 hown hK hP 0 rfl rfl 5 (by decide) hf16 (fun _ h9 => h9) rfl dX4_press_49 ?_
                  refine lv_iload_n hx hb dX4_press_52 rfl (lv_at hl 3 rfl) ?_
                  refine ra_ld (g := nI) (F := F) hx hb hK hP 3 0 rfl rfl (by omega) (by omega) dX4_press_53 ?_
                  refine tp_i (y := nI (st i)) (by rw [e2]) ?_
                  refine lv_iload_n hx hb dX4_press_54 rfl (lv_at hl 2 rfl) ?_
                  refine lv_aload_n hx hb dX4_press_55 rfl (lv_at hl 0 rfl) ?_
                  refine lv_iload_n hx hb dX4_press_56 rfl (lv_at hl 1 rfl) ?_
                  refine lv_iload_n hx hb dX4_press_57 rfl (lv_at hl 3 rfl) ?_
                  have hPc := hP.sub (ws' := [(m0, .inr (5, [.int (bI false), .int (nI (n)), .int (nI (q)), .ref aJ, .ref aS, .ref aT, .ref aW, .int (bI kn), .int (nI (rk)), .ref aR, .ref aP, .ref aH, .ref aK, .ref aE, .ref aY, .ref aN, .ref aQ, .ref aB, .ref aI, .ref aD])), (aJ, .inl (cZ, 900, .inl (fun j => bI (jn j)))), (aS, .inl (cZ, 30, .inl (fun j => bI (ns j))))]) [0, 1, 2] rfl
                  have hDc := hD.sub (ws' := [(m0, .inr (5, [.int (bI false), .int (nI (n)), .int (nI (q)), .ref aJ, .ref aS, .ref aT, .ref aW, .int (bI kn), .int (nI (rk)), .ref aR, .ref aP, .ref aH, .ref aK, .ref aE, .ref aY, .ref aN, .ref aQ, .ref aB, .ref aI, .ref aD])), (aJ, .inl (cZ, 900, .inl (fun j => bI (jn j)))), (aS, .inl (cZ, 30, .inl (fun j => bI (ns j))))]) [0, 1, 2] (by decide) rfl
                  have hFc := va_free (wc := [(m0, .inr (5, [.int (bI false), .int (nI (n)), .int (nI (q)), .ref aJ, .ref aS, .ref aT, .ref aW, .int (bI kn), .int (nI (rk)), .ref aR, .ref aP, .ref aH, .ref aK, .ref aE, .ref aY, .ref aN, .ref aQ, .ref aB, .ref aI, .ref aD])), (aJ, .inl (cZ, 900, .inl (fun j => bI (jn j)))), (aS, .inl (cZ, 30, .inl (fun j => bI (ns j))))]) hD hS hA [0, 1, 2] rfl
                  have hKc := hK.sub (tys' := [(cI, .int), (cZ, .boolean)]) [0, 1] rfl
                  refine va_calli (va_runV (As := [.int (nI (ja)), .int (nI (i))]) (rest := [.int (nI (k)), .int (nI (st i)), .int (nI (i)), .ref aT]) ⟨hx, hb, hml, hown, hts⟩ (c_X4_effect l dC dI H.size m0 aJ aS aT aW aR aP aH aK aE aY aN aQ aB aI aD n q rk (bI false) kn cI cZ jn ns ja i hn hja (by omega)) (cwV 2 hts gX4_press_X4_effect rfl rfl rfl (by decide +kernel) ⟨Nat.le_of_ble_eq_true rfl, Nat.le_of_ble_eq_true rfl⟩) ⟨fun a U g mk q => by obtain ⟨q0, q1, qP, qK, qD⟩ := q; exact ⟨q0, q1, qP, va_K.moved (u := U) (U := U.calling g mk a) (Vm.Alike.refl U.vm) qK, qD⟩, va_recv hKc hPc (ci := 5) (q0 := 0) rfl rfl, fun U hU hW => ⟨rfl, by rw [hU], by rw [hU]; exact hPc, va_K.moved hW.alike hKc, hDc.weaken (fun _ _ _ _ => trivial)⟩⟩ rfl rfl hl.1 rfl (lv_room (Nat.le_of_ble_eq_true rfl)) dX4_press_58 ⟨Nat.le_of_ble_eq_true rfl, Nat.le_of_ble_eq_true rfl⟩) hS (fun q _ h => hFc q h) hFc (fun r4 uu t H1 locs ht hvm hw hB hz1 hk1 hS => ?_)
                  obtain ⟨hP1, hK1, hD1⟩ := hB
                  rw [ht] at hP1
                  try dsimp only at hw
                  obtain ⟨hP, hD⟩ := va_join (wr := [(aT, .inl (cI, 30, .inl (fun j => nI (F j))))]) (w1 := [(m0, .inr (5, [.int (bI false), .int (nI (n)), .int (nI (q)), .ref aJ, .ref aS, .ref aT, .ref aW, .int (bI kn), .int (nI (rk)), .ref aR, .ref aP, .ref aH, .ref aK, .ref aE, .ref aY, .ref aN, .ref aQ, .ref aB, .ref aI, .ref aD])), (aJ, .inl (cZ, 900, .inl (fun j => bI (jn j)))), (aS, .inl (cZ, 30, .inl (fun j => bI (ns j))))]) hP hD [0, 1, 2] [3] rfl rfl (by decide) (by decide) hk1 hFc hP1 hD1
                  generalize H1 = H at hP hS ⊢
                  have hP := hP.sub (ws' := [(m0, .inr (5, [.int (bI false), .int (nI (n)), .int (nI (q)), .ref aJ, .ref aS, .ref aT, .ref aW, .int (bI kn), .int (nI (rk)), .ref aR, .ref aP, .ref aH, .ref aK, .ref aE, .ref aY, .ref aN, .ref aQ, .ref aB, .ref aI, .ref aD])), (aJ, .inl (cZ, 900, .inl (fun j => bI (jn j)))), (aS, .inl (cZ, 30, .inl (fun j => bI (ns j)))), (aT, .inl (cI, 30, .inl (fun j => nI (F j))))]) [1, 2, 3, 0] rfl
                  have hD := hD.sub (ws' := [(m0, .inr (5, [.int (bI false), .int (nI (n)), .int (nI (q)), .ref aJ, .ref aS, .ref aT, .ref aW, .int (bI kn), .int (nI (rk)), .ref aR, .ref aP, .ref aH, .ref aK, .ref aE, .ref aY, .ref aN, .ref aQ, .ref aB, .ref aI, .ref aD])), (aJ, .inl (cZ, 900, .inl (fun j => bI (jn j)))), (aS, .inl (cZ, 30, .inl (fun j => bI (ns j)))), (aT, .inl (cI, 30, .inl (fun j => nI (F j))))]) [1, 2, 3, 0] (by decide) rfl
                  have hP : va_P (dC, dI) vwCl [(m0, .inr (5, [.int (bI false), .int (nI (n)), .int (nI (q)), .ref aJ, .ref aS, .ref aT, .ref aW, .int (bI kn), .int (nI (rk)), .ref aR, .ref aP, .ref aH, .ref aK, .ref aE, .ref aY, .ref aN, .ref aQ, .ref aB, .ref aI, .ref aD])), (aJ, .inl (cZ, 900, .inl (fun j => bI (jn j)))), (aS, .inl (cZ, 30, .inl (fun j => bI (ns j)))), (aT, .inl (cI, 30, .inl (fun j => nI (F j))))] H := hP
                  have hD : va_D A [(m0, .inr (5, [.int (bI false), .int (nI (n)), .int (nI (q)), .ref aJ, .ref aS, .ref aT, .ref aW, .int (bI kn), .int (nI (rk)), .ref aR, .ref aP, .ref aH, .ref aK, .ref aE, .ref aY, .ref aN, .ref aQ, .ref aB, .ref aI, .ref aD])), (aJ, .inl (cZ, 900, .inl (fun j => bI (jn j)))), (aS, .inl (cZ, 30, .inl (fun j => bI (ns j)))), (aT, .inl (cI, 30, .inl (fun j => nI (F j))))] := hD
                  subst hw
                  refine lv_imul hx hb dX4_press_61 ?_
                  refine tp_i (y := nI (k * (eff jn ns ja i))) (pk_mul _ _) ?_
                  refine lv_iadd hx hb dX4_press_62 ?_
                  refine tp_i (y := nI ((st i) + (k * (eff jn ns ja i)))) (nI_add _ _) ?_
                  refine lv_aload_n hx hb dX4_press_63 rfl (lv_at hl 0 rfl) ?_
                  refine va_get (D := (dC, dI)) (ci := 5) (v := .int (nI (q))) (C := RX4) (T := TX4) (N := 20) hx hb hts hinX4 hown hK hP 0 rfl rfl 2 (by decide) hf60 (fun _ h9 => h9) rfl dX4_press_64 ?_
                  refine lv_irem hx hb dX4_press_67 (nI_ne0 (by omega) (by omega)) ?_
                  refine tp_i (y := nI (((st i) + (k * (eff jn ns ja i))) % q)) (pk_rem (by omega) (by omega) (by omega)) ?_
                  refine ra_st (g := nI) (F := F) (v := ((st i) + (k * (eff jn ns ja i))) % q) hx hb hK hP hD hS 3 0 rfl rfl (by omega) (by omega) dX4_press_68 (fun H locs hP hD hS => ?_)
                  have hP : va_P (dC, dI) vwCl [(m0, .inr (5, [.int (bI false), .int (nI (n)), .int (nI (q)), .ref aJ, .ref aS, .ref aT, .ref aW, .int (bI kn), .int (nI (rk)), .ref aR, .ref aP, .ref aH, .ref aK, .ref aE, .ref aY, .ref aN, .ref aQ, .ref aB, .ref aI, .ref aD])), (aJ, .inl (cZ, 900, .inl (fun j => bI (jn j)))), (aS, .inl (cZ, 30, .inl (fun j => bI (ns j)))), (aT, .inl (cI, 30, .inl (fun j => nI ((va_up F i (((st i) + (k * (eff jn ns ja i))) % q)) j))))] H := hP
                  have hD : va_D A [(m0, .inr (5, [.int (bI false), .int (nI (n)), .int (nI (q)), .ref aJ, .ref aS, .ref aT, .ref aW, .int (bI kn), .int (nI (rk)), .ref aR, .ref aP, .ref aH, .ref aK, .ref aE, .ref aY, .ref aN, .ref aQ, .ref aB, .ref aI, .ref aD])), (aJ, .inl (cZ, 900, .inl (fun j => bI (jn j)))), (aS, .inl (cZ, 30, .inl (fun j => bI (ns j)))), (aT, .inl (cI, 30, .inl (fun j => nI ((va_up F i (((st i) + (k * (eff jn ns ja i))) % q)) j))))] := hD
                  refine lv_iinc (v := nI (i + 1)) (lv' := [(3, .int (nI (i + 1))), (0, .ref m0), (1, .int (nI (ja))), (2, .int (nI (k)))]) hx hb dX4_press_69 hl (k := 3) rfl (nI_1 _) (by decide) rfl (fun ls hl => ?_)
                  refine lv_goto (tgt := 35) hx hb dX4_press_72 (by decide) ?_
                  exact ih (i + 1) (va_up F i ((st i + k * eff jn ns ja i) % q)) (by omega) (lp_step h1 rfl) _ _ hP hD hS ls (lv_sub hl [1, 2, 3, 0] rfl)
            exact lp n 0 st (by omega) (lp_zero _ _) _ _ hP hD hS ls (lv_sub hl [1, 2, 3, 0] rfl)
          · skip
            refine lv_iconst (v := nI 0) hx hb dX4_press_31 (by decide) ?_
            rw [hQ]
            exact W.zret (v := nI (0)) (ty := .boolean) hx hb hr rfl (fun t ht hW => ⟨⟨_, (false, st), rfl, Or.inr ⟨ja, hja, rfl, rfl, Or.inl ⟨fun k hk e => c7 (by rw [e]; exact nI_le hk (by omega)), rfl, rfl⟩⟩, by rw [ht]; exact hP, va_K.moved hW.alike hK, hD⟩, hS.F ht⟩) hS.2.2 dX4_press_32
    · skip
      have c : 1 = 0 := (nI_eq (a := 1) (b := 0) (by omega) (by omega)).mp c
      exact absurd c (by decide)

set_option maxHeartbeats 4000000 in
set_option maxRecDepth 100000 in
theorem c_X4_self (l : Launch) (dC : Nat → ClassId) (dI : Nat → Nat → Nat) (sz : Nat) (m0 aJ aS aT aW aR aP aH aK aE aY aN aQ aB aI aD n q rk : Nat) (th : Int32) (kn : Bool) (cI cZ : ClassId) (ns : Nat → Bool) (x : Int32) (on : Bool) (hn : n < 31)  : Met l yX4_self wsX4_self ({ frames := 1, cells := 0, slots := 0, locals := 21 }) (va_Pc [.ref m0, .int (x), .int (bI on)] (fun U => U.heap.size = sz ∧ va_P (dC, dI) vwCl [(m0, .inr (5, [.int (th), .int (nI (n)), .int (nI (q)), .ref aJ, .ref aS, .ref aT, .ref aW, .int (bI kn), .int (nI (rk)), .ref aR, .ref aP, .ref aH, .ref aK, .ref aE, .ref aY, .ref aN, .ref aQ, .ref aB, .ref aI, .ref aD])), (aS, .inl (cZ, 30, .inl (fun j => bI (ns j))))] U.heap ∧ va_K (dC, dI) vwCl [(cI, .int), (cZ, .boolean)] U ∧ va_D (fun _ => True) [(m0, .inr (5, [.int (th), .int (nI (n)), .int (nI (q)), .ref aJ, .ref aS, .ref aT, .ref aW, .int (bI kn), .int (nI (rk)), .ref aR, .ref aP, .ref aH, .ref aK, .ref aE, .ref aY, .ref aN, .ref aQ, .ref aB, .ref aI, .ref aD])), (aS, .inl (cZ, 30, .inl (fun j => bI (ns j))))])) (va_Qi (fun (z : Int32) (u : Bool × Bool × (Nat → Bool)) => (inb n x = false ∧ u = (true, kn, ns) ∧ z = nI 0) ∨ ∃ j : Nat, j < n ∧ x = nI j ∧ u.1 = false ∧ ((ns j ≠ on ∧ z = nI 0 ∧ u.2 = (kn, ns)) ∨ (ns j = on ∧ z = nI 1 ∧ u.2 = (false, va_up ns j (!on))))) (fun u t => va_P (dC, dI) vwCl [(m0, .inr (5, [.int (bI u.1), .int (nI (n)), .int (nI (q)), .ref aJ, .ref aS, .ref aT, .ref aW, .int (bI u.2.1), .int (nI (rk)), .ref aR, .ref aP, .ref aH, .ref aK, .ref aE, .ref aY, .ref aN, .ref aQ, .ref aB, .ref aI, .ref aD])), (aS, .inl (cZ, 30, .inl (fun j => bI (u.2.2 j))))] t.heap ∧ va_K (dC, dI) vwCl [(cI, .int), (cZ, .boolean)] t ∧ va_D (va_A [(m0, .inr (5, [.int (th), .int (nI (n)), .int (nI (q)), .ref aJ, .ref aS, .ref aT, .ref aW, .int (bI kn), .int (nI (rk)), .ref aR, .ref aP, .ref aH, .ref aK, .ref aE, .ref aY, .ref aN, .ref aQ, .ref aB, .ref aI, .ref aD])), (aS, .inl (cZ, 30, .inl (fun j => bI (ns j))))] sz) [(m0, .inr (5, [.int (bI u.1), .int (nI (n)), .int (nI (q)), .ref aJ, .ref aS, .ref aT, .ref aW, .int (bI u.2.1), .int (nI (rk)), .ref aR, .ref aP, .ref aH, .ref aK, .ref aE, .ref aY, .ref aN, .ref aQ, .ref aB, .ref aI, .ref aD])), (aS, .inl (cZ, 30, .inl (fun j => bI (u.2.2 j))))]) (va_A [(m0, .inr (5, [.int (th), .int (nI (n)), .int (nI (q)), .ref aJ, .ref aS, .ref aT, .ref aW, .int (bI kn), .int (nI (rk)), .ref aR, .ref aP, .ref aH, .ref aK, .ref aE, .ref aY, .ref aN, .ref aQ, .ref aB, .ref aI, .ref aD])), (aS, .inl (cZ, 30, .inl (fun j => bI (ns j))))] sz)) 0 0 (va_A [(m0, .inr (5, [.int (th), .int (nI (n)), .int (nI (q)), .ref aJ, .ref aS, .ref aT, .ref aW, .int (bI kn), .int (nI (rk)), .ref aR, .ref aP, .ref aH, .ref aK, .ref aE, .ref aY, .ref aN, .ref aQ, .ref aB, .ref aI, .ref aD])), (aS, .inl (cZ, 30, .inl (fun j => bI (ns j))))] sz) := by
  refine Met.ofW (cc := cX4_self) (maxL := 3) (ret := (some .boolean)) (by decide) rfl ?_
  intro zp ze s m args below meth zc s₁ B hml hv
  obtain ⟨hargs, hsz, hP, hK, hD0⟩ := hv
  have hx := B.exec
  have hb := B.bytes
  have hr := B.returns
  have hts := atoms_spec (ws := wsX4_self) B.pre
  have hown : s.vm.findClass RX4 = some m.cls := findClass_of_methodNamed B.named
  have hlocks := B.notSynchronized
  subst hsz
  obtain ⟨Q, hQ⟩ : ∃ Q, Q = MQ below (va_Qi (fun (z : Int32) (u : Bool × Bool × (Nat → Bool)) => (inb n x = false ∧ u = (true, kn, ns) ∧ z = nI 0) ∨ ∃ j : Nat, j < n ∧ x = nI j ∧ u.1 = false ∧ ((ns j ≠ on ∧ z = nI 0 ∧ u.2 = (kn, ns)) ∨ (ns j = on ∧ z = nI 1 ∧ u.2 = (false, va_up ns j (!on))))) (fun u t => va_P (dC, dI) vwCl [(m0, .inr (5, [.int (bI u.1), .int (nI (n)), .int (nI (q)), .ref aJ, .ref aS, .ref aT, .ref aW, .int (bI u.2.1), .int (nI (rk)), .ref aR, .ref aP, .ref aH, .ref aK, .ref aE, .ref aY, .ref aN, .ref aQ, .ref aB, .ref aI, .ref aD])), (aS, .inl (cZ, 30, .inl (fun j => bI (u.2.2 j))))] t.heap ∧ va_K (dC, dI) vwCl [(cI, .int), (cZ, .boolean)] t ∧ va_D (va_A [(m0, .inr (5, [.int (th), .int (nI (n)), .int (nI (q)), .ref aJ, .ref aS, .ref aT, .ref aW, .int (bI kn), .int (nI (rk)), .ref aR, .ref aP, .ref aH, .ref aK, .ref aE, .ref aY, .ref aN, .ref aQ, .ref aB, .ref aI, .ref aD])), (aS, .inl (cZ, 30, .inl (fun j => bI (ns j))))] s.heap.size) [(m0, .inr (5, [.int (bI u.1), .int (nI (n)), .int (nI (q)), .ref aJ, .ref aS, .ref aT, .ref aW, .int (bI u.2.1), .int (nI (rk)), .ref aR, .ref aP, .ref aH, .ref aK, .ref aE, .ref aY, .ref aN, .ref aQ, .ref aB, .ref aI, .ref aD])), (aS, .inl (cZ, 30, .inl (fun j => bI (u.2.2 j))))]) (va_A [(m0, .inr (5, [.int (th), .int (nI (n)), .int (nI (q)), .ref aJ, .ref aS, .ref aT, .ref aW, .int (bI kn), .int (nI (rk)), .ref aR, .ref aP, .ref aH, .ref aK, .ref aE, .ref aY, .ref aN, .ref aQ, .ref aB, .ref aI, .ref aD])), (aS, .inl (cZ, 30, .inl (fun j => bI (ns j))))] s.heap.size)) args s 0 0 (va_A [(m0, .inr (5, [.int (th), .int (nI (n)), .int (nI (q)), .ref aJ, .ref aS, .ref aT, .ref aW, .int (bI kn), .int (nI (rk)), .ref aR, .ref aP, .ref aH, .ref aK, .ref aE, .ref aY, .ref aN, .ref aQ, .ref aB, .ref aI, .ref aD])), (aS, .inl (cZ, 30, .inl (fun j => bI (ns j))))] s.heap.size) := ⟨_, rfl⟩
  rw [← hQ]
  have hD := hD0.self (sz := s.heap.size)
  generalize hAe : (va_A [(m0, .inr (5, [.int (th), .int (nI (n)), .int (nI (q)), .ref aJ, .ref aS, .ref aT, .ref aW, .int (bI kn), .int (nI (rk)), .ref aR, .ref aP, .ref aH, .ref aK, .ref aE, .ref aY, .ref aN, .ref aQ, .ref aB, .ref aI, .ref aD])), (aS, .inl (cZ, 30, .inl (fun j => bI (ns j))))] s.heap.size) = A at hD hQ
  have hA : ∀ q : Nat, s.heap.size ≤ q → A q := fun q h => by rw [← hAe]; exact Or.inr h
  have hS : va_S A s.heap s.heap [] := va_S.rf
  have hl := lv_entry ([.ref m0, .int (x), .int (bI on)]) (n := 3) (Nat.le_of_ble_eq_true rfl)
  generalize hen : entryFrame m args 3 = fr
  rw [hargs, lg_entry_eq] at hen
  subst hen
  generalize (lg_sl ([.ref m0, .int (x), .int (bI on)]) ++ List.replicate (3 - (lg_sl ([.ref m0, .int (x), .int (bI on)])).length) Slot.unset).toArray = ls at hl ⊢
  have hl : lv_has ls 3 [(0, .ref m0), (1, .int (x)), (2, .int (bI on))] := hl
  have hinX4 : ∀ w ∈ wsX40, w ∈ wsX4_self := by decide +kernel
  have hf13 := hts (.fieldLink RX4 13 "LightRowsModel" "isNotSelf" "[Z") (by decide +kernel)
  have hf56 := hts (.fieldLink RX4 56 "LightRowsModel" "lamps" "I") (by decide +kernel)
  have hf63 := hts (.fieldLink RX4 63 "LightRowsModel" "thrown" "I") (by decide +kernel)
  have hf74 := hts (.fieldLink RX4 74 "LightRowsModel" "isKnown" "Z") (by decide +kernel)
  refine lv_aload_n hx hb dX4_self_0 rfl (lv_at hl 0 rfl) ?_
  refine lv_aload_n hx hb dX4_self_1 rfl (lv_at hl 0 rfl) ?_
  refine lv_iload_n hx hb dX4_self_2 rfl (lv_at hl 1 rfl) ?_
  have hPc := hP.sub (ws' := [(m0, .inr (5, [.int (th), .int (nI (n)), .int (nI (q)), .ref aJ, .ref aS, .ref aT, .ref aW, .int (bI kn), .int (nI (rk)), .ref aR, .ref aP, .ref aH, .ref aK, .ref aE, .ref aY, .ref aN, .ref aQ, .ref aB, .ref aI, .ref aD]))]) [0] rfl
  have hDc := hD.sub (ws' := [(m0, .inr (5, [.int (th), .int (nI (n)), .int (nI (q)), .ref aJ, .ref aS, .ref aT, .ref aW, .int (bI kn), .int (nI (rk)), .ref aR, .ref aP, .ref aH, .ref aK, .ref aE, .ref aY, .ref aN, .ref aQ, .ref aB, .ref aI, .ref aD]))]) [0] (by decide) rfl
  have hFc := va_free (wc := [(m0, .inr (5, [.int (th), .int (nI (n)), .int (nI (q)), .ref aJ, .ref aS, .ref aT, .ref aW, .int (bI kn), .int (nI (rk)), .ref aR, .ref aP, .ref aH, .ref aK, .ref aE, .ref aY, .ref aN, .ref aQ, .ref aB, .ref aI, .ref aD]))]) hD hS hA [0] rfl
  have hKc := hK.sub (tys' := [(cI, .int), (cZ, .boolean)]) [0, 1] rfl
  refine va_calli (va_runV (As := [.int (x)]) (rest := [.ref m0]) ⟨hx, hb, hml, hown, hts⟩ (c_X4_isLamp l dC dI s.heap.size m0 aJ aS aT aW aR aP aH aK aE aY aN aQ aB aI aD n q rk th kn cI cZ x hn) (cwV 1 hts gX4_self_X4_isLamp rfl rfl rfl (by decide +kernel) ⟨Nat.le_of_ble_eq_true rfl, Nat.le_of_ble_eq_true rfl⟩) ⟨fun a U g mk q => by obtain ⟨q0, q1, qP, qK, qD⟩ := q; exact ⟨q0, q1, qP, va_K.moved (u := U) (U := U.calling g mk a) (Vm.Alike.refl U.vm) qK, qD⟩, va_recv hKc hPc (ci := 5) (q0 := 0) rfl rfl, fun U hU hW => ⟨rfl, by rw [hU], by rw [hU]; exact hPc, va_K.moved hW.alike hKc, hDc.weaken (fun _ _ _ _ => trivial)⟩⟩ rfl rfl hl.1 rfl (lv_room (Nat.le_of_ble_eq_true rfl)) dX4_self_3 ⟨Nat.le_of_ble_eq_true rfl, Nat.le_of_ble_eq_true rfl⟩) hS (fun q _ h => hFc q h) hFc (fun r1 uu t H1 locs ht hvm hw hB hz1 hk1 hS => ?_)
  obtain ⟨hP1, hK1, hD1⟩ := hB
  rw [ht] at hP1
  try dsimp only at hw
  obtain ⟨hP, hD⟩ := va_join (wr := [(aS, .inl (cZ, 30, .inl (fun j => bI (ns j))))]) (w1 := [(m0, .inr (5, [.int (th), .int (nI (n)), .int (nI (q)), .ref aJ, .ref aS, .ref aT, .ref aW, .int (bI kn), .int (nI (rk)), .ref aR, .ref aP, .ref aH, .ref aK, .ref aE, .ref aY, .ref aN, .ref aQ, .ref aB, .ref aI, .ref aD]))]) hP hD [0] [1] rfl rfl (by decide) (by decide) hk1 hFc hP1 hD1
  generalize H1 = H at hP hS ⊢
  have hP := hP.sub (ws' := [(m0, .inr (5, [.int (th), .int (nI (n)), .int (nI (q)), .ref aJ, .ref aS, .ref aT, .ref aW, .int (bI kn), .int (nI (rk)), .ref aR, .ref aP, .ref aH, .ref aK, .ref aE, .ref aY, .ref aN, .ref aQ, .ref aB, .ref aI, .ref aD])), (aS, .inl (cZ, 30, .inl (fun j => bI (ns j))))]) [1, 0] rfl
  have hD := hD.sub (ws' := [(m0, .inr (5, [.int (th), .int (nI (n)), .int (nI (q)), .ref aJ, .ref aS, .ref aT, .ref aW, .int (bI kn), .int (nI (rk)), .ref aR, .ref aP, .ref aH, .ref aK, .ref aE, .ref aY, .ref aN, .ref aQ, .ref aB, .ref aI, .ref aD])), (aS, .inl (cZ, 30, .inl (fun j => bI (ns j))))]) [1, 0] (by decide) rfl
  have hP : va_P (dC, dI) vwCl [(m0, .inr (5, [.int (th), .int (nI (n)), .int (nI (q)), .ref aJ, .ref aS, .ref aT, .ref aW, .int (bI kn), .int (nI (rk)), .ref aR, .ref aP, .ref aH, .ref aK, .ref aE, .ref aY, .ref aN, .ref aQ, .ref aB, .ref aI, .ref aD])), (aS, .inl (cZ, 30, .inl (fun j => bI (ns j))))] H := hP
  have hD : va_D A [(m0, .inr (5, [.int (th), .int (nI (n)), .int (nI (q)), .ref aJ, .ref aS, .ref aT, .ref aW, .int (bI kn), .int (nI (rk)), .ref aR, .ref aP, .ref aH, .ref aK, .ref aE, .ref aY, .ref aN, .ref aQ, .ref aB, .ref aI, .ref aD])), (aS, .inl (cZ, 30, .inl (fun j => bI (ns j))))] := hD
  subst hw
  rcases hib : inb n x with _ | _
  · skip
    refine tp_i (y := nI 0) rfl ?_
    refine lv_if_ne (tgt := 13) hx hb dX4_self_6 (by decide) (fun c => ?_) (fun c => ?_)
    · skip
      have c : 0 ≠ 0 := fun h => c ((nI_eq (a := 0) (b := 0) (by omega) (by omega)).mpr h)
      exact absurd rfl c
    · skip
      have c : 0 = 0 := (nI_eq (a := 0) (b := 0) (by omega) (by omega)).mp c
      refine lv_iconst (v := nI 1) hx hb dX4_self_9 (by decide) ?_
      refine lv_goto (tgt := 14) hx hb dX4_self_10 (by decide) ?_
      refine tp_i (y := bI true) rfl ?_
      have hPc := hP.sub (ws' := [(m0, .inr (5, [.int (th), .int (nI (n)), .int (nI (q)), .ref aJ, .ref aS, .ref aT, .ref aW, .int (bI kn), .int (nI (rk)), .ref aR, .ref aP, .ref aH, .ref aK, .ref aE, .ref aY, .ref aN, .ref aQ, .ref aB, .ref aI, .ref aD]))]) [0] rfl
      have hDc := hD.sub (ws' := [(m0, .inr (5, [.int (th), .int (nI (n)), .int (nI (q)), .ref aJ, .ref aS, .ref aT, .ref aW, .int (bI kn), .int (nI (rk)), .ref aR, .ref aP, .ref aH, .ref aK, .ref aE, .ref aY, .ref aN, .ref aQ, .ref aB, .ref aI, .ref aD]))]) [0] (by decide) rfl
      have hFc := va_free (wc := [(m0, .inr (5, [.int (th), .int (nI (n)), .int (nI (q)), .ref aJ, .ref aS, .ref aT, .ref aW, .int (bI kn), .int (nI (rk)), .ref aR, .ref aP, .ref aH, .ref aK, .ref aE, .ref aY, .ref aN, .ref aQ, .ref aB, .ref aI, .ref aD]))]) hD hS hA [0] rfl
      have hKc := hK.sub (tys' := [(cI, .int), (cZ, .boolean)]) [0, 1] rfl
      refine va_calli (va_runV (As := [.int (bI true)]) (rest := []) ⟨hx, hb, hml, hown, hts⟩ (c_X4_fails l dC dI H.size m0 aJ aS aT aW aR aP aH aK aE aY aN aQ aB aI aD n q rk th kn cI cZ true) (cwV 1 hts gX4_self_X4_fails rfl rfl rfl (by decide +kernel) ⟨Nat.le_of_ble_eq_true rfl, Nat.le_of_ble_eq_true rfl⟩) ⟨fun a U g mk q => by obtain ⟨q0, q1, qP, qK, qD⟩ := q; exact ⟨q0, q1, qP, va_K.moved (u := U) (U := U.calling g mk a) (Vm.Alike.refl U.vm) qK, qD⟩, va_recv hKc hPc (ci := 5) (q0 := 0) rfl rfl, fun U hU hW => ⟨rfl, by rw [hU], by rw [hU]; exact hPc, va_K.moved hW.alike hKc, hDc.weaken (fun _ _ _ _ => trivial)⟩⟩ rfl rfl hl.1 rfl (lv_room (Nat.le_of_ble_eq_true rfl)) dX4_self_14 ⟨Nat.le_of_ble_eq_true rfl, Nat.le_of_ble_eq_true rfl⟩) hS (fun q _ h => hFc q h) hFc (fun r2 uu t H1 locs ht hvm hw hB hz1 hk1 hS => ?_)
      obtain ⟨hP1, hK1, hD1⟩ := hB
      rw [ht] at hP1
      try dsimp only at hw
      obtain ⟨hP, hD⟩ := va_join (wr := [(aS, .inl (cZ, 30, .inl (fun j => bI (ns j))))]) (w1 := [(m0, .inr (5, [.int (bI true), .int (nI (n)), .int (nI (q)), .ref aJ, .ref aS, .ref aT, .ref aW, .int (bI kn), .int (nI (rk)), .ref aR, .ref aP, .ref aH, .ref aK, .ref aE, .ref aY, .ref aN, .ref aQ, .ref aB, .ref aI, .ref aD]))]) hP hD [0] [1] rfl rfl (by decide) (by decide) hk1 hFc hP1 hD1
      generalize H1 = H at hP hS ⊢
      have hP := hP.sub (ws' := [(m0, .inr (5, [.int (bI true), .int (nI (n)), .int (nI (q)), .ref aJ, .ref aS, .ref aT, .ref aW, .int (bI kn), .int (nI (rk)), .ref aR, .ref aP, .ref aH, .ref aK, .ref aE, .ref aY, .ref aN, .ref aQ, .ref aB, .ref aI, .ref aD])), (aS, .inl (cZ, 30, .inl (fun j => bI (ns j))))]) [1, 0] rfl
      have hD := hD.sub (ws' := [(m0, .inr (5, [.int (bI true), .int (nI (n)), .int (nI (q)), .ref aJ, .ref aS, .ref aT, .ref aW, .int (bI kn), .int (nI (rk)), .ref aR, .ref aP, .ref aH, .ref aK, .ref aE, .ref aY, .ref aN, .ref aQ, .ref aB, .ref aI, .ref aD])), (aS, .inl (cZ, 30, .inl (fun j => bI (ns j))))]) [1, 0] (by decide) rfl
      have hP : va_P (dC, dI) vwCl [(m0, .inr (5, [.int (bI true), .int (nI (n)), .int (nI (q)), .ref aJ, .ref aS, .ref aT, .ref aW, .int (bI kn), .int (nI (rk)), .ref aR, .ref aP, .ref aH, .ref aK, .ref aE, .ref aY, .ref aN, .ref aQ, .ref aB, .ref aI, .ref aD])), (aS, .inl (cZ, 30, .inl (fun j => bI (ns j))))] H := hP
      have hD : va_D A [(m0, .inr (5, [.int (bI true), .int (nI (n)), .int (nI (q)), .ref aJ, .ref aS, .ref aT, .ref aW, .int (bI kn), .int (nI (rk)), .ref aR, .ref aP, .ref aH, .ref aK, .ref aE, .ref aY, .ref aN, .ref aQ, .ref aB, .ref aI, .ref aD])), (aS, .inl (cZ, 30, .inl (fun j => bI (ns j))))] := hD
      subst hw
      refine tp_i (y := nI 1) rfl ?_
      refine lv_if_ne (tgt := 30) hx hb dX4_self_17 (by decide) (fun c5 => ?_) (fun c5 => ?_)
      · skip
        have c5 : 1 ≠ 0 := fun h => c5 ((nI_eq (a := 1) (b := 0) (by omega) (by omega)).mpr h)
        refine lv_iconst (v := nI 0) hx hb dX4_self_30 (by decide) ?_
        rw [hQ]
        exact W.zret (v := nI (0)) (ty := .boolean) hx hb hr rfl (fun t ht hW => ⟨⟨_, (true, kn, ns), rfl, Or.inl ⟨hib, rfl, rfl⟩, by rw [ht]; exact hP, va_K.moved hW.alike hK, hD⟩, hS.F ht⟩) hS.2.2 dX4_self_31
      · skip
        have c5 : 1 = 0 := (nI_eq (a := 1) (b := 0) (by omega) (by omega)).mp c5
        exact absurd c5 (by decide)
  · skip
    refine tp_i (y := nI 1) rfl ?_
    obtain ⟨ja, hja, rfl⟩ := inb_ex (show n < 100 by omega) hib
    refine lv_if_ne (tgt := 13) hx hb dX4_self_6 (by decide) (fun c => ?_) (fun c => ?_)
    · skip
      have c : 1 ≠ 0 := fun h => c ((nI_eq (a := 1) (b := 0) (by omega) (by omega)).mpr h)
      refine lv_iconst (v := nI 0) hx hb dX4_self_13 (by decide) ?_
      refine tp_i (y := bI false) rfl ?_
      have hPc := hP.sub (ws' := [(m0, .inr (5, [.int (th), .int (nI (n)), .int (nI (q)), .ref aJ, .ref aS, .ref aT, .ref aW, .int (bI kn), .int (nI (rk)), .ref aR, .ref aP, .ref aH, .ref aK, .ref aE, .ref aY, .ref aN, .ref aQ, .ref aB, .ref aI, .ref aD]))]) [0] rfl
      have hDc := hD.sub (ws' := [(m0, .inr (5, [.int (th), .int (nI (n)), .int (nI (q)), .ref aJ, .ref aS, .ref aT, .ref aW, .int (bI kn), .int (nI (rk)), .ref aR, .ref aP, .ref aH, .ref aK, .ref aE, .ref aY, .ref aN, .ref aQ, .ref aB, .ref aI, .ref aD]))]) [0] (by decide) rfl
      have hFc := va_free (wc := [(m0, .inr (5, [.int (th), .int (nI (n)), .int (nI (q)), .ref aJ, .ref aS, .ref aT, .ref aW, .int (bI kn), .int (nI (rk)), .ref aR, .ref aP, .ref aH, .ref aK, .ref aE, .ref aY, .ref aN, .ref aQ, .ref aB, .ref aI, .ref aD]))]) hD hS hA [0] rfl
      have hKc := hK.sub (tys' := [(cI, .int), (cZ, .boolean)]) [0, 1] rfl
      refine va_calli (va_runV (As := [.int (bI false)]) (rest := []) ⟨hx, hb, hml, hown, hts⟩ (c_X4_fails l dC dI H.size m0 aJ aS aT aW aR aP aH aK aE aY aN aQ aB aI aD n q rk th kn cI cZ false) (cwV 1 hts gX4_self_X4_fails rfl rfl rfl (by decide +kernel) ⟨Nat.le_of_ble_eq_true rfl, Nat.le_of_ble_eq_true rfl⟩) ⟨fun a U g mk q => by obtain ⟨q0, q1, qP, qK, qD⟩ := q; exact ⟨q0, q1, qP, va_K.moved (u := U) (U := U.calling g mk a) (Vm.Alike.refl U.vm) qK, qD⟩, va_recv hKc hPc (ci := 5) (q0 := 0) rfl rfl, fun U hU hW => ⟨rfl, by rw [hU], by rw [hU]; exact hPc, va_K.moved hW.alike hKc, hDc.weaken (fun _ _ _ _ => trivial)⟩⟩ rfl rfl hl.1 rfl (lv_room (Nat.le_of_ble_eq_true rfl)) dX4_self_14 ⟨Nat.le_of_ble_eq_true rfl, Nat.le_of_ble_eq_true rfl⟩) hS (fun q _ h => hFc q h) hFc (fun r3 uu t H1 locs ht hvm hw hB hz1 hk1 hS => ?_)
      obtain ⟨hP1, hK1, hD1⟩ := hB
      rw [ht] at hP1
      try dsimp only at hw
      obtain ⟨hP, hD⟩ := va_join (wr := [(aS, .inl (cZ, 30, .inl (fun j => bI (ns j))))]) (w1 := [(m0, .inr (5, [.int (bI false), .int (nI (n)), .int (nI (q)), .ref aJ, .ref aS, .ref aT, .ref aW, .int (bI kn), .int (nI (rk)), .ref aR, .ref aP, .ref aH, .ref aK, .ref aE, .ref aY, .ref aN, .ref aQ, .ref aB, .ref aI, .ref aD]))]) hP hD [0] [1] rfl rfl (by decide) (by decide) hk1 hFc hP1 hD1
      generalize H1 = H at hP hS ⊢
      have hP := hP.sub (ws' := [(m0, .inr (5, [.int (bI false), .int (nI (n)), .int (nI (q)), .ref aJ, .ref aS, .ref aT, .ref aW, .int (bI kn), .int (nI (rk)), .ref aR, .ref aP, .ref aH, .ref aK, .ref aE, .ref aY, .ref aN, .ref aQ, .ref aB, .ref aI, .ref aD])), (aS, .inl (cZ, 30, .inl (fun j => bI (ns j))))]) [1, 0] rfl
      have hD := hD.sub (ws' := [(m0, .inr (5, [.int (bI false), .int (nI (n)), .int (nI (q)), .ref aJ, .ref aS, .ref aT, .ref aW, .int (bI kn), .int (nI (rk)), .ref aR, .ref aP, .ref aH, .ref aK, .ref aE, .ref aY, .ref aN, .ref aQ, .ref aB, .ref aI, .ref aD])), (aS, .inl (cZ, 30, .inl (fun j => bI (ns j))))]) [1, 0] (by decide) rfl
      have hP : va_P (dC, dI) vwCl [(m0, .inr (5, [.int (bI false), .int (nI (n)), .int (nI (q)), .ref aJ, .ref aS, .ref aT, .ref aW, .int (bI kn), .int (nI (rk)), .ref aR, .ref aP, .ref aH, .ref aK, .ref aE, .ref aY, .ref aN, .ref aQ, .ref aB, .ref aI, .ref aD])), (aS, .inl (cZ, 30, .inl (fun j => bI (ns j))))] H := hP
      have hD : va_D A [(m0, .inr (5, [.int (bI false), .int (nI (n)), .int (nI (q)), .ref aJ, .ref aS, .ref aT, .ref aW, .int (bI kn), .int (nI (rk)), .ref aR, .ref aP, .ref aH, .ref aK, .ref aE, .ref aY, .ref aN, .ref aQ, .ref aB, .ref aI, .ref aD])), (aS, .inl (cZ, 30, .inl (fun j => bI (ns j))))] := hD
      subst hw
      refine tp_i (y := nI 0) rfl ?_
      refine lv_if_ne (tgt := 30) hx hb dX4_self_17 (by decide) (fun c5 => ?_) (fun c5 => ?_)
      · skip
        have c5 : 0 ≠ 0 := fun h => c5 ((nI_eq (a := 0) (b := 0) (by omega) (by omega)).mpr h)
        exact absurd rfl c5
      · skip
        have c5 : 0 = 0 := (nI_eq (a := 0) (b := 0) (by omega) (by omega)).mp c5
        refine lv_aload_n hx hb dX4_self_20 rfl (lv_at hl 0 rfl) ?_
        refine va_get (D := (dC, dI)) (ci := 5) (v := .ref aS) (C := RX4) (T := TX4) (N := 20) hx hb hts hinX4 hown hK hP 0 rfl rfl 4 (by decide) hf13 (fun _ h9 => h9) rfl dX4_self_21 ?_
        refine lv_iload_n hx hb dX4_self_24 rfl (lv_at hl 1 rfl) ?_
        refine rz_ld (g := bI) (F := ns) hx hb hK hP 1 1 rfl rfl (by omega) (by omega) dX4_self_25 ?_
        rcases hns : ns ja with _ | _
        · skip
          refine tp_i (y := nI 0) rfl ?_
          refine lv_iload_n hx hb dX4_self_26 rfl (lv_at hl 2 rfl) ?_
          rcases hon : on with _ | _
          · skip
            refine tp_i (y := nI 0) rfl ?_
            refine lv_icmp_eq (tgt := 32) hx hb dX4_self_27 (by decide) (fun c6 => ?_) (fun c6 => ?_)
            · skip
              have c6 : 0 = 0 := (nI_eq (a := 0) (b := 0) (by omega) (by omega)).mp c6
              refine lv_aload_n hx hb dX4_self_32 rfl (lv_at hl 0 rfl) ?_
              refine va_get (D := (dC, dI)) (ci := 5) (v := .ref aS) (C := RX4) (T := TX4) (N := 20) hx hb hts hinX4 hown hK hP 0 rfl rfl 4 (by decide) hf13 (fun _ h9 => h9) rfl dX4_self_33 ?_
              refine lv_iload_n hx hb dX4_self_36 rfl (lv_at hl 1 rfl) ?_
              subst hon
              refine lv_iload_n hx hb dX4_self_37 rfl (lv_at hl 2 rfl) ?_
              refine lv_if_ne (tgt := 45) hx hb dX4_self_38 (by decide) (fun c7 => ?_) (fun c7 => ?_)
              · skip
                have c7 : 0 ≠ 0 := fun h => c7 ((nI_eq (a := 0) (b := 0) (by omega) (by omega)).mpr h)
                exact absurd rfl c7
              · skip
                have c7 : 0 = 0 := (nI_eq (a := 0) (b := 0) (by omega) (by omega)).mp c7
                refine lv_iconst (v := nI 1) hx hb dX4_self_41 (by decide) ?_
                refine lv_goto (tgt := 46) hx hb dX4_self_42 (by decide) ?_
                refine rz_st (g := bI) (F := ns) (v := true) hx hb hK hP hD hS 1 1 rfl rfl (by omega) (by omega) dX4_self_46 (bI_vnar _) (fun H locs hP hD hS => ?_)
                have hP : va_P (dC, dI) vwCl [(m0, .inr (5, [.int (bI false), .int (nI (n)), .int (nI (q)), .ref aJ, .ref aS, .ref aT, .ref aW, .int (bI kn), .int (nI (rk)), .ref aR, .ref aP, .ref aH, .ref aK, .ref aE, .ref aY, .ref aN, .ref aQ, .ref aB, .ref aI, .ref aD])), (aS, .inl (cZ, 30, .inl (fun j => bI ((va_up ns ja (true)) j))))] H := hP
                have hD : va_D A [(m0, .inr (5, [.int (bI false), .int (nI (n)), .int (nI (q)), .ref aJ, .ref aS, .ref aT, .ref aW, .int (bI kn), .int (nI (rk)), .ref aR, .ref aP, .ref aH, .ref aK, .ref aE, .ref aY, .ref aN, .ref aQ, .ref aB, .ref aI, .ref aD])), (aS, .inl (cZ, 30, .inl (fun j => bI ((va_up ns ja (true)) j))))] := hD
                refine lv_aload_n hx hb dX4_self_47 rfl (lv_at hl 0 rfl) ?_
                refine lv_iconst (v := nI 0) hx hb dX4_self_48 (by decide) ?_
                refine va_put (D := (dC, dI)) (ci := 5) (v := .int (nI (0))) (ty := .boolean) (C := RX4) (T := TX4) (N := 20) hx hb hts hinX4 tyX4 tyX4_ok nmX4 hown hK hP hD hS 0 rfl rfl 7 (by decide) hf74 (fun _ h9 => h9) rfl (by decide +kernel) rfl rfl (Nat.le_of_ble_eq_true rfl) dX4_self_49 (fun H locs hP hD hS => ?_)
                have hP : va_P (dC, dI) vwCl [(m0, .inr (5, [.int (bI false), .int (nI (n)), .int (nI (q)), .ref aJ, .ref aS, .ref aT, .ref aW, .int (nI (0)), .int (nI (rk)), .ref aR, .ref aP, .ref aH, .ref aK, .ref aE, .ref aY, .ref aN, .ref aQ, .ref aB, .ref aI, .ref aD])), (aS, .inl (cZ, 30, .inl (fun j => bI ((va_up ns ja (true)) j))))] H := hP
                have hD : va_D A [(m0, .inr (5, [.int (bI false), .int (nI (n)), .int (nI (q)), .ref aJ, .ref aS, .ref aT, .ref aW, .int (nI (0)), .int (nI (rk)), .ref aR, .ref aP, .ref aH, .ref aK, .ref aE, .ref aY, .ref aN, .ref aQ, .ref aB, .ref aI, .ref aD])), (aS, .inl (cZ, 30, .inl (fun j => bI ((va_up ns ja (true)) j))))] := hD
                refine lv_iconst (v := nI 1) hx hb dX4_self_52 (by decide) ?_
                rw [hQ]
                exact W.zret (v := nI (1)) (ty := .boolean) hx hb hr rfl (fun t ht hW => ⟨⟨_, (false, false, va_up ns ja true), rfl, Or.inr ⟨ja, hja, rfl, rfl, Or.inr ⟨hns, rfl, rfl⟩⟩, by rw [ht]; exact hP, va_K.moved hW.alike hK, hD⟩, hS.F ht⟩) hS.2.2 dX4_self_53
            · skip
              have c6 : 0 ≠ 0 := fun h => c6 ((nI_eq (a := 0) (b := 0) (by omega) (by omega)).mpr h)
              exact absurd rfl c6
          · skip
            refine tp_i (y := nI 1) rfl ?_
            refine lv_icmp_eq (tgt := 32) hx hb dX4_self_27 (by decide) (fun c6 => ?_) (fun c6 => ?_)
            · skip
              have c6 : 0 = 1 := (nI_eq (a := 0) (b := 1) (by omega) (by omega)).mp c6
              exact absurd c6 (by decide)
            · skip
              have c6 : 0 ≠ 1 := fun h => c6 ((nI_eq (a := 0) (b := 1) (by omega) (by omega)).mpr h)
              refine lv_iconst (v := nI 0) hx hb dX4_self_30 (by decide) ?_
              rw [hQ]
              exact W.zret (v := nI (0)) (ty := .boolean) hx hb hr rfl (fun t ht hW => ⟨⟨_, (false, kn, ns), rfl, Or.inr ⟨ja, hja, rfl, rfl, Or.inl ⟨by rw [hns, hon]; decide, rfl, rfl⟩⟩, by rw [ht]; exact hP, va_K.moved hW.alike hK, hD⟩, hS.F ht⟩) hS.2.2 dX4_self_31
        · skip
          refine tp_i (y := nI 1) rfl ?_
          refine lv_iload_n hx hb dX4_self_26 rfl (lv_at hl 2 rfl) ?_
          rcases hon : on with _ | _
          · skip
            refine tp_i (y := nI 0) rfl ?_
            refine lv_icmp_eq (tgt := 32) hx hb dX4_self_27 (by decide) (fun c6 => ?_) (fun c6 => ?_)
            · skip
              have c6 : 1 = 0 := (nI_eq (a := 1) (b := 0) (by omega) (by omega)).mp c6
              exact absurd c6 (by decide)
            · skip
              have c6 : 1 ≠ 0 := fun h => c6 ((nI_eq (a := 1) (b := 0) (by omega) (by omega)).mpr h)
              refine lv_iconst (v := nI 0) hx hb dX4_self_30 (by decide) ?_
              rw [hQ]
              exact W.zret (v := nI (0)) (ty := .boolean) hx hb hr rfl (fun t ht hW => ⟨⟨_, (false, kn, ns), rfl, Or.inr ⟨ja, hja, rfl, rfl, Or.inl ⟨by rw [hns, hon]; decide, rfl, rfl⟩⟩, by rw [ht]; exact hP, va_K.moved hW.alike hK, hD⟩, hS.F ht⟩) hS.2.2 dX4_self_31
          · skip
            refine tp_i (y := nI 1) rfl ?_
            refine lv_icmp_eq (tgt := 32) hx hb dX4_self_27 (by decide) (fun c6 => ?_) (fun c6 => ?_)
            · skip
              have c6 : 1 = 1 := (nI_eq (a := 1) (b := 1) (by omega) (by omega)).mp c6
              refine lv_aload_n hx hb dX4_self_32 rfl (lv_at hl 0 rfl) ?_
              refine va_get (D := (dC, dI)) (ci := 5) (v := .ref aS) (C := RX4) (T := TX4) (N := 20) hx hb hts hinX4 hown hK hP 0 rfl rfl 4 (by decide) hf13 (fun _ h9 => h9) rfl dX4_self_33 ?_
              refine lv_iload_n hx hb dX4_self_36 rfl (lv_at hl 1 rfl) ?_
              subst hon
              refine lv_iload_n hx hb dX4_self_37 rfl (lv_at hl 2 rfl) ?_
              refine lv_if_ne (tgt := 45) hx hb dX4_self_38 (by decide) (fun c7 => ?_) (fun c7 => ?_)
              · skip
                have c7 : 1 ≠ 0 := fun h => c7 ((nI_eq (a := 1) (b := 0) (by omega) (by omega)).mpr h)
                refine lv_iconst (v := nI 0) hx hb dX4_self_45 (by decide) ?_
                refine rz_st (g := bI) (F := ns) (v := false) hx hb hK hP hD hS 1 1 rfl rfl (by omega) (by omega) dX4_self_46 (bI_vnar _) (fun H locs hP hD hS => ?_)
                have hP : va_P (dC, dI) vwCl [(m0, .inr (5, [.int (bI false), .int (nI (n)), .int (nI (q)), .ref aJ, .ref aS, .ref aT, .ref aW, .int (bI kn), .int (nI (rk)), .ref aR, .ref aP, .ref aH, .ref aK, .ref aE, .ref aY, .ref aN, .ref aQ, .ref aB, .ref aI, .ref aD])), (aS, .inl (cZ, 30, .inl (fun j => bI ((va_up ns ja (false)) j))))] H := hP
                have hD : va_D A [(m0, .inr (5, [.int (bI false), .int (nI (n)), .int (nI (q)), .ref aJ, .ref aS, .ref aT, .ref aW, .int (bI kn), .int (nI (rk)), .ref aR, .ref aP, .ref aH, .ref aK, .ref aE, .ref aY, .ref aN, .ref aQ, .ref aB, .ref aI, .ref aD])), (aS, .inl (cZ, 30, .inl (fun j => bI ((va_up ns ja (false)) j))))] := hD
                refine lv_aload_n hx hb dX4_self_47 rfl (lv_at hl 0 rfl) ?_
                refine lv_iconst (v := nI 0) hx hb dX4_self_48 (by decide) ?_
                refine va_put (D := (dC, dI)) (ci := 5) (v := .int (nI (0))) (ty := .boolean) (C := RX4) (T := TX4) (N := 20) hx hb hts hinX4 tyX4 tyX4_ok nmX4 hown hK hP hD hS 0 rfl rfl 7 (by decide) hf74 (fun _ h9 => h9) rfl (by decide +kernel) rfl rfl (Nat.le_of_ble_eq_true rfl) dX4_self_49 (fun H locs hP hD hS => ?_)
                have hP : va_P (dC, dI) vwCl [(m0, .inr (5, [.int (bI false), .int (nI (n)), .int (nI (q)), .ref aJ, .ref aS, .ref aT, .ref aW, .int (nI (0)), .int (nI (rk)), .ref aR, .ref aP, .ref aH, .ref aK, .ref aE, .ref aY, .ref aN, .ref aQ, .ref aB, .ref aI, .ref aD])), (aS, .inl (cZ, 30, .inl (fun j => bI ((va_up ns ja (false)) j))))] H := hP
                have hD : va_D A [(m0, .inr (5, [.int (bI false), .int (nI (n)), .int (nI (q)), .ref aJ, .ref aS, .ref aT, .ref aW, .int (nI (0)), .int (nI (rk)), .ref aR, .ref aP, .ref aH, .ref aK, .ref aE, .ref aY, .ref aN, .ref aQ, .ref aB, .ref aI, .ref aD])), (aS, .inl (cZ, 30, .inl (fun j => bI ((va_up ns ja (false)) j))))] := hD
                refine lv_iconst (v := nI 1) hx hb dX4_self_52 (by decide) ?_
                rw [hQ]
                exact W.zret (v := nI (1)) (ty := .boolean) hx hb hr rfl (fun t ht hW => ⟨⟨_, (false, false, va_up ns ja false), rfl, Or.inr ⟨ja, hja, rfl, rfl, Or.inr ⟨hns, rfl, rfl⟩⟩, by rw [ht]; exact hP, va_K.moved hW.alike hK, hD⟩, hS.F ht⟩) hS.2.2 dX4_self_53
              · skip
                have c7 : 1 = 0 := (nI_eq (a := 1) (b := 0) (by omega) (by omega)).mp c7
                exact absurd c7 (by decide)
            · skip
              have c6 : 1 ≠ 1 := fun h => c6 ((nI_eq (a := 1) (b := 1) (by omega) (by omega)).mpr h)
              exact absurd rfl c6
    · skip
      have c : 1 = 0 := (nI_eq (a := 1) (b := 0) (by omega) (by omega)).mp c
      exact absurd c (by decide)

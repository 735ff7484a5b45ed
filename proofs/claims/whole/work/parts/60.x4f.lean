set_option maxHeartbeats 4000000 in
set_option maxRecDepth 100000 in
theorem c_X4_isLess (l : Launch) (dC : Nat → ClassId) (dI : Nat → Nat → Nat) (sz : Nat) (m0 aJ aS aT aW aR aP aH aK aE aY aN aQ aB aI aD n q rk : Nat) (th : Int32) (kn : Bool) (cI cZ : ClassId) (be : Nat → Nat) (ti : Nat → Nat) (hn : n < 31) (h1 : ∀ k, k < n → ti k < 100) (h2 : ∀ k, k < n → be k < 100) : Met l yX4_isLess wsX4_isLess ({ frames := 0, cells := 0, slots := 0, locals := 0 }) (va_Pc [.ref m0] (fun U => U.heap.size = sz ∧ va_P (dC, dI) vwCl [(m0, .inr (5, [.int (th), .int (nI (n)), .int (nI (q)), .ref aJ, .ref aS, .ref aT, .ref aW, .int (bI kn), .int (nI (rk)), .ref aR, .ref aP, .ref aH, .ref aK, .ref aE, .ref aY, .ref aN, .ref aQ, .ref aB, .ref aI, .ref aD])), (aB, .inl (cI, 30, .inl (fun j => nI (be j)))), (aI, .inl (cI, 30, .inl (fun j => nI (ti j))))] U.heap ∧ va_K (dC, dI) vwCl [(cI, .int), (cZ, .boolean)] U ∧ va_D (fun _ => True) [(m0, .inr (5, [.int (th), .int (nI (n)), .int (nI (q)), .ref aJ, .ref aS, .ref aT, .ref aW, .int (bI kn), .int (nI (rk)), .ref aR, .ref aP, .ref aH, .ref aK, .ref aE, .ref aY, .ref aN, .ref aQ, .ref aB, .ref aI, .ref aD])), (aB, .inl (cI, 30, .inl (fun j => nI (be j)))), (aI, .inl (cI, 30, .inl (fun j => nI (ti j))))])) (va_Qi (fun (z : Int32) (_ : Unit) => z = bI (lexL ti be n 0)) (fun _ t => va_P (dC, dI) vwCl [(m0, .inr (5, [.int (th), .int (nI (n)), .int (nI (q)), .ref aJ, .ref aS, .ref aT, .ref aW, .int (bI kn), .int (nI (rk)), .ref aR, .ref aP, .ref aH, .ref aK, .ref aE, .ref aY, .ref aN, .ref aQ, .ref aB, .ref aI, .ref aD])), (aB, .inl (cI, 30, .inl (fun j => nI (be j)))), (aI, .inl (cI, 30, .inl (fun j => nI (ti j))))] t.heap ∧ va_K (dC, dI) vwCl [(cI, .int), (cZ, .boolean)] t ∧ va_D (va_A [(m0, .inr (5, [.int (th), .int (nI (n)), .int (nI (q)), .ref aJ, .ref aS, .ref aT, .ref aW, .int (bI kn), .int (nI (rk)), .ref aR, .ref aP, .ref aH, .ref aK, .ref aE, .ref aY, .ref aN, .ref aQ, .ref aB, .ref aI, .ref aD])), (aB, .inl (cI, 30, .inl (fun j => nI (be j)))), (aI, .inl (cI, 30, .inl (fun j => nI (ti j))))] sz) [(m0, .inr (5, [.int (th), .int (nI (n)), .int (nI (q)), .ref aJ, .ref aS, .ref aT, .ref aW, .int (bI kn), .int (nI (rk)), .ref aR, .ref aP, .ref aH, .ref aK, .ref aE, .ref aY, .ref aN, .ref aQ, .ref aB, .ref aI, .ref aD])), (aB, .inl (cI, 30, .inl (fun j => nI (be j)))), (aI, .inl (cI, 30, .inl (fun j => nI (ti j))))]) (va_A [(m0, .inr (5, [.int (th), .int (nI (n)), .int (nI (q)), .ref aJ, .ref aS, .ref aT, .ref aW, .int (bI kn), .int (nI (rk)), .ref aR, .ref aP, .ref aH, .ref aK, .ref aE, .ref aY, .ref aN, .ref aQ, .ref aB, .ref aI, .ref aD])), (aB, .inl (cI, 30, .inl (fun j => nI (be j)))), (aI, .inl (cI, 30, .inl (fun j => nI (ti j))))] sz)) 0 0 (va_A [(m0, .inr (5, [.int (th), .int (nI (n)), .int (nI (q)), .ref aJ, .ref aS, .ref aT, .ref aW, .int (bI kn), .int (nI (rk)), .ref aR, .ref aP, .ref aH, .ref aK, .ref aE, .ref aY, .ref aN, .ref aQ, .ref aB, .ref aI, .ref aD])), (aB, .inl (cI, 30, .inl (fun j => nI (be j)))), (aI, .inl (cI, 30, .inl (fun j => nI (ti j))))] sz) := by
  refine Met.ofW (cc := cX4_isLess) (maxL := 2) (ret := (some .boolean)) (by decide) rfl ?_
  intro zp ze s m args below meth zc s₁ B hml hv
  obtain ⟨hargs, hsz, hP, hK, hD0⟩ := hv
  have hx := B.exec
  have hb := B.bytes
  have hr := B.returns
  have hts := atoms_spec (ws := wsX4_isLess) B.pre
  have hown : s.vm.findClass RX4 = some m.cls := findClass_of_methodNamed B.named
  have hlocks := B.notSynchronized
  subst hsz
  obtain ⟨Q, hQ⟩ : ∃ Q, Q = MQ below (va_Qi (fun (z : Int32) (_ : Unit) => z = bI (lexL ti be n 0)) (fun _ t => va_P (dC, dI) vwCl [(m0, .inr (5, [.int (th), .int (nI (n)), .int (nI (q)), .ref aJ, .ref aS, .ref aT, .ref aW, .int (bI kn), .int (nI (rk)), .ref aR, .ref aP, .ref aH, .ref aK, .ref aE, .ref aY, .ref aN, .ref aQ, .ref aB, .ref aI, .ref aD])), (aB, .inl (cI, 30, .inl (fun j => nI (be j)))), (aI, .inl (cI, 30, .inl (fun j => nI (ti j))))] t.heap ∧ va_K (dC, dI) vwCl [(cI, .int), (cZ, .boolean)] t ∧ va_D (va_A [(m0, .inr (5, [.int (th), .int (nI (n)), .int (nI (q)), .ref aJ, .ref aS, .ref aT, .ref aW, .int (bI kn), .int (nI (rk)), .ref aR, .ref aP, .ref aH, .ref aK, .ref aE, .ref aY, .ref aN, .ref aQ, .ref aB, .ref aI, .ref aD])), (aB, .inl (cI, 30, .inl (fun j => nI (be j)))), (aI, .inl (cI, 30, .inl (fun j => nI (ti j))))] s.heap.size) [(m0, .inr (5, [.int (th), .int (nI (n)), .int (nI (q)), .ref aJ, .ref aS, .ref aT, .ref aW, .int (bI kn), .int (nI (rk)), .ref aR, .ref aP, .ref aH, .ref aK, .ref aE, .ref aY, .ref aN, .ref aQ, .ref aB, .ref aI, .ref aD])), (aB, .inl (cI, 30, .inl (fun j => nI (be j)))), (aI, .inl (cI, 30, .inl (fun j => nI (ti j))))]) (va_A [(m0, .inr (5, [.int (th), .int (nI (n)), .int (nI (q)), .ref aJ, .ref aS, .ref aT, .ref aW, .int (bI kn), .int (nI (rk)), .ref aR, .ref aP, .ref aH, .ref aK, .ref aE, .ref aY, .ref aN, .ref aQ, .ref aB, .ref aI, .ref aD])), (aB, .inl (cI, 30, .inl (fun j => nI (be j)))), (aI, .inl (cI, 30, .inl (fun j => nI (ti j))))] s.heap.size)) args s 0 0 (va_A [(m0, .inr (5, [.int (th), .int (nI (n)), .int (nI (q)), .ref aJ, .ref aS, .ref aT, .ref aW, .int (bI kn), .int (nI (rk)), .ref aR, .ref aP, .ref aH, .ref aK, .ref aE, .ref aY, .ref aN, .ref aQ, .ref aB, .ref aI, .ref aD])), (aB, .inl (cI, 30, .inl (fun j => nI (be j)))), (aI, .inl (cI, 30, .inl (fun j => nI (ti j))))] s.heap.size) := ⟨_, rfl⟩
  rw [← hQ]
  have hD := hD0.self (sz := s.heap.size)
  generalize hAe : (va_A [(m0, .inr (5, [.int (th), .int (nI (n)), .int (nI (q)), .ref aJ, .ref aS, .ref aT, .ref aW, .int (bI kn), .int (nI (rk)), .ref aR, .ref aP, .ref aH, .ref aK, .ref aE, .ref aY, .ref aN, .ref aQ, .ref aB, .ref aI, .ref aD])), (aB, .inl (cI, 30, .inl (fun j => nI (be j)))), (aI, .inl (cI, 30, .inl (fun j => nI (ti j))))] s.heap.size) = A at hD hQ
  have hA : ∀ q : Nat, s.heap.size ≤ q → A q := fun q h => by rw [← hAe]; exact Or.inr h
  have hS : va_S A s.heap s.heap [] := va_S.rf
  have hl := lv_entry ([.ref m0]) (n := 2) (Nat.le_of_ble_eq_true rfl)
  generalize hen : entryFrame m args 2 = fr
  rw [hargs, lg_entry_eq] at hen
  subst hen
  generalize (lg_sl ([.ref m0]) ++ List.replicate (2 - (lg_sl ([.ref m0])).length) Slot.unset).toArray = ls at hl ⊢
  have hl : lv_has ls 2 [(0, .ref m0)] := hl
  have hinX4 : ∀ w ∈ wsX40, w ∈ wsX4_isLess := by decide +kernel
  have hf47 := hts (.fieldLink RX4 47 "LightRowsModel" "best" "[I") (by decide +kernel)
  have hf50 := hts (.fieldLink RX4 50 "LightRowsModel" "tried" "[I") (by decide +kernel)
  have hf56 := hts (.fieldLink RX4 56 "LightRowsModel" "lamps" "I") (by decide +kernel)
  refine lv_iconst (v := nI 0) hx hb dX4_isLess_0 (by decide) ?_
  refine lv_istore_n (lv' := [(1, .int (nI (0))), (0, .ref m0)]) hx hb dX4_isLess_1 rfl hl (by decide) rfl (fun ls hl => ?_)
  have lp : ∀ (k : Nat) (i : Nat), (i + k = n) → (lexL ti be n 0 = lexL ti be k i) → ∀ (H : Heap) (locs : List Loc), va_P (dC, dI) vwCl [(m0, .inr (5, [.int (th), .int (nI (n)), .int (nI (q)), .ref aJ, .ref aS, .ref aT, .ref aW, .int (bI kn), .int (nI (rk)), .ref aR, .ref aP, .ref aH, .ref aK, .ref aE, .ref aY, .ref aN, .ref aQ, .ref aB, .ref aI, .ref aD])), (aB, .inl (cI, 30, .inl (fun j => nI (be j)))), (aI, .inl (cI, 30, .inl (fun j => nI (ti j))))] H → va_D A [(m0, .inr (5, [.int (th), .int (nI (n)), .int (nI (q)), .ref aJ, .ref aS, .ref aT, .ref aW, .int (bI kn), .int (nI (rk)), .ref aR, .ref aP, .ref aH, .ref aK, .ref aE, .ref aY, .ref aN, .ref aQ, .ref aB, .ref aI, .ref aD])), (aB, .inl (cI, 30, .inl (fun j => nI (be j)))), (aI, .inl (cI, 30, .inl (fun j => nI (ti j))))] → va_S A s.heap H locs → ∀ (ls : Array Slot), lv_has ls 2 [(0, .ref m0), (1, .int (nI (i)))] → W zp l ze (headSpec wsX4_isLess ({ frames := 0, cells := 0, slots := 0, locals := 0 })).room s m args below meth zc H locs 0 0 Q (F0 m 2 ls []) := by
    intro k
    induction k with
    | zero =>
      intro i hi hI H locs hP hD hS ls hl
      refine lv_iload_n hx hb dX4_isLess_2 rfl (lv_at hl 1 rfl) ?_
      refine lv_aload_n hx hb dX4_isLess_3 rfl (lv_at hl 0 rfl) ?_
      refine va_get (D := (dC, dI)) (ci := 5) (v := .int (nI (n))) (C := RX4) (T := TX4) (N := 20) hx hb hts hinX4 hown hK hP 0 rfl rfl 1 (by decide) hf56 (fun _ h9 => h9) rfl dX4_isLess_4 ?_
      refine lv_icmp_ge (tgt := 52) hx hb dX4_isLess_7 (by decide) (fun c => ?_) (fun c => ?_)
      · skip
        have c : n ≤ i := (nI_leI (a := n) (b := i) (by omega) (by omega)).mp c
        refine lv_iconst (v := nI 0) hx hb dX4_isLess_52 (by decide) ?_
        rw [hQ]
        exact W.zret (v := nI (0)) (ty := .boolean) hx hb hr rfl (fun t ht hW => ⟨⟨_, (), rfl, by rw [hI]; rfl, by rw [ht]; exact hP, va_K.moved hW.alike hK, hD⟩, hS.F ht⟩) hS.2.2 dX4_isLess_53
      · skip
        have c : i < n := Nat.not_le.mp (fun h => c ((nI_leI (a := n) (b := i) (by omega) (by omega)).mpr h))
        exact absurd c (by omega)
    | succ k ih =>
      intro i hi hI H locs hP hD hS ls hl
      refine lv_iload_n hx hb dX4_isLess_2 rfl (lv_at hl 1 rfl) ?_
      refine lv_aload_n hx hb dX4_isLess_3 rfl (lv_at hl 0 rfl) ?_
      refine va_get (D := (dC, dI)) (ci := 5) (v := .int (nI (n))) (C := RX4) (T := TX4) (N := 20) hx hb hts hinX4 hown hK hP 0 rfl rfl 1 (by decide) hf56 (fun _ h9 => h9) rfl dX4_isLess_4 ?_
      refine lv_icmp_ge (tgt := 52) hx hb dX4_isLess_7 (by decide) (fun c => ?_) (fun c => ?_)
      · skip
        have c : n ≤ i := (nI_leI (a := n) (b := i) (by omega) (by omega)).mp c
        exact absurd c (by omega)
      · skip
        have c : i < n := Nat.not_le.mp (fun h => c ((nI_leI (a := n) (b := i) (by omega) (by omega)).mpr h))
        have e1 := h1 i (by omega)
        have e2 := h2 i (by omega)
        refine lv_aload_n hx hb dX4_isLess_10 rfl (lv_at hl 0 rfl) ?_
        refine va_get (D := (dC, dI)) (ci := 5) (v := .ref aI) (C := RX4) (T := TX4) (N := 20) hx hb hts hinX4 hown hK hP 0 rfl rfl 18 (by decide) hf50 (fun _ h9 => h9) rfl dX4_isLess_11 ?_
        refine lv_iload_n hx hb dX4_isLess_14 rfl (lv_at hl 1 rfl) ?_
        refine ra_ld (g := nI) (F := ti) hx hb hK hP 2 0 rfl rfl (by omega) (by omega) dX4_isLess_15 ?_
        refine lv_aload_n hx hb dX4_isLess_16 rfl (lv_at hl 0 rfl) ?_
        refine va_get (D := (dC, dI)) (ci := 5) (v := .ref aB) (C := RX4) (T := TX4) (N := 20) hx hb hts hinX4 hown hK hP 0 rfl rfl 17 (by decide) hf47 (fun _ h9 => h9) rfl dX4_isLess_17 ?_
        refine lv_iload_n hx hb dX4_isLess_20 rfl (lv_at hl 1 rfl) ?_
        refine ra_ld (g := nI) (F := be) hx hb hK hP 1 0 rfl rfl (by omega) (by omega) dX4_isLess_21 ?_
        refine lv_icmp_eq (tgt := 46) hx hb dX4_isLess_22 (by decide) (fun hc2 => ?_) (fun hc2 => ?_)
        · skip
          have hc2 : ti i = be i := (nI_eq (a := ti i) (b := be i) (by omega) (by omega)).mp hc2
          refine lv_iinc (v := nI (i + 1)) (lv' := [(1, .int (nI (i + 1))), (0, .ref m0)]) hx hb dX4_isLess_46 hl (k := 1) rfl (nI_1 _) (by decide) rfl (fun ls hl => ?_)
          refine lv_goto (tgt := 2) hx hb dX4_isLess_49 (by decide) ?_
          exact ih (i + 1) (by omega) (by rw [hI]; simp only [lexL]; rw [if_pos hc2]) _ _ hP hD hS ls (lv_sub hl [1, 0] rfl)
        · skip
          have hc2 : ti i ≠ be i := fun h => hc2 ((nI_eq (a := ti i) (b := be i) (by omega) (by omega)).mpr h)
          refine lv_aload_n hx hb dX4_isLess_25 rfl (lv_at hl 0 rfl) ?_
          refine va_get (D := (dC, dI)) (ci := 5) (v := .ref aI) (C := RX4) (T := TX4) (N := 20) hx hb hts hinX4 hown hK hP 0 rfl rfl 18 (by decide) hf50 (fun _ h9 => h9) rfl dX4_isLess_26 ?_
          refine lv_iload_n hx hb dX4_isLess_29 rfl (lv_at hl 1 rfl) ?_
          refine ra_ld (g := nI) (F := ti) hx hb hK hP 2 0 rfl rfl (by omega) (by omega) dX4_isLess_30 ?_
          refine lv_aload_n hx hb dX4_isLess_31 rfl (lv_at hl 0 rfl) ?_
          refine va_get (D := (dC, dI)) (ci := 5) (v := .ref aB) (C := RX4) (T := TX4) (N := 20) hx hb hts hinX4 hown hK hP 0 rfl rfl 17 (by decide) hf47 (fun _ h9 => h9) rfl dX4_isLess_32 ?_
          refine lv_iload_n hx hb dX4_isLess_35 rfl (lv_at hl 1 rfl) ?_
          refine ra_ld (g := nI) (F := be) hx hb hK hP 1 0 rfl rfl (by omega) (by omega) dX4_isLess_36 ?_
          refine lv_icmp_ge (tgt := 44) hx hb dX4_isLess_37 (by decide) (fun hc3 => ?_) (fun hc3 => ?_)
          · skip
            have hc3 : be i ≤ ti i := (nI_leI (a := be i) (b := ti i) (by omega) (by omega)).mp hc3
            refine lv_iconst (v := nI 0) hx hb dX4_isLess_44 (by decide) ?_
            rw [hQ]
            exact W.zret (v := nI (0)) (ty := .boolean) hx hb hr rfl (fun t ht hW => ⟨⟨_, (), rfl, by rw [hI]; simp only [lexL]; rw [if_neg hc2, decide_eq_false (by omega)]; rfl, by rw [ht]; exact hP, va_K.moved hW.alike hK, hD⟩, hS.F ht⟩) hS.2.2 dX4_isLess_45
          · skip
            have hc3 : ti i < be i := Nat.not_le.mp (fun h => hc3 ((nI_leI (a := be i) (b := ti i) (by omega) (by omega)).mpr h))
            refine lv_iconst (v := nI 1) hx hb dX4_isLess_40 (by decide) ?_
            refine lv_goto (tgt := 45) hx hb dX4_isLess_41 (by decide) ?_
            rw [hQ]
            exact W.zret (v := nI (1)) (ty := .boolean) hx hb hr rfl (fun t ht hW => ⟨⟨_, (), rfl, by rw [hI]; simp only [lexL]; rw [if_neg hc2, decide_eq_true (by omega)]; rfl, by rw [ht]; exact hP, va_K.moved hW.alike hK, hD⟩, hS.F ht⟩) hS.2.2 dX4_isLess_45
  exact lp n 0 (by omega) rfl _ _ hP hD hS ls (lv_sub hl [1, 0] rfl)

set_option maxHeartbeats 4000000 in
set_option maxRecDepth 100000 in
theorem c_X4_tryWay (l : Launch) (dC : Nat → ClassId) (dI : Nat → Nat → Nat) (sz : Nat) (m0 aJ aS aT aW aR aP aH aK aE aY aN aQ aB aI aD n q rk : Nat) (th : Int32) (kn : Bool) (cI cZ : ClassId) (an : Nat → Nat) (qu : Nat → Nat) (ti : Nat → Nat) (QU : Nat → Nat → Nat) (way fr : Nat) (hn : n < 31) (hq : 2 ≤ q) (hq2 : q < 100) (hfr : fr ≤ 30) (hwy : way < q ^ fr) (hwy2 : way < 100000) (hqu : ∀ f, f < fr → ∀ k, k < n → qu (30 * f + k) = QU f k) (bqu : ∀ f, f < fr → ∀ k, k < n → QU f k < q) (ban : ∀ k, k < n → an k < q) : Met l yX4_tryWay wsX4_tryWay ({ frames := 0, cells := 0, slots := 0, locals := 0 }) (va_Pc [.ref m0, .int (nI (way))] (fun U => U.heap.size = sz ∧ va_P (dC, dI) vwCl [(m0, .inr (5, [.int (th), .int (nI (n)), .int (nI (q)), .ref aJ, .ref aS, .ref aT, .ref aW, .int (bI kn), .int (nI (rk)), .ref aR, .ref aP, .ref aH, .ref aK, .ref aE, .ref aY, .ref aN, .ref aQ, .ref aB, .ref aI, .ref aD])), (aN, .inl (cI, 30, .inl (fun j => nI (an j)))), (aQ, .inl (cI, 900, .inl (fun j => nI (qu j)))), (aI, .inl (cI, 30, .inl (fun j => nI (ti j))))] U.heap ∧ va_K (dC, dI) vwCl [(cI, .int), (cZ, .boolean)] U ∧ va_D (fun _ => True) [(m0, .inr (5, [.int (th), .int (nI (n)), .int (nI (q)), .ref aJ, .ref aS, .ref aT, .ref aW, .int (bI kn), .int (nI (rk)), .ref aR, .ref aP, .ref aH, .ref aK, .ref aE, .ref aY, .ref aN, .ref aQ, .ref aB, .ref aI, .ref aD])), (aN, .inl (cI, 30, .inl (fun j => nI (an j)))), (aQ, .inl (cI, 900, .inl (fun j => nI (qu j)))), (aI, .inl (cI, 30, .inl (fun j => nI (ti j))))])) (va_Qi (fun (z : Int32) (u : Nat → Nat) => (∀ k, k < n → u k = twF q QU way 0 way an k) ∧ z = nI (sumF (twF q QU way 0 way an) n)) (fun u t => va_P (dC, dI) vwCl [(m0, .inr (5, [.int (th), .int (nI (n)), .int (nI (q)), .ref aJ, .ref aS, .ref aT, .ref aW, .int (bI kn), .int (nI (rk)), .ref aR, .ref aP, .ref aH, .ref aK, .ref aE, .ref aY, .ref aN, .ref aQ, .ref aB, .ref aI, .ref aD])), (aN, .inl (cI, 30, .inl (fun j => nI (an j)))), (aQ, .inl (cI, 900, .inl (fun j => nI (qu j)))), (aI, .inl (cI, 30, .inl (fun j => nI (u j))))] t.heap ∧ va_K (dC, dI) vwCl [(cI, .int), (cZ, .boolean)] t ∧ va_D (va_A [(m0, .inr (5, [.int (th), .int (nI (n)), .int (nI (q)), .ref aJ, .ref aS, .ref aT, .ref aW, .int (bI kn), .int (nI (rk)), .ref aR, .ref aP, .ref aH, .ref aK, .ref aE, .ref aY, .ref aN, .ref aQ, .ref aB, .ref aI, .ref aD])), (aN, .inl (cI, 30, .inl (fun j => nI (an j)))), (aQ, .inl (cI, 900, .inl (fun j => nI (qu j)))), (aI, .inl (cI, 30, .inl (fun j => nI (ti j))))] sz) [(m0, .inr (5, [.int (th), .int (nI (n)), .int (nI (q)), .ref aJ, .ref aS, .ref aT, .ref aW, .int (bI kn), .int (nI (rk)), .ref aR, .ref aP, .ref aH, .ref aK, .ref aE, .ref aY, .ref aN, .ref aQ, .ref aB, .ref aI, .ref aD])), (aN, .inl (cI, 30, .inl (fun j => nI (an j)))), (aQ, .inl (cI, 900, .inl (fun j => nI (qu j)))), (aI, .inl (cI, 30, .inl (fun j => nI (u j))))]) (va_A [(m0, .inr (5, [.int (th), .int (nI (n)), .int (nI (q)), .ref aJ, .ref aS, .ref aT, .ref aW, .int (bI kn), .int (nI (rk)), .ref aR, .ref aP, .ref aH, .ref aK, .ref aE, .ref aY, .ref aN, .ref aQ, .ref aB, .ref aI, .ref aD])), (aN, .inl (cI, 30, .inl (fun j => nI (an j)))), (aQ, .inl (cI, 900, .inl (fun j => nI (qu j)))), (aI, .inl (cI, 30, .inl (fun j => nI (ti j))))] sz)) 0 0 (va_A [(m0, .inr (5, [.int (th), .int (nI (n)), .int (nI (q)), .ref aJ, .ref aS, .ref aT, .ref aW, .int (bI kn), .int (nI (rk)), .ref aR, .ref aP, .ref aH, .ref aK, .ref aE, .ref aY, .ref aN, .ref aQ, .ref aB, .ref aI, .ref aD])), (aN, .inl (cI, 30, .inl (fun j => nI (an j)))), (aQ, .inl (cI, 900, .inl (fun j => nI (qu j)))), (aI, .inl (cI, 30, .inl (fun j => nI (ti j))))] sz) := by
  refine Met.ofW (cc := cX4_tryWay) (maxL := 6) (ret := (some .int)) (by decide) rfl ?_
  intro zp ze s m args below meth zc s₁ B hml hv
  obtain ⟨hargs, hsz, hP, hK, hD0⟩ := hv
  have hx := B.exec
  have hb := B.bytes
  have hr := B.returns
  have hts := atoms_spec (ws := wsX4_tryWay) B.pre
  have hown : s.vm.findClass RX4 = some m.cls := findClass_of_methodNamed B.named
  have hlocks := B.notSynchronized
  subst hsz
  obtain ⟨Q, hQ⟩ : ∃ Q, Q = MQ below (va_Qi (fun (z : Int32) (u : Nat → Nat) => (∀ k, k < n → u k = twF q QU way 0 way an k) ∧ z = nI (sumF (twF q QU way 0 way an) n)) (fun u t => va_P (dC, dI) vwCl [(m0, .inr (5, [.int (th), .int (nI (n)), .int (nI (q)), .ref aJ, .ref aS, .ref aT, .ref aW, .int (bI kn), .int (nI (rk)), .ref aR, .ref aP, .ref aH, .ref aK, .ref aE, .ref aY, .ref aN, .ref aQ, .ref aB, .ref aI, .ref aD])), (aN, .inl (cI, 30, .inl (fun j => nI (an j)))), (aQ, .inl (cI, 900, .inl (fun j => nI (qu j)))), (aI, .inl (cI, 30, .inl (fun j => nI (u j))))] t.heap ∧ va_K (dC, dI) vwCl [(cI, .int), (cZ, .boolean)] t ∧ va_D (va_A [(m0, .inr (5, [.int (th), .int (nI (n)), .int (nI (q)), .ref aJ, .ref aS, .ref aT, .ref aW, .int (bI kn), .int (nI (rk)), .ref aR, .ref aP, .ref aH, .ref aK, .ref aE, .ref aY, .ref aN, .ref aQ, .ref aB, .ref aI, .ref aD])), (aN, .inl (cI, 30, .inl (fun j => nI (an j)))), (aQ, .inl (cI, 900, .inl (fun j => nI (qu j)))), (aI, .inl (cI, 30, .inl (fun j => nI (ti j))))] s.heap.size) [(m0, .inr (5, [.int (th), .int (nI (n)), .int (nI (q)), .ref aJ, .ref aS, .ref aT, .ref aW, .int (bI kn), .int (nI (rk)), .ref aR, .ref aP, .ref aH, .ref aK, .ref aE, .ref aY, .ref aN, .ref aQ, .ref aB, .ref aI, .ref aD])), (aN, .inl (cI, 30, .inl (fun j => nI (an j)))), (aQ, .inl (cI, 900, .inl (fun j => nI (qu j)))), (aI, .inl (cI, 30, .inl (fun j => nI (u j))))]) (va_A [(m0, .inr (5, [.int (th), .int (nI (n)), .int (nI (q)), .ref aJ, .ref aS, .ref aT, .ref aW, .int (bI kn), .int (nI (rk)), .ref aR, .ref aP, .ref aH, .ref aK, .ref aE, .ref aY, .ref aN, .ref aQ, .ref aB, .ref aI, .ref aD])), (aN, .inl (cI, 30, .inl (fun j => nI (an j)))), (aQ, .inl (cI, 900, .inl (fun j => nI (qu j)))), (aI, .inl (cI, 30, .inl (fun j => nI (ti j))))] s.heap.size)) args s 0 0 (va_A [(m0, .inr (5, [.int (th), .int (nI (n)), .int (nI (q)), .ref aJ, .ref aS, .ref aT, .ref aW, .int (bI kn), .int (nI (rk)), .ref aR, .ref aP, .ref aH, .ref aK, .ref aE, .ref aY, .ref aN, .ref aQ, .ref aB, .ref aI, .ref aD])), (aN, .inl (cI, 30, .inl (fun j => nI (an j)))), (aQ, .inl (cI, 900, .inl (fun j => nI (qu j)))), (aI, .inl (cI, 30, .inl (fun j => nI (ti j))))] s.heap.size) := ⟨_, rfl⟩
  rw [← hQ]
  have hD := hD0.self (sz := s.heap.size)
  generalize hAe : (va_A [(m0, .inr (5, [.int (th), .int (nI (n)), .int (nI (q)), .ref aJ, .ref aS, .ref aT, .ref aW, .int (bI kn), .int (nI (rk)), .ref aR, .ref aP, .ref aH, .ref aK, .ref aE, .ref aY, .ref aN, .ref aQ, .ref aB, .ref aI, .ref aD])), (aN, .inl (cI, 30, .inl (fun j => nI (an j)))), (aQ, .inl (cI, 900, .inl (fun j => nI (qu j)))), (aI, .inl (cI, 30, .inl (fun j => nI (ti j))))] s.heap.size) = A at hD hQ
  have hA : ∀ q : Nat, s.heap.size ≤ q → A q := fun q h => by rw [← hAe]; exact Or.inr h
  have hS : va_S A s.heap s.heap [] := va_S.rf
  have hl := lv_entry ([.ref m0, .int (nI (way))]) (n := 6) (Nat.le_of_ble_eq_true rfl)
  generalize hen : entryFrame m args 6 = fr
  rw [hargs, lg_entry_eq] at hen
  subst hen
  generalize (lg_sl ([.ref m0, .int (nI (way))]) ++ List.replicate (6 - (lg_sl ([.ref m0, .int (nI (way))])).length) Slot.unset).toArray = ls at hl ⊢
  have hl : lv_has ls 6 [(0, .ref m0), (1, .int (nI (way)))] := hl
  have hinX4 : ∀ w ∈ wsX40, w ∈ wsX4_tryWay := by decide +kernel
  have hf41 := hts (.fieldLink RX4 41 "LightRowsModel" "answer" "[I") (by decide +kernel)
  have hf44 := hts (.fieldLink RX4 44 "LightRowsModel" "quiet" "[I") (by decide +kernel)
  have hf50 := hts (.fieldLink RX4 50 "LightRowsModel" "tried" "[I") (by decide +kernel)
  have hf56 := hts (.fieldLink RX4 56 "LightRowsModel" "lamps" "I") (by decide +kernel)
  have hf60 := hts (.fieldLink RX4 60 "LightRowsModel" "p" "I") (by decide +kernel)
  refine lv_iconst (v := nI 0) hx hb dX4_tryWay_0 (by decide) ?_
  refine lv_istore_n (lv' := [(2, .int (nI (0))), (0, .ref m0), (1, .int (nI (way)))]) hx hb dX4_tryWay_1 rfl hl (by decide) rfl (fun ls hl => ?_)
  have lp : ∀ (k0 : Nat) (i : Nat) (F : Nat → Nat), (i + k0 = n) → (∀ k, k < i → F k = an k) → ∀ (H : Heap) (locs : List Loc), va_P (dC, dI) vwCl [(m0, .inr (5, [.int (th), .int (nI (n)), .int (nI (q)), .ref aJ, .ref aS, .ref aT, .ref aW, .int (bI kn), .int (nI (rk)), .ref aR, .ref aP, .ref aH, .ref aK, .ref aE, .ref aY, .ref aN, .ref aQ, .ref aB, .ref aI, .ref aD])), (aN, .inl (cI, 30, .inl (fun j => nI (an j)))), (aQ, .inl (cI, 900, .inl (fun j => nI (qu j)))), (aI, .inl (cI, 30, .inl (fun j => nI (F j))))] H → va_D A [(m0, .inr (5, [.int (th), .int (nI (n)), .int (nI (q)), .ref aJ, .ref aS, .ref aT, .ref aW, .int (bI kn), .int (nI (rk)), .ref aR, .ref aP, .ref aH, .ref aK, .ref aE, .ref aY, .ref aN, .ref aQ, .ref aB, .ref aI, .ref aD])), (aN, .inl (cI, 30, .inl (fun j => nI (an j)))), (aQ, .inl (cI, 900, .inl (fun j => nI (qu j)))), (aI, .inl (cI, 30, .inl (fun j => nI (F j))))] → va_S A s.heap H locs → ∀ (ls : Array Slot), lv_has ls 6 [(0, .ref m0), (1, .int (nI (way))), (2, .int (nI (i)))] → W zp l ze (headSpec wsX4_tryWay ({ frames := 0, cells := 0, slots := 0, locals := 0 })).room s m args below meth zc H locs 0 0 Q (F0 m 2 ls []) := by
    intro k0
    induction k0 with
    | zero =>
      intro i F hi f1 H locs hP hD hS ls hl
      refine lv_iload_n hx hb dX4_tryWay_2 rfl (lv_at hl 2 rfl) ?_
      refine lv_aload_n hx hb dX4_tryWay_3 rfl (lv_at hl 0 rfl) ?_
      refine va_get (D := (dC, dI)) (ci := 5) (v := .int (nI (n))) (C := RX4) (T := TX4) (N := 20) hx hb hts hinX4 hown hK hP 0 rfl rfl 1 (by decide) hf56 (fun _ h9 => h9) rfl dX4_tryWay_4 ?_
      refine lv_icmp_ge (tgt := 28) hx hb dX4_tryWay_7 (by decide) (fun c => ?_) (fun c => ?_)
      · skip
        have c : n ≤ i := (nI_leI (a := n) (b := i) (by omega) (by omega)).mp c
        obtain rfl : n = i := by omega
        refine lv_iload_n hx hb dX4_tryWay_28 rfl (lv_at hl 1 rfl) ?_
        refine lv_istore_n (lv' := [(2, .int (nI (way))), (0, .ref m0), (1, .int (nI (way)))]) hx hb dX4_tryWay_29 rfl hl (by decide) rfl (fun ls hl => ?_)
        refine lv_iconst (v := nI 0) hx hb dX4_tryWay_30 (by decide) ?_
        refine lv_istore_n (lv' := [(3, .int (nI (0))), (2, .int (nI (way))), (0, .ref m0), (1, .int (nI (way)))]) hx hb dX4_tryWay_31 rfl hl (by decide) rfl (fun ls hl => ?_)
        have lp1 : ∀ (g : Nat) (kk : Nat) (r : Nat) (F : Nat → Nat) (y : Nat → Nat), (r ≤ g) → (r * q ^ kk ≤ way) → (∀ k, k < n → F k = y k) → (∀ k, k < n → y k < q) → (twF q QU way 0 way an = twF q QU g kk r y) → ∀ (H : Heap) (locs : List Loc), va_P (dC, dI) vwCl [(m0, .inr (5, [.int (th), .int (nI (n)), .int (nI (q)), .ref aJ, .ref aS, .ref aT, .ref aW, .int (bI kn), .int (nI (rk)), .ref aR, .ref aP, .ref aH, .ref aK, .ref aE, .ref aY, .ref aN, .ref aQ, .ref aB, .ref aI, .ref aD])), (aN, .inl (cI, 30, .inl (fun j => nI (an j)))), (aQ, .inl (cI, 900, .inl (fun j => nI (qu j)))), (aI, .inl (cI, 30, .inl (fun j => nI (F j))))] H → va_D A [(m0, .inr (5, [.int (th), .int (nI (n)), .int (nI (q)), .ref aJ, .ref aS, .ref aT, .ref aW, .int (bI kn), .int (nI (rk)), .ref aR, .ref aP, .ref aH, .ref aK, .ref aE, .ref aY, .ref aN, .ref aQ, .ref aB, .ref aI, .ref aD])), (aN, .inl (cI, 30, .inl (fun j => nI (an j)))), (aQ, .inl (cI, 900, .inl (fun j => nI (qu j)))), (aI, .inl (cI, 30, .inl (fun j => nI (F j))))] → va_S A s.heap H locs → ∀ (ls : Array Slot), lv_has ls 6 [(0, .ref m0), (1, .int (nI (way))), (2, .int (nI (r))), (3, .int (nI (kk)))] → W zp l ze (headSpec wsX4_tryWay ({ frames := 0, cells := 0, slots := 0, locals := 0 })).room s m args below meth zc H locs 0 0 Q (F0 m 32 ls []) := by
          intro g
          induction g with
          | zero =>
            intro kk r F y hg hrq g1 g2 hI H locs hP hD hS ls hl
            obtain rfl : r = 0 := by omega
            refine lv_iload_n hx hb dX4_tryWay_32 rfl (lv_at hl 2 rfl) ?_
            refine lv_if_le (tgt := 115) hx hb dX4_tryWay_33 (by decide) (fun c1 => ?_) (fun c1 => ?_)
            · skip
              have c1 : 0 ≤ 0 := (nI_leI (a := 0) (b := 0) (by omega) (by omega)).mp c1
              have hT : twF q QU way 0 way an = y := hI
              refine lv_iconst (v := nI 0) hx hb dX4_tryWay_115 (by decide) ?_
              refine lv_istore_n (lv' := [(3, .int (nI (0))), (0, .ref m0), (1, .int (nI (way))), (2, .int (nI (0)))]) hx hb dX4_tryWay_116 rfl hl (by decide) rfl (fun ls hl => ?_)
              refine lv_iconst (v := nI 0) hx hb dX4_tryWay_117 (by decide) ?_
              refine lv_istore (lv' := [(4, .int (nI (0))), (3, .int (nI (0))), (0, .ref m0), (1, .int (nI (way))), (2, .int (nI (0)))]) hx hb dX4_tryWay_118 hl (by decide) rfl (fun ls hl => ?_)
              have lp3 : ∀ (k3 : Nat) (b : Nat), (b + k3 = n) → ∀ (H : Heap) (locs : List Loc), va_P (dC, dI) vwCl [(m0, .inr (5, [.int (th), .int (nI (n)), .int (nI (q)), .ref aJ, .ref aS, .ref aT, .ref aW, .int (bI kn), .int (nI (rk)), .ref aR, .ref aP, .ref aH, .ref aK, .ref aE, .ref aY, .ref aN, .ref aQ, .ref aB, .ref aI, .ref aD])), (aN, .inl (cI, 30, .inl (fun j => nI (an j)))), (aQ, .inl (cI, 900, .inl (fun j => nI (qu j)))), (aI, .inl (cI, 30, .inl (fun j => nI (F j))))] H → va_D A [(m0, .inr (5, [.int (th), .int (nI (n)), .int (nI (q)), .ref aJ, .ref aS, .ref aT, .ref aW, .int (bI kn), .int (nI (rk)), .ref aR, .ref aP, .ref aH, .ref aK, .ref aE, .ref aY, .ref aN, .ref aQ, .ref aB, .ref aI, .ref aD])), (aN, .inl (cI, 30, .inl (fun j => nI (an j)))), (aQ, .inl (cI, 900, .inl (fun j => nI (qu j)))), (aI, .inl (cI, 30, .inl (fun j => nI (F j))))] → va_S A s.heap H locs → ∀ (ls : Array Slot), lv_has ls 6 [(0, .ref m0), (3, .int (nI (sumF F b))), (4, .int (nI (b)))] → W zp l ze (headSpec wsX4_tryWay ({ frames := 0, cells := 0, slots := 0, locals := 0 })).room s m args below meth zc H locs 0 0 Q (F0 m 120 ls []) := by
                intro k3
                induction k3 with
                | zero =>
                  intro b hb3 H locs hP hD hS ls hl
                  refine lv_iload hx hb dX4_tryWay_120 (lv_at hl 2 rfl) ?_
                  refine lv_aload_n hx hb dX4_tryWay_122 rfl (lv_at hl 0 rfl) ?_
                  refine va_get (D := (dC, dI)) (ci := 5) (v := .int (nI (n))) (C := RX4) (T := TX4) (N := 20) hx hb hts hinX4 hown hK hP 0 rfl rfl 1 (by decide) hf56 (fun _ h9 => h9) rfl dX4_tryWay_123 ?_
                  refine lv_icmp_ge (tgt := 145) hx hb dX4_tryWay_126 (by decide) (fun c3 => ?_) (fun c3 => ?_)
                  · skip
                    have c3 : n ≤ b := (nI_leI (a := n) (b := b) (by omega) (by omega)).mp c3
                    obtain rfl : n = b := by omega
                    refine lv_iload_n hx hb dX4_tryWay_145 rfl (lv_at hl 1 rfl) ?_
                    rw [hQ]
                    exact W.iret (v := nI (sumF F n)) hx hb hr (fun t ht hW => ⟨⟨_, F, rfl, ⟨fun k hk => by rw [hT]; exact g1 k hk, by rw [hT]; exact congrArg nI (sumF_congr n g1)⟩, by rw [ht]; exact hP, va_K.moved hW.alike hK, hD⟩, hS.F ht⟩) hS.2.2 dX4_tryWay_146
                  · skip
                    have c3 : b < n := Nat.not_le.mp (fun h => c3 ((nI_leI (a := n) (b := b) (by omega) (by omega)).mpr h))
                    exact absurd c3 (by omega)
                | succ k3 ih3 =>
                  intro b hb3 H locs hP hD hS ls hl
                  refine lv_iload hx hb dX4_tryWay_120 (lv_at hl 2 rfl) ?_
                  refine lv_aload_n hx hb dX4_tryWay_122 rfl (lv_at hl 0 rfl) ?_
                  refine va_get (D := (dC, dI)) (ci := 5) (v := .int (nI (n))) (C := RX4) (T := TX4) (N := 20) hx hb hts hinX4 hown hK hP 0 rfl rfl 1 (by decide) hf56 (fun _ h9 => h9) rfl dX4_tryWay_123 ?_
                  refine lv_icmp_ge (tgt := 145) hx hb dX4_tryWay_126 (by decide) (fun c3 => ?_) (fun c3 => ?_)
                  · skip
                    have c3 : n ≤ b := (nI_leI (a := n) (b := b) (by omega) (by omega)).mp c3
                    exact absurd c3 (by omega)
                  · skip
                    have c3 : b < n := Nat.not_le.mp (fun h => c3 ((nI_leI (a := n) (b := b) (by omega) (by omega)).mpr h))
                    refine lv_iload_n hx hb dX4_tryWay_129 rfl (lv_at hl 1 rfl) ?_
                    refine lv_aload_n hx hb dX4_tryWay_130 rfl (lv_at hl 0 rfl) ?_
                    refine va_get (D := (dC, dI)) (ci := 5) (v := .ref aI) (C := RX4) (T := TX4) (N := 20) hx hb hts hinX4 hown hK hP 0 rfl rfl 18 (by decide) hf50 (fun _ h9 => h9) rfl dX4_tryWay_131 ?_
                    refine lv_iload hx hb dX4_tryWay_134 (lv_at hl 2 rfl) ?_
                    refine ra_ld (g := nI) (F := F) hx hb hK hP 3 0 rfl rfl (by omega) (by omega) dX4_tryWay_136 ?_
                    refine lv_iadd hx hb dX4_tryWay_137 ?_
                    refine tp_i (y := nI ((sumF F b) + (F b))) (nI_add _ _) ?_
                    refine tp_i (y := nI (sumF F (b + 1))) (rfl) ?_
                    refine lv_istore_n (lv' := [(3, .int (nI (sumF F (b + 1)))), (0, .ref m0), (4, .int (nI (b)))]) hx hb dX4_tryWay_138 rfl hl (by decide) rfl (fun ls hl => ?_)
                    refine lv_iinc (v := nI (b + 1)) (lv' := [(4, .int (nI (b + 1))), (3, .int (nI (sumF F (b + 1)))), (0, .ref m0)]) hx hb dX4_tryWay_139 hl (k := 2) rfl (nI_1 _) (by decide) rfl (fun ls hl => ?_)
                    refine lv_goto (tgt := 120) hx hb dX4_tryWay_142 (by decide) ?_
                    exact ih3 (b + 1) (by omega) _ _ hP hD hS ls (lv_sub hl [2, 1, 0] rfl)
              exact lp3 n 0 (by omega) _ _ hP hD hS ls (lv_sub hl [2, 1, 0] rfl)
            · skip
              have c1 : 0 < 0 := Nat.not_le.mp (fun h => c1 ((nI_leI (a := 0) (b := 0) (by omega) (by omega)).mpr h))
              exact absurd c1 (by omega)
          | succ g ih1 =>
            intro kk r F y hg hrq g1 g2 hI H locs hP hD hS ls hl
            have hrw : r ≤ r * q ^ kk := Nat.le_mul_of_pos_right r (Nat.pow_pos (by omega))
            refine lv_iload_n hx hb dX4_tryWay_32 rfl (lv_at hl 2 rfl) ?_
            refine lv_if_le (tgt := 115) hx hb dX4_tryWay_33 (by decide) (fun c1 => ?_) (fun c1 => ?_)
            · skip
              have c1 : r ≤ 0 := (nI_leI (a := r) (b := 0) (by omega) (by omega)).mp c1
              have hT : twF q QU way 0 way an = y := by rw [hI]; simp only [twF]; rw [if_pos (by omega)]
              refine lv_iconst (v := nI 0) hx hb dX4_tryWay_115 (by decide) ?_
              refine lv_istore_n (lv' := [(3, .int (nI (0))), (0, .ref m0), (1, .int (nI (way))), (2, .int (nI (r)))]) hx hb dX4_tryWay_116 rfl hl (by decide) rfl (fun ls hl => ?_)
              refine lv_iconst (v := nI 0) hx hb dX4_tryWay_117 (by decide) ?_
              refine lv_istore (lv' := [(4, .int (nI (0))), (3, .int (nI (0))), (0, .ref m0), (1, .int (nI (way))), (2, .int (nI (r)))]) hx hb dX4_tryWay_118 hl (by decide) rfl (fun ls hl => ?_)
              have lp3 : ∀ (k3 : Nat) (b : Nat), (b + k3 = n) → ∀ (H : Heap) (locs : List Loc), va_P (dC, dI) vwCl [(m0, .inr (5, [.int (th), .int (nI (n)), .int (nI (q)), .ref aJ, .ref aS, .ref aT, .ref aW, .int (bI kn), .int (nI (rk)), .ref aR, .ref aP, .ref aH, .ref aK, .ref aE, .ref aY, .ref aN, .ref aQ, .ref aB, .ref aI, .ref aD])), (aN, .inl (cI, 30, .inl (fun j => nI (an j)))), (aQ, .inl (cI, 900, .inl (fun j => nI (qu j)))), (aI, .inl (cI, 30, .inl (fun j => nI (F j))))] H → va_D A [(m0, .inr (5, [.int (th), .int (nI (n)), .int (nI (q)), .ref aJ, .ref aS, .ref aT, .ref aW, .int (bI kn), .int (nI (rk)), .ref aR, .ref aP, .ref aH, .ref aK, .ref aE, .ref aY, .ref aN, .ref aQ, .ref aB, .ref aI, .ref aD])), (aN, .inl (cI, 30, .inl (fun j => nI (an j)))), (aQ, .inl (cI, 900, .inl (fun j => nI (qu j)))), (aI, .inl (cI, 30, .inl (fun j => nI (F j))))] → va_S A s.heap H locs → ∀ (ls : Array Slot), lv_has ls 6 [(0, .ref m0), (3, .int (nI (sumF F b))), (4, .int (nI (b)))] → W zp l ze (headSpec wsX4_tryWay ({ frames := 0, cells := 0, slots := 0, locals := 0 })).room s m args below meth zc H locs 0 0 Q (F0 m 120 ls []) := by
                intro k3
                induction k3 with
                | zero =>
                  intro b hb3 H locs hP hD hS ls hl
                  refine lv_iload hx hb dX4_tryWay_120 (lv_at hl 2 rfl) ?_
                  refine lv_aload_n hx hb dX4_tryWay_122 rfl (lv_at hl 0 rfl) ?_
                  refine va_get (D := (dC, dI)) (ci := 5) (v := .int (nI (n))) (C := RX4) (T := TX4) (N := 20) hx hb hts hinX4 hown hK hP 0 rfl rfl 1 (by decide) hf56 (fun _ h9 => h9) rfl dX4_tryWay_123 ?_
                  refine lv_icmp_ge (tgt := 145) hx hb dX4_tryWay_126 (by decide) (fun c3 => ?_) (fun c3 => ?_)
                  · skip
                    have c3 : n ≤ b := (nI_leI (a := n) (b := b) (by omega) (by omega)).mp c3
                    obtain rfl : n = b := by omega
                    refine lv_iload_n hx hb dX4_tryWay_145 rfl (lv_at hl 1 rfl) ?_
                    rw [hQ]
                    exact W.iret (v := nI (sumF F n)) hx hb hr (fun t ht hW => ⟨⟨_, F, rfl, ⟨fun k hk => by rw [hT]; exact g1 k hk, by rw [hT]; exact congrArg nI (sumF_congr n g1)⟩, by rw [ht]; exact hP, va_K.moved hW.alike hK, hD⟩, hS.F ht⟩) hS.2.2 dX4_tryWay_146
                  · skip
                    have c3 : b < n := Nat.not_le.mp (fun h => c3 ((nI_leI (a := n) (b := b) (by omega) (by omega)).mpr h))
                    exact absurd c3 (by omega)
                | succ k3 ih3 =>
                  intro b hb3 H locs hP hD hS ls hl
                  refine lv_iload hx hb dX4_tryWay_120 (lv_at hl 2 rfl) ?_
                  refine lv_aload_n hx hb dX4_tryWay_122 rfl (lv_at hl 0 rfl) ?_
                  refine va_get (D := (dC, dI)) (ci := 5) (v := .int (nI (n))) (C := RX4) (T := TX4) (N := 20) hx hb hts hinX4 hown hK hP 0 rfl rfl 1 (by decide) hf56 (fun _ h9 => h9) rfl dX4_tryWay_123 ?_
                  refine lv_icmp_ge (tgt := 145) hx hb dX4_tryWay_126 (by decide) (fun c3 => ?_) (fun c3 => ?_)
                  · skip
                    have c3 : n ≤ b := (nI_leI (a := n) (b := b) (by omega) (by omega)).mp c3
                    exact absurd c3 (by omega)
                  · skip
                    have c3 : b < n := Nat.not_le.mp (fun h => c3 ((nI_leI (a := n) (b := b) (by omega) (by omega)).mpr h))
                    refine lv_iload_n hx hb dX4_tryWay_129 rfl (lv_at hl 1 rfl) ?_
                    refine lv_aload_n hx hb dX4_tryWay_130 rfl (lv_at hl 0 rfl) ?_
                    refine va_get (D := (dC, dI)) (ci := 5) (v := .ref aI) (C := RX4) (T := TX4) (N := 20) hx hb hts hinX4 hown hK hP 0 rfl rfl 18 (by decide) hf50 (fun _ h9 => h9) rfl dX4_tryWay_131 ?_
                    refine lv_iload hx hb dX4_tryWay_134 (lv_at hl 2 rfl) ?_
                    refine ra_ld (g := nI) (F := F) hx hb hK hP 3 0 rfl rfl (by omega) (by omega) dX4_tryWay_136 ?_
                    refine lv_iadd hx hb dX4_tryWay_137 ?_
                    refine tp_i (y := nI ((sumF F b) + (F b))) (nI_add _ _) ?_
                    refine tp_i (y := nI (sumF F (b + 1))) (rfl) ?_
                    refine lv_istore_n (lv' := [(3, .int (nI (sumF F (b + 1)))), (0, .ref m0), (4, .int (nI (b)))]) hx hb dX4_tryWay_138 rfl hl (by decide) rfl (fun ls hl => ?_)
                    refine lv_iinc (v := nI (b + 1)) (lv' := [(4, .int (nI (b + 1))), (3, .int (nI (sumF F (b + 1)))), (0, .ref m0)]) hx hb dX4_tryWay_139 hl (k := 2) rfl (nI_1 _) (by decide) rfl (fun ls hl => ?_)
                    refine lv_goto (tgt := 120) hx hb dX4_tryWay_142 (by decide) ?_
                    exact ih3 (b + 1) (by omega) _ _ hP hD hS ls (lv_sub hl [2, 1, 0] rfl)
              exact lp3 n 0 (by omega) _ _ hP hD hS ls (lv_sub hl [2, 1, 0] rfl)
            · skip
              have c1 : 0 < r := Nat.not_le.mp (fun h => c1 ((nI_leI (a := r) (b := 0) (by omega) (by omega)).mpr h))
              have hkk : kk < fr := by
                have h9 : q ^ kk ≤ r * q ^ kk := Nat.le_mul_of_pos_left _ (by omega)
                exact (Nat.pow_lt_pow_iff_right (show 1 < q by omega)).mp (by omega)
              have bm : r % q < q := Nat.mod_lt _ (by omega)
              have hdv : r / q < r := Nat.div_lt_self (by omega) (by omega)
              refine lv_iload_n hx hb dX4_tryWay_36 rfl (lv_at hl 2 rfl) ?_
              refine lv_aload_n hx hb dX4_tryWay_37 rfl (lv_at hl 0 rfl) ?_
              refine va_get (D := (dC, dI)) (ci := 5) (v := .int (nI (q))) (C := RX4) (T := TX4) (N := 20) hx hb hts hinX4 hown hK hP 0 rfl rfl 2 (by decide) hf60 (fun _ h9 => h9) rfl dX4_tryWay_38 ?_
              refine lv_irem hx hb dX4_tryWay_41 (nI_ne0 (by omega) (by omega)) ?_
              refine tp_i (y := nI (r % q)) (pk_rem (by omega) (by omega) (by omega)) ?_
              refine lv_istore (lv' := [(4, .int (nI (r % q))), (0, .ref m0), (1, .int (nI (way))), (2, .int (nI (r))), (3, .int (nI (kk)))]) hx hb dX4_tryWay_42 hl (by decide) rfl (fun ls hl => ?_)
              refine lv_iload_n hx hb dX4_tryWay_44 rfl (lv_at hl 3 rfl) ?_
              refine lv_aload_n hx hb dX4_tryWay_45 rfl (lv_at hl 1 rfl) ?_
              refine va_get (D := (dC, dI)) (ci := 5) (v := .int (nI (q))) (C := RX4) (T := TX4) (N := 20) hx hb hts hinX4 hown hK hP 0 rfl rfl 2 (by decide) hf60 (fun _ h9 => h9) rfl dX4_tryWay_46 ?_
              refine lv_idiv hx hb dX4_tryWay_49 (nI_ne0 (by omega) (by omega)) ?_
              refine tp_i (y := nI (r / q)) (pk_div (by omega) (by omega) (by omega)) ?_
              refine lv_istore_n (lv' := [(2, .int (nI (r / q))), (4, .int (nI (r % q))), (0, .ref m0), (1, .int (nI (way))), (3, .int (nI (kk)))]) hx hb dX4_tryWay_50 rfl hl (by decide) rfl (fun ls hl => ?_)
              generalize emu : r % q = mu at bm
              rw [emu] at hl
              refine lv_iconst (v := nI 0) hx hb dX4_tryWay_51 (by decide) ?_
              refine lv_istore (lv' := [(5, .int (nI (0))), (2, .int (nI (r / q))), (4, .int (nI (mu))), (0, .ref m0), (1, .int (nI (way))), (3, .int (nI (kk)))]) hx hb dX4_tryWay_52 hl (by decide) rfl (fun ls hl => ?_)
              have lp2 : ∀ (k2 : Nat) (b : Nat) (F : Nat → Nat), (b + k2 = n) → (∀ k, k < n → F k = if k < b then (y k + mu * QU kk k) % q else y k) → ∀ (H : Heap) (locs : List Loc), va_P (dC, dI) vwCl [(m0, .inr (5, [.int (th), .int (nI (n)), .int (nI (q)), .ref aJ, .ref aS, .ref aT, .ref aW, .int (bI kn), .int (nI (rk)), .ref aR, .ref aP, .ref aH, .ref aK, .ref aE, .ref aY, .ref aN, .ref aQ, .ref aB, .ref aI, .ref aD])), (aN, .inl (cI, 30, .inl (fun j => nI (an j)))), (aQ, .inl (cI, 900, .inl (fun j => nI (qu j)))), (aI, .inl (cI, 30, .inl (fun j => nI (F j))))] H → va_D A [(m0, .inr (5, [.int (th), .int (nI (n)), .int (nI (q)), .ref aJ, .ref aS, .ref aT, .ref aW, .int (bI kn), .int (nI (rk)), .ref aR, .ref aP, .ref aH, .ref aK, .ref aE, .ref aY, .ref aN, .ref aQ, .ref aB, .ref aI, .ref aD])), (aN, .inl (cI, 30, .inl (fun j => nI (an j)))), (aQ, .inl (cI, 900, .inl (fun j => nI (qu j)))), (aI, .inl (cI, 30, .inl (fun j => nI (F j))))] → va_S A s.heap H locs → ∀ (ls : Array Slot), lv_has ls 6 [(0, .ref m0), (1, .int (nI (way))), (2, .int (nI (r / q))), (3, .int (nI (kk))), (4, .int (nI (mu))), (5, .int (nI (b)))] → W zp l ze (headSpec wsX4_tryWay ({ frames := 0, cells := 0, slots := 0, locals := 0 })).room s m args below meth zc H locs 0 0 Q (F0 m 54 ls []) := by
                intro k2
                induction k2 with
                | zero =>
                  intro b F hb2 e1 H locs hP hD hS ls hl
                  refine lv_iload hx hb dX4_tryWay_54 (lv_at hl 5 rfl) ?_
                  refine lv_aload_n hx hb dX4_tryWay_56 rfl (lv_at hl 0 rfl) ?_
                  refine va_get (D := (dC, dI)) (ci := 5) (v := .int (nI (n))) (C := RX4) (T := TX4) (N := 20) hx hb hts hinX4 hown hK hP 0 rfl rfl 1 (by decide) hf56 (fun _ h9 => h9) rfl dX4_tryWay_57 ?_
                  refine lv_icmp_ge (tgt := 109) hx hb dX4_tryWay_60 (by decide) (fun c2 => ?_) (fun c2 => ?_)
                  · skip
                    have c2 : n ≤ b := (nI_leI (a := n) (b := b) (by omega) (by omega)).mp c2
                    refine lv_iinc (v := nI (kk + 1)) (lv' := [(3, .int (nI (kk + 1))), (0, .ref m0), (1, .int (nI (way))), (2, .int (nI (r / q))), (4, .int (nI (mu))), (5, .int (nI (b)))]) hx hb dX4_tryWay_109 hl (k := 3) rfl (nI_1 _) (by decide) rfl (fun ls hl => ?_)
                    refine lv_goto (tgt := 32) hx hb dX4_tryWay_112 (by decide) ?_
                    exact ih1 (kk + 1) (r / q) F (fun k => if 0 < r % q then (y k + r % q * QU kk k) % q else y k) (by omega) (by
                          rw [Nat.pow_succ, Nat.mul_comm (q ^ kk), ← Nat.mul_assoc]
                          exact Nat.le_trans (Nat.mul_le_mul_right _ (Nat.div_mul_le_self r q)) hrq) (fun k hk => by
                          rw [emu, e1 k hk]; rw [if_pos (by omega)]; by_cases e0 : 0 < mu
                          · rw [if_pos e0]
                          · rw [if_neg e0, show mu = 0 by omega, Nat.zero_mul, Nat.add_zero, Nat.mod_eq_of_lt (g2 k hk)]) (fun k hk => by
                          split
                          · exact Nat.mod_lt _ (by omega)
                          · exact g2 k hk) (by rw [hI]; simp only [twF]; rw [if_neg (by omega)]) _ _ hP hD hS ls (lv_sub hl [1, 2, 3, 0] rfl)
                  · skip
                    have c2 : b < n := Nat.not_le.mp (fun h => c2 ((nI_leI (a := n) (b := b) (by omega) (by omega)).mpr h))
                    exact absurd c2 (by omega)
                | succ k2 ih2 =>
                  intro b F hb2 e1 H locs hP hD hS ls hl
                  refine lv_iload hx hb dX4_tryWay_54 (lv_at hl 5 rfl) ?_
                  refine lv_aload_n hx hb dX4_tryWay_56 rfl (lv_at hl 0 rfl) ?_
                  refine va_get (D := (dC, dI)) (ci := 5) (v := .int (nI (n))) (C := RX4) (T := TX4) (N := 20) hx hb hts hinX4 hown hK hP 0 rfl rfl 1 (by decide) hf56 (fun _ h9 => h9) rfl dX4_tryWay_57 ?_
                  refine lv_icmp_ge (tgt := 109) hx hb dX4_tryWay_60 (by decide) (fun c2 => ?_) (fun c2 => ?_)
                  · skip
                    have c2 : n ≤ b := (nI_leI (a := n) (b := b) (by omega) (by omega)).mp c2
                    exact absurd c2 (by omega)
                  · skip
                    have c2 : b < n := Nat.not_le.mp (fun h => c2 ((nI_leI (a := n) (b := b) (by omega) (by omega)).mpr h))
                    refine lv_iload hx hb dX4_tryWay_63 (lv_at hl 4 rfl) ?_
                    refine lv_if_le (tgt := 109) hx hb dX4_tryWay_65 (by decide) (fun c4 => ?_) (fun c4 => ?_)
                    · skip
                      have c4 : mu ≤ 0 := (nI_leI (a := mu) (b := 0) (by omega) (by omega)).mp c4
                      refine lv_iinc (v := nI (kk + 1)) (lv' := [(3, .int (nI (kk + 1))), (0, .ref m0), (1, .int (nI (way))), (2, .int (nI (r / q))), (4, .int (nI (mu))), (5, .int (nI (b)))]) hx hb dX4_tryWay_109 hl (k := 3) rfl (nI_1 _) (by decide) rfl (fun ls hl => ?_)
                      refine lv_goto (tgt := 32) hx hb dX4_tryWay_112 (by decide) ?_
                      exact ih1 (kk + 1) (r / q) F (fun k => if 0 < r % q then (y k + r % q * QU kk k) % q else y k) (by omega) (by
                            rw [Nat.pow_succ, Nat.mul_comm (q ^ kk), ← Nat.mul_assoc]
                            exact Nat.le_trans (Nat.mul_le_mul_right _ (Nat.div_mul_le_self r q)) hrq) (fun k hk => by
                            rw [emu, e1 k hk]; have m0 : mu = 0 := by omega
                            rw [m0, if_neg (show ¬ 0 < 0 by omega)]; split
                            · rw [Nat.zero_mul, Nat.add_zero, Nat.mod_eq_of_lt (g2 k hk)]
                            · rfl) (fun k hk => by
                            split
                            · exact Nat.mod_lt _ (by omega)
                            · exact g2 k hk) (by rw [hI]; simp only [twF]; rw [if_neg (by omega)]) _ _ hP hD hS ls (lv_sub hl [1, 2, 3, 0] rfl)
                    · skip
                      have c4 : 0 < mu := Nat.not_le.mp (fun h => c4 ((nI_leI (a := mu) (b := 0) (by omega) (by omega)).mpr h))
                      have u1 : F b = y b := by rw [e1 b (by omega), if_neg (by omega)]
                      have u2 := g2 b (by omega)
                      have u3 := bqu kk hkk b (by omega)
                      have u4 : mu * QU kk b ≤ 100 * 100 := Nat.mul_le_mul (by omega) (by omega)
                      refine lv_aload_n hx hb dX4_tryWay_68 rfl (lv_at hl 0 rfl) ?_
                      refine va_get (D := (dC, dI)) (ci := 5) (v := .ref aI) (C := RX4) (T := TX4) (N := 20) hx hb hts hinX4 hown hK hP 0 rfl rfl 18 (by decide) hf50 (fun _ h9 => h9) rfl dX4_tryWay_69 ?_
                      refine lv_iload hx hb dX4_tryWay_72 (lv_at hl 5 rfl) ?_
                      refine lv_aload_n hx hb dX4_tryWay_74 rfl (lv_at hl 0 rfl) ?_
                      refine va_get (D := (dC, dI)) (ci := 5) (v := .ref aI) (C := RX4) (T := TX4) (N := 20) hx hb hts hinX4 hown hK hP 0 rfl rfl 18 (by decide) hf50 (fun _ h9 => h9) rfl dX4_tryWay_75 ?_
                      refine lv_iload hx hb dX4_tryWay_78 (lv_at hl 5 rfl) ?_
                      refine ra_ld (g := nI) (F := F) hx hb hK hP 3 0 rfl rfl (by omega) (by omega) dX4_tryWay_80 ?_
                      refine tp_i (y := nI (y b)) (by rw [u1]) ?_
                      refine lv_iload hx hb dX4_tryWay_81 (lv_at hl 4 rfl) ?_
                      refine lv_aload_n hx hb dX4_tryWay_83 rfl (lv_at hl 0 rfl) ?_
                      refine va_get (D := (dC, dI)) (ci := 5) (v := .ref aQ) (C := RX4) (T := TX4) (N := 20) hx hb hts hinX4 hown hK hP 0 rfl rfl 16 (by decide) hf44 (fun _ h9 => h9) rfl dX4_tryWay_84 ?_
                      refine lv_bipush (v := nI 30) hx hb dX4_tryWay_87 (by decide) ?_
                      refine lv_iload_n hx hb dX4_tryWay_89 rfl (lv_at hl 3 rfl) ?_
                      refine lv_imul hx hb dX4_tryWay_90 ?_
                      refine tp_i (y := nI (30 * kk)) (pk_mul _ _) ?_
                      refine lv_iload hx hb dX4_tryWay_91 (lv_at hl 5 rfl) ?_
                      refine lv_iadd hx hb dX4_tryWay_93 ?_
                      refine tp_i (y := nI ((30 * kk) + b)) (nI_add _ _) ?_
                      refine ra_ld (g := nI) (F := qu) hx hb hK hP 2 0 rfl rfl (by omega) (by omega) dX4_tryWay_94 ?_
                      refine tp_i (y := nI (QU kk b)) (by rw [hqu kk hkk b (by omega)]) ?_
                      refine lv_imul hx hb dX4_tryWay_95 ?_
                      refine tp_i (y := nI (mu * (QU kk b))) (pk_mul _ _) ?_
                      refine lv_iadd hx hb dX4_tryWay_96 ?_
                      refine tp_i (y := nI ((y b) + (mu * (QU kk b)))) (nI_add _ _) ?_
                      refine lv_aload_n hx hb dX4_tryWay_97 rfl (lv_at hl 0 rfl) ?_
                      refine va_get (D := (dC, dI)) (ci := 5) (v := .int (nI (q))) (C := RX4) (T := TX4) (N := 20) hx hb hts hinX4 hown hK hP 0 rfl rfl 2 (by decide) hf60 (fun _ h9 => h9) rfl dX4_tryWay_98 ?_
                      refine lv_irem hx hb dX4_tryWay_101 (nI_ne0 (by omega) (by omega)) ?_
                      refine tp_i (y := nI (((y b) + (mu * (QU kk b))) % q)) (pk_rem (by omega) (by omega) (by omega)) ?_
                      refine ra_st (g := nI) (F := F) (v := ((y b) + (mu * (QU kk b))) % q) hx hb hK hP hD hS 3 0 rfl rfl (by omega) (by omega) dX4_tryWay_102 (fun H locs hP hD hS => ?_)
                      have hP : va_P (dC, dI) vwCl [(m0, .inr (5, [.int (th), .int (nI (n)), .int (nI (q)), .ref aJ, .ref aS, .ref aT, .ref aW, .int (bI kn), .int (nI (rk)), .ref aR, .ref aP, .ref aH, .ref aK, .ref aE, .ref aY, .ref aN, .ref aQ, .ref aB, .ref aI, .ref aD])), (aN, .inl (cI, 30, .inl (fun j => nI (an j)))), (aQ, .inl (cI, 900, .inl (fun j => nI (qu j)))), (aI, .inl (cI, 30, .inl (fun j => nI ((va_up F b (((y b) + (mu * (QU kk b))) % q)) j))))] H := hP
                      have hD : va_D A [(m0, .inr (5, [.int (th), .int (nI (n)), .int (nI (q)), .ref aJ, .ref aS, .ref aT, .ref aW, .int (bI kn), .int (nI (rk)), .ref aR, .ref aP, .ref aH, .ref aK, .ref aE, .ref aY, .ref aN, .ref aQ, .ref aB, .ref aI, .ref aD])), (aN, .inl (cI, 30, .inl (fun j => nI (an j)))), (aQ, .inl (cI, 900, .inl (fun j => nI (qu j)))), (aI, .inl (cI, 30, .inl (fun j => nI ((va_up F b (((y b) + (mu * (QU kk b))) % q)) j))))] := hD
                      refine lv_iinc (v := nI (b + 1)) (lv' := [(5, .int (nI (b + 1))), (0, .ref m0), (1, .int (nI (way))), (2, .int (nI (r / q))), (3, .int (nI (kk))), (4, .int (nI (mu)))]) hx hb dX4_tryWay_103 hl (k := 5) rfl (nI_1 _) (by decide) rfl (fun ls hl => ?_)
                      refine lv_goto (tgt := 54) hx hb dX4_tryWay_106 (by decide) ?_
                      exact ih2 (b + 1) (va_up F b ((y b + mu * QU kk b) % q)) (by omega) (fun k hk => by
                            by_cases e : k = b
                            · subst e; rw [up_at, if_pos (by omega)]
                            · rw [up_of _ _ e, e1 k hk]
                              by_cases e3 : k < b
                              · rw [if_pos e3, if_pos (by omega)]
                              · rw [if_neg e3, if_neg (by omega)]) _ _ hP hD hS ls (lv_sub hl [1, 2, 3, 4, 5, 0] rfl)
              exact lp2 n 0 F (by omega) (fun k hk => by rw [if_neg (by omega)]; exact g1 k hk) _ _ hP hD hS ls (lv_sub hl [3, 4, 1, 5, 2, 0] rfl)
        exact lp1 way 0 way F an (Nat.le_refl _) (by simp) f1 ban rfl _ _ hP hD hS ls (lv_sub hl [2, 3, 1, 0] rfl)
      · skip
        have c : i < n := Nat.not_le.mp (fun h => c ((nI_leI (a := n) (b := i) (by omega) (by omega)).mpr h))
        exact absurd c (by omega)
    | succ k0 ih =>
      intro i F hi f1 H locs hP hD hS ls hl
      refine lv_iload_n hx hb dX4_tryWay_2 rfl (lv_at hl 2 rfl) ?_
      refine lv_aload_n hx hb dX4_tryWay_3 rfl (lv_at hl 0 rfl) ?_
      refine va_get (D := (dC, dI)) (ci := 5) (v := .int (nI (n))) (C := RX4) (T := TX4) (N := 20) hx hb hts hinX4 hown hK hP 0 rfl rfl 1 (by decide) hf56 (fun _ h9 => h9) rfl dX4_tryWay_4 ?_
      refine lv_icmp_ge (tgt := 28) hx hb dX4_tryWay_7 (by decide) (fun c => ?_) (fun c => ?_)
      · skip
        have c : n ≤ i := (nI_leI (a := n) (b := i) (by omega) (by omega)).mp c
        exact absurd c (by omega)
      · skip
        have c : i < n := Nat.not_le.mp (fun h => c ((nI_leI (a := n) (b := i) (by omega) (by omega)).mpr h))
        refine lv_aload_n hx hb dX4_tryWay_10 rfl (lv_at hl 0 rfl) ?_
        refine va_get (D := (dC, dI)) (ci := 5) (v := .ref aI) (C := RX4) (T := TX4) (N := 20) hx hb hts hinX4 hown hK hP 0 rfl rfl 18 (by decide) hf50 (fun _ h9 => h9) rfl dX4_tryWay_11 ?_
        refine lv_iload_n hx hb dX4_tryWay_14 rfl (lv_at hl 2 rfl) ?_
        refine lv_aload_n hx hb dX4_tryWay_15 rfl (lv_at hl 0 rfl) ?_
        refine va_get (D := (dC, dI)) (ci := 5) (v := .ref aN) (C := RX4) (T := TX4) (N := 20) hx hb hts hinX4 hown hK hP 0 rfl rfl 15 (by decide) hf41 (fun _ h9 => h9) rfl dX4_tryWay_16 ?_
        refine lv_iload_n hx hb dX4_tryWay_19 rfl (lv_at hl 2 rfl) ?_
        refine ra_ld (g := nI) (F := an) hx hb hK hP 1 0 rfl rfl (by omega) (by omega) dX4_tryWay_20 ?_
        refine ra_st (g := nI) (F := F) (v := an i) hx hb hK hP hD hS 3 0 rfl rfl (by omega) (by omega) dX4_tryWay_21 (fun H locs hP hD hS => ?_)
        have hP : va_P (dC, dI) vwCl [(m0, .inr (5, [.int (th), .int (nI (n)), .int (nI (q)), .ref aJ, .ref aS, .ref aT, .ref aW, .int (bI kn), .int (nI (rk)), .ref aR, .ref aP, .ref aH, .ref aK, .ref aE, .ref aY, .ref aN, .ref aQ, .ref aB, .ref aI, .ref aD])), (aN, .inl (cI, 30, .inl (fun j => nI (an j)))), (aQ, .inl (cI, 900, .inl (fun j => nI (qu j)))), (aI, .inl (cI, 30, .inl (fun j => nI ((va_up F i (an i)) j))))] H := hP
        have hD : va_D A [(m0, .inr (5, [.int (th), .int (nI (n)), .int (nI (q)), .ref aJ, .ref aS, .ref aT, .ref aW, .int (bI kn), .int (nI (rk)), .ref aR, .ref aP, .ref aH, .ref aK, .ref aE, .ref aY, .ref aN, .ref aQ, .ref aB, .ref aI, .ref aD])), (aN, .inl (cI, 30, .inl (fun j => nI (an j)))), (aQ, .inl (cI, 900, .inl (fun j => nI (qu j)))), (aI, .inl (cI, 30, .inl (fun j => nI ((va_up F i (an i)) j))))] := hD
        refine lv_iinc (v := nI (i + 1)) (lv' := [(2, .int (nI (i + 1))), (0, .ref m0), (1, .int (nI (way)))]) hx hb dX4_tryWay_22 hl (k := 2) rfl (nI_1 _) (by decide) rfl (fun ls hl => ?_)
        refine lv_goto (tgt := 2) hx hb dX4_tryWay_25 (by decide) ?_
        exact ih (i + 1) (va_up F i (an i)) (by omega) (fun k hk => by
              by_cases e : k = i
              · rw [e, up_at]
              · rw [up_of _ _ e]; exact f1 k (by omega)) _ _ hP hD hS ls (lv_sub hl [1, 2, 0] rfl)
  exact lp n 0 ti (by omega) (fun k h => absurd h (by omega)) _ _ hP hD hS ls (lv_sub hl [1, 2, 0] rfl)

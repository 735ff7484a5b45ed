set_option maxHeartbeats 4000000 in
set_option maxRecDepth 100000 in
theorem c_X4_inverse (l : Launch) (dC : Nat → ClassId) (dI : Nat → Nat → Nat) (sz : Nat) (m0 aJ aS aT aW aR aP aH aK aE aY aN aQ aB aI aD n q rk : Nat) (th : Int32) (kn : Bool) (cI cZ : ClassId) (v : Nat) (hq : 2 ≤ q) (hq2 : q < 100) (hv2 : v < 100) (hex : ∃ k, 1 ≤ k ∧ k < q ∧ v * k % q = 1) : Met l yX4_inverse wsX4_inverse ({ frames := 0, cells := 0, slots := 0, locals := 0 }) (va_Pc [.ref m0, .int (nI (v))] (fun U => U.heap.size = sz ∧ va_P (dC, dI) vwCl [(m0, .inr (5, [.int (th), .int (nI (n)), .int (nI (q)), .ref aJ, .ref aS, .ref aT, .ref aW, .int (bI kn), .int (nI (rk)), .ref aR, .ref aP, .ref aH, .ref aK, .ref aE, .ref aY, .ref aN, .ref aQ, .ref aB, .ref aI, .ref aD]))] U.heap ∧ va_K (dC, dI) vwCl [(cI, .int), (cZ, .boolean)] U ∧ va_D (fun _ => True) [(m0, .inr (5, [.int (th), .int (nI (n)), .int (nI (q)), .ref aJ, .ref aS, .ref aT, .ref aW, .int (bI kn), .int (nI (rk)), .ref aR, .ref aP, .ref aH, .ref aK, .ref aE, .ref aY, .ref aN, .ref aQ, .ref aB, .ref aI, .ref aD]))])) (va_Qi (fun (z : Int32) (_ : Unit) => z = nI (ivq q v q 1)) (fun _ t => va_P (dC, dI) vwCl [(m0, .inr (5, [.int (th), .int (nI (n)), .int (nI (q)), .ref aJ, .ref aS, .ref aT, .ref aW, .int (bI kn), .int (nI (rk)), .ref aR, .ref aP, .ref aH, .ref aK, .ref aE, .ref aY, .ref aN, .ref aQ, .ref aB, .ref aI, .ref aD]))] t.heap ∧ va_K (dC, dI) vwCl [(cI, .int), (cZ, .boolean)] t ∧ va_D (va_A [(m0, .inr (5, [.int (th), .int (nI (n)), .int (nI (q)), .ref aJ, .ref aS, .ref aT, .ref aW, .int (bI kn), .int (nI (rk)), .ref aR, .ref aP, .ref aH, .ref aK, .ref aE, .ref aY, .ref aN, .ref aQ, .ref aB, .ref aI, .ref aD]))] sz) [(m0, .inr (5, [.int (th), .int (nI (n)), .int (nI (q)), .ref aJ, .ref aS, .ref aT, .ref aW, .int (bI kn), .int (nI (rk)), .ref aR, .ref aP, .ref aH, .ref aK, .ref aE, .ref aY, .ref aN, .ref aQ, .ref aB, .ref aI, .ref aD]))]) (va_A [(m0, .inr (5, [.int (th), .int (nI (n)), .int (nI (q)), .ref aJ, .ref aS, .ref aT, .ref aW, .int (bI kn), .int (nI (rk)), .ref aR, .ref aP, .ref aH, .ref aK, .ref aE, .ref aY, .ref aN, .ref aQ, .ref aB, .ref aI, .ref aD]))] sz)) 0 0 (va_A [(m0, .inr (5, [.int (th), .int (nI (n)), .int (nI (q)), .ref aJ, .ref aS, .ref aT, .ref aW, .int (bI kn), .int (nI (rk)), .ref aR, .ref aP, .ref aH, .ref aK, .ref aE, .ref aY, .ref aN, .ref aQ, .ref aB, .ref aI, .ref aD]))] sz) := by
  refine Met.ofW (cc := cX4_inverse) (maxL := 3) (ret := (some .int)) (by decide) rfl ?_
  intro zp ze s m args below meth zc s₁ B hml hv
  obtain ⟨hargs, hsz, hP, hK, hD0⟩ := hv
  have hx := B.exec
  have hb := B.bytes
  have hr := B.returns
  have hts := atoms_spec (ws := wsX4_inverse) B.pre
  have hown : s.vm.findClass RX4 = some m.cls := findClass_of_methodNamed B.named
  have hlocks := B.notSynchronized
  subst hsz
  obtain ⟨Q, hQ⟩ : ∃ Q, Q = MQ below (va_Qi (fun (z : Int32) (_ : Unit) => z = nI (ivq q v q 1)) (fun _ t => va_P (dC, dI) vwCl [(m0, .inr (5, [.int (th), .int (nI (n)), .int (nI (q)), .ref aJ, .ref aS, .ref aT, .ref aW, .int (bI kn), .int (nI (rk)), .ref aR, .ref aP, .ref aH, .ref aK, .ref aE, .ref aY, .ref aN, .ref aQ, .ref aB, .ref aI, .ref aD]))] t.heap ∧ va_K (dC, dI) vwCl [(cI, .int), (cZ, .boolean)] t ∧ va_D (va_A [(m0, .inr (5, [.int (th), .int (nI (n)), .int (nI (q)), .ref aJ, .ref aS, .ref aT, .ref aW, .int (bI kn), .int (nI (rk)), .ref aR, .ref aP, .ref aH, .ref aK, .ref aE, .ref aY, .ref aN, .ref aQ, .ref aB, .ref aI, .ref aD]))] s.heap.size) [(m0, .inr (5, [.int (th), .int (nI (n)), .int (nI (q)), .ref aJ, .ref aS, .ref aT, .ref aW, .int (bI kn), .int (nI (rk)), .ref aR, .ref aP, .ref aH, .ref aK, .ref aE, .ref aY, .ref aN, .ref aQ, .ref aB, .ref aI, .ref aD]))]) (va_A [(m0, .inr (5, [.int (th), .int (nI (n)), .int (nI (q)), .ref aJ, .ref aS, .ref aT, .ref aW, .int (bI kn), .int (nI (rk)), .ref aR, .ref aP, .ref aH, .ref aK, .ref aE, .ref aY, .ref aN, .ref aQ, .ref aB, .ref aI, .ref aD]))] s.heap.size)) args s 0 0 (va_A [(m0, .inr (5, [.int (th), .int (nI (n)), .int (nI (q)), .ref aJ, .ref aS, .ref aT, .ref aW, .int (bI kn), .int (nI (rk)), .ref aR, .ref aP, .ref aH, .ref aK, .ref aE, .ref aY, .ref aN, .ref aQ, .ref aB, .ref aI, .ref aD]))] s.heap.size) := ⟨_, rfl⟩
  rw [← hQ]
  have hD := hD0.self (sz := s.heap.size)
  generalize hAe : (va_A [(m0, .inr (5, [.int (th), .int (nI (n)), .int (nI (q)), .ref aJ, .ref aS, .ref aT, .ref aW, .int (bI kn), .int (nI (rk)), .ref aR, .ref aP, .ref aH, .ref aK, .ref aE, .ref aY, .ref aN, .ref aQ, .ref aB, .ref aI, .ref aD]))] s.heap.size) = A at hD hQ
  have hA : ∀ q : Nat, s.heap.size ≤ q → A q := fun q h => by rw [← hAe]; exact Or.inr h
  have hS : va_S A s.heap s.heap [] := va_S.rf
  have hl := lv_entry ([.ref m0, .int (nI (v))]) (n := 3) (Nat.le_of_ble_eq_true rfl)
  generalize hen : entryFrame m args 3 = fr
  rw [hargs, lg_entry_eq] at hen
  subst hen
  generalize (lg_sl ([.ref m0, .int (nI (v))]) ++ List.replicate (3 - (lg_sl ([.ref m0, .int (nI (v))])).length) Slot.unset).toArray = ls at hl ⊢
  have hl : lv_has ls 3 [(0, .ref m0), (1, .int (nI (v)))] := hl
  have hinX4 : ∀ w ∈ wsX40, w ∈ wsX4_inverse := by decide +kernel
  have hf60 := hts (.fieldLink RX4 60 "LightRowsModel" "p" "I") (by decide +kernel)
  refine lv_iconst (v := nI 1) hx hb dX4_inverse_0 (by decide) ?_
  refine lv_istore_n (lv' := [(2, .int (nI (1))), (0, .ref m0), (1, .int (nI (v)))]) hx hb dX4_inverse_1 rfl hl (by decide) rfl (fun ls hl => ?_)
  have lp : ∀ (k : Nat) (i : Nat), (i + k = q + 1) → (ivq q v q 1 = ivq q v k i) → (∃ k, i ≤ k ∧ k < q ∧ v * k % q = 1) → ∀ (H : Heap) (locs : List Loc), va_P (dC, dI) vwCl [(m0, .inr (5, [.int (th), .int (nI (n)), .int (nI (q)), .ref aJ, .ref aS, .ref aT, .ref aW, .int (bI kn), .int (nI (rk)), .ref aR, .ref aP, .ref aH, .ref aK, .ref aE, .ref aY, .ref aN, .ref aQ, .ref aB, .ref aI, .ref aD]))] H → va_D A [(m0, .inr (5, [.int (th), .int (nI (n)), .int (nI (q)), .ref aJ, .ref aS, .ref aT, .ref aW, .int (bI kn), .int (nI (rk)), .ref aR, .ref aP, .ref aH, .ref aK, .ref aE, .ref aY, .ref aN, .ref aQ, .ref aB, .ref aI, .ref aD]))] → va_S A s.heap H locs → ∀ (ls : Array Slot), lv_has ls 3 [(0, .ref m0), (1, .int (nI (v))), (2, .int (nI (i)))] → W zp l ze (headSpec wsX4_inverse ({ frames := 0, cells := 0, slots := 0, locals := 0 })).room s m args below meth zc H locs 0 0 Q (F0 m 2 ls []) := by
    intro k
    induction k with
    | zero =>
      intro i hi hI hx2 H locs hP hD hS ls hl
      obtain ⟨k0, g1, g2, g3⟩ := hx2
      exact absurd g1 (by omega)
    | succ k ih =>
      intro i hi hI hx2 H locs hP hD hS ls hl
      obtain ⟨k0, g1, g2, g3⟩ := hx2
      have bM : v * i ≤ 100 * 100 := Nat.mul_le_mul (by omega) (by omega)
      have bR : v * i % q < q := Nat.mod_lt _ (by omega)
      refine lv_iload_n hx hb dX4_inverse_2 rfl (lv_at hl 1 rfl) ?_
      refine lv_iload_n hx hb dX4_inverse_3 rfl (lv_at hl 2 rfl) ?_
      refine lv_imul hx hb dX4_inverse_4 ?_
      refine tp_i (y := nI (v * i)) (pk_mul _ _) ?_
      refine lv_aload_n hx hb dX4_inverse_5 rfl (lv_at hl 0 rfl) ?_
      refine va_get (D := (dC, dI)) (ci := 5) (v := .int (nI (q))) (C := RX4) (T := TX4) (N := 20) hx hb hts hinX4 hown hK hP 0 rfl rfl 2 (by decide) hf60 (fun _ h9 => h9) rfl dX4_inverse_6 ?_
      refine lv_irem hx hb dX4_inverse_9 (nI_ne0 (by omega) (by omega)) ?_
      refine tp_i (y := nI ((v * i) % q)) (pk_rem (by omega) (by omega) (by omega)) ?_
      refine lv_iconst (v := nI 1) hx hb dX4_inverse_10 (by decide) ?_
      refine lv_icmp_eq (tgt := 20) hx hb dX4_inverse_11 (by decide) (fun c => ?_) (fun c => ?_)
      · skip
        have c : (v * i) % q = 1 := (nI_eq (a := (v * i) % q) (b := 1) (by omega) (by omega)).mp c
        refine lv_iload_n hx hb dX4_inverse_20 rfl (lv_at hl 2 rfl) ?_
        rw [hQ]
        exact W.iret (v := nI (i)) hx hb hr (fun t ht hW => ⟨⟨_, (), rfl, by rw [hI]; simp only [ivq]; rw [if_pos c], by rw [ht]; exact hP, va_K.moved hW.alike hK, hD⟩, hS.F ht⟩) hS.2.2 dX4_inverse_21
      · skip
        have c : (v * i) % q ≠ 1 := fun h => c ((nI_eq (a := (v * i) % q) (b := 1) (by omega) (by omega)).mpr h)
        refine lv_iinc (v := nI (i + 1)) (lv' := [(2, .int (nI (i + 1))), (0, .ref m0), (1, .int (nI (v)))]) hx hb dX4_inverse_14 hl (k := 2) rfl (nI_1 _) (by decide) rfl (fun ls hl => ?_)
        refine lv_goto (tgt := 2) hx hb dX4_inverse_17 (by decide) ?_
        exact ih (i + 1) (by omega) (by rw [hI]; simp only [ivq]; rw [if_neg c]) ⟨k0, by
              by_cases e : k0 = i
              · rw [e] at g3; exact absurd g3 c
              · omega, g2, g3⟩ _ _ hP hD hS ls (lv_sub hl [1, 2, 0] rfl)
  exact lp q 1 (by omega) rfl hex _ _ hP hD hS ls (lv_sub hl [1, 2, 0] rfl)

set_option maxHeartbeats 4000000 in
set_option maxRecDepth 100000 in
theorem c_X4_left (l : Launch) (dC : Nat → ClassId) (dI : Nat → Nat → Nat) (sz : Nat) (m0 aJ aS aT aW aR aP aH aK aE aY aN aQ aB aI aD n q rk : Nat) (th : Int32) (kn : Bool) (cI cZ : ClassId) (re : Nat → Nat) (hn : n < 31) (h1 : ∀ k, k < n → re k < 100) : Met l yX4_left wsX4_left ({ frames := 0, cells := 0, slots := 0, locals := 0 }) (va_Pc [.ref m0] (fun U => U.heap.size = sz ∧ va_P (dC, dI) vwCl [(m0, .inr (5, [.int (th), .int (nI (n)), .int (nI (q)), .ref aJ, .ref aS, .ref aT, .ref aW, .int (bI kn), .int (nI (rk)), .ref aR, .ref aP, .ref aH, .ref aK, .ref aE, .ref aY, .ref aN, .ref aQ, .ref aB, .ref aI, .ref aD])), (aE, .inl (cI, 30, .inl (fun j => nI (re j))))] U.heap ∧ va_K (dC, dI) vwCl [(cI, .int), (cZ, .boolean)] U ∧ va_D (fun _ => True) [(m0, .inr (5, [.int (th), .int (nI (n)), .int (nI (q)), .ref aJ, .ref aS, .ref aT, .ref aW, .int (bI kn), .int (nI (rk)), .ref aR, .ref aP, .ref aH, .ref aK, .ref aE, .ref aY, .ref aN, .ref aQ, .ref aB, .ref aI, .ref aD])), (aE, .inl (cI, 30, .inl (fun j => nI (re j))))])) (va_Qi (fun (z : Int32) (_ : Unit) => z = oI (lft re n 0)) (fun _ t => va_P (dC, dI) vwCl [(m0, .inr (5, [.int (th), .int (nI (n)), .int (nI (q)), .ref aJ, .ref aS, .ref aT, .ref aW, .int (bI kn), .int (nI (rk)), .ref aR, .ref aP, .ref aH, .ref aK, .ref aE, .ref aY, .ref aN, .ref aQ, .ref aB, .ref aI, .ref aD])), (aE, .inl (cI, 30, .inl (fun j => nI (re j))))] t.heap ∧ va_K (dC, dI) vwCl [(cI, .int), (cZ, .boolean)] t ∧ va_D (va_A [(m0, .inr (5, [.int (th), .int (nI (n)), .int (nI (q)), .ref aJ, .ref aS, .ref aT, .ref aW, .int (bI kn), .int (nI (rk)), .ref aR, .ref aP, .ref aH, .ref aK, .ref aE, .ref aY, .ref aN, .ref aQ, .ref aB, .ref aI, .ref aD])), (aE, .inl (cI, 30, .inl (fun j => nI (re j))))] sz) [(m0, .inr (5, [.int (th), .int (nI (n)), .int (nI (q)), .ref aJ, .ref aS, .ref aT, .ref aW, .int (bI kn), .int (nI (rk)), .ref aR, .ref aP, .ref aH, .ref aK, .ref aE, .ref aY, .ref aN, .ref aQ, .ref aB, .ref aI, .ref aD])), (aE, .inl (cI, 30, .inl (fun j => nI (re j))))]) (va_A [(m0, .inr (5, [.int (th), .int (nI (n)), .int (nI (q)), .ref aJ, .ref aS, .ref aT, .ref aW, .int (bI kn), .int (nI (rk)), .ref aR, .ref aP, .ref aH, .ref aK, .ref aE, .ref aY, .ref aN, .ref aQ, .ref aB, .ref aI, .ref aD])), (aE, .inl (cI, 30, .inl (fun j => nI (re j))))] sz)) 0 0 (va_A [(m0, .inr (5, [.int (th), .int (nI (n)), .int (nI (q)), .ref aJ, .ref aS, .ref aT, .ref aW, .int (bI kn), .int (nI (rk)), .ref aR, .ref aP, .ref aH, .ref aK, .ref aE, .ref aY, .ref aN, .ref aQ, .ref aB, .ref aI, .ref aD])), (aE, .inl (cI, 30, .inl (fun j => nI (re j))))] sz) := by
  refine Met.ofW (cc := cX4_left) (maxL := 2) (ret := (some .int)) (by decide) rfl ?_
  intro zp ze s m args below meth zc s₁ B hml hv
  obtain ⟨hargs, hsz, hP, hK, hD0⟩ := hv
  have hx := B.exec
  have hb := B.bytes
  have hr := B.returns
  have hts := atoms_spec (ws := wsX4_left) B.pre
  have hown : s.vm.findClass RX4 = some m.cls := findClass_of_methodNamed B.named
  have hlocks := B.notSynchronized
  subst hsz
  obtain ⟨Q, hQ⟩ : ∃ Q, Q = MQ below (va_Qi (fun (z : Int32) (_ : Unit) => z = oI (lft re n 0)) (fun _ t => va_P (dC, dI) vwCl [(m0, .inr (5, [.int (th), .int (nI (n)), .int (nI (q)), .ref aJ, .ref aS, .ref aT, .ref aW, .int (bI kn), .int (nI (rk)), .ref aR, .ref aP, .ref aH, .ref aK, .ref aE, .ref aY, .ref aN, .ref aQ, .ref aB, .ref aI, .ref aD])), (aE, .inl (cI, 30, .inl (fun j => nI (re j))))] t.heap ∧ va_K (dC, dI) vwCl [(cI, .int), (cZ, .boolean)] t ∧ va_D (va_A [(m0, .inr (5, [.int (th), .int (nI (n)), .int (nI (q)), .ref aJ, .ref aS, .ref aT, .ref aW, .int (bI kn), .int (nI (rk)), .ref aR, .ref aP, .ref aH, .ref aK, .ref aE, .ref aY, .ref aN, .ref aQ, .ref aB, .ref aI, .ref aD])), (aE, .inl (cI, 30, .inl (fun j => nI (re j))))] s.heap.size) [(m0, .inr (5, [.int (th), .int (nI (n)), .int (nI (q)), .ref aJ, .ref aS, .ref aT, .ref aW, .int (bI kn), .int (nI (rk)), .ref aR, .ref aP, .ref aH, .ref aK, .ref aE, .ref aY, .ref aN, .ref aQ, .ref aB, .ref aI, .ref aD])), (aE, .inl (cI, 30, .inl (fun j => nI (re j))))]) (va_A [(m0, .inr (5, [.int (th), .int (nI (n)), .int (nI (q)), .ref aJ, .ref aS, .ref aT, .ref aW, .int (bI kn), .int (nI (rk)), .ref aR, .ref aP, .ref aH, .ref aK, .ref aE, .ref aY, .ref aN, .ref aQ, .ref aB, .ref aI, .ref aD])), (aE, .inl (cI, 30, .inl (fun j => nI (re j))))] s.heap.size)) args s 0 0 (va_A [(m0, .inr (5, [.int (th), .int (nI (n)), .int (nI (q)), .ref aJ, .ref aS, .ref aT, .ref aW, .int (bI kn), .int (nI (rk)), .ref aR, .ref aP, .ref aH, .ref aK, .ref aE, .ref aY, .ref aN, .ref aQ, .ref aB, .ref aI, .ref aD])), (aE, .inl (cI, 30, .inl (fun j => nI (re j))))] s.heap.size) := ⟨_, rfl⟩
  rw [← hQ]
  have hD := hD0.self (sz := s.heap.size)
  generalize hAe : (va_A [(m0, .inr (5, [.int (th), .int (nI (n)), .int (nI (q)), .ref aJ, .ref aS, .ref aT, .ref aW, .int (bI kn), .int (nI (rk)), .ref aR, .ref aP, .ref aH, .ref aK, .ref aE, .ref aY, .ref aN, .ref aQ, .ref aB, .ref aI, .ref aD])), (aE, .inl (cI, 30, .inl (fun j => nI (re j))))] s.heap.size) = A at hD hQ
  have hA : ∀ q : Nat, s.heap.size ≤ q → A q := fun q h => by rw [← hAe]; exact Or.inr h
  have hS : va_S A s.heap s.heap [] := va_S.rf
  have hl := lv_entry ([.ref m0]) (n := 2) (Nat.le_of_ble_eq_true rfl)
  generalize hen : entryFrame m args 2 = fr
  rw [hargs, lg_entry_eq] at hen
  subst hen
  generalize (lg_sl ([.ref m0]) ++ List.replicate (2 - (lg_sl ([.ref m0])).length) Slot.unset).toArray = ls at hl ⊢
  have hl : lv_has ls 2 [(0, .ref m0)] := hl
  have hinX4 : ∀ w ∈ wsX40, w ∈ wsX4_left := by decide +kernel
  have hf35 := hts (.fieldLink RX4 35 "LightRowsModel" "rest" "[I") (by decide +kernel)
  have hf56 := hts (.fieldLink RX4 56 "LightRowsModel" "lamps" "I") (by decide +kernel)
  refine lv_iconst (v := nI 0) hx hb dX4_left_0 (by decide) ?_
  refine lv_istore_n (lv' := [(1, .int (nI (0))), (0, .ref m0)]) hx hb dX4_left_1 rfl hl (by decide) rfl (fun ls hl => ?_)
  have lp : ∀ (k : Nat) (i : Nat), (i + k = n) → (lft re n 0 = lft re k i) → ∀ (H : Heap) (locs : List Loc), va_P (dC, dI) vwCl [(m0, .inr (5, [.int (th), .int (nI (n)), .int (nI (q)), .ref aJ, .ref aS, .ref aT, .ref aW, .int (bI kn), .int (nI (rk)), .ref aR, .ref aP, .ref aH, .ref aK, .ref aE, .ref aY, .ref aN, .ref aQ, .ref aB, .ref aI, .ref aD])), (aE, .inl (cI, 30, .inl (fun j => nI (re j))))] H → va_D A [(m0, .inr (5, [.int (th), .int (nI (n)), .int (nI (q)), .ref aJ, .ref aS, .ref aT, .ref aW, .int (bI kn), .int (nI (rk)), .ref aR, .ref aP, .ref aH, .ref aK, .ref aE, .ref aY, .ref aN, .ref aQ, .ref aB, .ref aI, .ref aD])), (aE, .inl (cI, 30, .inl (fun j => nI (re j))))] → va_S A s.heap H locs → ∀ (ls : Array Slot), lv_has ls 2 [(0, .ref m0), (1, .int (nI (i)))] → W zp l ze (headSpec wsX4_left ({ frames := 0, cells := 0, slots := 0, locals := 0 })).room s m args below meth zc H locs 0 0 Q (F0 m 2 ls []) := by
    intro k
    induction k with
    | zero =>
      intro i hi hI H locs hP hD hS ls hl
      refine lv_iload_n hx hb dX4_left_2 rfl (lv_at hl 1 rfl) ?_
      refine lv_aload_n hx hb dX4_left_3 rfl (lv_at hl 0 rfl) ?_
      refine va_get (D := (dC, dI)) (ci := 5) (v := .int (nI (n))) (C := RX4) (T := TX4) (N := 20) hx hb hts hinX4 hown hK hP 0 rfl rfl 1 (by decide) hf56 (fun _ h9 => h9) rfl dX4_left_4 ?_
      refine lv_icmp_ge (tgt := 27) hx hb dX4_left_7 (by decide) (fun c => ?_) (fun c => ?_)
      · skip
        have c : n ≤ i := (nI_leI (a := n) (b := i) (by omega) (by omega)).mp c
        refine lv_iconst (v := (-1)) hx hb dX4_left_27 (by decide) ?_
        rw [hQ]
        exact W.iret (v := (-1)) hx hb hr (fun t ht hW => ⟨⟨_, (), rfl, by rw [hI]; rfl, by rw [ht]; exact hP, va_K.moved hW.alike hK, hD⟩, hS.F ht⟩) hS.2.2 dX4_left_28
      · skip
        have c : i < n := Nat.not_le.mp (fun h => c ((nI_leI (a := n) (b := i) (by omega) (by omega)).mpr h))
        exact absurd c (by omega)
    | succ k ih =>
      intro i hi hI H locs hP hD hS ls hl
      refine lv_iload_n hx hb dX4_left_2 rfl (lv_at hl 1 rfl) ?_
      refine lv_aload_n hx hb dX4_left_3 rfl (lv_at hl 0 rfl) ?_
      refine va_get (D := (dC, dI)) (ci := 5) (v := .int (nI (n))) (C := RX4) (T := TX4) (N := 20) hx hb hts hinX4 hown hK hP 0 rfl rfl 1 (by decide) hf56 (fun _ h9 => h9) rfl dX4_left_4 ?_
      refine lv_icmp_ge (tgt := 27) hx hb dX4_left_7 (by decide) (fun c => ?_) (fun c => ?_)
      · skip
        have c : n ≤ i := (nI_leI (a := n) (b := i) (by omega) (by omega)).mp c
        exact absurd c (by omega)
      · skip
        have c : i < n := Nat.not_le.mp (fun h => c ((nI_leI (a := n) (b := i) (by omega) (by omega)).mpr h))
        have e1 := h1 i (by omega)
        refine lv_aload_n hx hb dX4_left_10 rfl (lv_at hl 0 rfl) ?_
        refine va_get (D := (dC, dI)) (ci := 5) (v := .ref aE) (C := RX4) (T := TX4) (N := 20) hx hb hts hinX4 hown hK hP 0 rfl rfl 13 (by decide) hf35 (fun _ h9 => h9) rfl dX4_left_11 ?_
        refine lv_iload_n hx hb dX4_left_14 rfl (lv_at hl 1 rfl) ?_
        refine ra_ld (g := nI) (F := re) hx hb hK hP 1 0 rfl rfl (by omega) (by omega) dX4_left_15 ?_
        refine lv_if_eq (tgt := 21) hx hb dX4_left_16 (by decide) (fun c2 => ?_) (fun c2 => ?_)
        · skip
          have c2 : re i = 0 := (nI_eq (a := re i) (b := 0) (by omega) (by omega)).mp c2
          refine lv_iinc (v := nI (i + 1)) (lv' := [(1, .int (nI (i + 1))), (0, .ref m0)]) hx hb dX4_left_21 hl (k := 1) rfl (nI_1 _) (by decide) rfl (fun ls hl => ?_)
          refine lv_goto (tgt := 2) hx hb dX4_left_24 (by decide) ?_
          exact ih (i + 1) (by omega) (by rw [hI]; simp only [lft]; rw [if_pos c2]) _ _ hP hD hS ls (lv_sub hl [1, 0] rfl)
        · skip
          have c2 : re i ≠ 0 := fun h => c2 ((nI_eq (a := re i) (b := 0) (by omega) (by omega)).mpr h)
          refine lv_iload_n hx hb dX4_left_19 rfl (lv_at hl 1 rfl) ?_
          rw [hQ]
          exact W.iret (v := nI (i)) hx hb hr (fun t ht hW => ⟨⟨_, (), rfl, by rw [hI]; simp only [lft]; rw [if_neg c2]; rfl, by rw [ht]; exact hP, va_K.moved hW.alike hK, hD⟩, hS.F ht⟩) hS.2.2 dX4_left_20
  exact lp n 0 (by omega) rfl _ _ hP hD hS ls (lv_sub hl [1, 0] rfl)

set_option maxHeartbeats 4000000 in
set_option maxRecDepth 100000 in
theorem c_X4_takeApart (l : Launch) (dC : Nat → ClassId) (dI : Nat → Nat → Nat) (sz : Nat) (m0 aJ aS aT aW aR aP aH aK aE aY aN aQ aB aI aD n q rk : Nat) (th : Int32) (kn : Bool) (cI cZ : ClassId) (rw : Nat → Nat) (ps : Nat → Nat) (hd : Nat → Nat) (re : Nat → Nat) (yy : Nat → Nat) (RW PS : Nat → Nat → Nat) (hn : n < 31) (hq : 2 ≤ q) (hq2 : q < 100) (hrk : rk ≤ 30) (hhd : ∀ r, r < rk → hd r < n) (hRW : ∀ r, r < rk → ∀ k, k < n → rw (30 * r + k) = RW r k) (hPS : ∀ r, r < rk → ∀ k, k < n → ps (30 * r + k) = PS r k) (bRW : ∀ r, r < rk → ∀ k, k < n → RW r k < q) (bPS : ∀ r, r < rk → ∀ k, k < n → PS r k < q) (hiv : ∀ r, r < rk → ∃ k, 1 ≤ k ∧ k < q ∧ RW r (hd r) * k % q = 1) (bre : ∀ k, k < n → re k < q) : Met l yX4_takeApart wsX4_takeApart ({ frames := 1, cells := 0, slots := 0, locals := 22 }) (va_Pc [.ref m0] (fun U => U.heap.size = sz ∧ va_P (dC, dI) vwCl [(m0, .inr (5, [.int (th), .int (nI (n)), .int (nI (q)), .ref aJ, .ref aS, .ref aT, .ref aW, .int (bI kn), .int (nI (rk)), .ref aR, .ref aP, .ref aH, .ref aK, .ref aE, .ref aY, .ref aN, .ref aQ, .ref aB, .ref aI, .ref aD])), (aR, .inl (cI, 900, .inl (fun j => nI (rw j)))), (aP, .inl (cI, 900, .inl (fun j => nI (ps j)))), (aH, .inl (cI, 30, .inl (fun j => nI (hd j)))), (aE, .inl (cI, 30, .inl (fun j => nI (re j)))), (aY, .inl (cI, 30, .inl (fun j => nI (yy j))))] U.heap ∧ va_K (dC, dI) vwCl [(cI, .int), (cZ, .boolean)] U ∧ va_D (fun _ => True) [(m0, .inr (5, [.int (th), .int (nI (n)), .int (nI (q)), .ref aJ, .ref aS, .ref aT, .ref aW, .int (bI kn), .int (nI (rk)), .ref aR, .ref aP, .ref aH, .ref aK, .ref aE, .ref aY, .ref aN, .ref aQ, .ref aB, .ref aI, .ref aD])), (aR, .inl (cI, 900, .inl (fun j => nI (rw j)))), (aP, .inl (cI, 900, .inl (fun j => nI (ps j)))), (aH, .inl (cI, 30, .inl (fun j => nI (hd j)))), (aE, .inl (cI, 30, .inl (fun j => nI (re j)))), (aY, .inl (cI, 30, .inl (fun j => nI (yy j))))])) (va_Qv (fun u : (Nat → Nat) × (Nat → Nat) => (∀ k, k < n → u.1 k = (tkA n q RW PS hd (re, fun _ => 0) rk).1 k) ∧ ∀ k, k < n → u.2 k = (tkA n q RW PS hd (re, fun _ => 0) rk).2 k) (fun u t => va_P (dC, dI) vwCl [(m0, .inr (5, [.int (th), .int (nI (n)), .int (nI (q)), .ref aJ, .ref aS, .ref aT, .ref aW, .int (bI kn), .int (nI (rk)), .ref aR, .ref aP, .ref aH, .ref aK, .ref aE, .ref aY, .ref aN, .ref aQ, .ref aB, .ref aI, .ref aD])), (aR, .inl (cI, 900, .inl (fun j => nI (rw j)))), (aP, .inl (cI, 900, .inl (fun j => nI (ps j)))), (aH, .inl (cI, 30, .inl (fun j => nI (hd j)))), (aE, .inl (cI, 30, .inl (fun j => nI (u.1 j)))), (aY, .inl (cI, 30, .inl (fun j => nI (u.2 j))))] t.heap ∧ va_K (dC, dI) vwCl [(cI, .int), (cZ, .boolean)] t ∧ va_D (va_A [(m0, .inr (5, [.int (th), .int (nI (n)), .int (nI (q)), .ref aJ, .ref aS, .ref aT, .ref aW, .int (bI kn), .int (nI (rk)), .ref aR, .ref aP, .ref aH, .ref aK, .ref aE, .ref aY, .ref aN, .ref aQ, .ref aB, .ref aI, .ref aD])), (aR, .inl (cI, 900, .inl (fun j => nI (rw j)))), (aP, .inl (cI, 900, .inl (fun j => nI (ps j)))), (aH, .inl (cI, 30, .inl (fun j => nI (hd j)))), (aE, .inl (cI, 30, .inl (fun j => nI (re j)))), (aY, .inl (cI, 30, .inl (fun j => nI (yy j))))] sz) [(m0, .inr (5, [.int (th), .int (nI (n)), .int (nI (q)), .ref aJ, .ref aS, .ref aT, .ref aW, .int (bI kn), .int (nI (rk)), .ref aR, .ref aP, .ref aH, .ref aK, .ref aE, .ref aY, .ref aN, .ref aQ, .ref aB, .ref aI, .ref aD])), (aR, .inl (cI, 900, .inl (fun j => nI (rw j)))), (aP, .inl (cI, 900, .inl (fun j => nI (ps j)))), (aH, .inl (cI, 30, .inl (fun j => nI (hd j)))), (aE, .inl (cI, 30, .inl (fun j => nI (u.1 j)))), (aY, .inl (cI, 30, .inl (fun j => nI (u.2 j))))]) (va_A [(m0, .inr (5, [.int (th), .int (nI (n)), .int (nI (q)), .ref aJ, .ref aS, .ref aT, .ref aW, .int (bI kn), .int (nI (rk)), .ref aR, .ref aP, .ref aH, .ref aK, .ref aE, .ref aY, .ref aN, .ref aQ, .ref aB, .ref aI, .ref aD])), (aR, .inl (cI, 900, .inl (fun j => nI (rw j)))), (aP, .inl (cI, 900, .inl (fun j => nI (ps j)))), (aH, .inl (cI, 30, .inl (fun j => nI (hd j)))), (aE, .inl (cI, 30, .inl (fun j => nI (re j)))), (aY, .inl (cI, 30, .inl (fun j => nI (yy j))))] sz)) 0 0 (va_A [(m0, .inr (5, [.int (th), .int (nI (n)), .int (nI (q)), .ref aJ, .ref aS, .ref aT, .ref aW, .int (bI kn), .int (nI (rk)), .ref aR, .ref aP, .ref aH, .ref aK, .ref aE, .ref aY, .ref aN, .ref aQ, .ref aB, .ref aI, .ref aD])), (aR, .inl (cI, 900, .inl (fun j => nI (rw j)))), (aP, .inl (cI, 900, .inl (fun j => nI (ps j)))), (aH, .inl (cI, 30, .inl (fun j => nI (hd j)))), (aE, .inl (cI, 30, .inl (fun j => nI (re j)))), (aY, .inl (cI, 30, .inl (fun j => nI (yy j))))] sz) := by
  refine Met.ofW (cc := cX4_takeApart) (maxL := 4) (ret := none) (by decide) rfl ?_
  intro zp ze s m args below meth zc s₁ B hml hv
  obtain ⟨hargs, hsz, hP, hK, hD0⟩ := hv
  have hx := B.exec
  have hb := B.bytes
  have hr := B.returns
  have hts := atoms_spec (ws := wsX4_takeApart) B.pre
  have hown : s.vm.findClass RX4 = some m.cls := findClass_of_methodNamed B.named
  have hlocks := B.notSynchronized
  subst hsz
  obtain ⟨Q, hQ⟩ : ∃ Q, Q = MQ below (va_Qv (fun u : (Nat → Nat) × (Nat → Nat) => (∀ k, k < n → u.1 k = (tkA n q RW PS hd (re, fun _ => 0) rk).1 k) ∧ ∀ k, k < n → u.2 k = (tkA n q RW PS hd (re, fun _ => 0) rk).2 k) (fun u t => va_P (dC, dI) vwCl [(m0, .inr (5, [.int (th), .int (nI (n)), .int (nI (q)), .ref aJ, .ref aS, .ref aT, .ref aW, .int (bI kn), .int (nI (rk)), .ref aR, .ref aP, .ref aH, .ref aK, .ref aE, .ref aY, .ref aN, .ref aQ, .ref aB, .ref aI, .ref aD])), (aR, .inl (cI, 900, .inl (fun j => nI (rw j)))), (aP, .inl (cI, 900, .inl (fun j => nI (ps j)))), (aH, .inl (cI, 30, .inl (fun j => nI (hd j)))), (aE, .inl (cI, 30, .inl (fun j => nI (u.1 j)))), (aY, .inl (cI, 30, .inl (fun j => nI (u.2 j))))] t.heap ∧ va_K (dC, dI) vwCl [(cI, .int), (cZ, .boolean)] t ∧ va_D (va_A [(m0, .inr (5, [.int (th), .int (nI (n)), .int (nI (q)), .ref aJ, .ref aS, .ref aT, .ref aW, .int (bI kn), .int (nI (rk)), .ref aR, .ref aP, .ref aH, .ref aK, .ref aE, .ref aY, .ref aN, .ref aQ, .ref aB, .ref aI, .ref aD])), (aR, .inl (cI, 900, .inl (fun j => nI (rw j)))), (aP, .inl (cI, 900, .inl (fun j => nI (ps j)))), (aH, .inl (cI, 30, .inl (fun j => nI (hd j)))), (aE, .inl (cI, 30, .inl (fun j => nI (re j)))), (aY, .inl (cI, 30, .inl (fun j => nI (yy j))))] s.heap.size) [(m0, .inr (5, [.int (th), .int (nI (n)), .int (nI (q)), .ref aJ, .ref aS, .ref aT, .ref aW, .int (bI kn), .int (nI (rk)), .ref aR, .ref aP, .ref aH, .ref aK, .ref aE, .ref aY, .ref aN, .ref aQ, .ref aB, .ref aI, .ref aD])), (aR, .inl (cI, 900, .inl (fun j => nI (rw j)))), (aP, .inl (cI, 900, .inl (fun j => nI (ps j)))), (aH, .inl (cI, 30, .inl (fun j => nI (hd j)))), (aE, .inl (cI, 30, .inl (fun j => nI (u.1 j)))), (aY, .inl (cI, 30, .inl (fun j => nI (u.2 j))))]) (va_A [(m0, .inr (5, [.int (th), .int (nI (n)), .int (nI (q)), .ref aJ, .ref aS, .ref aT, .ref aW, .int (bI kn), .int (nI (rk)), .ref aR, .ref aP, .ref aH, .ref aK, .ref aE, .ref aY, .ref aN, .ref aQ, .ref aB, .ref aI, .ref aD])), (aR, .inl (cI, 900, .inl (fun j => nI (rw j)))), (aP, .inl (cI, 900, .inl (fun j => nI (ps j)))), (aH, .inl (cI, 30, .inl (fun j => nI (hd j)))), (aE, .inl (cI, 30, .inl (fun j => nI (re j)))), (aY, .inl (cI, 30, .inl (fun j => nI (yy j))))] s.heap.size)) args s 0 0 (va_A [(m0, .inr (5, [.int (th), .int (nI (n)), .int (nI (q)), .ref aJ, .ref aS, .ref aT, .ref aW, .int (bI kn), .int (nI (rk)), .ref aR, .ref aP, .ref aH, .ref aK, .ref aE, .ref aY, .ref aN, .ref aQ, .ref aB, .ref aI, .ref aD])), (aR, .inl (cI, 900, .inl (fun j => nI (rw j)))), (aP, .inl (cI, 900, .inl (fun j => nI (ps j)))), (aH, .inl (cI, 30, .inl (fun j => nI (hd j)))), (aE, .inl (cI, 30, .inl (fun j => nI (re j)))), (aY, .inl (cI, 30, .inl (fun j => nI (yy j))))] s.heap.size) := ⟨_, rfl⟩
  rw [← hQ]
  have hD := hD0.self (sz := s.heap.size)
  generalize hAe : (va_A [(m0, .inr (5, [.int (th), .int (nI (n)), .int (nI (q)), .ref aJ, .ref aS, .ref aT, .ref aW, .int (bI kn), .int (nI (rk)), .ref aR, .ref aP, .ref aH, .ref aK, .ref aE, .ref aY, .ref aN, .ref aQ, .ref aB, .ref aI, .ref aD])), (aR, .inl (cI, 900, .inl (fun j => nI (rw j)))), (aP, .inl (cI, 900, .inl (fun j => nI (ps j)))), (aH, .inl (cI, 30, .inl (fun j => nI (hd j)))), (aE, .inl (cI, 30, .inl (fun j => nI (re j)))), (aY, .inl (cI, 30, .inl (fun j => nI (yy j))))] s.heap.size) = A at hD hQ
  have hA : ∀ q : Nat, s.heap.size ≤ q → A q := fun q h => by rw [← hAe]; exact Or.inr h
  have hS : va_S A s.heap s.heap [] := va_S.rf
  have hl := lv_entry ([.ref m0]) (n := 4) (Nat.le_of_ble_eq_true rfl)
  generalize hen : entryFrame m args 4 = fr
  rw [hargs, lg_entry_eq] at hen
  subst hen
  generalize (lg_sl ([.ref m0]) ++ List.replicate (4 - (lg_sl ([.ref m0])).length) Slot.unset).toArray = ls at hl ⊢
  have hl : lv_has ls 4 [(0, .ref m0)] := hl
  have hinX4 : ∀ w ∈ wsX40, w ∈ wsX4_takeApart := by decide +kernel
  have hf23 := hts (.fieldLink RX4 23 "LightRowsModel" "rows" "[I") (by decide +kernel)
  have hf26 := hts (.fieldLink RX4 26 "LightRowsModel" "presses" "[I") (by decide +kernel)
  have hf29 := hts (.fieldLink RX4 29 "LightRowsModel" "heads" "[I") (by decide +kernel)
  have hf35 := hts (.fieldLink RX4 35 "LightRowsModel" "rest" "[I") (by decide +kernel)
  have hf38 := hts (.fieldLink RX4 38 "LightRowsModel" "by" "[I") (by decide +kernel)
  have hf56 := hts (.fieldLink RX4 56 "LightRowsModel" "lamps" "I") (by decide +kernel)
  have hf60 := hts (.fieldLink RX4 60 "LightRowsModel" "p" "I") (by decide +kernel)
  have hf85 := hts (.fieldLink RX4 85 "LightRowsModel" "rank" "I") (by decide +kernel)
  refine lv_iconst (v := nI 0) hx hb dX4_takeApart_0 (by decide) ?_
  refine lv_istore_n (lv' := [(1, .int (nI (0))), (0, .ref m0)]) hx hb dX4_takeApart_1 rfl hl (by decide) rfl (fun ls hl => ?_)
  have lp : ∀ (k : Nat) (i : Nat) (G : Nat → Nat), (i + k = n) → (∀ k, k < i → G k = 0) → ∀ (H : Heap) (locs : List Loc), va_P (dC, dI) vwCl [(m0, .inr (5, [.int (th), .int (nI (n)), .int (nI (q)), .ref aJ, .ref aS, .ref aT, .ref aW, .int (bI kn), .int (nI (rk)), .ref aR, .ref aP, .ref aH, .ref aK, .ref aE, .ref aY, .ref aN, .ref aQ, .ref aB, .ref aI, .ref aD])), (aR, .inl (cI, 900, .inl (fun j => nI (rw j)))), (aP, .inl (cI, 900, .inl (fun j => nI (ps j)))), (aH, .inl (cI, 30, .inl (fun j => nI (hd j)))), (aE, .inl (cI, 30, .inl (fun j => nI (re j)))), (aY, .inl (cI, 30, .inl (fun j => nI (G j))))] H → va_D A [(m0, .inr (5, [.int (th), .int (nI (n)), .int (nI (q)), .ref aJ, .ref aS, .ref aT, .ref aW, .int (bI kn), .int (nI (rk)), .ref aR, .ref aP, .ref aH, .ref aK, .ref aE, .ref aY, .ref aN, .ref aQ, .ref aB, .ref aI, .ref aD])), (aR, .inl (cI, 900, .inl (fun j => nI (rw j)))), (aP, .inl (cI, 900, .inl (fun j => nI (ps j)))), (aH, .inl (cI, 30, .inl (fun j => nI (hd j)))), (aE, .inl (cI, 30, .inl (fun j => nI (re j)))), (aY, .inl (cI, 30, .inl (fun j => nI (G j))))] → va_S A s.heap H locs → ∀ (ls : Array Slot), lv_has ls 4 [(0, .ref m0), (1, .int (nI (i)))] → W zp l ze (headSpec wsX4_takeApart ({ frames := 1, cells := 0, slots := 0, locals := 22 })).room s m args below meth zc H locs 0 0 Q (F0 m 2 ls []) := by
    intro k
    induction k with
    | zero =>
      intro i G hi h2 H locs hP hD hS ls hl
      refine lv_iload_n hx hb dX4_takeApart_2 rfl (lv_at hl 1 rfl) ?_
      refine lv_aload_n hx hb dX4_takeApart_3 rfl (lv_at hl 0 rfl) ?_
      refine va_get (D := (dC, dI)) (ci := 5) (v := .int (nI (n))) (C := RX4) (T := TX4) (N := 20) hx hb hts hinX4 hown hK hP 0 rfl rfl 1 (by decide) hf56 (fun _ h9 => h9) rfl dX4_takeApart_4 ?_
      refine lv_icmp_ge (tgt := 23) hx hb dX4_takeApart_7 (by decide) (fun c => ?_) (fun c => ?_)
      · skip
        have c : n ≤ i := (nI_leI (a := n) (b := i) (by omega) (by omega)).mp c
        obtain rfl : n = i := by omega
        refine lv_iconst (v := nI 0) hx hb dX4_takeApart_23 (by decide) ?_
        refine lv_istore_n (lv' := [(1, .int (nI (0))), (0, .ref m0)]) hx hb dX4_takeApart_24 rfl hl (by decide) rfl (fun ls hl => ?_)
        have lp1 : ∀ (k1 : Nat) (i : Nat) (F : Nat → Nat) (G : Nat → Nat) (z : (Nat → Nat) × (Nat → Nat)), (i + k1 = rk) → (z = tkA n q RW PS hd (re, fun _ => 0) i) → (∀ k, k < n → F k = z.1 k) → (∀ k, k < n → G k = z.2 k) → ∀ (H : Heap) (locs : List Loc), va_P (dC, dI) vwCl [(m0, .inr (5, [.int (th), .int (nI (n)), .int (nI (q)), .ref aJ, .ref aS, .ref aT, .ref aW, .int (bI kn), .int (nI (rk)), .ref aR, .ref aP, .ref aH, .ref aK, .ref aE, .ref aY, .ref aN, .ref aQ, .ref aB, .ref aI, .ref aD])), (aR, .inl (cI, 900, .inl (fun j => nI (rw j)))), (aP, .inl (cI, 900, .inl (fun j => nI (ps j)))), (aH, .inl (cI, 30, .inl (fun j => nI (hd j)))), (aE, .inl (cI, 30, .inl (fun j => nI (F j)))), (aY, .inl (cI, 30, .inl (fun j => nI (G j))))] H → va_D A [(m0, .inr (5, [.int (th), .int (nI (n)), .int (nI (q)), .ref aJ, .ref aS, .ref aT, .ref aW, .int (bI kn), .int (nI (rk)), .ref aR, .ref aP, .ref aH, .ref aK, .ref aE, .ref aY, .ref aN, .ref aQ, .ref aB, .ref aI, .ref aD])), (aR, .inl (cI, 900, .inl (fun j => nI (rw j)))), (aP, .inl (cI, 900, .inl (fun j => nI (ps j)))), (aH, .inl (cI, 30, .inl (fun j => nI (hd j)))), (aE, .inl (cI, 30, .inl (fun j => nI (F j)))), (aY, .inl (cI, 30, .inl (fun j => nI (G j))))] → va_S A s.heap H locs → ∀ (ls : Array Slot), lv_has ls 4 [(0, .ref m0), (1, .int (nI (i)))] → W zp l ze (headSpec wsX4_takeApart ({ frames := 1, cells := 0, slots := 0, locals := 22 })).room s m args below meth zc H locs 0 0 Q (F0 m 25 ls []) := by
          intro k1
          induction k1 with
          | zero =>
            intro i F G z hi1 hz g1 g2 H locs hP hD hS ls hl
            refine lv_iload_n hx hb dX4_takeApart_25 rfl (lv_at hl 1 rfl) ?_
            refine lv_aload_n hx hb dX4_takeApart_26 rfl (lv_at hl 0 rfl) ?_
            refine va_get (D := (dC, dI)) (ci := 5) (v := .int (nI (rk))) (C := RX4) (T := TX4) (N := 20) hx hb hts hinX4 hown hK hP 0 rfl rfl 8 (by decide) hf85 (fun _ h9 => h9) rfl dX4_takeApart_27 ?_
            refine lv_icmp_ge (tgt := 160) hx hb dX4_takeApart_30 (by decide) (fun cc => ?_) (fun cc => ?_)
            · skip
              have cc : rk ≤ i := (nI_leI (a := rk) (b := i) (by omega) (by omega)).mp cc
              have ei : i = rk := by omega
              rw [ei] at hz
              rw [hQ]
              exact W.vret hx hb hr (fun t ht hW => ⟨⟨(F, G), rfl, ⟨fun k hk => by rw [← hz]; exact g1 k hk, fun k hk => by rw [← hz]; exact g2 k hk⟩, by rw [ht]; exact hP, va_K.moved hW.alike hK, hD⟩, hS.F ht⟩) hS.2.2 dX4_takeApart_160
            · skip
              have cc : i < rk := Nat.not_le.mp (fun h => cc ((nI_leI (a := rk) (b := i) (by omega) (by omega)).mpr h))
              exact absurd cc (by omega)
          | succ k1 ih1 =>
            intro i F G z hi1 hz g1 g2 H locs hP hD hS ls hl
            refine lv_iload_n hx hb dX4_takeApart_25 rfl (lv_at hl 1 rfl) ?_
            refine lv_aload_n hx hb dX4_takeApart_26 rfl (lv_at hl 0 rfl) ?_
            refine va_get (D := (dC, dI)) (ci := 5) (v := .int (nI (rk))) (C := RX4) (T := TX4) (N := 20) hx hb hts hinX4 hown hK hP 0 rfl rfl 8 (by decide) hf85 (fun _ h9 => h9) rfl dX4_takeApart_27 ?_
            refine lv_icmp_ge (tgt := 160) hx hb dX4_takeApart_30 (by decide) (fun cc => ?_) (fun cc => ?_)
            · skip
              have cc : rk ≤ i := (nI_leI (a := rk) (b := i) (by omega) (by omega)).mp cc
              exact absurd cc (by omega)
            · skip
              have cc : i < rk := Nat.not_le.mp (fun h => cc ((nI_leI (a := rk) (b := i) (by omega) (by omega)).mpr h))
              have blt := tkA_lt (n := n) (RW := RW) (PS := PS) (hd := hd) (show 0 < q by omega) (z := (re, fun _ => 0)) bre (fun _ _ => by dsimp only; omega) i
              rw [← hz] at blt
              have hh := hhd i (by omega)
              have bW := bRW i (by omega) (hd i) hh
              have biv : ivq q (RW i (hd i)) q 1 < 100 := ivq_lt _ _ (by omega)
              have bz := blt.1 (hd i) hh
              have bmu : z.1 (hd i) * ivq q (RW i (hd i)) q 1 ≤ 100 * 100 := Nat.mul_le_mul (by omega) (by omega)
              refine lv_aload_n hx hb dX4_takeApart_33 rfl (lv_at hl 0 rfl) ?_
              refine va_get (D := (dC, dI)) (ci := 5) (v := .ref aE) (C := RX4) (T := TX4) (N := 20) hx hb hts hinX4 hown hK hP 0 rfl rfl 13 (by decide) hf35 (fun _ h9 => h9) rfl dX4_takeApart_34 ?_
              refine lv_aload_n hx hb dX4_takeApart_37 rfl (lv_at hl 0 rfl) ?_
              refine va_get (D := (dC, dI)) (ci := 5) (v := .ref aH) (C := RX4) (T := TX4) (N := 20) hx hb hts hinX4 hown hK hP 0 rfl rfl 11 (by decide) hf29 (fun _ h9 => h9) rfl dX4_takeApart_38 ?_
              refine lv_iload_n hx hb dX4_takeApart_41 rfl (lv_at hl 1 rfl) ?_
              refine ra_ld (g := nI) (F := hd) hx hb hK hP 3 0 rfl rfl (by omega) (by omega) dX4_takeApart_42 ?_
              refine ra_ld (g := nI) (F := F) hx hb hK hP 4 0 rfl rfl (by omega) (by omega) dX4_takeApart_43 ?_
              refine tp_i (y := nI (z.1 (hd i))) (by rw [g1 _ hh]) ?_
              refine lv_aload_n hx hb dX4_takeApart_44 rfl (lv_at hl 0 rfl) ?_
              refine lv_aload_n hx hb dX4_takeApart_45 rfl (lv_at hl 0 rfl) ?_
              refine va_get (D := (dC, dI)) (ci := 5) (v := .ref aR) (C := RX4) (T := TX4) (N := 20) hx hb hts hinX4 hown hK hP 0 rfl rfl 9 (by decide) hf23 (fun _ h9 => h9) rfl dX4_takeApart_46 ?_
              refine lv_bipush (v := nI 30) hx hb dX4_takeApart_49 (by decide) ?_
              refine lv_iload_n hx hb dX4_takeApart_51 rfl (lv_at hl 1 rfl) ?_
              refine lv_imul hx hb dX4_takeApart_52 ?_
              refine tp_i (y := nI (30 * i)) (pk_mul _ _) ?_
              refine lv_aload_n hx hb dX4_takeApart_53 rfl (lv_at hl 0 rfl) ?_
              refine va_get (D := (dC, dI)) (ci := 5) (v := .ref aH) (C := RX4) (T := TX4) (N := 20) hx hb hts hinX4 hown hK hP 0 rfl rfl 11 (by decide) hf29 (fun _ h9 => h9) rfl dX4_takeApart_54 ?_
              refine lv_iload_n hx hb dX4_takeApart_57 rfl (lv_at hl 1 rfl) ?_
              refine ra_ld (g := nI) (F := hd) hx hb hK hP 3 0 rfl rfl (by omega) (by omega) dX4_takeApart_58 ?_
              refine lv_iadd hx hb dX4_takeApart_59 ?_
              refine tp_i (y := nI ((30 * i) + (hd i))) (nI_add _ _) ?_
              refine ra_ld (g := nI) (F := rw) hx hb hK hP 1 0 rfl rfl (by omega) (by omega) dX4_takeApart_60 ?_
              refine tp_i (y := nI (RW i (hd i))) (by rw [hRW i (by omega) _ hh]) ?_
              have hPc := hP.sub (ws' := [(m0, .inr (5, [.int (th), .int (nI (n)), .int (nI (q)), .ref aJ, .ref aS, .ref aT, .ref aW, .int (bI kn), .int (nI (rk)), .ref aR, .ref aP, .ref aH, .ref aK, .ref aE, .ref aY, .ref aN, .ref aQ, .ref aB, .ref aI, .ref aD]))]) [0] rfl
              have hDc := hD.sub (ws' := [(m0, .inr (5, [.int (th), .int (nI (n)), .int (nI (q)), .ref aJ, .ref aS, .ref aT, .ref aW, .int (bI kn), .int (nI (rk)), .ref aR, .ref aP, .ref aH, .ref aK, .ref aE, .ref aY, .ref aN, .ref aQ, .ref aB, .ref aI, .ref aD]))]) [0] (by decide) rfl
              have hFc := va_free (wc := [(m0, .inr (5, [.int (th), .int (nI (n)), .int (nI (q)), .ref aJ, .ref aS, .ref aT, .ref aW, .int (bI kn), .int (nI (rk)), .ref aR, .ref aP, .ref aH, .ref aK, .ref aE, .ref aY, .ref aN, .ref aQ, .ref aB, .ref aI, .ref aD]))]) hD hS hA [0] rfl
              have hKc := hK.sub (tys' := [(cI, .int), (cZ, .boolean)]) [0, 1] rfl
              refine va_calli (va_runV (As := [.int (nI (RW i (hd i)))]) (rest := [.int (nI (z.1 (hd i)))]) ⟨hx, hb, hml, hown, hts⟩ (c_X4_inverse l dC dI H.size m0 aJ aS aT aW aR aP aH aK aE aY aN aQ aB aI aD n q rk th kn cI cZ (RW i (hd i)) hq hq2 (by omega) (hiv i (by omega))) (cwV 1 hts gX4_takeApart_X4_inverse rfl rfl rfl (by decide +kernel) ⟨Nat.le_of_ble_eq_true rfl, Nat.le_of_ble_eq_true rfl⟩) ⟨fun a U g mk q => by obtain ⟨q0, q1, qP, qK, qD⟩ := q; exact ⟨q0, q1, qP, va_K.moved (u := U) (U := U.calling g mk a) (Vm.Alike.refl U.vm) qK, qD⟩, va_recv hKc hPc (ci := 5) (q0 := 0) rfl rfl, fun U hU hW => ⟨rfl, by rw [hU], by rw [hU]; exact hPc, va_K.moved hW.alike hKc, hDc.weaken (fun _ _ _ _ => trivial)⟩⟩ rfl rfl hl.1 rfl (lv_room (Nat.le_of_ble_eq_true rfl)) dX4_takeApart_61 ⟨Nat.le_of_ble_eq_true rfl, Nat.le_of_ble_eq_true rfl⟩) hS (fun q _ h => hFc q h) hFc (fun r1 uu t H1 locs ht hvm hw hB hz1 hk1 hS => ?_)
              obtain ⟨hP1, hK1, hD1⟩ := hB
              rw [ht] at hP1
              try dsimp only at hw
              obtain ⟨hP, hD⟩ := va_join (wr := [(aR, .inl (cI, 900, .inl (fun j => nI (rw j)))), (aP, .inl (cI, 900, .inl (fun j => nI (ps j)))), (aH, .inl (cI, 30, .inl (fun j => nI (hd j)))), (aE, .inl (cI, 30, .inl (fun j => nI (F j)))), (aY, .inl (cI, 30, .inl (fun j => nI (G j))))]) (w1 := [(m0, .inr (5, [.int (th), .int (nI (n)), .int (nI (q)), .ref aJ, .ref aS, .ref aT, .ref aW, .int (bI kn), .int (nI (rk)), .ref aR, .ref aP, .ref aH, .ref aK, .ref aE, .ref aY, .ref aN, .ref aQ, .ref aB, .ref aI, .ref aD]))]) hP hD [0] [1, 2, 3, 4, 5] rfl rfl (by decide) (by decide) hk1 hFc hP1 hD1
              generalize H1 = H at hP hS ⊢
              have hP := hP.sub (ws' := [(m0, .inr (5, [.int (th), .int (nI (n)), .int (nI (q)), .ref aJ, .ref aS, .ref aT, .ref aW, .int (bI kn), .int (nI (rk)), .ref aR, .ref aP, .ref aH, .ref aK, .ref aE, .ref aY, .ref aN, .ref aQ, .ref aB, .ref aI, .ref aD])), (aR, .inl (cI, 900, .inl (fun j => nI (rw j)))), (aP, .inl (cI, 900, .inl (fun j => nI (ps j)))), (aH, .inl (cI, 30, .inl (fun j => nI (hd j)))), (aE, .inl (cI, 30, .inl (fun j => nI (F j)))), (aY, .inl (cI, 30, .inl (fun j => nI (G j))))]) [5, 0, 1, 2, 3, 4] rfl
              have hD := hD.sub (ws' := [(m0, .inr (5, [.int (th), .int (nI (n)), .int (nI (q)), .ref aJ, .ref aS, .ref aT, .ref aW, .int (bI kn), .int (nI (rk)), .ref aR, .ref aP, .ref aH, .ref aK, .ref aE, .ref aY, .ref aN, .ref aQ, .ref aB, .ref aI, .ref aD])), (aR, .inl (cI, 900, .inl (fun j => nI (rw j)))), (aP, .inl (cI, 900, .inl (fun j => nI (ps j)))), (aH, .inl (cI, 30, .inl (fun j => nI (hd j)))), (aE, .inl (cI, 30, .inl (fun j => nI (F j)))), (aY, .inl (cI, 30, .inl (fun j => nI (G j))))]) [5, 0, 1, 2, 3, 4] (by decide) rfl
              have hP : va_P (dC, dI) vwCl [(m0, .inr (5, [.int (th), .int (nI (n)), .int (nI (q)), .ref aJ, .ref aS, .ref aT, .ref aW, .int (bI kn), .int (nI (rk)), .ref aR, .ref aP, .ref aH, .ref aK, .ref aE, .ref aY, .ref aN, .ref aQ, .ref aB, .ref aI, .ref aD])), (aR, .inl (cI, 900, .inl (fun j => nI (rw j)))), (aP, .inl (cI, 900, .inl (fun j => nI (ps j)))), (aH, .inl (cI, 30, .inl (fun j => nI (hd j)))), (aE, .inl (cI, 30, .inl (fun j => nI (F j)))), (aY, .inl (cI, 30, .inl (fun j => nI (G j))))] H := hP
              have hD : va_D A [(m0, .inr (5, [.int (th), .int (nI (n)), .int (nI (q)), .ref aJ, .ref aS, .ref aT, .ref aW, .int (bI kn), .int (nI (rk)), .ref aR, .ref aP, .ref aH, .ref aK, .ref aE, .ref aY, .ref aN, .ref aQ, .ref aB, .ref aI, .ref aD])), (aR, .inl (cI, 900, .inl (fun j => nI (rw j)))), (aP, .inl (cI, 900, .inl (fun j => nI (ps j)))), (aH, .inl (cI, 30, .inl (fun j => nI (hd j)))), (aE, .inl (cI, 30, .inl (fun j => nI (F j)))), (aY, .inl (cI, 30, .inl (fun j => nI (G j))))] := hD
              subst hw
              refine lv_imul hx hb dX4_takeApart_64 ?_
              refine tp_i (y := nI ((z.1 (hd i)) * (ivq q (RW i (hd i)) q 1))) (pk_mul _ _) ?_
              refine lv_aload_n hx hb dX4_takeApart_65 rfl (lv_at hl 0 rfl) ?_
              refine va_get (D := (dC, dI)) (ci := 5) (v := .int (nI (q))) (C := RX4) (T := TX4) (N := 20) hx hb hts hinX4 hown hK hP 0 rfl rfl 2 (by decide) hf60 (fun _ h9 => h9) rfl dX4_takeApart_66 ?_
              refine lv_irem hx hb dX4_takeApart_69 (nI_ne0 (by omega) (by omega)) ?_
              refine tp_i (y := nI (((z.1 (hd i)) * (ivq q (RW i (hd i)) q 1)) % q)) (pk_rem (by omega) (by omega) (by omega)) ?_
              have bmm : ((z.1 (hd i)) * (ivq q (RW i (hd i)) q 1)) % q < q := Nat.mod_lt _ (by omega)
              generalize emu : ((z.1 (hd i)) * (ivq q (RW i (hd i)) q 1)) % q = mu at bmm ⊢
              refine lv_istore_n (lv' := [(2, .int (nI (mu))), (0, .ref m0), (1, .int (nI (i)))]) hx hb dX4_takeApart_70 rfl hl (by decide) rfl (fun ls hl => ?_)
              refine lv_iconst (v := nI 0) hx hb dX4_takeApart_71 (by decide) ?_
              refine lv_istore_n (lv' := [(3, .int (nI (0))), (2, .int (nI (mu))), (0, .ref m0), (1, .int (nI (i)))]) hx hb dX4_takeApart_72 rfl hl (by decide) rfl (fun ls hl => ?_)
              have lp2 : ∀ (k2 : Nat) (b : Nat) (F : Nat → Nat) (G : Nat → Nat), (b + k2 = n) → (∀ k, k < n → F k = if k < b then (z.1 k + (q - mu) * RW i k) % q else z.1 k) → (∀ k, k < n → G k = if k < b then (z.2 k + mu * PS i k) % q else z.2 k) → ∀ (H : Heap) (locs : List Loc), va_P (dC, dI) vwCl [(m0, .inr (5, [.int (th), .int (nI (n)), .int (nI (q)), .ref aJ, .ref aS, .ref aT, .ref aW, .int (bI kn), .int (nI (rk)), .ref aR, .ref aP, .ref aH, .ref aK, .ref aE, .ref aY, .ref aN, .ref aQ, .ref aB, .ref aI, .ref aD])), (aR, .inl (cI, 900, .inl (fun j => nI (rw j)))), (aP, .inl (cI, 900, .inl (fun j => nI (ps j)))), (aH, .inl (cI, 30, .inl (fun j => nI (hd j)))), (aE, .inl (cI, 30, .inl (fun j => nI (F j)))), (aY, .inl (cI, 30, .inl (fun j => nI (G j))))] H → va_D A [(m0, .inr (5, [.int (th), .int (nI (n)), .int (nI (q)), .ref aJ, .ref aS, .ref aT, .ref aW, .int (bI kn), .int (nI (rk)), .ref aR, .ref aP, .ref aH, .ref aK, .ref aE, .ref aY, .ref aN, .ref aQ, .ref aB, .ref aI, .ref aD])), (aR, .inl (cI, 900, .inl (fun j => nI (rw j)))), (aP, .inl (cI, 900, .inl (fun j => nI (ps j)))), (aH, .inl (cI, 30, .inl (fun j => nI (hd j)))), (aE, .inl (cI, 30, .inl (fun j => nI (F j)))), (aY, .inl (cI, 30, .inl (fun j => nI (G j))))] → va_S A s.heap H locs → ∀ (ls : Array Slot), lv_has ls 4 [(0, .ref m0), (1, .int (nI (i))), (2, .int (nI (mu))), (3, .int (nI (b)))] → W zp l ze (headSpec wsX4_takeApart ({ frames := 1, cells := 0, slots := 0, locals := 22 })).room s m args below meth zc H locs 0 0 Q (F0 m 73 ls []) := by
                intro k2
                induction k2 with
                | zero =>
                  intro b F G hb2 f1 f2 H locs hP hD hS ls hl
                  refine lv_iload_n hx hb dX4_takeApart_73 rfl (lv_at hl 3 rfl) ?_
                  refine lv_aload_n hx hb dX4_takeApart_74 rfl (lv_at hl 0 rfl) ?_
                  refine va_get (D := (dC, dI)) (ci := 5) (v := .int (nI (n))) (C := RX4) (T := TX4) (N := 20) hx hb hts hinX4 hown hK hP 0 rfl rfl 1 (by decide) hf56 (fun _ h9 => h9) rfl dX4_takeApart_75 ?_
                  refine lv_icmp_ge (tgt := 154) hx hb dX4_takeApart_78 (by decide) (fun c2 => ?_) (fun c2 => ?_)
                  · skip
                    have c2 : n ≤ b := (nI_leI (a := n) (b := b) (by omega) (by omega)).mp c2
                    refine lv_iinc (v := nI (i + 1)) (lv' := [(1, .int (nI (i + 1))), (0, .ref m0), (2, .int (nI (mu))), (3, .int (nI (b)))]) hx hb dX4_takeApart_154 hl (k := 1) rfl (nI_1 _) (by decide) rfl (fun ls hl => ?_)
                    refine lv_goto (tgt := 25) hx hb dX4_takeApart_157 (by decide) ?_
                    exact ih1 (i + 1) F G (tkS n q RW PS hd i z) (by omega) (by rw [hz]; rfl) (fun k hk => by rw [f1 k hk, if_pos (by omega)]; unfold tkS; rw [emu]) (fun k hk => by rw [f2 k hk, if_pos (by omega)]; unfold tkS; rw [emu]) _ _ hP hD hS ls (lv_sub hl [1, 0] rfl)
                  · skip
                    have c2 : b < n := Nat.not_le.mp (fun h => c2 ((nI_leI (a := n) (b := b) (by omega) (by omega)).mpr h))
                    exact absurd c2 (by omega)
                | succ k2 ih2 =>
                  intro b F G hb2 f1 f2 H locs hP hD hS ls hl
                  refine lv_iload_n hx hb dX4_takeApart_73 rfl (lv_at hl 3 rfl) ?_
                  refine lv_aload_n hx hb dX4_takeApart_74 rfl (lv_at hl 0 rfl) ?_
                  refine va_get (D := (dC, dI)) (ci := 5) (v := .int (nI (n))) (C := RX4) (T := TX4) (N := 20) hx hb hts hinX4 hown hK hP 0 rfl rfl 1 (by decide) hf56 (fun _ h9 => h9) rfl dX4_takeApart_75 ?_
                  refine lv_icmp_ge (tgt := 154) hx hb dX4_takeApart_78 (by decide) (fun c2 => ?_) (fun c2 => ?_)
                  · skip
                    have c2 : n ≤ b := (nI_leI (a := n) (b := b) (by omega) (by omega)).mp c2
                    exact absurd c2 (by omega)
                  · skip
                    have c2 : b < n := Nat.not_le.mp (fun h => c2 ((nI_leI (a := n) (b := b) (by omega) (by omega)).mpr h))
                    have e1 : F b = z.1 b := by rw [f1 b (by omega), if_neg (by omega)]
                    have e2 : G b = z.2 b := by rw [f2 b (by omega), if_neg (by omega)]
                    have u1 := blt.1 b (by omega)
                    have u2 := blt.2 b (by omega)
                    have u3 := bRW i (by omega) b (by omega)
                    have u4 := bPS i (by omega) b (by omega)
                    have u5 : (q - mu) * RW i b ≤ 100 * 100 := Nat.mul_le_mul (by omega) (by omega)
                    have u6 : mu * PS i b ≤ 100 * 100 := Nat.mul_le_mul (by omega) (by omega)
                    refine lv_aload_n hx hb dX4_takeApart_81 rfl (lv_at hl 0 rfl) ?_
                    refine va_get (D := (dC, dI)) (ci := 5) (v := .ref aE) (C := RX4) (T := TX4) (N := 20) hx hb hts hinX4 hown hK hP 0 rfl rfl 13 (by decide) hf35 (fun _ h9 => h9) rfl dX4_takeApart_82 ?_
                    refine lv_iload_n hx hb dX4_takeApart_85 rfl (lv_at hl 3 rfl) ?_
                    refine lv_aload_n hx hb dX4_takeApart_86 rfl (lv_at hl 0 rfl) ?_
                    refine va_get (D := (dC, dI)) (ci := 5) (v := .ref aE) (C := RX4) (T := TX4) (N := 20) hx hb hts hinX4 hown hK hP 0 rfl rfl 13 (by decide) hf35 (fun _ h9 => h9) rfl dX4_takeApart_87 ?_
                    refine lv_iload_n hx hb dX4_takeApart_90 rfl (lv_at hl 3 rfl) ?_
                    refine ra_ld (g := nI) (F := F) hx hb hK hP 4 0 rfl rfl (by omega) (by omega) dX4_takeApart_91 ?_
                    refine tp_i (y := nI (z.1 b)) (by rw [e1]) ?_
                    refine lv_aload_n hx hb dX4_takeApart_92 rfl (lv_at hl 0 rfl) ?_
                    refine va_get (D := (dC, dI)) (ci := 5) (v := .int (nI (q))) (C := RX4) (T := TX4) (N := 20) hx hb hts hinX4 hown hK hP 0 rfl rfl 2 (by decide) hf60 (fun _ h9 => h9) rfl dX4_takeApart_93 ?_
                    refine lv_iload_n hx hb dX4_takeApart_96 rfl (lv_at hl 2 rfl) ?_
                    refine lv_isub hx hb dX4_takeApart_97 ?_
                    refine tp_i (y := nI (q - mu)) (pk_sub (by omega)) ?_
                    refine lv_aload_n hx hb dX4_takeApart_98 rfl (lv_at hl 0 rfl) ?_
                    refine va_get (D := (dC, dI)) (ci := 5) (v := .ref aR) (C := RX4) (T := TX4) (N := 20) hx hb hts hinX4 hown hK hP 0 rfl rfl 9 (by decide) hf23 (fun _ h9 => h9) rfl dX4_takeApart_99 ?_
                    refine lv_bipush (v := nI 30) hx hb dX4_takeApart_102 (by decide) ?_
                    refine lv_iload_n hx hb dX4_takeApart_104 rfl (lv_at hl 1 rfl) ?_
                    refine lv_imul hx hb dX4_takeApart_105 ?_
                    refine tp_i (y := nI (30 * i)) (pk_mul _ _) ?_
                    refine lv_iload_n hx hb dX4_takeApart_106 rfl (lv_at hl 3 rfl) ?_
                    refine lv_iadd hx hb dX4_takeApart_107 ?_
                    refine tp_i (y := nI ((30 * i) + b)) (nI_add _ _) ?_
                    refine ra_ld (g := nI) (F := rw) hx hb hK hP 1 0 rfl rfl (by omega) (by omega) dX4_takeApart_108 ?_
                    refine tp_i (y := nI (RW i b)) (by rw [hRW i (by omega) b (by omega)]) ?_
                    refine lv_imul hx hb dX4_takeApart_109 ?_
                    refine tp_i (y := nI ((q - mu) * (RW i b))) (pk_mul _ _) ?_
                    refine lv_iadd hx hb dX4_takeApart_110 ?_
                    refine tp_i (y := nI ((z.1 b) + ((q - mu) * (RW i b)))) (nI_add _ _) ?_
                    refine lv_aload_n hx hb dX4_takeApart_111 rfl (lv_at hl 0 rfl) ?_
                    refine va_get (D := (dC, dI)) (ci := 5) (v := .int (nI (q))) (C := RX4) (T := TX4) (N := 20) hx hb hts hinX4 hown hK hP 0 rfl rfl 2 (by decide) hf60 (fun _ h9 => h9) rfl dX4_takeApart_112 ?_
                    refine lv_irem hx hb dX4_takeApart_115 (nI_ne0 (by omega) (by omega)) ?_
                    refine tp_i (y := nI (((z.1 b) + ((q - mu) * (RW i b))) % q)) (pk_rem (by omega) (by omega) (by omega)) ?_
                    refine ra_st (g := nI) (F := F) (v := ((z.1 b) + ((q - mu) * (RW i b))) % q) hx hb hK hP hD hS 4 0 rfl rfl (by omega) (by omega) dX4_takeApart_116 (fun H locs hP hD hS => ?_)
                    have hP : va_P (dC, dI) vwCl [(m0, .inr (5, [.int (th), .int (nI (n)), .int (nI (q)), .ref aJ, .ref aS, .ref aT, .ref aW, .int (bI kn), .int (nI (rk)), .ref aR, .ref aP, .ref aH, .ref aK, .ref aE, .ref aY, .ref aN, .ref aQ, .ref aB, .ref aI, .ref aD])), (aR, .inl (cI, 900, .inl (fun j => nI (rw j)))), (aP, .inl (cI, 900, .inl (fun j => nI (ps j)))), (aH, .inl (cI, 30, .inl (fun j => nI (hd j)))), (aE, .inl (cI, 30, .inl (fun j => nI ((va_up F b (((z.1 b) + ((q - mu) * (RW i b))) % q)) j)))), (aY, .inl (cI, 30, .inl (fun j => nI (G j))))] H := hP
                    have hD : va_D A [(m0, .inr (5, [.int (th), .int (nI (n)), .int (nI (q)), .ref aJ, .ref aS, .ref aT, .ref aW, .int (bI kn), .int (nI (rk)), .ref aR, .ref aP, .ref aH, .ref aK, .ref aE, .ref aY, .ref aN, .ref aQ, .ref aB, .ref aI, .ref aD])), (aR, .inl (cI, 900, .inl (fun j => nI (rw j)))), (aP, .inl (cI, 900, .inl (fun j => nI (ps j)))), (aH, .inl (cI, 30, .inl (fun j => nI (hd j)))), (aE, .inl (cI, 30, .inl (fun j => nI ((va_up F b (((z.1 b) + ((q - mu) * (RW i b))) % q)) j)))), (aY, .inl (cI, 30, .inl (fun j => nI (G j))))] := hD
                    refine lv_aload_n hx hb dX4_takeApart_117 rfl (lv_at hl 0 rfl) ?_
                    refine va_get (D := (dC, dI)) (ci := 5) (v := .ref aY) (C := RX4) (T := TX4) (N := 20) hx hb hts hinX4 hown hK hP 0 rfl rfl 14 (by decide) hf38 (fun _ h9 => h9) rfl dX4_takeApart_118 ?_
                    refine lv_iload_n hx hb dX4_takeApart_121 rfl (lv_at hl 3 rfl) ?_
                    refine lv_aload_n hx hb dX4_takeApart_122 rfl (lv_at hl 0 rfl) ?_
                    refine va_get (D := (dC, dI)) (ci := 5) (v := .ref aY) (C := RX4) (T := TX4) (N := 20) hx hb hts hinX4 hown hK hP 0 rfl rfl 14 (by decide) hf38 (fun _ h9 => h9) rfl dX4_takeApart_123 ?_
                    refine lv_iload_n hx hb dX4_takeApart_126 rfl (lv_at hl 3 rfl) ?_
                    refine ra_ld (g := nI) (F := G) hx hb hK hP 5 0 rfl rfl (by omega) (by omega) dX4_takeApart_127 ?_
                    refine tp_i (y := nI (z.2 b)) (by rw [e2]) ?_
                    refine lv_iload_n hx hb dX4_takeApart_128 rfl (lv_at hl 2 rfl) ?_
                    refine lv_aload_n hx hb dX4_takeApart_129 rfl (lv_at hl 0 rfl) ?_
                    refine va_get (D := (dC, dI)) (ci := 5) (v := .ref aP) (C := RX4) (T := TX4) (N := 20) hx hb hts hinX4 hown hK hP 0 rfl rfl 10 (by decide) hf26 (fun _ h9 => h9) rfl dX4_takeApart_130 ?_
                    refine lv_bipush (v := nI 30) hx hb dX4_takeApart_133 (by decide) ?_
                    refine lv_iload_n hx hb dX4_takeApart_135 rfl (lv_at hl 1 rfl) ?_
                    refine lv_imul hx hb dX4_takeApart_136 ?_
                    refine tp_i (y := nI (30 * i)) (pk_mul _ _) ?_
                    refine lv_iload_n hx hb dX4_takeApart_137 rfl (lv_at hl 3 rfl) ?_
                    refine lv_iadd hx hb dX4_takeApart_138 ?_
                    refine tp_i (y := nI ((30 * i) + b)) (nI_add _ _) ?_
                    refine ra_ld (g := nI) (F := ps) hx hb hK hP 2 0 rfl rfl (by omega) (by omega) dX4_takeApart_139 ?_
                    refine tp_i (y := nI (PS i b)) (by rw [hPS i (by omega) b (by omega)]) ?_
                    refine lv_imul hx hb dX4_takeApart_140 ?_
                    refine tp_i (y := nI (mu * (PS i b))) (pk_mul _ _) ?_
                    refine lv_iadd hx hb dX4_takeApart_141 ?_
                    refine tp_i (y := nI ((z.2 b) + (mu * (PS i b)))) (nI_add _ _) ?_
                    refine lv_aload_n hx hb dX4_takeApart_142 rfl (lv_at hl 0 rfl) ?_
                    refine va_get (D := (dC, dI)) (ci := 5) (v := .int (nI (q))) (C := RX4) (T := TX4) (N := 20) hx hb hts hinX4 hown hK hP 0 rfl rfl 2 (by decide) hf60 (fun _ h9 => h9) rfl dX4_takeApart_143 ?_
                    refine lv_irem hx hb dX4_takeApart_146 (nI_ne0 (by omega) (by omega)) ?_
                    refine tp_i (y := nI (((z.2 b) + (mu * (PS i b))) % q)) (pk_rem (by omega) (by omega) (by omega)) ?_
                    refine ra_st (g := nI) (F := G) (v := ((z.2 b) + (mu * (PS i b))) % q) hx hb hK hP hD hS 5 0 rfl rfl (by omega) (by omega) dX4_takeApart_147 (fun H locs hP hD hS => ?_)
                    have hP : va_P (dC, dI) vwCl [(m0, .inr (5, [.int (th), .int (nI (n)), .int (nI (q)), .ref aJ, .ref aS, .ref aT, .ref aW, .int (bI kn), .int (nI (rk)), .ref aR, .ref aP, .ref aH, .ref aK, .ref aE, .ref aY, .ref aN, .ref aQ, .ref aB, .ref aI, .ref aD])), (aR, .inl (cI, 900, .inl (fun j => nI (rw j)))), (aP, .inl (cI, 900, .inl (fun j => nI (ps j)))), (aH, .inl (cI, 30, .inl (fun j => nI (hd j)))), (aE, .inl (cI, 30, .inl (fun j => nI ((va_up F b (((z.1 b) + ((q - mu) * (RW i b))) % q)) j)))), (aY, .inl (cI, 30, .inl (fun j => nI ((va_up G b (((z.2 b) + (mu * (PS i b))) % q)) j))))] H := hP
                    have hD : va_D A [(m0, .inr (5, [.int (th), .int (nI (n)), .int (nI (q)), .ref aJ, .ref aS, .ref aT, .ref aW, .int (bI kn), .int (nI (rk)), .ref aR, .ref aP, .ref aH, .ref aK, .ref aE, .ref aY, .ref aN, .ref aQ, .ref aB, .ref aI, .ref aD])), (aR, .inl (cI, 900, .inl (fun j => nI (rw j)))), (aP, .inl (cI, 900, .inl (fun j => nI (ps j)))), (aH, .inl (cI, 30, .inl (fun j => nI (hd j)))), (aE, .inl (cI, 30, .inl (fun j => nI ((va_up F b (((z.1 b) + ((q - mu) * (RW i b))) % q)) j)))), (aY, .inl (cI, 30, .inl (fun j => nI ((va_up G b (((z.2 b) + (mu * (PS i b))) % q)) j))))] := hD
                    refine lv_iinc (v := nI (b + 1)) (lv' := [(3, .int (nI (b + 1))), (0, .ref m0), (1, .int (nI (i))), (2, .int (nI (mu)))]) hx hb dX4_takeApart_148 hl (k := 3) rfl (nI_1 _) (by decide) rfl (fun ls hl => ?_)
                    refine lv_goto (tgt := 73) hx hb dX4_takeApart_151 (by decide) ?_
                    exact ih2 (b + 1) (va_up F b ((z.1 b + (q - mu) * RW i b) % q)) (va_up G b ((z.2 b + mu * PS i b) % q)) (by omega) (fun k hk => by
                          by_cases e : k = b
                          · subst e; rw [up_at, if_pos (by omega)]
                          · rw [up_of _ _ e, f1 k hk]
                            by_cases e3 : k < b
                            · rw [if_pos e3, if_pos (by omega)]
                            · rw [if_neg e3, if_neg (by omega)]) (fun k hk => by
                          by_cases e : k = b
                          · subst e; rw [up_at, if_pos (by omega)]
                          · rw [up_of _ _ e, f2 k hk]
                            by_cases e3 : k < b
                            · rw [if_pos e3, if_pos (by omega)]
                            · rw [if_neg e3, if_neg (by omega)]) _ _ hP hD hS ls (lv_sub hl [1, 2, 3, 0] rfl)
              exact lp2 n 0 F G (by omega) (fun k hk => by rw [if_neg (by omega)]; exact g1 k hk) (fun k hk => by rw [if_neg (by omega)]; exact g2 k hk) _ _ hP hD hS ls (lv_sub hl [2, 3, 1, 0] rfl)
        exact lp1 rk 0 re G (re, fun _ => 0) (by omega) rfl (fun _ _ => rfl) h2 _ _ hP hD hS ls (lv_sub hl [1, 0] rfl)
      · skip
        have c : i < n := Nat.not_le.mp (fun h => c ((nI_leI (a := n) (b := i) (by omega) (by omega)).mpr h))
        exact absurd c (by omega)
    | succ k ih =>
      intro i G hi h2 H locs hP hD hS ls hl
      refine lv_iload_n hx hb dX4_takeApart_2 rfl (lv_at hl 1 rfl) ?_
      refine lv_aload_n hx hb dX4_takeApart_3 rfl (lv_at hl 0 rfl) ?_
      refine va_get (D := (dC, dI)) (ci := 5) (v := .int (nI (n))) (C := RX4) (T := TX4) (N := 20) hx hb hts hinX4 hown hK hP 0 rfl rfl 1 (by decide) hf56 (fun _ h9 => h9) rfl dX4_takeApart_4 ?_
      refine lv_icmp_ge (tgt := 23) hx hb dX4_takeApart_7 (by decide) (fun c => ?_) (fun c => ?_)
      · skip
        have c : n ≤ i := (nI_leI (a := n) (b := i) (by omega) (by omega)).mp c
        exact absurd c (by omega)
      · skip
        have c : i < n := Nat.not_le.mp (fun h => c ((nI_leI (a := n) (b := i) (by omega) (by omega)).mpr h))
        refine lv_aload_n hx hb dX4_takeApart_10 rfl (lv_at hl 0 rfl) ?_
        refine va_get (D := (dC, dI)) (ci := 5) (v := .ref aY) (C := RX4) (T := TX4) (N := 20) hx hb hts hinX4 hown hK hP 0 rfl rfl 14 (by decide) hf38 (fun _ h9 => h9) rfl dX4_takeApart_11 ?_
        refine lv_iload_n hx hb dX4_takeApart_14 rfl (lv_at hl 1 rfl) ?_
        refine lv_iconst (v := nI 0) hx hb dX4_takeApart_15 (by decide) ?_
        refine ra_st (g := nI) (F := G) (v := 0) hx hb hK hP hD hS 5 0 rfl rfl (by omega) (by omega) dX4_takeApart_16 (fun H locs hP hD hS => ?_)
        have hP : va_P (dC, dI) vwCl [(m0, .inr (5, [.int (th), .int (nI (n)), .int (nI (q)), .ref aJ, .ref aS, .ref aT, .ref aW, .int (bI kn), .int (nI (rk)), .ref aR, .ref aP, .ref aH, .ref aK, .ref aE, .ref aY, .ref aN, .ref aQ, .ref aB, .ref aI, .ref aD])), (aR, .inl (cI, 900, .inl (fun j => nI (rw j)))), (aP, .inl (cI, 900, .inl (fun j => nI (ps j)))), (aH, .inl (cI, 30, .inl (fun j => nI (hd j)))), (aE, .inl (cI, 30, .inl (fun j => nI (re j)))), (aY, .inl (cI, 30, .inl (fun j => nI ((va_up G i (0)) j))))] H := hP
        have hD : va_D A [(m0, .inr (5, [.int (th), .int (nI (n)), .int (nI (q)), .ref aJ, .ref aS, .ref aT, .ref aW, .int (bI kn), .int (nI (rk)), .ref aR, .ref aP, .ref aH, .ref aK, .ref aE, .ref aY, .ref aN, .ref aQ, .ref aB, .ref aI, .ref aD])), (aR, .inl (cI, 900, .inl (fun j => nI (rw j)))), (aP, .inl (cI, 900, .inl (fun j => nI (ps j)))), (aH, .inl (cI, 30, .inl (fun j => nI (hd j)))), (aE, .inl (cI, 30, .inl (fun j => nI (re j)))), (aY, .inl (cI, 30, .inl (fun j => nI ((va_up G i (0)) j))))] := hD
        refine lv_iinc (v := nI (i + 1)) (lv' := [(1, .int (nI (i + 1))), (0, .ref m0)]) hx hb dX4_takeApart_17 hl (k := 1) rfl (nI_1 _) (by decide) rfl (fun ls hl => ?_)
        refine lv_goto (tgt := 2) hx hb dX4_takeApart_20 (by decide) ?_
        exact ih (i + 1) (va_up G i 0) (by omega) (fun k hk => by
              by_cases e : k = i
              · rw [e, up_at]
              · rw [up_of _ _ e]; exact h2 k (by omega)) _ _ hP hD hS ls (lv_sub hl [1, 0] rfl)
  exact lp n 0 yy (by omega) (fun k h => absurd h (by omega)) _ _ hP hD hS ls (lv_sub hl [1, 0] rfl)

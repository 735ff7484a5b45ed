set_option maxHeartbeats 4000000 in
set_option maxRecDepth 100000 in
theorem c_X1_inverse (l : Launch) (dC : Nat → ClassId) (dI : Nat → Nat → Nat) (sz : Nat) (h0 n q r : Nat) (v2 v3 v4 v5 v6 : Value) (hq : 2 ≤ q) (hq2 : q < 100) (hr2 : r < 100) : Met l yX1_inverse wsX1_inverse ({ frames := 0, cells := 0, slots := 0, locals := 0 }) (va_Pc [.ref h0, .int (nI (r))] (fun U => U.heap.size = sz ∧ va_P (dC, dI) vwCl [(h0, .inr (2, [.int (nI (n)), .int (nI (q)), v2, v3, v4, v5, v6]))] U.heap ∧ va_K (dC, dI) vwCl [] U ∧ va_D (fun _ => True) [(h0, .inr (2, [.int (nI (n)), .int (nI (q)), v2, v3, v4, v5, v6]))])) (va_Qi (fun (z : Int32) (_ : Unit) => z = nI (ivq q r (q - 2) 2)) (fun _ t => va_P (dC, dI) vwCl [(h0, .inr (2, [.int (nI (n)), .int (nI (q)), v2, v3, v4, v5, v6]))] t.heap ∧ va_K (dC, dI) vwCl [] t ∧ va_D (va_A [(h0, .inr (2, [.int (nI (n)), .int (nI (q)), v2, v3, v4, v5, v6]))] sz) [(h0, .inr (2, [.int (nI (n)), .int (nI (q)), v2, v3, v4, v5, v6]))]) (va_A [(h0, .inr (2, [.int (nI (n)), .int (nI (q)), v2, v3, v4, v5, v6]))] sz)) 0 0 (va_A [(h0, .inr (2, [.int (nI (n)), .int (nI (q)), v2, v3, v4, v5, v6]))] sz) := by
  refine Met.ofW (cc := cX1_inverse) (maxL := 3) (ret := (some .int)) (by decide) rfl ?_
  intro zp ze s m args below meth zc s₁ B hml hv
  obtain ⟨hargs, hsz, hP, hK, hD0⟩ := hv
  have hx := B.exec
  have hb := B.bytes
  have hr := B.returns
  have hts := atoms_spec (ws := wsX1_inverse) B.pre
  have hown : s.vm.findClass RX1 = some m.cls := findClass_of_methodNamed B.named
  have hlocks := B.notSynchronized
  subst hsz
  obtain ⟨Q, hQ⟩ : ∃ Q, Q = MQ below (va_Qi (fun (z : Int32) (_ : Unit) => z = nI (ivq q r (q - 2) 2)) (fun _ t => va_P (dC, dI) vwCl [(h0, .inr (2, [.int (nI (n)), .int (nI (q)), v2, v3, v4, v5, v6]))] t.heap ∧ va_K (dC, dI) vwCl [] t ∧ va_D (va_A [(h0, .inr (2, [.int (nI (n)), .int (nI (q)), v2, v3, v4, v5, v6]))] s.heap.size) [(h0, .inr (2, [.int (nI (n)), .int (nI (q)), v2, v3, v4, v5, v6]))]) (va_A [(h0, .inr (2, [.int (nI (n)), .int (nI (q)), v2, v3, v4, v5, v6]))] s.heap.size)) args s 0 0 (va_A [(h0, .inr (2, [.int (nI (n)), .int (nI (q)), v2, v3, v4, v5, v6]))] s.heap.size) := ⟨_, rfl⟩
  rw [← hQ]
  have hD := hD0.self (sz := s.heap.size)
  generalize hAe : (va_A [(h0, .inr (2, [.int (nI (n)), .int (nI (q)), v2, v3, v4, v5, v6]))] s.heap.size) = A at hD hQ
  have hA : ∀ q : Nat, s.heap.size ≤ q → A q := fun q h => by rw [← hAe]; exact Or.inr h
  have hS : va_S A s.heap s.heap [] := va_S.rf
  have hl := lv_entry ([.ref h0, .int (nI (r))]) (n := 3) (Nat.le_of_ble_eq_true rfl)
  generalize hen : entryFrame m args 3 = fr
  rw [hargs, lg_entry_eq] at hen
  subst hen
  generalize (lg_sl ([.ref h0, .int (nI (r))]) ++ List.replicate (3 - (lg_sl ([.ref h0, .int (nI (r))])).length) Slot.unset).toArray = ls at hl ⊢
  have hl : lv_has ls 3 [(0, .ref h0), (1, .int (nI (r)))] := hl
  have hinX1 : ∀ w ∈ wsX10, w ∈ wsX1_inverse := by decide +kernel
  have hf15 := hts (.fieldLink RX1 15 "LightRows$Equations" "modulus" "I") (by decide +kernel)
  refine lv_iconst (v := nI 2) hx hb dX1_inverse_0 (by decide) ?_
  refine lv_istore_n (lv' := [(2, .int (nI (2))), (0, .ref h0), (1, .int (nI (r)))]) hx hb dX1_inverse_1 rfl hl (by decide) rfl (fun ls hl => ?_)
  have lp : ∀ (k : Nat) (i : Nat), (i + k = q) → (ivq q r (q - 2) 2 = ivq q r k i) → ∀ (H : Heap) (locs : List Loc), va_P (dC, dI) vwCl [(h0, .inr (2, [.int (nI (n)), .int (nI (q)), v2, v3, v4, v5, v6]))] H → va_D A [(h0, .inr (2, [.int (nI (n)), .int (nI (q)), v2, v3, v4, v5, v6]))] → va_S A s.heap H locs → ∀ (ls : Array Slot), lv_has ls 3 [(0, .ref h0), (1, .int (nI (r))), (2, .int (nI (i)))] → W zp l ze (headSpec wsX1_inverse ({ frames := 0, cells := 0, slots := 0, locals := 0 })).room s m args below meth zc H locs 0 0 Q (F0 m 2 ls []) := by
    intro k
    induction k with
    | zero =>
      intro i hi hI H locs hP hD hS ls hl
      refine lv_iload_n hx hb dX1_inverse_2 rfl (lv_at hl 2 rfl) ?_
      refine lv_aload_n hx hb dX1_inverse_3 rfl (lv_at hl 0 rfl) ?_
      refine va_get (D := (dC, dI)) (ci := 2) (v := .int (nI (q))) (C := RX1) (T := TX1) (N := 7) hx hb hts hinX1 hown hK hP 0 rfl rfl 1 (by decide) hf15 (fun _ h9 => h9) rfl dX1_inverse_4 ?_
      refine lv_icmp_ge (tgt := 30) hx hb dX1_inverse_7 (by decide) (fun c => ?_) (fun c => ?_)
      · skip
        have c : q ≤ i := (nI_leI (a := q) (b := i) (by omega) (by omega)).mp c
        refine lv_iconst (v := nI 1) hx hb dX1_inverse_30 (by decide) ?_
        rw [hQ]
        exact W.iret (v := nI (1)) hx hb hr (fun t ht hW => ⟨⟨_, (), rfl, by rw [hI]; rfl, by rw [ht]; exact hP, va_K.moved hW.alike hK, hD⟩, hS.F ht⟩) hS.2.2 dX1_inverse_31
      · skip
        have c : i < q := Nat.not_le.mp (fun h => c ((nI_leI (a := q) (b := i) (by omega) (by omega)).mpr h))
        exact absurd c (by omega)
    | succ k ih =>
      intro i hi hI H locs hP hD hS ls hl
      refine lv_iload_n hx hb dX1_inverse_2 rfl (lv_at hl 2 rfl) ?_
      refine lv_aload_n hx hb dX1_inverse_3 rfl (lv_at hl 0 rfl) ?_
      refine va_get (D := (dC, dI)) (ci := 2) (v := .int (nI (q))) (C := RX1) (T := TX1) (N := 7) hx hb hts hinX1 hown hK hP 0 rfl rfl 1 (by decide) hf15 (fun _ h9 => h9) rfl dX1_inverse_4 ?_
      refine lv_icmp_ge (tgt := 30) hx hb dX1_inverse_7 (by decide) (fun c => ?_) (fun c => ?_)
      · skip
        have c : q ≤ i := (nI_leI (a := q) (b := i) (by omega) (by omega)).mp c
        exact absurd c (by omega)
      · skip
        have c : i < q := Nat.not_le.mp (fun h => c ((nI_leI (a := q) (b := i) (by omega) (by omega)).mpr h))
        have bM : r * i ≤ 100 * 100 := Nat.mul_le_mul (by omega) (by omega)
        have bR : r * i % q < q := Nat.mod_lt _ (by omega)
        refine lv_iload_n hx hb dX1_inverse_10 rfl (lv_at hl 1 rfl) ?_
        refine lv_iload_n hx hb dX1_inverse_11 rfl (lv_at hl 2 rfl) ?_
        refine lv_imul hx hb dX1_inverse_12 ?_
        refine tp_i (y := nI (r * i)) (pk_mul _ _) ?_
        refine lv_aload_n hx hb dX1_inverse_13 rfl (lv_at hl 0 rfl) ?_
        refine va_get (D := (dC, dI)) (ci := 2) (v := .int (nI (q))) (C := RX1) (T := TX1) (N := 7) hx hb hts hinX1 hown hK hP 0 rfl rfl 1 (by decide) hf15 (fun _ h9 => h9) rfl dX1_inverse_14 ?_
        refine lv_irem hx hb dX1_inverse_17 (nI_ne0 (by omega) (by omega)) ?_
        refine tp_i (y := nI ((r * i) % q)) (pk_rem (by omega) (by omega) (by omega)) ?_
        refine lv_iconst (v := nI 1) hx hb dX1_inverse_18 (by decide) ?_
        refine lv_icmp_ne (tgt := 24) hx hb dX1_inverse_19 (by decide) (fun c2 => ?_) (fun c2 => ?_)
        · skip
          have c2 : (r * i) % q ≠ 1 := fun h => c2 ((nI_eq (a := (r * i) % q) (b := 1) (by omega) (by omega)).mpr h)
          refine lv_iinc (v := nI (i + 1)) (lv' := [(2, .int (nI (i + 1))), (0, .ref h0), (1, .int (nI (r)))]) hx hb dX1_inverse_24 hl (k := 2) rfl (nI_1 _) (by decide) rfl (fun ls hl => ?_)
          refine lv_goto (tgt := 2) hx hb dX1_inverse_27 (by decide) ?_
          exact ih (i + 1) (by omega) (by rw [hI]; simp only [ivq]; rw [if_neg c2]) _ _ hP hD hS ls (lv_sub hl [1, 2, 0] rfl)
        · skip
          have c2 : (r * i) % q = 1 := (nI_eq (a := (r * i) % q) (b := 1) (by omega) (by omega)).mp c2
          refine lv_iload_n hx hb dX1_inverse_22 rfl (lv_at hl 2 rfl) ?_
          rw [hQ]
          exact W.iret (v := nI (i)) hx hb hr (fun t ht hW => ⟨⟨_, (), rfl, by rw [hI]; simp only [ivq]; rw [if_pos c2], by rw [ht]; exact hP, va_K.moved hW.alike hK, hD⟩, hS.F ht⟩) hS.2.2 dX1_inverse_23
  exact lp (q - 2) 2 (by omega) rfl _ _ hP hD hS ls (lv_sub hl [1, 2, 0] rfl)

set_option maxHeartbeats 4000000 in
set_option maxRecDepth 100000 in
theorem c_X1_makeUnit (l : Launch) (dC : Nat → ClassId) (dI : Nat → Nat → Nat) (sz : Nat) (h0 n q x j0 : Nat) (v2 v3 v4 v5 v6 : Value) (cI : ClassId) (L : List Nat) (pl : Nat → Nat) (pr : Nat → Nat → Nat) (hn : n < 1000) (hq : 2 ≤ q) (hq2 : q < 100) (hj0 : j0 < n + 1) (hx1 : x ∈ L) (lx : pl x = n + 1) (bx : ∀ j, j < n + 1 → pr x j < q) (hiv : ivq q (pr x j0) (q - 2) 2 < 100) : Met l yX1_makeUnit wsX1_makeUnit ({ frames := 1, cells := 0, slots := 0, locals := 22 }) (va_Pc [.ref h0, .ref x, .int (nI (j0))] (fun U => U.heap.size = sz ∧ va_P (dC, dI) vwCl (([(h0, .inr (2, [.int (nI (n)), .int (nI (q)), v2, v3, v4, v5, v6]))] : va_W) ++ va_pl L (pI cI pl pr)) U.heap ∧ va_K (dC, dI) vwCl [(cI, .int)] U ∧ va_D (fun _ => True) (([(h0, .inr (2, [.int (nI (n)), .int (nI (q)), v2, v3, v4, v5, v6]))] : va_W) ++ va_pl L (pI cI pl pr)))) (va_Qv (fun _ : Unit => True) (fun _ t => va_P (dC, dI) vwCl (([(h0, .inr (2, [.int (nI (n)), .int (nI (q)), v2, v3, v4, v5, v6]))] : va_W) ++ va_pl L (pI cI pl (va_up pr x (scR n q (ivq q (pr x j0) (q - 2) 2) (pr x))))) t.heap ∧ va_K (dC, dI) vwCl [(cI, .int)] t ∧ va_D (va_A (([(h0, .inr (2, [.int (nI (n)), .int (nI (q)), v2, v3, v4, v5, v6]))] : va_W) ++ va_pl L (pI cI pl pr)) sz) (([(h0, .inr (2, [.int (nI (n)), .int (nI (q)), v2, v3, v4, v5, v6]))] : va_W) ++ va_pl L (pI cI pl (va_up pr x (scR n q (ivq q (pr x j0) (q - 2) 2) (pr x)))))) (va_A (([(h0, .inr (2, [.int (nI (n)), .int (nI (q)), v2, v3, v4, v5, v6]))] : va_W) ++ va_pl L (pI cI pl pr)) sz)) 0 0 (va_A (([(h0, .inr (2, [.int (nI (n)), .int (nI (q)), v2, v3, v4, v5, v6]))] : va_W) ++ va_pl L (pI cI pl pr)) sz) := by
  refine Met.ofW (cc := cX1_makeUnit) (maxL := 5) (ret := none) (by decide) rfl ?_
  intro zp ze s m args below meth zc s₁ B hml hv
  obtain ⟨hargs, hsz, hP, hK, hD0⟩ := hv
  have hx := B.exec
  have hb := B.bytes
  have hr := B.returns
  have hts := atoms_spec (ws := wsX1_makeUnit) B.pre
  have hown : s.vm.findClass RX1 = some m.cls := findClass_of_methodNamed B.named
  have hlocks := B.notSynchronized
  subst hsz
  obtain ⟨Q, hQ⟩ : ∃ Q, Q = MQ below (va_Qv (fun _ : Unit => True) (fun _ t => va_P (dC, dI) vwCl (([(h0, .inr (2, [.int (nI (n)), .int (nI (q)), v2, v3, v4, v5, v6]))] : va_W) ++ va_pl L (pI cI pl (va_up pr x (scR n q (ivq q (pr x j0) (q - 2) 2) (pr x))))) t.heap ∧ va_K (dC, dI) vwCl [(cI, .int)] t ∧ va_D (va_A (([(h0, .inr (2, [.int (nI (n)), .int (nI (q)), v2, v3, v4, v5, v6]))] : va_W) ++ va_pl L (pI cI pl pr)) s.heap.size) (([(h0, .inr (2, [.int (nI (n)), .int (nI (q)), v2, v3, v4, v5, v6]))] : va_W) ++ va_pl L (pI cI pl (va_up pr x (scR n q (ivq q (pr x j0) (q - 2) 2) (pr x)))))) (va_A (([(h0, .inr (2, [.int (nI (n)), .int (nI (q)), v2, v3, v4, v5, v6]))] : va_W) ++ va_pl L (pI cI pl pr)) s.heap.size)) args s 0 0 (va_A (([(h0, .inr (2, [.int (nI (n)), .int (nI (q)), v2, v3, v4, v5, v6]))] : va_W) ++ va_pl L (pI cI pl pr)) s.heap.size) := ⟨_, rfl⟩
  rw [← hQ]
  have hD := hD0.self (sz := s.heap.size)
  generalize hAe : (va_A (([(h0, .inr (2, [.int (nI (n)), .int (nI (q)), v2, v3, v4, v5, v6]))] : va_W) ++ va_pl L (pI cI pl pr)) s.heap.size) = A at hD hQ
  have hA : ∀ q : Nat, s.heap.size ≤ q → A q := fun q h => by rw [← hAe]; exact Or.inr h
  have hS : va_S A s.heap s.heap [] := va_S.rf
  have hl := lv_entry ([.ref h0, .ref x, .int (nI (j0))]) (n := 5) (Nat.le_of_ble_eq_true rfl)
  generalize hen : entryFrame m args 5 = fr
  rw [hargs, lg_entry_eq] at hen
  subst hen
  generalize (lg_sl ([.ref h0, .ref x, .int (nI (j0))]) ++ List.replicate (5 - (lg_sl ([.ref h0, .ref x, .int (nI (j0))])).length) Slot.unset).toArray = ls at hl ⊢
  have hl : lv_has ls 5 [(0, .ref h0), (1, .ref x), (2, .int (nI (j0)))] := hl
  have hinX1 : ∀ w ∈ wsX10, w ∈ wsX1_makeUnit := by decide +kernel
  have hf9 := hts (.fieldLink RX1 9 "LightRows$Equations" "size" "I") (by decide +kernel)
  have hf15 := hts (.fieldLink RX1 15 "LightRows$Equations" "modulus" "I") (by decide +kernel)
  have b0 := bx j0 hj0
  refine lv_aload_n hx hb dX1_makeUnit_0 rfl (lv_at hl 0 rfl) ?_
  refine lv_aload_n hx hb dX1_makeUnit_1 rfl (lv_at hl 1 rfl) ?_
  refine lv_iload_n hx hb dX1_makeUnit_2 rfl (lv_at hl 2 rfl) ?_
  refine rp_ld hx hb hK hP 0 rfl (hx1) (by omega) (by omega) dX1_makeUnit_3 ?_
  have hPc := hP.sub (ws' := [(h0, .inr (2, [.int (nI (n)), .int (nI (q)), v2, v3, v4, v5, v6]))]) [0] rfl
  have hDc := hD.sub (ws' := [(h0, .inr (2, [.int (nI (n)), .int (nI (q)), v2, v3, v4, v5, v6]))]) [0] (by decide) rfl
  have hFc := va_free (wc := [(h0, .inr (2, [.int (nI (n)), .int (nI (q)), v2, v3, v4, v5, v6]))]) hD hS hA [0] rfl
  have hKc := hK.sub (tys' := []) [] rfl
  refine va_calli (va_runV (As := [.int (nI (pr x j0))]) (rest := []) ⟨hx, hb, hml, hown, hts⟩ (c_X1_inverse l dC dI s.heap.size h0 n q (pr x j0) v2 v3 v4 v5 v6 hq hq2 (by omega)) (cwV 1 hts gX1_makeUnit_X1_inverse rfl rfl rfl (by decide +kernel) ⟨Nat.le_of_ble_eq_true rfl, Nat.le_of_ble_eq_true rfl⟩) ⟨fun a U g mk q => by obtain ⟨q0, q1, qP, qK, qD⟩ := q; exact ⟨q0, q1, qP, va_K.moved (u := U) (U := U.calling g mk a) (Vm.Alike.refl U.vm) qK, qD⟩, va_recv hKc hPc (ci := 2) (q0 := 0) rfl rfl, fun U hU hW => ⟨rfl, by rw [hU], by rw [hU]; exact hPc, va_K.moved hW.alike hKc, hDc.weaken (fun _ _ _ _ => trivial)⟩⟩ rfl rfl hl.1 rfl (lv_room (Nat.le_of_ble_eq_true rfl)) dX1_makeUnit_4 ⟨Nat.zero_le _, Nat.zero_le _⟩) hS (fun q _ h => hFc q h) hFc (fun r1 u t H1 locs ht hvm hw hB hz1 hk1 hS => ?_)
  obtain ⟨hP1, hK1, hD1⟩ := hB
  rw [ht] at hP1
  try dsimp only at hw
  obtain ⟨hP, hD⟩ := va_joinQ (wr := []) (w1 := [(h0, .inr (2, [.int (nI (n)), .int (nI (q)), v2, v3, v4, v5, v6]))]) hP hD [0] [] rfl rfl (by decide) (by decide) hk1 hFc hP1 hD1
  generalize H1 = H at hP hS ⊢
  have hP := hP.part (cx := [(h0, .inr (2, [.int (nI (n)), .int (nI (q)), v2, v3, v4, v5, v6]))]) [0] rfl
  have hD := hD.part (cx := [(h0, .inr (2, [.int (nI (n)), .int (nI (q)), v2, v3, v4, v5, v6]))]) [0] (by decide) rfl
  have hP : va_P (dC, dI) vwCl (([(h0, .inr (2, [.int (nI (n)), .int (nI (q)), v2, v3, v4, v5, v6]))] : va_W) ++ va_pl L (pI cI pl pr)) H := hP
  have hD : va_D A (([(h0, .inr (2, [.int (nI (n)), .int (nI (q)), v2, v3, v4, v5, v6]))] : va_W) ++ va_pl L (pI cI pl pr)) := hD
  subst hw
  generalize hf : ivq q (pr x j0) (q - 2) 2 = f at hiv hQ ⊢
  refine lv_istore_n (lv' := [(3, .int (nI (f))), (0, .ref h0), (1, .ref x), (2, .int (nI (j0)))]) hx hb dX1_makeUnit_7 rfl hl (by decide) rfl (fun ls hl => ?_)
  refine lv_iconst (v := nI 0) hx hb dX1_makeUnit_8 (by decide) ?_
  refine lv_istore (lv' := [(4, .int (nI (0))), (3, .int (nI (f))), (0, .ref h0), (1, .ref x), (2, .int (nI (j0)))]) hx hb dX1_makeUnit_9 hl (by decide) rfl (fun ls hl => ?_)
  have lp : ∀ (k : Nat) (i : Nat) (F : Nat → Nat), (i + k = n + 1) → (∀ j, F j = if j < i then (fun j => pr x j * f % q) j else pr x j) → ∀ (H : Heap) (locs : List Loc), va_P (dC, dI) vwCl (([(h0, .inr (2, [.int (nI (n)), .int (nI (q)), v2, v3, v4, v5, v6]))] : va_W) ++ va_pl L (pI cI pl (va_up pr x F))) H → va_D A (([(h0, .inr (2, [.int (nI (n)), .int (nI (q)), v2, v3, v4, v5, v6]))] : va_W) ++ va_pl L (pI cI pl (va_up pr x F))) → va_S A s.heap H locs → ∀ (ls : Array Slot), lv_has ls 5 [(0, .ref h0), (1, .ref x), (2, .int (nI (j0))), (3, .int (nI (f))), (4, .int (nI (i)))] → W zp l ze (headSpec wsX1_makeUnit ({ frames := 1, cells := 0, slots := 0, locals := 22 })).room s m args below meth zc H locs 0 0 Q (F0 m 11 ls []) := by
    intro k
    induction k with
    | zero =>
      intro i F hi hF H locs hP hD hS ls hl
      refine lv_iload hx hb dX1_makeUnit_11 (lv_at hl 4 rfl) ?_
      refine lv_aload_n hx hb dX1_makeUnit_13 rfl (lv_at hl 0 rfl) ?_
      refine va_get (D := (dC, dI)) (ci := 2) (v := .int (nI (n))) (C := RX1) (T := TX1) (N := 7) hx hb hts hinX1 hown hK hP 0 rfl rfl 0 (by decide) hf9 (fun _ h9 => h9) rfl dX1_makeUnit_14 ?_
      refine lv_icmp_gt (tgt := 41) hx hb dX1_makeUnit_17 (by decide) (fun c => ?_) (fun c => ?_)
      · skip
        have c : n < i := (nI_ltI (a := n) (b := i) (by omega) (by omega)).mp c
        obtain rfl : i = n + 1 := by omega
        have eF : F = scR n q f (pr x) := funext hF
        subst eF
        rw [hQ]
        exact W.vret hx hb hr (fun t ht hW => ⟨⟨(), rfl, trivial, by rw [ht]; exact hP, va_K.moved hW.alike hK, hD⟩, hS.F ht⟩) hS.2.2 dX1_makeUnit_41
      · skip
        have c : i ≤ n := Nat.not_lt.mp (fun h => c ((nI_ltI (a := n) (b := i) (by omega) (by omega)).mpr h))
        exact absurd c (by omega)
    | succ k ih =>
      intro i F hi hF H locs hP hD hS ls hl
      refine lv_iload hx hb dX1_makeUnit_11 (lv_at hl 4 rfl) ?_
      refine lv_aload_n hx hb dX1_makeUnit_13 rfl (lv_at hl 0 rfl) ?_
      refine va_get (D := (dC, dI)) (ci := 2) (v := .int (nI (n))) (C := RX1) (T := TX1) (N := 7) hx hb hts hinX1 hown hK hP 0 rfl rfl 0 (by decide) hf9 (fun _ h9 => h9) rfl dX1_makeUnit_14 ?_
      refine lv_icmp_gt (tgt := 41) hx hb dX1_makeUnit_17 (by decide) (fun c => ?_) (fun c => ?_)
      · skip
        have c : n < i := (nI_ltI (a := n) (b := i) (by omega) (by omega)).mp c
        exact absurd c (by omega)
      · skip
        have c : i ≤ n := Nat.not_lt.mp (fun h => c ((nI_ltI (a := n) (b := i) (by omega) (by omega)).mpr h))
        have eFi : F i = pr x i := by rw [hF i, if_neg (by omega)]
        have bX := bx i (by omega)
        have bM : pr x i * f ≤ 100 * 100 := Nat.mul_le_mul (by omega) (by omega)
        refine lv_aload_n hx hb dX1_makeUnit_20 rfl (lv_at hl 1 rfl) ?_
        refine lv_iload hx hb dX1_makeUnit_21 (lv_at hl 4 rfl) ?_
        refine lv_aload_n hx hb dX1_makeUnit_23 rfl (lv_at hl 1 rfl) ?_
        refine lv_iload hx hb dX1_makeUnit_24 (lv_at hl 4 rfl) ?_
        refine rp_ld hx hb hK hP 0 rfl (hx1) (by omega) (by omega) dX1_makeUnit_26 ?_
        refine tp_i (y := nI (pr x i)) (by rw [up_at, eFi]) ?_
        refine lv_iload_n hx hb dX1_makeUnit_27 rfl (lv_at hl 3 rfl) ?_
        refine lv_imul hx hb dX1_makeUnit_28 ?_
        refine tp_i (y := nI ((pr x i) * f)) (pk_mul _ _) ?_
        refine lv_aload_n hx hb dX1_makeUnit_29 rfl (lv_at hl 0 rfl) ?_
        refine va_get (D := (dC, dI)) (ci := 2) (v := .int (nI (q))) (C := RX1) (T := TX1) (N := 7) hx hb hts hinX1 hown hK hP 0 rfl rfl 1 (by decide) hf15 (fun _ h9 => h9) rfl dX1_makeUnit_30 ?_
        refine lv_irem hx hb dX1_makeUnit_33 (nI_ne0 (by omega) (by omega)) ?_
        refine tp_i (y := nI (((pr x i) * f) % q)) (pk_rem (by omega) (by omega) (by omega)) ?_
        refine rp_st (v := ((pr x i) * f) % q) hx hb hK hP hD hS 0 rfl (hx1) (by omega) (by omega) dX1_makeUnit_34 (fun H locs hP hD hS => ?_)
        have hP : va_P (dC, dI) vwCl (([(h0, .inr (2, [.int (nI (n)), .int (nI (q)), v2, v3, v4, v5, v6]))] : va_W) ++ va_pl L (pI cI pl (va_up (va_up pr x F) x (va_up ((va_up pr x F) x) i (((pr x i) * f) % q))))) H := hP
        have hD : va_D A (([(h0, .inr (2, [.int (nI (n)), .int (nI (q)), v2, v3, v4, v5, v6]))] : va_W) ++ va_pl L (pI cI pl (va_up (va_up pr x F) x (va_up ((va_up pr x F) x) i (((pr x i) * f) % q))))) := hD
        have e9 : va_up (va_up pr x F) x (va_up ((va_up pr x F) x) i (((pr x i) * f) % q)) = va_up pr x (va_up F i (pr x i * f % q)) := by rw [up_at, up_up]
        rw [e9] at hP hD
        have hP : va_P (dC, dI) vwCl (([(h0, .inr (2, [.int (nI (n)), .int (nI (q)), v2, v3, v4, v5, v6]))] : va_W) ++ va_pl L (pI cI pl (va_up pr x (va_up F i (pr x i * f % q))))) H := hP
        have hD : va_D A (([(h0, .inr (2, [.int (nI (n)), .int (nI (q)), v2, v3, v4, v5, v6]))] : va_W) ++ va_pl L (pI cI pl (va_up pr x (va_up F i (pr x i * f % q))))) := hD
        refine lv_iinc (v := nI (i + 1)) (lv' := [(4, .int (nI (i + 1))), (0, .ref h0), (1, .ref x), (2, .int (nI (j0))), (3, .int (nI (f)))]) hx hb dX1_makeUnit_35 hl (k := 4) rfl (nI_1 _) (by decide) rfl (fun ls hl => ?_)
        refine lv_goto (tgt := 11) hx hb dX1_makeUnit_38 (by decide) ?_
        exact ih (i + 1) (va_up F i (pr x i * f % q)) (by omega) (lp_step hF rfl) _ _ hP hD hS ls (lv_sub hl [1, 2, 3, 4, 0] rfl)
  have hP : va_P (dC, dI) vwCl (([(h0, .inr (2, [.int (nI (n)), .int (nI (q)), v2, v3, v4, v5, v6]))] : va_W) ++ va_pl L (pI cI pl (va_up pr x (pr x)))) H := by rw [up_id]; exact hP
  have hD : va_D A (([(h0, .inr (2, [.int (nI (n)), .int (nI (q)), v2, v3, v4, v5, v6]))] : va_W) ++ va_pl L (pI cI pl (va_up pr x (pr x)))) := by rw [up_id]; exact hD
  exact lp (n + 1) 0 (pr x) (by omega) (lp_zero _ _) _ _ hP hD hS ls (lv_sub hl [2, 3, 4, 1, 0] rfl)

set_option maxHeartbeats 4000000 in
set_option maxRecDepth 100000 in
theorem c_X1_unusedRowWith (l : Launch) (dC : Nat → ClassId) (dI : Nat → Nat → Nat) (sz : Nat) (h0 a1 a2 a3 n q bd fr : Nat) (gR gQ : Nat → Nat) (ro : Nat → Option Nat) (cG : ClassId) (cI : ClassId) (L : List Nat) (pl : Nat → Nat) (pr : Nat → Nat → Nat) (j0 : Nat) (hn : n < 1000) (hok : eqOK n gR gQ L pl) (hj0 : j0 < n + 1) (hbd : bd ≤ n) (bx : ∀ i, i < n → pr (gR i) j0 < 100) : Met l yX1_unusedRowWith wsX1_unusedRowWith ({ frames := 0, cells := 0, slots := 0, locals := 0 }) (va_Pc [.ref h0, .int (nI (j0))] (fun U => U.heap.size = sz ∧ va_P (dC, dI) vwCl (([(h0, .inr (2, [.int (nI (n)), .int (nI (q)), .ref a1, .ref a2, .ref a3, .int (nI (bd)), .int (nI (fr))])), (a1, .inl (cG, n, .inr (.inr (.inr (.inr (fun j => some (gR j))))))), (a2, .inl (cI, n, .inl (fun j => oI (ro j)))), (a3, .inl (cG, n, .inr (.inr (.inr (.inr (fun j => some (gQ j)))))))] : va_W) ++ va_pl L (pI cI pl pr)) U.heap ∧ va_K (dC, dI) vwCl [(cI, .int), (cG, .array .int)] U ∧ va_D (fun _ => True) (([(h0, .inr (2, [.int (nI (n)), .int (nI (q)), .ref a1, .ref a2, .ref a3, .int (nI (bd)), .int (nI (fr))])), (a1, .inl (cG, n, .inr (.inr (.inr (.inr (fun j => some (gR j))))))), (a2, .inl (cI, n, .inl (fun j => oI (ro j)))), (a3, .inl (cG, n, .inr (.inr (.inr (.inr (fun j => some (gQ j)))))))] : va_W) ++ va_pl L (pI cI pl pr)))) (va_Qi (fun (z : Int32) (_ : Unit) => z = oI (fR (fun i => pr (gR i)) j0 (n - bd) bd)) (fun _ t => va_P (dC, dI) vwCl (([(h0, .inr (2, [.int (nI (n)), .int (nI (q)), .ref a1, .ref a2, .ref a3, .int (nI (bd)), .int (nI (fr))])), (a1, .inl (cG, n, .inr (.inr (.inr (.inr (fun j => some (gR j))))))), (a2, .inl (cI, n, .inl (fun j => oI (ro j)))), (a3, .inl (cG, n, .inr (.inr (.inr (.inr (fun j => some (gQ j)))))))] : va_W) ++ va_pl L (pI cI pl pr)) t.heap ∧ va_K (dC, dI) vwCl [(cI, .int), (cG, .array .int)] t ∧ va_D (va_A (([(h0, .inr (2, [.int (nI (n)), .int (nI (q)), .ref a1, .ref a2, .ref a3, .int (nI (bd)), .int (nI (fr))])), (a1, .inl (cG, n, .inr (.inr (.inr (.inr (fun j => some (gR j))))))), (a2, .inl (cI, n, .inl (fun j => oI (ro j)))), (a3, .inl (cG, n, .inr (.inr (.inr (.inr (fun j => some (gQ j)))))))] : va_W) ++ va_pl L (pI cI pl pr)) sz) (([(h0, .inr (2, [.int (nI (n)), .int (nI (q)), .ref a1, .ref a2, .ref a3, .int (nI (bd)), .int (nI (fr))])), (a1, .inl (cG, n, .inr (.inr (.inr (.inr (fun j => some (gR j))))))), (a2, .inl (cI, n, .inl (fun j => oI (ro j)))), (a3, .inl (cG, n, .inr (.inr (.inr (.inr (fun j => some (gQ j)))))))] : va_W) ++ va_pl L (pI cI pl pr))) (va_A (([(h0, .inr (2, [.int (nI (n)), .int (nI (q)), .ref a1, .ref a2, .ref a3, .int (nI (bd)), .int (nI (fr))])), (a1, .inl (cG, n, .inr (.inr (.inr (.inr (fun j => some (gR j))))))), (a2, .inl (cI, n, .inl (fun j => oI (ro j)))), (a3, .inl (cG, n, .inr (.inr (.inr (.inr (fun j => some (gQ j)))))))] : va_W) ++ va_pl L (pI cI pl pr)) sz)) 0 0 (va_A (([(h0, .inr (2, [.int (nI (n)), .int (nI (q)), .ref a1, .ref a2, .ref a3, .int (nI (bd)), .int (nI (fr))])), (a1, .inl (cG, n, .inr (.inr (.inr (.inr (fun j => some (gR j))))))), (a2, .inl (cI, n, .inl (fun j => oI (ro j)))), (a3, .inl (cG, n, .inr (.inr (.inr (.inr (fun j => some (gQ j)))))))] : va_W) ++ va_pl L (pI cI pl pr)) sz) := by
  refine Met.ofW (cc := cX1_unusedRowWith) (maxL := 3) (ret := (some .int)) (by decide) rfl ?_
  intro zp ze s m args below meth zc s₁ B hml hv
  obtain ⟨hargs, hsz, hP, hK, hD0⟩ := hv
  have hx := B.exec
  have hb := B.bytes
  have hr := B.returns
  have hts := atoms_spec (ws := wsX1_unusedRowWith) B.pre
  have hown : s.vm.findClass RX1 = some m.cls := findClass_of_methodNamed B.named
  have hlocks := B.notSynchronized
  subst hsz
  obtain ⟨Q, hQ⟩ : ∃ Q, Q = MQ below (va_Qi (fun (z : Int32) (_ : Unit) => z = oI (fR (fun i => pr (gR i)) j0 (n - bd) bd)) (fun _ t => va_P (dC, dI) vwCl (([(h0, .inr (2, [.int (nI (n)), .int (nI (q)), .ref a1, .ref a2, .ref a3, .int (nI (bd)), .int (nI (fr))])), (a1, .inl (cG, n, .inr (.inr (.inr (.inr (fun j => some (gR j))))))), (a2, .inl (cI, n, .inl (fun j => oI (ro j)))), (a3, .inl (cG, n, .inr (.inr (.inr (.inr (fun j => some (gQ j)))))))] : va_W) ++ va_pl L (pI cI pl pr)) t.heap ∧ va_K (dC, dI) vwCl [(cI, .int), (cG, .array .int)] t ∧ va_D (va_A (([(h0, .inr (2, [.int (nI (n)), .int (nI (q)), .ref a1, .ref a2, .ref a3, .int (nI (bd)), .int (nI (fr))])), (a1, .inl (cG, n, .inr (.inr (.inr (.inr (fun j => some (gR j))))))), (a2, .inl (cI, n, .inl (fun j => oI (ro j)))), (a3, .inl (cG, n, .inr (.inr (.inr (.inr (fun j => some (gQ j)))))))] : va_W) ++ va_pl L (pI cI pl pr)) s.heap.size) (([(h0, .inr (2, [.int (nI (n)), .int (nI (q)), .ref a1, .ref a2, .ref a3, .int (nI (bd)), .int (nI (fr))])), (a1, .inl (cG, n, .inr (.inr (.inr (.inr (fun j => some (gR j))))))), (a2, .inl (cI, n, .inl (fun j => oI (ro j)))), (a3, .inl (cG, n, .inr (.inr (.inr (.inr (fun j => some (gQ j)))))))] : va_W) ++ va_pl L (pI cI pl pr))) (va_A (([(h0, .inr (2, [.int (nI (n)), .int (nI (q)), .ref a1, .ref a2, .ref a3, .int (nI (bd)), .int (nI (fr))])), (a1, .inl (cG, n, .inr (.inr (.inr (.inr (fun j => some (gR j))))))), (a2, .inl (cI, n, .inl (fun j => oI (ro j)))), (a3, .inl (cG, n, .inr (.inr (.inr (.inr (fun j => some (gQ j)))))))] : va_W) ++ va_pl L (pI cI pl pr)) s.heap.size)) args s 0 0 (va_A (([(h0, .inr (2, [.int (nI (n)), .int (nI (q)), .ref a1, .ref a2, .ref a3, .int (nI (bd)), .int (nI (fr))])), (a1, .inl (cG, n, .inr (.inr (.inr (.inr (fun j => some (gR j))))))), (a2, .inl (cI, n, .inl (fun j => oI (ro j)))), (a3, .inl (cG, n, .inr (.inr (.inr (.inr (fun j => some (gQ j)))))))] : va_W) ++ va_pl L (pI cI pl pr)) s.heap.size) := ⟨_, rfl⟩
  rw [← hQ]
  have hD := hD0.self (sz := s.heap.size)
  generalize hAe : (va_A (([(h0, .inr (2, [.int (nI (n)), .int (nI (q)), .ref a1, .ref a2, .ref a3, .int (nI (bd)), .int (nI (fr))])), (a1, .inl (cG, n, .inr (.inr (.inr (.inr (fun j => some (gR j))))))), (a2, .inl (cI, n, .inl (fun j => oI (ro j)))), (a3, .inl (cG, n, .inr (.inr (.inr (.inr (fun j => some (gQ j)))))))] : va_W) ++ va_pl L (pI cI pl pr)) s.heap.size) = A at hD hQ
  have hA : ∀ q : Nat, s.heap.size ≤ q → A q := fun q h => by rw [← hAe]; exact Or.inr h
  have hS : va_S A s.heap s.heap [] := va_S.rf
  have hl := lv_entry ([.ref h0, .int (nI (j0))]) (n := 3) (Nat.le_of_ble_eq_true rfl)
  generalize hen : entryFrame m args 3 = fr
  rw [hargs, lg_entry_eq] at hen
  subst hen
  generalize (lg_sl ([.ref h0, .int (nI (j0))]) ++ List.replicate (3 - (lg_sl ([.ref h0, .int (nI (j0))])).length) Slot.unset).toArray = ls at hl ⊢
  have hl : lv_has ls 3 [(0, .ref h0), (1, .int (nI (j0)))] := hl
  have hinX1 : ∀ w ∈ wsX10, w ∈ wsX1_unusedRowWith := by decide +kernel
  have hf9 := hts (.fieldLink RX1 9 "LightRows$Equations" "size" "I") (by decide +kernel)
  have hf20 := hts (.fieldLink RX1 20 "LightRows$Equations" "rows" "[[I") (by decide +kernel)
  have hf30 := hts (.fieldLink RX1 30 "LightRows$Equations" "bound" "I") (by decide +kernel)
  refine lv_aload_n hx hb dX1_unusedRowWith_0 rfl (lv_at hl 0 rfl) ?_
  refine va_get (D := (dC, dI)) (ci := 2) (v := .int (nI (bd))) (C := RX1) (T := TX1) (N := 7) hx hb hts hinX1 hown hK hP 0 rfl rfl 5 (by decide) hf30 (fun _ h9 => h9) rfl dX1_unusedRowWith_1 ?_
  refine lv_istore_n (lv' := [(2, .int (nI (bd))), (0, .ref h0), (1, .int (nI (j0)))]) hx hb dX1_unusedRowWith_4 rfl hl (by decide) rfl (fun ls hl => ?_)
  have lp : ∀ (k : Nat) (i : Nat), (i + k = n) → (fR (fun i => pr (gR i)) j0 (n - bd) bd = fR (fun i => pr (gR i)) j0 k i) → ∀ (H : Heap) (locs : List Loc), va_P (dC, dI) vwCl (([(h0, .inr (2, [.int (nI (n)), .int (nI (q)), .ref a1, .ref a2, .ref a3, .int (nI (bd)), .int (nI (fr))])), (a1, .inl (cG, n, .inr (.inr (.inr (.inr (fun j => some (gR j))))))), (a2, .inl (cI, n, .inl (fun j => oI (ro j)))), (a3, .inl (cG, n, .inr (.inr (.inr (.inr (fun j => some (gQ j)))))))] : va_W) ++ va_pl L (pI cI pl pr)) H → va_D A (([(h0, .inr (2, [.int (nI (n)), .int (nI (q)), .ref a1, .ref a2, .ref a3, .int (nI (bd)), .int (nI (fr))])), (a1, .inl (cG, n, .inr (.inr (.inr (.inr (fun j => some (gR j))))))), (a2, .inl (cI, n, .inl (fun j => oI (ro j)))), (a3, .inl (cG, n, .inr (.inr (.inr (.inr (fun j => some (gQ j)))))))] : va_W) ++ va_pl L (pI cI pl pr)) → va_S A s.heap H locs → ∀ (ls : Array Slot), lv_has ls 3 [(0, .ref h0), (1, .int (nI (j0))), (2, .int (nI (i)))] → W zp l ze (headSpec wsX1_unusedRowWith ({ frames := 0, cells := 0, slots := 0, locals := 0 })).room s m args below meth zc H locs 0 0 Q (F0 m 5 ls []) := by
    intro k
    induction k with
    | zero =>
      intro i hi hI H locs hP hD hS ls hl
      refine lv_iload_n hx hb dX1_unusedRowWith_5 rfl (lv_at hl 2 rfl) ?_
      refine lv_aload_n hx hb dX1_unusedRowWith_6 rfl (lv_at hl 0 rfl) ?_
      refine va_get (D := (dC, dI)) (ci := 2) (v := .int (nI (n))) (C := RX1) (T := TX1) (N := 7) hx hb hts hinX1 hown hK hP 0 rfl rfl 0 (by decide) hf9 (fun _ h9 => h9) rfl dX1_unusedRowWith_7 ?_
      refine lv_icmp_ge (tgt := 32) hx hb dX1_unusedRowWith_10 (by decide) (fun c => ?_) (fun c => ?_)
      · skip
        have c : n ≤ i := (nI_leI (a := n) (b := i) (by omega) (by omega)).mp c
        refine lv_iconst (v := (-1)) hx hb dX1_unusedRowWith_32 (by decide) ?_
        rw [hQ]
        exact W.iret (v := (-1)) hx hb hr (fun t ht hW => ⟨⟨_, (), rfl, by rw [hI]; rfl, by rw [ht]; exact hP, va_K.moved hW.alike hK, hD⟩, hS.F ht⟩) hS.2.2 dX1_unusedRowWith_33
      · skip
        have c : i < n := Nat.not_le.mp (fun h => c ((nI_leI (a := n) (b := i) (by omega) (by omega)).mpr h))
        exact absurd c (by omega)
    | succ k ih =>
      intro i hi hI H locs hP hD hS ls hl
      refine lv_iload_n hx hb dX1_unusedRowWith_5 rfl (lv_at hl 2 rfl) ?_
      refine lv_aload_n hx hb dX1_unusedRowWith_6 rfl (lv_at hl 0 rfl) ?_
      refine va_get (D := (dC, dI)) (ci := 2) (v := .int (nI (n))) (C := RX1) (T := TX1) (N := 7) hx hb hts hinX1 hown hK hP 0 rfl rfl 0 (by decide) hf9 (fun _ h9 => h9) rfl dX1_unusedRowWith_7 ?_
      refine lv_icmp_ge (tgt := 32) hx hb dX1_unusedRowWith_10 (by decide) (fun c => ?_) (fun c => ?_)
      · skip
        have c : n ≤ i := (nI_leI (a := n) (b := i) (by omega) (by omega)).mp c
        exact absurd c (by omega)
      · skip
        have c : i < n := Nat.not_le.mp (fun h => c ((nI_leI (a := n) (b := i) (by omega) (by omega)).mpr h))
        have h1 := hok.1 i (by omega)
        have h2 := bx i (by omega)
        refine lv_aload_n hx hb dX1_unusedRowWith_13 rfl (lv_at hl 0 rfl) ?_
        refine va_get (D := (dC, dI)) (ci := 2) (v := .ref a1) (C := RX1) (T := TX1) (N := 7) hx hb hts hinX1 hown hK hP 0 rfl rfl 2 (by decide) hf20 (fun _ h9 => h9) rfl dX1_unusedRowWith_14 ?_
        refine lv_iload_n hx hb dX1_unusedRowWith_17 rfl (lv_at hl 2 rfl) ?_
        refine rg_ld (G := gR) hx hb hK hP 1 1 rfl rfl (by omega) (by omega) dX1_unusedRowWith_18 ?_
        refine lv_iload_n hx hb dX1_unusedRowWith_19 rfl (lv_at hl 1 rfl) ?_
        refine rp_ld hx hb hK hP 0 rfl (h1.1) (by omega) (by omega) dX1_unusedRowWith_20 ?_
        refine lv_if_eq (tgt := 26) hx hb dX1_unusedRowWith_21 (by decide) (fun c2 => ?_) (fun c2 => ?_)
        · skip
          have c2 : pr (gR i) j0 = 0 := (nI_eq (a := pr (gR i) j0) (b := 0) (by omega) (by omega)).mp c2
          refine lv_iinc (v := nI (i + 1)) (lv' := [(2, .int (nI (i + 1))), (0, .ref h0), (1, .int (nI (j0)))]) hx hb dX1_unusedRowWith_26 hl (k := 2) rfl (nI_1 _) (by decide) rfl (fun ls hl => ?_)
          refine lv_goto (tgt := 5) hx hb dX1_unusedRowWith_29 (by decide) ?_
          exact ih (i + 1) (by omega) (by rw [hI]; simp only [fR]; rw [if_pos c2]) _ _ hP hD hS ls (lv_sub hl [1, 2, 0] rfl)
        · skip
          have c2 : pr (gR i) j0 ≠ 0 := fun h => c2 ((nI_eq (a := pr (gR i) j0) (b := 0) (by omega) (by omega)).mpr h)
          refine lv_iload_n hx hb dX1_unusedRowWith_24 rfl (lv_at hl 2 rfl) ?_
          rw [hQ]
          exact W.iret (v := nI (i)) hx hb hr (fun t ht hW => ⟨⟨_, (), rfl, by rw [hI]; simp only [fR]; rw [if_neg c2]; rfl, by rw [ht]; exact hP, va_K.moved hW.alike hK, hD⟩, hS.F ht⟩) hS.2.2 dX1_unusedRowWith_25
  exact lp (n - bd) bd (by omega) rfl _ _ hP hD hS ls (lv_sub hl [1, 2, 0] rfl)

set_option maxHeartbeats 4000000 in
set_option maxRecDepth 100000 in
theorem c_X1_agree (l : Launch) (dC : Nat → ClassId) (dI : Nat → Nat → Nat) (sz : Nat) (h0 a1 a2 a3 n q bd fr : Nat) (gR gQ : Nat → Nat) (ro : Nat → Option Nat) (cG : ClassId) (cI : ClassId) (L : List Nat) (pl : Nat → Nat) (pr : Nat → Nat → Nat) (hn : n < 1000) (hok : eqOK n gR gQ L pl) (hbd : bd ≤ n) (bx : ∀ i, i < n → pr (gR i) n < 100) : Met l yX1_agree wsX1_agree ({ frames := 0, cells := 0, slots := 0, locals := 0 }) (va_Pc [.ref h0] (fun U => U.heap.size = sz ∧ va_P (dC, dI) vwCl (([(h0, .inr (2, [.int (nI (n)), .int (nI (q)), .ref a1, .ref a2, .ref a3, .int (nI (bd)), .int (nI (fr))])), (a1, .inl (cG, n, .inr (.inr (.inr (.inr (fun j => some (gR j))))))), (a2, .inl (cI, n, .inl (fun j => oI (ro j)))), (a3, .inl (cG, n, .inr (.inr (.inr (.inr (fun j => some (gQ j)))))))] : va_W) ++ va_pl L (pI cI pl pr)) U.heap ∧ va_K (dC, dI) vwCl [(cI, .int), (cG, .array .int)] U ∧ va_D (fun _ => True) (([(h0, .inr (2, [.int (nI (n)), .int (nI (q)), .ref a1, .ref a2, .ref a3, .int (nI (bd)), .int (nI (fr))])), (a1, .inl (cG, n, .inr (.inr (.inr (.inr (fun j => some (gR j))))))), (a2, .inl (cI, n, .inl (fun j => oI (ro j)))), (a3, .inl (cG, n, .inr (.inr (.inr (.inr (fun j => some (gQ j)))))))] : va_W) ++ va_pl L (pI cI pl pr)))) (va_Qi (fun (z : Int32) (_ : Unit) => z = bI (agr (fun i => pr (gR i)) n (n - bd) bd)) (fun _ t => va_P (dC, dI) vwCl (([(h0, .inr (2, [.int (nI (n)), .int (nI (q)), .ref a1, .ref a2, .ref a3, .int (nI (bd)), .int (nI (fr))])), (a1, .inl (cG, n, .inr (.inr (.inr (.inr (fun j => some (gR j))))))), (a2, .inl (cI, n, .inl (fun j => oI (ro j)))), (a3, .inl (cG, n, .inr (.inr (.inr (.inr (fun j => some (gQ j)))))))] : va_W) ++ va_pl L (pI cI pl pr)) t.heap ∧ va_K (dC, dI) vwCl [(cI, .int), (cG, .array .int)] t ∧ va_D (va_A (([(h0, .inr (2, [.int (nI (n)), .int (nI (q)), .ref a1, .ref a2, .ref a3, .int (nI (bd)), .int (nI (fr))])), (a1, .inl (cG, n, .inr (.inr (.inr (.inr (fun j => some (gR j))))))), (a2, .inl (cI, n, .inl (fun j => oI (ro j)))), (a3, .inl (cG, n, .inr (.inr (.inr (.inr (fun j => some (gQ j)))))))] : va_W) ++ va_pl L (pI cI pl pr)) sz) (([(h0, .inr (2, [.int (nI (n)), .int (nI (q)), .ref a1, .ref a2, .ref a3, .int (nI (bd)), .int (nI (fr))])), (a1, .inl (cG, n, .inr (.inr (.inr (.inr (fun j => some (gR j))))))), (a2, .inl (cI, n, .inl (fun j => oI (ro j)))), (a3, .inl (cG, n, .inr (.inr (.inr (.inr (fun j => some (gQ j)))))))] : va_W) ++ va_pl L (pI cI pl pr))) (va_A (([(h0, .inr (2, [.int (nI (n)), .int (nI (q)), .ref a1, .ref a2, .ref a3, .int (nI (bd)), .int (nI (fr))])), (a1, .inl (cG, n, .inr (.inr (.inr (.inr (fun j => some (gR j))))))), (a2, .inl (cI, n, .inl (fun j => oI (ro j)))), (a3, .inl (cG, n, .inr (.inr (.inr (.inr (fun j => some (gQ j)))))))] : va_W) ++ va_pl L (pI cI pl pr)) sz)) 0 0 (va_A (([(h0, .inr (2, [.int (nI (n)), .int (nI (q)), .ref a1, .ref a2, .ref a3, .int (nI (bd)), .int (nI (fr))])), (a1, .inl (cG, n, .inr (.inr (.inr (.inr (fun j => some (gR j))))))), (a2, .inl (cI, n, .inl (fun j => oI (ro j)))), (a3, .inl (cG, n, .inr (.inr (.inr (.inr (fun j => some (gQ j)))))))] : va_W) ++ va_pl L (pI cI pl pr)) sz) := by
  refine Met.ofW (cc := cX1_agree) (maxL := 2) (ret := (some .boolean)) (by decide) rfl ?_
  intro zp ze s m args below meth zc s₁ B hml hv
  obtain ⟨hargs, hsz, hP, hK, hD0⟩ := hv
  have hx := B.exec
  have hb := B.bytes
  have hr := B.returns
  have hts := atoms_spec (ws := wsX1_agree) B.pre
  have hown : s.vm.findClass RX1 = some m.cls := findClass_of_methodNamed B.named
  have hlocks := B.notSynchronized
  subst hsz
  obtain ⟨Q, hQ⟩ : ∃ Q, Q = MQ below (va_Qi (fun (z : Int32) (_ : Unit) => z = bI (agr (fun i => pr (gR i)) n (n - bd) bd)) (fun _ t => va_P (dC, dI) vwCl (([(h0, .inr (2, [.int (nI (n)), .int (nI (q)), .ref a1, .ref a2, .ref a3, .int (nI (bd)), .int (nI (fr))])), (a1, .inl (cG, n, .inr (.inr (.inr (.inr (fun j => some (gR j))))))), (a2, .inl (cI, n, .inl (fun j => oI (ro j)))), (a3, .inl (cG, n, .inr (.inr (.inr (.inr (fun j => some (gQ j)))))))] : va_W) ++ va_pl L (pI cI pl pr)) t.heap ∧ va_K (dC, dI) vwCl [(cI, .int), (cG, .array .int)] t ∧ va_D (va_A (([(h0, .inr (2, [.int (nI (n)), .int (nI (q)), .ref a1, .ref a2, .ref a3, .int (nI (bd)), .int (nI (fr))])), (a1, .inl (cG, n, .inr (.inr (.inr (.inr (fun j => some (gR j))))))), (a2, .inl (cI, n, .inl (fun j => oI (ro j)))), (a3, .inl (cG, n, .inr (.inr (.inr (.inr (fun j => some (gQ j)))))))] : va_W) ++ va_pl L (pI cI pl pr)) s.heap.size) (([(h0, .inr (2, [.int (nI (n)), .int (nI (q)), .ref a1, .ref a2, .ref a3, .int (nI (bd)), .int (nI (fr))])), (a1, .inl (cG, n, .inr (.inr (.inr (.inr (fun j => some (gR j))))))), (a2, .inl (cI, n, .inl (fun j => oI (ro j)))), (a3, .inl (cG, n, .inr (.inr (.inr (.inr (fun j => some (gQ j)))))))] : va_W) ++ va_pl L (pI cI pl pr))) (va_A (([(h0, .inr (2, [.int (nI (n)), .int (nI (q)), .ref a1, .ref a2, .ref a3, .int (nI (bd)), .int (nI (fr))])), (a1, .inl (cG, n, .inr (.inr (.inr (.inr (fun j => some (gR j))))))), (a2, .inl (cI, n, .inl (fun j => oI (ro j)))), (a3, .inl (cG, n, .inr (.inr (.inr (.inr (fun j => some (gQ j)))))))] : va_W) ++ va_pl L (pI cI pl pr)) s.heap.size)) args s 0 0 (va_A (([(h0, .inr (2, [.int (nI (n)), .int (nI (q)), .ref a1, .ref a2, .ref a3, .int (nI (bd)), .int (nI (fr))])), (a1, .inl (cG, n, .inr (.inr (.inr (.inr (fun j => some (gR j))))))), (a2, .inl (cI, n, .inl (fun j => oI (ro j)))), (a3, .inl (cG, n, .inr (.inr (.inr (.inr (fun j => some (gQ j)))))))] : va_W) ++ va_pl L (pI cI pl pr)) s.heap.size) := ⟨_, rfl⟩
  rw [← hQ]
  have hD := hD0.self (sz := s.heap.size)
  generalize hAe : (va_A (([(h0, .inr (2, [.int (nI (n)), .int (nI (q)), .ref a1, .ref a2, .ref a3, .int (nI (bd)), .int (nI (fr))])), (a1, .inl (cG, n, .inr (.inr (.inr (.inr (fun j => some (gR j))))))), (a2, .inl (cI, n, .inl (fun j => oI (ro j)))), (a3, .inl (cG, n, .inr (.inr (.inr (.inr (fun j => some (gQ j)))))))] : va_W) ++ va_pl L (pI cI pl pr)) s.heap.size) = A at hD hQ
  have hA : ∀ q : Nat, s.heap.size ≤ q → A q := fun q h => by rw [← hAe]; exact Or.inr h
  have hS : va_S A s.heap s.heap [] := va_S.rf
  have hl := lv_entry ([.ref h0]) (n := 2) (Nat.le_of_ble_eq_true rfl)
  generalize hen : entryFrame m args 2 = fr
  rw [hargs, lg_entry_eq] at hen
  subst hen
  generalize (lg_sl ([.ref h0]) ++ List.replicate (2 - (lg_sl ([.ref h0])).length) Slot.unset).toArray = ls at hl ⊢
  have hl : lv_has ls 2 [(0, .ref h0)] := hl
  have hinX1 : ∀ w ∈ wsX10, w ∈ wsX1_agree := by decide +kernel
  have hf9 := hts (.fieldLink RX1 9 "LightRows$Equations" "size" "I") (by decide +kernel)
  have hf20 := hts (.fieldLink RX1 20 "LightRows$Equations" "rows" "[[I") (by decide +kernel)
  have hf30 := hts (.fieldLink RX1 30 "LightRows$Equations" "bound" "I") (by decide +kernel)
  refine lv_aload_n hx hb dX1_agree_0 rfl (lv_at hl 0 rfl) ?_
  refine va_get (D := (dC, dI)) (ci := 2) (v := .int (nI (bd))) (C := RX1) (T := TX1) (N := 7) hx hb hts hinX1 hown hK hP 0 rfl rfl 5 (by decide) hf30 (fun _ h9 => h9) rfl dX1_agree_1 ?_
  refine lv_istore_n (lv' := [(1, .int (nI (bd))), (0, .ref h0)]) hx hb dX1_agree_4 rfl hl (by decide) rfl (fun ls hl => ?_)
  have lp : ∀ (k : Nat) (i : Nat), (i + k = n) → (agr (fun i => pr (gR i)) n (n - bd) bd = agr (fun i => pr (gR i)) n k i) → ∀ (H : Heap) (locs : List Loc), va_P (dC, dI) vwCl (([(h0, .inr (2, [.int (nI (n)), .int (nI (q)), .ref a1, .ref a2, .ref a3, .int (nI (bd)), .int (nI (fr))])), (a1, .inl (cG, n, .inr (.inr (.inr (.inr (fun j => some (gR j))))))), (a2, .inl (cI, n, .inl (fun j => oI (ro j)))), (a3, .inl (cG, n, .inr (.inr (.inr (.inr (fun j => some (gQ j)))))))] : va_W) ++ va_pl L (pI cI pl pr)) H → va_D A (([(h0, .inr (2, [.int (nI (n)), .int (nI (q)), .ref a1, .ref a2, .ref a3, .int (nI (bd)), .int (nI (fr))])), (a1, .inl (cG, n, .inr (.inr (.inr (.inr (fun j => some (gR j))))))), (a2, .inl (cI, n, .inl (fun j => oI (ro j)))), (a3, .inl (cG, n, .inr (.inr (.inr (.inr (fun j => some (gQ j)))))))] : va_W) ++ va_pl L (pI cI pl pr)) → va_S A s.heap H locs → ∀ (ls : Array Slot), lv_has ls 2 [(0, .ref h0), (1, .int (nI (i)))] → W zp l ze (headSpec wsX1_agree ({ frames := 0, cells := 0, slots := 0, locals := 0 })).room s m args below meth zc H locs 0 0 Q (F0 m 5 ls []) := by
    intro k
    induction k with
    | zero =>
      intro i hi hI H locs hP hD hS ls hl
      refine lv_iload_n hx hb dX1_agree_5 rfl (lv_at hl 1 rfl) ?_
      refine lv_aload_n hx hb dX1_agree_6 rfl (lv_at hl 0 rfl) ?_
      refine va_get (D := (dC, dI)) (ci := 2) (v := .int (nI (n))) (C := RX1) (T := TX1) (N := 7) hx hb hts hinX1 hown hK hP 0 rfl rfl 0 (by decide) hf9 (fun _ h9 => h9) rfl dX1_agree_7 ?_
      refine lv_icmp_ge (tgt := 35) hx hb dX1_agree_10 (by decide) (fun c => ?_) (fun c => ?_)
      · skip
        have c : n ≤ i := (nI_leI (a := n) (b := i) (by omega) (by omega)).mp c
        refine lv_iconst (v := nI 1) hx hb dX1_agree_35 (by decide) ?_
        rw [hQ]
        exact W.zret (v := nI (1)) (ty := .boolean) hx hb hr rfl (fun t ht hW => ⟨⟨_, (), rfl, by rw [hI]; rfl, by rw [ht]; exact hP, va_K.moved hW.alike hK, hD⟩, hS.F ht⟩) hS.2.2 dX1_agree_36
      · skip
        have c : i < n := Nat.not_le.mp (fun h => c ((nI_leI (a := n) (b := i) (by omega) (by omega)).mpr h))
        exact absurd c (by omega)
    | succ k ih =>
      intro i hi hI H locs hP hD hS ls hl
      refine lv_iload_n hx hb dX1_agree_5 rfl (lv_at hl 1 rfl) ?_
      refine lv_aload_n hx hb dX1_agree_6 rfl (lv_at hl 0 rfl) ?_
      refine va_get (D := (dC, dI)) (ci := 2) (v := .int (nI (n))) (C := RX1) (T := TX1) (N := 7) hx hb hts hinX1 hown hK hP 0 rfl rfl 0 (by decide) hf9 (fun _ h9 => h9) rfl dX1_agree_7 ?_
      refine lv_icmp_ge (tgt := 35) hx hb dX1_agree_10 (by decide) (fun c => ?_) (fun c => ?_)
      · skip
        have c : n ≤ i := (nI_leI (a := n) (b := i) (by omega) (by omega)).mp c
        exact absurd c (by omega)
      · skip
        have c : i < n := Nat.not_le.mp (fun h => c ((nI_leI (a := n) (b := i) (by omega) (by omega)).mpr h))
        have h1 := hok.1 i (by omega)
        have h2 := bx i (by omega)
        refine lv_aload_n hx hb dX1_agree_13 rfl (lv_at hl 0 rfl) ?_
        refine va_get (D := (dC, dI)) (ci := 2) (v := .ref a1) (C := RX1) (T := TX1) (N := 7) hx hb hts hinX1 hown hK hP 0 rfl rfl 2 (by decide) hf20 (fun _ h9 => h9) rfl dX1_agree_14 ?_
        refine lv_iload_n hx hb dX1_agree_17 rfl (lv_at hl 1 rfl) ?_
        refine rg_ld (G := gR) hx hb hK hP 1 1 rfl rfl (by omega) (by omega) dX1_agree_18 ?_
        refine lv_aload_n hx hb dX1_agree_19 rfl (lv_at hl 0 rfl) ?_
        refine va_get (D := (dC, dI)) (ci := 2) (v := .int (nI (n))) (C := RX1) (T := TX1) (N := 7) hx hb hts hinX1 hown hK hP 0 rfl rfl 0 (by decide) hf9 (fun _ h9 => h9) rfl dX1_agree_20 ?_
        refine rp_ld hx hb hK hP 0 rfl (h1.1) (by omega) (by omega) dX1_agree_23 ?_
        refine lv_if_eq (tgt := 29) hx hb dX1_agree_24 (by decide) (fun c2 => ?_) (fun c2 => ?_)
        · skip
          have c2 : pr (gR i) n = 0 := (nI_eq (a := pr (gR i) n) (b := 0) (by omega) (by omega)).mp c2
          refine lv_iinc (v := nI (i + 1)) (lv' := [(1, .int (nI (i + 1))), (0, .ref h0)]) hx hb dX1_agree_29 hl (k := 1) rfl (nI_1 _) (by decide) rfl (fun ls hl => ?_)
          refine lv_goto (tgt := 5) hx hb dX1_agree_32 (by decide) ?_
          exact ih (i + 1) (by omega) (by rw [hI]; simp only [agr]; rw [if_pos c2]) _ _ hP hD hS ls (lv_sub hl [1, 0] rfl)
        · skip
          have c2 : pr (gR i) n ≠ 0 := fun h => c2 ((nI_eq (a := pr (gR i) n) (b := 0) (by omega) (by omega)).mpr h)
          refine lv_iconst (v := nI 0) hx hb dX1_agree_27 (by decide) ?_
          rw [hQ]
          exact W.zret (v := nI (0)) (ty := .boolean) hx hb hr rfl (fun t ht hW => ⟨⟨_, (), rfl, by rw [hI]; simp only [agr]; rw [if_neg c2]; rfl, by rw [ht]; exact hP, va_K.moved hW.alike hK, hD⟩, hS.F ht⟩) hS.2.2 dX1_agree_28
  exact lp (n - bd) bd (by omega) rfl _ _ hP hD hS ls (lv_sub hl [1, 0] rfl)

set_option maxHeartbeats 4000000 in
set_option maxRecDepth 100000 in
theorem c_X1_pressesOf (l : Launch) (dC : Nat → ClassId) (dI : Nat → Nat → Nat) (sz : Nat) (h0 a1 a2 a3 n q bd fr : Nat) (gR gQ : Nat → Nat) (ro : Nat → Option Nat) (cG : ClassId) (cI : ClassId) (L : List Nat) (pl : Nat → Nat) (pr : Nat → Nat → Nat) (j0 : Nat) (hn : n < 1000) (hok : eqOK n gR gQ L pl) (hj0 : j0 < n) (hro : ∀ j, j < n → ∀ r, ro j = some r → r < n) : Met l yX1_pressesOf wsX1_pressesOf ({ frames := 0, cells := 0, slots := 0, locals := 0 }) (va_Pc [.ref h0, .int (nI (j0))] (fun U => U.heap.size = sz ∧ va_P (dC, dI) vwCl (([(h0, .inr (2, [.int (nI (n)), .int (nI (q)), .ref a1, .ref a2, .ref a3, .int (nI (bd)), .int (nI (fr))])), (a1, .inl (cG, n, .inr (.inr (.inr (.inr (fun j => some (gR j))))))), (a2, .inl (cI, n, .inl (fun j => oI (ro j)))), (a3, .inl (cG, n, .inr (.inr (.inr (.inr (fun j => some (gQ j)))))))] : va_W) ++ va_pl L (pI cI pl pr)) U.heap ∧ va_K (dC, dI) vwCl [(cI, .int), (cG, .array .int)] U ∧ va_D (fun _ => True) (([(h0, .inr (2, [.int (nI (n)), .int (nI (q)), .ref a1, .ref a2, .ref a3, .int (nI (bd)), .int (nI (fr))])), (a1, .inl (cG, n, .inr (.inr (.inr (.inr (fun j => some (gR j))))))), (a2, .inl (cI, n, .inl (fun j => oI (ro j)))), (a3, .inl (cG, n, .inr (.inr (.inr (.inr (fun j => some (gQ j)))))))] : va_W) ++ va_pl L (pI cI pl pr)))) (va_Qi (fun (z : Int32) (_ : Unit) => z = nI (prs (fun i => pr (gR i)) ro n j0)) (fun _ t => va_P (dC, dI) vwCl (([(h0, .inr (2, [.int (nI (n)), .int (nI (q)), .ref a1, .ref a2, .ref a3, .int (nI (bd)), .int (nI (fr))])), (a1, .inl (cG, n, .inr (.inr (.inr (.inr (fun j => some (gR j))))))), (a2, .inl (cI, n, .inl (fun j => oI (ro j)))), (a3, .inl (cG, n, .inr (.inr (.inr (.inr (fun j => some (gQ j)))))))] : va_W) ++ va_pl L (pI cI pl pr)) t.heap ∧ va_K (dC, dI) vwCl [(cI, .int), (cG, .array .int)] t ∧ va_D (va_A (([(h0, .inr (2, [.int (nI (n)), .int (nI (q)), .ref a1, .ref a2, .ref a3, .int (nI (bd)), .int (nI (fr))])), (a1, .inl (cG, n, .inr (.inr (.inr (.inr (fun j => some (gR j))))))), (a2, .inl (cI, n, .inl (fun j => oI (ro j)))), (a3, .inl (cG, n, .inr (.inr (.inr (.inr (fun j => some (gQ j)))))))] : va_W) ++ va_pl L (pI cI pl pr)) sz) (([(h0, .inr (2, [.int (nI (n)), .int (nI (q)), .ref a1, .ref a2, .ref a3, .int (nI (bd)), .int (nI (fr))])), (a1, .inl (cG, n, .inr (.inr (.inr (.inr (fun j => some (gR j))))))), (a2, .inl (cI, n, .inl (fun j => oI (ro j)))), (a3, .inl (cG, n, .inr (.inr (.inr (.inr (fun j => some (gQ j)))))))] : va_W) ++ va_pl L (pI cI pl pr))) (va_A (([(h0, .inr (2, [.int (nI (n)), .int (nI (q)), .ref a1, .ref a2, .ref a3, .int (nI (bd)), .int (nI (fr))])), (a1, .inl (cG, n, .inr (.inr (.inr (.inr (fun j => some (gR j))))))), (a2, .inl (cI, n, .inl (fun j => oI (ro j)))), (a3, .inl (cG, n, .inr (.inr (.inr (.inr (fun j => some (gQ j)))))))] : va_W) ++ va_pl L (pI cI pl pr)) sz)) 0 0 (va_A (([(h0, .inr (2, [.int (nI (n)), .int (nI (q)), .ref a1, .ref a2, .ref a3, .int (nI (bd)), .int (nI (fr))])), (a1, .inl (cG, n, .inr (.inr (.inr (.inr (fun j => some (gR j))))))), (a2, .inl (cI, n, .inl (fun j => oI (ro j)))), (a3, .inl (cG, n, .inr (.inr (.inr (.inr (fun j => some (gQ j)))))))] : va_W) ++ va_pl L (pI cI pl pr)) sz) := by
  refine Met.ofW (cc := cX1_pressesOf) (maxL := 3) (ret := (some .int)) (by decide) rfl ?_
  intro zp ze s m args below meth zc s₁ B hml hv
  obtain ⟨hargs, hsz, hP, hK, hD0⟩ := hv
  have hx := B.exec
  have hb := B.bytes
  have hr := B.returns
  have hts := atoms_spec (ws := wsX1_pressesOf) B.pre
  have hown : s.vm.findClass RX1 = some m.cls := findClass_of_methodNamed B.named
  have hlocks := B.notSynchronized
  subst hsz
  obtain ⟨Q, hQ⟩ : ∃ Q, Q = MQ below (va_Qi (fun (z : Int32) (_ : Unit) => z = nI (prs (fun i => pr (gR i)) ro n j0)) (fun _ t => va_P (dC, dI) vwCl (([(h0, .inr (2, [.int (nI (n)), .int (nI (q)), .ref a1, .ref a2, .ref a3, .int (nI (bd)), .int (nI (fr))])), (a1, .inl (cG, n, .inr (.inr (.inr (.inr (fun j => some (gR j))))))), (a2, .inl (cI, n, .inl (fun j => oI (ro j)))), (a3, .inl (cG, n, .inr (.inr (.inr (.inr (fun j => some (gQ j)))))))] : va_W) ++ va_pl L (pI cI pl pr)) t.heap ∧ va_K (dC, dI) vwCl [(cI, .int), (cG, .array .int)] t ∧ va_D (va_A (([(h0, .inr (2, [.int (nI (n)), .int (nI (q)), .ref a1, .ref a2, .ref a3, .int (nI (bd)), .int (nI (fr))])), (a1, .inl (cG, n, .inr (.inr (.inr (.inr (fun j => some (gR j))))))), (a2, .inl (cI, n, .inl (fun j => oI (ro j)))), (a3, .inl (cG, n, .inr (.inr (.inr (.inr (fun j => some (gQ j)))))))] : va_W) ++ va_pl L (pI cI pl pr)) s.heap.size) (([(h0, .inr (2, [.int (nI (n)), .int (nI (q)), .ref a1, .ref a2, .ref a3, .int (nI (bd)), .int (nI (fr))])), (a1, .inl (cG, n, .inr (.inr (.inr (.inr (fun j => some (gR j))))))), (a2, .inl (cI, n, .inl (fun j => oI (ro j)))), (a3, .inl (cG, n, .inr (.inr (.inr (.inr (fun j => some (gQ j)))))))] : va_W) ++ va_pl L (pI cI pl pr))) (va_A (([(h0, .inr (2, [.int (nI (n)), .int (nI (q)), .ref a1, .ref a2, .ref a3, .int (nI (bd)), .int (nI (fr))])), (a1, .inl (cG, n, .inr (.inr (.inr (.inr (fun j => some (gR j))))))), (a2, .inl (cI, n, .inl (fun j => oI (ro j)))), (a3, .inl (cG, n, .inr (.inr (.inr (.inr (fun j => some (gQ j)))))))] : va_W) ++ va_pl L (pI cI pl pr)) s.heap.size)) args s 0 0 (va_A (([(h0, .inr (2, [.int (nI (n)), .int (nI (q)), .ref a1, .ref a2, .ref a3, .int (nI (bd)), .int (nI (fr))])), (a1, .inl (cG, n, .inr (.inr (.inr (.inr (fun j => some (gR j))))))), (a2, .inl (cI, n, .inl (fun j => oI (ro j)))), (a3, .inl (cG, n, .inr (.inr (.inr (.inr (fun j => some (gQ j)))))))] : va_W) ++ va_pl L (pI cI pl pr)) s.heap.size) := ⟨_, rfl⟩
  rw [← hQ]
  have hD := hD0.self (sz := s.heap.size)
  generalize hAe : (va_A (([(h0, .inr (2, [.int (nI (n)), .int (nI (q)), .ref a1, .ref a2, .ref a3, .int (nI (bd)), .int (nI (fr))])), (a1, .inl (cG, n, .inr (.inr (.inr (.inr (fun j => some (gR j))))))), (a2, .inl (cI, n, .inl (fun j => oI (ro j)))), (a3, .inl (cG, n, .inr (.inr (.inr (.inr (fun j => some (gQ j)))))))] : va_W) ++ va_pl L (pI cI pl pr)) s.heap.size) = A at hD hQ
  have hA : ∀ q : Nat, s.heap.size ≤ q → A q := fun q h => by rw [← hAe]; exact Or.inr h
  have hS : va_S A s.heap s.heap [] := va_S.rf
  have hl := lv_entry ([.ref h0, .int (nI (j0))]) (n := 3) (Nat.le_of_ble_eq_true rfl)
  generalize hen : entryFrame m args 3 = fr
  rw [hargs, lg_entry_eq] at hen
  subst hen
  generalize (lg_sl ([.ref h0, .int (nI (j0))]) ++ List.replicate (3 - (lg_sl ([.ref h0, .int (nI (j0))])).length) Slot.unset).toArray = ls at hl ⊢
  have hl : lv_has ls 3 [(0, .ref h0), (1, .int (nI (j0)))] := hl
  have hinX1 : ∀ w ∈ wsX10, w ∈ wsX1_pressesOf := by decide +kernel
  have hf9 := hts (.fieldLink RX1 9 "LightRows$Equations" "size" "I") (by decide +kernel)
  have hf20 := hts (.fieldLink RX1 20 "LightRows$Equations" "rows" "[[I") (by decide +kernel)
  have hf23 := hts (.fieldLink RX1 23 "LightRows$Equations" "rowOf" "[I") (by decide +kernel)
  refine lv_aload_n hx hb dX1_pressesOf_0 rfl (lv_at hl 0 rfl) ?_
  refine va_get (D := (dC, dI)) (ci := 2) (v := .ref a2) (C := RX1) (T := TX1) (N := 7) hx hb hts hinX1 hown hK hP 0 rfl rfl 3 (by decide) hf23 (fun _ h9 => h9) rfl dX1_pressesOf_1 ?_
  refine lv_iload_n hx hb dX1_pressesOf_4 rfl (lv_at hl 1 rfl) ?_
  refine ra_ld (g := oI) (F := ro) hx hb hK hP 2 0 rfl rfl (by omega) (by omega) dX1_pressesOf_5 ?_
  rcases ho : ro j0 with _ | r
  · skip
    refine tp_i (y := (-1)) rfl ?_
    refine lv_istore_n (lv' := [(2, .int ((-1))), (0, .ref h0), (1, .int (nI (j0)))]) hx hb dX1_pressesOf_6 rfl hl (by decide) rfl (fun ls hl => ?_)
    refine lv_iload_n hx hb dX1_pressesOf_7 rfl (lv_at hl 0 rfl) ?_
    refine lv_iconst (v := (-1)) hx hb dX1_pressesOf_8 (by decide) ?_
    refine lv_icmp_ne (tgt := 16) hx hb dX1_pressesOf_9 (by decide) (fun c => ?_) (fun c => ?_)
    · skip
      exact absurd rfl c
    · skip
      refine lv_iconst (v := nI 0) hx hb dX1_pressesOf_12 (by decide) ?_
      refine lv_goto (tgt := 27) hx hb dX1_pressesOf_13 (by decide) ?_
      rw [hQ]
      exact W.iret (v := nI (0)) hx hb hr (fun t ht hW => ⟨⟨_, (), rfl, by unfold prs; rw [ho], by rw [ht]; exact hP, va_K.moved hW.alike hK, hD⟩, hS.F ht⟩) hS.2.2 dX1_pressesOf_27
  · skip
    refine tp_i (y := nI r) rfl ?_
    have hr1 := hro j0 hj0 r ho
    have h1 := hok.1 r hr1
    refine lv_istore_n (lv' := [(2, .int (nI (r))), (0, .ref h0), (1, .int (nI (j0)))]) hx hb dX1_pressesOf_6 rfl hl (by decide) rfl (fun ls hl => ?_)
    refine lv_iload_n hx hb dX1_pressesOf_7 rfl (lv_at hl 0 rfl) ?_
    refine lv_iconst (v := (-1)) hx hb dX1_pressesOf_8 (by decide) ?_
    refine lv_icmp_ne (tgt := 16) hx hb dX1_pressesOf_9 (by decide) (fun c => ?_) (fun c => ?_)
    · skip
      refine lv_aload_n hx hb dX1_pressesOf_16 rfl (lv_at hl 1 rfl) ?_
      refine va_get (D := (dC, dI)) (ci := 2) (v := .ref a1) (C := RX1) (T := TX1) (N := 7) hx hb hts hinX1 hown hK hP 0 rfl rfl 2 (by decide) hf20 (fun _ h9 => h9) rfl dX1_pressesOf_17 ?_
      refine lv_iload_n hx hb dX1_pressesOf_20 rfl (lv_at hl 0 rfl) ?_
      refine rg_ld (G := gR) hx hb hK hP 1 1 rfl rfl (by omega) (by omega) dX1_pressesOf_21 ?_
      refine lv_aload_n hx hb dX1_pressesOf_22 rfl (lv_at hl 1 rfl) ?_
      refine va_get (D := (dC, dI)) (ci := 2) (v := .int (nI (n))) (C := RX1) (T := TX1) (N := 7) hx hb hts hinX1 hown hK hP 0 rfl rfl 0 (by decide) hf9 (fun _ h9 => h9) rfl dX1_pressesOf_23 ?_
      refine rp_ld hx hb hK hP 0 rfl (h1.1) (by omega) (by omega) dX1_pressesOf_26 ?_
      rw [hQ]
      exact W.iret (v := nI (pr (gR r) n)) hx hb hr (fun t ht hW => ⟨⟨_, (), rfl, by unfold prs; rw [ho], by rw [ht]; exact hP, va_K.moved hW.alike hK, hD⟩, hS.F ht⟩) hS.2.2 dX1_pressesOf_27
    · skip
      exact absurd c (nI_nm1 (by omega))

set_option maxHeartbeats 4000000 in
set_option maxRecDepth 100000 in
theorem c_X1_quietPattern (l : Launch) (dC : Nat → ClassId) (dI : Nat → Nat → Nat) (sz : Nat) (h0 a1 a2 a3 n q bd fr : Nat) (gR gQ : Nat → Nat) (ro : Nat → Option Nat) (cG : ClassId) (cI : ClassId) (L : List Nat) (pl : Nat → Nat) (pr : Nat → Nat → Nat) (k0 : Nat) (hn : n < 1000) (hk0 : k0 < n) : Met l yX1_quietPattern wsX1_quietPattern ({ frames := 0, cells := 0, slots := 0, locals := 0 }) (va_Pc [.ref h0, .int (nI (k0))] (fun U => U.heap.size = sz ∧ va_P (dC, dI) vwCl (([(h0, .inr (2, [.int (nI (n)), .int (nI (q)), .ref a1, .ref a2, .ref a3, .int (nI (bd)), .int (nI (fr))])), (a1, .inl (cG, n, .inr (.inr (.inr (.inr (fun j => some (gR j))))))), (a2, .inl (cI, n, .inl (fun j => oI (ro j)))), (a3, .inl (cG, n, .inr (.inr (.inr (.inr (fun j => some (gQ j)))))))] : va_W) ++ va_pl L (pI cI pl pr)) U.heap ∧ va_K (dC, dI) vwCl [(cI, .int), (cG, .array .int)] U ∧ va_D (fun _ => True) (([(h0, .inr (2, [.int (nI (n)), .int (nI (q)), .ref a1, .ref a2, .ref a3, .int (nI (bd)), .int (nI (fr))])), (a1, .inl (cG, n, .inr (.inr (.inr (.inr (fun j => some (gR j))))))), (a2, .inl (cI, n, .inl (fun j => oI (ro j)))), (a3, .inl (cG, n, .inr (.inr (.inr (.inr (fun j => some (gQ j)))))))] : va_W) ++ va_pl L (pI cI pl pr)))) (va_Qr (fun _ : Unit => True) (fun _ a t => a = gQ k0 ∧ va_P (dC, dI) vwCl (([(h0, .inr (2, [.int (nI (n)), .int (nI (q)), .ref a1, .ref a2, .ref a3, .int (nI (bd)), .int (nI (fr))])), (a1, .inl (cG, n, .inr (.inr (.inr (.inr (fun j => some (gR j))))))), (a2, .inl (cI, n, .inl (fun j => oI (ro j)))), (a3, .inl (cG, n, .inr (.inr (.inr (.inr (fun j => some (gQ j)))))))] : va_W) ++ va_pl L (pI cI pl pr)) t.heap ∧ va_K (dC, dI) vwCl [(cI, .int), (cG, .array .int)] t ∧ va_D (va_A (([(h0, .inr (2, [.int (nI (n)), .int (nI (q)), .ref a1, .ref a2, .ref a3, .int (nI (bd)), .int (nI (fr))])), (a1, .inl (cG, n, .inr (.inr (.inr (.inr (fun j => some (gR j))))))), (a2, .inl (cI, n, .inl (fun j => oI (ro j)))), (a3, .inl (cG, n, .inr (.inr (.inr (.inr (fun j => some (gQ j)))))))] : va_W) ++ va_pl L (pI cI pl pr)) sz) (([(h0, .inr (2, [.int (nI (n)), .int (nI (q)), .ref a1, .ref a2, .ref a3, .int (nI (bd)), .int (nI (fr))])), (a1, .inl (cG, n, .inr (.inr (.inr (.inr (fun j => some (gR j))))))), (a2, .inl (cI, n, .inl (fun j => oI (ro j)))), (a3, .inl (cG, n, .inr (.inr (.inr (.inr (fun j => some (gQ j)))))))] : va_W) ++ va_pl L (pI cI pl pr))) (va_A (([(h0, .inr (2, [.int (nI (n)), .int (nI (q)), .ref a1, .ref a2, .ref a3, .int (nI (bd)), .int (nI (fr))])), (a1, .inl (cG, n, .inr (.inr (.inr (.inr (fun j => some (gR j))))))), (a2, .inl (cI, n, .inl (fun j => oI (ro j)))), (a3, .inl (cG, n, .inr (.inr (.inr (.inr (fun j => some (gQ j)))))))] : va_W) ++ va_pl L (pI cI pl pr)) sz)) 0 0 (va_A (([(h0, .inr (2, [.int (nI (n)), .int (nI (q)), .ref a1, .ref a2, .ref a3, .int (nI (bd)), .int (nI (fr))])), (a1, .inl (cG, n, .inr (.inr (.inr (.inr (fun j => some (gR j))))))), (a2, .inl (cI, n, .inl (fun j => oI (ro j)))), (a3, .inl (cG, n, .inr (.inr (.inr (.inr (fun j => some (gQ j)))))))] : va_W) ++ va_pl L (pI cI pl pr)) sz) := by
  refine Met.ofW (cc := cX1_quietPattern) (maxL := 2) (ret := (some (.array .int))) (by decide) rfl ?_
  intro zp ze s m args below meth zc s₁ B hml hv
  obtain ⟨hargs, hsz, hP, hK, hD0⟩ := hv
  have hx := B.exec
  have hb := B.bytes
  have hr := B.returns
  have hts := atoms_spec (ws := wsX1_quietPattern) B.pre
  have hown : s.vm.findClass RX1 = some m.cls := findClass_of_methodNamed B.named
  have hlocks := B.notSynchronized
  subst hsz
  obtain ⟨Q, hQ⟩ : ∃ Q, Q = MQ below (va_Qr (fun _ : Unit => True) (fun _ a t => a = gQ k0 ∧ va_P (dC, dI) vwCl (([(h0, .inr (2, [.int (nI (n)), .int (nI (q)), .ref a1, .ref a2, .ref a3, .int (nI (bd)), .int (nI (fr))])), (a1, .inl (cG, n, .inr (.inr (.inr (.inr (fun j => some (gR j))))))), (a2, .inl (cI, n, .inl (fun j => oI (ro j)))), (a3, .inl (cG, n, .inr (.inr (.inr (.inr (fun j => some (gQ j)))))))] : va_W) ++ va_pl L (pI cI pl pr)) t.heap ∧ va_K (dC, dI) vwCl [(cI, .int), (cG, .array .int)] t ∧ va_D (va_A (([(h0, .inr (2, [.int (nI (n)), .int (nI (q)), .ref a1, .ref a2, .ref a3, .int (nI (bd)), .int (nI (fr))])), (a1, .inl (cG, n, .inr (.inr (.inr (.inr (fun j => some (gR j))))))), (a2, .inl (cI, n, .inl (fun j => oI (ro j)))), (a3, .inl (cG, n, .inr (.inr (.inr (.inr (fun j => some (gQ j)))))))] : va_W) ++ va_pl L (pI cI pl pr)) s.heap.size) (([(h0, .inr (2, [.int (nI (n)), .int (nI (q)), .ref a1, .ref a2, .ref a3, .int (nI (bd)), .int (nI (fr))])), (a1, .inl (cG, n, .inr (.inr (.inr (.inr (fun j => some (gR j))))))), (a2, .inl (cI, n, .inl (fun j => oI (ro j)))), (a3, .inl (cG, n, .inr (.inr (.inr (.inr (fun j => some (gQ j)))))))] : va_W) ++ va_pl L (pI cI pl pr))) (va_A (([(h0, .inr (2, [.int (nI (n)), .int (nI (q)), .ref a1, .ref a2, .ref a3, .int (nI (bd)), .int (nI (fr))])), (a1, .inl (cG, n, .inr (.inr (.inr (.inr (fun j => some (gR j))))))), (a2, .inl (cI, n, .inl (fun j => oI (ro j)))), (a3, .inl (cG, n, .inr (.inr (.inr (.inr (fun j => some (gQ j)))))))] : va_W) ++ va_pl L (pI cI pl pr)) s.heap.size)) args s 0 0 (va_A (([(h0, .inr (2, [.int (nI (n)), .int (nI (q)), .ref a1, .ref a2, .ref a3, .int (nI (bd)), .int (nI (fr))])), (a1, .inl (cG, n, .inr (.inr (.inr (.inr (fun j => some (gR j))))))), (a2, .inl (cI, n, .inl (fun j => oI (ro j)))), (a3, .inl (cG, n, .inr (.inr (.inr (.inr (fun j => some (gQ j)))))))] : va_W) ++ va_pl L (pI cI pl pr)) s.heap.size) := ⟨_, rfl⟩
  rw [← hQ]
  have hD := hD0.self (sz := s.heap.size)
  generalize hAe : (va_A (([(h0, .inr (2, [.int (nI (n)), .int (nI (q)), .ref a1, .ref a2, .ref a3, .int (nI (bd)), .int (nI (fr))])), (a1, .inl (cG, n, .inr (.inr (.inr (.inr (fun j => some (gR j))))))), (a2, .inl (cI, n, .inl (fun j => oI (ro j)))), (a3, .inl (cG, n, .inr (.inr (.inr (.inr (fun j => some (gQ j)))))))] : va_W) ++ va_pl L (pI cI pl pr)) s.heap.size) = A at hD hQ
  have hA : ∀ q : Nat, s.heap.size ≤ q → A q := fun q h => by rw [← hAe]; exact Or.inr h
  have hS : va_S A s.heap s.heap [] := va_S.rf
  have hl := lv_entry ([.ref h0, .int (nI (k0))]) (n := 2) (Nat.le_of_ble_eq_true rfl)
  generalize hen : entryFrame m args 2 = fr
  rw [hargs, lg_entry_eq] at hen
  subst hen
  generalize (lg_sl ([.ref h0, .int (nI (k0))]) ++ List.replicate (2 - (lg_sl ([.ref h0, .int (nI (k0))])).length) Slot.unset).toArray = ls at hl ⊢
  have hl : lv_has ls 2 [(0, .ref h0), (1, .int (nI (k0)))] := hl
  have hinX1 : ∀ w ∈ wsX10, w ∈ wsX1_quietPattern := by decide +kernel
  have hf27 := hts (.fieldLink RX1 27 "LightRows$Equations" "quietPatterns" "[[I") (by decide +kernel)
  refine lv_aload_n hx hb dX1_quietPattern_0 rfl (lv_at hl 0 rfl) ?_
  refine va_get (D := (dC, dI)) (ci := 2) (v := .ref a3) (C := RX1) (T := TX1) (N := 7) hx hb hts hinX1 hown hK hP 0 rfl rfl 4 (by decide) hf27 (fun _ h9 => h9) rfl dX1_quietPattern_1 ?_
  refine lv_iload_n hx hb dX1_quietPattern_4 rfl (lv_at hl 1 rfl) ?_
  refine rg_ld (G := gQ) hx hb hK hP 3 1 rfl rfl (by omega) (by omega) dX1_quietPattern_5 ?_
  rw [hQ]
  exact W.aret (v := .ref (gQ k0)) (rt := .array .int) hx hb hr (Or.inr ⟨_, rfl⟩) (Or.inr ⟨_, rfl⟩) (fun t ht hW => ⟨⟨(), _, rfl, trivial, rfl, by rw [ht]; exact hP, va_K.moved hW.alike hK, hD⟩, hS.F ht⟩) hS.2.2 dX1_quietPattern_6

set_option maxHeartbeats 4000000 in
set_option maxRecDepth 100000 in
theorem c_X1_answersUpTo (l : Launch) (dC : Nat → ClassId) (dI : Nat → Nat → Nat) (sz : Nat) (h0 a1 a2 a3 n q bd fr : Nat) (gR gQ : Nat → Nat) (ro : Nat → Option Nat) (cG : ClassId) (cI : ClassId) (L : List Nat) (pl : Nat → Nat) (pr : Nat → Nat → Nat) (lim : Nat) (hn : n < 1000) (hok : eqOK n gR gQ L pl) (hbd : bd ≤ n) (hfr : fr ≤ n) (bx : ∀ i, i < n → pr (gR i) n < 100) (hq : 0 < q) (hq2 : q < 100) (hlim : lim < 100000) : Met l yX1_answersUpTo wsX1_answersUpTo ({ frames := 1, cells := 0, slots := 0, locals := 21 }) (va_Pc [.ref h0, .int (nI (lim))] (fun U => U.heap.size = sz ∧ va_P (dC, dI) vwCl (([(h0, .inr (2, [.int (nI (n)), .int (nI (q)), .ref a1, .ref a2, .ref a3, .int (nI (bd)), .int (nI (fr))])), (a1, .inl (cG, n, .inr (.inr (.inr (.inr (fun j => some (gR j))))))), (a2, .inl (cI, n, .inl (fun j => oI (ro j)))), (a3, .inl (cG, n, .inr (.inr (.inr (.inr (fun j => some (gQ j)))))))] : va_W) ++ va_pl L (pI cI pl pr)) U.heap ∧ va_K (dC, dI) vwCl [(cI, .int), (cG, .array .int)] U ∧ va_D (fun _ => True) (([(h0, .inr (2, [.int (nI (n)), .int (nI (q)), .ref a1, .ref a2, .ref a3, .int (nI (bd)), .int (nI (fr))])), (a1, .inl (cG, n, .inr (.inr (.inr (.inr (fun j => some (gR j))))))), (a2, .inl (cI, n, .inl (fun j => oI (ro j)))), (a3, .inl (cG, n, .inr (.inr (.inr (.inr (fun j => some (gQ j)))))))] : va_W) ++ va_pl L (pI cI pl pr)))) (va_Qi (fun (z : Int32) (_ : Unit) => z = nI (if agr (fun i => pr (gR i)) n (n - bd) bd = true then aut q lim fr 1 else 0)) (fun _ t => va_P (dC, dI) vwCl (([(h0, .inr (2, [.int (nI (n)), .int (nI (q)), .ref a1, .ref a2, .ref a3, .int (nI (bd)), .int (nI (fr))])), (a1, .inl (cG, n, .inr (.inr (.inr (.inr (fun j => some (gR j))))))), (a2, .inl (cI, n, .inl (fun j => oI (ro j)))), (a3, .inl (cG, n, .inr (.inr (.inr (.inr (fun j => some (gQ j)))))))] : va_W) ++ va_pl L (pI cI pl pr)) t.heap ∧ va_K (dC, dI) vwCl [(cI, .int), (cG, .array .int)] t ∧ va_D (va_A (([(h0, .inr (2, [.int (nI (n)), .int (nI (q)), .ref a1, .ref a2, .ref a3, .int (nI (bd)), .int (nI (fr))])), (a1, .inl (cG, n, .inr (.inr (.inr (.inr (fun j => some (gR j))))))), (a2, .inl (cI, n, .inl (fun j => oI (ro j)))), (a3, .inl (cG, n, .inr (.inr (.inr (.inr (fun j => some (gQ j)))))))] : va_W) ++ va_pl L (pI cI pl pr)) sz) (([(h0, .inr (2, [.int (nI (n)), .int (nI (q)), .ref a1, .ref a2, .ref a3, .int (nI (bd)), .int (nI (fr))])), (a1, .inl (cG, n, .inr (.inr (.inr (.inr (fun j => some (gR j))))))), (a2, .inl (cI, n, .inl (fun j => oI (ro j)))), (a3, .inl (cG, n, .inr (.inr (.inr (.inr (fun j => some (gQ j)))))))] : va_W) ++ va_pl L (pI cI pl pr))) (va_A (([(h0, .inr (2, [.int (nI (n)), .int (nI (q)), .ref a1, .ref a2, .ref a3, .int (nI (bd)), .int (nI (fr))])), (a1, .inl (cG, n, .inr (.inr (.inr (.inr (fun j => some (gR j))))))), (a2, .inl (cI, n, .inl (fun j => oI (ro j)))), (a3, .inl (cG, n, .inr (.inr (.inr (.inr (fun j => some (gQ j)))))))] : va_W) ++ va_pl L (pI cI pl pr)) sz)) 0 0 (va_A (([(h0, .inr (2, [.int (nI (n)), .int (nI (q)), .ref a1, .ref a2, .ref a3, .int (nI (bd)), .int (nI (fr))])), (a1, .inl (cG, n, .inr (.inr (.inr (.inr (fun j => some (gR j))))))), (a2, .inl (cI, n, .inl (fun j => oI (ro j)))), (a3, .inl (cG, n, .inr (.inr (.inr (.inr (fun j => some (gQ j)))))))] : va_W) ++ va_pl L (pI cI pl pr)) sz) := by
  refine Met.ofW (cc := cX1_answersUpTo) (maxL := 4) (ret := (some .int)) (by decide) rfl ?_
  intro zp ze s m args below meth zc s₁ B hml hv
  obtain ⟨hargs, hsz, hP, hK, hD0⟩ := hv
  have hx := B.exec
  have hb := B.bytes
  have hr := B.returns
  have hts := atoms_spec (ws := wsX1_answersUpTo) B.pre
  have hown : s.vm.findClass RX1 = some m.cls := findClass_of_methodNamed B.named
  have hlocks := B.notSynchronized
  subst hsz
  obtain ⟨Q, hQ⟩ : ∃ Q, Q = MQ below (va_Qi (fun (z : Int32) (_ : Unit) => z = nI (if agr (fun i => pr (gR i)) n (n - bd) bd = true then aut q lim fr 1 else 0)) (fun _ t => va_P (dC, dI) vwCl (([(h0, .inr (2, [.int (nI (n)), .int (nI (q)), .ref a1, .ref a2, .ref a3, .int (nI (bd)), .int (nI (fr))])), (a1, .inl (cG, n, .inr (.inr (.inr (.inr (fun j => some (gR j))))))), (a2, .inl (cI, n, .inl (fun j => oI (ro j)))), (a3, .inl (cG, n, .inr (.inr (.inr (.inr (fun j => some (gQ j)))))))] : va_W) ++ va_pl L (pI cI pl pr)) t.heap ∧ va_K (dC, dI) vwCl [(cI, .int), (cG, .array .int)] t ∧ va_D (va_A (([(h0, .inr (2, [.int (nI (n)), .int (nI (q)), .ref a1, .ref a2, .ref a3, .int (nI (bd)), .int (nI (fr))])), (a1, .inl (cG, n, .inr (.inr (.inr (.inr (fun j => some (gR j))))))), (a2, .inl (cI, n, .inl (fun j => oI (ro j)))), (a3, .inl (cG, n, .inr (.inr (.inr (.inr (fun j => some (gQ j)))))))] : va_W) ++ va_pl L (pI cI pl pr)) s.heap.size) (([(h0, .inr (2, [.int (nI (n)), .int (nI (q)), .ref a1, .ref a2, .ref a3, .int (nI (bd)), .int (nI (fr))])), (a1, .inl (cG, n, .inr (.inr (.inr (.inr (fun j => some (gR j))))))), (a2, .inl (cI, n, .inl (fun j => oI (ro j)))), (a3, .inl (cG, n, .inr (.inr (.inr (.inr (fun j => some (gQ j)))))))] : va_W) ++ va_pl L (pI cI pl pr))) (va_A (([(h0, .inr (2, [.int (nI (n)), .int (nI (q)), .ref a1, .ref a2, .ref a3, .int (nI (bd)), .int (nI (fr))])), (a1, .inl (cG, n, .inr (.inr (.inr (.inr (fun j => some (gR j))))))), (a2, .inl (cI, n, .inl (fun j => oI (ro j)))), (a3, .inl (cG, n, .inr (.inr (.inr (.inr (fun j => some (gQ j)))))))] : va_W) ++ va_pl L (pI cI pl pr)) s.heap.size)) args s 0 0 (va_A (([(h0, .inr (2, [.int (nI (n)), .int (nI (q)), .ref a1, .ref a2, .ref a3, .int (nI (bd)), .int (nI (fr))])), (a1, .inl (cG, n, .inr (.inr (.inr (.inr (fun j => some (gR j))))))), (a2, .inl (cI, n, .inl (fun j => oI (ro j)))), (a3, .inl (cG, n, .inr (.inr (.inr (.inr (fun j => some (gQ j)))))))] : va_W) ++ va_pl L (pI cI pl pr)) s.heap.size) := ⟨_, rfl⟩
  rw [← hQ]
  have hD := hD0.self (sz := s.heap.size)
  generalize hAe : (va_A (([(h0, .inr (2, [.int (nI (n)), .int (nI (q)), .ref a1, .ref a2, .ref a3, .int (nI (bd)), .int (nI (fr))])), (a1, .inl (cG, n, .inr (.inr (.inr (.inr (fun j => some (gR j))))))), (a2, .inl (cI, n, .inl (fun j => oI (ro j)))), (a3, .inl (cG, n, .inr (.inr (.inr (.inr (fun j => some (gQ j)))))))] : va_W) ++ va_pl L (pI cI pl pr)) s.heap.size) = A at hD hQ
  have hA : ∀ q : Nat, s.heap.size ≤ q → A q := fun q h => by rw [← hAe]; exact Or.inr h
  have hS : va_S A s.heap s.heap [] := va_S.rf
  have hl := lv_entry ([.ref h0, .int (nI (lim))]) (n := 4) (Nat.le_of_ble_eq_true rfl)
  generalize hen : entryFrame m args 4 = fr
  rw [hargs, lg_entry_eq] at hen
  subst hen
  generalize (lg_sl ([.ref h0, .int (nI (lim))]) ++ List.replicate (4 - (lg_sl ([.ref h0, .int (nI (lim))])).length) Slot.unset).toArray = ls at hl ⊢
  have hl : lv_has ls 4 [(0, .ref h0), (1, .int (nI (lim)))] := hl
  have hinX1 : ∀ w ∈ wsX10, w ∈ wsX1_answersUpTo := by decide +kernel
  have hf9 := hts (.fieldLink RX1 9 "LightRows$Equations" "size" "I") (by decide +kernel)
  have hf15 := hts (.fieldLink RX1 15 "LightRows$Equations" "modulus" "I") (by decide +kernel)
  have hf20 := hts (.fieldLink RX1 20 "LightRows$Equations" "rows" "[[I") (by decide +kernel)
  have hf30 := hts (.fieldLink RX1 30 "LightRows$Equations" "bound" "I") (by decide +kernel)
  have hf33 := hts (.fieldLink RX1 33 "LightRows$Equations" "free" "I") (by decide +kernel)
  refine lv_aload_n hx hb dX1_answersUpTo_0 rfl (lv_at hl 0 rfl) ?_
  have hPc := hP.part (cx := [(h0, .inr (2, [.int (nI (n)), .int (nI (q)), .ref a1, .ref a2, .ref a3, .int (nI (bd)), .int (nI (fr))])), (a1, .inl (cG, n, .inr (.inr (.inr (.inr (fun j => some (gR j))))))), (a2, .inl (cI, n, .inl (fun j => oI (ro j)))), (a3, .inl (cG, n, .inr (.inr (.inr (.inr (fun j => some (gQ j)))))))]) [0, 1, 2, 3] rfl
  have hDc := hD.part (cx := [(h0, .inr (2, [.int (nI (n)), .int (nI (q)), .ref a1, .ref a2, .ref a3, .int (nI (bd)), .int (nI (fr))])), (a1, .inl (cG, n, .inr (.inr (.inr (.inr (fun j => some (gR j))))))), (a2, .inl (cI, n, .inl (fun j => oI (ro j)))), (a3, .inl (cG, n, .inr (.inr (.inr (.inr (fun j => some (gQ j)))))))]) [0, 1, 2, 3] (by decide) rfl
  have hFc := va_freeP (cx := [(h0, .inr (2, [.int (nI (n)), .int (nI (q)), .ref a1, .ref a2, .ref a3, .int (nI (bd)), .int (nI (fr))])), (a1, .inl (cG, n, .inr (.inr (.inr (.inr (fun j => some (gR j))))))), (a2, .inl (cI, n, .inl (fun j => oI (ro j)))), (a3, .inl (cG, n, .inr (.inr (.inr (.inr (fun j => some (gQ j)))))))]) hD hS hA [0, 1, 2, 3] rfl
  have hKc := hK.sub (tys' := [(cI, .int), (cG, .array .int)]) [0, 1] rfl
  refine va_calli (va_runV (As := []) (rest := []) ⟨hx, hb, hml, hown, hts⟩ (c_X1_agree l dC dI s.heap.size h0 a1 a2 a3 n q bd fr gR gQ ro cG cI L pl pr hn hok hbd bx) (cwV 0 hts gX1_answersUpTo_X1_agree rfl rfl rfl (by decide +kernel) ⟨Nat.le_of_ble_eq_true rfl, Nat.le_of_ble_eq_true rfl⟩) ⟨fun a U g mk q => by obtain ⟨q0, q1, qP, qK, qD⟩ := q; exact ⟨q0, q1, qP, va_K.moved (u := U) (U := U.calling g mk a) (Vm.Alike.refl U.vm) qK, qD⟩, va_recv hKc hPc (ci := 2) (q0 := 0) rfl rfl, fun U hU hW => ⟨rfl, by rw [hU], by rw [hU]; exact hPc, va_K.moved hW.alike hKc, hDc.weaken (fun _ _ _ _ => trivial)⟩⟩ rfl rfl hl.1 rfl (lv_room (Nat.le_of_ble_eq_true rfl)) dX1_answersUpTo_1 ⟨Nat.zero_le _, Nat.zero_le _⟩) hS (fun q _ h => hFc q h) hFc (fun r1 u t H1 locs ht hvm hw hB hz1 hk1 hS => ?_)
  obtain ⟨hP1, hK1, hD1⟩ := hB
  rw [ht] at hP1
  try dsimp only at hw
  obtain ⟨hP, hD⟩ := va_joinP (wr := []) (rx := [(h0, .inr (2, [.int (nI (n)), .int (nI (q)), .ref a1, .ref a2, .ref a3, .int (nI (bd)), .int (nI (fr))])), (a1, .inl (cG, n, .inr (.inr (.inr (.inr (fun j => some (gR j))))))), (a2, .inl (cI, n, .inl (fun j => oI (ro j)))), (a3, .inl (cG, n, .inr (.inr (.inr (.inr (fun j => some (gQ j)))))))]) (pl1 := va_pl L (pI cI pl pr)) hP hD [0, 1, 2, 3] [] rfl rfl (by decide) (by decide) hk1 hFc hP1 hD1
  generalize H1 = H at hP hS ⊢
  have hP := hP.part (cx := [(h0, .inr (2, [.int (nI (n)), .int (nI (q)), .ref a1, .ref a2, .ref a3, .int (nI (bd)), .int (nI (fr))])), (a1, .inl (cG, n, .inr (.inr (.inr (.inr (fun j => some (gR j))))))), (a2, .inl (cI, n, .inl (fun j => oI (ro j)))), (a3, .inl (cG, n, .inr (.inr (.inr (.inr (fun j => some (gQ j)))))))]) [0, 1, 2, 3] rfl
  have hD := hD.part (cx := [(h0, .inr (2, [.int (nI (n)), .int (nI (q)), .ref a1, .ref a2, .ref a3, .int (nI (bd)), .int (nI (fr))])), (a1, .inl (cG, n, .inr (.inr (.inr (.inr (fun j => some (gR j))))))), (a2, .inl (cI, n, .inl (fun j => oI (ro j)))), (a3, .inl (cG, n, .inr (.inr (.inr (.inr (fun j => some (gQ j)))))))]) [0, 1, 2, 3] (by decide) rfl
  have hP : va_P (dC, dI) vwCl (([(h0, .inr (2, [.int (nI (n)), .int (nI (q)), .ref a1, .ref a2, .ref a3, .int (nI (bd)), .int (nI (fr))])), (a1, .inl (cG, n, .inr (.inr (.inr (.inr (fun j => some (gR j))))))), (a2, .inl (cI, n, .inl (fun j => oI (ro j)))), (a3, .inl (cG, n, .inr (.inr (.inr (.inr (fun j => some (gQ j)))))))] : va_W) ++ va_pl L (pI cI pl pr)) H := hP
  have hD : va_D A (([(h0, .inr (2, [.int (nI (n)), .int (nI (q)), .ref a1, .ref a2, .ref a3, .int (nI (bd)), .int (nI (fr))])), (a1, .inl (cG, n, .inr (.inr (.inr (.inr (fun j => some (gR j))))))), (a2, .inl (cI, n, .inl (fun j => oI (ro j)))), (a3, .inl (cG, n, .inr (.inr (.inr (.inr (fun j => some (gQ j)))))))] : va_W) ++ va_pl L (pI cI pl pr)) := hD
  subst hw
  rcases hag : agr (fun i => pr (gR i)) n (n - bd) bd with _ | _
  · skip
    refine tp_i (y := nI 0) rfl ?_
    refine lv_if_ne (tgt := 9) hx hb dX1_answersUpTo_4 (by decide) (fun c => ?_) (fun c => ?_)
    · skip
      have c : 0 ≠ 0 := fun h => c ((nI_eq (a := 0) (b := 0) (by omega) (by omega)).mpr h)
      exact absurd rfl c
    · skip
      have c : 0 = 0 := (nI_eq (a := 0) (b := 0) (by omega) (by omega)).mp c
      refine lv_iconst (v := nI 0) hx hb dX1_answersUpTo_7 (by decide) ?_
      rw [hQ]
      exact W.iret (v := nI (0)) hx hb hr (fun t ht hW => ⟨⟨_, (), rfl, by rw [if_neg (by rw [hag]; decide)], by rw [ht]; exact hP, va_K.moved hW.alike hK, hD⟩, hS.F ht⟩) hS.2.2 dX1_answersUpTo_8
  · skip
    refine tp_i (y := nI 1) rfl ?_
    refine lv_if_ne (tgt := 9) hx hb dX1_answersUpTo_4 (by decide) (fun c => ?_) (fun c => ?_)
    · skip
      have c : 1 ≠ 0 := fun h => c ((nI_eq (a := 1) (b := 0) (by omega) (by omega)).mpr h)
      refine lv_iconst (v := nI 1) hx hb dX1_answersUpTo_9 (by decide) ?_
      refine lv_istore_n (lv' := [(2, .int (nI (1))), (0, .ref h0), (1, .int (nI (lim)))]) hx hb dX1_answersUpTo_10 rfl hl (by decide) rfl (fun ls hl => ?_)
      refine lv_iconst (v := nI 0) hx hb dX1_answersUpTo_11 (by decide) ?_
      refine lv_istore_n (lv' := [(3, .int (nI (0))), (2, .int (nI (1))), (0, .ref h0), (1, .int (nI (lim)))]) hx hb dX1_answersUpTo_12 rfl hl (by decide) rfl (fun ls hl => ?_)
      have lp : ∀ (k : Nat) (i : Nat) (z : Nat), (i + k = fr) → (z ≤ 100 * (lim + 1)) → (aut q lim fr 1 = aut q lim k z) → ∀ (H : Heap) (locs : List Loc), va_P (dC, dI) vwCl (([(h0, .inr (2, [.int (nI (n)), .int (nI (q)), .ref a1, .ref a2, .ref a3, .int (nI (bd)), .int (nI (fr))])), (a1, .inl (cG, n, .inr (.inr (.inr (.inr (fun j => some (gR j))))))), (a2, .inl (cI, n, .inl (fun j => oI (ro j)))), (a3, .inl (cG, n, .inr (.inr (.inr (.inr (fun j => some (gQ j)))))))] : va_W) ++ va_pl L (pI cI pl pr)) H → va_D A (([(h0, .inr (2, [.int (nI (n)), .int (nI (q)), .ref a1, .ref a2, .ref a3, .int (nI (bd)), .int (nI (fr))])), (a1, .inl (cG, n, .inr (.inr (.inr (.inr (fun j => some (gR j))))))), (a2, .inl (cI, n, .inl (fun j => oI (ro j)))), (a3, .inl (cG, n, .inr (.inr (.inr (.inr (fun j => some (gQ j)))))))] : va_W) ++ va_pl L (pI cI pl pr)) → va_S A s.heap H locs → ∀ (ls : Array Slot), lv_has ls 4 [(0, .ref h0), (1, .int (nI (lim))), (2, .int (nI (z))), (3, .int (nI (i)))] → W zp l ze (headSpec wsX1_answersUpTo ({ frames := 1, cells := 0, slots := 0, locals := 21 })).room s m args below meth zc H locs 0 0 Q (F0 m 13 ls []) := by
        intro k
        induction k with
        | zero =>
          intro i z hi hz hI H locs hP hD hS ls hl
          refine lv_iload_n hx hb dX1_answersUpTo_13 rfl (lv_at hl 3 rfl) ?_
          refine lv_aload_n hx hb dX1_answersUpTo_14 rfl (lv_at hl 0 rfl) ?_
          refine va_get (D := (dC, dI)) (ci := 2) (v := .int (nI (fr))) (C := RX1) (T := TX1) (N := 7) hx hb hts hinX1 hown hK hP 0 rfl rfl 6 (by decide) hf33 (fun _ h9 => h9) rfl dX1_answersUpTo_15 ?_
          refine lv_icmp_ge (tgt := 39) hx hb dX1_answersUpTo_18 (by decide) (fun c => ?_) (fun c => ?_)
          · skip
            have c : fr ≤ i := (nI_leI (a := fr) (b := i) (by omega) (by omega)).mp c
            refine lv_iload_n hx hb dX1_answersUpTo_39 rfl (lv_at hl 2 rfl) ?_
            rw [hQ]
            exact W.iret (v := nI (z)) hx hb hr (fun t ht hW => ⟨⟨_, (), rfl, by rw [if_pos hag, hI]; rfl, by rw [ht]; exact hP, va_K.moved hW.alike hK, hD⟩, hS.F ht⟩) hS.2.2 dX1_answersUpTo_40
          · skip
            have c : i < fr := Nat.not_le.mp (fun h => c ((nI_leI (a := fr) (b := i) (by omega) (by omega)).mpr h))
            exact absurd c (by omega)
        | succ k ih =>
          intro i z hi hz hI H locs hP hD hS ls hl
          refine lv_iload_n hx hb dX1_answersUpTo_13 rfl (lv_at hl 3 rfl) ?_
          refine lv_aload_n hx hb dX1_answersUpTo_14 rfl (lv_at hl 0 rfl) ?_
          refine va_get (D := (dC, dI)) (ci := 2) (v := .int (nI (fr))) (C := RX1) (T := TX1) (N := 7) hx hb hts hinX1 hown hK hP 0 rfl rfl 6 (by decide) hf33 (fun _ h9 => h9) rfl dX1_answersUpTo_15 ?_
          refine lv_icmp_ge (tgt := 39) hx hb dX1_answersUpTo_18 (by decide) (fun c => ?_) (fun c => ?_)
          · skip
            have c : fr ≤ i := (nI_leI (a := fr) (b := i) (by omega) (by omega)).mp c
            exact absurd c (by omega)
          · skip
            have c : i < fr := Nat.not_le.mp (fun h => c ((nI_leI (a := fr) (b := i) (by omega) (by omega)).mpr h))
            refine lv_iload_n hx hb dX1_answersUpTo_21 rfl (lv_at hl 2 rfl) ?_
            refine lv_iload_n hx hb dX1_answersUpTo_22 rfl (lv_at hl 1 rfl) ?_
            refine lv_icmp_gt (tgt := 39) hx hb dX1_answersUpTo_23 (by decide) (fun c2 => ?_) (fun c2 => ?_)
            · skip
              have c2 : lim < z := (nI_ltI (a := lim) (b := z) (by omega) (by omega)).mp c2
              refine lv_iload_n hx hb dX1_answersUpTo_39 rfl (lv_at hl 2 rfl) ?_
              rw [hQ]
              exact W.iret (v := nI (z)) hx hb hr (fun t ht hW => ⟨⟨_, (), rfl, by rw [if_pos hag, hI]; simp only [aut]; rw [if_pos c2], by rw [ht]; exact hP, va_K.moved hW.alike hK, hD⟩, hS.F ht⟩) hS.2.2 dX1_answersUpTo_40
            · skip
              have c2 : z ≤ lim := Nat.not_lt.mp (fun h => c2 ((nI_ltI (a := lim) (b := z) (by omega) (by omega)).mpr h))
              have bz : z * q ≤ 100 * (lim + 1) := by
                have := Nat.mul_le_mul c2 (show q ≤ 100 by omega)
                omega
              refine lv_iload_n hx hb dX1_answersUpTo_26 rfl (lv_at hl 2 rfl) ?_
              refine lv_aload_n hx hb dX1_answersUpTo_27 rfl (lv_at hl 0 rfl) ?_
              refine va_get (D := (dC, dI)) (ci := 2) (v := .int (nI (q))) (C := RX1) (T := TX1) (N := 7) hx hb hts hinX1 hown hK hP 0 rfl rfl 1 (by decide) hf15 (fun _ h9 => h9) rfl dX1_answersUpTo_28 ?_
              refine lv_imul hx hb dX1_answersUpTo_31 ?_
              refine tp_i (y := nI (z * q)) (pk_mul _ _) ?_
              refine lv_istore_n (lv' := [(2, .int (nI (z * q))), (0, .ref h0), (1, .int (nI (lim))), (3, .int (nI (i)))]) hx hb dX1_answersUpTo_32 rfl hl (by decide) rfl (fun ls hl => ?_)
              refine lv_iinc (v := nI (i + 1)) (lv' := [(3, .int (nI (i + 1))), (2, .int (nI (z * q))), (0, .ref h0), (1, .int (nI (lim)))]) hx hb dX1_answersUpTo_33 hl (k := 3) rfl (nI_1 _) (by decide) rfl (fun ls hl => ?_)
              refine lv_goto (tgt := 13) hx hb dX1_answersUpTo_36 (by decide) ?_
              exact ih (i + 1) (z * q) (by omega) bz (by rw [hI]; simp only [aut]; rw [if_neg (by omega)]) _ _ hP hD hS ls (lv_sub hl [2, 3, 1, 0] rfl)
      exact lp fr 0 1 (by omega) (by omega) rfl _ _ hP hD hS ls (lv_sub hl [2, 3, 1, 0] rfl)
    · skip
      have c : 1 = 0 := (nI_eq (a := 1) (b := 0) (by omega) (by omega)).mp c
      exact absurd c (by decide)

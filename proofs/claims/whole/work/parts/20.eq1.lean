set_option maxHeartbeats 4000000 in
set_option maxRecDepth 100000 in
theorem c_X1_addMultiple (l : Launch) (dC : Nat → ClassId) (dI : Nat → Nat → Nat) (sz : Nat) (h0 n q x y cf : Nat) (v2 v3 v4 v5 v6 : Value) (cI : ClassId) (L : List Nat) (pl : Nat → Nat) (pr : Nat → Nat → Nat) (hn : n < 1000) (hq : 0 < q) (hq2 : q < 100) (hc : cf < 100) (hx1 : x ∈ L) (hy : y ∈ L) (hxy : y ≠ x) (lx : pl x = n + 1) (ly : pl y = n + 1) (bx : ∀ j, j < n + 1 → pr x j < 100) (bb : ∀ j, j < n + 1 → pr y j < 100) : Met l yX1_addMultiple wsX1_addMultiple ({ frames := 0, cells := 0, slots := 0, locals := 0 }) (va_Pc [.ref h0, .ref x, .ref y, .int (nI (cf))] (fun U => U.heap.size = sz ∧ va_P (dC, dI) vwCl (([(h0, .inr (2, [.int (nI (n)), .int (nI (q)), v2, v3, v4, v5, v6]))] : va_W) ++ va_pl L (pI cI pl pr)) U.heap ∧ va_K (dC, dI) vwCl [(cI, .int)] U ∧ va_D (fun _ => True) (([(h0, .inr (2, [.int (nI (n)), .int (nI (q)), v2, v3, v4, v5, v6]))] : va_W) ++ va_pl L (pI cI pl pr)))) (va_Qv (fun _ : Unit => True) (fun _ t => va_P (dC, dI) vwCl (([(h0, .inr (2, [.int (nI (n)), .int (nI (q)), v2, v3, v4, v5, v6]))] : va_W) ++ va_pl L (pI cI pl (va_up pr x (fun j => if j < n + 1 then (pr x j + pr y j * cf) % q else pr x j)))) t.heap ∧ va_K (dC, dI) vwCl [(cI, .int)] t ∧ va_D (va_A (([(h0, .inr (2, [.int (nI (n)), .int (nI (q)), v2, v3, v4, v5, v6]))] : va_W) ++ va_pl L (pI cI pl pr)) sz) (([(h0, .inr (2, [.int (nI (n)), .int (nI (q)), v2, v3, v4, v5, v6]))] : va_W) ++ va_pl L (pI cI pl (va_up pr x (fun j => if j < n + 1 then (pr x j + pr y j * cf) % q else pr x j))))) (va_A (([(h0, .inr (2, [.int (nI (n)), .int (nI (q)), v2, v3, v4, v5, v6]))] : va_W) ++ va_pl L (pI cI pl pr)) sz)) 0 0 (va_A (([(h0, .inr (2, [.int (nI (n)), .int (nI (q)), v2, v3, v4, v5, v6]))] : va_W) ++ va_pl L (pI cI pl pr)) sz) := by
  refine Met.ofW (cc := cX1_addMultiple) (maxL := 5) (ret := none) (by decide) rfl ?_
  intro zp ze s m args below meth zc s₁ B hml hv
  obtain ⟨hargs, hsz, hP, hK, hD0⟩ := hv
  have hx := B.exec
  have hb := B.bytes
  have hr := B.returns
  have hts := atoms_spec (ws := wsX1_addMultiple) B.pre
  have hown : s.vm.findClass RX1 = some m.cls := findClass_of_methodNamed B.named
  have hlocks := B.notSynchronized
  subst hsz
  obtain ⟨Q, hQ⟩ : ∃ Q, Q = MQ below (va_Qv (fun _ : Unit => True) (fun _ t => va_P (dC, dI) vwCl (([(h0, .inr (2, [.int (nI (n)), .int (nI (q)), v2, v3, v4, v5, v6]))] : va_W) ++ va_pl L (pI cI pl (va_up pr x (fun j => if j < n + 1 then (pr x j + pr y j * cf) % q else pr x j)))) t.heap ∧ va_K (dC, dI) vwCl [(cI, .int)] t ∧ va_D (va_A (([(h0, .inr (2, [.int (nI (n)), .int (nI (q)), v2, v3, v4, v5, v6]))] : va_W) ++ va_pl L (pI cI pl pr)) s.heap.size) (([(h0, .inr (2, [.int (nI (n)), .int (nI (q)), v2, v3, v4, v5, v6]))] : va_W) ++ va_pl L (pI cI pl (va_up pr x (fun j => if j < n + 1 then (pr x j + pr y j * cf) % q else pr x j))))) (va_A (([(h0, .inr (2, [.int (nI (n)), .int (nI (q)), v2, v3, v4, v5, v6]))] : va_W) ++ va_pl L (pI cI pl pr)) s.heap.size)) args s 0 0 (va_A (([(h0, .inr (2, [.int (nI (n)), .int (nI (q)), v2, v3, v4, v5, v6]))] : va_W) ++ va_pl L (pI cI pl pr)) s.heap.size) := ⟨_, rfl⟩
  rw [← hQ]
  have hD := hD0.self (sz := s.heap.size)
  generalize hAe : (va_A (([(h0, .inr (2, [.int (nI (n)), .int (nI (q)), v2, v3, v4, v5, v6]))] : va_W) ++ va_pl L (pI cI pl pr)) s.heap.size) = A at hD hQ
  have hA : ∀ q : Nat, s.heap.size ≤ q → A q := fun q h => by rw [← hAe]; exact Or.inr h
  have hS : va_S A s.heap s.heap [] := va_S.rf
  have hl := lv_entry ([.ref h0, .ref x, .ref y, .int (nI (cf))]) (n := 5) (Nat.le_of_ble_eq_true rfl)
  generalize hen : entryFrame m args 5 = fr
  rw [hargs, lg_entry_eq] at hen
  subst hen
  generalize (lg_sl ([.ref h0, .ref x, .ref y, .int (nI (cf))]) ++ List.replicate (5 - (lg_sl ([.ref h0, .ref x, .ref y, .int (nI (cf))])).length) Slot.unset).toArray = ls at hl ⊢
  have hl : lv_has ls 5 [(0, .ref h0), (1, .ref x), (2, .ref y), (3, .int (nI (cf)))] := hl
  have hinX1 : ∀ w ∈ wsX10, w ∈ wsX1_addMultiple := by decide +kernel
  have hf9 := hts (.fieldLink RX1 9 "LightRows$Equations" "size" "I") (by decide +kernel)
  have hf15 := hts (.fieldLink RX1 15 "LightRows$Equations" "modulus" "I") (by decide +kernel)
  refine lv_iconst (v := nI 0) hx hb dX1_addMultiple_0 (by decide) ?_
  refine lv_istore (lv' := [(4, .int (nI (0))), (0, .ref h0), (1, .ref x), (2, .ref y), (3, .int (nI (cf)))]) hx hb dX1_addMultiple_1 hl (by decide) rfl (fun ls hl => ?_)
  have lp : ∀ (k : Nat) (i : Nat) (F : Nat → Nat), (i + k = n + 1) → (∀ j, F j = if j < i then (fun j => (pr x j + pr y j * cf) % q) j else pr x j) → ∀ (H : Heap) (locs : List Loc), va_P (dC, dI) vwCl (([(h0, .inr (2, [.int (nI (n)), .int (nI (q)), v2, v3, v4, v5, v6]))] : va_W) ++ va_pl L (pI cI pl (va_up pr x F))) H → va_D A (([(h0, .inr (2, [.int (nI (n)), .int (nI (q)), v2, v3, v4, v5, v6]))] : va_W) ++ va_pl L (pI cI pl (va_up pr x F))) → va_S A s.heap H locs → ∀ (ls : Array Slot), lv_has ls 5 [(0, .ref h0), (1, .ref x), (2, .ref y), (3, .int (nI (cf))), (4, .int (nI (i)))] → W zp l ze (headSpec wsX1_addMultiple ({ frames := 0, cells := 0, slots := 0, locals := 0 })).room s m args below meth zc H locs 0 0 Q (F0 m 3 ls []) := by
    intro k
    induction k with
    | zero =>
      intro i F hi hF H locs hP hD hS ls hl
      refine lv_iload hx hb dX1_addMultiple_3 (lv_at hl 4 rfl) ?_
      refine lv_aload_n hx hb dX1_addMultiple_5 rfl (lv_at hl 0 rfl) ?_
      refine va_get (D := (dC, dI)) (ci := 2) (v := .int (nI (n))) (C := RX1) (T := TX1) (N := 7) hx hb hts hinX1 hown hK hP 0 rfl rfl 0 (by decide) hf9 (fun _ h9 => h9) rfl dX1_addMultiple_6 ?_
      refine lv_icmp_gt (tgt := 38) hx hb dX1_addMultiple_9 (by decide) (fun c => ?_) (fun c => ?_)
      · skip
        have c : n < i := (nI_ltI (a := n) (b := i) (by omega) (by omega)).mp c
        obtain rfl : i = n + 1 := by omega
        have eF : F = fun j => if j < n + 1 then (pr x j + pr y j * cf) % q else pr x j := funext hF
        subst eF
        rw [hQ]
        exact W.vret hx hb hr (fun t ht hW => ⟨⟨(), rfl, trivial, by rw [ht]; exact hP, va_K.moved hW.alike hK, hD⟩, hS.F ht⟩) hS.2.2 dX1_addMultiple_38
      · skip
        have c : i ≤ n := Nat.not_lt.mp (fun h => c ((nI_ltI (a := n) (b := i) (by omega) (by omega)).mpr h))
        exact absurd c (by omega)
    | succ k ih =>
      intro i F hi hF H locs hP hD hS ls hl
      refine lv_iload hx hb dX1_addMultiple_3 (lv_at hl 4 rfl) ?_
      refine lv_aload_n hx hb dX1_addMultiple_5 rfl (lv_at hl 0 rfl) ?_
      refine va_get (D := (dC, dI)) (ci := 2) (v := .int (nI (n))) (C := RX1) (T := TX1) (N := 7) hx hb hts hinX1 hown hK hP 0 rfl rfl 0 (by decide) hf9 (fun _ h9 => h9) rfl dX1_addMultiple_6 ?_
      refine lv_icmp_gt (tgt := 38) hx hb dX1_addMultiple_9 (by decide) (fun c => ?_) (fun c => ?_)
      · skip
        have c : n < i := (nI_ltI (a := n) (b := i) (by omega) (by omega)).mp c
        exact absurd c (by omega)
      · skip
        have c : i ≤ n := Nat.not_lt.mp (fun h => c ((nI_ltI (a := n) (b := i) (by omega) (by omega)).mpr h))
        have eFi : F i = pr x i := by rw [hF i, if_neg (by omega)]
        have bX := bx i (by omega)
        have bY := bb i (by omega)
        have bM : pr y i * cf ≤ 100 * 100 := Nat.mul_le_mul (by omega) (by omega)
        refine lv_aload_n hx hb dX1_addMultiple_12 rfl (lv_at hl 1 rfl) ?_
        refine lv_iload hx hb dX1_addMultiple_13 (lv_at hl 4 rfl) ?_
        refine lv_aload_n hx hb dX1_addMultiple_15 rfl (lv_at hl 1 rfl) ?_
        refine lv_iload hx hb dX1_addMultiple_16 (lv_at hl 4 rfl) ?_
        refine rp_ld hx hb hK hP 0 rfl (hx1) (by omega) (by omega) dX1_addMultiple_18 ?_
        refine tp_i (y := nI (pr x i)) (by rw [up_at, eFi]) ?_
        refine lv_aload_n hx hb dX1_addMultiple_19 rfl (lv_at hl 2 rfl) ?_
        refine lv_iload hx hb dX1_addMultiple_20 (lv_at hl 4 rfl) ?_
        refine rp_ld hx hb hK hP 0 rfl (hy) (by omega) (by omega) dX1_addMultiple_22 ?_
        refine tp_i (y := nI (pr y i)) (by rw [up_of _ _ hxy]) ?_
        refine lv_iload_n hx hb dX1_addMultiple_23 rfl (lv_at hl 3 rfl) ?_
        refine lv_imul hx hb dX1_addMultiple_24 ?_
        refine tp_i (y := nI ((pr y i) * cf)) (pk_mul _ _) ?_
        refine lv_iadd hx hb dX1_addMultiple_25 ?_
        refine tp_i (y := nI ((pr x i) + ((pr y i) * cf))) (nI_add _ _) ?_
        refine lv_aload_n hx hb dX1_addMultiple_26 rfl (lv_at hl 0 rfl) ?_
        refine va_get (D := (dC, dI)) (ci := 2) (v := .int (nI (q))) (C := RX1) (T := TX1) (N := 7) hx hb hts hinX1 hown hK hP 0 rfl rfl 1 (by decide) hf15 (fun _ h9 => h9) rfl dX1_addMultiple_27 ?_
        refine lv_irem hx hb dX1_addMultiple_30 (nI_ne0 (by omega) (by omega)) ?_
        refine tp_i (y := nI (((pr x i) + ((pr y i) * cf)) % q)) (pk_rem (by omega) (by omega) (by omega)) ?_
        refine rp_st (v := ((pr x i) + ((pr y i) * cf)) % q) hx hb hK hP hD hS 0 rfl (hx1) (by omega) (by omega) dX1_addMultiple_31 (fun H locs hP hD hS => ?_)
        have hP : va_P (dC, dI) vwCl (([(h0, .inr (2, [.int (nI (n)), .int (nI (q)), v2, v3, v4, v5, v6]))] : va_W) ++ va_pl L (pI cI pl (va_up (va_up pr x F) x (va_up ((va_up pr x F) x) i (((pr x i) + ((pr y i) * cf)) % q))))) H := hP
        have hD : va_D A (([(h0, .inr (2, [.int (nI (n)), .int (nI (q)), v2, v3, v4, v5, v6]))] : va_W) ++ va_pl L (pI cI pl (va_up (va_up pr x F) x (va_up ((va_up pr x F) x) i (((pr x i) + ((pr y i) * cf)) % q))))) := hD
        have e9 : va_up (va_up pr x F) x (va_up ((va_up pr x F) x) i (((pr x i) + ((pr y i) * cf)) % q)) = va_up pr x (va_up F i ((pr x i + pr y i * cf) % q)) := by rw [up_at, up_up]
        rw [e9] at hP hD
        have hP : va_P (dC, dI) vwCl (([(h0, .inr (2, [.int (nI (n)), .int (nI (q)), v2, v3, v4, v5, v6]))] : va_W) ++ va_pl L (pI cI pl (va_up pr x (va_up F i ((pr x i + pr y i * cf) % q))))) H := hP
        have hD : va_D A (([(h0, .inr (2, [.int (nI (n)), .int (nI (q)), v2, v3, v4, v5, v6]))] : va_W) ++ va_pl L (pI cI pl (va_up pr x (va_up F i ((pr x i + pr y i * cf) % q))))) := hD
        refine lv_iinc (v := nI (i + 1)) (lv' := [(4, .int (nI (i + 1))), (0, .ref h0), (1, .ref x), (2, .ref y), (3, .int (nI (cf)))]) hx hb dX1_addMultiple_32 hl (k := 4) rfl (nI_1 _) (by decide) rfl (fun ls hl => ?_)
        refine lv_goto (tgt := 3) hx hb dX1_addMultiple_35 (by decide) ?_
        exact ih (i + 1) (va_up F i ((pr x i + pr y i * cf) % q)) (by omega) (lp_step hF rfl) _ _ hP hD hS ls (lv_sub hl [1, 2, 3, 4, 0] rfl)
  have hP : va_P (dC, dI) vwCl (([(h0, .inr (2, [.int (nI (n)), .int (nI (q)), v2, v3, v4, v5, v6]))] : va_W) ++ va_pl L (pI cI pl (va_up pr x (pr x)))) s.heap := by rw [up_id]; exact hP
  have hD : va_D A (([(h0, .inr (2, [.int (nI (n)), .int (nI (q)), v2, v3, v4, v5, v6]))] : va_W) ++ va_pl L (pI cI pl (va_up pr x (pr x)))) := by rw [up_id]; exact hD
  exact lp (n + 1) 0 (pr x) (by omega) (lp_zero _ _) _ _ hP hD hS ls (lv_sub hl [1, 2, 3, 4, 0] rfl)

set_option maxHeartbeats 4000000 in
set_option maxRecDepth 100000 in
theorem c_X1_boundLamps (l : Launch) (dC : Nat → ClassId) (dI : Nat → Nat → Nat) (sz : Nat) (h0 : Nat) (r : Int32) (v0 v1 v2 v3 v4 v6 : Value)  : Met l yX1_boundLamps wsX1_boundLamps ({ frames := 0, cells := 0, slots := 0, locals := 0 }) (va_Pc [.ref h0] (fun U => U.heap.size = sz ∧ va_P (dC, dI) vwCl [(h0, .inr (2, [v0, v1, v2, v3, v4, .int (r), v6]))] U.heap ∧ va_K (dC, dI) vwCl [] U ∧ va_D (fun _ => True) [(h0, .inr (2, [v0, v1, v2, v3, v4, .int (r), v6]))])) (va_Qi (fun (z : Int32) (_ : Unit) => z = r) (fun _ t => va_P (dC, dI) vwCl [(h0, .inr (2, [v0, v1, v2, v3, v4, .int (r), v6]))] t.heap ∧ va_K (dC, dI) vwCl [] t ∧ va_D (va_A [(h0, .inr (2, [v0, v1, v2, v3, v4, .int (r), v6]))] sz) [(h0, .inr (2, [v0, v1, v2, v3, v4, .int (r), v6]))]) (va_A [(h0, .inr (2, [v0, v1, v2, v3, v4, .int (r), v6]))] sz)) 0 0 (va_A [(h0, .inr (2, [v0, v1, v2, v3, v4, .int (r), v6]))] sz) := by
  refine Met.ofW (cc := cX1_boundLamps) (maxL := 1) (ret := (some .int)) (by decide) rfl ?_
  intro zp ze s m args below meth zc s₁ B hml hv
  obtain ⟨hargs, hsz, hP, hK, hD0⟩ := hv
  have hx := B.exec
  have hb := B.bytes
  have hr := B.returns
  have hts := atoms_spec (ws := wsX1_boundLamps) B.pre
  have hown : s.vm.findClass RX1 = some m.cls := findClass_of_methodNamed B.named
  have hlocks := B.notSynchronized
  subst hsz
  obtain ⟨Q, hQ⟩ : ∃ Q, Q = MQ below (va_Qi (fun (z : Int32) (_ : Unit) => z = r) (fun _ t => va_P (dC, dI) vwCl [(h0, .inr (2, [v0, v1, v2, v3, v4, .int (r), v6]))] t.heap ∧ va_K (dC, dI) vwCl [] t ∧ va_D (va_A [(h0, .inr (2, [v0, v1, v2, v3, v4, .int (r), v6]))] s.heap.size) [(h0, .inr (2, [v0, v1, v2, v3, v4, .int (r), v6]))]) (va_A [(h0, .inr (2, [v0, v1, v2, v3, v4, .int (r), v6]))] s.heap.size)) args s 0 0 (va_A [(h0, .inr (2, [v0, v1, v2, v3, v4, .int (r), v6]))] s.heap.size) := ⟨_, rfl⟩
  rw [← hQ]
  have hD := hD0.self (sz := s.heap.size)
  generalize hAe : (va_A [(h0, .inr (2, [v0, v1, v2, v3, v4, .int (r), v6]))] s.heap.size) = A at hD hQ
  have hA : ∀ q : Nat, s.heap.size ≤ q → A q := fun q h => by rw [← hAe]; exact Or.inr h
  have hS : va_S A s.heap s.heap [] := va_S.rf
  have hl := lv_entry ([.ref h0]) (n := 1) (Nat.le_of_ble_eq_true rfl)
  generalize hen : entryFrame m args 1 = fr
  rw [hargs, lg_entry_eq] at hen
  subst hen
  generalize (lg_sl ([.ref h0]) ++ List.replicate (1 - (lg_sl ([.ref h0])).length) Slot.unset).toArray = ls at hl ⊢
  have hl : lv_has ls 1 [(0, .ref h0)] := hl
  have hinX1 : ∀ w ∈ wsX10, w ∈ wsX1_boundLamps := by decide +kernel
  have hf30 := hts (.fieldLink RX1 30 "LightRows$Equations" "bound" "I") (by decide +kernel)
  refine lv_aload_n hx hb dX1_boundLamps_0 rfl (lv_at hl 0 rfl) ?_
  refine va_get (D := (dC, dI)) (ci := 2) (v := .int (r)) (C := RX1) (T := TX1) (N := 7) hx hb hts hinX1 hown hK hP 0 rfl rfl 5 (by decide) hf30 (fun _ h9 => h9) rfl dX1_boundLamps_1 ?_
  rw [hQ]
  exact W.iret (v := r) hx hb hr (fun t ht hW => ⟨⟨_, (), rfl, rfl, by rw [ht]; exact hP, va_K.moved hW.alike hK, hD⟩, hS.F ht⟩) hS.2.2 dX1_boundLamps_4

set_option maxHeartbeats 4000000 in
set_option maxRecDepth 100000 in
theorem c_X1_freeLamps (l : Launch) (dC : Nat → ClassId) (dI : Nat → Nat → Nat) (sz : Nat) (h0 : Nat) (r : Int32) (v0 v1 v2 v3 v4 v5 : Value)  : Met l yX1_freeLamps wsX1_freeLamps ({ frames := 0, cells := 0, slots := 0, locals := 0 }) (va_Pc [.ref h0] (fun U => U.heap.size = sz ∧ va_P (dC, dI) vwCl [(h0, .inr (2, [v0, v1, v2, v3, v4, v5, .int (r)]))] U.heap ∧ va_K (dC, dI) vwCl [] U ∧ va_D (fun _ => True) [(h0, .inr (2, [v0, v1, v2, v3, v4, v5, .int (r)]))])) (va_Qi (fun (z : Int32) (_ : Unit) => z = r) (fun _ t => va_P (dC, dI) vwCl [(h0, .inr (2, [v0, v1, v2, v3, v4, v5, .int (r)]))] t.heap ∧ va_K (dC, dI) vwCl [] t ∧ va_D (va_A [(h0, .inr (2, [v0, v1, v2, v3, v4, v5, .int (r)]))] sz) [(h0, .inr (2, [v0, v1, v2, v3, v4, v5, .int (r)]))]) (va_A [(h0, .inr (2, [v0, v1, v2, v3, v4, v5, .int (r)]))] sz)) 0 0 (va_A [(h0, .inr (2, [v0, v1, v2, v3, v4, v5, .int (r)]))] sz) := by
  refine Met.ofW (cc := cX1_freeLamps) (maxL := 1) (ret := (some .int)) (by decide) rfl ?_
  intro zp ze s m args below meth zc s₁ B hml hv
  obtain ⟨hargs, hsz, hP, hK, hD0⟩ := hv
  have hx := B.exec
  have hb := B.bytes
  have hr := B.returns
  have hts := atoms_spec (ws := wsX1_freeLamps) B.pre
  have hown : s.vm.findClass RX1 = some m.cls := findClass_of_methodNamed B.named
  have hlocks := B.notSynchronized
  subst hsz
  obtain ⟨Q, hQ⟩ : ∃ Q, Q = MQ below (va_Qi (fun (z : Int32) (_ : Unit) => z = r) (fun _ t => va_P (dC, dI) vwCl [(h0, .inr (2, [v0, v1, v2, v3, v4, v5, .int (r)]))] t.heap ∧ va_K (dC, dI) vwCl [] t ∧ va_D (va_A [(h0, .inr (2, [v0, v1, v2, v3, v4, v5, .int (r)]))] s.heap.size) [(h0, .inr (2, [v0, v1, v2, v3, v4, v5, .int (r)]))]) (va_A [(h0, .inr (2, [v0, v1, v2, v3, v4, v5, .int (r)]))] s.heap.size)) args s 0 0 (va_A [(h0, .inr (2, [v0, v1, v2, v3, v4, v5, .int (r)]))] s.heap.size) := ⟨_, rfl⟩
  rw [← hQ]
  have hD := hD0.self (sz := s.heap.size)
  generalize hAe : (va_A [(h0, .inr (2, [v0, v1, v2, v3, v4, v5, .int (r)]))] s.heap.size) = A at hD hQ
  have hA : ∀ q : Nat, s.heap.size ≤ q → A q := fun q h => by rw [← hAe]; exact Or.inr h
  have hS : va_S A s.heap s.heap [] := va_S.rf
  have hl := lv_entry ([.ref h0]) (n := 1) (Nat.le_of_ble_eq_true rfl)
  generalize hen : entryFrame m args 1 = fr
  rw [hargs, lg_entry_eq] at hen
  subst hen
  generalize (lg_sl ([.ref h0]) ++ List.replicate (1 - (lg_sl ([.ref h0])).length) Slot.unset).toArray = ls at hl ⊢
  have hl : lv_has ls 1 [(0, .ref h0)] := hl
  have hinX1 : ∀ w ∈ wsX10, w ∈ wsX1_freeLamps := by decide +kernel
  have hf33 := hts (.fieldLink RX1 33 "LightRows$Equations" "free" "I") (by decide +kernel)
  refine lv_aload_n hx hb dX1_freeLamps_0 rfl (lv_at hl 0 rfl) ?_
  refine va_get (D := (dC, dI)) (ci := 2) (v := .int (r)) (C := RX1) (T := TX1) (N := 7) hx hb hts hinX1 hown hK hP 0 rfl rfl 6 (by decide) hf33 (fun _ h9 => h9) rfl dX1_freeLamps_1 ?_
  rw [hQ]
  exact W.iret (v := r) hx hb hr (fun t ht hW => ⟨⟨_, (), rfl, rfl, by rw [ht]; exact hP, va_K.moved hW.alike hK, hD⟩, hS.F ht⟩) hS.2.2 dX1_freeLamps_4

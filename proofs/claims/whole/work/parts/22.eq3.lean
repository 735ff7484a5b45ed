set_option maxHeartbeats 4000000 in
set_option maxRecDepth 100000 in
theorem c_X1_swap (l : Launch) (dC : Nat → ClassId) (dI : Nat → Nat → Nat) (sz : Nat) (h0 a1 a2 a3 n q bd fr : Nat) (gR gQ : Nat → Nat) (ro : Nat → Option Nat) (cG : ClassId) (cI : ClassId) (L : List Nat) (pl : Nat → Nat) (pr : Nat → Nat → Nat) (x y : Nat) (hn : n < 1000) (hok : eqOK n gR gQ L pl) (hx0 : x < n) (hy0 : y < n) : Met l yX1_swap wsX1_swap ({ frames := 0, cells := 0, slots := 0, locals := 0 }) (va_Pc [.ref h0, .int (nI (x)), .int (nI (y))] (fun U => U.heap.size = sz ∧ va_P (dC, dI) vwCl (([(h0, .inr (2, [.int (nI (n)), .int (nI (q)), .ref a1, .ref a2, .ref a3, .int (nI (bd)), .int (nI (fr))])), (a1, .inl (cG, n, .inr (.inr (.inr (.inr (fun j => some (gR j))))))), (a2, .inl (cI, n, .inl (fun j => oI (ro j)))), (a3, .inl (cG, n, .inr (.inr (.inr (.inr (fun j => some (gQ j)))))))] : va_W) ++ va_pl L (pI cI pl pr)) U.heap ∧ (va_K (dC, dI) vwCl [(cI, .int), (cG, .array .int)] U ∧ grK cG cI U) ∧ va_D (fun _ => True) (([(h0, .inr (2, [.int (nI (n)), .int (nI (q)), .ref a1, .ref a2, .ref a3, .int (nI (bd)), .int (nI (fr))])), (a1, .inl (cG, n, .inr (.inr (.inr (.inr (fun j => some (gR j))))))), (a2, .inl (cI, n, .inl (fun j => oI (ro j)))), (a3, .inl (cG, n, .inr (.inr (.inr (.inr (fun j => some (gQ j)))))))] : va_W) ++ va_pl L (pI cI pl pr)))) (va_Qv (fun _ : Unit => True) (fun _ t => va_P (dC, dI) vwCl (([(h0, .inr (2, [.int (nI (n)), .int (nI (q)), .ref a1, .ref a2, .ref a3, .int (nI (bd)), .int (nI (fr))])), (a1, .inl (cG, n, .inr (.inr (.inr (.inr (fun j => some ((va_up (va_up gR x (gR y)) y (gR x)) j))))))), (a2, .inl (cI, n, .inl (fun j => oI (ro j)))), (a3, .inl (cG, n, .inr (.inr (.inr (.inr (fun j => some (gQ j)))))))] : va_W) ++ va_pl L (pI cI pl pr)) t.heap ∧ va_K (dC, dI) vwCl [(cI, .int), (cG, .array .int)] t ∧ va_D (va_A (([(h0, .inr (2, [.int (nI (n)), .int (nI (q)), .ref a1, .ref a2, .ref a3, .int (nI (bd)), .int (nI (fr))])), (a1, .inl (cG, n, .inr (.inr (.inr (.inr (fun j => some (gR j))))))), (a2, .inl (cI, n, .inl (fun j => oI (ro j)))), (a3, .inl (cG, n, .inr (.inr (.inr (.inr (fun j => some (gQ j)))))))] : va_W) ++ va_pl L (pI cI pl pr)) sz) (([(h0, .inr (2, [.int (nI (n)), .int (nI (q)), .ref a1, .ref a2, .ref a3, .int (nI (bd)), .int (nI (fr))])), (a1, .inl (cG, n, .inr (.inr (.inr (.inr (fun j => some ((va_up (va_up gR x (gR y)) y (gR x)) j))))))), (a2, .inl (cI, n, .inl (fun j => oI (ro j)))), (a3, .inl (cG, n, .inr (.inr (.inr (.inr (fun j => some (gQ j)))))))] : va_W) ++ va_pl L (pI cI pl pr))) (va_A (([(h0, .inr (2, [.int (nI (n)), .int (nI (q)), .ref a1, .ref a2, .ref a3, .int (nI (bd)), .int (nI (fr))])), (a1, .inl (cG, n, .inr (.inr (.inr (.inr (fun j => some (gR j))))))), (a2, .inl (cI, n, .inl (fun j => oI (ro j)))), (a3, .inl (cG, n, .inr (.inr (.inr (.inr (fun j => some (gQ j)))))))] : va_W) ++ va_pl L (pI cI pl pr)) sz)) 0 0 (va_A (([(h0, .inr (2, [.int (nI (n)), .int (nI (q)), .ref a1, .ref a2, .ref a3, .int (nI (bd)), .int (nI (fr))])), (a1, .inl (cG, n, .inr (.inr (.inr (.inr (fun j => some (gR j))))))), (a2, .inl (cI, n, .inl (fun j => oI (ro j)))), (a3, .inl (cG, n, .inr (.inr (.inr (.inr (fun j => some (gQ j)))))))] : va_W) ++ va_pl L (pI cI pl pr)) sz) := by
  refine Met.ofW (cc := cX1_swap) (maxL := 4) (ret := none) (by decide) rfl ?_
  intro zp ze s m args below meth zc s₁ B hml hv
  obtain ⟨hargs, hsz, hP, ⟨hK, hG⟩, hD0⟩ := hv
  have hx := B.exec
  have hb := B.bytes
  have hr := B.returns
  have hts := atoms_spec (ws := wsX1_swap) B.pre
  have hown : s.vm.findClass RX1 = some m.cls := findClass_of_methodNamed B.named
  have hlocks := B.notSynchronized
  subst hsz
  obtain ⟨Q, hQ⟩ : ∃ Q, Q = MQ below (va_Qv (fun _ : Unit => True) (fun _ t => va_P (dC, dI) vwCl (([(h0, .inr (2, [.int (nI (n)), .int (nI (q)), .ref a1, .ref a2, .ref a3, .int (nI (bd)), .int (nI (fr))])), (a1, .inl (cG, n, .inr (.inr (.inr (.inr (fun j => some ((va_up (va_up gR x (gR y)) y (gR x)) j))))))), (a2, .inl (cI, n, .inl (fun j => oI (ro j)))), (a3, .inl (cG, n, .inr (.inr (.inr (.inr (fun j => some (gQ j)))))))] : va_W) ++ va_pl L (pI cI pl pr)) t.heap ∧ va_K (dC, dI) vwCl [(cI, .int), (cG, .array .int)] t ∧ va_D (va_A (([(h0, .inr (2, [.int (nI (n)), .int (nI (q)), .ref a1, .ref a2, .ref a3, .int (nI (bd)), .int (nI (fr))])), (a1, .inl (cG, n, .inr (.inr (.inr (.inr (fun j => some (gR j))))))), (a2, .inl (cI, n, .inl (fun j => oI (ro j)))), (a3, .inl (cG, n, .inr (.inr (.inr (.inr (fun j => some (gQ j)))))))] : va_W) ++ va_pl L (pI cI pl pr)) s.heap.size) (([(h0, .inr (2, [.int (nI (n)), .int (nI (q)), .ref a1, .ref a2, .ref a3, .int (nI (bd)), .int (nI (fr))])), (a1, .inl (cG, n, .inr (.inr (.inr (.inr (fun j => some ((va_up (va_up gR x (gR y)) y (gR x)) j))))))), (a2, .inl (cI, n, .inl (fun j => oI (ro j)))), (a3, .inl (cG, n, .inr (.inr (.inr (.inr (fun j => some (gQ j)))))))] : va_W) ++ va_pl L (pI cI pl pr))) (va_A (([(h0, .inr (2, [.int (nI (n)), .int (nI (q)), .ref a1, .ref a2, .ref a3, .int (nI (bd)), .int (nI (fr))])), (a1, .inl (cG, n, .inr (.inr (.inr (.inr (fun j => some (gR j))))))), (a2, .inl (cI, n, .inl (fun j => oI (ro j)))), (a3, .inl (cG, n, .inr (.inr (.inr (.inr (fun j => some (gQ j)))))))] : va_W) ++ va_pl L (pI cI pl pr)) s.heap.size)) args s 0 0 (va_A (([(h0, .inr (2, [.int (nI (n)), .int (nI (q)), .ref a1, .ref a2, .ref a3, .int (nI (bd)), .int (nI (fr))])), (a1, .inl (cG, n, .inr (.inr (.inr (.inr (fun j => some (gR j))))))), (a2, .inl (cI, n, .inl (fun j => oI (ro j)))), (a3, .inl (cG, n, .inr (.inr (.inr (.inr (fun j => some (gQ j)))))))] : va_W) ++ va_pl L (pI cI pl pr)) s.heap.size) := ⟨_, rfl⟩
  rw [← hQ]
  have hD := hD0.self (sz := s.heap.size)
  generalize hAe : (va_A (([(h0, .inr (2, [.int (nI (n)), .int (nI (q)), .ref a1, .ref a2, .ref a3, .int (nI (bd)), .int (nI (fr))])), (a1, .inl (cG, n, .inr (.inr (.inr (.inr (fun j => some (gR j))))))), (a2, .inl (cI, n, .inl (fun j => oI (ro j)))), (a3, .inl (cG, n, .inr (.inr (.inr (.inr (fun j => some (gQ j)))))))] : va_W) ++ va_pl L (pI cI pl pr)) s.heap.size) = A at hD hQ
  have hA : ∀ q : Nat, s.heap.size ≤ q → A q := fun q h => by rw [← hAe]; exact Or.inr h
  have hS : va_S A s.heap s.heap [] := va_S.rf
  have hl := lv_entry ([.ref h0, .int (nI (x)), .int (nI (y))]) (n := 4) (Nat.le_of_ble_eq_true rfl)
  generalize hen : entryFrame m args 4 = fr
  rw [hargs, lg_entry_eq] at hen
  subst hen
  generalize (lg_sl ([.ref h0, .int (nI (x)), .int (nI (y))]) ++ List.replicate (4 - (lg_sl ([.ref h0, .int (nI (x)), .int (nI (y))])).length) Slot.unset).toArray = ls at hl ⊢
  have hl : lv_has ls 4 [(0, .ref h0), (1, .int (nI (x))), (2, .int (nI (y)))] := hl
  have hinX1 : ∀ w ∈ wsX10, w ∈ wsX1_swap := by decide +kernel
  have hf20 := hts (.fieldLink RX1 20 "LightRows$Equations" "rows" "[[I") (by decide +kernel)
  refine lv_aload_n hx hb dX1_swap_0 rfl (lv_at hl 0 rfl) ?_
  refine va_get (D := (dC, dI)) (ci := 2) (v := .ref a1) (C := RX1) (T := TX1) (N := 7) hx hb hts hinX1 hown hK hP 0 rfl rfl 2 (by decide) hf20 (fun _ h9 => h9) rfl dX1_swap_1 ?_
  refine lv_iload_n hx hb dX1_swap_4 rfl (lv_at hl 1 rfl) ?_
  refine rg_ld (G := gR) hx hb hK hP 1 1 rfl rfl (by omega) (by omega) dX1_swap_5 ?_
  refine lv_astore_n (lv' := [(3, .ref (gR x)), (0, .ref h0), (1, .int (nI (x))), (2, .int (nI (y)))]) hx hb dX1_swap_6 rfl hl (by decide) rfl (fun ls hl => ?_)
  refine lv_aload_n hx hb dX1_swap_7 rfl (lv_at hl 1 rfl) ?_
  refine va_get (D := (dC, dI)) (ci := 2) (v := .ref a1) (C := RX1) (T := TX1) (N := 7) hx hb hts hinX1 hown hK hP 0 rfl rfl 2 (by decide) hf20 (fun _ h9 => h9) rfl dX1_swap_8 ?_
  refine lv_iload_n hx hb dX1_swap_11 rfl (lv_at hl 2 rfl) ?_
  refine lv_aload_n hx hb dX1_swap_12 rfl (lv_at hl 1 rfl) ?_
  refine va_get (D := (dC, dI)) (ci := 2) (v := .ref a1) (C := RX1) (T := TX1) (N := 7) hx hb hts hinX1 hown hK hP 0 rfl rfl 2 (by decide) hf20 (fun _ h9 => h9) rfl dX1_swap_13 ?_
  refine lv_iload_n hx hb dX1_swap_16 rfl (lv_at hl 3 rfl) ?_
  refine rg_ld (G := gR) hx hb hK hP 1 1 rfl rfl (by omega) (by omega) dX1_swap_17 ?_
  refine rg_st (G := gR) hx hb hG hP hD hS 1 rfl ((hok.1 y hy0).1) (by omega) (by omega) dX1_swap_18 (fun H locs hP hD hS => ?_)
  have hP : va_P (dC, dI) vwCl (([(h0, .inr (2, [.int (nI (n)), .int (nI (q)), .ref a1, .ref a2, .ref a3, .int (nI (bd)), .int (nI (fr))])), (a1, .inl (cG, n, .inr (.inr (.inr (.inr (fun j => some ((va_up gR x (gR y)) j))))))), (a2, .inl (cI, n, .inl (fun j => oI (ro j)))), (a3, .inl (cG, n, .inr (.inr (.inr (.inr (fun j => some (gQ j)))))))] : va_W) ++ va_pl L (pI cI pl pr)) H := hP
  have hD : va_D A (([(h0, .inr (2, [.int (nI (n)), .int (nI (q)), .ref a1, .ref a2, .ref a3, .int (nI (bd)), .int (nI (fr))])), (a1, .inl (cG, n, .inr (.inr (.inr (.inr (fun j => some ((va_up gR x (gR y)) j))))))), (a2, .inl (cI, n, .inl (fun j => oI (ro j)))), (a3, .inl (cG, n, .inr (.inr (.inr (.inr (fun j => some (gQ j)))))))] : va_W) ++ va_pl L (pI cI pl pr)) := hD
  refine lv_aload_n hx hb dX1_swap_19 rfl (lv_at hl 1 rfl) ?_
  refine va_get (D := (dC, dI)) (ci := 2) (v := .ref a1) (C := RX1) (T := TX1) (N := 7) hx hb hts hinX1 hown hK hP 0 rfl rfl 2 (by decide) hf20 (fun _ h9 => h9) rfl dX1_swap_20 ?_
  refine lv_iload_n hx hb dX1_swap_23 rfl (lv_at hl 3 rfl) ?_
  refine lv_aload_n hx hb dX1_swap_24 rfl (lv_at hl 0 rfl) ?_
  refine rg_st (G := (va_up gR x (gR y))) hx hb hG hP hD hS 1 rfl ((hok.1 x hx0).1) (by omega) (by omega) dX1_swap_25 (fun H locs hP hD hS => ?_)
  have hP : va_P (dC, dI) vwCl (([(h0, .inr (2, [.int (nI (n)), .int (nI (q)), .ref a1, .ref a2, .ref a3, .int (nI (bd)), .int (nI (fr))])), (a1, .inl (cG, n, .inr (.inr (.inr (.inr (fun j => some ((va_up (va_up gR x (gR y)) y (gR x)) j))))))), (a2, .inl (cI, n, .inl (fun j => oI (ro j)))), (a3, .inl (cG, n, .inr (.inr (.inr (.inr (fun j => some (gQ j)))))))] : va_W) ++ va_pl L (pI cI pl pr)) H := hP
  have hD : va_D A (([(h0, .inr (2, [.int (nI (n)), .int (nI (q)), .ref a1, .ref a2, .ref a3, .int (nI (bd)), .int (nI (fr))])), (a1, .inl (cG, n, .inr (.inr (.inr (.inr (fun j => some ((va_up (va_up gR x (gR y)) y (gR x)) j))))))), (a2, .inl (cI, n, .inl (fun j => oI (ro j)))), (a3, .inl (cG, n, .inr (.inr (.inr (.inr (fun j => some (gQ j)))))))] : va_W) ++ va_pl L (pI cI pl pr)) := hD
  rw [hQ]
  exact W.vret hx hb hr (fun t ht hW => ⟨⟨(), rfl, trivial, by rw [ht]; exact hP, va_K.moved hW.alike hK, hD⟩, hS.F ht⟩) hS.2.2 dX1_swap_26

set_option maxHeartbeats 4000000 in
set_option maxRecDepth 100000 in
theorem c_X1_clearElsewhere (l : Launch) (dC : Nat → ClassId) (dI : Nat → Nat → Nat) (sz : Nat) (h0 a1 a2 a3 n q bd fr : Nat) (gR gQ : Nat → Nat) (ro : Nat → Option Nat) (cG : ClassId) (cI : ClassId) (L : List Nat) (pl : Nat → Nat) (pr : Nat → Nat → Nat) (x j0 : Nat) (hn : n < 1000) (hok : eqOK n gR gQ L pl) (hx0 : x < n) (hj0 : j0 < n + 1) (hq : 2 ≤ q) (hq2 : q < 100) (bx : ∀ i, i < n → ∀ j, j < n + 1 → pr (gR i) j < q) : Met l yX1_clearElsewhere wsX1_clearElsewhere ({ frames := 1, cells := 0, slots := 0, locals := 24 }) (va_Pc [.ref h0, .int (nI (x)), .int (nI (j0))] (fun U => U.heap.size = sz ∧ va_P (dC, dI) vwCl (([(h0, .inr (2, [.int (nI (n)), .int (nI (q)), .ref a1, .ref a2, .ref a3, .int (nI (bd)), .int (nI (fr))])), (a1, .inl (cG, n, .inr (.inr (.inr (.inr (fun j => some (gR j))))))), (a2, .inl (cI, n, .inl (fun j => oI (ro j)))), (a3, .inl (cG, n, .inr (.inr (.inr (.inr (fun j => some (gQ j)))))))] : va_W) ++ va_pl L (pI cI pl pr)) U.heap ∧ va_K (dC, dI) vwCl [(cI, .int), (cG, .array .int)] U ∧ va_D (fun _ => True) (([(h0, .inr (2, [.int (nI (n)), .int (nI (q)), .ref a1, .ref a2, .ref a3, .int (nI (bd)), .int (nI (fr))])), (a1, .inl (cG, n, .inr (.inr (.inr (.inr (fun j => some (gR j))))))), (a2, .inl (cI, n, .inl (fun j => oI (ro j)))), (a3, .inl (cG, n, .inr (.inr (.inr (.inr (fun j => some (gQ j)))))))] : va_W) ++ va_pl L (pI cI pl pr)))) (va_Qv (fun u : Nat → Nat → Nat => (∀ i, i < n → u (gR i) = clr n q x j0 (fun i => pr (gR i)) i) ∧ ∀ y, (∀ i, i < n → y ≠ gR i) → u y = pr y) (fun u t => va_P (dC, dI) vwCl (([(h0, .inr (2, [.int (nI (n)), .int (nI (q)), .ref a1, .ref a2, .ref a3, .int (nI (bd)), .int (nI (fr))])), (a1, .inl (cG, n, .inr (.inr (.inr (.inr (fun j => some (gR j))))))), (a2, .inl (cI, n, .inl (fun j => oI (ro j)))), (a3, .inl (cG, n, .inr (.inr (.inr (.inr (fun j => some (gQ j)))))))] : va_W) ++ va_pl L (pI cI pl u)) t.heap ∧ va_K (dC, dI) vwCl [(cI, .int), (cG, .array .int)] t ∧ va_D (va_A (([(h0, .inr (2, [.int (nI (n)), .int (nI (q)), .ref a1, .ref a2, .ref a3, .int (nI (bd)), .int (nI (fr))])), (a1, .inl (cG, n, .inr (.inr (.inr (.inr (fun j => some (gR j))))))), (a2, .inl (cI, n, .inl (fun j => oI (ro j)))), (a3, .inl (cG, n, .inr (.inr (.inr (.inr (fun j => some (gQ j)))))))] : va_W) ++ va_pl L (pI cI pl pr)) sz) (([(h0, .inr (2, [.int (nI (n)), .int (nI (q)), .ref a1, .ref a2, .ref a3, .int (nI (bd)), .int (nI (fr))])), (a1, .inl (cG, n, .inr (.inr (.inr (.inr (fun j => some (gR j))))))), (a2, .inl (cI, n, .inl (fun j => oI (ro j)))), (a3, .inl (cG, n, .inr (.inr (.inr (.inr (fun j => some (gQ j)))))))] : va_W) ++ va_pl L (pI cI pl u))) (va_A (([(h0, .inr (2, [.int (nI (n)), .int (nI (q)), .ref a1, .ref a2, .ref a3, .int (nI (bd)), .int (nI (fr))])), (a1, .inl (cG, n, .inr (.inr (.inr (.inr (fun j => some (gR j))))))), (a2, .inl (cI, n, .inl (fun j => oI (ro j)))), (a3, .inl (cG, n, .inr (.inr (.inr (.inr (fun j => some (gQ j)))))))] : va_W) ++ va_pl L (pI cI pl pr)) sz)) 0 0 (va_A (([(h0, .inr (2, [.int (nI (n)), .int (nI (q)), .ref a1, .ref a2, .ref a3, .int (nI (bd)), .int (nI (fr))])), (a1, .inl (cG, n, .inr (.inr (.inr (.inr (fun j => some (gR j))))))), (a2, .inl (cI, n, .inl (fun j => oI (ro j)))), (a3, .inl (cG, n, .inr (.inr (.inr (.inr (fun j => some (gQ j)))))))] : va_W) ++ va_pl L (pI cI pl pr)) sz) := by
  refine Met.ofW (cc := cX1_clearElsewhere) (maxL := 4) (ret := none) (by decide) rfl ?_
  intro zp ze s m args below meth zc s₁ B hml hv
  obtain ⟨hargs, hsz, hP, hK, hD0⟩ := hv
  have hx := B.exec
  have hb := B.bytes
  have hr := B.returns
  have hts := atoms_spec (ws := wsX1_clearElsewhere) B.pre
  have hown : s.vm.findClass RX1 = some m.cls := findClass_of_methodNamed B.named
  have hlocks := B.notSynchronized
  subst hsz
  obtain ⟨Q, hQ⟩ : ∃ Q, Q = MQ below (va_Qv (fun u : Nat → Nat → Nat => (∀ i, i < n → u (gR i) = clr n q x j0 (fun i => pr (gR i)) i) ∧ ∀ y, (∀ i, i < n → y ≠ gR i) → u y = pr y) (fun u t => va_P (dC, dI) vwCl (([(h0, .inr (2, [.int (nI (n)), .int (nI (q)), .ref a1, .ref a2, .ref a3, .int (nI (bd)), .int (nI (fr))])), (a1, .inl (cG, n, .inr (.inr (.inr (.inr (fun j => some (gR j))))))), (a2, .inl (cI, n, .inl (fun j => oI (ro j)))), (a3, .inl (cG, n, .inr (.inr (.inr (.inr (fun j => some (gQ j)))))))] : va_W) ++ va_pl L (pI cI pl u)) t.heap ∧ va_K (dC, dI) vwCl [(cI, .int), (cG, .array .int)] t ∧ va_D (va_A (([(h0, .inr (2, [.int (nI (n)), .int (nI (q)), .ref a1, .ref a2, .ref a3, .int (nI (bd)), .int (nI (fr))])), (a1, .inl (cG, n, .inr (.inr (.inr (.inr (fun j => some (gR j))))))), (a2, .inl (cI, n, .inl (fun j => oI (ro j)))), (a3, .inl (cG, n, .inr (.inr (.inr (.inr (fun j => some (gQ j)))))))] : va_W) ++ va_pl L (pI cI pl pr)) s.heap.size) (([(h0, .inr (2, [.int (nI (n)), .int (nI (q)), .ref a1, .ref a2, .ref a3, .int (nI (bd)), .int (nI (fr))])), (a1, .inl (cG, n, .inr (.inr (.inr (.inr (fun j => some (gR j))))))), (a2, .inl (cI, n, .inl (fun j => oI (ro j)))), (a3, .inl (cG, n, .inr (.inr (.inr (.inr (fun j => some (gQ j)))))))] : va_W) ++ va_pl L (pI cI pl u))) (va_A (([(h0, .inr (2, [.int (nI (n)), .int (nI (q)), .ref a1, .ref a2, .ref a3, .int (nI (bd)), .int (nI (fr))])), (a1, .inl (cG, n, .inr (.inr (.inr (.inr (fun j => some (gR j))))))), (a2, .inl (cI, n, .inl (fun j => oI (ro j)))), (a3, .inl (cG, n, .inr (.inr (.inr (.inr (fun j => some (gQ j)))))))] : va_W) ++ va_pl L (pI cI pl pr)) s.heap.size)) args s 0 0 (va_A (([(h0, .inr (2, [.int (nI (n)), .int (nI (q)), .ref a1, .ref a2, .ref a3, .int (nI (bd)), .int (nI (fr))])), (a1, .inl (cG, n, .inr (.inr (.inr (.inr (fun j => some (gR j))))))), (a2, .inl (cI, n, .inl (fun j => oI (ro j)))), (a3, .inl (cG, n, .inr (.inr (.inr (.inr (fun j => some (gQ j)))))))] : va_W) ++ va_pl L (pI cI pl pr)) s.heap.size) := ⟨_, rfl⟩
  rw [← hQ]
  have hD := hD0.self (sz := s.heap.size)
  generalize hAe : (va_A (([(h0, .inr (2, [.int (nI (n)), .int (nI (q)), .ref a1, .ref a2, .ref a3, .int (nI (bd)), .int (nI (fr))])), (a1, .inl (cG, n, .inr (.inr (.inr (.inr (fun j => some (gR j))))))), (a2, .inl (cI, n, .inl (fun j => oI (ro j)))), (a3, .inl (cG, n, .inr (.inr (.inr (.inr (fun j => some (gQ j)))))))] : va_W) ++ va_pl L (pI cI pl pr)) s.heap.size) = A at hD hQ
  have hA : ∀ q : Nat, s.heap.size ≤ q → A q := fun q h => by rw [← hAe]; exact Or.inr h
  have hS : va_S A s.heap s.heap [] := va_S.rf
  have hl := lv_entry ([.ref h0, .int (nI (x)), .int (nI (j0))]) (n := 4) (Nat.le_of_ble_eq_true rfl)
  generalize hen : entryFrame m args 4 = fr
  rw [hargs, lg_entry_eq] at hen
  subst hen
  generalize (lg_sl ([.ref h0, .int (nI (x)), .int (nI (j0))]) ++ List.replicate (4 - (lg_sl ([.ref h0, .int (nI (x)), .int (nI (j0))])).length) Slot.unset).toArray = ls at hl ⊢
  have hl : lv_has ls 4 [(0, .ref h0), (1, .int (nI (x))), (2, .int (nI (j0)))] := hl
  have hinX1 : ∀ w ∈ wsX10, w ∈ wsX1_clearElsewhere := by decide +kernel
  have hf9 := hts (.fieldLink RX1 9 "LightRows$Equations" "size" "I") (by decide +kernel)
  have hf15 := hts (.fieldLink RX1 15 "LightRows$Equations" "modulus" "I") (by decide +kernel)
  have hf20 := hts (.fieldLink RX1 20 "LightRows$Equations" "rows" "[[I") (by decide +kernel)
  refine lv_iconst (v := nI 0) hx hb dX1_clearElsewhere_0 (by decide) ?_
  refine lv_istore_n (lv' := [(3, .int (nI (0))), (0, .ref h0), (1, .int (nI (x))), (2, .int (nI (j0)))]) hx hb dX1_clearElsewhere_1 rfl hl (by decide) rfl (fun ls hl => ?_)
  have lp : ∀ (k : Nat) (i : Nat) (f : Nat → Nat → Nat), (i + k = n) → (∀ a, a < n → f (gR a) = if a < i then clr n q x j0 (fun i => pr (gR i)) a else pr (gR a)) → (∀ y, (∀ a, a < n → y ≠ gR a) → f y = pr y) → ∀ (H : Heap) (locs : List Loc), va_P (dC, dI) vwCl (([(h0, .inr (2, [.int (nI (n)), .int (nI (q)), .ref a1, .ref a2, .ref a3, .int (nI (bd)), .int (nI (fr))])), (a1, .inl (cG, n, .inr (.inr (.inr (.inr (fun j => some (gR j))))))), (a2, .inl (cI, n, .inl (fun j => oI (ro j)))), (a3, .inl (cG, n, .inr (.inr (.inr (.inr (fun j => some (gQ j)))))))] : va_W) ++ va_pl L (pI cI pl f)) H → va_D A (([(h0, .inr (2, [.int (nI (n)), .int (nI (q)), .ref a1, .ref a2, .ref a3, .int (nI (bd)), .int (nI (fr))])), (a1, .inl (cG, n, .inr (.inr (.inr (.inr (fun j => some (gR j))))))), (a2, .inl (cI, n, .inl (fun j => oI (ro j)))), (a3, .inl (cG, n, .inr (.inr (.inr (.inr (fun j => some (gQ j)))))))] : va_W) ++ va_pl L (pI cI pl f)) → va_S A s.heap H locs → ∀ (ls : Array Slot), lv_has ls 4 [(0, .ref h0), (1, .int (nI (x))), (2, .int (nI (j0))), (3, .int (nI (i)))] → W zp l ze (headSpec wsX1_clearElsewhere ({ frames := 1, cells := 0, slots := 0, locals := 24 })).room s m args below meth zc H locs 0 0 Q (F0 m 2 ls []) := by
    intro k
    induction k with
    | zero =>
      intro i f hi h1 h2 H locs hP hD hS ls hl
      refine lv_iload_n hx hb dX1_clearElsewhere_2 rfl (lv_at hl 3 rfl) ?_
      refine lv_aload_n hx hb dX1_clearElsewhere_3 rfl (lv_at hl 0 rfl) ?_
      refine va_get (D := (dC, dI)) (ci := 2) (v := .int (nI (n))) (C := RX1) (T := TX1) (N := 7) hx hb hts hinX1 hown hK hP 0 rfl rfl 0 (by decide) hf9 (fun _ h9 => h9) rfl dX1_clearElsewhere_4 ?_
      refine lv_icmp_ge (tgt := 61) hx hb dX1_clearElsewhere_7 (by decide) (fun c => ?_) (fun c => ?_)
      · skip
        have c : n ≤ i := (nI_leI (a := n) (b := i) (by omega) (by omega)).mp c
        rw [hQ]
        exact W.vret hx hb hr (fun t ht hW => ⟨⟨f, rfl, ⟨fun a ha => by rw [h1 a ha, if_pos (by omega)], h2⟩, by rw [ht]; exact hP, va_K.moved hW.alike hK, hD⟩, hS.F ht⟩) hS.2.2 dX1_clearElsewhere_61
      · skip
        have c : i < n := Nat.not_le.mp (fun h => c ((nI_leI (a := n) (b := i) (by omega) (by omega)).mpr h))
        exact absurd c (by omega)
    | succ k ih =>
      intro i f hi h1 h2 H locs hP hD hS ls hl
      refine lv_iload_n hx hb dX1_clearElsewhere_2 rfl (lv_at hl 3 rfl) ?_
      refine lv_aload_n hx hb dX1_clearElsewhere_3 rfl (lv_at hl 0 rfl) ?_
      refine va_get (D := (dC, dI)) (ci := 2) (v := .int (nI (n))) (C := RX1) (T := TX1) (N := 7) hx hb hts hinX1 hown hK hP 0 rfl rfl 0 (by decide) hf9 (fun _ h9 => h9) rfl dX1_clearElsewhere_4 ?_
      refine lv_icmp_ge (tgt := 61) hx hb dX1_clearElsewhere_7 (by decide) (fun c => ?_) (fun c => ?_)
      · skip
        have c : n ≤ i := (nI_leI (a := n) (b := i) (by omega) (by omega)).mp c
        exact absurd c (by omega)
      · skip
        have c : i < n := Nat.not_le.mp (fun h => c ((nI_leI (a := n) (b := i) (by omega) (by omega)).mpr h))
        have g1 := hok.1 i (by omega)
        have gx := hok.1 x hx0
        have ei : f (gR i) = pr (gR i) := by rw [h1 i (by omega), if_neg (by omega)]
        have bij := bx i (by omega) j0 hj0
        have clx : clr n q x j0 (fun i => pr (gR i)) x = pr (gR x) := by unfold clr; rw [if_pos (Or.inl rfl)]
        have ex : f (gR x) = pr (gR x) := by
          rw [h1 x hx0]
          split
          · exact clx
          · rfl
        have keep : (i = x ∨ pr (gR i) j0 = 0) → ∀ a, a < n → f (gR a) = if a < i + 1 then clr n q x j0 (fun i => pr (gR i)) a else pr (gR a) := by
          intro hc a ha
          rw [h1 a ha]
          by_cases e1 : a = i
          · subst e1
            rw [if_neg (by omega), if_pos (by omega)]
            unfold clr
            rw [if_pos hc]
          · by_cases e2 : a < i
            · rw [if_pos e2, if_pos (by omega)]
            · rw [if_neg e2, if_neg (by omega)]
        refine lv_iload_n hx hb dX1_clearElsewhere_10 rfl (lv_at hl 3 rfl) ?_
        refine lv_iload_n hx hb dX1_clearElsewhere_11 rfl (lv_at hl 1 rfl) ?_
        refine lv_icmp_eq (tgt := 55) hx hb dX1_clearElsewhere_12 (by decide) (fun c2 => ?_) (fun c2 => ?_)
        · skip
          have c2 : i = x := (nI_eq (a := i) (b := x) (by omega) (by omega)).mp c2
          refine lv_iinc (v := nI (i + 1)) (lv' := [(3, .int (nI (i + 1))), (0, .ref h0), (1, .int (nI (x))), (2, .int (nI (j0)))]) hx hb dX1_clearElsewhere_55 hl (k := 3) rfl (nI_1 _) (by decide) rfl (fun ls hl => ?_)
          refine lv_goto (tgt := 2) hx hb dX1_clearElsewhere_58 (by decide) ?_
          exact ih (i + 1) f (by omega) (keep (Or.inl c2)) h2 _ _ hP hD hS ls (lv_sub hl [1, 2, 3, 0] rfl)
        · skip
          have c2 : i ≠ x := fun h => c2 ((nI_eq (a := i) (b := x) (by omega) (by omega)).mpr h)
          refine lv_aload_n hx hb dX1_clearElsewhere_15 rfl (lv_at hl 0 rfl) ?_
          refine va_get (D := (dC, dI)) (ci := 2) (v := .ref a1) (C := RX1) (T := TX1) (N := 7) hx hb hts hinX1 hown hK hP 0 rfl rfl 2 (by decide) hf20 (fun _ h9 => h9) rfl dX1_clearElsewhere_16 ?_
          refine lv_iload_n hx hb dX1_clearElsewhere_19 rfl (lv_at hl 3 rfl) ?_
          refine rg_ld (G := gR) hx hb hK hP 1 1 rfl rfl (by omega) (by omega) dX1_clearElsewhere_20 ?_
          refine lv_iload_n hx hb dX1_clearElsewhere_21 rfl (lv_at hl 2 rfl) ?_
          refine rp_ld hx hb hK hP 0 rfl (g1.1) (by omega) (by omega) dX1_clearElsewhere_22 ?_
          refine tp_i (y := nI (pr (gR i) j0)) (by rw [ei]) ?_
          refine lv_if_eq (tgt := 55) hx hb dX1_clearElsewhere_23 (by decide) (fun c3 => ?_) (fun c3 => ?_)
          · skip
            have c3 : pr (gR i) j0 = 0 := (nI_eq (a := pr (gR i) j0) (b := 0) (by omega) (by omega)).mp c3
            refine lv_iinc (v := nI (i + 1)) (lv' := [(3, .int (nI (i + 1))), (0, .ref h0), (1, .int (nI (x))), (2, .int (nI (j0)))]) hx hb dX1_clearElsewhere_55 hl (k := 3) rfl (nI_1 _) (by decide) rfl (fun ls hl => ?_)
            refine lv_goto (tgt := 2) hx hb dX1_clearElsewhere_58 (by decide) ?_
            exact ih (i + 1) f (by omega) (keep (Or.inr c3)) h2 _ _ hP hD hS ls (lv_sub hl [1, 2, 3, 0] rfl)
          · skip
            have c3 : pr (gR i) j0 ≠ 0 := fun h => c3 ((nI_eq (a := pr (gR i) j0) (b := 0) (by omega) (by omega)).mpr h)
            refine lv_aload_n hx hb dX1_clearElsewhere_26 rfl (lv_at hl 0 rfl) ?_
            refine lv_aload_n hx hb dX1_clearElsewhere_27 rfl (lv_at hl 0 rfl) ?_
            refine va_get (D := (dC, dI)) (ci := 2) (v := .ref a1) (C := RX1) (T := TX1) (N := 7) hx hb hts hinX1 hown hK hP 0 rfl rfl 2 (by decide) hf20 (fun _ h9 => h9) rfl dX1_clearElsewhere_28 ?_
            refine lv_iload_n hx hb dX1_clearElsewhere_31 rfl (lv_at hl 3 rfl) ?_
            refine rg_ld (G := gR) hx hb hK hP 1 1 rfl rfl (by omega) (by omega) dX1_clearElsewhere_32 ?_
            refine lv_aload_n hx hb dX1_clearElsewhere_33 rfl (lv_at hl 0 rfl) ?_
            refine va_get (D := (dC, dI)) (ci := 2) (v := .ref a1) (C := RX1) (T := TX1) (N := 7) hx hb hts hinX1 hown hK hP 0 rfl rfl 2 (by decide) hf20 (fun _ h9 => h9) rfl dX1_clearElsewhere_34 ?_
            refine lv_iload_n hx hb dX1_clearElsewhere_37 rfl (lv_at hl 1 rfl) ?_
            refine rg_ld (G := gR) hx hb hK hP 1 1 rfl rfl (by omega) (by omega) dX1_clearElsewhere_38 ?_
            refine lv_aload_n hx hb dX1_clearElsewhere_39 rfl (lv_at hl 0 rfl) ?_
            refine va_get (D := (dC, dI)) (ci := 2) (v := .int (nI (q))) (C := RX1) (T := TX1) (N := 7) hx hb hts hinX1 hown hK hP 0 rfl rfl 1 (by decide) hf15 (fun _ h9 => h9) rfl dX1_clearElsewhere_40 ?_
            refine lv_aload_n hx hb dX1_clearElsewhere_43 rfl (lv_at hl 0 rfl) ?_
            refine va_get (D := (dC, dI)) (ci := 2) (v := .ref a1) (C := RX1) (T := TX1) (N := 7) hx hb hts hinX1 hown hK hP 0 rfl rfl 2 (by decide) hf20 (fun _ h9 => h9) rfl dX1_clearElsewhere_44 ?_
            refine lv_iload_n hx hb dX1_clearElsewhere_47 rfl (lv_at hl 3 rfl) ?_
            refine rg_ld (G := gR) hx hb hK hP 1 1 rfl rfl (by omega) (by omega) dX1_clearElsewhere_48 ?_
            refine lv_iload_n hx hb dX1_clearElsewhere_49 rfl (lv_at hl 2 rfl) ?_
            refine rp_ld hx hb hK hP 0 rfl (g1.1) (by omega) (by omega) dX1_clearElsewhere_50 ?_
            refine tp_i (y := nI (pr (gR i) j0)) (by rw [ei]) ?_
            refine lv_isub hx hb dX1_clearElsewhere_51 ?_
            refine tp_i (y := nI (q - (pr (gR i) j0))) (pk_sub (by omega)) ?_
            have hPc := hP.part (cx := [(h0, .inr (2, [.int (nI (n)), .int (nI (q)), .ref a1, .ref a2, .ref a3, .int (nI (bd)), .int (nI (fr))]))]) [0] rfl
            have hDc := hD.part (cx := [(h0, .inr (2, [.int (nI (n)), .int (nI (q)), .ref a1, .ref a2, .ref a3, .int (nI (bd)), .int (nI (fr))]))]) [0] (by decide) rfl
            have hFc := va_freeP (cx := [(h0, .inr (2, [.int (nI (n)), .int (nI (q)), .ref a1, .ref a2, .ref a3, .int (nI (bd)), .int (nI (fr))]))]) hD hS hA [0] rfl
            have hKc := hK.sub (tys' := [(cI, .int)]) [0] rfl
            refine va_callv (va_runV (As := [.ref (gR i), .ref (gR x), .int (nI (q - (pr (gR i) j0)))]) (rest := []) ⟨hx, hb, hml, hown, hts⟩ (c_X1_addMultiple l dC dI H.size h0 n q (gR i) (gR x) (q - pr (gR i) j0) (.ref a1) (.ref a2) (.ref a3) (.int (nI bd)) (.int (nI fr)) cI L pl f hn (by omega) hq2 (by omega) g1.1 gx.1 (fun h => c2 (hok.2.2.1 _ _ (by omega) hx0 h.symm)) g1.2 gx.2 (fun j hj => by rw [ei]; have := bx i (by omega) j hj; omega) (fun j hj => by rw [ex]; have := bx x hx0 j hj; omega)) (cwV 3 hts gX1_clearElsewhere_X1_addMultiple rfl rfl rfl (by decide +kernel) ⟨Nat.le_of_ble_eq_true rfl, Nat.le_of_ble_eq_true rfl⟩) ⟨fun a U g mk q => by obtain ⟨q0, q1, qP, qK, qD⟩ := q; exact ⟨q0, q1, qP, va_K.moved (u := U) (U := U.calling g mk a) (Vm.Alike.refl U.vm) qK, qD⟩, va_recv hKc hPc (ci := 2) (q0 := 0) rfl rfl, fun U hU hW => ⟨rfl, by rw [hU], by rw [hU]; exact hPc, va_K.moved hW.alike hKc, hDc.weaken (fun _ _ _ _ => trivial)⟩⟩ rfl rfl hl.1 rfl (lv_room (Nat.le_of_ble_eq_true rfl)) dX1_clearElsewhere_52 ⟨Nat.zero_le _, Nat.zero_le _⟩) hS (fun q _ h => hFc q h) hFc (fun u t H1 locs ht hvm hw hB hz1 hk1 hS => ?_)
            obtain ⟨hP1, hK1, hD1⟩ := hB
            rw [ht] at hP1
            try dsimp only at hw
            obtain ⟨hP, hD⟩ := va_joinP (wr := [(a1, .inl (cG, n, .inr (.inr (.inr (.inr (fun j => some (gR j))))))), (a2, .inl (cI, n, .inl (fun j => oI (ro j)))), (a3, .inl (cG, n, .inr (.inr (.inr (.inr (fun j => some (gQ j)))))))]) (rx := [(h0, .inr (2, [.int (nI (n)), .int (nI (q)), .ref a1, .ref a2, .ref a3, .int (nI (bd)), .int (nI (fr))]))]) (pl1 := va_pl L (pI cI pl (va_up f (gR i) (fun j => if j < n + 1 then (f (gR i) j + f (gR x) j * (q - pr (gR i) j0)) % q else f (gR i) j)))) hP hD [0] [1, 2, 3] rfl rfl (by decide) (by decide) hk1 hFc hP1 hD1
            generalize H1 = H at hP hS ⊢
            have hP := hP.part (cx := [(h0, .inr (2, [.int (nI (n)), .int (nI (q)), .ref a1, .ref a2, .ref a3, .int (nI (bd)), .int (nI (fr))])), (a1, .inl (cG, n, .inr (.inr (.inr (.inr (fun j => some (gR j))))))), (a2, .inl (cI, n, .inl (fun j => oI (ro j)))), (a3, .inl (cG, n, .inr (.inr (.inr (.inr (fun j => some (gQ j)))))))]) [3, 0, 1, 2] rfl
            have hD := hD.part (cx := [(h0, .inr (2, [.int (nI (n)), .int (nI (q)), .ref a1, .ref a2, .ref a3, .int (nI (bd)), .int (nI (fr))])), (a1, .inl (cG, n, .inr (.inr (.inr (.inr (fun j => some (gR j))))))), (a2, .inl (cI, n, .inl (fun j => oI (ro j)))), (a3, .inl (cG, n, .inr (.inr (.inr (.inr (fun j => some (gQ j)))))))]) [3, 0, 1, 2] (by decide) rfl
            have hP : va_P (dC, dI) vwCl (([(h0, .inr (2, [.int (nI (n)), .int (nI (q)), .ref a1, .ref a2, .ref a3, .int (nI (bd)), .int (nI (fr))])), (a1, .inl (cG, n, .inr (.inr (.inr (.inr (fun j => some (gR j))))))), (a2, .inl (cI, n, .inl (fun j => oI (ro j)))), (a3, .inl (cG, n, .inr (.inr (.inr (.inr (fun j => some (gQ j)))))))] : va_W) ++ va_pl L (pI cI pl (va_up f (gR i) (fun j => if j < n + 1 then (f (gR i) j + f (gR x) j * (q - pr (gR i) j0)) % q else f (gR i) j)))) H := hP
            have hD : va_D A (([(h0, .inr (2, [.int (nI (n)), .int (nI (q)), .ref a1, .ref a2, .ref a3, .int (nI (bd)), .int (nI (fr))])), (a1, .inl (cG, n, .inr (.inr (.inr (.inr (fun j => some (gR j))))))), (a2, .inl (cI, n, .inl (fun j => oI (ro j)))), (a3, .inl (cG, n, .inr (.inr (.inr (.inr (fun j => some (gQ j)))))))] : va_W) ++ va_pl L (pI cI pl (va_up f (gR i) (fun j => if j < n + 1 then (f (gR i) j + f (gR x) j * (q - pr (gR i) j0)) % q else f (gR i) j)))) := hD
            have e9 : va_up f (gR i) (fun j => if j < n + 1 then (f (gR i) j + f (gR x) j * (q - pr (gR i) j0)) % q else f (gR i) j) = va_up f (gR i) (adR n q (q - pr (gR i) j0) (pr (gR i)) (pr (gR x))) := by rw [ei, ex]
            rw [e9] at hP hD
            have hP : va_P (dC, dI) vwCl (([(h0, .inr (2, [.int (nI (n)), .int (nI (q)), .ref a1, .ref a2, .ref a3, .int (nI (bd)), .int (nI (fr))])), (a1, .inl (cG, n, .inr (.inr (.inr (.inr (fun j => some (gR j))))))), (a2, .inl (cI, n, .inl (fun j => oI (ro j)))), (a3, .inl (cG, n, .inr (.inr (.inr (.inr (fun j => some (gQ j)))))))] : va_W) ++ va_pl L (pI cI pl (va_up f (gR i) (adR n q (q - pr (gR i) j0) (pr (gR i)) (pr (gR x)))))) H := hP
            have hD : va_D A (([(h0, .inr (2, [.int (nI (n)), .int (nI (q)), .ref a1, .ref a2, .ref a3, .int (nI (bd)), .int (nI (fr))])), (a1, .inl (cG, n, .inr (.inr (.inr (.inr (fun j => some (gR j))))))), (a2, .inl (cI, n, .inl (fun j => oI (ro j)))), (a3, .inl (cG, n, .inr (.inr (.inr (.inr (fun j => some (gQ j)))))))] : va_W) ++ va_pl L (pI cI pl (va_up f (gR i) (adR n q (q - pr (gR i) j0) (pr (gR i)) (pr (gR x)))))) := hD
            refine lv_iinc (v := nI (i + 1)) (lv' := [(3, .int (nI (i + 1))), (0, .ref h0), (1, .int (nI (x))), (2, .int (nI (j0)))]) hx hb dX1_clearElsewhere_55 hl (k := 3) rfl (nI_1 _) (by decide) rfl (fun ls hl => ?_)
            refine lv_goto (tgt := 2) hx hb dX1_clearElsewhere_58 (by decide) ?_
            exact ih (i + 1) (va_up f (gR i) (adR n q (q - pr (gR i) j0) (pr (gR i)) (pr (gR x)))) (by omega) (fun a ha => by
                  by_cases e1 : a = i
                  · subst e1
                    rw [up_at, if_pos (by omega)]
                    unfold clr
                    rw [if_neg (fun h => h.elim c2 c3)]
                  · rw [up_of _ _ (fun h => e1 (hok.2.2.1 _ _ ha (by omega) h)), h1 a ha]
                    by_cases e2 : a < i
                    · rw [if_pos e2, if_pos (by omega)]
                    · rw [if_neg e2, if_neg (by omega)]) (fun y hy => by rw [up_of _ _ (hy i (by omega)), h2 y hy]) _ _ hP hD hS ls (lv_sub hl [1, 2, 3, 0] rfl)
  exact lp n 0 pr (by omega) (fun a _ => by simp) (fun _ _ => rfl) _ _ hP hD hS ls (lv_sub hl [1, 2, 3, 0] rfl)

set_option maxHeartbeats 4000000 in
set_option maxRecDepth 100000 in
theorem c_X1_readQuietPattern (l : Launch) (dC : Nat → ClassId) (dI : Nat → Nat → Nat) (sz : Nat) (h0 a1 a2 a3 n q bd fr : Nat) (gR gQ : Nat → Nat) (ro : Nat → Option Nat) (cG : ClassId) (cI : ClassId) (L : List Nat) (pl : Nat → Nat) (pr : Nat → Nat → Nat) (k0 f0 : Nat) (hn : n < 1000) (hok : eqOK n gR gQ L pl) (hk0 : k0 < n) (hf0 : f0 < n) (hq : 2 ≤ q) (hq2 : q < 100) (bx : ∀ i, i < n → ∀ j, j < n + 1 → pr (gR i) j < q) (hro : ∀ j, j < n → ∀ r, ro j = some r → r < n) : Met l yX1_readQuietPattern wsX1_readQuietPattern ({ frames := 0, cells := 0, slots := 0, locals := 0 }) (va_Pc [.ref h0, .ref (gQ k0), .int (nI (f0))] (fun U => U.heap.size = sz ∧ va_P (dC, dI) vwCl (([(h0, .inr (2, [.int (nI (n)), .int (nI (q)), .ref a1, .ref a2, .ref a3, .int (nI (bd)), .int (nI (fr))])), (a1, .inl (cG, n, .inr (.inr (.inr (.inr (fun j => some (gR j))))))), (a2, .inl (cI, n, .inl (fun j => oI (ro j)))), (a3, .inl (cG, n, .inr (.inr (.inr (.inr (fun j => some (gQ j)))))))] : va_W) ++ va_pl L (pI cI pl pr)) U.heap ∧ va_K (dC, dI) vwCl [(cI, .int), (cG, .array .int)] U ∧ va_D (fun _ => True) (([(h0, .inr (2, [.int (nI (n)), .int (nI (q)), .ref a1, .ref a2, .ref a3, .int (nI (bd)), .int (nI (fr))])), (a1, .inl (cG, n, .inr (.inr (.inr (.inr (fun j => some (gR j))))))), (a2, .inl (cI, n, .inl (fun j => oI (ro j)))), (a3, .inl (cG, n, .inr (.inr (.inr (.inr (fun j => some (gQ j)))))))] : va_W) ++ va_pl L (pI cI pl pr)))) (va_Qv (fun _ : Unit => True) (fun _ t => va_P (dC, dI) vwCl (([(h0, .inr (2, [.int (nI (n)), .int (nI (q)), .ref a1, .ref a2, .ref a3, .int (nI (bd)), .int (nI (fr))])), (a1, .inl (cG, n, .inr (.inr (.inr (.inr (fun j => some (gR j))))))), (a2, .inl (cI, n, .inl (fun j => oI (ro j)))), (a3, .inl (cG, n, .inr (.inr (.inr (.inr (fun j => some (gQ j)))))))] : va_W) ++ va_pl L (pI cI pl (va_up pr (gQ k0) (qpt n q (fun i => pr (gR i)) ro f0 (pr (gQ k0)))))) t.heap ∧ va_K (dC, dI) vwCl [(cI, .int), (cG, .array .int)] t ∧ va_D (va_A (([(h0, .inr (2, [.int (nI (n)), .int (nI (q)), .ref a1, .ref a2, .ref a3, .int (nI (bd)), .int (nI (fr))])), (a1, .inl (cG, n, .inr (.inr (.inr (.inr (fun j => some (gR j))))))), (a2, .inl (cI, n, .inl (fun j => oI (ro j)))), (a3, .inl (cG, n, .inr (.inr (.inr (.inr (fun j => some (gQ j)))))))] : va_W) ++ va_pl L (pI cI pl pr)) sz) (([(h0, .inr (2, [.int (nI (n)), .int (nI (q)), .ref a1, .ref a2, .ref a3, .int (nI (bd)), .int (nI (fr))])), (a1, .inl (cG, n, .inr (.inr (.inr (.inr (fun j => some (gR j))))))), (a2, .inl (cI, n, .inl (fun j => oI (ro j)))), (a3, .inl (cG, n, .inr (.inr (.inr (.inr (fun j => some (gQ j)))))))] : va_W) ++ va_pl L (pI cI pl (va_up pr (gQ k0) (qpt n q (fun i => pr (gR i)) ro f0 (pr (gQ k0))))))) (va_A (([(h0, .inr (2, [.int (nI (n)), .int (nI (q)), .ref a1, .ref a2, .ref a3, .int (nI (bd)), .int (nI (fr))])), (a1, .inl (cG, n, .inr (.inr (.inr (.inr (fun j => some (gR j))))))), (a2, .inl (cI, n, .inl (fun j => oI (ro j)))), (a3, .inl (cG, n, .inr (.inr (.inr (.inr (fun j => some (gQ j)))))))] : va_W) ++ va_pl L (pI cI pl pr)) sz)) 0 0 (va_A (([(h0, .inr (2, [.int (nI (n)), .int (nI (q)), .ref a1, .ref a2, .ref a3, .int (nI (bd)), .int (nI (fr))])), (a1, .inl (cG, n, .inr (.inr (.inr (.inr (fun j => some (gR j))))))), (a2, .inl (cI, n, .inl (fun j => oI (ro j)))), (a3, .inl (cG, n, .inr (.inr (.inr (.inr (fun j => some (gQ j)))))))] : va_W) ++ va_pl L (pI cI pl pr)) sz) := by
  refine Met.ofW (cc := cX1_readQuietPattern) (maxL := 5) (ret := none) (by decide) rfl ?_
  intro zp ze s m args below meth zc s₁ B hml hv
  obtain ⟨hargs, hsz, hP, hK, hD0⟩ := hv
  have hx := B.exec
  have hb := B.bytes
  have hr := B.returns
  have hts := atoms_spec (ws := wsX1_readQuietPattern) B.pre
  have hown : s.vm.findClass RX1 = some m.cls := findClass_of_methodNamed B.named
  have hlocks := B.notSynchronized
  subst hsz
  obtain ⟨Q, hQ⟩ : ∃ Q, Q = MQ below (va_Qv (fun _ : Unit => True) (fun _ t => va_P (dC, dI) vwCl (([(h0, .inr (2, [.int (nI (n)), .int (nI (q)), .ref a1, .ref a2, .ref a3, .int (nI (bd)), .int (nI (fr))])), (a1, .inl (cG, n, .inr (.inr (.inr (.inr (fun j => some (gR j))))))), (a2, .inl (cI, n, .inl (fun j => oI (ro j)))), (a3, .inl (cG, n, .inr (.inr (.inr (.inr (fun j => some (gQ j)))))))] : va_W) ++ va_pl L (pI cI pl (va_up pr (gQ k0) (qpt n q (fun i => pr (gR i)) ro f0 (pr (gQ k0)))))) t.heap ∧ va_K (dC, dI) vwCl [(cI, .int), (cG, .array .int)] t ∧ va_D (va_A (([(h0, .inr (2, [.int (nI (n)), .int (nI (q)), .ref a1, .ref a2, .ref a3, .int (nI (bd)), .int (nI (fr))])), (a1, .inl (cG, n, .inr (.inr (.inr (.inr (fun j => some (gR j))))))), (a2, .inl (cI, n, .inl (fun j => oI (ro j)))), (a3, .inl (cG, n, .inr (.inr (.inr (.inr (fun j => some (gQ j)))))))] : va_W) ++ va_pl L (pI cI pl pr)) s.heap.size) (([(h0, .inr (2, [.int (nI (n)), .int (nI (q)), .ref a1, .ref a2, .ref a3, .int (nI (bd)), .int (nI (fr))])), (a1, .inl (cG, n, .inr (.inr (.inr (.inr (fun j => some (gR j))))))), (a2, .inl (cI, n, .inl (fun j => oI (ro j)))), (a3, .inl (cG, n, .inr (.inr (.inr (.inr (fun j => some (gQ j)))))))] : va_W) ++ va_pl L (pI cI pl (va_up pr (gQ k0) (qpt n q (fun i => pr (gR i)) ro f0 (pr (gQ k0))))))) (va_A (([(h0, .inr (2, [.int (nI (n)), .int (nI (q)), .ref a1, .ref a2, .ref a3, .int (nI (bd)), .int (nI (fr))])), (a1, .inl (cG, n, .inr (.inr (.inr (.inr (fun j => some (gR j))))))), (a2, .inl (cI, n, .inl (fun j => oI (ro j)))), (a3, .inl (cG, n, .inr (.inr (.inr (.inr (fun j => some (gQ j)))))))] : va_W) ++ va_pl L (pI cI pl pr)) s.heap.size)) args s 0 0 (va_A (([(h0, .inr (2, [.int (nI (n)), .int (nI (q)), .ref a1, .ref a2, .ref a3, .int (nI (bd)), .int (nI (fr))])), (a1, .inl (cG, n, .inr (.inr (.inr (.inr (fun j => some (gR j))))))), (a2, .inl (cI, n, .inl (fun j => oI (ro j)))), (a3, .inl (cG, n, .inr (.inr (.inr (.inr (fun j => some (gQ j)))))))] : va_W) ++ va_pl L (pI cI pl pr)) s.heap.size) := ⟨_, rfl⟩
  rw [← hQ]
  have hD := hD0.self (sz := s.heap.size)
  generalize hAe : (va_A (([(h0, .inr (2, [.int (nI (n)), .int (nI (q)), .ref a1, .ref a2, .ref a3, .int (nI (bd)), .int (nI (fr))])), (a1, .inl (cG, n, .inr (.inr (.inr (.inr (fun j => some (gR j))))))), (a2, .inl (cI, n, .inl (fun j => oI (ro j)))), (a3, .inl (cG, n, .inr (.inr (.inr (.inr (fun j => some (gQ j)))))))] : va_W) ++ va_pl L (pI cI pl pr)) s.heap.size) = A at hD hQ
  have hA : ∀ q : Nat, s.heap.size ≤ q → A q := fun q h => by rw [← hAe]; exact Or.inr h
  have hS : va_S A s.heap s.heap [] := va_S.rf
  have hl := lv_entry ([.ref h0, .ref (gQ k0), .int (nI (f0))]) (n := 5) (Nat.le_of_ble_eq_true rfl)
  generalize hen : entryFrame m args 5 = fr
  rw [hargs, lg_entry_eq] at hen
  subst hen
  generalize (lg_sl ([.ref h0, .ref (gQ k0), .int (nI (f0))]) ++ List.replicate (5 - (lg_sl ([.ref h0, .ref (gQ k0), .int (nI (f0))])).length) Slot.unset).toArray = ls at hl ⊢
  have hl : lv_has ls 5 [(0, .ref h0), (1, .ref (gQ k0)), (2, .int (nI (f0)))] := hl
  have hinX1 : ∀ w ∈ wsX10, w ∈ wsX1_readQuietPattern := by decide +kernel
  have hf9 := hts (.fieldLink RX1 9 "LightRows$Equations" "size" "I") (by decide +kernel)
  have hf15 := hts (.fieldLink RX1 15 "LightRows$Equations" "modulus" "I") (by decide +kernel)
  have hf20 := hts (.fieldLink RX1 20 "LightRows$Equations" "rows" "[[I") (by decide +kernel)
  have hf23 := hts (.fieldLink RX1 23 "LightRows$Equations" "rowOf" "[I") (by decide +kernel)
  have gk := hok.2.1 k0 hk0
  have gap : ∀ i, i < n → gR i ≠ gQ k0 := fun i hi => hok.apart hi hk0
  refine lv_iconst (v := nI 0) hx hb dX1_readQuietPattern_0 (by decide) ?_
  refine lv_istore_n (lv' := [(3, .int (nI (0))), (0, .ref h0), (1, .ref (gQ k0)), (2, .int (nI (f0)))]) hx hb dX1_readQuietPattern_1 rfl hl (by decide) rfl (fun ls hl => ?_)
  have lp : ∀ (k : Nat) (i : Nat) (F : Nat → Nat), (i + k = n) → (∀ j, F j = if j < i then (fun j => match ro j with | none => 0 | some r => (q - pr (gR r) f0) % q) j else pr (gQ k0) j) → ∀ (H : Heap) (locs : List Loc), va_P (dC, dI) vwCl (([(h0, .inr (2, [.int (nI (n)), .int (nI (q)), .ref a1, .ref a2, .ref a3, .int (nI (bd)), .int (nI (fr))])), (a1, .inl (cG, n, .inr (.inr (.inr (.inr (fun j => some (gR j))))))), (a2, .inl (cI, n, .inl (fun j => oI (ro j)))), (a3, .inl (cG, n, .inr (.inr (.inr (.inr (fun j => some (gQ j)))))))] : va_W) ++ va_pl L (pI cI pl (va_up pr (gQ k0) F))) H → va_D A (([(h0, .inr (2, [.int (nI (n)), .int (nI (q)), .ref a1, .ref a2, .ref a3, .int (nI (bd)), .int (nI (fr))])), (a1, .inl (cG, n, .inr (.inr (.inr (.inr (fun j => some (gR j))))))), (a2, .inl (cI, n, .inl (fun j => oI (ro j)))), (a3, .inl (cG, n, .inr (.inr (.inr (.inr (fun j => some (gQ j)))))))] : va_W) ++ va_pl L (pI cI pl (va_up pr (gQ k0) F))) → va_S A s.heap H locs → ∀ (ls : Array Slot), lv_has ls 5 [(0, .ref h0), (1, .ref (gQ k0)), (2, .int (nI (f0))), (3, .int (nI (i)))] → W zp l ze (headSpec wsX1_readQuietPattern ({ frames := 0, cells := 0, slots := 0, locals := 0 })).room s m args below meth zc H locs 0 0 Q (F0 m 2 ls []) := by
    intro k
    induction k with
    | zero =>
      intro i F hi hF H locs hP hD hS ls hl
      refine lv_iload_n hx hb dX1_readQuietPattern_2 rfl (lv_at hl 3 rfl) ?_
      refine lv_aload_n hx hb dX1_readQuietPattern_3 rfl (lv_at hl 0 rfl) ?_
      refine va_get (D := (dC, dI)) (ci := 2) (v := .int (nI (n))) (C := RX1) (T := TX1) (N := 7) hx hb hts hinX1 hown hK hP 0 rfl rfl 0 (by decide) hf9 (fun _ h9 => h9) rfl dX1_readQuietPattern_4 ?_
      refine lv_icmp_ge (tgt := 56) hx hb dX1_readQuietPattern_7 (by decide) (fun c => ?_) (fun c => ?_)
      · skip
        have c : n ≤ i := (nI_leI (a := n) (b := i) (by omega) (by omega)).mp c
        obtain rfl : n = i := by omega
        refine lv_aload_n hx hb dX1_readQuietPattern_56 rfl (lv_at hl 1 rfl) ?_
        refine lv_iload_n hx hb dX1_readQuietPattern_57 rfl (lv_at hl 2 rfl) ?_
        refine lv_iconst (v := nI 1) hx hb dX1_readQuietPattern_58 (by decide) ?_
        refine rp_st (v := 1) hx hb hK hP hD hS 0 rfl (gk.1) (by omega) (by omega) dX1_readQuietPattern_59 (fun H locs hP hD hS => ?_)
        have hP : va_P (dC, dI) vwCl (([(h0, .inr (2, [.int (nI (n)), .int (nI (q)), .ref a1, .ref a2, .ref a3, .int (nI (bd)), .int (nI (fr))])), (a1, .inl (cG, n, .inr (.inr (.inr (.inr (fun j => some (gR j))))))), (a2, .inl (cI, n, .inl (fun j => oI (ro j)))), (a3, .inl (cG, n, .inr (.inr (.inr (.inr (fun j => some (gQ j)))))))] : va_W) ++ va_pl L (pI cI pl (va_up (va_up pr (gQ k0) F) (gQ k0) (va_up ((va_up pr (gQ k0) F) (gQ k0)) f0 (1))))) H := hP
        have hD : va_D A (([(h0, .inr (2, [.int (nI (n)), .int (nI (q)), .ref a1, .ref a2, .ref a3, .int (nI (bd)), .int (nI (fr))])), (a1, .inl (cG, n, .inr (.inr (.inr (.inr (fun j => some (gR j))))))), (a2, .inl (cI, n, .inl (fun j => oI (ro j)))), (a3, .inl (cG, n, .inr (.inr (.inr (.inr (fun j => some (gQ j)))))))] : va_W) ++ va_pl L (pI cI pl (va_up (va_up pr (gQ k0) F) (gQ k0) (va_up ((va_up pr (gQ k0) F) (gQ k0)) f0 (1))))) := hD
        have e9 : va_up (va_up pr (gQ k0) F) (gQ k0) (va_up ((va_up pr (gQ k0) F) (gQ k0)) f0 (1)) = va_up pr (gQ k0) (qpt n q (fun i => pr (gR i)) ro f0 (pr (gQ k0))) := by rw [up_at, up_up, (funext hF : F = _)]; rfl
        rw [e9] at hP hD
        have hP : va_P (dC, dI) vwCl (([(h0, .inr (2, [.int (nI (n)), .int (nI (q)), .ref a1, .ref a2, .ref a3, .int (nI (bd)), .int (nI (fr))])), (a1, .inl (cG, n, .inr (.inr (.inr (.inr (fun j => some (gR j))))))), (a2, .inl (cI, n, .inl (fun j => oI (ro j)))), (a3, .inl (cG, n, .inr (.inr (.inr (.inr (fun j => some (gQ j)))))))] : va_W) ++ va_pl L (pI cI pl (va_up pr (gQ k0) (qpt n q (fun i => pr (gR i)) ro f0 (pr (gQ k0)))))) H := hP
        have hD : va_D A (([(h0, .inr (2, [.int (nI (n)), .int (nI (q)), .ref a1, .ref a2, .ref a3, .int (nI (bd)), .int (nI (fr))])), (a1, .inl (cG, n, .inr (.inr (.inr (.inr (fun j => some (gR j))))))), (a2, .inl (cI, n, .inl (fun j => oI (ro j)))), (a3, .inl (cG, n, .inr (.inr (.inr (.inr (fun j => some (gQ j)))))))] : va_W) ++ va_pl L (pI cI pl (va_up pr (gQ k0) (qpt n q (fun i => pr (gR i)) ro f0 (pr (gQ k0)))))) := hD
        rw [hQ]
        exact W.vret hx hb hr (fun t ht hW => ⟨⟨(), rfl, trivial, by rw [ht]; exact hP, va_K.moved hW.alike hK, hD⟩, hS.F ht⟩) hS.2.2 dX1_readQuietPattern_60
      · skip
        have c : i < n := Nat.not_le.mp (fun h => c ((nI_leI (a := n) (b := i) (by omega) (by omega)).mpr h))
        exact absurd c (by omega)
    | succ k ih =>
      intro i F hi hF H locs hP hD hS ls hl
      refine lv_iload_n hx hb dX1_readQuietPattern_2 rfl (lv_at hl 3 rfl) ?_
      refine lv_aload_n hx hb dX1_readQuietPattern_3 rfl (lv_at hl 0 rfl) ?_
      refine va_get (D := (dC, dI)) (ci := 2) (v := .int (nI (n))) (C := RX1) (T := TX1) (N := 7) hx hb hts hinX1 hown hK hP 0 rfl rfl 0 (by decide) hf9 (fun _ h9 => h9) rfl dX1_readQuietPattern_4 ?_
      refine lv_icmp_ge (tgt := 56) hx hb dX1_readQuietPattern_7 (by decide) (fun c => ?_) (fun c => ?_)
      · skip
        have c : n ≤ i := (nI_leI (a := n) (b := i) (by omega) (by omega)).mp c
        exact absurd c (by omega)
      · skip
        have c : i < n := Nat.not_le.mp (fun h => c ((nI_leI (a := n) (b := i) (by omega) (by omega)).mpr h))
        refine lv_aload_n hx hb dX1_readQuietPattern_10 rfl (lv_at hl 0 rfl) ?_
        refine va_get (D := (dC, dI)) (ci := 2) (v := .ref a2) (C := RX1) (T := TX1) (N := 7) hx hb hts hinX1 hown hK hP 0 rfl rfl 3 (by decide) hf23 (fun _ h9 => h9) rfl dX1_readQuietPattern_11 ?_
        refine lv_iload_n hx hb dX1_readQuietPattern_14 rfl (lv_at hl 3 rfl) ?_
        refine ra_ld (g := oI) (F := ro) hx hb hK hP 2 0 rfl rfl (by omega) (by omega) dX1_readQuietPattern_15 ?_
        rcases ho : ro i with _ | r
        · skip
          refine tp_i (y := (-1)) rfl ?_
          refine lv_istore (lv' := [(4, .int ((-1))), (0, .ref h0), (1, .ref (gQ k0)), (2, .int (nI (f0))), (3, .int (nI (i)))]) hx hb dX1_readQuietPattern_16 hl (by decide) rfl (fun ls hl => ?_)
          refine lv_aload_n hx hb dX1_readQuietPattern_18 rfl (lv_at hl 2 rfl) ?_
          refine lv_iload_n hx hb dX1_readQuietPattern_19 rfl (lv_at hl 4 rfl) ?_
          refine lv_iload hx hb dX1_readQuietPattern_20 (lv_at hl 0 rfl) ?_
          refine lv_iconst (v := (-1)) hx hb dX1_readQuietPattern_22 (by decide) ?_
          refine lv_icmp_ne (tgt := 30) hx hb dX1_readQuietPattern_23 (by decide) (fun c2 => ?_) (fun c2 => ?_)
          · skip
            exact absurd rfl c2
          · skip
            refine lv_iconst (v := nI 0) hx hb dX1_readQuietPattern_26 (by decide) ?_
            refine lv_goto (tgt := 49) hx hb dX1_readQuietPattern_27 (by decide) ?_
            refine rp_st (v := 0) hx hb hK hP hD hS 0 rfl (gk.1) (by omega) (by omega) dX1_readQuietPattern_49 (fun H locs hP hD hS => ?_)
            have hP : va_P (dC, dI) vwCl (([(h0, .inr (2, [.int (nI (n)), .int (nI (q)), .ref a1, .ref a2, .ref a3, .int (nI (bd)), .int (nI (fr))])), (a1, .inl (cG, n, .inr (.inr (.inr (.inr (fun j => some (gR j))))))), (a2, .inl (cI, n, .inl (fun j => oI (ro j)))), (a3, .inl (cG, n, .inr (.inr (.inr (.inr (fun j => some (gQ j)))))))] : va_W) ++ va_pl L (pI cI pl (va_up (va_up pr (gQ k0) F) (gQ k0) (va_up ((va_up pr (gQ k0) F) (gQ k0)) i (0))))) H := hP
            have hD : va_D A (([(h0, .inr (2, [.int (nI (n)), .int (nI (q)), .ref a1, .ref a2, .ref a3, .int (nI (bd)), .int (nI (fr))])), (a1, .inl (cG, n, .inr (.inr (.inr (.inr (fun j => some (gR j))))))), (a2, .inl (cI, n, .inl (fun j => oI (ro j)))), (a3, .inl (cG, n, .inr (.inr (.inr (.inr (fun j => some (gQ j)))))))] : va_W) ++ va_pl L (pI cI pl (va_up (va_up pr (gQ k0) F) (gQ k0) (va_up ((va_up pr (gQ k0) F) (gQ k0)) i (0))))) := hD
            have e9 : va_up (va_up pr (gQ k0) F) (gQ k0) (va_up ((va_up pr (gQ k0) F) (gQ k0)) i (0)) = va_up pr (gQ k0) (va_up F i 0) := by rw [up_at, up_up]
            rw [e9] at hP hD
            have hP : va_P (dC, dI) vwCl (([(h0, .inr (2, [.int (nI (n)), .int (nI (q)), .ref a1, .ref a2, .ref a3, .int (nI (bd)), .int (nI (fr))])), (a1, .inl (cG, n, .inr (.inr (.inr (.inr (fun j => some (gR j))))))), (a2, .inl (cI, n, .inl (fun j => oI (ro j)))), (a3, .inl (cG, n, .inr (.inr (.inr (.inr (fun j => some (gQ j)))))))] : va_W) ++ va_pl L (pI cI pl (va_up pr (gQ k0) (va_up F i 0)))) H := hP
            have hD : va_D A (([(h0, .inr (2, [.int (nI (n)), .int (nI (q)), .ref a1, .ref a2, .ref a3, .int (nI (bd)), .int (nI (fr))])), (a1, .inl (cG, n, .inr (.inr (.inr (.inr (fun j => some (gR j))))))), (a2, .inl (cI, n, .inl (fun j => oI (ro j)))), (a3, .inl (cG, n, .inr (.inr (.inr (.inr (fun j => some (gQ j)))))))] : va_W) ++ va_pl L (pI cI pl (va_up pr (gQ k0) (va_up F i 0)))) := hD
            refine lv_iinc (v := nI (i + 1)) (lv' := [(3, .int (nI (i + 1))), (4, .int ((-1))), (0, .ref h0), (1, .ref (gQ k0)), (2, .int (nI (f0)))]) hx hb dX1_readQuietPattern_50 hl (k := 4) rfl (nI_1 _) (by decide) rfl (fun ls hl => ?_)
            refine lv_goto (tgt := 2) hx hb dX1_readQuietPattern_53 (by decide) ?_
            exact ih (i + 1) (va_up F i 0) (by omega) (lp_step hF (by simp only [ho])) _ _ hP hD hS ls (lv_sub hl [2, 3, 4, 0] rfl)
        · skip
          refine tp_i (y := nI r) rfl ?_
          have hr1 := hro i (by omega) r ho
          have g1 := hok.1 r hr1
          have b1 := bx r hr1 f0 (by omega)
          refine lv_istore (lv' := [(4, .int (nI (r))), (0, .ref h0), (1, .ref (gQ k0)), (2, .int (nI (f0))), (3, .int (nI (i)))]) hx hb dX1_readQuietPattern_16 hl (by decide) rfl (fun ls hl => ?_)
          refine lv_aload_n hx hb dX1_readQuietPattern_18 rfl (lv_at hl 2 rfl) ?_
          refine lv_iload_n hx hb dX1_readQuietPattern_19 rfl (lv_at hl 4 rfl) ?_
          refine lv_iload hx hb dX1_readQuietPattern_20 (lv_at hl 0 rfl) ?_
          refine lv_iconst (v := (-1)) hx hb dX1_readQuietPattern_22 (by decide) ?_
          refine lv_icmp_ne (tgt := 30) hx hb dX1_readQuietPattern_23 (by decide) (fun c2 => ?_) (fun c2 => ?_)
          · skip
            refine lv_aload_n hx hb dX1_readQuietPattern_30 rfl (lv_at hl 1 rfl) ?_
            refine va_get (D := (dC, dI)) (ci := 2) (v := .int (nI (q))) (C := RX1) (T := TX1) (N := 7) hx hb hts hinX1 hown hK hP 0 rfl rfl 1 (by decide) hf15 (fun _ h9 => h9) rfl dX1_readQuietPattern_31 ?_
            refine lv_aload_n hx hb dX1_readQuietPattern_34 rfl (lv_at hl 1 rfl) ?_
            refine va_get (D := (dC, dI)) (ci := 2) (v := .ref a1) (C := RX1) (T := TX1) (N := 7) hx hb hts hinX1 hown hK hP 0 rfl rfl 2 (by decide) hf20 (fun _ h9 => h9) rfl dX1_readQuietPattern_35 ?_
            refine lv_iload hx hb dX1_readQuietPattern_38 (lv_at hl 0 rfl) ?_
            refine rg_ld (G := gR) hx hb hK hP 1 1 rfl rfl (by omega) (by omega) dX1_readQuietPattern_40 ?_
            refine lv_iload_n hx hb dX1_readQuietPattern_41 rfl (lv_at hl 3 rfl) ?_
            refine rp_ld hx hb hK hP 0 rfl (g1.1) (by omega) (by omega) dX1_readQuietPattern_42 ?_
            refine tp_i (y := nI (pr (gR r) f0)) (by rw [up_of _ _ (gap r hr1)]) ?_
            refine lv_isub hx hb dX1_readQuietPattern_43 ?_
            refine tp_i (y := nI (q - (pr (gR r) f0))) (pk_sub (by omega)) ?_
            refine lv_aload_n hx hb dX1_readQuietPattern_44 rfl (lv_at hl 1 rfl) ?_
            refine va_get (D := (dC, dI)) (ci := 2) (v := .int (nI (q))) (C := RX1) (T := TX1) (N := 7) hx hb hts hinX1 hown hK hP 0 rfl rfl 1 (by decide) hf15 (fun _ h9 => h9) rfl dX1_readQuietPattern_45 ?_
            refine lv_irem hx hb dX1_readQuietPattern_48 (nI_ne0 (by omega) (by omega)) ?_
            refine tp_i (y := nI ((q - (pr (gR r) f0)) % q)) (pk_rem (by omega) (by omega) (by omega)) ?_
            refine rp_st (v := (q - (pr (gR r) f0)) % q) hx hb hK hP hD hS 0 rfl (gk.1) (by omega) (by omega) dX1_readQuietPattern_49 (fun H locs hP hD hS => ?_)
            have hP : va_P (dC, dI) vwCl (([(h0, .inr (2, [.int (nI (n)), .int (nI (q)), .ref a1, .ref a2, .ref a3, .int (nI (bd)), .int (nI (fr))])), (a1, .inl (cG, n, .inr (.inr (.inr (.inr (fun j => some (gR j))))))), (a2, .inl (cI, n, .inl (fun j => oI (ro j)))), (a3, .inl (cG, n, .inr (.inr (.inr (.inr (fun j => some (gQ j)))))))] : va_W) ++ va_pl L (pI cI pl (va_up (va_up pr (gQ k0) F) (gQ k0) (va_up ((va_up pr (gQ k0) F) (gQ k0)) i ((q - (pr (gR r) f0)) % q))))) H := hP
            have hD : va_D A (([(h0, .inr (2, [.int (nI (n)), .int (nI (q)), .ref a1, .ref a2, .ref a3, .int (nI (bd)), .int (nI (fr))])), (a1, .inl (cG, n, .inr (.inr (.inr (.inr (fun j => some (gR j))))))), (a2, .inl (cI, n, .inl (fun j => oI (ro j)))), (a3, .inl (cG, n, .inr (.inr (.inr (.inr (fun j => some (gQ j)))))))] : va_W) ++ va_pl L (pI cI pl (va_up (va_up pr (gQ k0) F) (gQ k0) (va_up ((va_up pr (gQ k0) F) (gQ k0)) i ((q - (pr (gR r) f0)) % q))))) := hD
            have e9 : va_up (va_up pr (gQ k0) F) (gQ k0) (va_up ((va_up pr (gQ k0) F) (gQ k0)) i ((q - (pr (gR r) f0)) % q)) = va_up pr (gQ k0) (va_up F i ((q - pr (gR r) f0) % q)) := by rw [up_at, up_up]
            rw [e9] at hP hD
            have hP : va_P (dC, dI) vwCl (([(h0, .inr (2, [.int (nI (n)), .int (nI (q)), .ref a1, .ref a2, .ref a3, .int (nI (bd)), .int (nI (fr))])), (a1, .inl (cG, n, .inr (.inr (.inr (.inr (fun j => some (gR j))))))), (a2, .inl (cI, n, .inl (fun j => oI (ro j)))), (a3, .inl (cG, n, .inr (.inr (.inr (.inr (fun j => some (gQ j)))))))] : va_W) ++ va_pl L (pI cI pl (va_up pr (gQ k0) (va_up F i ((q - pr (gR r) f0) % q))))) H := hP
            have hD : va_D A (([(h0, .inr (2, [.int (nI (n)), .int (nI (q)), .ref a1, .ref a2, .ref a3, .int (nI (bd)), .int (nI (fr))])), (a1, .inl (cG, n, .inr (.inr (.inr (.inr (fun j => some (gR j))))))), (a2, .inl (cI, n, .inl (fun j => oI (ro j)))), (a3, .inl (cG, n, .inr (.inr (.inr (.inr (fun j => some (gQ j)))))))] : va_W) ++ va_pl L (pI cI pl (va_up pr (gQ k0) (va_up F i ((q - pr (gR r) f0) % q))))) := hD
            refine lv_iinc (v := nI (i + 1)) (lv' := [(3, .int (nI (i + 1))), (4, .int (nI (r))), (0, .ref h0), (1, .ref (gQ k0)), (2, .int (nI (f0)))]) hx hb dX1_readQuietPattern_50 hl (k := 4) rfl (nI_1 _) (by decide) rfl (fun ls hl => ?_)
            refine lv_goto (tgt := 2) hx hb dX1_readQuietPattern_53 (by decide) ?_
            exact ih (i + 1) (va_up F i ((q - pr (gR r) f0) % q)) (by omega) (lp_step hF (by simp only [ho])) _ _ hP hD hS ls (lv_sub hl [2, 3, 4, 0] rfl)
          · skip
            exact absurd c2 (nI_nm1 (by omega))
  have hP : va_P (dC, dI) vwCl (([(h0, .inr (2, [.int (nI (n)), .int (nI (q)), .ref a1, .ref a2, .ref a3, .int (nI (bd)), .int (nI (fr))])), (a1, .inl (cG, n, .inr (.inr (.inr (.inr (fun j => some (gR j))))))), (a2, .inl (cI, n, .inl (fun j => oI (ro j)))), (a3, .inl (cG, n, .inr (.inr (.inr (.inr (fun j => some (gQ j)))))))] : va_W) ++ va_pl L (pI cI pl (va_up pr (gQ k0) (pr (gQ k0))))) s.heap := by rw [up_id]; exact hP
  have hD : va_D A (([(h0, .inr (2, [.int (nI (n)), .int (nI (q)), .ref a1, .ref a2, .ref a3, .int (nI (bd)), .int (nI (fr))])), (a1, .inl (cG, n, .inr (.inr (.inr (.inr (fun j => some (gR j))))))), (a2, .inl (cI, n, .inl (fun j => oI (ro j)))), (a3, .inl (cG, n, .inr (.inr (.inr (.inr (fun j => some (gQ j)))))))] : va_W) ++ va_pl L (pI cI pl (va_up pr (gQ k0) (pr (gQ k0))))) := by rw [up_id]; exact hD
  exact lp n 0 (pr (gQ k0)) (by omega) (lp_zero _ _) _ _ hP hD hS ls (lv_sub hl [1, 2, 3, 0] rfl)

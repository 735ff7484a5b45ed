set_option maxHeartbeats 4000000 in
set_option maxRecDepth 100000 in
theorem c_L_join (l : Launch) (dC : Nat → ClassId) (dI : Nat → Nat → Nat) (hfl : l.flags = pinnedFlags ++ [noTraceFlag]) (s0 : State) (A0 : Array Value) (str : Nat) (sz : Nat) (o0 b1 n q : Nat) (x y : Int32) (tm : Nat → Nat) (wk sd : Bool) (cI : ClassId) (v2 v3 v5 v6 v7 : Value) (ou : Nat) (oo : Nat → Int64) (cL : ClassId) (hn : n < 1000) (hn1 : n < 31) (ht0 : ∀ j, j < n → tm j < 2 ^ 31) : Met l yL_join wsL_join ({ frames := 9, cells := 2, slots := 12, locals := 138 }) (va_Pc [.ref o0, .int (x), .int (y), .ref ou] (fun U => U.heap.size = sz ∧ va_P (dC, dI) vwCl [(o0, .inr (4, [.int (nI (n)), .int (nI (q)), v2, v3, .ref b1, v5, v6, v7, .int (bI wk), .int (bI sd)])), (b1, .inl (cI, n, .inl (fun j => nI (tm j)))), (ou, .inl (cL, 1, .inr (.inl oo)))] U.heap ∧ va_K (dC, dI) vwCl [(cI, .int), (cL, .long)] U ∧ va_D (fun _ => True) [(o0, .inr (4, [.int (nI (n)), .int (nI (q)), v2, v3, .ref b1, v5, v6, v7, .int (bI wk), .int (bI sd)])), (b1, .inl (cI, n, .inl (fun j => nI (tm j)))), (ou, .inl (cL, 1, .inr (.inl oo)))] ∧ tt_B s0 A0 str U ∧ (Cond.classLink RL 13 ttX).before #[] U = true)) (va_Qi (fun (z : Int32) (u : ((Nat → Nat) × Bool × Bool) × (Nat → Int64)) => ((((∃ j : Nat, j < n ∧ x = nI j) ∧ (∃ j : Nat, j < n ∧ y = nI j)) ∧ z = nI 0 ∧ ∃ r : Int32, (∃ a b : Nat, a < n ∧ b < n ∧ x = nI a ∧ y = nI b ∧ ((r = nI 1 ∧ a ≠ b ∧ tm a / 2 ^ b % 2 = 0 ∧ (∀ c, u.1.1 c = if c = b then tm b ||| 2 ^ a else if c = a then tm a ||| 2 ^ b else tm c) ∧ u.1.2 = (false, false)) ∨ (r = nI 0 ∧ (a = b ∨ tm a / 2 ^ b % 2 = 1) ∧ u.1 = (tm, wk, sd)))) ∧ u.2 0 = lbv r) ∨ (¬ ((∃ j : Nat, j < n ∧ x = nI j) ∧ (∃ j : Nat, j < n ∧ y = nI j)) ∧ z = nI 1 ∧ u = ((tm, wk, sd), oo)))) (fun u t => va_P (dC, dI) vwCl [(o0, .inr (4, [.int (nI (n)), .int (nI (q)), v2, v3, .ref b1, v5, v6, v7, .int (bI u.1.2.1), .int (bI u.1.2.2)])), (b1, .inl (cI, n, .inl (fun j => nI (u.1.1 j)))), (ou, .inl (cL, 1, .inr (.inl u.2)))] t.heap ∧ va_K (dC, dI) vwCl [(cI, .int), (cL, .long)] t ∧ va_D (va_A [(o0, .inr (4, [.int (nI (n)), .int (nI (q)), v2, v3, .ref b1, v5, v6, v7, .int (bI wk), .int (bI sd)])), (b1, .inl (cI, n, .inl (fun j => nI (tm j)))), (ou, .inl (cL, 1, .inr (.inl oo)))] sz) [(o0, .inr (4, [.int (nI (n)), .int (nI (q)), v2, v3, .ref b1, v5, v6, v7, .int (bI u.1.2.1), .int (bI u.1.2.2)])), (b1, .inl (cI, n, .inl (fun j => nI (u.1.1 j)))), (ou, .inl (cL, 1, .inr (.inl u.2)))]) (va_A [(o0, .inr (4, [.int (nI (n)), .int (nI (q)), v2, v3, .ref b1, v5, v6, v7, .int (bI wk), .int (bI sd)])), (b1, .inl (cI, n, .inl (fun j => nI (tm j)))), (ou, .inl (cL, 1, .inr (.inl oo)))] sz)) 2 12 (va_A [(o0, .inr (4, [.int (nI (n)), .int (nI (q)), v2, v3, .ref b1, v5, v6, v7, .int (bI wk), .int (bI sd)])), (b1, .inl (cI, n, .inl (fun j => nI (tm j)))), (ou, .inl (cL, 1, .inr (.inl oo)))] sz) := by
  refine va_MetW (hh := [(0, 17, 20, 13)]) (cc := cL_join) (maxL := 5) (ret := (some .int)) (by decide) rfl ?_
  intro zp ze s m args below meth zc s₁ B hml hv
  obtain ⟨hargs, hsz, hP, hK, hD0, hB, hCL⟩ := hv
  have hx := B.exec
  have hb := B.bytes
  have hr := B.returns
  have hts := atoms_spec (ws := wsL_join) B.pre
  have hown : s.vm.findClass RL = some m.cls := findClass_of_methodNamed B.named
  have hlocks := B.notSynchronized
  obtain ⟨xt, htab, ex1, ex2, ex3, ex4⟩ := lh_tab B (hts _ List.mem_cons_self)
  subst hsz
  obtain ⟨Q, hQ⟩ : ∃ Q, Q = MQ below (va_Qi (fun (z : Int32) (u : ((Nat → Nat) × Bool × Bool) × (Nat → Int64)) => ((((∃ j : Nat, j < n ∧ x = nI j) ∧ (∃ j : Nat, j < n ∧ y = nI j)) ∧ z = nI 0 ∧ ∃ r : Int32, (∃ a b : Nat, a < n ∧ b < n ∧ x = nI a ∧ y = nI b ∧ ((r = nI 1 ∧ a ≠ b ∧ tm a / 2 ^ b % 2 = 0 ∧ (∀ c, u.1.1 c = if c = b then tm b ||| 2 ^ a else if c = a then tm a ||| 2 ^ b else tm c) ∧ u.1.2 = (false, false)) ∨ (r = nI 0 ∧ (a = b ∨ tm a / 2 ^ b % 2 = 1) ∧ u.1 = (tm, wk, sd)))) ∧ u.2 0 = lbv r) ∨ (¬ ((∃ j : Nat, j < n ∧ x = nI j) ∧ (∃ j : Nat, j < n ∧ y = nI j)) ∧ z = nI 1 ∧ u = ((tm, wk, sd), oo)))) (fun u t => va_P (dC, dI) vwCl [(o0, .inr (4, [.int (nI (n)), .int (nI (q)), v2, v3, .ref b1, v5, v6, v7, .int (bI u.1.2.1), .int (bI u.1.2.2)])), (b1, .inl (cI, n, .inl (fun j => nI (u.1.1 j)))), (ou, .inl (cL, 1, .inr (.inl u.2)))] t.heap ∧ va_K (dC, dI) vwCl [(cI, .int), (cL, .long)] t ∧ va_D (va_A [(o0, .inr (4, [.int (nI (n)), .int (nI (q)), v2, v3, .ref b1, v5, v6, v7, .int (bI wk), .int (bI sd)])), (b1, .inl (cI, n, .inl (fun j => nI (tm j)))), (ou, .inl (cL, 1, .inr (.inl oo)))] s.heap.size) [(o0, .inr (4, [.int (nI (n)), .int (nI (q)), v2, v3, .ref b1, v5, v6, v7, .int (bI u.1.2.1), .int (bI u.1.2.2)])), (b1, .inl (cI, n, .inl (fun j => nI (u.1.1 j)))), (ou, .inl (cL, 1, .inr (.inl u.2)))]) (va_A [(o0, .inr (4, [.int (nI (n)), .int (nI (q)), v2, v3, .ref b1, v5, v6, v7, .int (bI wk), .int (bI sd)])), (b1, .inl (cI, n, .inl (fun j => nI (tm j)))), (ou, .inl (cL, 1, .inr (.inl oo)))] s.heap.size)) args s 2 12 (va_A [(o0, .inr (4, [.int (nI (n)), .int (nI (q)), v2, v3, .ref b1, v5, v6, v7, .int (bI wk), .int (bI sd)])), (b1, .inl (cI, n, .inl (fun j => nI (tm j)))), (ou, .inl (cL, 1, .inr (.inl oo)))] s.heap.size) := ⟨_, rfl⟩
  rw [← hQ]
  have hD := hD0.self (sz := s.heap.size)
  generalize hAe : (va_A [(o0, .inr (4, [.int (nI (n)), .int (nI (q)), v2, v3, .ref b1, v5, v6, v7, .int (bI wk), .int (bI sd)])), (b1, .inl (cI, n, .inl (fun j => nI (tm j)))), (ou, .inl (cL, 1, .inr (.inl oo)))] s.heap.size) = A at hD hQ
  have hA : ∀ q : Nat, s.heap.size ≤ q → A q := fun q h => by rw [← hAe]; exact Or.inr h
  have hS : va_S A s.heap s.heap [] := va_S.rf
  have hl := lv_entry ([.ref o0, .int (x), .int (y), .ref ou]) (n := 5) (Nat.le_of_ble_eq_true rfl)
  generalize hen : entryFrame m args 5 = fr
  rw [hargs, lg_entry_eq] at hen
  subst hen
  generalize (lg_sl ([.ref o0, .int (x), .int (y), .ref ou]) ++ List.replicate (5 - (lg_sl ([.ref o0, .int (x), .int (y), .ref ou])).length) Slot.unset).toArray = ls at hl ⊢
  have hl : lv_has ls 5 [(0, .ref o0), (1, .int (x)), (2, .int (y)), (3, .ref ou)] := hl
  have hinX3 : ∀ w ∈ wsX30, w ∈ wsL_join := by decide +kernel
  refine lv_aload_n hx hb dL_join_0 rfl (lv_at hl 3 rfl) ?_
  refine lv_iconst (v := nI 0) hx hb dL_join_1 (by decide) ?_
  refine lv_aload_n hx hb dL_join_2 rfl (lv_at hl 0 rfl) ?_
  refine lv_iload_n hx hb dL_join_3 rfl (lv_at hl 1 rfl) ?_
  refine lv_iload_n hx hb dL_join_4 rfl (lv_at hl 2 rfl) ?_
  by_cases hokk : (∃ j : Nat, j < n ∧ x = nI j) ∧ (∃ j : Nat, j < n ∧ y = nI j)
  · skip
    have hPc := hP.sub (ws' := [(o0, .inr (4, [.int (nI (n)), .int (nI (q)), v2, v3, .ref b1, v5, v6, v7, .int (bI wk), .int (bI sd)])), (b1, .inl (cI, n, .inl (fun j => nI (tm j))))]) [0, 1] rfl
    have hDc := hD.sub (ws' := [(o0, .inr (4, [.int (nI (n)), .int (nI (q)), v2, v3, .ref b1, v5, v6, v7, .int (bI wk), .int (bI sd)])), (b1, .inl (cI, n, .inl (fun j => nI (tm j))))]) [0, 1] (by decide) rfl
    have hFc := va_free (wc := [(o0, .inr (4, [.int (nI (n)), .int (nI (q)), v2, v3, .ref b1, v5, v6, v7, .int (bI wk), .int (bI sd)])), (b1, .inl (cI, n, .inl (fun j => nI (tm j))))]) hD hS hA [0, 1] rfl
    have hKc := hK.sub (tys' := [(cI, .int)]) [0] rfl
    refine va_calli (tt_run_ok hokk (tt_runV (As := [.int (x), .int (y)]) (rest := [.int (nI (0)), .ref ou]) ⟨hx, hb, hml, hown, hts⟩ (c_X3_join l dC dI hfl s0 A0 str s.heap.size o0 b1 n q x y tm wk sd cI v2 v3 v5 v6 v7 hn hn1 ht0) (cwV 2 hts gL_join_X3_join rfl rfl rfl (by decide +kernel) ⟨Nat.le_of_ble_eq_true rfl, Nat.le_of_ble_eq_true rfl⟩) ⟨fun a U g mk q => by obtain ⟨q0, q1, qP, qK, qD, qB⟩ := q; exact ⟨q0, q1, qP, va_K.moved (u := U) (U := U.calling g mk a) (Vm.Alike.refl U.vm) qK, qD, qB.blind rfl rfl⟩, va_recv hKc hPc (ci := 4) (q0 := 0) rfl rfl, fun U hU hW => ⟨rfl, by rw [hU], by rw [hU]; exact hPc, va_K.moved hW.alike hKc, hDc.weaken (fun _ _ _ _ => trivial), hB.later hU hW⟩⟩ rfl rfl hl.1 rfl (lv_room (Nat.le_of_ble_eq_true rfl)) dL_join_5 ⟨Nat.le_of_ble_eq_true rfl, Nat.le_of_ble_eq_true rfl⟩)) hS (fun q _ h => hFc q h) hFc (fun r1 v9 t H1 locs ht hvm hwv hB1 hz1 hk1 hS => ?_)
    obtain ⟨hP1, hK1, hD1⟩ := hB1
    rw [ht] at hP1
    try dsimp only at hwv
    obtain ⟨hP, hD⟩ := va_join (wr := [(ou, .inl (cL, 1, .inr (.inl oo)))]) (w1 := [(o0, .inr (4, [.int (nI (n)), .int (nI (q)), v2, v3, .ref b1, v5, v6, v7, .int (bI v9.2.1), .int (bI v9.2.2)])), (b1, .inl (cI, n, .inl (fun j => nI (v9.1 j))))]) hP hD [0, 1] [2] rfl rfl (by decide) (by decide) hk1 hFc hP1 hD1
    generalize H1 = H at hP hS ⊢
    have hP := hP.sub (ws' := [(o0, .inr (4, [.int (nI (n)), .int (nI (q)), v2, v3, .ref b1, v5, v6, v7, .int (bI v9.2.1), .int (bI v9.2.2)])), (b1, .inl (cI, n, .inl (fun j => nI (v9.1 j)))), (ou, .inl (cL, 1, .inr (.inl oo)))]) [1, 2, 0] rfl
    have hD := hD.sub (ws' := [(o0, .inr (4, [.int (nI (n)), .int (nI (q)), v2, v3, .ref b1, v5, v6, v7, .int (bI v9.2.1), .int (bI v9.2.2)])), (b1, .inl (cI, n, .inl (fun j => nI (v9.1 j)))), (ou, .inl (cL, 1, .inr (.inl oo)))]) [1, 2, 0] (by decide) rfl
    have hP : va_P (dC, dI) vwCl [(o0, .inr (4, [.int (nI (n)), .int (nI (q)), v2, v3, .ref b1, v5, v6, v7, .int (bI v9.2.1), .int (bI v9.2.2)])), (b1, .inl (cI, n, .inl (fun j => nI (v9.1 j)))), (ou, .inl (cL, 1, .inr (.inl oo)))] H := hP
    have hD : va_D A [(o0, .inr (4, [.int (nI (n)), .int (nI (q)), v2, v3, .ref b1, v5, v6, v7, .int (bI v9.2.1), .int (bI v9.2.2)])), (b1, .inl (cI, n, .inl (fun j => nI (v9.1 j)))), (ou, .inl (cL, 1, .inr (.inl oo)))] := hD
    refine W.widen (k := 2) (n := 12) (by omega) (by omega) ?_
    refine lv_if_eq (tgt := 15) hx hb dL_join_8 (by decide) (fun c1 => ?_) (fun c1 => ?_)
    · skip
      refine lv_lconst (v := 0) hx hb dL_join_15 (by decide) ?_
      refine va_last hx hb hK hP hD hS 2 1 rfl rfl (i := nI 0) (x := 0) (vp_in_nI (by omega) (by omega)) dL_join_16 (fun H locs hP hD hS => ?_)
      have hP : va_P (dC, dI) vwCl [(o0, .inr (4, [.int (nI (n)), .int (nI (q)), v2, v3, .ref b1, v5, v6, v7, .int (bI v9.2.1), .int (bI v9.2.2)])), (b1, .inl (cI, n, .inl (fun j => nI (v9.1 j)))), (ou, .inl (cL, 1, .inr (.inl (va_up oo (nI 0).toNatClampNeg (0)))))] H := hP
      have hD : va_D A [(o0, .inr (4, [.int (nI (n)), .int (nI (q)), v2, v3, .ref b1, v5, v6, v7, .int (bI v9.2.1), .int (bI v9.2.2)])), (b1, .inl (cI, n, .inl (fun j => nI (v9.1 j)))), (ou, .inl (cL, 1, .inr (.inl (va_up oo (nI 0).toNatClampNeg (0)))))] := hD
      refine lv_goto (tgt := 24) hx hb dL_join_17 (by decide) ?_
      refine lv_iconst (v := nI 0) hx hb dL_join_24 (by decide) ?_
      rw [hQ]
      exact W.iret (v := nI (0)) hx hb hr (fun t ht hW => ⟨⟨_, (v9, va_up oo (nI 0).toNatClampNeg (0)), rfl, Or.inl ⟨hokk, rfl, r1, hwv, by dsimp only; rw [show (nI 0).toNatClampNeg = 0 from rfl, up_at]; unfold lbv; rw [if_pos c1]⟩, by rw [ht]; exact hP, va_K.moved hW.alike hK, hD⟩, hS.F ht⟩) hS.2.2 dL_join_25
    · skip
      refine lv_lconst (v := 1) hx hb dL_join_11 (by decide) ?_
      refine lv_goto (tgt := 16) hx hb dL_join_12 (by decide) ?_
      refine va_last hx hb hK hP hD hS 2 1 rfl rfl (i := nI 0) (x := 1) (vp_in_nI (by omega) (by omega)) dL_join_16 (fun H locs hP hD hS => ?_)
      have hP : va_P (dC, dI) vwCl [(o0, .inr (4, [.int (nI (n)), .int (nI (q)), v2, v3, .ref b1, v5, v6, v7, .int (bI v9.2.1), .int (bI v9.2.2)])), (b1, .inl (cI, n, .inl (fun j => nI (v9.1 j)))), (ou, .inl (cL, 1, .inr (.inl (va_up oo (nI 0).toNatClampNeg (1)))))] H := hP
      have hD : va_D A [(o0, .inr (4, [.int (nI (n)), .int (nI (q)), v2, v3, .ref b1, v5, v6, v7, .int (bI v9.2.1), .int (bI v9.2.2)])), (b1, .inl (cI, n, .inl (fun j => nI (v9.1 j)))), (ou, .inl (cL, 1, .inr (.inl (va_up oo (nI 0).toNatClampNeg (1)))))] := hD
      refine lv_goto (tgt := 24) hx hb dL_join_17 (by decide) ?_
      refine lv_iconst (v := nI 0) hx hb dL_join_24 (by decide) ?_
      rw [hQ]
      exact W.iret (v := nI (0)) hx hb hr (fun t ht hW => ⟨⟨_, (v9, va_up oo (nI 0).toNatClampNeg (1)), rfl, Or.inl ⟨hokk, rfl, r1, hwv, by dsimp only; rw [show (nI 0).toNatClampNeg = 0 from rfl, up_at]; unfold lbv; rw [if_neg c1]⟩, by rw [ht]; exact hP, va_K.moved hW.alike hK, hD⟩, hS.F ht⟩) hS.2.2 dL_join_25
  · skip
    have hPc := hP.sub (ws' := [(o0, .inr (4, [.int (nI (n)), .int (nI (q)), v2, v3, .ref b1, v5, v6, v7, .int (bI wk), .int (bI sd)])), (b1, .inl (cI, n, .inl (fun j => nI (tm j))))]) [0, 1] rfl
    have hDc := hD.sub (ws' := [(o0, .inr (4, [.int (nI (n)), .int (nI (q)), v2, v3, .ref b1, v5, v6, v7, .int (bI wk), .int (bI sd)])), (b1, .inl (cI, n, .inl (fun j => nI (tm j))))]) [0, 1] (by decide) rfl
    have hFc := va_free (wc := [(o0, .inr (4, [.int (nI (n)), .int (nI (q)), v2, v3, .ref b1, v5, v6, v7, .int (bI wk), .int (bI sd)])), (b1, .inl (cI, n, .inl (fun j => nI (tm j))))]) hD hS hA [0, 1] rfl
    have hKc := hK.sub (tys' := [(cI, .int)]) [0] rfl
    refine tt_catch hokk (tt_runV (As := [.int (x), .int (y)]) (rest := [.int (nI (0)), .ref ou]) ⟨hx, hb, hml, hown, hts⟩ (c_X3_join l dC dI hfl s0 A0 str s.heap.size o0 b1 n q x y tm wk sd cI v2 v3 v5 v6 v7 hn hn1 ht0) (cwV 2 hts gL_join_X3_join rfl rfl rfl (by decide +kernel) ⟨Nat.le_of_ble_eq_true rfl, Nat.le_of_ble_eq_true rfl⟩) ⟨fun a U g mk q => by obtain ⟨q0, q1, qP, qK, qD, qB⟩ := q; exact ⟨q0, q1, qP, va_K.moved (u := U) (U := U.calling g mk a) (Vm.Alike.refl U.vm) qK, qD, qB.blind rfl rfl⟩, va_recv hKc hPc (ci := 4) (q0 := 0) rfl rfl, fun U hU hW => ⟨rfl, by rw [hU], by rw [hU]; exact hPc, va_K.moved hW.alike hKc, hDc.weaken (fun _ _ _ _ => trivial), hB.later hU hW⟩⟩ rfl rfl hl.1 rfl (lv_room (Nat.le_of_ble_eq_true rfl)) dL_join_5 ⟨Nat.le_of_ble_eq_true rfl, Nat.le_of_ble_eq_true rfl⟩) htab (by simp [covers, ex1, ex2]) (by rw [ex4]; decide) hown (by rw [ex4]; exact hCL) (fun H1 lo x1 hz1 hk1 hlo => ?_)
    have hP := hP.kept (H1 := H1) (fun k x hx => hk1 _ ((hP k x hx).lt))
    have hS : va_S A s.heap H1 lo := ⟨hz1, fun q h1 _ => hk1 q h1, fun q hq => (hlo q hq).elim (fun h => absurd h List.not_mem_nil) (fun h => hFc _ h)⟩
    rw [ex3]
    generalize H1 = H at hP hS ⊢
    have hP : va_P (dC, dI) vwCl [(o0, .inr (4, [.int (nI (n)), .int (nI (q)), v2, v3, .ref b1, v5, v6, v7, .int (bI wk), .int (bI sd)])), (b1, .inl (cI, n, .inl (fun j => nI (tm j)))), (ou, .inl (cL, 1, .inr (.inl oo)))] H := hP
    have hD : va_D A [(o0, .inr (4, [.int (nI (n)), .int (nI (q)), v2, v3, .ref b1, v5, v6, v7, .int (bI wk), .int (bI sd)])), (b1, .inl (cI, n, .inl (fun j => nI (tm j)))), (ou, .inl (cL, 1, .inr (.inl oo)))] := hD
    refine W.widen (k := 2) (n := 12) (by omega) (by omega) ?_
    refine lv_astore (lv' := [(4, .ref x1), (0, .ref o0), (1, .int (x)), (2, .int (y)), (3, .ref ou)]) hx hb dL_join_20 hl (by decide) rfl (fun ls hl => ?_)
    refine lv_iconst (v := nI 1) hx hb dL_join_22 (by decide) ?_
    rw [hQ]
    exact W.iret (v := nI (1)) hx hb hr (fun t ht hW => ⟨⟨_, ((tm, wk, sd), oo), rfl, Or.inr ⟨hokk, rfl, rfl⟩, by rw [ht]; exact hP, va_K.moved hW.alike hK, hD⟩, hS.F ht⟩) hS.2.2 dL_join_23

set_option maxHeartbeats 4000000 in
set_option maxRecDepth 100000 in
theorem c_L_self (l : Launch) (dC : Nat → ClassId) (dI : Nat → Nat → Nat) (hfl : l.flags = pinnedFlags ++ [noTraceFlag]) (s0 : State) (A0 : Array Value) (str : Nat) (sz : Nat) (o0 b1 n q : Nat) (x : Int32) (on : Bool) (tm : Nat → Nat) (wk sd : Bool) (cI : ClassId) (v2 v3 v5 v6 v7 : Value) (ou : Nat) (oo : Nat → Int64) (cL : ClassId) (hn : n < 1000) (hn1 : n < 31) (ht0 : ∀ j, j < n → tm j < 2 ^ 31) : Met l yL_self wsL_self ({ frames := 9, cells := 1, slots := 6, locals := 138 }) (va_Pc [.ref o0, .int (x), .int (bI on), .ref ou] (fun U => U.heap.size = sz ∧ va_P (dC, dI) vwCl [(o0, .inr (4, [.int (nI (n)), .int (nI (q)), v2, v3, .ref b1, v5, v6, v7, .int (bI wk), .int (bI sd)])), (b1, .inl (cI, n, .inl (fun j => nI (tm j)))), (ou, .inl (cL, 1, .inr (.inl oo)))] U.heap ∧ va_K (dC, dI) vwCl [(cI, .int), (cL, .long)] U ∧ va_D (fun _ => True) [(o0, .inr (4, [.int (nI (n)), .int (nI (q)), v2, v3, .ref b1, v5, v6, v7, .int (bI wk), .int (bI sd)])), (b1, .inl (cI, n, .inl (fun j => nI (tm j)))), (ou, .inl (cL, 1, .inr (.inl oo)))] ∧ tt_B s0 A0 str U ∧ (Cond.classLink RL 13 ttX).before #[] U = true)) (va_Qi (fun (z : Int32) (u : ((Nat → Nat) × Bool × Bool) × (Nat → Int64)) => (((∃ j : Nat, j < n ∧ x = nI j) ∧ z = nI 0 ∧ ∃ r : Int32, (∃ a : Nat, a < n ∧ x = nI a ∧ ((r = nI 1 ∧ decide (tm a / 2 ^ a % 2 = 1) ≠ on ∧ u.1 = (va_up tm a (tm a ^^^ 2 ^ a), false, false)) ∨ (r = nI 0 ∧ decide (tm a / 2 ^ a % 2 = 1) = on ∧ u.1 = (tm, wk, sd)))) ∧ u.2 0 = lbv r) ∨ (¬ (∃ j : Nat, j < n ∧ x = nI j) ∧ z = nI 1 ∧ u = ((tm, wk, sd), oo)))) (fun u t => va_P (dC, dI) vwCl [(o0, .inr (4, [.int (nI (n)), .int (nI (q)), v2, v3, .ref b1, v5, v6, v7, .int (bI u.1.2.1), .int (bI u.1.2.2)])), (b1, .inl (cI, n, .inl (fun j => nI (u.1.1 j)))), (ou, .inl (cL, 1, .inr (.inl u.2)))] t.heap ∧ va_K (dC, dI) vwCl [(cI, .int), (cL, .long)] t ∧ va_D (va_A [(o0, .inr (4, [.int (nI (n)), .int (nI (q)), v2, v3, .ref b1, v5, v6, v7, .int (bI wk), .int (bI sd)])), (b1, .inl (cI, n, .inl (fun j => nI (tm j)))), (ou, .inl (cL, 1, .inr (.inl oo)))] sz) [(o0, .inr (4, [.int (nI (n)), .int (nI (q)), v2, v3, .ref b1, v5, v6, v7, .int (bI u.1.2.1), .int (bI u.1.2.2)])), (b1, .inl (cI, n, .inl (fun j => nI (u.1.1 j)))), (ou, .inl (cL, 1, .inr (.inl u.2)))]) (va_A [(o0, .inr (4, [.int (nI (n)), .int (nI (q)), v2, v3, .ref b1, v5, v6, v7, .int (bI wk), .int (bI sd)])), (b1, .inl (cI, n, .inl (fun j => nI (tm j)))), (ou, .inl (cL, 1, .inr (.inl oo)))] sz)) 1 6 (va_A [(o0, .inr (4, [.int (nI (n)), .int (nI (q)), v2, v3, .ref b1, v5, v6, v7, .int (bI wk), .int (bI sd)])), (b1, .inl (cI, n, .inl (fun j => nI (tm j)))), (ou, .inl (cL, 1, .inr (.inl oo)))] sz) := by
  refine va_MetW (hh := [(0, 17, 20, 13)]) (cc := cL_self) (maxL := 5) (ret := (some .int)) (by decide) rfl ?_
  intro zp ze s m args below meth zc s₁ B hml hv
  obtain ⟨hargs, hsz, hP, hK, hD0, hB, hCL⟩ := hv
  have hx := B.exec
  have hb := B.bytes
  have hr := B.returns
  have hts := atoms_spec (ws := wsL_self) B.pre
  have hown : s.vm.findClass RL = some m.cls := findClass_of_methodNamed B.named
  have hlocks := B.notSynchronized
  obtain ⟨xt, htab, ex1, ex2, ex3, ex4⟩ := lh_tab B (hts _ List.mem_cons_self)
  subst hsz
  obtain ⟨Q, hQ⟩ : ∃ Q, Q = MQ below (va_Qi (fun (z : Int32) (u : ((Nat → Nat) × Bool × Bool) × (Nat → Int64)) => (((∃ j : Nat, j < n ∧ x = nI j) ∧ z = nI 0 ∧ ∃ r : Int32, (∃ a : Nat, a < n ∧ x = nI a ∧ ((r = nI 1 ∧ decide (tm a / 2 ^ a % 2 = 1) ≠ on ∧ u.1 = (va_up tm a (tm a ^^^ 2 ^ a), false, false)) ∨ (r = nI 0 ∧ decide (tm a / 2 ^ a % 2 = 1) = on ∧ u.1 = (tm, wk, sd)))) ∧ u.2 0 = lbv r) ∨ (¬ (∃ j : Nat, j < n ∧ x = nI j) ∧ z = nI 1 ∧ u = ((tm, wk, sd), oo)))) (fun u t => va_P (dC, dI) vwCl [(o0, .inr (4, [.int (nI (n)), .int (nI (q)), v2, v3, .ref b1, v5, v6, v7, .int (bI u.1.2.1), .int (bI u.1.2.2)])), (b1, .inl (cI, n, .inl (fun j => nI (u.1.1 j)))), (ou, .inl (cL, 1, .inr (.inl u.2)))] t.heap ∧ va_K (dC, dI) vwCl [(cI, .int), (cL, .long)] t ∧ va_D (va_A [(o0, .inr (4, [.int (nI (n)), .int (nI (q)), v2, v3, .ref b1, v5, v6, v7, .int (bI wk), .int (bI sd)])), (b1, .inl (cI, n, .inl (fun j => nI (tm j)))), (ou, .inl (cL, 1, .inr (.inl oo)))] s.heap.size) [(o0, .inr (4, [.int (nI (n)), .int (nI (q)), v2, v3, .ref b1, v5, v6, v7, .int (bI u.1.2.1), .int (bI u.1.2.2)])), (b1, .inl (cI, n, .inl (fun j => nI (u.1.1 j)))), (ou, .inl (cL, 1, .inr (.inl u.2)))]) (va_A [(o0, .inr (4, [.int (nI (n)), .int (nI (q)), v2, v3, .ref b1, v5, v6, v7, .int (bI wk), .int (bI sd)])), (b1, .inl (cI, n, .inl (fun j => nI (tm j)))), (ou, .inl (cL, 1, .inr (.inl oo)))] s.heap.size)) args s 1 6 (va_A [(o0, .inr (4, [.int (nI (n)), .int (nI (q)), v2, v3, .ref b1, v5, v6, v7, .int (bI wk), .int (bI sd)])), (b1, .inl (cI, n, .inl (fun j => nI (tm j)))), (ou, .inl (cL, 1, .inr (.inl oo)))] s.heap.size) := ⟨_, rfl⟩
  rw [← hQ]
  have hD := hD0.self (sz := s.heap.size)
  generalize hAe : (va_A [(o0, .inr (4, [.int (nI (n)), .int (nI (q)), v2, v3, .ref b1, v5, v6, v7, .int (bI wk), .int (bI sd)])), (b1, .inl (cI, n, .inl (fun j => nI (tm j)))), (ou, .inl (cL, 1, .inr (.inl oo)))] s.heap.size) = A at hD hQ
  have hA : ∀ q : Nat, s.heap.size ≤ q → A q := fun q h => by rw [← hAe]; exact Or.inr h
  have hS : va_S A s.heap s.heap [] := va_S.rf
  have hl := lv_entry ([.ref o0, .int (x), .int (bI on), .ref ou]) (n := 5) (Nat.le_of_ble_eq_true rfl)
  generalize hen : entryFrame m args 5 = fr
  rw [hargs, lg_entry_eq] at hen
  subst hen
  generalize (lg_sl ([.ref o0, .int (x), .int (bI on), .ref ou]) ++ List.replicate (5 - (lg_sl ([.ref o0, .int (x), .int (bI on), .ref ou])).length) Slot.unset).toArray = ls at hl ⊢
  have hl : lv_has ls 5 [(0, .ref o0), (1, .int (x)), (2, .int (bI on)), (3, .ref ou)] := hl
  have hinX3 : ∀ w ∈ wsX30, w ∈ wsL_self := by decide +kernel
  refine lv_aload_n hx hb dL_self_0 rfl (lv_at hl 3 rfl) ?_
  refine lv_iconst (v := nI 0) hx hb dL_self_1 (by decide) ?_
  refine lv_aload_n hx hb dL_self_2 rfl (lv_at hl 0 rfl) ?_
  refine lv_iload_n hx hb dL_self_3 rfl (lv_at hl 1 rfl) ?_
  refine lv_iload_n hx hb dL_self_4 rfl (lv_at hl 2 rfl) ?_
  by_cases hokk : ∃ j : Nat, j < n ∧ x = nI j
  · skip
    have hPc := hP.sub (ws' := [(o0, .inr (4, [.int (nI (n)), .int (nI (q)), v2, v3, .ref b1, v5, v6, v7, .int (bI wk), .int (bI sd)])), (b1, .inl (cI, n, .inl (fun j => nI (tm j))))]) [0, 1] rfl
    have hDc := hD.sub (ws' := [(o0, .inr (4, [.int (nI (n)), .int (nI (q)), v2, v3, .ref b1, v5, v6, v7, .int (bI wk), .int (bI sd)])), (b1, .inl (cI, n, .inl (fun j => nI (tm j))))]) [0, 1] (by decide) rfl
    have hFc := va_free (wc := [(o0, .inr (4, [.int (nI (n)), .int (nI (q)), v2, v3, .ref b1, v5, v6, v7, .int (bI wk), .int (bI sd)])), (b1, .inl (cI, n, .inl (fun j => nI (tm j))))]) hD hS hA [0, 1] rfl
    have hKc := hK.sub (tys' := [(cI, .int)]) [0] rfl
    refine va_calli (tt_run_ok hokk (tt_runV (As := [.int (x), .int (bI on)]) (rest := [.int (nI (0)), .ref ou]) ⟨hx, hb, hml, hown, hts⟩ (c_X3_self l dC dI hfl s0 A0 str s.heap.size o0 b1 n q x on tm wk sd cI v2 v3 v5 v6 v7 hn hn1 ht0) (cwV 2 hts gL_self_X3_self rfl rfl rfl (by decide +kernel) ⟨Nat.le_of_ble_eq_true rfl, Nat.le_of_ble_eq_true rfl⟩) ⟨fun a U g mk q => by obtain ⟨q0, q1, qP, qK, qD, qB⟩ := q; exact ⟨q0, q1, qP, va_K.moved (u := U) (U := U.calling g mk a) (Vm.Alike.refl U.vm) qK, qD, qB.blind rfl rfl⟩, va_recv hKc hPc (ci := 4) (q0 := 0) rfl rfl, fun U hU hW => ⟨rfl, by rw [hU], by rw [hU]; exact hPc, va_K.moved hW.alike hKc, hDc.weaken (fun _ _ _ _ => trivial), hB.later hU hW⟩⟩ rfl rfl hl.1 rfl (lv_room (Nat.le_of_ble_eq_true rfl)) dL_self_5 ⟨Nat.le_of_ble_eq_true rfl, Nat.le_of_ble_eq_true rfl⟩)) hS (fun q _ h => hFc q h) hFc (fun r1 v9 t H1 locs ht hvm hwv hB1 hz1 hk1 hS => ?_)
    obtain ⟨hP1, hK1, hD1⟩ := hB1
    rw [ht] at hP1
    try dsimp only at hwv
    obtain ⟨hP, hD⟩ := va_join (wr := [(ou, .inl (cL, 1, .inr (.inl oo)))]) (w1 := [(o0, .inr (4, [.int (nI (n)), .int (nI (q)), v2, v3, .ref b1, v5, v6, v7, .int (bI v9.2.1), .int (bI v9.2.2)])), (b1, .inl (cI, n, .inl (fun j => nI (v9.1 j))))]) hP hD [0, 1] [2] rfl rfl (by decide) (by decide) hk1 hFc hP1 hD1
    generalize H1 = H at hP hS ⊢
    have hP := hP.sub (ws' := [(o0, .inr (4, [.int (nI (n)), .int (nI (q)), v2, v3, .ref b1, v5, v6, v7, .int (bI v9.2.1), .int (bI v9.2.2)])), (b1, .inl (cI, n, .inl (fun j => nI (v9.1 j)))), (ou, .inl (cL, 1, .inr (.inl oo)))]) [1, 2, 0] rfl
    have hD := hD.sub (ws' := [(o0, .inr (4, [.int (nI (n)), .int (nI (q)), v2, v3, .ref b1, v5, v6, v7, .int (bI v9.2.1), .int (bI v9.2.2)])), (b1, .inl (cI, n, .inl (fun j => nI (v9.1 j)))), (ou, .inl (cL, 1, .inr (.inl oo)))]) [1, 2, 0] (by decide) rfl
    have hP : va_P (dC, dI) vwCl [(o0, .inr (4, [.int (nI (n)), .int (nI (q)), v2, v3, .ref b1, v5, v6, v7, .int (bI v9.2.1), .int (bI v9.2.2)])), (b1, .inl (cI, n, .inl (fun j => nI (v9.1 j)))), (ou, .inl (cL, 1, .inr (.inl oo)))] H := hP
    have hD : va_D A [(o0, .inr (4, [.int (nI (n)), .int (nI (q)), v2, v3, .ref b1, v5, v6, v7, .int (bI v9.2.1), .int (bI v9.2.2)])), (b1, .inl (cI, n, .inl (fun j => nI (v9.1 j)))), (ou, .inl (cL, 1, .inr (.inl oo)))] := hD
    refine W.widen (k := 1) (n := 6) (by omega) (by omega) ?_
    refine lv_if_eq (tgt := 15) hx hb dL_self_8 (by decide) (fun c1 => ?_) (fun c1 => ?_)
    · skip
      refine lv_lconst (v := 0) hx hb dL_self_15 (by decide) ?_
      refine va_last hx hb hK hP hD hS 2 1 rfl rfl (i := nI 0) (x := 0) (vp_in_nI (by omega) (by omega)) dL_self_16 (fun H locs hP hD hS => ?_)
      have hP : va_P (dC, dI) vwCl [(o0, .inr (4, [.int (nI (n)), .int (nI (q)), v2, v3, .ref b1, v5, v6, v7, .int (bI v9.2.1), .int (bI v9.2.2)])), (b1, .inl (cI, n, .inl (fun j => nI (v9.1 j)))), (ou, .inl (cL, 1, .inr (.inl (va_up oo (nI 0).toNatClampNeg (0)))))] H := hP
      have hD : va_D A [(o0, .inr (4, [.int (nI (n)), .int (nI (q)), v2, v3, .ref b1, v5, v6, v7, .int (bI v9.2.1), .int (bI v9.2.2)])), (b1, .inl (cI, n, .inl (fun j => nI (v9.1 j)))), (ou, .inl (cL, 1, .inr (.inl (va_up oo (nI 0).toNatClampNeg (0)))))] := hD
      refine lv_goto (tgt := 24) hx hb dL_self_17 (by decide) ?_
      refine lv_iconst (v := nI 0) hx hb dL_self_24 (by decide) ?_
      rw [hQ]
      exact W.iret (v := nI (0)) hx hb hr (fun t ht hW => ⟨⟨_, (v9, va_up oo (nI 0).toNatClampNeg (0)), rfl, Or.inl ⟨hokk, rfl, r1, hwv, by dsimp only; rw [show (nI 0).toNatClampNeg = 0 from rfl, up_at]; unfold lbv; rw [if_pos c1]⟩, by rw [ht]; exact hP, va_K.moved hW.alike hK, hD⟩, hS.F ht⟩) hS.2.2 dL_self_25
    · skip
      refine lv_lconst (v := 1) hx hb dL_self_11 (by decide) ?_
      refine lv_goto (tgt := 16) hx hb dL_self_12 (by decide) ?_
      refine va_last hx hb hK hP hD hS 2 1 rfl rfl (i := nI 0) (x := 1) (vp_in_nI (by omega) (by omega)) dL_self_16 (fun H locs hP hD hS => ?_)
      have hP : va_P (dC, dI) vwCl [(o0, .inr (4, [.int (nI (n)), .int (nI (q)), v2, v3, .ref b1, v5, v6, v7, .int (bI v9.2.1), .int (bI v9.2.2)])), (b1, .inl (cI, n, .inl (fun j => nI (v9.1 j)))), (ou, .inl (cL, 1, .inr (.inl (va_up oo (nI 0).toNatClampNeg (1)))))] H := hP
      have hD : va_D A [(o0, .inr (4, [.int (nI (n)), .int (nI (q)), v2, v3, .ref b1, v5, v6, v7, .int (bI v9.2.1), .int (bI v9.2.2)])), (b1, .inl (cI, n, .inl (fun j => nI (v9.1 j)))), (ou, .inl (cL, 1, .inr (.inl (va_up oo (nI 0).toNatClampNeg (1)))))] := hD
      refine lv_goto (tgt := 24) hx hb dL_self_17 (by decide) ?_
      refine lv_iconst (v := nI 0) hx hb dL_self_24 (by decide) ?_
      rw [hQ]
      exact W.iret (v := nI (0)) hx hb hr (fun t ht hW => ⟨⟨_, (v9, va_up oo (nI 0).toNatClampNeg (1)), rfl, Or.inl ⟨hokk, rfl, r1, hwv, by dsimp only; rw [show (nI 0).toNatClampNeg = 0 from rfl, up_at]; unfold lbv; rw [if_neg c1]⟩, by rw [ht]; exact hP, va_K.moved hW.alike hK, hD⟩, hS.F ht⟩) hS.2.2 dL_self_25
  · skip
    have hPc := hP.sub (ws' := [(o0, .inr (4, [.int (nI (n)), .int (nI (q)), v2, v3, .ref b1, v5, v6, v7, .int (bI wk), .int (bI sd)])), (b1, .inl (cI, n, .inl (fun j => nI (tm j))))]) [0, 1] rfl
    have hDc := hD.sub (ws' := [(o0, .inr (4, [.int (nI (n)), .int (nI (q)), v2, v3, .ref b1, v5, v6, v7, .int (bI wk), .int (bI sd)])), (b1, .inl (cI, n, .inl (fun j => nI (tm j))))]) [0, 1] (by decide) rfl
    have hFc := va_free (wc := [(o0, .inr (4, [.int (nI (n)), .int (nI (q)), v2, v3, .ref b1, v5, v6, v7, .int (bI wk), .int (bI sd)])), (b1, .inl (cI, n, .inl (fun j => nI (tm j))))]) hD hS hA [0, 1] rfl
    have hKc := hK.sub (tys' := [(cI, .int)]) [0] rfl
    refine tt_catch hokk (tt_runV (As := [.int (x), .int (bI on)]) (rest := [.int (nI (0)), .ref ou]) ⟨hx, hb, hml, hown, hts⟩ (c_X3_self l dC dI hfl s0 A0 str s.heap.size o0 b1 n q x on tm wk sd cI v2 v3 v5 v6 v7 hn hn1 ht0) (cwV 2 hts gL_self_X3_self rfl rfl rfl (by decide +kernel) ⟨Nat.le_of_ble_eq_true rfl, Nat.le_of_ble_eq_true rfl⟩) ⟨fun a U g mk q => by obtain ⟨q0, q1, qP, qK, qD, qB⟩ := q; exact ⟨q0, q1, qP, va_K.moved (u := U) (U := U.calling g mk a) (Vm.Alike.refl U.vm) qK, qD, qB.blind rfl rfl⟩, va_recv hKc hPc (ci := 4) (q0 := 0) rfl rfl, fun U hU hW => ⟨rfl, by rw [hU], by rw [hU]; exact hPc, va_K.moved hW.alike hKc, hDc.weaken (fun _ _ _ _ => trivial), hB.later hU hW⟩⟩ rfl rfl hl.1 rfl (lv_room (Nat.le_of_ble_eq_true rfl)) dL_self_5 ⟨Nat.le_of_ble_eq_true rfl, Nat.le_of_ble_eq_true rfl⟩) htab (by simp [covers, ex1, ex2]) (by rw [ex4]; decide) hown (by rw [ex4]; exact hCL) (fun H1 lo x1 hz1 hk1 hlo => ?_)
    have hP := hP.kept (H1 := H1) (fun k x hx => hk1 _ ((hP k x hx).lt))
    have hS : va_S A s.heap H1 lo := ⟨hz1, fun q h1 _ => hk1 q h1, fun q hq => (hlo q hq).elim (fun h => absurd h List.not_mem_nil) (fun h => hFc _ h)⟩
    rw [ex3]
    generalize H1 = H at hP hS ⊢
    have hP : va_P (dC, dI) vwCl [(o0, .inr (4, [.int (nI (n)), .int (nI (q)), v2, v3, .ref b1, v5, v6, v7, .int (bI wk), .int (bI sd)])), (b1, .inl (cI, n, .inl (fun j => nI (tm j)))), (ou, .inl (cL, 1, .inr (.inl oo)))] H := hP
    have hD : va_D A [(o0, .inr (4, [.int (nI (n)), .int (nI (q)), v2, v3, .ref b1, v5, v6, v7, .int (bI wk), .int (bI sd)])), (b1, .inl (cI, n, .inl (fun j => nI (tm j)))), (ou, .inl (cL, 1, .inr (.inl oo)))] := hD
    refine W.widen (k := 1) (n := 6) (by omega) (by omega) ?_
    refine lv_astore (lv' := [(4, .ref x1), (0, .ref o0), (1, .int (x)), (2, .int (bI on)), (3, .ref ou)]) hx hb dL_self_20 hl (by decide) rfl (fun ls hl => ?_)
    refine lv_iconst (v := nI 1) hx hb dL_self_22 (by decide) ?_
    rw [hQ]
    exact W.iret (v := nI (1)) hx hb hr (fun t ht hW => ⟨⟨_, ((tm, wk, sd), oo), rfl, Or.inr ⟨hokk, rfl, rfl⟩, by rw [ht]; exact hP, va_K.moved hW.alike hK, hD⟩, hS.F ht⟩) hS.2.2 dL_self_23

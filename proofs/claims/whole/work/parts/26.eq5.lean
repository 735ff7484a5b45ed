set_option maxHeartbeats 4000000 in
set_option maxRecDepth 100000 in
theorem c_X1_take (l : Launch) (dC : Nat → ClassId) (dI : Nat → Nat → Nat) (sz : Nat) (h0 a1 b1 b2 b3 n q : Nat) (v3 v4 v5 v6 : Value) (gR : Nat → Nat) (tm st wt : Nat → Nat) (cG : ClassId) (cI : ClassId) (L : List Nat) (pl : Nat → Nat) (pr : Nat → Nat → Nat) (hn : n < 32) (g1 : ∀ i, i < n → gR i ∈ L ∧ pl (gR i) = n + 1) (g3 : ∀ i j, i < n → j < n → gR i = gR j → i = j) (hq : 2 ≤ q) (hq2 : q < 100) (ht0 : ∀ j, j < n → tm j < 2 ^ 31) (hs0 : ∀ j, j < n → st j < q) (hw0 : ∀ j, j < n → wt j < q) : Met l yX1_take wsX1_take ({ frames := 0, cells := 0, slots := 0, locals := 0 }) (va_Pc [.ref h0, .ref b1, .ref b2, .ref b3] (fun U => U.heap.size = sz ∧ va_P (dC, dI) vwCl (([(h0, .inr (2, [.int (nI (n)), .int (nI (q)), .ref a1, v3, v4, v5, v6])), (a1, .inl (cG, n, .inr (.inr (.inr (.inr (fun j => some (gR j))))))), (b1, .inl (cI, n, .inl (fun j => nI (tm j)))), (b2, .inl (cI, n, .inl (fun j => nI (st j)))), (b3, .inl (cI, n, .inl (fun j => nI (wt j))))] : va_W) ++ va_pl L (pI cI pl pr)) U.heap ∧ va_K (dC, dI) vwCl [(cI, .int), (cG, .array .int)] U ∧ va_D (fun _ => True) (([(h0, .inr (2, [.int (nI (n)), .int (nI (q)), .ref a1, v3, v4, v5, v6])), (a1, .inl (cG, n, .inr (.inr (.inr (.inr (fun j => some (gR j))))))), (b1, .inl (cI, n, .inl (fun j => nI (tm j)))), (b2, .inl (cI, n, .inl (fun j => nI (st j)))), (b3, .inl (cI, n, .inl (fun j => nI (wt j))))] : va_W) ++ va_pl L (pI cI pl pr)))) (va_Qv (fun u : Nat → Nat → Nat => (∀ i, i < n → ∀ j, j < n → u (gR i) j = tm j / 2 ^ i % 2) ∧ (∀ i, i < n → u (gR i) n = (wt i + q - st i) % q)) (fun u t => va_P (dC, dI) vwCl (([(h0, .inr (2, [.int (nI (n)), .int (nI (q)), .ref a1, v3, v4, v5, v6])), (a1, .inl (cG, n, .inr (.inr (.inr (.inr (fun j => some (gR j))))))), (b1, .inl (cI, n, .inl (fun j => nI (tm j)))), (b2, .inl (cI, n, .inl (fun j => nI (st j)))), (b3, .inl (cI, n, .inl (fun j => nI (wt j))))] : va_W) ++ va_pl L (pI cI pl u)) t.heap ∧ va_K (dC, dI) vwCl [(cI, .int), (cG, .array .int)] t ∧ va_D (va_A (([(h0, .inr (2, [.int (nI (n)), .int (nI (q)), .ref a1, v3, v4, v5, v6])), (a1, .inl (cG, n, .inr (.inr (.inr (.inr (fun j => some (gR j))))))), (b1, .inl (cI, n, .inl (fun j => nI (tm j)))), (b2, .inl (cI, n, .inl (fun j => nI (st j)))), (b3, .inl (cI, n, .inl (fun j => nI (wt j))))] : va_W) ++ va_pl L (pI cI pl pr)) sz) (([(h0, .inr (2, [.int (nI (n)), .int (nI (q)), .ref a1, v3, v4, v5, v6])), (a1, .inl (cG, n, .inr (.inr (.inr (.inr (fun j => some (gR j))))))), (b1, .inl (cI, n, .inl (fun j => nI (tm j)))), (b2, .inl (cI, n, .inl (fun j => nI (st j)))), (b3, .inl (cI, n, .inl (fun j => nI (wt j))))] : va_W) ++ va_pl L (pI cI pl u))) (va_A (([(h0, .inr (2, [.int (nI (n)), .int (nI (q)), .ref a1, v3, v4, v5, v6])), (a1, .inl (cG, n, .inr (.inr (.inr (.inr (fun j => some (gR j))))))), (b1, .inl (cI, n, .inl (fun j => nI (tm j)))), (b2, .inl (cI, n, .inl (fun j => nI (st j)))), (b3, .inl (cI, n, .inl (fun j => nI (wt j))))] : va_W) ++ va_pl L (pI cI pl pr)) sz)) 0 0 (va_A (([(h0, .inr (2, [.int (nI (n)), .int (nI (q)), .ref a1, v3, v4, v5, v6])), (a1, .inl (cG, n, .inr (.inr (.inr (.inr (fun j => some (gR j))))))), (b1, .inl (cI, n, .inl (fun j => nI (tm j)))), (b2, .inl (cI, n, .inl (fun j => nI (st j)))), (b3, .inl (cI, n, .inl (fun j => nI (wt j))))] : va_W) ++ va_pl L (pI cI pl pr)) sz) := by
  refine Met.ofW (cc := cX1_take) (maxL := 7) (ret := none) (by decide) rfl ?_
  intro zp ze s m args below meth zc s₁ B hml hv
  obtain ⟨hargs, hsz, hP, hK, hD0⟩ := hv
  have hx := B.exec
  have hb := B.bytes
  have hr := B.returns
  have hts := atoms_spec (ws := wsX1_take) B.pre
  have hown : s.vm.findClass RX1 = some m.cls := findClass_of_methodNamed B.named
  have hlocks := B.notSynchronized
  subst hsz
  obtain ⟨Q, hQ⟩ : ∃ Q, Q = MQ below (va_Qv (fun u : Nat → Nat → Nat => (∀ i, i < n → ∀ j, j < n → u (gR i) j = tm j / 2 ^ i % 2) ∧ (∀ i, i < n → u (gR i) n = (wt i + q - st i) % q)) (fun u t => va_P (dC, dI) vwCl (([(h0, .inr (2, [.int (nI (n)), .int (nI (q)), .ref a1, v3, v4, v5, v6])), (a1, .inl (cG, n, .inr (.inr (.inr (.inr (fun j => some (gR j))))))), (b1, .inl (cI, n, .inl (fun j => nI (tm j)))), (b2, .inl (cI, n, .inl (fun j => nI (st j)))), (b3, .inl (cI, n, .inl (fun j => nI (wt j))))] : va_W) ++ va_pl L (pI cI pl u)) t.heap ∧ va_K (dC, dI) vwCl [(cI, .int), (cG, .array .int)] t ∧ va_D (va_A (([(h0, .inr (2, [.int (nI (n)), .int (nI (q)), .ref a1, v3, v4, v5, v6])), (a1, .inl (cG, n, .inr (.inr (.inr (.inr (fun j => some (gR j))))))), (b1, .inl (cI, n, .inl (fun j => nI (tm j)))), (b2, .inl (cI, n, .inl (fun j => nI (st j)))), (b3, .inl (cI, n, .inl (fun j => nI (wt j))))] : va_W) ++ va_pl L (pI cI pl pr)) s.heap.size) (([(h0, .inr (2, [.int (nI (n)), .int (nI (q)), .ref a1, v3, v4, v5, v6])), (a1, .inl (cG, n, .inr (.inr (.inr (.inr (fun j => some (gR j))))))), (b1, .inl (cI, n, .inl (fun j => nI (tm j)))), (b2, .inl (cI, n, .inl (fun j => nI (st j)))), (b3, .inl (cI, n, .inl (fun j => nI (wt j))))] : va_W) ++ va_pl L (pI cI pl u))) (va_A (([(h0, .inr (2, [.int (nI (n)), .int (nI (q)), .ref a1, v3, v4, v5, v6])), (a1, .inl (cG, n, .inr (.inr (.inr (.inr (fun j => some (gR j))))))), (b1, .inl (cI, n, .inl (fun j => nI (tm j)))), (b2, .inl (cI, n, .inl (fun j => nI (st j)))), (b3, .inl (cI, n, .inl (fun j => nI (wt j))))] : va_W) ++ va_pl L (pI cI pl pr)) s.heap.size)) args s 0 0 (va_A (([(h0, .inr (2, [.int (nI (n)), .int (nI (q)), .ref a1, v3, v4, v5, v6])), (a1, .inl (cG, n, .inr (.inr (.inr (.inr (fun j => some (gR j))))))), (b1, .inl (cI, n, .inl (fun j => nI (tm j)))), (b2, .inl (cI, n, .inl (fun j => nI (st j)))), (b3, .inl (cI, n, .inl (fun j => nI (wt j))))] : va_W) ++ va_pl L (pI cI pl pr)) s.heap.size) := ⟨_, rfl⟩
  rw [← hQ]
  have hD := hD0.self (sz := s.heap.size)
  generalize hAe : (va_A (([(h0, .inr (2, [.int (nI (n)), .int (nI (q)), .ref a1, v3, v4, v5, v6])), (a1, .inl (cG, n, .inr (.inr (.inr (.inr (fun j => some (gR j))))))), (b1, .inl (cI, n, .inl (fun j => nI (tm j)))), (b2, .inl (cI, n, .inl (fun j => nI (st j)))), (b3, .inl (cI, n, .inl (fun j => nI (wt j))))] : va_W) ++ va_pl L (pI cI pl pr)) s.heap.size) = A at hD hQ
  have hA : ∀ q : Nat, s.heap.size ≤ q → A q := fun q h => by rw [← hAe]; exact Or.inr h
  have hS : va_S A s.heap s.heap [] := va_S.rf
  have hl := lv_entry ([.ref h0, .ref b1, .ref b2, .ref b3]) (n := 7) (Nat.le_of_ble_eq_true rfl)
  generalize hen : entryFrame m args 7 = fr
  rw [hargs, lg_entry_eq] at hen
  subst hen
  generalize (lg_sl ([.ref h0, .ref b1, .ref b2, .ref b3]) ++ List.replicate (7 - (lg_sl ([.ref h0, .ref b1, .ref b2, .ref b3])).length) Slot.unset).toArray = ls at hl ⊢
  have hl : lv_has ls 7 [(0, .ref h0), (1, .ref b1), (2, .ref b2), (3, .ref b3)] := hl
  have hinX1 : ∀ w ∈ wsX10, w ∈ wsX1_take := by decide +kernel
  have hf9 := hts (.fieldLink RX1 9 "LightRows$Equations" "size" "I") (by decide +kernel)
  have hf15 := hts (.fieldLink RX1 15 "LightRows$Equations" "modulus" "I") (by decide +kernel)
  have hf20 := hts (.fieldLink RX1 20 "LightRows$Equations" "rows" "[[I") (by decide +kernel)
  refine lv_iconst (v := nI 0) hx hb dX1_take_0 (by decide) ?_
  refine lv_istore (lv' := [(4, .int (nI (0))), (0, .ref h0), (1, .ref b1), (2, .ref b2), (3, .ref b3)]) hx hb dX1_take_1 hl (by decide) rfl (fun ls hl => ?_)
  have lp : ∀ (k : Nat) (i : Nat) (f : Nat → Nat → Nat), (i + k = n) → (∀ a, a < i → ∀ j, j < n → f (gR a) j = tm j / 2 ^ a % 2) → (∀ a, a < i → f (gR a) n = (wt a + q - st a) % q) → ∀ (H : Heap) (locs : List Loc), va_P (dC, dI) vwCl (([(h0, .inr (2, [.int (nI (n)), .int (nI (q)), .ref a1, v3, v4, v5, v6])), (a1, .inl (cG, n, .inr (.inr (.inr (.inr (fun j => some (gR j))))))), (b1, .inl (cI, n, .inl (fun j => nI (tm j)))), (b2, .inl (cI, n, .inl (fun j => nI (st j)))), (b3, .inl (cI, n, .inl (fun j => nI (wt j))))] : va_W) ++ va_pl L (pI cI pl f)) H → va_D A (([(h0, .inr (2, [.int (nI (n)), .int (nI (q)), .ref a1, v3, v4, v5, v6])), (a1, .inl (cG, n, .inr (.inr (.inr (.inr (fun j => some (gR j))))))), (b1, .inl (cI, n, .inl (fun j => nI (tm j)))), (b2, .inl (cI, n, .inl (fun j => nI (st j)))), (b3, .inl (cI, n, .inl (fun j => nI (wt j))))] : va_W) ++ va_pl L (pI cI pl f)) → va_S A s.heap H locs → ∀ (ls : Array Slot), lv_has ls 7 [(0, .ref h0), (1, .ref b1), (2, .ref b2), (3, .ref b3), (4, .int (nI (i)))] → W zp l ze (headSpec wsX1_take ({ frames := 0, cells := 0, slots := 0, locals := 0 })).room s m args below meth zc H locs 0 0 Q (F0 m 3 ls []) := by
    intro k
    induction k with
    | zero =>
      intro i f hi h1 h2 H locs hP hD hS ls hl
      refine lv_iload hx hb dX1_take_3 (lv_at hl 4 rfl) ?_
      refine lv_aload_n hx hb dX1_take_5 rfl (lv_at hl 0 rfl) ?_
      refine va_get (D := (dC, dI)) (ci := 2) (v := .int (nI (n))) (C := RX1) (T := TX1) (N := 7) hx hb hts hinX1 hown hK hP 0 rfl rfl 0 (by decide) hf9 (fun _ h9 => h9) rfl dX1_take_6 ?_
      refine lv_icmp_ge (tgt := 85) hx hb dX1_take_9 (by decide) (fun c => ?_) (fun c => ?_)
      · skip
        have c : n ≤ i := (nI_leI (a := n) (b := i) (by omega) (by omega)).mp c
        obtain rfl : n = i := by omega
        rw [hQ]
        exact W.vret hx hb hr (fun t ht hW => ⟨⟨f, rfl, ⟨h1, h2⟩, by rw [ht]; exact hP, va_K.moved hW.alike hK, hD⟩, hS.F ht⟩) hS.2.2 dX1_take_85
      · skip
        have c : i < n := Nat.not_le.mp (fun h => c ((nI_leI (a := n) (b := i) (by omega) (by omega)).mpr h))
        exact absurd c (by omega)
    | succ k ih =>
      intro i f hi h1 h2 H locs hP hD hS ls hl
      refine lv_iload hx hb dX1_take_3 (lv_at hl 4 rfl) ?_
      refine lv_aload_n hx hb dX1_take_5 rfl (lv_at hl 0 rfl) ?_
      refine va_get (D := (dC, dI)) (ci := 2) (v := .int (nI (n))) (C := RX1) (T := TX1) (N := 7) hx hb hts hinX1 hown hK hP 0 rfl rfl 0 (by decide) hf9 (fun _ h9 => h9) rfl dX1_take_6 ?_
      refine lv_icmp_ge (tgt := 85) hx hb dX1_take_9 (by decide) (fun c => ?_) (fun c => ?_)
      · skip
        have c : n ≤ i := (nI_leI (a := n) (b := i) (by omega) (by omega)).mp c
        exact absurd c (by omega)
      · skip
        have c : i < n := Nat.not_le.mp (fun h => c ((nI_leI (a := n) (b := i) (by omega) (by omega)).mpr h))
        have gi := g1 i (by omega)
        refine lv_aload_n hx hb dX1_take_12 rfl (lv_at hl 0 rfl) ?_
        refine va_get (D := (dC, dI)) (ci := 2) (v := .ref a1) (C := RX1) (T := TX1) (N := 7) hx hb hts hinX1 hown hK hP 0 rfl rfl 2 (by decide) hf20 (fun _ h9 => h9) rfl dX1_take_13 ?_
        refine lv_iload hx hb dX1_take_16 (lv_at hl 4 rfl) ?_
        refine rg_ld (G := gR) hx hb hK hP 1 1 rfl rfl (by omega) (by omega) dX1_take_18 ?_
        refine lv_astore (lv' := [(5, .ref (gR i)), (0, .ref h0), (1, .ref b1), (2, .ref b2), (3, .ref b3), (4, .int (nI (i)))]) hx hb dX1_take_19 hl (by decide) rfl (fun ls hl => ?_)
        refine lv_iconst (v := nI 0) hx hb dX1_take_21 (by decide) ?_
        refine lv_istore (lv' := [(6, .int (nI (0))), (5, .ref (gR i)), (0, .ref h0), (1, .ref b1), (2, .ref b2), (3, .ref b3), (4, .int (nI (i)))]) hx hb dX1_take_22 hl (by decide) rfl (fun ls hl => ?_)
        have lp2 : ∀ (k2 : Nat) (b : Nat) (F : Nat → Nat), (b + k2 = n) → (∀ j, F j = if j < b then (fun j => tm j / 2 ^ i % 2) j else f (gR i) j) → ∀ (H : Heap) (locs : List Loc), va_P (dC, dI) vwCl (([(h0, .inr (2, [.int (nI (n)), .int (nI (q)), .ref a1, v3, v4, v5, v6])), (a1, .inl (cG, n, .inr (.inr (.inr (.inr (fun j => some (gR j))))))), (b1, .inl (cI, n, .inl (fun j => nI (tm j)))), (b2, .inl (cI, n, .inl (fun j => nI (st j)))), (b3, .inl (cI, n, .inl (fun j => nI (wt j))))] : va_W) ++ va_pl L (pI cI pl (va_up f (gR i) F))) H → va_D A (([(h0, .inr (2, [.int (nI (n)), .int (nI (q)), .ref a1, v3, v4, v5, v6])), (a1, .inl (cG, n, .inr (.inr (.inr (.inr (fun j => some (gR j))))))), (b1, .inl (cI, n, .inl (fun j => nI (tm j)))), (b2, .inl (cI, n, .inl (fun j => nI (st j)))), (b3, .inl (cI, n, .inl (fun j => nI (wt j))))] : va_W) ++ va_pl L (pI cI pl (va_up f (gR i) F))) → va_S A s.heap H locs → ∀ (ls : Array Slot), lv_has ls 7 [(0, .ref h0), (1, .ref b1), (2, .ref b2), (3, .ref b3), (4, .int (nI (i))), (5, .ref (gR i)), (6, .int (nI (b)))] → W zp l ze (headSpec wsX1_take ({ frames := 0, cells := 0, slots := 0, locals := 0 })).room s m args below meth zc H locs 0 0 Q (F0 m 24 ls []) := by
          intro k2
          induction k2 with
          | zero =>
            intro b F hb2 hF H locs hP hD hS ls hl
            refine lv_iload hx hb dX1_take_24 (lv_at hl 6 rfl) ?_
            refine lv_aload_n hx hb dX1_take_26 rfl (lv_at hl 0 rfl) ?_
            refine va_get (D := (dC, dI)) (ci := 2) (v := .int (nI (n))) (C := RX1) (T := TX1) (N := 7) hx hb hts hinX1 hown hK hP 0 rfl rfl 0 (by decide) hf9 (fun _ h9 => h9) rfl dX1_take_27 ?_
            refine lv_icmp_ge (tgt := 53) hx hb dX1_take_30 (by decide) (fun c2 => ?_) (fun c2 => ?_)
            · skip
              have c2 : n ≤ b := (nI_leI (a := n) (b := b) (by omega) (by omega)).mp c2
              have e1 := hs0 i (by omega)
              have e2 := hw0 i (by omega)
              have hbn : b = n := by omega
              refine lv_aload hx hb dX1_take_53 (lv_at hl 5 rfl) ?_
              refine lv_aload_n hx hb dX1_take_55 rfl (lv_at hl 0 rfl) ?_
              refine va_get (D := (dC, dI)) (ci := 2) (v := .int (nI (n))) (C := RX1) (T := TX1) (N := 7) hx hb hts hinX1 hown hK hP 0 rfl rfl 0 (by decide) hf9 (fun _ h9 => h9) rfl dX1_take_56 ?_
              refine lv_aload_n hx hb dX1_take_59 rfl (lv_at hl 3 rfl) ?_
              refine lv_iload hx hb dX1_take_60 (lv_at hl 4 rfl) ?_
              refine ra_ld (g := nI) (F := wt) hx hb hK hP 4 0 rfl rfl (by omega) (by omega) dX1_take_62 ?_
              refine lv_aload_n hx hb dX1_take_63 rfl (lv_at hl 2 rfl) ?_
              refine lv_iload hx hb dX1_take_64 (lv_at hl 4 rfl) ?_
              refine ra_ld (g := nI) (F := st) hx hb hK hP 3 0 rfl rfl (by omega) (by omega) dX1_take_66 ?_
              refine lv_isub hx hb dX1_take_67 ?_
              refine tp_i (y := nI (wt i) - nI (st i)) (rfl) ?_
              refine lv_aload_n hx hb dX1_take_68 rfl (lv_at hl 0 rfl) ?_
              refine va_get (D := (dC, dI)) (ci := 2) (v := .int (nI (q))) (C := RX1) (T := TX1) (N := 7) hx hb hts hinX1 hown hK hP 0 rfl rfl 1 (by decide) hf15 (fun _ h9 => h9) rfl dX1_take_69 ?_
              refine lv_iadd hx hb dX1_take_72 ?_
              refine tp_i (y := nI (wt i + q - st i)) (nI_smq (by omega)) ?_
              refine lv_aload_n hx hb dX1_take_73 rfl (lv_at hl 0 rfl) ?_
              refine va_get (D := (dC, dI)) (ci := 2) (v := .int (nI (q))) (C := RX1) (T := TX1) (N := 7) hx hb hts hinX1 hown hK hP 0 rfl rfl 1 (by decide) hf15 (fun _ h9 => h9) rfl dX1_take_74 ?_
              refine lv_irem hx hb dX1_take_77 (nI_ne0 (by omega) (by omega)) ?_
              refine tp_i (y := nI ((wt i + q - st i) % q)) (pk_rem (by omega) (by omega) (by omega)) ?_
              refine rp_st (v := (wt i + q - st i) % q) hx hb hK hP hD hS 0 rfl (gi.1) (by omega) (by omega) dX1_take_78 (fun H locs hP hD hS => ?_)
              have hP : va_P (dC, dI) vwCl (([(h0, .inr (2, [.int (nI (n)), .int (nI (q)), .ref a1, v3, v4, v5, v6])), (a1, .inl (cG, n, .inr (.inr (.inr (.inr (fun j => some (gR j))))))), (b1, .inl (cI, n, .inl (fun j => nI (tm j)))), (b2, .inl (cI, n, .inl (fun j => nI (st j)))), (b3, .inl (cI, n, .inl (fun j => nI (wt j))))] : va_W) ++ va_pl L (pI cI pl (va_up (va_up f (gR i) F) (gR i) (va_up ((va_up f (gR i) F) (gR i)) n ((wt i + q - st i) % q))))) H := hP
              have hD : va_D A (([(h0, .inr (2, [.int (nI (n)), .int (nI (q)), .ref a1, v3, v4, v5, v6])), (a1, .inl (cG, n, .inr (.inr (.inr (.inr (fun j => some (gR j))))))), (b1, .inl (cI, n, .inl (fun j => nI (tm j)))), (b2, .inl (cI, n, .inl (fun j => nI (st j)))), (b3, .inl (cI, n, .inl (fun j => nI (wt j))))] : va_W) ++ va_pl L (pI cI pl (va_up (va_up f (gR i) F) (gR i) (va_up ((va_up f (gR i) F) (gR i)) n ((wt i + q - st i) % q))))) := hD
              have e9 : va_up (va_up f (gR i) F) (gR i) (va_up ((va_up f (gR i) F) (gR i)) n ((wt i + q - st i) % q)) = va_up f (gR i) (va_up F n ((wt i + q - st i) % q)) := by rw [up_at, up_up]
              rw [e9] at hP hD
              have hP : va_P (dC, dI) vwCl (([(h0, .inr (2, [.int (nI (n)), .int (nI (q)), .ref a1, v3, v4, v5, v6])), (a1, .inl (cG, n, .inr (.inr (.inr (.inr (fun j => some (gR j))))))), (b1, .inl (cI, n, .inl (fun j => nI (tm j)))), (b2, .inl (cI, n, .inl (fun j => nI (st j)))), (b3, .inl (cI, n, .inl (fun j => nI (wt j))))] : va_W) ++ va_pl L (pI cI pl (va_up f (gR i) (va_up F n ((wt i + q - st i) % q))))) H := hP
              have hD : va_D A (([(h0, .inr (2, [.int (nI (n)), .int (nI (q)), .ref a1, v3, v4, v5, v6])), (a1, .inl (cG, n, .inr (.inr (.inr (.inr (fun j => some (gR j))))))), (b1, .inl (cI, n, .inl (fun j => nI (tm j)))), (b2, .inl (cI, n, .inl (fun j => nI (st j)))), (b3, .inl (cI, n, .inl (fun j => nI (wt j))))] : va_W) ++ va_pl L (pI cI pl (va_up f (gR i) (va_up F n ((wt i + q - st i) % q))))) := hD
              refine lv_iinc (v := nI (i + 1)) (lv' := [(4, .int (nI (i + 1))), (0, .ref h0), (1, .ref b1), (2, .ref b2), (3, .ref b3), (5, .ref (gR i)), (6, .int (nI (b)))]) hx hb dX1_take_79 hl (k := 4) rfl (nI_1 _) (by decide) rfl (fun ls hl => ?_)
              refine lv_goto (tgt := 3) hx hb dX1_take_82 (by decide) ?_
              exact ih (i + 1) (va_up f (gR i) (va_up F n ((wt i + q - st i) % q))) (by omega) (fun a ha j hj => by
                    by_cases e : a = i
                    · subst e; rw [up_at, up_of _ _ (by omega), hF j, if_pos (by omega)]
                    · rw [up_of _ _ (fun h => e (g3 _ _ (by omega) (by omega) h))]; exact h1 a (by omega) j hj) (fun a ha => by
                    by_cases e : a = i
                    · subst e; rw [up_at, up_at]
                    · rw [up_of _ _ (fun h => e (g3 _ _ (by omega) (by omega) h))]; exact h2 a (by omega)) _ _ hP hD hS ls (lv_sub hl [1, 2, 3, 4, 0] rfl)
            · skip
              have c2 : b < n := Nat.not_le.mp (fun h => c2 ((nI_leI (a := n) (b := b) (by omega) (by omega)).mpr h))
              exact absurd c2 (by omega)
          | succ k2 ih2 =>
            intro b F hb2 hF H locs hP hD hS ls hl
            refine lv_iload hx hb dX1_take_24 (lv_at hl 6 rfl) ?_
            refine lv_aload_n hx hb dX1_take_26 rfl (lv_at hl 0 rfl) ?_
            refine va_get (D := (dC, dI)) (ci := 2) (v := .int (nI (n))) (C := RX1) (T := TX1) (N := 7) hx hb hts hinX1 hown hK hP 0 rfl rfl 0 (by decide) hf9 (fun _ h9 => h9) rfl dX1_take_27 ?_
            refine lv_icmp_ge (tgt := 53) hx hb dX1_take_30 (by decide) (fun c2 => ?_) (fun c2 => ?_)
            · skip
              have c2 : n ≤ b := (nI_leI (a := n) (b := b) (by omega) (by omega)).mp c2
              exact absurd c2 (by omega)
            · skip
              have c2 : b < n := Nat.not_le.mp (fun h => c2 ((nI_leI (a := n) (b := b) (by omega) (by omega)).mpr h))
              have e1 := ht0 b (by omega)
              have e4 : tm b / 2 ^ i ≤ tm b := Nat.div_le_self _ _
              refine lv_aload hx hb dX1_take_33 (lv_at hl 5 rfl) ?_
              refine lv_iload hx hb dX1_take_35 (lv_at hl 6 rfl) ?_
              refine lv_aload_n hx hb dX1_take_37 rfl (lv_at hl 1 rfl) ?_
              refine lv_iload hx hb dX1_take_38 (lv_at hl 6 rfl) ?_
              refine ra_ld (g := nI) (F := tm) hx hb hK hP 2 0 rfl rfl (by omega) (by omega) dX1_take_40 ?_
              refine lv_iload hx hb dX1_take_41 (lv_at hl 4 rfl) ?_
              refine lv_ishr hx hb dX1_take_43 ?_
              refine tp_i (y := nI ((tm b) / 2 ^ i)) (pk_shrN (by omega) _ _ (s_l _ (by omega))) ?_
              refine lv_iconst (v := nI 1) hx hb dX1_take_44 (by decide) ?_
              refine lv_iand hx hb dX1_take_45 ?_
              refine tp_i (y := nI (((tm b) / 2 ^ i) % 2)) (pk_andN (by omega) 1 (by decide)) ?_
              refine rp_st (v := ((tm b) / 2 ^ i) % 2) hx hb hK hP hD hS 0 rfl (gi.1) (by omega) (by omega) dX1_take_46 (fun H locs hP hD hS => ?_)
              have hP : va_P (dC, dI) vwCl (([(h0, .inr (2, [.int (nI (n)), .int (nI (q)), .ref a1, v3, v4, v5, v6])), (a1, .inl (cG, n, .inr (.inr (.inr (.inr (fun j => some (gR j))))))), (b1, .inl (cI, n, .inl (fun j => nI (tm j)))), (b2, .inl (cI, n, .inl (fun j => nI (st j)))), (b3, .inl (cI, n, .inl (fun j => nI (wt j))))] : va_W) ++ va_pl L (pI cI pl (va_up (va_up f (gR i) F) (gR i) (va_up ((va_up f (gR i) F) (gR i)) b (((tm b) / 2 ^ i) % 2))))) H := hP
              have hD : va_D A (([(h0, .inr (2, [.int (nI (n)), .int (nI (q)), .ref a1, v3, v4, v5, v6])), (a1, .inl (cG, n, .inr (.inr (.inr (.inr (fun j => some (gR j))))))), (b1, .inl (cI, n, .inl (fun j => nI (tm j)))), (b2, .inl (cI, n, .inl (fun j => nI (st j)))), (b3, .inl (cI, n, .inl (fun j => nI (wt j))))] : va_W) ++ va_pl L (pI cI pl (va_up (va_up f (gR i) F) (gR i) (va_up ((va_up f (gR i) F) (gR i)) b (((tm b) / 2 ^ i) % 2))))) := hD
              have e9 : va_up (va_up f (gR i) F) (gR i) (va_up ((va_up f (gR i) F) (gR i)) b (((tm b) / 2 ^ i) % 2)) = va_up f (gR i) (va_up F b (tm b / 2 ^ i % 2)) := by rw [up_at, up_up]
              rw [e9] at hP hD
              have hP : va_P (dC, dI) vwCl (([(h0, .inr (2, [.int (nI (n)), .int (nI (q)), .ref a1, v3, v4, v5, v6])), (a1, .inl (cG, n, .inr (.inr (.inr (.inr (fun j => some (gR j))))))), (b1, .inl (cI, n, .inl (fun j => nI (tm j)))), (b2, .inl (cI, n, .inl (fun j => nI (st j)))), (b3, .inl (cI, n, .inl (fun j => nI (wt j))))] : va_W) ++ va_pl L (pI cI pl (va_up f (gR i) (va_up F b (tm b / 2 ^ i % 2))))) H := hP
              have hD : va_D A (([(h0, .inr (2, [.int (nI (n)), .int (nI (q)), .ref a1, v3, v4, v5, v6])), (a1, .inl (cG, n, .inr (.inr (.inr (.inr (fun j => some (gR j))))))), (b1, .inl (cI, n, .inl (fun j => nI (tm j)))), (b2, .inl (cI, n, .inl (fun j => nI (st j)))), (b3, .inl (cI, n, .inl (fun j => nI (wt j))))] : va_W) ++ va_pl L (pI cI pl (va_up f (gR i) (va_up F b (tm b / 2 ^ i % 2))))) := hD
              refine lv_iinc (v := nI (b + 1)) (lv' := [(6, .int (nI (b + 1))), (0, .ref h0), (1, .ref b1), (2, .ref b2), (3, .ref b3), (4, .int (nI (i))), (5, .ref (gR i))]) hx hb dX1_take_47 hl (k := 6) rfl (nI_1 _) (by decide) rfl (fun ls hl => ?_)
              refine lv_goto (tgt := 24) hx hb dX1_take_50 (by decide) ?_
              exact ih2 (b + 1) (va_up F b (tm b / 2 ^ i % 2)) (by omega) (lp_step hF rfl) _ _ hP hD hS ls (lv_sub hl [1, 2, 3, 4, 5, 6, 0] rfl)
        have hP : va_P (dC, dI) vwCl (([(h0, .inr (2, [.int (nI (n)), .int (nI (q)), .ref a1, v3, v4, v5, v6])), (a1, .inl (cG, n, .inr (.inr (.inr (.inr (fun j => some (gR j))))))), (b1, .inl (cI, n, .inl (fun j => nI (tm j)))), (b2, .inl (cI, n, .inl (fun j => nI (st j)))), (b3, .inl (cI, n, .inl (fun j => nI (wt j))))] : va_W) ++ va_pl L (pI cI pl (va_up f (gR i) (f (gR i))))) H := by rw [up_id]; exact hP
        have hD : va_D A (([(h0, .inr (2, [.int (nI (n)), .int (nI (q)), .ref a1, v3, v4, v5, v6])), (a1, .inl (cG, n, .inr (.inr (.inr (.inr (fun j => some (gR j))))))), (b1, .inl (cI, n, .inl (fun j => nI (tm j)))), (b2, .inl (cI, n, .inl (fun j => nI (st j)))), (b3, .inl (cI, n, .inl (fun j => nI (wt j))))] : va_W) ++ va_pl L (pI cI pl (va_up f (gR i) (f (gR i))))) := by rw [up_id]; exact hD
        exact lp2 n 0 (f (gR i)) (by omega) (lp_zero _ _) _ _ hP hD hS ls (lv_sub hl [2, 3, 4, 5, 6, 1, 0] rfl)
  exact lp n 0 pr (by omega) (fun a h => absurd h (by omega)) (fun a h => absurd h (by omega)) _ _ hP hD hS ls (lv_sub hl [1, 2, 3, 4, 0] rfl)

set_option maxHeartbeats 4000000 in
set_option maxRecDepth 100000 in
theorem c_X0_become (l : Launch) (dC : Nat → ClassId) (dI : Nat → Nat → Nat) (sz : Nat) (h0 a1 len : Nat) (dg : Nat → Nat) (cI : ClassId) (d : Nat)  : Met l yX0_become wsX0_become ({ frames := 0, cells := 0, slots := 0, locals := 0 }) (va_Pc [.ref h0, .int (nI (d))] (fun U => U.heap.size = sz ∧ va_P (dC, dI) vwCl [(h0, .inr (1, [.ref a1, .int (nI (len))])), (a1, .inl (cI, 26, .inl (fun j => nI (dg j))))] U.heap ∧ va_K (dC, dI) vwCl [(cI, .int)] U ∧ va_D (fun _ => True) [(h0, .inr (1, [.ref a1, .int (nI (len))])), (a1, .inl (cI, 26, .inl (fun j => nI (dg j))))])) (va_Qv (fun _ : Unit => True) (fun _ t => va_P (dC, dI) vwCl [(h0, .inr (1, [.ref a1, .int (nI (1))])), (a1, .inl (cI, 26, .inl (fun j => nI ((va_up dg 0 d) j))))] t.heap ∧ va_K (dC, dI) vwCl [(cI, .int)] t ∧ va_D (va_A [(h0, .inr (1, [.ref a1, .int (nI (len))])), (a1, .inl (cI, 26, .inl (fun j => nI (dg j))))] sz) [(h0, .inr (1, [.ref a1, .int (nI (1))])), (a1, .inl (cI, 26, .inl (fun j => nI ((va_up dg 0 d) j))))]) (va_A [(h0, .inr (1, [.ref a1, .int (nI (len))])), (a1, .inl (cI, 26, .inl (fun j => nI (dg j))))] sz)) 0 0 (va_A [(h0, .inr (1, [.ref a1, .int (nI (len))])), (a1, .inl (cI, 26, .inl (fun j => nI (dg j))))] sz) := by
  refine Met.ofW (cc := cX0_become) (maxL := 2) (ret := none) (by decide) rfl ?_
  intro zp ze s m args below meth zc s₁ B hml hv
  obtain ⟨hargs, hsz, hP, hK, hD0⟩ := hv
  have hx := B.exec
  have hb := B.bytes
  have hr := B.returns
  have hts := atoms_spec (ws := wsX0_become) B.pre
  have hown : s.vm.findClass RX0 = some m.cls := findClass_of_methodNamed B.named
  have hlocks := B.notSynchronized
  subst hsz
  obtain ⟨Q, hQ⟩ : ∃ Q, Q = MQ below (va_Qv (fun _ : Unit => True) (fun _ t => va_P (dC, dI) vwCl [(h0, .inr (1, [.ref a1, .int (nI (1))])), (a1, .inl (cI, 26, .inl (fun j => nI ((va_up dg 0 d) j))))] t.heap ∧ va_K (dC, dI) vwCl [(cI, .int)] t ∧ va_D (va_A [(h0, .inr (1, [.ref a1, .int (nI (len))])), (a1, .inl (cI, 26, .inl (fun j => nI (dg j))))] s.heap.size) [(h0, .inr (1, [.ref a1, .int (nI (1))])), (a1, .inl (cI, 26, .inl (fun j => nI ((va_up dg 0 d) j))))]) (va_A [(h0, .inr (1, [.ref a1, .int (nI (len))])), (a1, .inl (cI, 26, .inl (fun j => nI (dg j))))] s.heap.size)) args s 0 0 (va_A [(h0, .inr (1, [.ref a1, .int (nI (len))])), (a1, .inl (cI, 26, .inl (fun j => nI (dg j))))] s.heap.size) := ⟨_, rfl⟩
  rw [← hQ]
  have hD := hD0.self (sz := s.heap.size)
  generalize hAe : (va_A [(h0, .inr (1, [.ref a1, .int (nI (len))])), (a1, .inl (cI, 26, .inl (fun j => nI (dg j))))] s.heap.size) = A at hD hQ
  have hA : ∀ q : Nat, s.heap.size ≤ q → A q := fun q h => by rw [← hAe]; exact Or.inr h
  have hS : va_S A s.heap s.heap [] := va_S.rf
  have hl := lv_entry ([.ref h0, .int (nI (d))]) (n := 2) (Nat.le_of_ble_eq_true rfl)
  generalize hen : entryFrame m args 2 = fr
  rw [hargs, lg_entry_eq] at hen
  subst hen
  generalize (lg_sl ([.ref h0, .int (nI (d))]) ++ List.replicate (2 - (lg_sl ([.ref h0, .int (nI (d))])).length) Slot.unset).toArray = ls at hl ⊢
  have hl : lv_has ls 2 [(0, .ref h0), (1, .int (nI (d)))] := hl
  have hinX0 : ∀ w ∈ wsX00, w ∈ wsX0_become := by decide +kernel
  have hf11 := hts (.fieldLink RX0 11 "LightRows$Decimal" "digits" "[I") (by decide +kernel)
  have hf15 := hts (.fieldLink RX0 15 "LightRows$Decimal" "length" "I") (by decide +kernel)
  refine lv_aload_n hx hb dX0_become_0 rfl (lv_at hl 0 rfl) ?_
  refine va_get (D := (dC, dI)) (ci := 1) (v := .ref a1) (C := RX0) (T := TX0) (N := 2) hx hb hts hinX0 hown hK hP 0 rfl rfl 0 (by decide) hf11 (fun _ h9 => h9) rfl dX0_become_1 ?_
  refine lv_iconst (v := nI 0) hx hb dX0_become_4 (by decide) ?_
  refine lv_iload_n hx hb dX0_become_5 rfl (lv_at hl 1 rfl) ?_
  refine ra_st (g := nI) (F := dg) (v := d) hx hb hK hP hD hS 1 0 rfl rfl (by omega) (by omega) dX0_become_6 (fun H locs hP hD hS => ?_)
  have hP : va_P (dC, dI) vwCl [(h0, .inr (1, [.ref a1, .int (nI (len))])), (a1, .inl (cI, 26, .inl (fun j => nI ((va_up dg 0 (d)) j))))] H := hP
  have hD : va_D A [(h0, .inr (1, [.ref a1, .int (nI (len))])), (a1, .inl (cI, 26, .inl (fun j => nI ((va_up dg 0 (d)) j))))] := hD
  refine lv_aload_n hx hb dX0_become_7 rfl (lv_at hl 0 rfl) ?_
  refine lv_iconst (v := nI 1) hx hb dX0_become_8 (by decide) ?_
  refine va_put (D := (dC, dI)) (ci := 1) (v := .int (nI (1))) (ty := .int) (C := RX0) (T := TX0) (N := 2) hx hb hts hinX0 tyX0 tyX0_ok nmX0 hown hK hP hD hS 0 rfl rfl 1 (by decide) hf15 (fun _ h9 => h9) rfl (by decide +kernel) rfl rfl (Nat.le_of_ble_eq_true rfl) dX0_become_9 (fun H locs hP hD hS => ?_)
  have hP : va_P (dC, dI) vwCl [(h0, .inr (1, [.ref a1, .int (nI (1))])), (a1, .inl (cI, 26, .inl (fun j => nI ((va_up dg 0 (d)) j))))] H := hP
  have hD : va_D A [(h0, .inr (1, [.ref a1, .int (nI (1))])), (a1, .inl (cI, 26, .inl (fun j => nI ((va_up dg 0 (d)) j))))] := hD
  rw [hQ]
  exact W.vret hx hb hr (fun t ht hW => ⟨⟨(), rfl, trivial, by rw [ht]; exact hP, va_K.moved hW.alike hK, hD⟩, hS.F ht⟩) hS.2.2 dX0_become_12

set_option maxHeartbeats 4000000 in
set_option maxRecDepth 100000 in
theorem c_X0_multiply (l : Launch) (dC : Nat → ClassId) (dI : Nat → Nat → Nat) (sz : Nat) (h0 a1 len : Nat) (dg : Nat → Nat) (cI : ClassId) (x : Nat) (hl0 : len ≤ 26) (hx0 : x < 100) (hd0 : ∀ j, j < len → dg j < 10) : Met l yX0_multiply wsX0_multiply ({ frames := 0, cells := 0, slots := 0, locals := 0 }) (va_Pc [.ref h0, .int (nI (x))] (fun U => U.heap.size = sz ∧ va_P (dC, dI) vwCl [(h0, .inr (1, [.ref a1, .int (nI (len))])), (a1, .inl (cI, 26, .inl (fun j => nI (dg j))))] U.heap ∧ va_K (dC, dI) vwCl [(cI, .int)] U ∧ va_D (fun _ => True) [(h0, .inr (1, [.ref a1, .int (nI (len))])), (a1, .inl (cI, 26, .inl (fun j => nI (dg j))))])) (va_Qv (fun _ : Unit => True) (fun _ t => va_P (dC, dI) vwCl [(h0, .inr (1, [.ref a1, .int (nI ((mulE x dg len).2))])), (a1, .inl (cI, 26, .inl (fun j => nI (((mulE x dg len).1) j))))] t.heap ∧ va_K (dC, dI) vwCl [(cI, .int)] t ∧ va_D (va_A [(h0, .inr (1, [.ref a1, .int (nI (len))])), (a1, .inl (cI, 26, .inl (fun j => nI (dg j))))] sz) [(h0, .inr (1, [.ref a1, .int (nI ((mulE x dg len).2))])), (a1, .inl (cI, 26, .inl (fun j => nI (((mulE x dg len).1) j))))]) (va_A [(h0, .inr (1, [.ref a1, .int (nI (len))])), (a1, .inl (cI, 26, .inl (fun j => nI (dg j))))] sz)) 0 0 (va_A [(h0, .inr (1, [.ref a1, .int (nI (len))])), (a1, .inl (cI, 26, .inl (fun j => nI (dg j))))] sz) := by
  refine Met.ofW (cc := cX0_multiply) (maxL := 5) (ret := none) (by decide) rfl ?_
  intro zp ze s m args below meth zc s₁ B hml hv
  obtain ⟨hargs, hsz, hP, hK, hD0⟩ := hv
  have hx := B.exec
  have hb := B.bytes
  have hr := B.returns
  have hts := atoms_spec (ws := wsX0_multiply) B.pre
  have hown : s.vm.findClass RX0 = some m.cls := findClass_of_methodNamed B.named
  have hlocks := B.notSynchronized
  subst hsz
  obtain ⟨Q, hQ⟩ : ∃ Q, Q = MQ below (va_Qv (fun _ : Unit => True) (fun _ t => va_P (dC, dI) vwCl [(h0, .inr (1, [.ref a1, .int (nI ((mulE x dg len).2))])), (a1, .inl (cI, 26, .inl (fun j => nI (((mulE x dg len).1) j))))] t.heap ∧ va_K (dC, dI) vwCl [(cI, .int)] t ∧ va_D (va_A [(h0, .inr (1, [.ref a1, .int (nI (len))])), (a1, .inl (cI, 26, .inl (fun j => nI (dg j))))] s.heap.size) [(h0, .inr (1, [.ref a1, .int (nI ((mulE x dg len).2))])), (a1, .inl (cI, 26, .inl (fun j => nI (((mulE x dg len).1) j))))]) (va_A [(h0, .inr (1, [.ref a1, .int (nI (len))])), (a1, .inl (cI, 26, .inl (fun j => nI (dg j))))] s.heap.size)) args s 0 0 (va_A [(h0, .inr (1, [.ref a1, .int (nI (len))])), (a1, .inl (cI, 26, .inl (fun j => nI (dg j))))] s.heap.size) := ⟨_, rfl⟩
  rw [← hQ]
  have hD := hD0.self (sz := s.heap.size)
  generalize hAe : (va_A [(h0, .inr (1, [.ref a1, .int (nI (len))])), (a1, .inl (cI, 26, .inl (fun j => nI (dg j))))] s.heap.size) = A at hD hQ
  have hA : ∀ q : Nat, s.heap.size ≤ q → A q := fun q h => by rw [← hAe]; exact Or.inr h
  have hS : va_S A s.heap s.heap [] := va_S.rf
  have hl := lv_entry ([.ref h0, .int (nI (x))]) (n := 5) (Nat.le_of_ble_eq_true rfl)
  generalize hen : entryFrame m args 5 = fr
  rw [hargs, lg_entry_eq] at hen
  subst hen
  generalize (lg_sl ([.ref h0, .int (nI (x))]) ++ List.replicate (5 - (lg_sl ([.ref h0, .int (nI (x))])).length) Slot.unset).toArray = ls at hl ⊢
  have hl : lv_has ls 5 [(0, .ref h0), (1, .int (nI (x)))] := hl
  have hinX0 : ∀ w ∈ wsX00, w ∈ wsX0_multiply := by decide +kernel
  have hf11 := hts (.fieldLink RX0 11 "LightRows$Decimal" "digits" "[I") (by decide +kernel)
  have hf15 := hts (.fieldLink RX0 15 "LightRows$Decimal" "length" "I") (by decide +kernel)
  refine lv_iconst (v := nI 0) hx hb dX0_multiply_0 (by decide) ?_
  refine lv_istore_n (lv' := [(2, .int (nI (0))), (0, .ref h0), (1, .int (nI (x)))]) hx hb dX0_multiply_1 rfl hl (by decide) rfl (fun ls hl => ?_)
  refine lv_iconst (v := nI 0) hx hb dX0_multiply_2 (by decide) ?_
  refine lv_istore_n (lv' := [(3, .int (nI (0))), (2, .int (nI (0))), (0, .ref h0), (1, .int (nI (x)))]) hx hb dX0_multiply_3 rfl hl (by decide) rfl (fun ls hl => ?_)
  have lp : ∀ (k : Nat) (i : Nat) (z : (Nat → Nat) × Nat), (i + k = len) → (z = mulD x dg i) → ∀ (H : Heap) (locs : List Loc), va_P (dC, dI) vwCl [(h0, .inr (1, [.ref a1, .int (nI (len))])), (a1, .inl (cI, 26, .inl (fun j => nI (z.1 j))))] H → va_D A [(h0, .inr (1, [.ref a1, .int (nI (len))])), (a1, .inl (cI, 26, .inl (fun j => nI (z.1 j))))] → va_S A s.heap H locs → ∀ (ls : Array Slot), lv_has ls 5 [(0, .ref h0), (1, .int (nI (x))), (2, .int (nI (z.2))), (3, .int (nI (i)))] → W zp l ze (headSpec wsX0_multiply ({ frames := 0, cells := 0, slots := 0, locals := 0 })).room s m args below meth zc H locs 0 0 Q (F0 m 4 ls []) := by
    intro k
    induction k with
    | zero =>
      intro i z hi hz H locs hP hD hS ls hl
      have hc : z.2 ≤ x := by rw [hz]; exact mulD_c hd0 i (by omega)
      refine lv_iload_n hx hb dX0_multiply_4 rfl (lv_at hl 3 rfl) ?_
      refine lv_aload_n hx hb dX0_multiply_5 rfl (lv_at hl 0 rfl) ?_
      refine va_get (D := (dC, dI)) (ci := 1) (v := .int (nI (len))) (C := RX0) (T := TX0) (N := 2) hx hb hts hinX0 hown hK hP 0 rfl rfl 1 (by decide) hf15 (fun _ h9 => h9) rfl dX0_multiply_6 ?_
      refine lv_icmp_ge (tgt := 47) hx hb dX0_multiply_9 (by decide) (fun c => ?_) (fun c => ?_)
      · skip
        have c : len ≤ i := (nI_leI (a := len) (b := i) (by omega) (by omega)).mp c
        obtain rfl : len = i := by omega
        refine lv_iload_n hx hb dX0_multiply_47 rfl (lv_at hl 2 rfl) ?_
        refine lv_if_le (tgt := 80) hx hb dX0_multiply_48 (by decide) (fun c2 => ?_) (fun c2 => ?_)
        · skip
          have c2 : z.2 ≤ 0 := (nI_leI (a := z.2) (b := 0) (by omega) (by omega)).mp c2
          have em : mulE x dg len = (z.1, len) := by unfold mulE; rw [← hz, if_neg (by omega)]
          rw [em] at hQ
          rw [hQ]
          exact W.vret hx hb hr (fun t ht hW => ⟨⟨(), rfl, trivial, by rw [ht]; exact hP, va_K.moved hW.alike hK, hD⟩, hS.F ht⟩) hS.2.2 dX0_multiply_80
        · skip
          have c2 : 0 < z.2 := Nat.not_le.mp (fun h => c2 ((nI_leI (a := z.2) (b := 0) (by omega) (by omega)).mpr h))
          refine lv_aload_n hx hb dX0_multiply_51 rfl (lv_at hl 0 rfl) ?_
          refine va_get (D := (dC, dI)) (ci := 1) (v := .int (nI (len))) (C := RX0) (T := TX0) (N := 2) hx hb hts hinX0 hown hK hP 0 rfl rfl 1 (by decide) hf15 (fun _ h9 => h9) rfl dX0_multiply_52 ?_
          refine lv_bipush (v := nI 26) hx hb dX0_multiply_55 (by decide) ?_
          refine lv_icmp_ge (tgt := 80) hx hb dX0_multiply_57 (by decide) (fun c3 => ?_) (fun c3 => ?_)
          · skip
            have c3 : 26 ≤ len := (nI_leI (a := 26) (b := len) (by omega) (by omega)).mp c3
            have em : mulE x dg len = (z.1, len) := by unfold mulE; rw [← hz, if_neg (by omega)]
            rw [em] at hQ
            rw [hQ]
            exact W.vret hx hb hr (fun t ht hW => ⟨⟨(), rfl, trivial, by rw [ht]; exact hP, va_K.moved hW.alike hK, hD⟩, hS.F ht⟩) hS.2.2 dX0_multiply_80
          · skip
            have c3 : len < 26 := Nat.not_le.mp (fun h => c3 ((nI_leI (a := 26) (b := len) (by omega) (by omega)).mpr h))
            refine lv_aload_n hx hb dX0_multiply_60 rfl (lv_at hl 0 rfl) ?_
            refine va_get (D := (dC, dI)) (ci := 1) (v := .ref a1) (C := RX0) (T := TX0) (N := 2) hx hb hts hinX0 hown hK hP 0 rfl rfl 0 (by decide) hf11 (fun _ h9 => h9) rfl dX0_multiply_61 ?_
            refine lv_aload_n hx hb dX0_multiply_64 rfl (lv_at hl 0 rfl) ?_
            refine va_get (D := (dC, dI)) (ci := 1) (v := .int (nI (len))) (C := RX0) (T := TX0) (N := 2) hx hb hts hinX0 hown hK hP 0 rfl rfl 1 (by decide) hf15 (fun _ h9 => h9) rfl dX0_multiply_65 ?_
            refine lv_iload_n hx hb dX0_multiply_68 rfl (lv_at hl 2 rfl) ?_
            refine ra_st (g := nI) (F := z.1) (v := z.2) hx hb hK hP hD hS 1 0 rfl rfl (by omega) (by omega) dX0_multiply_69 (fun H locs hP hD hS => ?_)
            have hP : va_P (dC, dI) vwCl [(h0, .inr (1, [.ref a1, .int (nI (len))])), (a1, .inl (cI, 26, .inl (fun j => nI ((va_up z.1 len (z.2)) j))))] H := hP
            have hD : va_D A [(h0, .inr (1, [.ref a1, .int (nI (len))])), (a1, .inl (cI, 26, .inl (fun j => nI ((va_up z.1 len (z.2)) j))))] := hD
            refine lv_aload_n hx hb dX0_multiply_70 rfl (lv_at hl 0 rfl) ?_
            refine lv_dup hx hb dX0_multiply_71 rfl ?_
            refine va_get (D := (dC, dI)) (ci := 1) (v := .int (nI (len))) (C := RX0) (T := TX0) (N := 2) hx hb hts hinX0 hown hK hP 0 rfl rfl 1 (by decide) hf15 (fun _ h9 => h9) rfl dX0_multiply_72 ?_
            refine lv_iconst (v := nI 1) hx hb dX0_multiply_75 (by decide) ?_
            refine lv_iadd hx hb dX0_multiply_76 ?_
            refine tp_i (y := nI (len + 1)) (nI_add _ _) ?_
            refine va_put (D := (dC, dI)) (ci := 1) (v := .int (nI (len + 1))) (ty := .int) (C := RX0) (T := TX0) (N := 2) hx hb hts hinX0 tyX0 tyX0_ok nmX0 hown hK hP hD hS 0 rfl rfl 1 (by decide) hf15 (fun _ h9 => h9) rfl (by decide +kernel) rfl rfl (Nat.le_of_ble_eq_true rfl) dX0_multiply_77 (fun H locs hP hD hS => ?_)
            have hP : va_P (dC, dI) vwCl [(h0, .inr (1, [.ref a1, .int (nI (len + 1))])), (a1, .inl (cI, 26, .inl (fun j => nI ((va_up z.1 len (z.2)) j))))] H := hP
            have hD : va_D A [(h0, .inr (1, [.ref a1, .int (nI (len + 1))])), (a1, .inl (cI, 26, .inl (fun j => nI ((va_up z.1 len (z.2)) j))))] := hD
            have em : mulE x dg len = (va_up z.1 len z.2, len + 1) := by unfold mulE; rw [← hz, if_pos (by omega)]
            rw [em] at hQ
            rw [hQ]
            exact W.vret hx hb hr (fun t ht hW => ⟨⟨(), rfl, trivial, by rw [ht]; exact hP, va_K.moved hW.alike hK, hD⟩, hS.F ht⟩) hS.2.2 dX0_multiply_80
      · skip
        have c : i < len := Nat.not_le.mp (fun h => c ((nI_leI (a := len) (b := i) (by omega) (by omega)).mpr h))
        exact absurd c (by omega)
    | succ k ih =>
      intro i z hi hz H locs hP hD hS ls hl
      have hc : z.2 ≤ x := by rw [hz]; exact mulD_c hd0 i (by omega)
      refine lv_iload_n hx hb dX0_multiply_4 rfl (lv_at hl 3 rfl) ?_
      refine lv_aload_n hx hb dX0_multiply_5 rfl (lv_at hl 0 rfl) ?_
      refine va_get (D := (dC, dI)) (ci := 1) (v := .int (nI (len))) (C := RX0) (T := TX0) (N := 2) hx hb hts hinX0 hown hK hP 0 rfl rfl 1 (by decide) hf15 (fun _ h9 => h9) rfl dX0_multiply_6 ?_
      refine lv_icmp_ge (tgt := 47) hx hb dX0_multiply_9 (by decide) (fun c => ?_) (fun c => ?_)
      · skip
        have c : len ≤ i := (nI_leI (a := len) (b := i) (by omega) (by omega)).mp c
        exact absurd c (by omega)
      · skip
        have c : i < len := Nat.not_le.mp (fun h => c ((nI_leI (a := len) (b := i) (by omega) (by omega)).mpr h))
        have e1 : z.1 i = dg i := by rw [hz]; exact mulD_o i i (Nat.le_refl i)
        have e2 := hd0 i (by omega)
        have e3 : dg i * x ≤ 10 * 100 := Nat.mul_le_mul (by omega) (by omega)
        refine lv_aload_n hx hb dX0_multiply_12 rfl (lv_at hl 0 rfl) ?_
        refine va_get (D := (dC, dI)) (ci := 1) (v := .ref a1) (C := RX0) (T := TX0) (N := 2) hx hb hts hinX0 hown hK hP 0 rfl rfl 0 (by decide) hf11 (fun _ h9 => h9) rfl dX0_multiply_13 ?_
        refine lv_iload_n hx hb dX0_multiply_16 rfl (lv_at hl 3 rfl) ?_
        refine ra_ld (g := nI) (F := z.1) hx hb hK hP 1 0 rfl rfl (by omega) (by omega) dX0_multiply_17 ?_
        refine tp_i (y := nI (dg i)) (by rw [e1]) ?_
        refine lv_iload_n hx hb dX0_multiply_18 rfl (lv_at hl 1 rfl) ?_
        refine lv_imul hx hb dX0_multiply_19 ?_
        refine tp_i (y := nI ((dg i) * x)) (pk_mul _ _) ?_
        refine lv_iload_n hx hb dX0_multiply_20 rfl (lv_at hl 2 rfl) ?_
        refine lv_iadd hx hb dX0_multiply_21 ?_
        refine tp_i (y := nI (((dg i) * x) + z.2)) (nI_add _ _) ?_
        refine lv_istore (lv' := [(4, .int (nI (((dg i) * x) + z.2))), (0, .ref h0), (1, .int (nI (x))), (2, .int (nI (z.2))), (3, .int (nI (i)))]) hx hb dX0_multiply_22 hl (by decide) rfl (fun ls hl => ?_)
        refine lv_aload_n hx hb dX0_multiply_24 rfl (lv_at hl 1 rfl) ?_
        refine va_get (D := (dC, dI)) (ci := 1) (v := .ref a1) (C := RX0) (T := TX0) (N := 2) hx hb hts hinX0 hown hK hP 0 rfl rfl 0 (by decide) hf11 (fun _ h9 => h9) rfl dX0_multiply_25 ?_
        refine lv_iload_n hx hb dX0_multiply_28 rfl (lv_at hl 4 rfl) ?_
        refine lv_iload hx hb dX0_multiply_29 (lv_at hl 0 rfl) ?_
        refine lv_bipush (v := nI 10) hx hb dX0_multiply_31 (by decide) ?_
        refine lv_irem hx hb dX0_multiply_33 (nI_ne0 (by omega) (by omega)) ?_
        refine tp_i (y := nI ((((dg i) * x) + z.2) % 10)) (pk_rem (by omega) (by omega) (by omega)) ?_
        refine ra_st (g := nI) (F := z.1) (v := (((dg i) * x) + z.2) % 10) hx hb hK hP hD hS 1 0 rfl rfl (by omega) (by omega) dX0_multiply_34 (fun H locs hP hD hS => ?_)
        have hP : va_P (dC, dI) vwCl [(h0, .inr (1, [.ref a1, .int (nI (len))])), (a1, .inl (cI, 26, .inl (fun j => nI ((va_up z.1 i ((((dg i) * x) + z.2) % 10)) j))))] H := hP
        have hD : va_D A [(h0, .inr (1, [.ref a1, .int (nI (len))])), (a1, .inl (cI, 26, .inl (fun j => nI ((va_up z.1 i ((((dg i) * x) + z.2) % 10)) j))))] := hD
        refine lv_iload hx hb dX0_multiply_35 (lv_at hl 0 rfl) ?_
        refine lv_bipush (v := nI 10) hx hb dX0_multiply_37 (by decide) ?_
        refine lv_idiv hx hb dX0_multiply_39 (nI_ne0 (by omega) (by omega)) ?_
        refine tp_i (y := nI ((((dg i) * x) + z.2) / 10)) (pk_div (by omega) (by omega) (by omega)) ?_
        refine lv_istore_n (lv' := [(2, .int (nI ((((dg i) * x) + z.2) / 10))), (4, .int (nI (((dg i) * x) + z.2))), (0, .ref h0), (1, .int (nI (x))), (3, .int (nI (i)))]) hx hb dX0_multiply_40 rfl hl (by decide) rfl (fun ls hl => ?_)
        refine lv_iinc (v := nI (i + 1)) (lv' := [(3, .int (nI (i + 1))), (2, .int (nI ((((dg i) * x) + z.2) / 10))), (4, .int (nI (((dg i) * x) + z.2))), (0, .ref h0), (1, .int (nI (x)))]) hx hb dX0_multiply_41 hl (k := 4) rfl (nI_1 _) (by decide) rfl (fun ls hl => ?_)
        refine lv_goto (tgt := 4) hx hb dX0_multiply_44 (by decide) ?_
        exact ih (i + 1) (va_up z.1 i ((dg i * x + z.2) % 10), (dg i * x + z.2) / 10) (by omega) (by simp only [mulD, hz]) _ _ hP hD hS ls (lv_sub hl [3, 4, 1, 0] rfl)
  exact lp len 0 (dg, 0) (by omega) rfl _ _ hP hD hS ls (lv_sub hl [2, 3, 1, 0] rfl)

set_option maxHeartbeats 4000000 in
set_option maxRecDepth 100000 in
theorem c_X0_digit (l : Launch) (dC : Nat → ClassId) (dI : Nat → Nat → Nat) (sz : Nat) (h0 a1 len : Nat) (dg : Nat → Nat) (cI : ClassId) (x : Int32) (hl0 : len ≤ 26) : Met l yX0_digit wsX0_digit ({ frames := 0, cells := 0, slots := 0, locals := 0 }) (va_Pc [.ref h0, .int (x)] (fun U => U.heap.size = sz ∧ va_P (dC, dI) vwCl [(h0, .inr (1, [.ref a1, .int (nI (len))])), (a1, .inl (cI, 26, .inl (fun j => nI (dg j))))] U.heap ∧ va_K (dC, dI) vwCl [(cI, .int)] U ∧ va_D (fun _ => True) [(h0, .inr (1, [.ref a1, .int (nI (len))])), (a1, .inl (cI, 26, .inl (fun j => nI (dg j))))])) (va_Qi (fun (z : Int32) (_ : Unit) => z = if x < 0 ∨ nI len ≤ x then -1 else nI (dg x.toNatClampNeg)) (fun _ t => va_P (dC, dI) vwCl [(h0, .inr (1, [.ref a1, .int (nI (len))])), (a1, .inl (cI, 26, .inl (fun j => nI (dg j))))] t.heap ∧ va_K (dC, dI) vwCl [(cI, .int)] t ∧ va_D (va_A [(h0, .inr (1, [.ref a1, .int (nI (len))])), (a1, .inl (cI, 26, .inl (fun j => nI (dg j))))] sz) [(h0, .inr (1, [.ref a1, .int (nI (len))])), (a1, .inl (cI, 26, .inl (fun j => nI (dg j))))]) (va_A [(h0, .inr (1, [.ref a1, .int (nI (len))])), (a1, .inl (cI, 26, .inl (fun j => nI (dg j))))] sz)) 0 0 (va_A [(h0, .inr (1, [.ref a1, .int (nI (len))])), (a1, .inl (cI, 26, .inl (fun j => nI (dg j))))] sz) := by
  refine Met.ofW (cc := cX0_digit) (maxL := 2) (ret := (some .int)) (by decide) rfl ?_
  intro zp ze s m args below meth zc s₁ B hml hv
  obtain ⟨hargs, hsz, hP, hK, hD0⟩ := hv
  have hx := B.exec
  have hb := B.bytes
  have hr := B.returns
  have hts := atoms_spec (ws := wsX0_digit) B.pre
  have hown : s.vm.findClass RX0 = some m.cls := findClass_of_methodNamed B.named
  have hlocks := B.notSynchronized
  subst hsz
  obtain ⟨Q, hQ⟩ : ∃ Q, Q = MQ below (va_Qi (fun (z : Int32) (_ : Unit) => z = if x < 0 ∨ nI len ≤ x then -1 else nI (dg x.toNatClampNeg)) (fun _ t => va_P (dC, dI) vwCl [(h0, .inr (1, [.ref a1, .int (nI (len))])), (a1, .inl (cI, 26, .inl (fun j => nI (dg j))))] t.heap ∧ va_K (dC, dI) vwCl [(cI, .int)] t ∧ va_D (va_A [(h0, .inr (1, [.ref a1, .int (nI (len))])), (a1, .inl (cI, 26, .inl (fun j => nI (dg j))))] s.heap.size) [(h0, .inr (1, [.ref a1, .int (nI (len))])), (a1, .inl (cI, 26, .inl (fun j => nI (dg j))))]) (va_A [(h0, .inr (1, [.ref a1, .int (nI (len))])), (a1, .inl (cI, 26, .inl (fun j => nI (dg j))))] s.heap.size)) args s 0 0 (va_A [(h0, .inr (1, [.ref a1, .int (nI (len))])), (a1, .inl (cI, 26, .inl (fun j => nI (dg j))))] s.heap.size) := ⟨_, rfl⟩
  rw [← hQ]
  have hD := hD0.self (sz := s.heap.size)
  generalize hAe : (va_A [(h0, .inr (1, [.ref a1, .int (nI (len))])), (a1, .inl (cI, 26, .inl (fun j => nI (dg j))))] s.heap.size) = A at hD hQ
  have hA : ∀ q : Nat, s.heap.size ≤ q → A q := fun q h => by rw [← hAe]; exact Or.inr h
  have hS : va_S A s.heap s.heap [] := va_S.rf
  have hl := lv_entry ([.ref h0, .int (x)]) (n := 2) (Nat.le_of_ble_eq_true rfl)
  generalize hen : entryFrame m args 2 = fr
  rw [hargs, lg_entry_eq] at hen
  subst hen
  generalize (lg_sl ([.ref h0, .int (x)]) ++ List.replicate (2 - (lg_sl ([.ref h0, .int (x)])).length) Slot.unset).toArray = ls at hl ⊢
  have hl : lv_has ls 2 [(0, .ref h0), (1, .int (x))] := hl
  have hinX0 : ∀ w ∈ wsX00, w ∈ wsX0_digit := by decide +kernel
  have hf11 := hts (.fieldLink RX0 11 "LightRows$Decimal" "digits" "[I") (by decide +kernel)
  have hf15 := hts (.fieldLink RX0 15 "LightRows$Decimal" "length" "I") (by decide +kernel)
  refine lv_iload_n hx hb dX0_digit_0 rfl (lv_at hl 1 rfl) ?_
  refine lv_if_lt (tgt := 12) hx hb dX0_digit_1 (by decide) (fun c => ?_) (fun c => ?_)
  · skip
    refine lv_iconst (v := (-1)) hx hb dX0_digit_12 (by decide) ?_
    refine lv_goto (tgt := 22) hx hb dX0_digit_13 (by decide) ?_
    rw [hQ]
    exact W.iret (v := (-1)) hx hb hr (fun t ht hW => ⟨⟨_, (), rfl, by rw [if_pos (Or.inl c)], by rw [ht]; exact hP, va_K.moved hW.alike hK, hD⟩, hS.F ht⟩) hS.2.2 dX0_digit_22
  · skip
    refine lv_iload_n hx hb dX0_digit_4 rfl (lv_at hl 1 rfl) ?_
    refine lv_aload_n hx hb dX0_digit_5 rfl (lv_at hl 0 rfl) ?_
    refine va_get (D := (dC, dI)) (ci := 1) (v := .int (nI (len))) (C := RX0) (T := TX0) (N := 2) hx hb hts hinX0 hown hK hP 0 rfl rfl 1 (by decide) hf15 (fun _ h9 => h9) rfl dX0_digit_6 ?_
    refine lv_icmp_lt (tgt := 16) hx hb dX0_digit_9 (by decide) (fun c2 => ?_) (fun c2 => ?_)
    · skip
      obtain ⟨j, hj, rfl⟩ : ∃ j : Nat, j < len ∧ x = nI j := by
        rcases pk_ix x (n := len) (by omega) with h | h | h
        · exact absurd h c
        · exact absurd c2 (by rw [Int32.not_lt]; exact h)
        · exact h
      refine lv_aload_n hx hb dX0_digit_16 rfl (lv_at hl 0 rfl) ?_
      refine va_get (D := (dC, dI)) (ci := 1) (v := .ref a1) (C := RX0) (T := TX0) (N := 2) hx hb hts hinX0 hown hK hP 0 rfl rfl 0 (by decide) hf11 (fun _ h9 => h9) rfl dX0_digit_17 ?_
      refine lv_iload_n hx hb dX0_digit_20 rfl (lv_at hl 1 rfl) ?_
      refine ra_ld (g := nI) (F := dg) hx hb hK hP 1 0 rfl rfl (by omega) (by omega) dX0_digit_21 ?_
      rw [hQ]
      exact W.iret (v := nI (dg j)) hx hb hr (fun t ht hW => ⟨⟨_, (), rfl, by rw [if_neg (fun h => h.elim c (fun h => by rw [← Int32.not_lt] at h; exact h c2)), nI_clamp (by omega)], by rw [ht]; exact hP, va_K.moved hW.alike hK, hD⟩, hS.F ht⟩) hS.2.2 dX0_digit_22
    · skip
      refine lv_iconst (v := (-1)) hx hb dX0_digit_12 (by decide) ?_
      refine lv_goto (tgt := 22) hx hb dX0_digit_13 (by decide) ?_
      rw [hQ]
      exact W.iret (v := (-1)) hx hb hr (fun t ht hW => ⟨⟨_, (), rfl, by rw [if_pos (Or.inr (by rw [← Int32.not_lt]; exact c2))], by rw [ht]; exact hP, va_K.moved hW.alike hK, hD⟩, hS.F ht⟩) hS.2.2 dX0_digit_22

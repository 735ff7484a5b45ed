set_option maxHeartbeats 4000000 in
set_option maxRecDepth 100000 in
theorem c_X1_readQuietPatterns (l : Launch) (dC : Nat → ClassId) (dI : Nat → Nat → Nat) (sz : Nat) (h0 a1 a2 a3 n q bd fr : Nat) (gR gQ : Nat → Nat) (ro : Nat → Option Nat) (cG : ClassId) (cI : ClassId) (L : List Nat) (pl : Nat → Nat) (pr : Nat → Nat → Nat) (hn : n < 1000) (hok : eqOK n gR gQ L pl) (hq : 2 ≤ q) (hq2 : q < 100) (bx : ∀ i, i < n → ∀ j, j < n + 1 → pr (gR i) j < q) (hro : ∀ j, j < n → ∀ r, ro j = some r → r < n) : Met l yX1_readQuietPatterns wsX1_readQuietPatterns ({ frames := 1, cells := 0, slots := 0, locals := 24 }) (va_Pc [.ref h0] (fun U => U.heap.size = sz ∧ va_P (dC, dI) vwCl (([(h0, .inr (2, [.int (nI (n)), .int (nI (q)), .ref a1, .ref a2, .ref a3, .int (nI (bd)), .int (nI (fr))])), (a1, .inl (cG, n, .inr (.inr (.inr (.inr (fun j => some (gR j))))))), (a2, .inl (cI, n, .inl (fun j => oI (ro j)))), (a3, .inl (cG, n, .inr (.inr (.inr (.inr (fun j => some (gQ j)))))))] : va_W) ++ va_pl L (pI cI pl pr)) U.heap ∧ va_K (dC, dI) vwCl [(cI, .int), (cG, .array .int)] U ∧ va_D (fun _ => True) (([(h0, .inr (2, [.int (nI (n)), .int (nI (q)), .ref a1, .ref a2, .ref a3, .int (nI (bd)), .int (nI (fr))])), (a1, .inl (cG, n, .inr (.inr (.inr (.inr (fun j => some (gR j))))))), (a2, .inl (cI, n, .inl (fun j => oI (ro j)))), (a3, .inl (cG, n, .inr (.inr (.inr (.inr (fun j => some (gQ j)))))))] : va_W) ++ va_pl L (pI cI pl pr)))) (va_Qv (fun u : Nat → Nat → Nat => (∀ i, i < n → u (gR i) = pr (gR i)) ∧ ∀ j, j < n → ro j = none → ∀ i, i < n → u (gQ (cF ro j)) i = qv q (fun i => pr (gR i)) ro j i) (fun u t => va_P (dC, dI) vwCl (([(h0, .inr (2, [.int (nI (n)), .int (nI (q)), .ref a1, .ref a2, .ref a3, .int (nI (bd)), .int (nI (cF ro n))])), (a1, .inl (cG, n, .inr (.inr (.inr (.inr (fun j => some (gR j))))))), (a2, .inl (cI, n, .inl (fun j => oI (ro j)))), (a3, .inl (cG, n, .inr (.inr (.inr (.inr (fun j => some (gQ j)))))))] : va_W) ++ va_pl L (pI cI pl u)) t.heap ∧ va_K (dC, dI) vwCl [(cI, .int), (cG, .array .int)] t ∧ va_D (va_A (([(h0, .inr (2, [.int (nI (n)), .int (nI (q)), .ref a1, .ref a2, .ref a3, .int (nI (bd)), .int (nI (fr))])), (a1, .inl (cG, n, .inr (.inr (.inr (.inr (fun j => some (gR j))))))), (a2, .inl (cI, n, .inl (fun j => oI (ro j)))), (a3, .inl (cG, n, .inr (.inr (.inr (.inr (fun j => some (gQ j)))))))] : va_W) ++ va_pl L (pI cI pl pr)) sz) (([(h0, .inr (2, [.int (nI (n)), .int (nI (q)), .ref a1, .ref a2, .ref a3, .int (nI (bd)), .int (nI (cF ro n))])), (a1, .inl (cG, n, .inr (.inr (.inr (.inr (fun j => some (gR j))))))), (a2, .inl (cI, n, .inl (fun j => oI (ro j)))), (a3, .inl (cG, n, .inr (.inr (.inr (.inr (fun j => some (gQ j)))))))] : va_W) ++ va_pl L (pI cI pl u))) (va_A (([(h0, .inr (2, [.int (nI (n)), .int (nI (q)), .ref a1, .ref a2, .ref a3, .int (nI (bd)), .int (nI (fr))])), (a1, .inl (cG, n, .inr (.inr (.inr (.inr (fun j => some (gR j))))))), (a2, .inl (cI, n, .inl (fun j => oI (ro j)))), (a3, .inl (cG, n, .inr (.inr (.inr (.inr (fun j => some (gQ j)))))))] : va_W) ++ va_pl L (pI cI pl pr)) sz)) 0 0 (va_A (([(h0, .inr (2, [.int (nI (n)), .int (nI (q)), .ref a1, .ref a2, .ref a3, .int (nI (bd)), .int (nI (fr))])), (a1, .inl (cG, n, .inr (.inr (.inr (.inr (fun j => some (gR j))))))), (a2, .inl (cI, n, .inl (fun j => oI (ro j)))), (a3, .inl (cG, n, .inr (.inr (.inr (.inr (fun j => some (gQ j)))))))] : va_W) ++ va_pl L (pI cI pl pr)) sz) := by
  refine Met.ofW (cc := cX1_readQuietPatterns) (maxL := 2) (ret := none) (by decide) rfl ?_
  intro zp ze s m args below meth zc s₁ B hml hv
  obtain ⟨hargs, hsz, hP, hK, hD0⟩ := hv
  have hx := B.exec
  have hb := B.bytes
  have hr := B.returns
  have hts := atoms_spec (ws := wsX1_readQuietPatterns) B.pre
  have hown : s.vm.findClass RX1 = some m.cls := findClass_of_methodNamed B.named
  have hlocks := B.notSynchronized
  subst hsz
  obtain ⟨Q, hQ⟩ : ∃ Q, Q = MQ below (va_Qv (fun u : Nat → Nat → Nat => (∀ i, i < n → u (gR i) = pr (gR i)) ∧ ∀ j, j < n → ro j = none → ∀ i, i < n → u (gQ (cF ro j)) i = qv q (fun i => pr (gR i)) ro j i) (fun u t => va_P (dC, dI) vwCl (([(h0, .inr (2, [.int (nI (n)), .int (nI (q)), .ref a1, .ref a2, .ref a3, .int (nI (bd)), .int (nI (cF ro n))])), (a1, .inl (cG, n, .inr (.inr (.inr (.inr (fun j => some (gR j))))))), (a2, .inl (cI, n, .inl (fun j => oI (ro j)))), (a3, .inl (cG, n, .inr (.inr (.inr (.inr (fun j => some (gQ j)))))))] : va_W) ++ va_pl L (pI cI pl u)) t.heap ∧ va_K (dC, dI) vwCl [(cI, .int), (cG, .array .int)] t ∧ va_D (va_A (([(h0, .inr (2, [.int (nI (n)), .int (nI (q)), .ref a1, .ref a2, .ref a3, .int (nI (bd)), .int (nI (fr))])), (a1, .inl (cG, n, .inr (.inr (.inr (.inr (fun j => some (gR j))))))), (a2, .inl (cI, n, .inl (fun j => oI (ro j)))), (a3, .inl (cG, n, .inr (.inr (.inr (.inr (fun j => some (gQ j)))))))] : va_W) ++ va_pl L (pI cI pl pr)) s.heap.size) (([(h0, .inr (2, [.int (nI (n)), .int (nI (q)), .ref a1, .ref a2, .ref a3, .int (nI (bd)), .int (nI (cF ro n))])), (a1, .inl (cG, n, .inr (.inr (.inr (.inr (fun j => some (gR j))))))), (a2, .inl (cI, n, .inl (fun j => oI (ro j)))), (a3, .inl (cG, n, .inr (.inr (.inr (.inr (fun j => some (gQ j)))))))] : va_W) ++ va_pl L (pI cI pl u))) (va_A (([(h0, .inr (2, [.int (nI (n)), .int (nI (q)), .ref a1, .ref a2, .ref a3, .int (nI (bd)), .int (nI (fr))])), (a1, .inl (cG, n, .inr (.inr (.inr (.inr (fun j => some (gR j))))))), (a2, .inl (cI, n, .inl (fun j => oI (ro j)))), (a3, .inl (cG, n, .inr (.inr (.inr (.inr (fun j => some (gQ j)))))))] : va_W) ++ va_pl L (pI cI pl pr)) s.heap.size)) args s 0 0 (va_A (([(h0, .inr (2, [.int (nI (n)), .int (nI (q)), .ref a1, .ref a2, .ref a3, .int (nI (bd)), .int (nI (fr))])), (a1, .inl (cG, n, .inr (.inr (.inr (.inr (fun j => some (gR j))))))), (a2, .inl (cI, n, .inl (fun j => oI (ro j)))), (a3, .inl (cG, n, .inr (.inr (.inr (.inr (fun j => some (gQ j)))))))] : va_W) ++ va_pl L (pI cI pl pr)) s.heap.size) := ⟨_, rfl⟩
  rw [← hQ]
  have hD := hD0.self (sz := s.heap.size)
  generalize hAe : (va_A (([(h0, .inr (2, [.int (nI (n)), .int (nI (q)), .ref a1, .ref a2, .ref a3, .int (nI (bd)), .int (nI (fr))])), (a1, .inl (cG, n, .inr (.inr (.inr (.inr (fun j => some (gR j))))))), (a2, .inl (cI, n, .inl (fun j => oI (ro j)))), (a3, .inl (cG, n, .inr (.inr (.inr (.inr (fun j => some (gQ j)))))))] : va_W) ++ va_pl L (pI cI pl pr)) s.heap.size) = A at hD hQ
  have hA : ∀ q : Nat, s.heap.size ≤ q → A q := fun q h => by rw [← hAe]; exact Or.inr h
  have hS : va_S A s.heap s.heap [] := va_S.rf
  have hl := lv_entry ([.ref h0]) (n := 2) (Nat.le_of_ble_eq_true rfl)
  generalize hen : entryFrame m args 2 = fr
  rw [hargs, lg_entry_eq] at hen
  subst hen
  generalize (lg_sl ([.ref h0]) ++ List.replicate (2 - (lg_sl ([.ref h0])).length) Slot.unset).toArray = ls at hl ⊢
  have hl : lv_has ls 2 [(0, .ref h0)] := hl
  have hinX1 : ∀ w ∈ wsX10, w ∈ wsX1_readQuietPatterns := by decide +kernel
  have hf9 := hts (.fieldLink RX1 9 "LightRows$Equations" "size" "I") (by decide +kernel)
  have hf15 := hts (.fieldLink RX1 15 "LightRows$Equations" "modulus" "I") (by decide +kernel)
  have hf20 := hts (.fieldLink RX1 20 "LightRows$Equations" "rows" "[[I") (by decide +kernel)
  have hf23 := hts (.fieldLink RX1 23 "LightRows$Equations" "rowOf" "[I") (by decide +kernel)
  have hf27 := hts (.fieldLink RX1 27 "LightRows$Equations" "quietPatterns" "[[I") (by decide +kernel)
  have hf33 := hts (.fieldLink RX1 33 "LightRows$Equations" "free" "I") (by decide +kernel)
  refine lv_aload_n hx hb dX1_readQuietPatterns_0 rfl (lv_at hl 0 rfl) ?_
  refine lv_iconst (v := nI 0) hx hb dX1_readQuietPatterns_1 (by decide) ?_
  refine va_put (D := (dC, dI)) (ci := 2) (v := .int (nI (0))) (ty := .int) (C := RX1) (T := TX1) (N := 7) hx hb hts hinX1 tyX1 tyX1_ok nmX1 hown hK hP hD hS 0 rfl rfl 6 (by decide) hf33 (fun _ h9 => h9) rfl (by decide +kernel) rfl rfl (Nat.le_of_ble_eq_true rfl) dX1_readQuietPatterns_2 (fun H locs hP hD hS => ?_)
  have hP : va_P (dC, dI) vwCl (([(h0, .inr (2, [.int (nI (n)), .int (nI (q)), .ref a1, .ref a2, .ref a3, .int (nI (bd)), .int (nI (0))])), (a1, .inl (cG, n, .inr (.inr (.inr (.inr (fun j => some (gR j))))))), (a2, .inl (cI, n, .inl (fun j => oI (ro j)))), (a3, .inl (cG, n, .inr (.inr (.inr (.inr (fun j => some (gQ j)))))))] : va_W) ++ va_pl L (pI cI pl pr)) H := hP
  have hD : va_D A (([(h0, .inr (2, [.int (nI (n)), .int (nI (q)), .ref a1, .ref a2, .ref a3, .int (nI (bd)), .int (nI (0))])), (a1, .inl (cG, n, .inr (.inr (.inr (.inr (fun j => some (gR j))))))), (a2, .inl (cI, n, .inl (fun j => oI (ro j)))), (a3, .inl (cG, n, .inr (.inr (.inr (.inr (fun j => some (gQ j)))))))] : va_W) ++ va_pl L (pI cI pl pr)) := hD
  refine lv_iconst (v := nI 0) hx hb dX1_readQuietPatterns_5 (by decide) ?_
  refine lv_istore_n (lv' := [(1, .int (nI (0))), (0, .ref h0)]) hx hb dX1_readQuietPatterns_6 rfl hl (by decide) rfl (fun ls hl => ?_)
  have lp : ∀ (k : Nat) (i : Nat) (f : Nat → Nat → Nat), (i + k = n) → (∀ a, a < n → f (gR a) = pr (gR a)) → (∀ j, j < i → ro j = none → ∀ a, a < n → f (gQ (cF ro j)) a = qv q (fun i => pr (gR i)) ro j a) → ∀ (H : Heap) (locs : List Loc), va_P (dC, dI) vwCl (([(h0, .inr (2, [.int (nI (n)), .int (nI (q)), .ref a1, .ref a2, .ref a3, .int (nI (bd)), .int (nI (cF ro i))])), (a1, .inl (cG, n, .inr (.inr (.inr (.inr (fun j => some (gR j))))))), (a2, .inl (cI, n, .inl (fun j => oI (ro j)))), (a3, .inl (cG, n, .inr (.inr (.inr (.inr (fun j => some (gQ j)))))))] : va_W) ++ va_pl L (pI cI pl f)) H → va_D A (([(h0, .inr (2, [.int (nI (n)), .int (nI (q)), .ref a1, .ref a2, .ref a3, .int (nI (bd)), .int (nI (cF ro i))])), (a1, .inl (cG, n, .inr (.inr (.inr (.inr (fun j => some (gR j))))))), (a2, .inl (cI, n, .inl (fun j => oI (ro j)))), (a3, .inl (cG, n, .inr (.inr (.inr (.inr (fun j => some (gQ j)))))))] : va_W) ++ va_pl L (pI cI pl f)) → va_S A s.heap H locs → ∀ (ls : Array Slot), lv_has ls 2 [(0, .ref h0), (1, .int (nI (i)))] → W zp l ze (headSpec wsX1_readQuietPatterns ({ frames := 1, cells := 0, slots := 0, locals := 24 })).room s m args below meth zc H locs 0 0 Q (F0 m 7 ls []) := by
    intro k
    induction k with
    | zero =>
      intro i f hi h1 h2 H locs hP hD hS ls hl
      refine lv_iload_n hx hb dX1_readQuietPatterns_7 rfl (lv_at hl 1 rfl) ?_
      refine lv_aload_n hx hb dX1_readQuietPatterns_8 rfl (lv_at hl 0 rfl) ?_
      refine va_get (D := (dC, dI)) (ci := 2) (v := .int (nI (n))) (C := RX1) (T := TX1) (N := 7) hx hb hts hinX1 hown hK hP 0 rfl rfl 0 (by decide) hf9 (fun _ h9 => h9) rfl dX1_readQuietPatterns_9 ?_
      refine lv_icmp_ge (tgt := 55) hx hb dX1_readQuietPatterns_12 (by decide) (fun c => ?_) (fun c => ?_)
      · skip
        have c : n ≤ i := (nI_leI (a := n) (b := i) (by omega) (by omega)).mp c
        obtain rfl : n = i := by omega
        rw [hQ]
        exact W.vret hx hb hr (fun t ht hW => ⟨⟨f, rfl, ⟨h1, h2⟩, by rw [ht]; exact hP, va_K.moved hW.alike hK, hD⟩, hS.F ht⟩) hS.2.2 dX1_readQuietPatterns_55
      · skip
        have c : i < n := Nat.not_le.mp (fun h => c ((nI_leI (a := n) (b := i) (by omega) (by omega)).mpr h))
        exact absurd c (by omega)
    | succ k ih =>
      intro i f hi h1 h2 H locs hP hD hS ls hl
      refine lv_iload_n hx hb dX1_readQuietPatterns_7 rfl (lv_at hl 1 rfl) ?_
      refine lv_aload_n hx hb dX1_readQuietPatterns_8 rfl (lv_at hl 0 rfl) ?_
      refine va_get (D := (dC, dI)) (ci := 2) (v := .int (nI (n))) (C := RX1) (T := TX1) (N := 7) hx hb hts hinX1 hown hK hP 0 rfl rfl 0 (by decide) hf9 (fun _ h9 => h9) rfl dX1_readQuietPatterns_9 ?_
      refine lv_icmp_ge (tgt := 55) hx hb dX1_readQuietPatterns_12 (by decide) (fun c => ?_) (fun c => ?_)
      · skip
        have c : n ≤ i := (nI_leI (a := n) (b := i) (by omega) (by omega)).mp c
        exact absurd c (by omega)
      · skip
        have c : i < n := Nat.not_le.mp (fun h => c ((nI_leI (a := n) (b := i) (by omega) (by omega)).mpr h))
        have hcl := cF_le ro i
        refine lv_aload_n hx hb dX1_readQuietPatterns_15 rfl (lv_at hl 0 rfl) ?_
        refine va_get (D := (dC, dI)) (ci := 2) (v := .ref a2) (C := RX1) (T := TX1) (N := 7) hx hb hts hinX1 hown hK hP 0 rfl rfl 3 (by decide) hf23 (fun _ h9 => h9) rfl dX1_readQuietPatterns_16 ?_
        refine lv_iload_n hx hb dX1_readQuietPatterns_19 rfl (lv_at hl 1 rfl) ?_
        refine ra_ld (g := oI) (F := ro) hx hb hK hP 2 0 rfl rfl (by omega) (by omega) dX1_readQuietPatterns_20 ?_
        rcases ho : ro i with _ | r
        · skip
          refine tp_i (y := (-1)) rfl ?_
          refine lv_iconst (v := (-1)) hx hb dX1_readQuietPatterns_21 (by decide) ?_
          refine lv_icmp_ne (tgt := 49) hx hb dX1_readQuietPatterns_22 (by decide) (fun c2 => ?_) (fun c2 => ?_)
          · skip
            exact absurd rfl c2
          · skip
            refine lv_aload_n hx hb dX1_readQuietPatterns_25 rfl (lv_at hl 0 rfl) ?_
            refine lv_aload_n hx hb dX1_readQuietPatterns_26 rfl (lv_at hl 0 rfl) ?_
            refine va_get (D := (dC, dI)) (ci := 2) (v := .ref a3) (C := RX1) (T := TX1) (N := 7) hx hb hts hinX1 hown hK hP 0 rfl rfl 4 (by decide) hf27 (fun _ h9 => h9) rfl dX1_readQuietPatterns_27 ?_
            refine lv_aload_n hx hb dX1_readQuietPatterns_30 rfl (lv_at hl 0 rfl) ?_
            refine va_get (D := (dC, dI)) (ci := 2) (v := .int (nI (cF ro i))) (C := RX1) (T := TX1) (N := 7) hx hb hts hinX1 hown hK hP 0 rfl rfl 6 (by decide) hf33 (fun _ h9 => h9) rfl dX1_readQuietPatterns_31 ?_
            refine rg_ld (G := gQ) hx hb hK hP 3 1 rfl rfl (by omega) (by omega) dX1_readQuietPatterns_34 ?_
            refine lv_iload_n hx hb dX1_readQuietPatterns_35 rfl (lv_at hl 1 rfl) ?_
            have hPc := hP.part (cx := [(h0, .inr (2, [.int (nI (n)), .int (nI (q)), .ref a1, .ref a2, .ref a3, .int (nI (bd)), .int (nI (cF ro i))])), (a1, .inl (cG, n, .inr (.inr (.inr (.inr (fun j => some (gR j))))))), (a2, .inl (cI, n, .inl (fun j => oI (ro j)))), (a3, .inl (cG, n, .inr (.inr (.inr (.inr (fun j => some (gQ j)))))))]) [0, 1, 2, 3] rfl
            have hDc := hD.part (cx := [(h0, .inr (2, [.int (nI (n)), .int (nI (q)), .ref a1, .ref a2, .ref a3, .int (nI (bd)), .int (nI (cF ro i))])), (a1, .inl (cG, n, .inr (.inr (.inr (.inr (fun j => some (gR j))))))), (a2, .inl (cI, n, .inl (fun j => oI (ro j)))), (a3, .inl (cG, n, .inr (.inr (.inr (.inr (fun j => some (gQ j)))))))]) [0, 1, 2, 3] (by decide) rfl
            have hFc := va_freeP (cx := [(h0, .inr (2, [.int (nI (n)), .int (nI (q)), .ref a1, .ref a2, .ref a3, .int (nI (bd)), .int (nI (cF ro i))])), (a1, .inl (cG, n, .inr (.inr (.inr (.inr (fun j => some (gR j))))))), (a2, .inl (cI, n, .inl (fun j => oI (ro j)))), (a3, .inl (cG, n, .inr (.inr (.inr (.inr (fun j => some (gQ j)))))))]) hD hS hA [0, 1, 2, 3] rfl
            have hKc := hK.sub (tys' := [(cI, .int), (cG, .array .int)]) [0, 1] rfl
            refine va_callv (va_runV (As := [.ref (gQ (cF ro i)), .int (nI (i))]) (rest := []) ⟨hx, hb, hml, hown, hts⟩ (c_X1_readQuietPattern l dC dI H.size h0 a1 a2 a3 n q bd (cF ro i) gR gQ ro cG cI L pl f (cF ro i) i hn hok (by omega) (by omega) hq hq2 (fun a ha j hj => by rw [h1 a ha]; exact bx a ha j hj) hro) (cwV 2 hts gX1_readQuietPatterns_X1_readQuietPattern rfl rfl rfl (by decide +kernel) ⟨Nat.le_of_ble_eq_true rfl, Nat.le_of_ble_eq_true rfl⟩) ⟨fun a U g mk q => by obtain ⟨q0, q1, qP, qK, qD⟩ := q; exact ⟨q0, q1, qP, va_K.moved (u := U) (U := U.calling g mk a) (Vm.Alike.refl U.vm) qK, qD⟩, va_recv hKc hPc (ci := 2) (q0 := 0) rfl rfl, fun U hU hW => ⟨rfl, by rw [hU], by rw [hU]; exact hPc, va_K.moved hW.alike hKc, hDc.weaken (fun _ _ _ _ => trivial)⟩⟩ rfl rfl hl.1 rfl (lv_room (Nat.le_of_ble_eq_true rfl)) dX1_readQuietPatterns_36 ⟨Nat.zero_le _, Nat.zero_le _⟩) hS (fun q _ h => hFc q h) hFc (fun u t H1 locs ht hvm hw hB hz1 hk1 hS => ?_)
            obtain ⟨hP1, hK1, hD1⟩ := hB
            rw [ht] at hP1
            try dsimp only at hw
            obtain ⟨hP, hD⟩ := va_joinP (wr := []) (rx := [(h0, .inr (2, [.int (nI (n)), .int (nI (q)), .ref a1, .ref a2, .ref a3, .int (nI (bd)), .int (nI (cF ro i))])), (a1, .inl (cG, n, .inr (.inr (.inr (.inr (fun j => some (gR j))))))), (a2, .inl (cI, n, .inl (fun j => oI (ro j)))), (a3, .inl (cG, n, .inr (.inr (.inr (.inr (fun j => some (gQ j)))))))]) (pl1 := va_pl L (pI cI pl (va_up f (gQ (cF ro i)) (qpt n q (fun i => f (gR i)) ro i (f (gQ (cF ro i))))))) hP hD [0, 1, 2, 3] [] rfl rfl (by decide) (by decide) hk1 hFc hP1 hD1
            generalize H1 = H at hP hS ⊢
            have hP := hP.part (cx := [(h0, .inr (2, [.int (nI (n)), .int (nI (q)), .ref a1, .ref a2, .ref a3, .int (nI (bd)), .int (nI (cF ro i))])), (a1, .inl (cG, n, .inr (.inr (.inr (.inr (fun j => some (gR j))))))), (a2, .inl (cI, n, .inl (fun j => oI (ro j)))), (a3, .inl (cG, n, .inr (.inr (.inr (.inr (fun j => some (gQ j)))))))]) [0, 1, 2, 3] rfl
            have hD := hD.part (cx := [(h0, .inr (2, [.int (nI (n)), .int (nI (q)), .ref a1, .ref a2, .ref a3, .int (nI (bd)), .int (nI (cF ro i))])), (a1, .inl (cG, n, .inr (.inr (.inr (.inr (fun j => some (gR j))))))), (a2, .inl (cI, n, .inl (fun j => oI (ro j)))), (a3, .inl (cG, n, .inr (.inr (.inr (.inr (fun j => some (gQ j)))))))]) [0, 1, 2, 3] (by decide) rfl
            have hP : va_P (dC, dI) vwCl (([(h0, .inr (2, [.int (nI (n)), .int (nI (q)), .ref a1, .ref a2, .ref a3, .int (nI (bd)), .int (nI (cF ro i))])), (a1, .inl (cG, n, .inr (.inr (.inr (.inr (fun j => some (gR j))))))), (a2, .inl (cI, n, .inl (fun j => oI (ro j)))), (a3, .inl (cG, n, .inr (.inr (.inr (.inr (fun j => some (gQ j)))))))] : va_W) ++ va_pl L (pI cI pl (va_up f (gQ (cF ro i)) (qpt n q (fun i => f (gR i)) ro i (f (gQ (cF ro i))))))) H := hP
            have hD : va_D A (([(h0, .inr (2, [.int (nI (n)), .int (nI (q)), .ref a1, .ref a2, .ref a3, .int (nI (bd)), .int (nI (cF ro i))])), (a1, .inl (cG, n, .inr (.inr (.inr (.inr (fun j => some (gR j))))))), (a2, .inl (cI, n, .inl (fun j => oI (ro j)))), (a3, .inl (cG, n, .inr (.inr (.inr (.inr (fun j => some (gQ j)))))))] : va_W) ++ va_pl L (pI cI pl (va_up f (gQ (cF ro i)) (qpt n q (fun i => f (gR i)) ro i (f (gQ (cF ro i))))))) := hD
            refine lv_aload_n hx hb dX1_readQuietPatterns_39 rfl (lv_at hl 0 rfl) ?_
            refine lv_dup hx hb dX1_readQuietPatterns_40 rfl ?_
            refine va_get (D := (dC, dI)) (ci := 2) (v := .int (nI (cF ro i))) (C := RX1) (T := TX1) (N := 7) hx hb hts hinX1 hown hK hP 0 rfl rfl 6 (by decide) hf33 (fun _ h9 => h9) rfl dX1_readQuietPatterns_41 ?_
            refine lv_iconst (v := nI 1) hx hb dX1_readQuietPatterns_44 (by decide) ?_
            refine lv_iadd hx hb dX1_readQuietPatterns_45 ?_
            refine tp_i (y := nI ((cF ro i) + 1)) (nI_add _ _) ?_
            refine tp_i (y := nI (cF ro (i + 1))) (by rw [cF_none ho]) ?_
            refine va_put (D := (dC, dI)) (ci := 2) (v := .int (nI (cF ro (i + 1)))) (ty := .int) (C := RX1) (T := TX1) (N := 7) hx hb hts hinX1 tyX1 tyX1_ok nmX1 hown hK hP hD hS 0 rfl rfl 6 (by decide) hf33 (fun _ h9 => h9) rfl (by decide +kernel) rfl rfl (Nat.le_of_ble_eq_true rfl) dX1_readQuietPatterns_46 (fun H locs hP hD hS => ?_)
            have hP : va_P (dC, dI) vwCl (([(h0, .inr (2, [.int (nI (n)), .int (nI (q)), .ref a1, .ref a2, .ref a3, .int (nI (bd)), .int (nI (cF ro (i + 1)))])), (a1, .inl (cG, n, .inr (.inr (.inr (.inr (fun j => some (gR j))))))), (a2, .inl (cI, n, .inl (fun j => oI (ro j)))), (a3, .inl (cG, n, .inr (.inr (.inr (.inr (fun j => some (gQ j)))))))] : va_W) ++ va_pl L (pI cI pl (va_up f (gQ (cF ro i)) (qpt n q (fun i => f (gR i)) ro i (f (gQ (cF ro i))))))) H := hP
            have hD : va_D A (([(h0, .inr (2, [.int (nI (n)), .int (nI (q)), .ref a1, .ref a2, .ref a3, .int (nI (bd)), .int (nI (cF ro (i + 1)))])), (a1, .inl (cG, n, .inr (.inr (.inr (.inr (fun j => some (gR j))))))), (a2, .inl (cI, n, .inl (fun j => oI (ro j)))), (a3, .inl (cG, n, .inr (.inr (.inr (.inr (fun j => some (gQ j)))))))] : va_W) ++ va_pl L (pI cI pl (va_up f (gQ (cF ro i)) (qpt n q (fun i => f (gR i)) ro i (f (gQ (cF ro i))))))) := hD
            refine lv_iinc (v := nI (i + 1)) (lv' := [(1, .int (nI (i + 1))), (0, .ref h0)]) hx hb dX1_readQuietPatterns_49 hl (k := 1) rfl (nI_1 _) (by decide) rfl (fun ls hl => ?_)
            refine lv_goto (tgt := 7) hx hb dX1_readQuietPatterns_52 (by decide) ?_
            exact ih (i + 1) (va_up f (gQ (cF ro i)) (qpt n q (fun i => f (gR i)) ro i (f (gQ (cF ro i))))) (by omega) (fun a ha => by rw [up_of _ _ (hok.apart ha (by omega)), h1 a ha]) (fun j hj hjn a ha => by
                  by_cases e : j = i
                  · subst e
                    rw [up_at, qpt_qv ha]
                    have e2 : qv q (fun i => f (gR i)) ro j a = qv q (fun i => pr (gR i)) ro j a := by
                      unfold qv
                      rcases h3 : ro a with _ | r
                      · rfl
                      · simp only [h1 r (hro a ha r h3)]
                    exact e2
                  · have hlt := cF_lt hjn i (by omega)
                    rw [up_of _ _ (fun h => by have := hok.2.2.2 _ _ (by omega) (by omega) h; omega)]
                    exact h2 j (by omega) hjn a ha) _ _ hP hD hS ls (lv_sub hl [1, 0] rfl)
        · skip
          refine tp_i (y := nI r) rfl ?_
          refine lv_iconst (v := (-1)) hx hb dX1_readQuietPatterns_21 (by decide) ?_
          refine lv_icmp_ne (tgt := 49) hx hb dX1_readQuietPatterns_22 (by decide) (fun c2 => ?_) (fun c2 => ?_)
          · skip
            refine lv_iinc (v := nI (i + 1)) (lv' := [(1, .int (nI (i + 1))), (0, .ref h0)]) hx hb dX1_readQuietPatterns_49 hl (k := 1) rfl (nI_1 _) (by decide) rfl (fun ls hl => ?_)
            refine lv_goto (tgt := 7) hx hb dX1_readQuietPatterns_52 (by decide) ?_
            rw [← cF_some ho] at hP hD
            have hP : va_P (dC, dI) vwCl (([(h0, .inr (2, [.int (nI (n)), .int (nI (q)), .ref a1, .ref a2, .ref a3, .int (nI (bd)), .int (nI (cF ro (i + 1)))])), (a1, .inl (cG, n, .inr (.inr (.inr (.inr (fun j => some (gR j))))))), (a2, .inl (cI, n, .inl (fun j => oI (ro j)))), (a3, .inl (cG, n, .inr (.inr (.inr (.inr (fun j => some (gQ j)))))))] : va_W) ++ va_pl L (pI cI pl f)) H := hP
            have hD : va_D A (([(h0, .inr (2, [.int (nI (n)), .int (nI (q)), .ref a1, .ref a2, .ref a3, .int (nI (bd)), .int (nI (cF ro (i + 1)))])), (a1, .inl (cG, n, .inr (.inr (.inr (.inr (fun j => some (gR j))))))), (a2, .inl (cI, n, .inl (fun j => oI (ro j)))), (a3, .inl (cG, n, .inr (.inr (.inr (.inr (fun j => some (gQ j)))))))] : va_W) ++ va_pl L (pI cI pl f)) := hD
            exact ih (i + 1) f (by omega) h1 (fun j hj hjn a ha => by
                  by_cases e : j = i
                  · subst e; rw [ho] at hjn; cases hjn
                  · exact h2 j (by omega) hjn a ha) _ _ hP hD hS ls (lv_sub hl [1, 0] rfl)
          · skip
            exact absurd c2 (nI_nm1 (by have := hro i (by omega) r ho; omega))
  exact lp n 0 pr (by omega) (fun _ _ => rfl) (fun j hj => absurd hj (by omega)) _ _ hP hD hS ls (lv_sub hl [1, 0] rfl)

set_option maxHeartbeats 4000000 in
set_option maxRecDepth 100000 in
theorem c_X1_reduce (l : Launch) (dC : Nat → ClassId) (dI : Nat → Nat → Nat) (sz : Nat) (h0 a1 a2 a3 n q bd fr : Nat) (gR gQ : Nat → Nat) (ro : Nat → Option Nat) (cG : ClassId) (cI : ClassId) (L : List Nat) (pl : Nat → Nat) (pr : Nat → Nat → Nat) (hn : n < 1000) (hok : eqOK n gR gQ L pl) (hq : 2 ≤ q) (hq2 : q < 100) (bx : ∀ i, i < n → ∀ j, j < n + 1 → pr (gR i) j < q) : Met l yX1_reduce wsX1_reduce ({ frames := 2, cells := 0, slots := 0, locals := 47 }) (va_Pc [.ref h0] (fun U => U.heap.size = sz ∧ va_P (dC, dI) vwCl (([(h0, .inr (2, [.int (nI (n)), .int (nI (q)), .ref a1, .ref a2, .ref a3, .int (nI (bd)), .int (nI (fr))])), (a1, .inl (cG, n, .inr (.inr (.inr (.inr (fun j => some (gR j))))))), (a2, .inl (cI, n, .inl (fun j => oI (ro j)))), (a3, .inl (cG, n, .inr (.inr (.inr (.inr (fun j => some (gQ j)))))))] : va_W) ++ va_pl L (pI cI pl pr)) U.heap ∧ (va_K (dC, dI) vwCl [(cI, .int), (cG, .array .int)] U ∧ grK cG cI U) ∧ va_D (fun _ => True) (([(h0, .inr (2, [.int (nI (n)), .int (nI (q)), .ref a1, .ref a2, .ref a3, .int (nI (bd)), .int (nI (fr))])), (a1, .inl (cG, n, .inr (.inr (.inr (.inr (fun j => some (gR j))))))), (a2, .inl (cI, n, .inl (fun j => oI (ro j)))), (a3, .inl (cG, n, .inr (.inr (.inr (.inr (fun j => some (gQ j)))))))] : va_W) ++ va_pl L (pI cI pl pr)))) (va_Qv (fun u : (Nat → Nat) × (Nat → Nat → Nat) => eqOK n u.1 gQ L pl ∧ (∀ i, i < n → u.2 (u.1 i) = (rds n q (fun i => pr (gR i)) ro n).1 i) ∧ ∀ j, j < n → (rds n q (fun i => pr (gR i)) ro n).2.1 j = none → ∀ i, i < n → u.2 (gQ (cF (rds n q (fun i => pr (gR i)) ro n).2.1 j)) i = qv q (rds n q (fun i => pr (gR i)) ro n).1 (rds n q (fun i => pr (gR i)) ro n).2.1 j i) (fun u t => va_P (dC, dI) vwCl (([(h0, .inr (2, [.int (nI (n)), .int (nI (q)), .ref a1, .ref a2, .ref a3, .int (nI ((rds n q (fun i => pr (gR i)) ro n).2.2)), .int (nI (cF (rds n q (fun i => pr (gR i)) ro n).2.1 n))])), (a1, .inl (cG, n, .inr (.inr (.inr (.inr (fun j => some (u.1 j))))))), (a2, .inl (cI, n, .inl (fun j => oI (((rds n q (fun i => pr (gR i)) ro n).2.1) j)))), (a3, .inl (cG, n, .inr (.inr (.inr (.inr (fun j => some (gQ j)))))))] : va_W) ++ va_pl L (pI cI pl u.2)) t.heap ∧ va_K (dC, dI) vwCl [(cI, .int), (cG, .array .int)] t ∧ va_D (va_A (([(h0, .inr (2, [.int (nI (n)), .int (nI (q)), .ref a1, .ref a2, .ref a3, .int (nI (bd)), .int (nI (fr))])), (a1, .inl (cG, n, .inr (.inr (.inr (.inr (fun j => some (gR j))))))), (a2, .inl (cI, n, .inl (fun j => oI (ro j)))), (a3, .inl (cG, n, .inr (.inr (.inr (.inr (fun j => some (gQ j)))))))] : va_W) ++ va_pl L (pI cI pl pr)) sz) (([(h0, .inr (2, [.int (nI (n)), .int (nI (q)), .ref a1, .ref a2, .ref a3, .int (nI ((rds n q (fun i => pr (gR i)) ro n).2.2)), .int (nI (cF (rds n q (fun i => pr (gR i)) ro n).2.1 n))])), (a1, .inl (cG, n, .inr (.inr (.inr (.inr (fun j => some (u.1 j))))))), (a2, .inl (cI, n, .inl (fun j => oI (((rds n q (fun i => pr (gR i)) ro n).2.1) j)))), (a3, .inl (cG, n, .inr (.inr (.inr (.inr (fun j => some (gQ j)))))))] : va_W) ++ va_pl L (pI cI pl u.2))) (va_A (([(h0, .inr (2, [.int (nI (n)), .int (nI (q)), .ref a1, .ref a2, .ref a3, .int (nI (bd)), .int (nI (fr))])), (a1, .inl (cG, n, .inr (.inr (.inr (.inr (fun j => some (gR j))))))), (a2, .inl (cI, n, .inl (fun j => oI (ro j)))), (a3, .inl (cG, n, .inr (.inr (.inr (.inr (fun j => some (gQ j)))))))] : va_W) ++ va_pl L (pI cI pl pr)) sz)) 0 0 (va_A (([(h0, .inr (2, [.int (nI (n)), .int (nI (q)), .ref a1, .ref a2, .ref a3, .int (nI (bd)), .int (nI (fr))])), (a1, .inl (cG, n, .inr (.inr (.inr (.inr (fun j => some (gR j))))))), (a2, .inl (cI, n, .inl (fun j => oI (ro j)))), (a3, .inl (cG, n, .inr (.inr (.inr (.inr (fun j => some (gQ j)))))))] : va_W) ++ va_pl L (pI cI pl pr)) sz) := by
  refine Met.ofW (cc := cX1_reduce) (maxL := 3) (ret := none) (by decide) rfl ?_
  intro zp ze s m args below meth zc s₁ B hml hv
  obtain ⟨hargs, hsz, hP, ⟨hK, hG⟩, hD0⟩ := hv
  have hx := B.exec
  have hb := B.bytes
  have hr := B.returns
  have hts := atoms_spec (ws := wsX1_reduce) B.pre
  have hown : s.vm.findClass RX1 = some m.cls := findClass_of_methodNamed B.named
  have hlocks := B.notSynchronized
  subst hsz
  obtain ⟨Q, hQ⟩ : ∃ Q, Q = MQ below (va_Qv (fun u : (Nat → Nat) × (Nat → Nat → Nat) => eqOK n u.1 gQ L pl ∧ (∀ i, i < n → u.2 (u.1 i) = (rds n q (fun i => pr (gR i)) ro n).1 i) ∧ ∀ j, j < n → (rds n q (fun i => pr (gR i)) ro n).2.1 j = none → ∀ i, i < n → u.2 (gQ (cF (rds n q (fun i => pr (gR i)) ro n).2.1 j)) i = qv q (rds n q (fun i => pr (gR i)) ro n).1 (rds n q (fun i => pr (gR i)) ro n).2.1 j i) (fun u t => va_P (dC, dI) vwCl (([(h0, .inr (2, [.int (nI (n)), .int (nI (q)), .ref a1, .ref a2, .ref a3, .int (nI ((rds n q (fun i => pr (gR i)) ro n).2.2)), .int (nI (cF (rds n q (fun i => pr (gR i)) ro n).2.1 n))])), (a1, .inl (cG, n, .inr (.inr (.inr (.inr (fun j => some (u.1 j))))))), (a2, .inl (cI, n, .inl (fun j => oI (((rds n q (fun i => pr (gR i)) ro n).2.1) j)))), (a3, .inl (cG, n, .inr (.inr (.inr (.inr (fun j => some (gQ j)))))))] : va_W) ++ va_pl L (pI cI pl u.2)) t.heap ∧ va_K (dC, dI) vwCl [(cI, .int), (cG, .array .int)] t ∧ va_D (va_A (([(h0, .inr (2, [.int (nI (n)), .int (nI (q)), .ref a1, .ref a2, .ref a3, .int (nI (bd)), .int (nI (fr))])), (a1, .inl (cG, n, .inr (.inr (.inr (.inr (fun j => some (gR j))))))), (a2, .inl (cI, n, .inl (fun j => oI (ro j)))), (a3, .inl (cG, n, .inr (.inr (.inr (.inr (fun j => some (gQ j)))))))] : va_W) ++ va_pl L (pI cI pl pr)) s.heap.size) (([(h0, .inr (2, [.int (nI (n)), .int (nI (q)), .ref a1, .ref a2, .ref a3, .int (nI ((rds n q (fun i => pr (gR i)) ro n).2.2)), .int (nI (cF (rds n q (fun i => pr (gR i)) ro n).2.1 n))])), (a1, .inl (cG, n, .inr (.inr (.inr (.inr (fun j => some (u.1 j))))))), (a2, .inl (cI, n, .inl (fun j => oI (((rds n q (fun i => pr (gR i)) ro n).2.1) j)))), (a3, .inl (cG, n, .inr (.inr (.inr (.inr (fun j => some (gQ j)))))))] : va_W) ++ va_pl L (pI cI pl u.2))) (va_A (([(h0, .inr (2, [.int (nI (n)), .int (nI (q)), .ref a1, .ref a2, .ref a3, .int (nI (bd)), .int (nI (fr))])), (a1, .inl (cG, n, .inr (.inr (.inr (.inr (fun j => some (gR j))))))), (a2, .inl (cI, n, .inl (fun j => oI (ro j)))), (a3, .inl (cG, n, .inr (.inr (.inr (.inr (fun j => some (gQ j)))))))] : va_W) ++ va_pl L (pI cI pl pr)) s.heap.size)) args s 0 0 (va_A (([(h0, .inr (2, [.int (nI (n)), .int (nI (q)), .ref a1, .ref a2, .ref a3, .int (nI (bd)), .int (nI (fr))])), (a1, .inl (cG, n, .inr (.inr (.inr (.inr (fun j => some (gR j))))))), (a2, .inl (cI, n, .inl (fun j => oI (ro j)))), (a3, .inl (cG, n, .inr (.inr (.inr (.inr (fun j => some (gQ j)))))))] : va_W) ++ va_pl L (pI cI pl pr)) s.heap.size) := ⟨_, rfl⟩
  rw [← hQ]
  have hD := hD0.self (sz := s.heap.size)
  generalize hAe : (va_A (([(h0, .inr (2, [.int (nI (n)), .int (nI (q)), .ref a1, .ref a2, .ref a3, .int (nI (bd)), .int (nI (fr))])), (a1, .inl (cG, n, .inr (.inr (.inr (.inr (fun j => some (gR j))))))), (a2, .inl (cI, n, .inl (fun j => oI (ro j)))), (a3, .inl (cG, n, .inr (.inr (.inr (.inr (fun j => some (gQ j)))))))] : va_W) ++ va_pl L (pI cI pl pr)) s.heap.size) = A at hD hQ
  have hA : ∀ q : Nat, s.heap.size ≤ q → A q := fun q h => by rw [← hAe]; exact Or.inr h
  have hS : va_S A s.heap s.heap [] := va_S.rf
  have hl := lv_entry ([.ref h0]) (n := 3) (Nat.le_of_ble_eq_true rfl)
  generalize hen : entryFrame m args 3 = fr
  rw [hargs, lg_entry_eq] at hen
  subst hen
  generalize (lg_sl ([.ref h0]) ++ List.replicate (3 - (lg_sl ([.ref h0])).length) Slot.unset).toArray = ls at hl ⊢
  have hl : lv_has ls 3 [(0, .ref h0)] := hl
  have hinX1 : ∀ w ∈ wsX10, w ∈ wsX1_reduce := by decide +kernel
  have hf9 := hts (.fieldLink RX1 9 "LightRows$Equations" "size" "I") (by decide +kernel)
  have hf15 := hts (.fieldLink RX1 15 "LightRows$Equations" "modulus" "I") (by decide +kernel)
  have hf20 := hts (.fieldLink RX1 20 "LightRows$Equations" "rows" "[[I") (by decide +kernel)
  have hf23 := hts (.fieldLink RX1 23 "LightRows$Equations" "rowOf" "[I") (by decide +kernel)
  have hf27 := hts (.fieldLink RX1 27 "LightRows$Equations" "quietPatterns" "[[I") (by decide +kernel)
  have hf30 := hts (.fieldLink RX1 30 "LightRows$Equations" "bound" "I") (by decide +kernel)
  have hf33 := hts (.fieldLink RX1 33 "LightRows$Equations" "free" "I") (by decide +kernel)
  refine lv_aload_n hx hb dX1_reduce_0 rfl (lv_at hl 0 rfl) ?_
  refine lv_iconst (v := nI 0) hx hb dX1_reduce_1 (by decide) ?_
  refine va_put (D := (dC, dI)) (ci := 2) (v := .int (nI (0))) (ty := .int) (C := RX1) (T := TX1) (N := 7) hx hb hts hinX1 tyX1 tyX1_ok nmX1 hown hK hP hD hS 0 rfl rfl 5 (by decide) hf30 (fun _ h9 => h9) rfl (by decide +kernel) rfl rfl (Nat.le_of_ble_eq_true rfl) dX1_reduce_2 (fun H locs hP hD hS => ?_)
  have hP : va_P (dC, dI) vwCl (([(h0, .inr (2, [.int (nI (n)), .int (nI (q)), .ref a1, .ref a2, .ref a3, .int (nI (0)), .int (nI (fr))])), (a1, .inl (cG, n, .inr (.inr (.inr (.inr (fun j => some (gR j))))))), (a2, .inl (cI, n, .inl (fun j => oI (ro j)))), (a3, .inl (cG, n, .inr (.inr (.inr (.inr (fun j => some (gQ j)))))))] : va_W) ++ va_pl L (pI cI pl pr)) H := hP
  have hD : va_D A (([(h0, .inr (2, [.int (nI (n)), .int (nI (q)), .ref a1, .ref a2, .ref a3, .int (nI (0)), .int (nI (fr))])), (a1, .inl (cG, n, .inr (.inr (.inr (.inr (fun j => some (gR j))))))), (a2, .inl (cI, n, .inl (fun j => oI (ro j)))), (a3, .inl (cG, n, .inr (.inr (.inr (.inr (fun j => some (gQ j)))))))] : va_W) ++ va_pl L (pI cI pl pr)) := hD
  refine lv_iconst (v := nI 0) hx hb dX1_reduce_5 (by decide) ?_
  refine lv_istore_n (lv' := [(1, .int (nI (0))), (0, .ref h0)]) hx hb dX1_reduce_6 rfl hl (by decide) rfl (fun ls hl => ?_)
  have lp : ∀ (k : Nat) (i : Nat) (z : (Nat → Nat → Nat) × (Nat → Option Nat) × Nat) (g : Nat → Nat) (f : Nat → Nat → Nat), (i + k = n) → (z = rds n q (fun i => pr (gR i)) ro i) → (eqOK n g gQ L pl) → (∀ a, a < n → f (g a) = z.1 a) → ∀ (H : Heap) (locs : List Loc), va_P (dC, dI) vwCl (([(h0, .inr (2, [.int (nI (n)), .int (nI (q)), .ref a1, .ref a2, .ref a3, .int (nI (z.2.2)), .int (nI (fr))])), (a1, .inl (cG, n, .inr (.inr (.inr (.inr (fun j => some (g j))))))), (a2, .inl (cI, n, .inl (fun j => oI (z.2.1 j)))), (a3, .inl (cG, n, .inr (.inr (.inr (.inr (fun j => some (gQ j)))))))] : va_W) ++ va_pl L (pI cI pl f)) H → va_D A (([(h0, .inr (2, [.int (nI (n)), .int (nI (q)), .ref a1, .ref a2, .ref a3, .int (nI (z.2.2)), .int (nI (fr))])), (a1, .inl (cG, n, .inr (.inr (.inr (.inr (fun j => some (g j))))))), (a2, .inl (cI, n, .inl (fun j => oI (z.2.1 j)))), (a3, .inl (cG, n, .inr (.inr (.inr (.inr (fun j => some (gQ j)))))))] : va_W) ++ va_pl L (pI cI pl f)) → va_S A s.heap H locs → ∀ (ls : Array Slot), lv_has ls 3 [(0, .ref h0), (1, .int (nI (i)))] → W zp l ze (headSpec wsX1_reduce ({ frames := 2, cells := 0, slots := 0, locals := 47 })).room s m args below meth zc H locs 0 0 Q (F0 m 7 ls []) := by
    intro k
    induction k with
    | zero =>
      intro i z g f hi hz ho h1 H locs hP hD hS ls hl
      have bz : z.2.2 ≤ n := by rw [hz]; exact Nat.le_trans (rds_bd i) (by omega)
      have bl : ∀ a, a < n → ∀ j, j < n + 1 → f (g a) j < q := fun a ha j hj => by rw [h1 a ha, hz]; exact rds_lt (by omega) bx i (by omega) a ha j hj
      refine lv_iload_n hx hb dX1_reduce_7 rfl (lv_at hl 1 rfl) ?_
      refine lv_aload_n hx hb dX1_reduce_8 rfl (lv_at hl 0 rfl) ?_
      refine va_get (D := (dC, dI)) (ci := 2) (v := .int (nI (n))) (C := RX1) (T := TX1) (N := 7) hx hb hts hinX1 hown hK hP 0 rfl rfl 0 (by decide) hf9 (fun _ h9 => h9) rfl dX1_reduce_9 ?_
      refine lv_icmp_ge (tgt := 93) hx hb dX1_reduce_12 (by decide) (fun c => ?_) (fun c => ?_)
      · skip
        have c : n ≤ i := (nI_leI (a := n) (b := i) (by omega) (by omega)).mp c
        obtain rfl : n = i := by omega
        refine lv_aload_n hx hb dX1_reduce_93 rfl (lv_at hl 0 rfl) ?_
        have hro : ∀ j, j < n → ∀ r, z.2.1 j = some r → r < n := fun j hj r h => by rw [hz] at h bz; have := rds_ro n j hj r h; omega
        have hPc := hP.part (cx := [(h0, .inr (2, [.int (nI (n)), .int (nI (q)), .ref a1, .ref a2, .ref a3, .int (nI (z.2.2)), .int (nI (fr))])), (a1, .inl (cG, n, .inr (.inr (.inr (.inr (fun j => some (g j))))))), (a2, .inl (cI, n, .inl (fun j => oI (z.2.1 j)))), (a3, .inl (cG, n, .inr (.inr (.inr (.inr (fun j => some (gQ j)))))))]) [0, 1, 2, 3] rfl
        have hDc := hD.part (cx := [(h0, .inr (2, [.int (nI (n)), .int (nI (q)), .ref a1, .ref a2, .ref a3, .int (nI (z.2.2)), .int (nI (fr))])), (a1, .inl (cG, n, .inr (.inr (.inr (.inr (fun j => some (g j))))))), (a2, .inl (cI, n, .inl (fun j => oI (z.2.1 j)))), (a3, .inl (cG, n, .inr (.inr (.inr (.inr (fun j => some (gQ j)))))))]) [0, 1, 2, 3] (by decide) rfl
        have hFc := va_freeP (cx := [(h0, .inr (2, [.int (nI (n)), .int (nI (q)), .ref a1, .ref a2, .ref a3, .int (nI (z.2.2)), .int (nI (fr))])), (a1, .inl (cG, n, .inr (.inr (.inr (.inr (fun j => some (g j))))))), (a2, .inl (cI, n, .inl (fun j => oI (z.2.1 j)))), (a3, .inl (cG, n, .inr (.inr (.inr (.inr (fun j => some (gQ j)))))))]) hD hS hA [0, 1, 2, 3] rfl
        have hKc := hK.sub (tys' := [(cI, .int), (cG, .array .int)]) [0, 1] rfl
        refine va_callv (va_runV (As := []) (rest := []) ⟨hx, hb, hml, hown, hts⟩ (c_X1_readQuietPatterns l dC dI H.size h0 a1 a2 a3 n q z.2.2 fr g gQ z.2.1 cG cI L pl f hn ho hq hq2 bl hro) (cwV 0 hts gX1_reduce_X1_readQuietPatterns rfl rfl rfl (by decide +kernel) ⟨Nat.le_of_ble_eq_true rfl, Nat.le_of_ble_eq_true rfl⟩) ⟨fun a U g mk q => by obtain ⟨q0, q1, qP, qK, qD⟩ := q; exact ⟨q0, q1, qP, va_K.moved (u := U) (U := U.calling g mk a) (Vm.Alike.refl U.vm) qK, qD⟩, va_recv hKc hPc (ci := 2) (q0 := 0) rfl rfl, fun U hU hW => ⟨rfl, by rw [hU], by rw [hU]; exact hPc, va_K.moved hW.alike hKc, hDc.weaken (fun _ _ _ _ => trivial)⟩⟩ rfl rfl hl.1 rfl (lv_room (Nat.le_of_ble_eq_true rfl)) dX1_reduce_94 ⟨Nat.zero_le _, Nat.zero_le _⟩) hS (fun q _ h => hFc q h) hFc (fun f2 t H1 locs ht hvm hw hB hz1 hk1 hS => ?_)
        obtain ⟨hP1, hK1, hD1⟩ := hB
        rw [ht] at hP1
        try dsimp only at hw
        obtain ⟨hP, hD⟩ := va_joinP (wr := []) (rx := [(h0, .inr (2, [.int (nI (n)), .int (nI (q)), .ref a1, .ref a2, .ref a3, .int (nI (z.2.2)), .int (nI (cF z.2.1 n))])), (a1, .inl (cG, n, .inr (.inr (.inr (.inr (fun j => some (g j))))))), (a2, .inl (cI, n, .inl (fun j => oI (z.2.1 j)))), (a3, .inl (cG, n, .inr (.inr (.inr (.inr (fun j => some (gQ j)))))))]) (pl1 := va_pl L (pI cI pl f2)) hP hD [0, 1, 2, 3] [] rfl rfl (by decide) (by decide) hk1 hFc hP1 hD1
        generalize H1 = H at hP hS ⊢
        have hP := hP.part (cx := [(h0, .inr (2, [.int (nI (n)), .int (nI (q)), .ref a1, .ref a2, .ref a3, .int (nI (z.2.2)), .int (nI (cF z.2.1 n))])), (a1, .inl (cG, n, .inr (.inr (.inr (.inr (fun j => some (g j))))))), (a2, .inl (cI, n, .inl (fun j => oI (z.2.1 j)))), (a3, .inl (cG, n, .inr (.inr (.inr (.inr (fun j => some (gQ j)))))))]) [0, 1, 2, 3] rfl
        have hD := hD.part (cx := [(h0, .inr (2, [.int (nI (n)), .int (nI (q)), .ref a1, .ref a2, .ref a3, .int (nI (z.2.2)), .int (nI (cF z.2.1 n))])), (a1, .inl (cG, n, .inr (.inr (.inr (.inr (fun j => some (g j))))))), (a2, .inl (cI, n, .inl (fun j => oI (z.2.1 j)))), (a3, .inl (cG, n, .inr (.inr (.inr (.inr (fun j => some (gQ j)))))))]) [0, 1, 2, 3] (by decide) rfl
        have hP : va_P (dC, dI) vwCl (([(h0, .inr (2, [.int (nI (n)), .int (nI (q)), .ref a1, .ref a2, .ref a3, .int (nI (z.2.2)), .int (nI (cF z.2.1 n))])), (a1, .inl (cG, n, .inr (.inr (.inr (.inr (fun j => some (g j))))))), (a2, .inl (cI, n, .inl (fun j => oI (z.2.1 j)))), (a3, .inl (cG, n, .inr (.inr (.inr (.inr (fun j => some (gQ j)))))))] : va_W) ++ va_pl L (pI cI pl f2)) H := hP
        have hD : va_D A (([(h0, .inr (2, [.int (nI (n)), .int (nI (q)), .ref a1, .ref a2, .ref a3, .int (nI (z.2.2)), .int (nI (cF z.2.1 n))])), (a1, .inl (cG, n, .inr (.inr (.inr (.inr (fun j => some (g j))))))), (a2, .inl (cI, n, .inl (fun j => oI (z.2.1 j)))), (a3, .inl (cG, n, .inr (.inr (.inr (.inr (fun j => some (gQ j)))))))] : va_W) ++ va_pl L (pI cI pl f2)) := hD
        have e3 : ∀ j a, a < n → qv q (fun i => f (g i)) z.2.1 j a = qv q z.1 z.2.1 j a := fun j a ha => by
          unfold qv
          rcases h3 : z.2.1 a with _ | r
          · rfl
          · simp only [h1 r (hro a ha r h3)]
        subst hz
        rw [hQ]
        exact W.vret hx hb hr (fun t ht hW => ⟨⟨(g, f2), rfl, ⟨ho, fun a ha => (hw.1 a ha).trans (h1 a ha), fun j hj hjn a ha => (hw.2 j hj hjn a ha).trans (e3 j a ha)⟩, by rw [ht]; exact hP, va_K.moved hW.alike hK, hD⟩, hS.F ht⟩) hS.2.2 dX1_reduce_97
      · skip
        have c : i < n := Nat.not_le.mp (fun h => c ((nI_leI (a := n) (b := i) (by omega) (by omega)).mpr h))
        exact absurd c (by omega)
    | succ k ih =>
      intro i z g f hi hz ho h1 H locs hP hD hS ls hl
      have bz : z.2.2 ≤ i := by rw [hz]; exact rds_bd i
      have bl : ∀ a, a < n → ∀ j, j < n + 1 → f (g a) j < q := fun a ha j hj => by rw [h1 a ha, hz]; exact rds_lt (by omega) bx i (by omega) a ha j hj
      refine lv_iload_n hx hb dX1_reduce_7 rfl (lv_at hl 1 rfl) ?_
      refine lv_aload_n hx hb dX1_reduce_8 rfl (lv_at hl 0 rfl) ?_
      refine va_get (D := (dC, dI)) (ci := 2) (v := .int (nI (n))) (C := RX1) (T := TX1) (N := 7) hx hb hts hinX1 hown hK hP 0 rfl rfl 0 (by decide) hf9 (fun _ h9 => h9) rfl dX1_reduce_9 ?_
      refine lv_icmp_ge (tgt := 93) hx hb dX1_reduce_12 (by decide) (fun c => ?_) (fun c => ?_)
      · skip
        have c : n ≤ i := (nI_leI (a := n) (b := i) (by omega) (by omega)).mp c
        exact absurd c (by omega)
      · skip
        have c : i < n := Nat.not_le.mp (fun h => c ((nI_leI (a := n) (b := i) (by omega) (by omega)).mpr h))
        refine lv_aload_n hx hb dX1_reduce_15 rfl (lv_at hl 0 rfl) ?_
        refine lv_iload_n hx hb dX1_reduce_16 rfl (lv_at hl 1 rfl) ?_
        have ef : fR (fun i => f (g i)) i (n - z.2.2) z.2.2 = fR z.1 i (n - z.2.2) z.2.2 := fR_congr _ _ (fun a h3 h4 => by simp only [h1 a (by omega)])
        have hPc := hP.part (cx := [(h0, .inr (2, [.int (nI (n)), .int (nI (q)), .ref a1, .ref a2, .ref a3, .int (nI (z.2.2)), .int (nI (fr))])), (a1, .inl (cG, n, .inr (.inr (.inr (.inr (fun j => some (g j))))))), (a2, .inl (cI, n, .inl (fun j => oI (z.2.1 j)))), (a3, .inl (cG, n, .inr (.inr (.inr (.inr (fun j => some (gQ j)))))))]) [0, 1, 2, 3] rfl
        have hDc := hD.part (cx := [(h0, .inr (2, [.int (nI (n)), .int (nI (q)), .ref a1, .ref a2, .ref a3, .int (nI (z.2.2)), .int (nI (fr))])), (a1, .inl (cG, n, .inr (.inr (.inr (.inr (fun j => some (g j))))))), (a2, .inl (cI, n, .inl (fun j => oI (z.2.1 j)))), (a3, .inl (cG, n, .inr (.inr (.inr (.inr (fun j => some (gQ j)))))))]) [0, 1, 2, 3] (by decide) rfl
        have hFc := va_freeP (cx := [(h0, .inr (2, [.int (nI (n)), .int (nI (q)), .ref a1, .ref a2, .ref a3, .int (nI (z.2.2)), .int (nI (fr))])), (a1, .inl (cG, n, .inr (.inr (.inr (.inr (fun j => some (g j))))))), (a2, .inl (cI, n, .inl (fun j => oI (z.2.1 j)))), (a3, .inl (cG, n, .inr (.inr (.inr (.inr (fun j => some (gQ j)))))))]) hD hS hA [0, 1, 2, 3] rfl
        have hKc := hK.sub (tys' := [(cI, .int), (cG, .array .int)]) [0, 1] rfl
        refine va_calli (va_runV (As := [.int (nI (i))]) (rest := []) ⟨hx, hb, hml, hown, hts⟩ (c_X1_unusedRowWith l dC dI H.size h0 a1 a2 a3 n q z.2.2 fr g gQ z.2.1 cG cI L pl f i hn ho (by omega) (by omega) (fun a ha => by have := bl a ha i (by omega); omega)) (cwV 1 hts gX1_reduce_X1_unusedRowWith rfl rfl rfl (by decide +kernel) ⟨Nat.le_of_ble_eq_true rfl, Nat.le_of_ble_eq_true rfl⟩) ⟨fun a U g mk q => by obtain ⟨q0, q1, qP, qK, qD⟩ := q; exact ⟨q0, q1, qP, va_K.moved (u := U) (U := U.calling g mk a) (Vm.Alike.refl U.vm) qK, qD⟩, va_recv hKc hPc (ci := 2) (q0 := 0) rfl rfl, fun U hU hW => ⟨rfl, by rw [hU], by rw [hU]; exact hPc, va_K.moved hW.alike hKc, hDc.weaken (fun _ _ _ _ => trivial)⟩⟩ rfl rfl hl.1 rfl (lv_room (Nat.le_of_ble_eq_true rfl)) dX1_reduce_17 ⟨Nat.zero_le _, Nat.zero_le _⟩) hS (fun q _ h => hFc q h) hFc (fun r2 u t H1 locs ht hvm hw hB hz1 hk1 hS => ?_)
        obtain ⟨hP1, hK1, hD1⟩ := hB
        rw [ht] at hP1
        try dsimp only at hw
        obtain ⟨hP, hD⟩ := va_joinP (wr := []) (rx := [(h0, .inr (2, [.int (nI (n)), .int (nI (q)), .ref a1, .ref a2, .ref a3, .int (nI (z.2.2)), .int (nI (fr))])), (a1, .inl (cG, n, .inr (.inr (.inr (.inr (fun j => some (g j))))))), (a2, .inl (cI, n, .inl (fun j => oI (z.2.1 j)))), (a3, .inl (cG, n, .inr (.inr (.inr (.inr (fun j => some (gQ j)))))))]) (pl1 := va_pl L (pI cI pl f)) hP hD [0, 1, 2, 3] [] rfl rfl (by decide) (by decide) hk1 hFc hP1 hD1
        generalize H1 = H at hP hS ⊢
        have hP := hP.part (cx := [(h0, .inr (2, [.int (nI (n)), .int (nI (q)), .ref a1, .ref a2, .ref a3, .int (nI (z.2.2)), .int (nI (fr))])), (a1, .inl (cG, n, .inr (.inr (.inr (.inr (fun j => some (g j))))))), (a2, .inl (cI, n, .inl (fun j => oI (z.2.1 j)))), (a3, .inl (cG, n, .inr (.inr (.inr (.inr (fun j => some (gQ j)))))))]) [0, 1, 2, 3] rfl
        have hD := hD.part (cx := [(h0, .inr (2, [.int (nI (n)), .int (nI (q)), .ref a1, .ref a2, .ref a3, .int (nI (z.2.2)), .int (nI (fr))])), (a1, .inl (cG, n, .inr (.inr (.inr (.inr (fun j => some (g j))))))), (a2, .inl (cI, n, .inl (fun j => oI (z.2.1 j)))), (a3, .inl (cG, n, .inr (.inr (.inr (.inr (fun j => some (gQ j)))))))]) [0, 1, 2, 3] (by decide) rfl
        have hP : va_P (dC, dI) vwCl (([(h0, .inr (2, [.int (nI (n)), .int (nI (q)), .ref a1, .ref a2, .ref a3, .int (nI (z.2.2)), .int (nI (fr))])), (a1, .inl (cG, n, .inr (.inr (.inr (.inr (fun j => some (g j))))))), (a2, .inl (cI, n, .inl (fun j => oI (z.2.1 j)))), (a3, .inl (cG, n, .inr (.inr (.inr (.inr (fun j => some (gQ j)))))))] : va_W) ++ va_pl L (pI cI pl f)) H := hP
        have hD : va_D A (([(h0, .inr (2, [.int (nI (n)), .int (nI (q)), .ref a1, .ref a2, .ref a3, .int (nI (z.2.2)), .int (nI (fr))])), (a1, .inl (cG, n, .inr (.inr (.inr (.inr (fun j => some (g j))))))), (a2, .inl (cI, n, .inl (fun j => oI (z.2.1 j)))), (a3, .inl (cG, n, .inr (.inr (.inr (.inr (fun j => some (gQ j)))))))] : va_W) ++ va_pl L (pI cI pl f)) := hD
        rw [ef] at hw
        subst hw
        have hzs : rst n q i z = rds n q (fun i => pr (gR i)) ro (i + 1) := by rw [hz]; rfl
        rcases hfr : fR z.1 i (n - z.2.2) z.2.2 with _ | r
        · skip
          refine tp_i (y := (-1)) rfl ?_
          have es : rst n q i z = (z.1, va_up z.2.1 i none, z.2.2) := by unfold rst; rw [hfr]
          refine lv_istore_n (lv' := [(2, .int ((-1))), (0, .ref h0), (1, .int (nI (i)))]) hx hb dX1_reduce_20 rfl hl (by decide) rfl (fun ls hl => ?_)
          refine lv_aload_n hx hb dX1_reduce_21 rfl (lv_at hl 1 rfl) ?_
          refine va_get (D := (dC, dI)) (ci := 2) (v := .ref a2) (C := RX1) (T := TX1) (N := 7) hx hb hts hinX1 hown hK hP 0 rfl rfl 3 (by decide) hf23 (fun _ h9 => h9) rfl dX1_reduce_22 ?_
          refine lv_iload_n hx hb dX1_reduce_25 rfl (lv_at hl 2 rfl) ?_
          refine lv_iload_n hx hb dX1_reduce_26 rfl (lv_at hl 0 rfl) ?_
          refine lv_iconst (v := (-1)) hx hb dX1_reduce_27 (by decide) ?_
          refine lv_icmp_ne (tgt := 35) hx hb dX1_reduce_28 (by decide) (fun c2 => ?_) (fun c2 => ?_)
          · skip
            exact absurd rfl c2
          · skip
            refine lv_iconst (v := (-1)) hx hb dX1_reduce_31 (by decide) ?_
            refine lv_goto (tgt := 39) hx hb dX1_reduce_32 (by decide) ?_
            refine ra_st (g := oI) (F := z.2.1) (v := none) hx hb hK hP hD hS 2 0 rfl rfl (by omega) (by omega) dX1_reduce_39 (fun H locs hP hD hS => ?_)
            have hP : va_P (dC, dI) vwCl (([(h0, .inr (2, [.int (nI (n)), .int (nI (q)), .ref a1, .ref a2, .ref a3, .int (nI (z.2.2)), .int (nI (fr))])), (a1, .inl (cG, n, .inr (.inr (.inr (.inr (fun j => some (g j))))))), (a2, .inl (cI, n, .inl (fun j => oI ((va_up z.2.1 i (none)) j)))), (a3, .inl (cG, n, .inr (.inr (.inr (.inr (fun j => some (gQ j)))))))] : va_W) ++ va_pl L (pI cI pl f)) H := hP
            have hD : va_D A (([(h0, .inr (2, [.int (nI (n)), .int (nI (q)), .ref a1, .ref a2, .ref a3, .int (nI (z.2.2)), .int (nI (fr))])), (a1, .inl (cG, n, .inr (.inr (.inr (.inr (fun j => some (g j))))))), (a2, .inl (cI, n, .inl (fun j => oI ((va_up z.2.1 i (none)) j)))), (a3, .inl (cG, n, .inr (.inr (.inr (.inr (fun j => some (gQ j)))))))] : va_W) ++ va_pl L (pI cI pl f)) := hD
            refine lv_iload_n hx hb dX1_reduce_40 rfl (lv_at hl 0 rfl) ?_
            refine lv_iconst (v := (-1)) hx hb dX1_reduce_41 (by decide) ?_
            refine lv_icmp_eq (tgt := 87) hx hb dX1_reduce_42 (by decide) (fun c3 => ?_) (fun c3 => ?_)
            · skip
              refine lv_iinc (v := nI (i + 1)) (lv' := [(1, .int (nI (i + 1))), (2, .int ((-1))), (0, .ref h0)]) hx hb dX1_reduce_87 hl (k := 2) rfl (nI_1 _) (by decide) rfl (fun ls hl => ?_)
              refine lv_goto (tgt := 7) hx hb dX1_reduce_90 (by decide) ?_
              exact ih (i + 1) (z.1, va_up z.2.1 i none, z.2.2) g f (by omega) (by rw [← hzs, es]) ho h1 _ _ hP hD hS ls (lv_sub hl [2, 0] rfl)
            · skip
              exact absurd rfl c3
        · skip
          refine tp_i (y := nI r) rfl ?_
          have h9 := fR_some _ _ hfr
          have hrn : r < n := by omega
          refine lv_istore_n (lv' := [(2, .int (nI (r))), (0, .ref h0), (1, .int (nI (i)))]) hx hb dX1_reduce_20 rfl hl (by decide) rfl (fun ls hl => ?_)
          refine lv_aload_n hx hb dX1_reduce_21 rfl (lv_at hl 1 rfl) ?_
          refine va_get (D := (dC, dI)) (ci := 2) (v := .ref a2) (C := RX1) (T := TX1) (N := 7) hx hb hts hinX1 hown hK hP 0 rfl rfl 3 (by decide) hf23 (fun _ h9 => h9) rfl dX1_reduce_22 ?_
          refine lv_iload_n hx hb dX1_reduce_25 rfl (lv_at hl 2 rfl) ?_
          refine lv_iload_n hx hb dX1_reduce_26 rfl (lv_at hl 0 rfl) ?_
          refine lv_iconst (v := (-1)) hx hb dX1_reduce_27 (by decide) ?_
          refine lv_icmp_ne (tgt := 35) hx hb dX1_reduce_28 (by decide) (fun c2 => ?_) (fun c2 => ?_)
          · skip
            refine lv_aload_n hx hb dX1_reduce_35 rfl (lv_at hl 1 rfl) ?_
            refine va_get (D := (dC, dI)) (ci := 2) (v := .int (nI (z.2.2))) (C := RX1) (T := TX1) (N := 7) hx hb hts hinX1 hown hK hP 0 rfl rfl 5 (by decide) hf30 (fun _ h9 => h9) rfl dX1_reduce_36 ?_
            refine ra_st (g := oI) (F := z.2.1) (v := some z.2.2) hx hb hK hP hD hS 2 0 rfl rfl (by omega) (by omega) dX1_reduce_39 (fun H locs hP hD hS => ?_)
            have hP : va_P (dC, dI) vwCl (([(h0, .inr (2, [.int (nI (n)), .int (nI (q)), .ref a1, .ref a2, .ref a3, .int (nI (z.2.2)), .int (nI (fr))])), (a1, .inl (cG, n, .inr (.inr (.inr (.inr (fun j => some (g j))))))), (a2, .inl (cI, n, .inl (fun j => oI ((va_up z.2.1 i (some z.2.2)) j)))), (a3, .inl (cG, n, .inr (.inr (.inr (.inr (fun j => some (gQ j)))))))] : va_W) ++ va_pl L (pI cI pl f)) H := hP
            have hD : va_D A (([(h0, .inr (2, [.int (nI (n)), .int (nI (q)), .ref a1, .ref a2, .ref a3, .int (nI (z.2.2)), .int (nI (fr))])), (a1, .inl (cG, n, .inr (.inr (.inr (.inr (fun j => some (g j))))))), (a2, .inl (cI, n, .inl (fun j => oI ((va_up z.2.1 i (some z.2.2)) j)))), (a3, .inl (cG, n, .inr (.inr (.inr (.inr (fun j => some (gQ j)))))))] : va_W) ++ va_pl L (pI cI pl f)) := hD
            refine lv_iload_n hx hb dX1_reduce_40 rfl (lv_at hl 0 rfl) ?_
            refine lv_iconst (v := (-1)) hx hb dX1_reduce_41 (by decide) ?_
            refine lv_icmp_eq (tgt := 87) hx hb dX1_reduce_42 (by decide) (fun c3 => ?_) (fun c3 => ?_)
            · skip
              exact absurd c3 (nI_nm1 (by omega))
            · skip
              refine lv_aload_n hx hb dX1_reduce_45 rfl (lv_at hl 1 rfl) ?_
              refine lv_iload_n hx hb dX1_reduce_46 rfl (lv_at hl 0 rfl) ?_
              refine lv_aload_n hx hb dX1_reduce_47 rfl (lv_at hl 1 rfl) ?_
              refine va_get (D := (dC, dI)) (ci := 2) (v := .int (nI (z.2.2))) (C := RX1) (T := TX1) (N := 7) hx hb hts hinX1 hown hK hP 0 rfl rfl 5 (by decide) hf30 (fun _ h9 => h9) rfl dX1_reduce_48 ?_
              have hPc := hP.part (cx := [(h0, .inr (2, [.int (nI (n)), .int (nI (q)), .ref a1, .ref a2, .ref a3, .int (nI (z.2.2)), .int (nI (fr))])), (a1, .inl (cG, n, .inr (.inr (.inr (.inr (fun j => some (g j))))))), (a2, .inl (cI, n, .inl (fun j => oI ((va_up z.2.1 i (some z.2.2)) j)))), (a3, .inl (cG, n, .inr (.inr (.inr (.inr (fun j => some (gQ j)))))))]) [0, 1, 2, 3] rfl
              have hDc := hD.part (cx := [(h0, .inr (2, [.int (nI (n)), .int (nI (q)), .ref a1, .ref a2, .ref a3, .int (nI (z.2.2)), .int (nI (fr))])), (a1, .inl (cG, n, .inr (.inr (.inr (.inr (fun j => some (g j))))))), (a2, .inl (cI, n, .inl (fun j => oI ((va_up z.2.1 i (some z.2.2)) j)))), (a3, .inl (cG, n, .inr (.inr (.inr (.inr (fun j => some (gQ j)))))))]) [0, 1, 2, 3] (by decide) rfl
              have hFc := va_freeP (cx := [(h0, .inr (2, [.int (nI (n)), .int (nI (q)), .ref a1, .ref a2, .ref a3, .int (nI (z.2.2)), .int (nI (fr))])), (a1, .inl (cG, n, .inr (.inr (.inr (.inr (fun j => some (g j))))))), (a2, .inl (cI, n, .inl (fun j => oI ((va_up z.2.1 i (some z.2.2)) j)))), (a3, .inl (cG, n, .inr (.inr (.inr (.inr (fun j => some (gQ j)))))))]) hD hS hA [0, 1, 2, 3] rfl
              have hKc := hK.sub (tys' := [(cI, .int), (cG, .array .int)]) [0, 1] rfl
              refine va_callv (va_runV (As := [.int (nI (r)), .int (nI (z.2.2))]) (rest := []) ⟨hx, hb, hml, hown, hts⟩ (c_X1_swap l dC dI H.size h0 a1 a2 a3 n q z.2.2 fr g gQ (va_up z.2.1 i (some z.2.2)) cG cI L pl f r z.2.2 hn ho hrn (by omega)) (cwV 2 hts gX1_reduce_X1_swap rfl rfl rfl (by decide +kernel) ⟨Nat.le_of_ble_eq_true rfl, Nat.le_of_ble_eq_true rfl⟩) ⟨fun a U g mk q => by obtain ⟨q0, q1, qP, ⟨qK, qG⟩, qD⟩ := q; exact ⟨q0, q1, qP, ⟨va_K.moved (u := U) (U := U.calling g mk a) (Vm.Alike.refl U.vm) qK, qG.moved (u := U) (U := U.calling g mk a) (Vm.Alike.refl U.vm)⟩, qD⟩, va_recv hKc hPc (ci := 2) (q0 := 0) rfl rfl, fun U hU hW => ⟨rfl, by rw [hU], by rw [hU]; exact hPc, ⟨va_K.moved hW.alike hKc, hG.moved hW.alike⟩, hDc.weaken (fun _ _ _ _ => trivial)⟩⟩ rfl rfl hl.1 rfl (lv_room (Nat.le_of_ble_eq_true rfl)) dX1_reduce_51 ⟨Nat.zero_le _, Nat.zero_le _⟩) hS (fun q _ h => hFc q h) hFc (fun u t H1 locs ht hvm hw hB hz1 hk1 hS => ?_)
              obtain ⟨hP1, hK1, hD1⟩ := hB
              rw [ht] at hP1
              try dsimp only at hw
              obtain ⟨hP, hD⟩ := va_joinP (wr := []) (rx := [(h0, .inr (2, [.int (nI (n)), .int (nI (q)), .ref a1, .ref a2, .ref a3, .int (nI (z.2.2)), .int (nI (fr))])), (a1, .inl (cG, n, .inr (.inr (.inr (.inr (fun j => some ((va_up (va_up g r (g z.2.2)) z.2.2 (g r)) j))))))), (a2, .inl (cI, n, .inl (fun j => oI ((va_up z.2.1 i (some z.2.2)) j)))), (a3, .inl (cG, n, .inr (.inr (.inr (.inr (fun j => some (gQ j)))))))]) (pl1 := va_pl L (pI cI pl f)) hP hD [0, 1, 2, 3] [] rfl rfl (by decide) (by decide) hk1 hFc hP1 hD1
              generalize H1 = H at hP hS ⊢
              have hP := hP.part (cx := [(h0, .inr (2, [.int (nI (n)), .int (nI (q)), .ref a1, .ref a2, .ref a3, .int (nI (z.2.2)), .int (nI (fr))])), (a1, .inl (cG, n, .inr (.inr (.inr (.inr (fun j => some ((va_up (va_up g r (g z.2.2)) z.2.2 (g r)) j))))))), (a2, .inl (cI, n, .inl (fun j => oI ((va_up z.2.1 i (some z.2.2)) j)))), (a3, .inl (cG, n, .inr (.inr (.inr (.inr (fun j => some (gQ j)))))))]) [0, 1, 2, 3] rfl
              have hD := hD.part (cx := [(h0, .inr (2, [.int (nI (n)), .int (nI (q)), .ref a1, .ref a2, .ref a3, .int (nI (z.2.2)), .int (nI (fr))])), (a1, .inl (cG, n, .inr (.inr (.inr (.inr (fun j => some ((va_up (va_up g r (g z.2.2)) z.2.2 (g r)) j))))))), (a2, .inl (cI, n, .inl (fun j => oI ((va_up z.2.1 i (some z.2.2)) j)))), (a3, .inl (cG, n, .inr (.inr (.inr (.inr (fun j => some (gQ j)))))))]) [0, 1, 2, 3] (by decide) rfl
              have hP : va_P (dC, dI) vwCl (([(h0, .inr (2, [.int (nI (n)), .int (nI (q)), .ref a1, .ref a2, .ref a3, .int (nI (z.2.2)), .int (nI (fr))])), (a1, .inl (cG, n, .inr (.inr (.inr (.inr (fun j => some ((va_up (va_up g r (g z.2.2)) z.2.2 (g r)) j))))))), (a2, .inl (cI, n, .inl (fun j => oI ((va_up z.2.1 i (some z.2.2)) j)))), (a3, .inl (cG, n, .inr (.inr (.inr (.inr (fun j => some (gQ j)))))))] : va_W) ++ va_pl L (pI cI pl f)) H := hP
              have hD : va_D A (([(h0, .inr (2, [.int (nI (n)), .int (nI (q)), .ref a1, .ref a2, .ref a3, .int (nI (z.2.2)), .int (nI (fr))])), (a1, .inl (cG, n, .inr (.inr (.inr (.inr (fun j => some ((va_up (va_up g r (g z.2.2)) z.2.2 (g r)) j))))))), (a2, .inl (cI, n, .inl (fun j => oI ((va_up z.2.1 i (some z.2.2)) j)))), (a3, .inl (cG, n, .inr (.inr (.inr (.inr (fun j => some (gQ j)))))))] : va_W) ++ va_pl L (pI cI pl f)) := hD
              generalize eg : va_up (va_up g r (g z.2.2)) z.2.2 (g r) = g2 at hP hD
              have hP : va_P (dC, dI) vwCl (([(h0, .inr (2, [.int (nI (n)), .int (nI (q)), .ref a1, .ref a2, .ref a3, .int (nI (z.2.2)), .int (nI (fr))])), (a1, .inl (cG, n, .inr (.inr (.inr (.inr (fun j => some (g2 j))))))), (a2, .inl (cI, n, .inl (fun j => oI ((va_up z.2.1 i (some z.2.2)) j)))), (a3, .inl (cG, n, .inr (.inr (.inr (.inr (fun j => some (gQ j)))))))] : va_W) ++ va_pl L (pI cI pl f)) H := hP
              have hD : va_D A (([(h0, .inr (2, [.int (nI (n)), .int (nI (q)), .ref a1, .ref a2, .ref a3, .int (nI (z.2.2)), .int (nI (fr))])), (a1, .inl (cG, n, .inr (.inr (.inr (.inr (fun j => some (g2 j))))))), (a2, .inl (cI, n, .inl (fun j => oI ((va_up z.2.1 i (some z.2.2)) j)))), (a3, .inl (cG, n, .inr (.inr (.inr (.inr (fun j => some (gQ j)))))))] : va_W) ++ va_pl L (pI cI pl f)) := hD
              have g2b : g2 z.2.2 = g r := by rw [← eg, up_at]
              have g2r : r ≠ z.2.2 → g2 r = g z.2.2 := fun h => by rw [← eg, up_of _ _ h, up_at]
              have g2o : ∀ a, a ≠ z.2.2 → a ≠ r → g2 a = g a := fun a h h3 => by rw [← eg, up_of _ _ h, up_of _ _ h3]
              have ho2 : eqOK n g2 gQ L pl := by
                refine ⟨fun a ha => ?_, ho.2.1, fun a b ha hb hab => ?_, ho.2.2.2⟩
                · by_cases e1 : a = z.2.2
                  · rw [e1, g2b]; exact ho.1 r hrn
                  · by_cases e2 : a = r
                    · rw [e2, g2r (e2 ▸ e1)]; exact ho.1 _ (by omega)
                    · rw [g2o a e1 e2]; exact ho.1 a ha
                · have inj := ho.2.2.1
                  by_cases e1 : a = z.2.2 <;> by_cases e2 : b = z.2.2
                  · omega
                  · rw [e1, g2b] at hab
                    by_cases e3 : b = r
                    · rw [e3, g2r (e3 ▸ e2)] at hab; have := inj _ _ hrn (by omega) hab; omega
                    · rw [g2o b e2 e3] at hab; have := inj _ _ hrn hb hab; omega
                  · rw [e2, g2b] at hab
                    by_cases e3 : a = r
                    · rw [e3, g2r (e3 ▸ e1)] at hab; have := inj _ _ (by omega) hrn hab; omega
                    · rw [g2o a e1 e3] at hab; have := inj _ _ ha hrn hab; omega
                  · by_cases e3 : a = r <;> by_cases e4 : b = r
                    · omega
                    · rw [e3, g2r (e3 ▸ e1), g2o b e2 e4] at hab; have := inj _ _ (by omega) hb hab; omega
                    · rw [e4, g2r (e4 ▸ e2), g2o a e1 e3] at hab; have := inj _ _ ha (by omega) hab; omega
                    · rw [g2o a e1 e3, g2o b e2 e4] at hab; exact inj _ _ ha hb hab
              have hs : ∀ a, a < n → f (g2 a) = swp r z.2.2 z.1 a := by
                intro a ha
                unfold swp
                by_cases e1 : a = z.2.2
                · rw [if_pos e1, e1, g2b, h1 r hrn]
                · rw [if_neg e1]
                  by_cases e2 : a = r
                  · rw [if_pos e2, e2, g2r (e2 ▸ e1), h1 _ (by omega)]
                  · rw [if_neg e2, g2o a e1 e2, h1 a ha]
              have bl2 : ∀ a, a < n → ∀ j, j < n + 1 → f (g2 a) j < q := by
                intro a ha j hj
                by_cases e1 : a = z.2.2
                · rw [e1, g2b]; exact bl r hrn j hj
                · by_cases e2 : a = r
                  · rw [e2, g2r (e2 ▸ e1)]; exact bl _ (by omega) j hj
                  · rw [g2o a e1 e2]; exact bl a ha j hj
              have gb := ho2.1 z.2.2 (by omega)
              have efr : f (g2 z.2.2) = z.1 r := by rw [g2b, h1 r hrn]
              refine lv_aload_n hx hb dX1_reduce_54 rfl (lv_at hl 1 rfl) ?_
              refine lv_aload_n hx hb dX1_reduce_55 rfl (lv_at hl 1 rfl) ?_
              refine va_get (D := (dC, dI)) (ci := 2) (v := .ref a1) (C := RX1) (T := TX1) (N := 7) hx hb hts hinX1 hown hK hP 0 rfl rfl 2 (by decide) hf20 (fun _ h9 => h9) rfl dX1_reduce_56 ?_
              refine lv_aload_n hx hb dX1_reduce_59 rfl (lv_at hl 1 rfl) ?_
              refine va_get (D := (dC, dI)) (ci := 2) (v := .int (nI (z.2.2))) (C := RX1) (T := TX1) (N := 7) hx hb hts hinX1 hown hK hP 0 rfl rfl 5 (by decide) hf30 (fun _ h9 => h9) rfl dX1_reduce_60 ?_
              refine rg_ld (G := g2) hx hb hK hP 1 1 rfl rfl (by omega) (by omega) dX1_reduce_63 ?_
              refine lv_iload_n hx hb dX1_reduce_64 rfl (lv_at hl 2 rfl) ?_
              have hPc := hP.part (cx := [(h0, .inr (2, [.int (nI (n)), .int (nI (q)), .ref a1, .ref a2, .ref a3, .int (nI (z.2.2)), .int (nI (fr))]))]) [0] rfl
              have hDc := hD.part (cx := [(h0, .inr (2, [.int (nI (n)), .int (nI (q)), .ref a1, .ref a2, .ref a3, .int (nI (z.2.2)), .int (nI (fr))]))]) [0] (by decide) rfl
              have hFc := va_freeP (cx := [(h0, .inr (2, [.int (nI (n)), .int (nI (q)), .ref a1, .ref a2, .ref a3, .int (nI (z.2.2)), .int (nI (fr))]))]) hD hS hA [0] rfl
              have hKc := hK.sub (tys' := [(cI, .int)]) [0] rfl
              refine va_callv (va_runV (As := [.ref (g2 z.2.2), .int (nI (i))]) (rest := []) ⟨hx, hb, hml, hown, hts⟩ (c_X1_makeUnit l dC dI H.size h0 n q (g2 z.2.2) i (.ref a1) (.ref a2) (.ref a3) (.int (nI z.2.2)) (.int (nI fr)) cI L pl f hn hq hq2 (by omega) gb.1 gb.2 (bl2 _ (by omega)) (ivq_lt _ _ (by omega))) (cwV 2 hts gX1_reduce_X1_makeUnit rfl rfl rfl (by decide +kernel) ⟨Nat.le_of_ble_eq_true rfl, Nat.le_of_ble_eq_true rfl⟩) ⟨fun a U g mk q => by obtain ⟨q0, q1, qP, qK, qD⟩ := q; exact ⟨q0, q1, qP, va_K.moved (u := U) (U := U.calling g mk a) (Vm.Alike.refl U.vm) qK, qD⟩, va_recv hKc hPc (ci := 2) (q0 := 0) rfl rfl, fun U hU hW => ⟨rfl, by rw [hU], by rw [hU]; exact hPc, va_K.moved hW.alike hKc, hDc.weaken (fun _ _ _ _ => trivial)⟩⟩ rfl rfl hl.1 rfl (lv_room (Nat.le_of_ble_eq_true rfl)) dX1_reduce_65 ⟨Nat.zero_le _, Nat.zero_le _⟩) hS (fun q _ h => hFc q h) hFc (fun u t H1 locs ht hvm hw hB hz1 hk1 hS => ?_)
              obtain ⟨hP1, hK1, hD1⟩ := hB
              rw [ht] at hP1
              try dsimp only at hw
              obtain ⟨hP, hD⟩ := va_joinP (wr := [(a1, .inl (cG, n, .inr (.inr (.inr (.inr (fun j => some (g2 j))))))), (a2, .inl (cI, n, .inl (fun j => oI ((va_up z.2.1 i (some z.2.2)) j)))), (a3, .inl (cG, n, .inr (.inr (.inr (.inr (fun j => some (gQ j)))))))]) (rx := [(h0, .inr (2, [.int (nI (n)), .int (nI (q)), .ref a1, .ref a2, .ref a3, .int (nI (z.2.2)), .int (nI (fr))]))]) (pl1 := va_pl L (pI cI pl (va_up f (g2 z.2.2) (scR n q (ivq q (f (g2 z.2.2) i) (q - 2) 2) (f (g2 z.2.2)))))) hP hD [0] [1, 2, 3] rfl rfl (by decide) (by decide) hk1 hFc hP1 hD1
              generalize H1 = H at hP hS ⊢
              have hP := hP.part (cx := [(h0, .inr (2, [.int (nI (n)), .int (nI (q)), .ref a1, .ref a2, .ref a3, .int (nI (z.2.2)), .int (nI (fr))])), (a1, .inl (cG, n, .inr (.inr (.inr (.inr (fun j => some (g2 j))))))), (a2, .inl (cI, n, .inl (fun j => oI ((va_up z.2.1 i (some z.2.2)) j)))), (a3, .inl (cG, n, .inr (.inr (.inr (.inr (fun j => some (gQ j)))))))]) [3, 0, 1, 2] rfl
              have hD := hD.part (cx := [(h0, .inr (2, [.int (nI (n)), .int (nI (q)), .ref a1, .ref a2, .ref a3, .int (nI (z.2.2)), .int (nI (fr))])), (a1, .inl (cG, n, .inr (.inr (.inr (.inr (fun j => some (g2 j))))))), (a2, .inl (cI, n, .inl (fun j => oI ((va_up z.2.1 i (some z.2.2)) j)))), (a3, .inl (cG, n, .inr (.inr (.inr (.inr (fun j => some (gQ j)))))))]) [3, 0, 1, 2] (by decide) rfl
              have hP : va_P (dC, dI) vwCl (([(h0, .inr (2, [.int (nI (n)), .int (nI (q)), .ref a1, .ref a2, .ref a3, .int (nI (z.2.2)), .int (nI (fr))])), (a1, .inl (cG, n, .inr (.inr (.inr (.inr (fun j => some (g2 j))))))), (a2, .inl (cI, n, .inl (fun j => oI ((va_up z.2.1 i (some z.2.2)) j)))), (a3, .inl (cG, n, .inr (.inr (.inr (.inr (fun j => some (gQ j)))))))] : va_W) ++ va_pl L (pI cI pl (va_up f (g2 z.2.2) (scR n q (ivq q (f (g2 z.2.2) i) (q - 2) 2) (f (g2 z.2.2)))))) H := hP
              have hD : va_D A (([(h0, .inr (2, [.int (nI (n)), .int (nI (q)), .ref a1, .ref a2, .ref a3, .int (nI (z.2.2)), .int (nI (fr))])), (a1, .inl (cG, n, .inr (.inr (.inr (.inr (fun j => some (g2 j))))))), (a2, .inl (cI, n, .inl (fun j => oI ((va_up z.2.1 i (some z.2.2)) j)))), (a3, .inl (cG, n, .inr (.inr (.inr (.inr (fun j => some (gQ j)))))))] : va_W) ++ va_pl L (pI cI pl (va_up f (g2 z.2.2) (scR n q (ivq q (f (g2 z.2.2) i) (q - 2) 2) (f (g2 z.2.2)))))) := hD
              generalize ef2 : va_up f (g2 z.2.2) (scR n q (ivq q (f (g2 z.2.2) i) (q - 2) 2) (f (g2 z.2.2))) = f2 at hP hD
              have hP : va_P (dC, dI) vwCl (([(h0, .inr (2, [.int (nI (n)), .int (nI (q)), .ref a1, .ref a2, .ref a3, .int (nI (z.2.2)), .int (nI (fr))])), (a1, .inl (cG, n, .inr (.inr (.inr (.inr (fun j => some (g2 j))))))), (a2, .inl (cI, n, .inl (fun j => oI ((va_up z.2.1 i (some z.2.2)) j)))), (a3, .inl (cG, n, .inr (.inr (.inr (.inr (fun j => some (gQ j)))))))] : va_W) ++ va_pl L (pI cI pl f2)) H := hP
              have hD : va_D A (([(h0, .inr (2, [.int (nI (n)), .int (nI (q)), .ref a1, .ref a2, .ref a3, .int (nI (z.2.2)), .int (nI (fr))])), (a1, .inl (cG, n, .inr (.inr (.inr (.inr (fun j => some (g2 j))))))), (a2, .inl (cI, n, .inl (fun j => oI ((va_up z.2.1 i (some z.2.2)) j)))), (a3, .inl (cG, n, .inr (.inr (.inr (.inr (fun j => some (gQ j)))))))] : va_W) ++ va_pl L (pI cI pl f2)) := hD
              have hs2 : ∀ a, a < n → f2 (g2 a) = (va_up (swp r z.2.2 z.1) z.2.2 (scR n q (ivq q (z.1 r i) (q - 2) 2) (z.1 r))) a := by
                intro a ha
                rw [← ef2]
                by_cases e1 : a = z.2.2
                · rw [e1, up_at, up_at, efr]
                · rw [up_of _ _ (fun h => e1 (ho2.2.2.1 _ _ ha (by omega) h)), up_of _ _ e1, hs a ha]
              have bl3 : ∀ a, a < n → ∀ j, j < n + 1 → f2 (g2 a) j < q := by
                intro a ha j hj
                rw [← ef2]
                by_cases e1 : a = z.2.2
                · rw [e1, up_at]; exact scR_lt (by omega) _ hj
                · rw [up_of _ _ (fun h => e1 (ho2.2.2.1 _ _ ha (by omega) h))]; exact bl2 a ha j hj
              refine lv_aload_n hx hb dX1_reduce_68 rfl (lv_at hl 1 rfl) ?_
              refine lv_aload_n hx hb dX1_reduce_69 rfl (lv_at hl 1 rfl) ?_
              refine va_get (D := (dC, dI)) (ci := 2) (v := .int (nI (z.2.2))) (C := RX1) (T := TX1) (N := 7) hx hb hts hinX1 hown hK hP 0 rfl rfl 5 (by decide) hf30 (fun _ h9 => h9) rfl dX1_reduce_70 ?_
              refine lv_iload_n hx hb dX1_reduce_73 rfl (lv_at hl 2 rfl) ?_
              have hPc := hP.part (cx := [(h0, .inr (2, [.int (nI (n)), .int (nI (q)), .ref a1, .ref a2, .ref a3, .int (nI (z.2.2)), .int (nI (fr))])), (a1, .inl (cG, n, .inr (.inr (.inr (.inr (fun j => some (g2 j))))))), (a2, .inl (cI, n, .inl (fun j => oI ((va_up z.2.1 i (some z.2.2)) j)))), (a3, .inl (cG, n, .inr (.inr (.inr (.inr (fun j => some (gQ j)))))))]) [0, 1, 2, 3] rfl
              have hDc := hD.part (cx := [(h0, .inr (2, [.int (nI (n)), .int (nI (q)), .ref a1, .ref a2, .ref a3, .int (nI (z.2.2)), .int (nI (fr))])), (a1, .inl (cG, n, .inr (.inr (.inr (.inr (fun j => some (g2 j))))))), (a2, .inl (cI, n, .inl (fun j => oI ((va_up z.2.1 i (some z.2.2)) j)))), (a3, .inl (cG, n, .inr (.inr (.inr (.inr (fun j => some (gQ j)))))))]) [0, 1, 2, 3] (by decide) rfl
              have hFc := va_freeP (cx := [(h0, .inr (2, [.int (nI (n)), .int (nI (q)), .ref a1, .ref a2, .ref a3, .int (nI (z.2.2)), .int (nI (fr))])), (a1, .inl (cG, n, .inr (.inr (.inr (.inr (fun j => some (g2 j))))))), (a2, .inl (cI, n, .inl (fun j => oI ((va_up z.2.1 i (some z.2.2)) j)))), (a3, .inl (cG, n, .inr (.inr (.inr (.inr (fun j => some (gQ j)))))))]) hD hS hA [0, 1, 2, 3] rfl
              have hKc := hK.sub (tys' := [(cI, .int), (cG, .array .int)]) [0, 1] rfl
              refine va_callv (va_runV (As := [.int (nI (z.2.2)), .int (nI (i))]) (rest := []) ⟨hx, hb, hml, hown, hts⟩ (c_X1_clearElsewhere l dC dI H.size h0 a1 a2 a3 n q z.2.2 fr g2 gQ (va_up z.2.1 i (some z.2.2)) cG cI L pl f2 z.2.2 i hn ho2 (by omega) (by omega) hq hq2 bl3) (cwV 2 hts gX1_reduce_X1_clearElsewhere rfl rfl rfl (by decide +kernel) ⟨Nat.le_of_ble_eq_true rfl, Nat.le_of_ble_eq_true rfl⟩) ⟨fun a U g mk q => by obtain ⟨q0, q1, qP, qK, qD⟩ := q; exact ⟨q0, q1, qP, va_K.moved (u := U) (U := U.calling g mk a) (Vm.Alike.refl U.vm) qK, qD⟩, va_recv hKc hPc (ci := 2) (q0 := 0) rfl rfl, fun U hU hW => ⟨rfl, by rw [hU], by rw [hU]; exact hPc, va_K.moved hW.alike hKc, hDc.weaken (fun _ _ _ _ => trivial)⟩⟩ rfl rfl hl.1 rfl (lv_room (Nat.le_of_ble_eq_true rfl)) dX1_reduce_74 ⟨Nat.zero_le _, Nat.zero_le _⟩) hS (fun q _ h => hFc q h) hFc (fun f3 t H1 locs ht hvm hw hB hz1 hk1 hS => ?_)
              obtain ⟨hP1, hK1, hD1⟩ := hB
              rw [ht] at hP1
              try dsimp only at hw
              obtain ⟨hP, hD⟩ := va_joinP (wr := []) (rx := [(h0, .inr (2, [.int (nI (n)), .int (nI (q)), .ref a1, .ref a2, .ref a3, .int (nI (z.2.2)), .int (nI (fr))])), (a1, .inl (cG, n, .inr (.inr (.inr (.inr (fun j => some (g2 j))))))), (a2, .inl (cI, n, .inl (fun j => oI ((va_up z.2.1 i (some z.2.2)) j)))), (a3, .inl (cG, n, .inr (.inr (.inr (.inr (fun j => some (gQ j)))))))]) (pl1 := va_pl L (pI cI pl f3)) hP hD [0, 1, 2, 3] [] rfl rfl (by decide) (by decide) hk1 hFc hP1 hD1
              generalize H1 = H at hP hS ⊢
              have hP := hP.part (cx := [(h0, .inr (2, [.int (nI (n)), .int (nI (q)), .ref a1, .ref a2, .ref a3, .int (nI (z.2.2)), .int (nI (fr))])), (a1, .inl (cG, n, .inr (.inr (.inr (.inr (fun j => some (g2 j))))))), (a2, .inl (cI, n, .inl (fun j => oI ((va_up z.2.1 i (some z.2.2)) j)))), (a3, .inl (cG, n, .inr (.inr (.inr (.inr (fun j => some (gQ j)))))))]) [0, 1, 2, 3] rfl
              have hD := hD.part (cx := [(h0, .inr (2, [.int (nI (n)), .int (nI (q)), .ref a1, .ref a2, .ref a3, .int (nI (z.2.2)), .int (nI (fr))])), (a1, .inl (cG, n, .inr (.inr (.inr (.inr (fun j => some (g2 j))))))), (a2, .inl (cI, n, .inl (fun j => oI ((va_up z.2.1 i (some z.2.2)) j)))), (a3, .inl (cG, n, .inr (.inr (.inr (.inr (fun j => some (gQ j)))))))]) [0, 1, 2, 3] (by decide) rfl
              have hP : va_P (dC, dI) vwCl (([(h0, .inr (2, [.int (nI (n)), .int (nI (q)), .ref a1, .ref a2, .ref a3, .int (nI (z.2.2)), .int (nI (fr))])), (a1, .inl (cG, n, .inr (.inr (.inr (.inr (fun j => some (g2 j))))))), (a2, .inl (cI, n, .inl (fun j => oI ((va_up z.2.1 i (some z.2.2)) j)))), (a3, .inl (cG, n, .inr (.inr (.inr (.inr (fun j => some (gQ j)))))))] : va_W) ++ va_pl L (pI cI pl f3)) H := hP
              have hD : va_D A (([(h0, .inr (2, [.int (nI (n)), .int (nI (q)), .ref a1, .ref a2, .ref a3, .int (nI (z.2.2)), .int (nI (fr))])), (a1, .inl (cG, n, .inr (.inr (.inr (.inr (fun j => some (g2 j))))))), (a2, .inl (cI, n, .inl (fun j => oI ((va_up z.2.1 i (some z.2.2)) j)))), (a3, .inl (cG, n, .inr (.inr (.inr (.inr (fun j => some (gQ j)))))))] : va_W) ++ va_pl L (pI cI pl f3)) := hD
              refine lv_aload_n hx hb dX1_reduce_77 rfl (lv_at hl 1 rfl) ?_
              refine lv_dup hx hb dX1_reduce_78 rfl ?_
              refine va_get (D := (dC, dI)) (ci := 2) (v := .int (nI (z.2.2))) (C := RX1) (T := TX1) (N := 7) hx hb hts hinX1 hown hK hP 0 rfl rfl 5 (by decide) hf30 (fun _ h9 => h9) rfl dX1_reduce_79 ?_
              refine lv_iconst (v := nI 1) hx hb dX1_reduce_82 (by decide) ?_
              refine lv_iadd hx hb dX1_reduce_83 ?_
              refine tp_i (y := nI (z.2.2 + 1)) (nI_add _ _) ?_
              refine va_put (D := (dC, dI)) (ci := 2) (v := .int (nI (z.2.2 + 1))) (ty := .int) (C := RX1) (T := TX1) (N := 7) hx hb hts hinX1 tyX1 tyX1_ok nmX1 hown hK hP hD hS 0 rfl rfl 5 (by decide) hf30 (fun _ h9 => h9) rfl (by decide +kernel) rfl rfl (Nat.le_of_ble_eq_true rfl) dX1_reduce_84 (fun H locs hP hD hS => ?_)
              have hP : va_P (dC, dI) vwCl (([(h0, .inr (2, [.int (nI (n)), .int (nI (q)), .ref a1, .ref a2, .ref a3, .int (nI (z.2.2 + 1)), .int (nI (fr))])), (a1, .inl (cG, n, .inr (.inr (.inr (.inr (fun j => some (g2 j))))))), (a2, .inl (cI, n, .inl (fun j => oI ((va_up z.2.1 i (some z.2.2)) j)))), (a3, .inl (cG, n, .inr (.inr (.inr (.inr (fun j => some (gQ j)))))))] : va_W) ++ va_pl L (pI cI pl f3)) H := hP
              have hD : va_D A (([(h0, .inr (2, [.int (nI (n)), .int (nI (q)), .ref a1, .ref a2, .ref a3, .int (nI (z.2.2 + 1)), .int (nI (fr))])), (a1, .inl (cG, n, .inr (.inr (.inr (.inr (fun j => some (g2 j))))))), (a2, .inl (cI, n, .inl (fun j => oI ((va_up z.2.1 i (some z.2.2)) j)))), (a3, .inl (cG, n, .inr (.inr (.inr (.inr (fun j => some (gQ j)))))))] : va_W) ++ va_pl L (pI cI pl f3)) := hD
              refine lv_iinc (v := nI (i + 1)) (lv' := [(1, .int (nI (i + 1))), (2, .int (nI (r))), (0, .ref h0)]) hx hb dX1_reduce_87 hl (k := 2) rfl (nI_1 _) (by decide) rfl (fun ls hl => ?_)
              refine lv_goto (tgt := 7) hx hb dX1_reduce_90 (by decide) ?_
              have es : rst n q i z = (clr n q z.2.2 i (va_up (swp r z.2.2 z.1) z.2.2 (scR n q (ivq q (z.1 r i) (q - 2) 2) (z.1 r))), va_up z.2.1 i (some z.2.2), z.2.2 + 1) := by unfold rst; rw [hfr]
              have hs3 : ∀ a, a < n → f3 (g2 a) = clr n q z.2.2 i (va_up (swp r z.2.2 z.1) z.2.2 (scR n q (ivq q (z.1 r i) (q - 2) 2) (z.1 r))) a := by
                intro a ha
                rw [hw.1 a ha]
                unfold clr
                simp only [hs2 a ha, hs2 z.2.2 (by omega)]
              exact ih (i + 1) (clr n q z.2.2 i (va_up (swp r z.2.2 z.1) z.2.2 (scR n q (ivq q (z.1 r i) (q - 2) 2) (z.1 r))), va_up z.2.1 i (some z.2.2), z.2.2 + 1) g2 f3 (by omega) (by rw [← hzs, es]) ho2 hs3 _ _ hP hD hS ls (lv_sub hl [2, 0] rfl)
          · skip
            exact absurd c2 (nI_nm1 (by omega))
  exact lp n 0 ((fun i => pr (gR i)), ro, 0) gR pr (by omega) rfl hok (fun _ _ => rfl) _ _ hP hD hS ls (lv_sub hl [1, 0] rfl)

theorem tt_B.later {s0 : State} {A0 : Array Value} {str : Nat} {s U : State} (h : tt_B s0 A0 str s) (hU : U.heap = s.heap) (hW : s.WarmedH U.vm) : tt_B s0 A0 str U := by
  obtain ⟨h1, h2, h3, h4, h5⟩ := h
  exact ⟨h1, h2, State.WarmedH.trans h3 hW, by rw [hU]; exact h4, by rw [hU]; exact h5⟩
set_option maxHeartbeats 4000000 in
set_option maxRecDepth 100000 in
/-- mustExist(x): nothing, where x is a lamp; else the exception -/
theorem c_X3_mustExist (l : Launch) (dC : Nat → ClassId) (dI : Nat → Nat → Nat) (hfl : l.flags = pinnedFlags ++ [noTraceFlag]) (s0 : State) (A0 : Array Value) (str : Nat) (sz : Nat) (h0 n : Nat) (v1 v2 v3 v4 v5 v6 v7 v8 v9 : Value) (x : Int32) (hn : n < 1000) :
    tt_Met l yX3_mustExist wsX3_mustExist ({ frames := 7, cells := 1, slots := 6, locals := 95 }) (va_Pc [.ref h0, .int x] (fun U => U.heap.size = sz ∧ va_P (dC, dI) vwCl [(h0, .inr (4, [.int (nI n), v1, v2, v3, v4, v5, v6, v7, v8, v9]))] U.heap ∧ va_K (dC, dI) vwCl [] U ∧ va_D (fun _ => True) [(h0, .inr (4, [.int (nI n), v1, v2, v3, v4, v5, v6, v7, v8, v9]))] ∧ tt_B s0 A0 str U)) (tt_Q (∃ j : Nat, j < n ∧ x = nI j) tt_U) 1 6 (fun _ => False) := by
  refine tt_ofW (cc := cX3_mustExist) (maxL := 2) (ret := none) (by decide) rfl ?_
  intro zp ze s m args below meth zc s₁ B hml hv
  obtain ⟨hargs, hsz, hP, hK, hD0, hB⟩ := hv
  have hx := B.exec
  have hb := B.bytes
  have hr := B.returns
  have hts := atoms_spec (ws := wsX3_mustExist) B.pre
  have hown : s.vm.findClass RX3 = some m.cls := findClass_of_methodNamed B.named
  have hlocks := B.notSynchronized
  have hemp := B.noHandlers (hts _ List.mem_cons_self)
  have hl := lv_entry ([.ref h0, .int x]) (n := 2) (Nat.le_of_ble_eq_true rfl)
  generalize hen : entryFrame m args 2 = fr
  rw [hargs, lg_entry_eq] at hen
  subst hen
  generalize (lg_sl ([.ref h0, .int x]) ++ List.replicate (2 - (lg_sl ([.ref h0, .int x])).length) Slot.unset).toArray = ls at hl ⊢
  have hl : lv_has ls 2 [(0, .ref h0), (1, .int x)] := hl
  have hinX3 : ∀ w ∈ wsX30, w ∈ wsX3_mustExist := by decide +kernel
  have hf18 := hts (.fieldLink RX3 18 "LightRows" "lamps" "I") (by decide +kernel)
  have hthrow : ¬ (∃ j : Nat, j < n ∧ x = nI j) → W zp l ze (headSpec wsX3_mustExist ({ frames := 7, cells := 1, slots := 6, locals := 95 })).room s m args below meth zc s.heap [] 0 0 (tt_MQ below (tt_Q (∃ j : Nat, j < n ∧ x = nI j) tt_U) args s 1 6 (fun _ => False)) (F0 m 12 ls []) := by
    intro hno
    refine W.newc (C := ttX) (n := 6) hx hb hown (hts (.classLink RX3 123 RJx00060) (by decide +kernel)) (hts (.instantiable RJx00060 6) (by decide +kernel)) (hts (.initialized RJx00060) (by decide +kernel)) rfl dX3_mustExist_12 (Nat.le_of_ble_eq_true rfl) (Nat.le_of_ble_eq_true rfl) (fun cX kX h1 h2 h3 h4 => ?_)
    refine lv_dup hx hb dX3_mustExist_15 rfl ?_
    refine va_ldcS hx hb hown (hB.2.1.warm hB.2.2.1) dX3_mustExist_16 ?_
    exact tt_throw hx hb hfl hown (tt_all hB.2.2 hB.1) h1 h2 (by simp) (Nat.le_refl _) (hl.1.trans hml.symm) hemp dX3_mustExist_18 dX3_mustExist_21 (Nat.le_of_ble_eq_true rfl) (Nat.le_of_ble_eq_true rfl) hlocks hno
  refine lv_iload_n hx hb dX3_mustExist_0 rfl (lv_at hl 1 rfl) ?_
  refine lv_if_lt (tgt := 12) hx hb dX3_mustExist_1 (by decide) (fun c => ?_) (fun c => ?_)
  · exact hthrow (fun ⟨j, hj, e⟩ => nI_pos (by omega) (e ▸ c))
  · refine lv_iload_n hx hb dX3_mustExist_4 rfl (lv_at hl 1 rfl) ?_
    refine lv_aload_n hx hb dX3_mustExist_5 rfl (lv_at hl 0 rfl) ?_
    refine va_get (D := (dC, dI)) (ci := 4) (v := .int (nI n)) (C := RX3) (T := TX3) (N := 10) hx hb hts hinX3 hown hK hP 0 rfl rfl 0 (by decide) hf18 (fun _ h9 => h9) rfl dX3_mustExist_6 ?_
    refine lv_icmp_lt (tgt := 22) hx hb dX3_mustExist_9 (by decide) (fun c2 => ?_) (fun c2 => ?_)
    · refine W.widen (k := 1) (n := 6) (by omega) (by omega) ?_
      refine tt_ret (by
        rcases pk_ix x (n := n) (by omega) with h | h | h
        · exact absurd h c
        · exact absurd c2 (by rw [Int32.not_lt]; exact h)
        · exact h) ?_
      exact W.vret hx hb hr (fun t ht hW => ⟨rfl, ht⟩) (fun q hq => by cases hq) dX3_mustExist_22
    · exact hthrow (fun ⟨j, hj, e⟩ => c2 (by rw [e]; exact nI_lt hj (by omega)))

set_option maxHeartbeats 4000000 in
set_option maxRecDepth 100000 in
theorem c_X4_count (l : Launch) (dC : Nat → ClassId) (dI : Nat → Nat → Nat) (sz : Nat) (m0 aJ aS aT aW aR aP aH aK aE aY aN aQ aB aI aD n q rk : Nat) (th : Int32) (kn : Bool) (cI cZ : ClassId) (jn : Nat → Bool) (ns : Nat → Bool) (rw : Nat → Nat) (ps : Nat → Nat) (hd : Nat → Nat) (bo : Nat → Bool) (re : Nat → Nat) (yy : Nat → Nat) (qu : Nat → Nat) (st : Nat → Nat) (wt : Nat → Nat) (an : Nat → Nat) (dg : Nat → Nat) (x : Int32) (hn : n < 31) (hq : 2 ≤ q) (hq2 : q < 100) (hinv : hasInv q) (hkn : kn = true → kOK n (knN n q (eff jn ns) n) rk rw ps hd qu) (hs0 : ∀ k, k < n → st k < q) (hw0 : ∀ k, k < n → wt k < q) (hq7 : q ≤ 7) : Met l yX4_count wsX4_count ({ frames := 4, cells := 0, slots := 0, locals := 90 }) (va_Pc [.ref m0, .int (x)] (fun U => U.heap.size = sz ∧ va_P (dC, dI) vwCl [(m0, .inr (5, [.int (th), .int (nI (n)), .int (nI (q)), .ref aJ, .ref aS, .ref aT, .ref aW, .int (bI kn), .int (nI (rk)), .ref aR, .ref aP, .ref aH, .ref aK, .ref aE, .ref aY, .ref aN, .ref aQ, .ref aB, .ref aI, .ref aD])), (aJ, .inl (cZ, 900, .inl (fun j => bI (jn j)))), (aS, .inl (cZ, 30, .inl (fun j => bI (ns j)))), (aR, .inl (cI, 900, .inl (fun j => nI (rw j)))), (aP, .inl (cI, 900, .inl (fun j => nI (ps j)))), (aH, .inl (cI, 30, .inl (fun j => nI (hd j)))), (aK, .inl (cZ, 30, .inl (fun j => bI (bo j)))), (aE, .inl (cI, 30, .inl (fun j => nI (re j)))), (aY, .inl (cI, 30, .inl (fun j => nI (yy j)))), (aQ, .inl (cI, 900, .inl (fun j => nI (qu j)))), (aT, .inl (cI, 30, .inl (fun j => nI (st j)))), (aW, .inl (cI, 30, .inl (fun j => nI (wt j)))), (aN, .inl (cI, 30, .inl (fun j => nI (an j)))), (aD, .inl (cI, 30, .inl (fun j => nI (dg j))))] U.heap ∧ va_K (dC, dI) vwCl [(cI, .int), (cZ, .boolean)] U ∧ va_D (fun _ => True) [(m0, .inr (5, [.int (th), .int (nI (n)), .int (nI (q)), .ref aJ, .ref aS, .ref aT, .ref aW, .int (bI kn), .int (nI (rk)), .ref aR, .ref aP, .ref aH, .ref aK, .ref aE, .ref aY, .ref aN, .ref aQ, .ref aB, .ref aI, .ref aD])), (aJ, .inl (cZ, 900, .inl (fun j => bI (jn j)))), (aS, .inl (cZ, 30, .inl (fun j => bI (ns j)))), (aR, .inl (cI, 900, .inl (fun j => nI (rw j)))), (aP, .inl (cI, 900, .inl (fun j => nI (ps j)))), (aH, .inl (cI, 30, .inl (fun j => nI (hd j)))), (aK, .inl (cZ, 30, .inl (fun j => bI (bo j)))), (aE, .inl (cI, 30, .inl (fun j => nI (re j)))), (aY, .inl (cI, 30, .inl (fun j => nI (yy j)))), (aQ, .inl (cI, 900, .inl (fun j => nI (qu j)))), (aT, .inl (cI, 30, .inl (fun j => nI (st j)))), (aW, .inl (cI, 30, .inl (fun j => nI (wt j)))), (aN, .inl (cI, 30, .inl (fun j => nI (an j)))), (aD, .inl (cI, 30, .inl (fun j => nI (dg j))))])) (va_Qi (fun (z : Int32) (u : ((Nat × (Nat → Nat) × (Nat → Nat) × (Nat → Nat) × (Nat → Bool) × (Nat → Nat) × (Nat → Nat) × (Nat → Nat)) × (Nat → Nat)) × (Nat → Nat)) => (kOK n (knN n q (eff jn ns) n) u.1.1.1 u.1.1.2.1 u.1.1.2.2.1 u.1.1.2.2.2.1 u.1.1.2.2.2.2.2.2.2) ∧ (∀ k, k < n → u.1.2 k = (tkE n q (eff jn ns) (dfV q st wt)).2 k) ∧ dgP (mulN q (va_up dg 0 (if (lft (tkE n q (eff jn ns) (dfV q st wt)).1 n 0).isNone = true then 1 else 0), 1) (if (lft (tkE n q (eff jn ns) (dfV q st wt)).1 n 0).isNone = true then (knN n q (eff jn ns) n).2.2.2.2.1 else 0)) x z) (fun u t => va_P (dC, dI) vwCl [(m0, .inr (5, [.int (bI false), .int (nI (n)), .int (nI (q)), .ref aJ, .ref aS, .ref aT, .ref aW, .int (bI true), .int (nI (u.1.1.1)), .ref aR, .ref aP, .ref aH, .ref aK, .ref aE, .ref aY, .ref aN, .ref aQ, .ref aB, .ref aI, .ref aD])), (aJ, .inl (cZ, 900, .inl (fun j => bI (jn j)))), (aS, .inl (cZ, 30, .inl (fun j => bI (ns j)))), (aR, .inl (cI, 900, .inl (fun j => nI (u.1.1.2.1 j)))), (aP, .inl (cI, 900, .inl (fun j => nI (u.1.1.2.2.1 j)))), (aH, .inl (cI, 30, .inl (fun j => nI (u.1.1.2.2.2.1 j)))), (aK, .inl (cZ, 30, .inl (fun j => bI (u.1.1.2.2.2.2.1 j)))), (aE, .inl (cI, 30, .inl (fun j => nI (u.1.1.2.2.2.2.2.1 j)))), (aY, .inl (cI, 30, .inl (fun j => nI (u.1.1.2.2.2.2.2.2.1 j)))), (aQ, .inl (cI, 900, .inl (fun j => nI (u.1.1.2.2.2.2.2.2.2 j)))), (aT, .inl (cI, 30, .inl (fun j => nI (st j)))), (aW, .inl (cI, 30, .inl (fun j => nI (wt j)))), (aN, .inl (cI, 30, .inl (fun j => nI (u.1.2 j)))), (aD, .inl (cI, 30, .inl (fun j => nI (u.2 j))))] t.heap ∧ va_K (dC, dI) vwCl [(cI, .int), (cZ, .boolean)] t ∧ va_D (va_A [(m0, .inr (5, [.int (th), .int (nI (n)), .int (nI (q)), .ref aJ, .ref aS, .ref aT, .ref aW, .int (bI kn), .int (nI (rk)), .ref aR, .ref aP, .ref aH, .ref aK, .ref aE, .ref aY, .ref aN, .ref aQ, .ref aB, .ref aI, .ref aD])), (aJ, .inl (cZ, 900, .inl (fun j => bI (jn j)))), (aS, .inl (cZ, 30, .inl (fun j => bI (ns j)))), (aR, .inl (cI, 900, .inl (fun j => nI (rw j)))), (aP, .inl (cI, 900, .inl (fun j => nI (ps j)))), (aH, .inl (cI, 30, .inl (fun j => nI (hd j)))), (aK, .inl (cZ, 30, .inl (fun j => bI (bo j)))), (aE, .inl (cI, 30, .inl (fun j => nI (re j)))), (aY, .inl (cI, 30, .inl (fun j => nI (yy j)))), (aQ, .inl (cI, 900, .inl (fun j => nI (qu j)))), (aT, .inl (cI, 30, .inl (fun j => nI (st j)))), (aW, .inl (cI, 30, .inl (fun j => nI (wt j)))), (aN, .inl (cI, 30, .inl (fun j => nI (an j)))), (aD, .inl (cI, 30, .inl (fun j => nI (dg j))))] sz) [(m0, .inr (5, [.int (bI false), .int (nI (n)), .int (nI (q)), .ref aJ, .ref aS, .ref aT, .ref aW, .int (bI true), .int (nI (u.1.1.1)), .ref aR, .ref aP, .ref aH, .ref aK, .ref aE, .ref aY, .ref aN, .ref aQ, .ref aB, .ref aI, .ref aD])), (aJ, .inl (cZ, 900, .inl (fun j => bI (jn j)))), (aS, .inl (cZ, 30, .inl (fun j => bI (ns j)))), (aR, .inl (cI, 900, .inl (fun j => nI (u.1.1.2.1 j)))), (aP, .inl (cI, 900, .inl (fun j => nI (u.1.1.2.2.1 j)))), (aH, .inl (cI, 30, .inl (fun j => nI (u.1.1.2.2.2.1 j)))), (aK, .inl (cZ, 30, .inl (fun j => bI (u.1.1.2.2.2.2.1 j)))), (aE, .inl (cI, 30, .inl (fun j => nI (u.1.1.2.2.2.2.2.1 j)))), (aY, .inl (cI, 30, .inl (fun j => nI (u.1.1.2.2.2.2.2.2.1 j)))), (aQ, .inl (cI, 900, .inl (fun j => nI (u.1.1.2.2.2.2.2.2.2 j)))), (aT, .inl (cI, 30, .inl (fun j => nI (st j)))), (aW, .inl (cI, 30, .inl (fun j => nI (wt j)))), (aN, .inl (cI, 30, .inl (fun j => nI (u.1.2 j)))), (aD, .inl (cI, 30, .inl (fun j => nI (u.2 j))))]) (va_A [(m0, .inr (5, [.int (th), .int (nI (n)), .int (nI (q)), .ref aJ, .ref aS, .ref aT, .ref aW, .int (bI kn), .int (nI (rk)), .ref aR, .ref aP, .ref aH, .ref aK, .ref aE, .ref aY, .ref aN, .ref aQ, .ref aB, .ref aI, .ref aD])), (aJ, .inl (cZ, 900, .inl (fun j => bI (jn j)))), (aS, .inl (cZ, 30, .inl (fun j => bI (ns j)))), (aR, .inl (cI, 900, .inl (fun j => nI (rw j)))), (aP, .inl (cI, 900, .inl (fun j => nI (ps j)))), (aH, .inl (cI, 30, .inl (fun j => nI (hd j)))), (aK, .inl (cZ, 30, .inl (fun j => bI (bo j)))), (aE, .inl (cI, 30, .inl (fun j => nI (re j)))), (aY, .inl (cI, 30, .inl (fun j => nI (yy j)))), (aQ, .inl (cI, 900, .inl (fun j => nI (qu j)))), (aT, .inl (cI, 30, .inl (fun j => nI (st j)))), (aW, .inl (cI, 30, .inl (fun j => nI (wt j)))), (aN, .inl (cI, 30, .inl (fun j => nI (an j)))), (aD, .inl (cI, 30, .inl (fun j => nI (dg j))))] sz)) 0 0 (va_A [(m0, .inr (5, [.int (th), .int (nI (n)), .int (nI (q)), .ref aJ, .ref aS, .ref aT, .ref aW, .int (bI kn), .int (nI (rk)), .ref aR, .ref aP, .ref aH, .ref aK, .ref aE, .ref aY, .ref aN, .ref aQ, .ref aB, .ref aI, .ref aD])), (aJ, .inl (cZ, 900, .inl (fun j => bI (jn j)))), (aS, .inl (cZ, 30, .inl (fun j => bI (ns j)))), (aR, .inl (cI, 900, .inl (fun j => nI (rw j)))), (aP, .inl (cI, 900, .inl (fun j => nI (ps j)))), (aH, .inl (cI, 30, .inl (fun j => nI (hd j)))), (aK, .inl (cZ, 30, .inl (fun j => bI (bo j)))), (aE, .inl (cI, 30, .inl (fun j => nI (re j)))), (aY, .inl (cI, 30, .inl (fun j => nI (yy j)))), (aQ, .inl (cI, 900, .inl (fun j => nI (qu j)))), (aT, .inl (cI, 30, .inl (fun j => nI (st j)))), (aW, .inl (cI, 30, .inl (fun j => nI (wt j)))), (aN, .inl (cI, 30, .inl (fun j => nI (an j)))), (aD, .inl (cI, 30, .inl (fun j => nI (dg j))))] sz) := by
  refine Met.ofW (cc := cX4_count) (maxL := 8) (ret := (some .int)) (by decide) rfl ?_
  intro zp ze s m args below meth zc s₁ B hml hv
  obtain ⟨hargs, hsz, hP, hK, hD0⟩ := hv
  have hx := B.exec
  have hb := B.bytes
  have hr := B.returns
  have hts := atoms_spec (ws := wsX4_count) B.pre
  have hown : s.vm.findClass RX4 = some m.cls := findClass_of_methodNamed B.named
  have hlocks := B.notSynchronized
  subst hsz
  obtain ⟨Q, hQ⟩ : ∃ Q, Q = MQ below (va_Qi (fun (z : Int32) (u : ((Nat × (Nat → Nat) × (Nat → Nat) × (Nat → Nat) × (Nat → Bool) × (Nat → Nat) × (Nat → Nat) × (Nat → Nat)) × (Nat → Nat)) × (Nat → Nat)) => (kOK n (knN n q (eff jn ns) n) u.1.1.1 u.1.1.2.1 u.1.1.2.2.1 u.1.1.2.2.2.1 u.1.1.2.2.2.2.2.2.2) ∧ (∀ k, k < n → u.1.2 k = (tkE n q (eff jn ns) (dfV q st wt)).2 k) ∧ dgP (mulN q (va_up dg 0 (if (lft (tkE n q (eff jn ns) (dfV q st wt)).1 n 0).isNone = true then 1 else 0), 1) (if (lft (tkE n q (eff jn ns) (dfV q st wt)).1 n 0).isNone = true then (knN n q (eff jn ns) n).2.2.2.2.1 else 0)) x z) (fun u t => va_P (dC, dI) vwCl [(m0, .inr (5, [.int (bI false), .int (nI (n)), .int (nI (q)), .ref aJ, .ref aS, .ref aT, .ref aW, .int (bI true), .int (nI (u.1.1.1)), .ref aR, .ref aP, .ref aH, .ref aK, .ref aE, .ref aY, .ref aN, .ref aQ, .ref aB, .ref aI, .ref aD])), (aJ, .inl (cZ, 900, .inl (fun j => bI (jn j)))), (aS, .inl (cZ, 30, .inl (fun j => bI (ns j)))), (aR, .inl (cI, 900, .inl (fun j => nI (u.1.1.2.1 j)))), (aP, .inl (cI, 900, .inl (fun j => nI (u.1.1.2.2.1 j)))), (aH, .inl (cI, 30, .inl (fun j => nI (u.1.1.2.2.2.1 j)))), (aK, .inl (cZ, 30, .inl (fun j => bI (u.1.1.2.2.2.2.1 j)))), (aE, .inl (cI, 30, .inl (fun j => nI (u.1.1.2.2.2.2.2.1 j)))), (aY, .inl (cI, 30, .inl (fun j => nI (u.1.1.2.2.2.2.2.2.1 j)))), (aQ, .inl (cI, 900, .inl (fun j => nI (u.1.1.2.2.2.2.2.2.2 j)))), (aT, .inl (cI, 30, .inl (fun j => nI (st j)))), (aW, .inl (cI, 30, .inl (fun j => nI (wt j)))), (aN, .inl (cI, 30, .inl (fun j => nI (u.1.2 j)))), (aD, .inl (cI, 30, .inl (fun j => nI (u.2 j))))] t.heap ∧ va_K (dC, dI) vwCl [(cI, .int), (cZ, .boolean)] t ∧ va_D (va_A [(m0, .inr (5, [.int (th), .int (nI (n)), .int (nI (q)), .ref aJ, .ref aS, .ref aT, .ref aW, .int (bI kn), .int (nI (rk)), .ref aR, .ref aP, .ref aH, .ref aK, .ref aE, .ref aY, .ref aN, .ref aQ, .ref aB, .ref aI, .ref aD])), (aJ, .inl (cZ, 900, .inl (fun j => bI (jn j)))), (aS, .inl (cZ, 30, .inl (fun j => bI (ns j)))), (aR, .inl (cI, 900, .inl (fun j => nI (rw j)))), (aP, .inl (cI, 900, .inl (fun j => nI (ps j)))), (aH, .inl (cI, 30, .inl (fun j => nI (hd j)))), (aK, .inl (cZ, 30, .inl (fun j => bI (bo j)))), (aE, .inl (cI, 30, .inl (fun j => nI (re j)))), (aY, .inl (cI, 30, .inl (fun j => nI (yy j)))), (aQ, .inl (cI, 900, .inl (fun j => nI (qu j)))), (aT, .inl (cI, 30, .inl (fun j => nI (st j)))), (aW, .inl (cI, 30, .inl (fun j => nI (wt j)))), (aN, .inl (cI, 30, .inl (fun j => nI (an j)))), (aD, .inl (cI, 30, .inl (fun j => nI (dg j))))] s.heap.size) [(m0, .inr (5, [.int (bI false), .int (nI (n)), .int (nI (q)), .ref aJ, .ref aS, .ref aT, .ref aW, .int (bI true), .int (nI (u.1.1.1)), .ref aR, .ref aP, .ref aH, .ref aK, .ref aE, .ref aY, .ref aN, .ref aQ, .ref aB, .ref aI, .ref aD])), (aJ, .inl (cZ, 900, .inl (fun j => bI (jn j)))), (aS, .inl (cZ, 30, .inl (fun j => bI (ns j)))), (aR, .inl (cI, 900, .inl (fun j => nI (u.1.1.2.1 j)))), (aP, .inl (cI, 900, .inl (fun j => nI (u.1.1.2.2.1 j)))), (aH, .inl (cI, 30, .inl (fun j => nI (u.1.1.2.2.2.1 j)))), (aK, .inl (cZ, 30, .inl (fun j => bI (u.1.1.2.2.2.2.1 j)))), (aE, .inl (cI, 30, .inl (fun j => nI (u.1.1.2.2.2.2.2.1 j)))), (aY, .inl (cI, 30, .inl (fun j => nI (u.1.1.2.2.2.2.2.2.1 j)))), (aQ, .inl (cI, 900, .inl (fun j => nI (u.1.1.2.2.2.2.2.2.2 j)))), (aT, .inl (cI, 30, .inl (fun j => nI (st j)))), (aW, .inl (cI, 30, .inl (fun j => nI (wt j)))), (aN, .inl (cI, 30, .inl (fun j => nI (u.1.2 j)))), (aD, .inl (cI, 30, .inl (fun j => nI (u.2 j))))]) (va_A [(m0, .inr (5, [.int (th), .int (nI (n)), .int (nI (q)), .ref aJ, .ref aS, .ref aT, .ref aW, .int (bI kn), .int (nI (rk)), .ref aR, .ref aP, .ref aH, .ref aK, .ref aE, .ref aY, .ref aN, .ref aQ, .ref aB, .ref aI, .ref aD])), (aJ, .inl (cZ, 900, .inl (fun j => bI (jn j)))), (aS, .inl (cZ, 30, .inl (fun j => bI (ns j)))), (aR, .inl (cI, 900, .inl (fun j => nI (rw j)))), (aP, .inl (cI, 900, .inl (fun j => nI (ps j)))), (aH, .inl (cI, 30, .inl (fun j => nI (hd j)))), (aK, .inl (cZ, 30, .inl (fun j => bI (bo j)))), (aE, .inl (cI, 30, .inl (fun j => nI (re j)))), (aY, .inl (cI, 30, .inl (fun j => nI (yy j)))), (aQ, .inl (cI, 900, .inl (fun j => nI (qu j)))), (aT, .inl (cI, 30, .inl (fun j => nI (st j)))), (aW, .inl (cI, 30, .inl (fun j => nI (wt j)))), (aN, .inl (cI, 30, .inl (fun j => nI (an j)))), (aD, .inl (cI, 30, .inl (fun j => nI (dg j))))] s.heap.size)) args s 0 0 (va_A [(m0, .inr (5, [.int (th), .int (nI (n)), .int (nI (q)), .ref aJ, .ref aS, .ref aT, .ref aW, .int (bI kn), .int (nI (rk)), .ref aR, .ref aP, .ref aH, .ref aK, .ref aE, .ref aY, .ref aN, .ref aQ, .ref aB, .ref aI, .ref aD])), (aJ, .inl (cZ, 900, .inl (fun j => bI (jn j)))), (aS, .inl (cZ, 30, .inl (fun j => bI (ns j)))), (aR, .inl (cI, 900, .inl (fun j => nI (rw j)))), (aP, .inl (cI, 900, .inl (fun j => nI (ps j)))), (aH, .inl (cI, 30, .inl (fun j => nI (hd j)))), (aK, .inl (cZ, 30, .inl (fun j => bI (bo j)))), (aE, .inl (cI, 30, .inl (fun j => nI (re j)))), (aY, .inl (cI, 30, .inl (fun j => nI (yy j)))), (aQ, .inl (cI, 900, .inl (fun j => nI (qu j)))), (aT, .inl (cI, 30, .inl (fun j => nI (st j)))), (aW, .inl (cI, 30, .inl (fun j => nI (wt j)))), (aN, .inl (cI, 30, .inl (fun j => nI (an j)))), (aD, .inl (cI, 30, .inl (fun j => nI (dg j))))] s.heap.size) := ⟨_, rfl⟩
  rw [← hQ]
  have hD := hD0.self (sz := s.heap.size)
  generalize hAe : (va_A [(m0, .inr (5, [.int (th), .int (nI (n)), .int (nI (q)), .ref aJ, .ref aS, .ref aT, .ref aW, .int (bI kn), .int (nI (rk)), .ref aR, .ref aP, .ref aH, .ref aK, .ref aE, .ref aY, .ref aN, .ref aQ, .ref aB, .ref aI, .ref aD])), (aJ, .inl (cZ, 900, .inl (fun j => bI (jn j)))), (aS, .inl (cZ, 30, .inl (fun j => bI (ns j)))), (aR, .inl (cI, 900, .inl (fun j => nI (rw j)))), (aP, .inl (cI, 900, .inl (fun j => nI (ps j)))), (aH, .inl (cI, 30, .inl (fun j => nI (hd j)))), (aK, .inl (cZ, 30, .inl (fun j => bI (bo j)))), (aE, .inl (cI, 30, .inl (fun j => nI (re j)))), (aY, .inl (cI, 30, .inl (fun j => nI (yy j)))), (aQ, .inl (cI, 900, .inl (fun j => nI (qu j)))), (aT, .inl (cI, 30, .inl (fun j => nI (st j)))), (aW, .inl (cI, 30, .inl (fun j => nI (wt j)))), (aN, .inl (cI, 30, .inl (fun j => nI (an j)))), (aD, .inl (cI, 30, .inl (fun j => nI (dg j))))] s.heap.size) = A at hD hQ
  have hA : ∀ q : Nat, s.heap.size ≤ q → A q := fun q h => by rw [← hAe]; exact Or.inr h
  have hS : va_S A s.heap s.heap [] := va_S.rf
  have hl := lv_entry ([.ref m0, .int (x)]) (n := 8) (Nat.le_of_ble_eq_true rfl)
  generalize hen : entryFrame m args 8 = fr
  rw [hargs, lg_entry_eq] at hen
  subst hen
  generalize (lg_sl ([.ref m0, .int (x)]) ++ List.replicate (8 - (lg_sl ([.ref m0, .int (x)])).length) Slot.unset).toArray = ls at hl ⊢
  have hl : lv_has ls 8 [(0, .ref m0), (1, .int (x))] := hl
  have hinX4 : ∀ w ∈ wsX40, w ∈ wsX4_count := by decide +kernel
  have hf7 := hts (.fieldLink RX4 7 "LightRowsModel" "joined" "[Z") (by decide +kernel)
  have hf13 := hts (.fieldLink RX4 13 "LightRowsModel" "isNotSelf" "[Z") (by decide +kernel)
  have hf16 := hts (.fieldLink RX4 16 "LightRowsModel" "states" "[I") (by decide +kernel)
  have hf20 := hts (.fieldLink RX4 20 "LightRowsModel" "wanted" "[I") (by decide +kernel)
  have hf23 := hts (.fieldLink RX4 23 "LightRowsModel" "rows" "[I") (by decide +kernel)
  have hf26 := hts (.fieldLink RX4 26 "LightRowsModel" "presses" "[I") (by decide +kernel)
  have hf29 := hts (.fieldLink RX4 29 "LightRowsModel" "heads" "[I") (by decide +kernel)
  have hf32 := hts (.fieldLink RX4 32 "LightRowsModel" "isBound" "[Z") (by decide +kernel)
  have hf35 := hts (.fieldLink RX4 35 "LightRowsModel" "rest" "[I") (by decide +kernel)
  have hf38 := hts (.fieldLink RX4 38 "LightRowsModel" "by" "[I") (by decide +kernel)
  have hf41 := hts (.fieldLink RX4 41 "LightRowsModel" "answer" "[I") (by decide +kernel)
  have hf44 := hts (.fieldLink RX4 44 "LightRowsModel" "quiet" "[I") (by decide +kernel)
  have hf53 := hts (.fieldLink RX4 53 "LightRowsModel" "digits" "[I") (by decide +kernel)
  have hf56 := hts (.fieldLink RX4 56 "LightRowsModel" "lamps" "I") (by decide +kernel)
  have hf60 := hts (.fieldLink RX4 60 "LightRowsModel" "p" "I") (by decide +kernel)
  have hf63 := hts (.fieldLink RX4 63 "LightRowsModel" "thrown" "I") (by decide +kernel)
  have hf74 := hts (.fieldLink RX4 74 "LightRowsModel" "isKnown" "Z") (by decide +kernel)
  have hf85 := hts (.fieldLink RX4 85 "LightRowsModel" "rank" "I") (by decide +kernel)
  refine lv_aload_n hx hb dX4_count_0 rfl (lv_at hl 0 rfl) ?_
  refine lv_iconst (v := nI 0) hx hb dX4_count_1 (by decide) ?_
  refine va_put (D := (dC, dI)) (ci := 5) (v := .int (nI (0))) (ty := .int) (C := RX4) (T := TX4) (N := 20) hx hb hts hinX4 tyX4 tyX4_ok nmX4 hown hK hP hD hS 0 rfl rfl 0 (by decide) hf63 (fun _ h9 => h9) rfl (by decide +kernel) rfl rfl (Nat.le_of_ble_eq_true rfl) dX4_count_2 (fun H locs hP hD hS => ?_)
  have hP : va_P (dC, dI) vwCl [(m0, .inr (5, [.int (nI (0)), .int (nI (n)), .int (nI (q)), .ref aJ, .ref aS, .ref aT, .ref aW, .int (bI kn), .int (nI (rk)), .ref aR, .ref aP, .ref aH, .ref aK, .ref aE, .ref aY, .ref aN, .ref aQ, .ref aB, .ref aI, .ref aD])), (aJ, .inl (cZ, 900, .inl (fun j => bI (jn j)))), (aS, .inl (cZ, 30, .inl (fun j => bI (ns j)))), (aR, .inl (cI, 900, .inl (fun j => nI (rw j)))), (aP, .inl (cI, 900, .inl (fun j => nI (ps j)))), (aH, .inl (cI, 30, .inl (fun j => nI (hd j)))), (aK, .inl (cZ, 30, .inl (fun j => bI (bo j)))), (aE, .inl (cI, 30, .inl (fun j => nI (re j)))), (aY, .inl (cI, 30, .inl (fun j => nI (yy j)))), (aQ, .inl (cI, 900, .inl (fun j => nI (qu j)))), (aT, .inl (cI, 30, .inl (fun j => nI (st j)))), (aW, .inl (cI, 30, .inl (fun j => nI (wt j)))), (aN, .inl (cI, 30, .inl (fun j => nI (an j)))), (aD, .inl (cI, 30, .inl (fun j => nI (dg j))))] H := hP
  have hD : va_D A [(m0, .inr (5, [.int (nI (0)), .int (nI (n)), .int (nI (q)), .ref aJ, .ref aS, .ref aT, .ref aW, .int (bI kn), .int (nI (rk)), .ref aR, .ref aP, .ref aH, .ref aK, .ref aE, .ref aY, .ref aN, .ref aQ, .ref aB, .ref aI, .ref aD])), (aJ, .inl (cZ, 900, .inl (fun j => bI (jn j)))), (aS, .inl (cZ, 30, .inl (fun j => bI (ns j)))), (aR, .inl (cI, 900, .inl (fun j => nI (rw j)))), (aP, .inl (cI, 900, .inl (fun j => nI (ps j)))), (aH, .inl (cI, 30, .inl (fun j => nI (hd j)))), (aK, .inl (cZ, 30, .inl (fun j => bI (bo j)))), (aE, .inl (cI, 30, .inl (fun j => nI (re j)))), (aY, .inl (cI, 30, .inl (fun j => nI (yy j)))), (aQ, .inl (cI, 900, .inl (fun j => nI (qu j)))), (aT, .inl (cI, 30, .inl (fun j => nI (st j)))), (aW, .inl (cI, 30, .inl (fun j => nI (wt j)))), (aN, .inl (cI, 30, .inl (fun j => nI (an j)))), (aD, .inl (cI, 30, .inl (fun j => nI (dg j))))] := hD
  refine lv_aload_n hx hb dX4_count_5 rfl (lv_at hl 0 rfl) ?_
  have hPc := hP.sub (ws' := [(m0, .inr (5, [.int ((bI false)), .int (nI (n)), .int (nI (q)), .ref aJ, .ref aS, .ref aT, .ref aW, .int (bI kn), .int (nI (rk)), .ref aR, .ref aP, .ref aH, .ref aK, .ref aE, .ref aY, .ref aN, .ref aQ, .ref aB, .ref aI, .ref aD])), (aJ, .inl (cZ, 900, .inl (fun j => bI (jn j)))), (aS, .inl (cZ, 30, .inl (fun j => bI (ns j)))), (aR, .inl (cI, 900, .inl (fun j => nI (rw j)))), (aP, .inl (cI, 900, .inl (fun j => nI (ps j)))), (aH, .inl (cI, 30, .inl (fun j => nI (hd j)))), (aK, .inl (cZ, 30, .inl (fun j => bI (bo j)))), (aE, .inl (cI, 30, .inl (fun j => nI (re j)))), (aY, .inl (cI, 30, .inl (fun j => nI (yy j)))), (aQ, .inl (cI, 900, .inl (fun j => nI (qu j)))), (aT, .inl (cI, 30, .inl (fun j => nI (st j)))), (aW, .inl (cI, 30, .inl (fun j => nI (wt j)))), (aN, .inl (cI, 30, .inl (fun j => nI (an j))))]) [0, 1, 2, 3, 4, 5, 6, 7, 8, 9, 10, 11, 12] rfl
  have hDc := hD.sub (ws' := [(m0, .inr (5, [.int ((bI false)), .int (nI (n)), .int (nI (q)), .ref aJ, .ref aS, .ref aT, .ref aW, .int (bI kn), .int (nI (rk)), .ref aR, .ref aP, .ref aH, .ref aK, .ref aE, .ref aY, .ref aN, .ref aQ, .ref aB, .ref aI, .ref aD])), (aJ, .inl (cZ, 900, .inl (fun j => bI (jn j)))), (aS, .inl (cZ, 30, .inl (fun j => bI (ns j)))), (aR, .inl (cI, 900, .inl (fun j => nI (rw j)))), (aP, .inl (cI, 900, .inl (fun j => nI (ps j)))), (aH, .inl (cI, 30, .inl (fun j => nI (hd j)))), (aK, .inl (cZ, 30, .inl (fun j => bI (bo j)))), (aE, .inl (cI, 30, .inl (fun j => nI (re j)))), (aY, .inl (cI, 30, .inl (fun j => nI (yy j)))), (aQ, .inl (cI, 900, .inl (fun j => nI (qu j)))), (aT, .inl (cI, 30, .inl (fun j => nI (st j)))), (aW, .inl (cI, 30, .inl (fun j => nI (wt j)))), (aN, .inl (cI, 30, .inl (fun j => nI (an j))))]) [0, 1, 2, 3, 4, 5, 6, 7, 8, 9, 10, 11, 12] (by decide) rfl
  have hFc := va_free (wc := [(m0, .inr (5, [.int ((bI false)), .int (nI (n)), .int (nI (q)), .ref aJ, .ref aS, .ref aT, .ref aW, .int (bI kn), .int (nI (rk)), .ref aR, .ref aP, .ref aH, .ref aK, .ref aE, .ref aY, .ref aN, .ref aQ, .ref aB, .ref aI, .ref aD])), (aJ, .inl (cZ, 900, .inl (fun j => bI (jn j)))), (aS, .inl (cZ, 30, .inl (fun j => bI (ns j)))), (aR, .inl (cI, 900, .inl (fun j => nI (rw j)))), (aP, .inl (cI, 900, .inl (fun j => nI (ps j)))), (aH, .inl (cI, 30, .inl (fun j => nI (hd j)))), (aK, .inl (cZ, 30, .inl (fun j => bI (bo j)))), (aE, .inl (cI, 30, .inl (fun j => nI (re j)))), (aY, .inl (cI, 30, .inl (fun j => nI (yy j)))), (aQ, .inl (cI, 900, .inl (fun j => nI (qu j)))), (aT, .inl (cI, 30, .inl (fun j => nI (st j)))), (aW, .inl (cI, 30, .inl (fun j => nI (wt j)))), (aN, .inl (cI, 30, .inl (fun j => nI (an j))))]) hD hS hA [0, 1, 2, 3, 4, 5, 6, 7, 8, 9, 10, 11, 12] rfl
  have hKc := hK.sub (tys' := [(cI, .int), (cZ, .boolean)]) [0, 1] rfl
  refine va_calli (va_runV (As := []) (rest := []) ⟨hx, hb, hml, hown, hts⟩ (c_X4_answers l dC dI H.size m0 aJ aS aT aW aR aP aH aK aE aY aN aQ aB aI aD n q rk ((bI false)) kn cI cZ jn ns rw ps hd bo re yy qu st wt an hn hq hq2 hinv hkn hs0 hw0) (cwV 0 hts gX4_count_X4_answers rfl rfl rfl (by decide +kernel) ⟨Nat.le_of_ble_eq_true rfl, Nat.le_of_ble_eq_true rfl⟩) ⟨fun a U g mk q => by obtain ⟨q0, q1, qP, qK, qD⟩ := q; exact ⟨q0, q1, qP, va_K.moved (u := U) (U := U.calling g mk a) (Vm.Alike.refl U.vm) qK, qD⟩, va_recv hKc hPc (ci := 5) (q0 := 0) rfl rfl, fun U hU hW => ⟨rfl, by rw [hU], by rw [hU]; exact hPc, va_K.moved hW.alike hKc, hDc.weaken (fun _ _ _ _ => trivial)⟩⟩ rfl rfl hl.1 rfl (lv_room (Nat.le_of_ble_eq_true rfl)) dX4_count_6 ⟨Nat.le_of_ble_eq_true rfl, Nat.le_of_ble_eq_true rfl⟩) hS (fun q _ h => hFc q h) hFc (fun r1 u t H1 locs ht hvm hw hB hz1 hk1 hS => ?_)
  obtain ⟨⟨x0, x1, x2, x3, x4, x5, x6, x7⟩, N⟩ := u
  obtain ⟨hP1, hK1, hD1⟩ := hB
  rw [ht] at hP1
  try dsimp only at hw
  obtain ⟨hP, hD⟩ := va_join (wr := [(aD, .inl (cI, 30, .inl (fun j => nI (dg j))))]) (w1 := [(m0, .inr (5, [.int ((bI false)), .int (nI (n)), .int (nI (q)), .ref aJ, .ref aS, .ref aT, .ref aW, .int (bI true), .int (nI (x0)), .ref aR, .ref aP, .ref aH, .ref aK, .ref aE, .ref aY, .ref aN, .ref aQ, .ref aB, .ref aI, .ref aD])), (aJ, .inl (cZ, 900, .inl (fun j => bI (jn j)))), (aS, .inl (cZ, 30, .inl (fun j => bI (ns j)))), (aR, .inl (cI, 900, .inl (fun j => nI (x1 j)))), (aP, .inl (cI, 900, .inl (fun j => nI (x2 j)))), (aH, .inl (cI, 30, .inl (fun j => nI (x3 j)))), (aK, .inl (cZ, 30, .inl (fun j => bI (x4 j)))), (aE, .inl (cI, 30, .inl (fun j => nI (x5 j)))), (aY, .inl (cI, 30, .inl (fun j => nI (x6 j)))), (aQ, .inl (cI, 900, .inl (fun j => nI (x7 j)))), (aT, .inl (cI, 30, .inl (fun j => nI (st j)))), (aW, .inl (cI, 30, .inl (fun j => nI (wt j)))), (aN, .inl (cI, 30, .inl (fun j => nI (N j))))]) hP hD [0, 1, 2, 3, 4, 5, 6, 7, 8, 9, 10, 11, 12] [13] rfl rfl (by decide) (by decide) hk1 hFc hP1 hD1
  generalize H1 = H at hP hS ⊢
  have hP := hP.sub (ws' := [(m0, .inr (5, [.int ((bI false)), .int (nI (n)), .int (nI (q)), .ref aJ, .ref aS, .ref aT, .ref aW, .int (bI true), .int (nI (x0)), .ref aR, .ref aP, .ref aH, .ref aK, .ref aE, .ref aY, .ref aN, .ref aQ, .ref aB, .ref aI, .ref aD])), (aJ, .inl (cZ, 900, .inl (fun j => bI (jn j)))), (aS, .inl (cZ, 30, .inl (fun j => bI (ns j)))), (aR, .inl (cI, 900, .inl (fun j => nI (x1 j)))), (aP, .inl (cI, 900, .inl (fun j => nI (x2 j)))), (aH, .inl (cI, 30, .inl (fun j => nI (x3 j)))), (aK, .inl (cZ, 30, .inl (fun j => bI (x4 j)))), (aE, .inl (cI, 30, .inl (fun j => nI (x5 j)))), (aY, .inl (cI, 30, .inl (fun j => nI (x6 j)))), (aQ, .inl (cI, 900, .inl (fun j => nI (x7 j)))), (aT, .inl (cI, 30, .inl (fun j => nI (st j)))), (aW, .inl (cI, 30, .inl (fun j => nI (wt j)))), (aN, .inl (cI, 30, .inl (fun j => nI (N j)))), (aD, .inl (cI, 30, .inl (fun j => nI (dg j))))]) [1, 2, 3, 4, 5, 6, 7, 8, 9, 10, 11, 12, 13, 0] rfl
  have hD := hD.sub (ws' := [(m0, .inr (5, [.int ((bI false)), .int (nI (n)), .int (nI (q)), .ref aJ, .ref aS, .ref aT, .ref aW, .int (bI true), .int (nI (x0)), .ref aR, .ref aP, .ref aH, .ref aK, .ref aE, .ref aY, .ref aN, .ref aQ, .ref aB, .ref aI, .ref aD])), (aJ, .inl (cZ, 900, .inl (fun j => bI (jn j)))), (aS, .inl (cZ, 30, .inl (fun j => bI (ns j)))), (aR, .inl (cI, 900, .inl (fun j => nI (x1 j)))), (aP, .inl (cI, 900, .inl (fun j => nI (x2 j)))), (aH, .inl (cI, 30, .inl (fun j => nI (x3 j)))), (aK, .inl (cZ, 30, .inl (fun j => bI (x4 j)))), (aE, .inl (cI, 30, .inl (fun j => nI (x5 j)))), (aY, .inl (cI, 30, .inl (fun j => nI (x6 j)))), (aQ, .inl (cI, 900, .inl (fun j => nI (x7 j)))), (aT, .inl (cI, 30, .inl (fun j => nI (st j)))), (aW, .inl (cI, 30, .inl (fun j => nI (wt j)))), (aN, .inl (cI, 30, .inl (fun j => nI (N j)))), (aD, .inl (cI, 30, .inl (fun j => nI (dg j))))]) [1, 2, 3, 4, 5, 6, 7, 8, 9, 10, 11, 12, 13, 0] (by decide) rfl
  have hP : va_P (dC, dI) vwCl [(m0, .inr (5, [.int ((bI false)), .int (nI (n)), .int (nI (q)), .ref aJ, .ref aS, .ref aT, .ref aW, .int (bI true), .int (nI (x0)), .ref aR, .ref aP, .ref aH, .ref aK, .ref aE, .ref aY, .ref aN, .ref aQ, .ref aB, .ref aI, .ref aD])), (aJ, .inl (cZ, 900, .inl (fun j => bI (jn j)))), (aS, .inl (cZ, 30, .inl (fun j => bI (ns j)))), (aR, .inl (cI, 900, .inl (fun j => nI (x1 j)))), (aP, .inl (cI, 900, .inl (fun j => nI (x2 j)))), (aH, .inl (cI, 30, .inl (fun j => nI (x3 j)))), (aK, .inl (cZ, 30, .inl (fun j => bI (x4 j)))), (aE, .inl (cI, 30, .inl (fun j => nI (x5 j)))), (aY, .inl (cI, 30, .inl (fun j => nI (x6 j)))), (aQ, .inl (cI, 900, .inl (fun j => nI (x7 j)))), (aT, .inl (cI, 30, .inl (fun j => nI (st j)))), (aW, .inl (cI, 30, .inl (fun j => nI (wt j)))), (aN, .inl (cI, 30, .inl (fun j => nI (N j)))), (aD, .inl (cI, 30, .inl (fun j => nI (dg j))))] H := hP
  have hD : va_D A [(m0, .inr (5, [.int ((bI false)), .int (nI (n)), .int (nI (q)), .ref aJ, .ref aS, .ref aT, .ref aW, .int (bI true), .int (nI (x0)), .ref aR, .ref aP, .ref aH, .ref aK, .ref aE, .ref aY, .ref aN, .ref aQ, .ref aB, .ref aI, .ref aD])), (aJ, .inl (cZ, 900, .inl (fun j => bI (jn j)))), (aS, .inl (cZ, 30, .inl (fun j => bI (ns j)))), (aR, .inl (cI, 900, .inl (fun j => nI (x1 j)))), (aP, .inl (cI, 900, .inl (fun j => nI (x2 j)))), (aH, .inl (cI, 30, .inl (fun j => nI (x3 j)))), (aK, .inl (cZ, 30, .inl (fun j => bI (x4 j)))), (aE, .inl (cI, 30, .inl (fun j => nI (x5 j)))), (aY, .inl (cI, 30, .inl (fun j => nI (x6 j)))), (aQ, .inl (cI, 900, .inl (fun j => nI (x7 j)))), (aT, .inl (cI, 30, .inl (fun j => nI (st j)))), (aW, .inl (cI, 30, .inl (fun j => nI (wt j)))), (aN, .inl (cI, 30, .inl (fun j => nI (N j)))), (aD, .inl (cI, 30, .inl (fun j => nI (dg j))))] := hD
  obtain ⟨hw, hwa, hwz⟩ := hw
  subst hwz
  have hE : ∀ l, l < n → ∀ k, k < n → eff jn ns l k < q := fun l _ k _ => by have := eff_le jn ns l k; omega
  have hlt := knN_lt (E := eff jn ns) hq hinv hE n (Nat.le_refl n)
  have hsum := knN_sum (n := n) (q := q) (E := eff jn ns) n
  have hx0 := hw.1
  refine lv_istore_n (lv' := [(2, .int (bI (lft (tkE n q (eff jn ns) (dfV q st wt)).1 n 0).isNone)), (0, .ref m0), (1, .int (x))]) hx hb dX4_count_9 rfl hl (by decide) rfl (fun ls hl => ?_)
  refine lv_aload_n hx hb dX4_count_10 rfl (lv_at hl 1 rfl) ?_
  refine va_get (D := (dC, dI)) (ci := 5) (v := .ref aD) (C := RX4) (T := TX4) (N := 20) hx hb hts hinX4 hown hK hP 0 rfl rfl 19 (by decide) hf53 (fun _ h9 => h9) rfl dX4_count_11 ?_
  refine lv_iconst (v := nI 0) hx hb dX4_count_14 (by decide) ?_
  refine lv_iload_n hx hb dX4_count_15 rfl (lv_at hl 0 rfl) ?_
  rcases hag : (lft (tkE n q (eff jn ns) (dfV q st wt)).1 n 0).isNone with _ | _
  · skip
    refine tp_i (y := nI 0) rfl ?_
    rw [hag] at hl
    refine lv_if_eq (tgt := 23) hx hb dX4_count_16 (by decide) (fun c6 => ?_) (fun c6 => ?_)
    · skip
      have c6 : 0 = 0 := (nI_eq (a := 0) (b := 0) (by omega) (by omega)).mp c6
      refine lv_iconst (v := nI 0) hx hb dX4_count_23 (by decide) ?_
      refine ra_st (g := nI) (F := dg) (v := 0) hx hb hK hP hD hS 13 0 rfl rfl (by omega) (by omega) dX4_count_24 (fun H locs hP hD hS => ?_)
      have hP : va_P (dC, dI) vwCl [(m0, .inr (5, [.int ((bI false)), .int (nI (n)), .int (nI (q)), .ref aJ, .ref aS, .ref aT, .ref aW, .int (bI true), .int (nI (x0)), .ref aR, .ref aP, .ref aH, .ref aK, .ref aE, .ref aY, .ref aN, .ref aQ, .ref aB, .ref aI, .ref aD])), (aJ, .inl (cZ, 900, .inl (fun j => bI (jn j)))), (aS, .inl (cZ, 30, .inl (fun j => bI (ns j)))), (aR, .inl (cI, 900, .inl (fun j => nI (x1 j)))), (aP, .inl (cI, 900, .inl (fun j => nI (x2 j)))), (aH, .inl (cI, 30, .inl (fun j => nI (x3 j)))), (aK, .inl (cZ, 30, .inl (fun j => bI (x4 j)))), (aE, .inl (cI, 30, .inl (fun j => nI (x5 j)))), (aY, .inl (cI, 30, .inl (fun j => nI (x6 j)))), (aQ, .inl (cI, 900, .inl (fun j => nI (x7 j)))), (aT, .inl (cI, 30, .inl (fun j => nI (st j)))), (aW, .inl (cI, 30, .inl (fun j => nI (wt j)))), (aN, .inl (cI, 30, .inl (fun j => nI (N j)))), (aD, .inl (cI, 30, .inl (fun j => nI ((va_up dg 0 (0)) j))))] H := hP
      have hD : va_D A [(m0, .inr (5, [.int ((bI false)), .int (nI (n)), .int (nI (q)), .ref aJ, .ref aS, .ref aT, .ref aW, .int (bI true), .int (nI (x0)), .ref aR, .ref aP, .ref aH, .ref aK, .ref aE, .ref aY, .ref aN, .ref aQ, .ref aB, .ref aI, .ref aD])), (aJ, .inl (cZ, 900, .inl (fun j => bI (jn j)))), (aS, .inl (cZ, 30, .inl (fun j => bI (ns j)))), (aR, .inl (cI, 900, .inl (fun j => nI (x1 j)))), (aP, .inl (cI, 900, .inl (fun j => nI (x2 j)))), (aH, .inl (cI, 30, .inl (fun j => nI (x3 j)))), (aK, .inl (cZ, 30, .inl (fun j => bI (x4 j)))), (aE, .inl (cI, 30, .inl (fun j => nI (x5 j)))), (aY, .inl (cI, 30, .inl (fun j => nI (x6 j)))), (aQ, .inl (cI, 900, .inl (fun j => nI (x7 j)))), (aT, .inl (cI, 30, .inl (fun j => nI (st j)))), (aW, .inl (cI, 30, .inl (fun j => nI (wt j)))), (aN, .inl (cI, 30, .inl (fun j => nI (N j)))), (aD, .inl (cI, 30, .inl (fun j => nI ((va_up dg 0 (0)) j))))] := hD
      refine lv_iconst (v := nI 1) hx hb dX4_count_25 (by decide) ?_
      refine lv_istore_n (lv' := [(3, .int (nI (1))), (2, .int (bI false)), (0, .ref m0), (1, .int (x))]) hx hb dX4_count_26 rfl hl (by decide) rfl (fun ls hl => ?_)
      refine lv_iconst (v := nI 0) hx hb dX4_count_27 (by decide) ?_
      refine lv_istore (lv' := [(4, .int (nI (0))), (3, .int (nI (1))), (2, .int (bI false)), (0, .ref m0), (1, .int (x))]) hx hb dX4_count_28 hl (by decide) rfl (fun ls hl => ?_)
      have ez : mulN q (va_up dg 0 (if false = true then 1 else 0), 1) (if false = true then (knN n q (eff jn ns) n).2.2.2.2.1 else 0) = (va_up dg 0 0, 1) := rfl
      have elo : 1 ≤ 1 := Nat.le_refl 1
      refine lv_iload hx hb dX4_count_30 (lv_at hl 0 rfl) ?_
      refine lv_aload_n hx hb dX4_count_32 rfl (lv_at hl 3 rfl) ?_
      refine va_get (D := (dC, dI)) (ci := 5) (v := .int (nI (n))) (C := RX4) (T := TX4) (N := 20) hx hb hts hinX4 hown hK hP 0 rfl rfl 1 (by decide) hf56 (fun _ h9 => h9) rfl dX4_count_33 ?_
      refine lv_aload_n hx hb dX4_count_36 rfl (lv_at hl 3 rfl) ?_
      refine va_get (D := (dC, dI)) (ci := 5) (v := .int (nI (x0))) (C := RX4) (T := TX4) (N := 20) hx hb hts hinX4 hown hK hP 0 rfl rfl 8 (by decide) hf85 (fun _ h9 => h9) rfl dX4_count_37 ?_
      refine lv_isub hx hb dX4_count_40 ?_
      refine tp_i (y := nI (n - x0)) (pk_sub (by omega)) ?_
      refine lv_icmp_ge (tgt := 127) hx hb dX4_count_41 (by decide) (fun c1 => ?_) (fun c1 => ?_)
      · skip
        have c1 : n - x0 ≤ 0 := (nI_leI (a := n - x0) (b := 0) (by omega) (by omega)).mp c1
        refine lv_iload_n hx hb dX4_count_127 rfl (lv_at hl 4 rfl) ?_
        refine lv_if_lt (tgt := 145) hx hb dX4_count_128 (by decide) (fun ct => ?_) (fun ct => ?_)
        · skip
          refine lv_iconst (v := (-1)) hx hb dX4_count_145 (by decide) ?_
          rw [hQ]
          exact W.iret (v := (-1)) hx hb hr (fun t ht hW => ⟨⟨_, (((x0, x1, x2, x3, x4, x5, x6, x7), N), va_up dg 0 (0)), rfl, ⟨hw, hwa, by rw [hag, ez]; exact Or.inl ⟨rfl, fun j hj e => nI_pos (by dsimp only at hj; omega) (e ▸ ct)⟩⟩, by rw [ht]; exact hP, va_K.moved hW.alike hK, hD⟩, hS.F ht⟩) hS.2.2 dX4_count_146
        · skip
          refine lv_iload_n hx hb dX4_count_131 rfl (lv_at hl 4 rfl) ?_
          refine lv_iload_n hx hb dX4_count_132 rfl (lv_at hl 1 rfl) ?_
          refine lv_icmp_ge (tgt := 145) hx hb dX4_count_133 (by decide) (fun cu => ?_) (fun cu => ?_)
          · skip
            refine lv_iconst (v := (-1)) hx hb dX4_count_145 (by decide) ?_
            rw [hQ]
            exact W.iret (v := (-1)) hx hb hr (fun t ht hW => ⟨⟨_, (((x0, x1, x2, x3, x4, x5, x6, x7), N), va_up dg 0 (0)), rfl, ⟨hw, hwa, by rw [hag, ez]; exact Or.inl ⟨rfl, fun j hj e => by dsimp only at hj; rw [e] at cu; exact absurd ((nI_leI (by omega) (by omega)).mp cu) (by omega)⟩⟩, by rw [ht]; exact hP, va_K.moved hW.alike hK, hD⟩, hS.F ht⟩) hS.2.2 dX4_count_146
          · skip
            obtain ⟨j0, hj0, rfl⟩ : ∃ j : Nat, j < 1 ∧ x = nI j := by
              rcases pk_ix x (n := 1) (by omega) with h | h | h
              · exact absurd h ct
              · exact absurd h cu
              · exact h
            refine lv_aload_n hx hb dX4_count_136 rfl (lv_at hl 3 rfl) ?_
            refine va_get (D := (dC, dI)) (ci := 5) (v := .ref aD) (C := RX4) (T := TX4) (N := 20) hx hb hts hinX4 hown hK hP 0 rfl rfl 19 (by decide) hf53 (fun _ h9 => h9) rfl dX4_count_137 ?_
            refine lv_iload_n hx hb dX4_count_140 rfl (lv_at hl 4 rfl) ?_
            refine ra_ld (g := nI) (F := (va_up dg 0 (0))) hx hb hK hP 13 0 rfl rfl (by omega) (by omega) dX4_count_141 ?_
            refine lv_goto (tgt := 146) hx hb dX4_count_142 (by decide) ?_
            rw [hQ]
            exact W.iret (v := nI ((va_up dg 0 (0)) j0)) hx hb hr (fun t ht hW => ⟨⟨_, (((x0, x1, x2, x3, x4, x5, x6, x7), N), va_up dg 0 (0)), rfl, ⟨hw, hwa, by rw [hag, ez]; exact Or.inr ⟨j0, hj0, rfl, rfl⟩⟩, by rw [ht]; exact hP, va_K.moved hW.alike hK, hD⟩, hS.F ht⟩) hS.2.2 dX4_count_146
      · skip
        have c1 : 0 < n - x0 := Nat.not_le.mp (fun h => c1 ((nI_leI (a := n - x0) (b := 0) (by omega) (by omega)).mpr h))
        refine lv_iload_n hx hb dX4_count_44 rfl (lv_at hl 2 rfl) ?_
        refine tp_i (y := nI 0) rfl ?_
        refine lv_if_eq (tgt := 127) hx hb dX4_count_45 (by decide) (fun c2 => ?_) (fun c2 => ?_)
        · skip
          have c2 : 0 = 0 := (nI_eq (a := 0) (b := 0) (by omega) (by omega)).mp c2
          refine lv_iload_n hx hb dX4_count_127 rfl (lv_at hl 4 rfl) ?_
          refine lv_if_lt (tgt := 145) hx hb dX4_count_128 (by decide) (fun ct => ?_) (fun ct => ?_)
          · skip
            refine lv_iconst (v := (-1)) hx hb dX4_count_145 (by decide) ?_
            rw [hQ]
            exact W.iret (v := (-1)) hx hb hr (fun t ht hW => ⟨⟨_, (((x0, x1, x2, x3, x4, x5, x6, x7), N), va_up dg 0 (0)), rfl, ⟨hw, hwa, by rw [hag, ez]; exact Or.inl ⟨rfl, fun j hj e => nI_pos (by dsimp only at hj; omega) (e ▸ ct)⟩⟩, by rw [ht]; exact hP, va_K.moved hW.alike hK, hD⟩, hS.F ht⟩) hS.2.2 dX4_count_146
          · skip
            refine lv_iload_n hx hb dX4_count_131 rfl (lv_at hl 4 rfl) ?_
            refine lv_iload_n hx hb dX4_count_132 rfl (lv_at hl 1 rfl) ?_
            refine lv_icmp_ge (tgt := 145) hx hb dX4_count_133 (by decide) (fun cu => ?_) (fun cu => ?_)
            · skip
              refine lv_iconst (v := (-1)) hx hb dX4_count_145 (by decide) ?_
              rw [hQ]
              exact W.iret (v := (-1)) hx hb hr (fun t ht hW => ⟨⟨_, (((x0, x1, x2, x3, x4, x5, x6, x7), N), va_up dg 0 (0)), rfl, ⟨hw, hwa, by rw [hag, ez]; exact Or.inl ⟨rfl, fun j hj e => by dsimp only at hj; rw [e] at cu; exact absurd ((nI_leI (by omega) (by omega)).mp cu) (by omega)⟩⟩, by rw [ht]; exact hP, va_K.moved hW.alike hK, hD⟩, hS.F ht⟩) hS.2.2 dX4_count_146
            · skip
              obtain ⟨j0, hj0, rfl⟩ : ∃ j : Nat, j < 1 ∧ x = nI j := by
                rcases pk_ix x (n := 1) (by omega) with h | h | h
                · exact absurd h ct
                · exact absurd h cu
                · exact h
              refine lv_aload_n hx hb dX4_count_136 rfl (lv_at hl 3 rfl) ?_
              refine va_get (D := (dC, dI)) (ci := 5) (v := .ref aD) (C := RX4) (T := TX4) (N := 20) hx hb hts hinX4 hown hK hP 0 rfl rfl 19 (by decide) hf53 (fun _ h9 => h9) rfl dX4_count_137 ?_
              refine lv_iload_n hx hb dX4_count_140 rfl (lv_at hl 4 rfl) ?_
              refine ra_ld (g := nI) (F := (va_up dg 0 (0))) hx hb hK hP 13 0 rfl rfl (by omega) (by omega) dX4_count_141 ?_
              refine lv_goto (tgt := 146) hx hb dX4_count_142 (by decide) ?_
              rw [hQ]
              exact W.iret (v := nI ((va_up dg 0 (0)) j0)) hx hb hr (fun t ht hW => ⟨⟨_, (((x0, x1, x2, x3, x4, x5, x6, x7), N), va_up dg 0 (0)), rfl, ⟨hw, hwa, by rw [hag, ez]; exact Or.inr ⟨j0, hj0, rfl, rfl⟩⟩, by rw [ht]; exact hP, va_K.moved hW.alike hK, hD⟩, hS.F ht⟩) hS.2.2 dX4_count_146
        · skip
          have c2 : 0 ≠ 0 := fun h => c2 ((nI_eq (a := 0) (b := 0) (by omega) (by omega)).mpr h)
          exact absurd rfl c2
    · skip
      have c6 : 0 ≠ 0 := fun h => c6 ((nI_eq (a := 0) (b := 0) (by omega) (by omega)).mpr h)
      exact absurd rfl c6
  · skip
    refine tp_i (y := nI 1) rfl ?_
    rw [hag] at hl
    refine lv_if_eq (tgt := 23) hx hb dX4_count_16 (by decide) (fun c6 => ?_) (fun c6 => ?_)
    · skip
      have c6 : 1 = 0 := (nI_eq (a := 1) (b := 0) (by omega) (by omega)).mp c6
      exact absurd c6 (by decide)
    · skip
      have c6 : 1 ≠ 0 := fun h => c6 ((nI_eq (a := 1) (b := 0) (by omega) (by omega)).mpr h)
      refine lv_iconst (v := nI 1) hx hb dX4_count_19 (by decide) ?_
      refine lv_goto (tgt := 24) hx hb dX4_count_20 (by decide) ?_
      refine ra_st (g := nI) (F := dg) (v := 1) hx hb hK hP hD hS 13 0 rfl rfl (by omega) (by omega) dX4_count_24 (fun H locs hP hD hS => ?_)
      have hP : va_P (dC, dI) vwCl [(m0, .inr (5, [.int ((bI false)), .int (nI (n)), .int (nI (q)), .ref aJ, .ref aS, .ref aT, .ref aW, .int (bI true), .int (nI (x0)), .ref aR, .ref aP, .ref aH, .ref aK, .ref aE, .ref aY, .ref aN, .ref aQ, .ref aB, .ref aI, .ref aD])), (aJ, .inl (cZ, 900, .inl (fun j => bI (jn j)))), (aS, .inl (cZ, 30, .inl (fun j => bI (ns j)))), (aR, .inl (cI, 900, .inl (fun j => nI (x1 j)))), (aP, .inl (cI, 900, .inl (fun j => nI (x2 j)))), (aH, .inl (cI, 30, .inl (fun j => nI (x3 j)))), (aK, .inl (cZ, 30, .inl (fun j => bI (x4 j)))), (aE, .inl (cI, 30, .inl (fun j => nI (x5 j)))), (aY, .inl (cI, 30, .inl (fun j => nI (x6 j)))), (aQ, .inl (cI, 900, .inl (fun j => nI (x7 j)))), (aT, .inl (cI, 30, .inl (fun j => nI (st j)))), (aW, .inl (cI, 30, .inl (fun j => nI (wt j)))), (aN, .inl (cI, 30, .inl (fun j => nI (N j)))), (aD, .inl (cI, 30, .inl (fun j => nI ((va_up dg 0 (1)) j))))] H := hP
      have hD : va_D A [(m0, .inr (5, [.int ((bI false)), .int (nI (n)), .int (nI (q)), .ref aJ, .ref aS, .ref aT, .ref aW, .int (bI true), .int (nI (x0)), .ref aR, .ref aP, .ref aH, .ref aK, .ref aE, .ref aY, .ref aN, .ref aQ, .ref aB, .ref aI, .ref aD])), (aJ, .inl (cZ, 900, .inl (fun j => bI (jn j)))), (aS, .inl (cZ, 30, .inl (fun j => bI (ns j)))), (aR, .inl (cI, 900, .inl (fun j => nI (x1 j)))), (aP, .inl (cI, 900, .inl (fun j => nI (x2 j)))), (aH, .inl (cI, 30, .inl (fun j => nI (x3 j)))), (aK, .inl (cZ, 30, .inl (fun j => bI (x4 j)))), (aE, .inl (cI, 30, .inl (fun j => nI (x5 j)))), (aY, .inl (cI, 30, .inl (fun j => nI (x6 j)))), (aQ, .inl (cI, 900, .inl (fun j => nI (x7 j)))), (aT, .inl (cI, 30, .inl (fun j => nI (st j)))), (aW, .inl (cI, 30, .inl (fun j => nI (wt j)))), (aN, .inl (cI, 30, .inl (fun j => nI (N j)))), (aD, .inl (cI, 30, .inl (fun j => nI ((va_up dg 0 (1)) j))))] := hD
      refine lv_iconst (v := nI 1) hx hb dX4_count_25 (by decide) ?_
      refine lv_istore_n (lv' := [(3, .int (nI (1))), (2, .int (bI true)), (0, .ref m0), (1, .int (x))]) hx hb dX4_count_26 rfl hl (by decide) rfl (fun ls hl => ?_)
      refine lv_iconst (v := nI 0) hx hb dX4_count_27 (by decide) ?_
      refine lv_istore (lv' := [(4, .int (nI (0))), (3, .int (nI (1))), (2, .int (bI true)), (0, .ref m0), (1, .int (x))]) hx hb dX4_count_28 hl (by decide) rfl (fun ls hl => ?_)
      have hok := mulN_ok (x := q) (z := (va_up dg 0 1, 1)) (by omega) (by dsimp only; omega) (fun j hj => by dsimp only at hj ⊢; rw [show j = 0 by omega, up_at]; omega)
      obtain ⟨fr, hfr⟩ : ∃ fr, fr = (knN n q (eff jn ns) n).2.2.2.2.1 := ⟨_, rfl⟩
      have lp : ∀ (k0 : Nat) (i : Nat) (D : Nat → Nat) (ln : Nat), (i + k0 = fr) → ((D, ln) = mulN q (va_up dg 0 1, 1) i) → ∀ (H : Heap) (locs : List Loc), va_P (dC, dI) vwCl [(m0, .inr (5, [.int (bI false), .int (nI (n)), .int (nI (q)), .ref aJ, .ref aS, .ref aT, .ref aW, .int (bI true), .int (nI (x0)), .ref aR, .ref aP, .ref aH, .ref aK, .ref aE, .ref aY, .ref aN, .ref aQ, .ref aB, .ref aI, .ref aD])), (aJ, .inl (cZ, 900, .inl (fun j => bI (jn j)))), (aS, .inl (cZ, 30, .inl (fun j => bI (ns j)))), (aR, .inl (cI, 900, .inl (fun j => nI (x1 j)))), (aP, .inl (cI, 900, .inl (fun j => nI (x2 j)))), (aH, .inl (cI, 30, .inl (fun j => nI (x3 j)))), (aK, .inl (cZ, 30, .inl (fun j => bI (x4 j)))), (aE, .inl (cI, 30, .inl (fun j => nI (x5 j)))), (aY, .inl (cI, 30, .inl (fun j => nI (x6 j)))), (aQ, .inl (cI, 900, .inl (fun j => nI (x7 j)))), (aT, .inl (cI, 30, .inl (fun j => nI (st j)))), (aW, .inl (cI, 30, .inl (fun j => nI (wt j)))), (aN, .inl (cI, 30, .inl (fun j => nI (N j)))), (aD, .inl (cI, 30, .inl (fun j => nI (D j))))] H → va_D A [(m0, .inr (5, [.int (bI false), .int (nI (n)), .int (nI (q)), .ref aJ, .ref aS, .ref aT, .ref aW, .int (bI true), .int (nI (x0)), .ref aR, .ref aP, .ref aH, .ref aK, .ref aE, .ref aY, .ref aN, .ref aQ, .ref aB, .ref aI, .ref aD])), (aJ, .inl (cZ, 900, .inl (fun j => bI (jn j)))), (aS, .inl (cZ, 30, .inl (fun j => bI (ns j)))), (aR, .inl (cI, 900, .inl (fun j => nI (x1 j)))), (aP, .inl (cI, 900, .inl (fun j => nI (x2 j)))), (aH, .inl (cI, 30, .inl (fun j => nI (x3 j)))), (aK, .inl (cZ, 30, .inl (fun j => bI (x4 j)))), (aE, .inl (cI, 30, .inl (fun j => nI (x5 j)))), (aY, .inl (cI, 30, .inl (fun j => nI (x6 j)))), (aQ, .inl (cI, 900, .inl (fun j => nI (x7 j)))), (aT, .inl (cI, 30, .inl (fun j => nI (st j)))), (aW, .inl (cI, 30, .inl (fun j => nI (wt j)))), (aN, .inl (cI, 30, .inl (fun j => nI (N j)))), (aD, .inl (cI, 30, .inl (fun j => nI (D j))))] → va_S A s.heap H locs → ∀ (ls : Array Slot), lv_has ls 8 [(0, .ref m0), (1, .int (x)), (2, .int (bI true)), (3, .int (nI (ln))), (4, .int (nI (i)))] → W zp l ze (headSpec wsX4_count ({ frames := 4, cells := 0, slots := 0, locals := 90 })).room s m args below meth zc H locs 0 0 Q (F0 m 30 ls []) := by
        intro k0
        induction k0 with
        | zero =>
          intro i D ln hi hz H locs hP hD hS ls hl
          have ok1 := hok i
          rw [← hz] at ok1
          obtain ⟨ok1, ok2⟩ := ok1
          dsimp only at ok1 ok2
          refine lv_iload hx hb dX4_count_30 (lv_at hl 4 rfl) ?_
          refine lv_aload_n hx hb dX4_count_32 rfl (lv_at hl 0 rfl) ?_
          refine va_get (D := (dC, dI)) (ci := 5) (v := .int (nI (n))) (C := RX4) (T := TX4) (N := 20) hx hb hts hinX4 hown hK hP 0 rfl rfl 1 (by decide) hf56 (fun _ h9 => h9) rfl dX4_count_33 ?_
          refine lv_aload_n hx hb dX4_count_36 rfl (lv_at hl 0 rfl) ?_
          refine va_get (D := (dC, dI)) (ci := 5) (v := .int (nI (x0))) (C := RX4) (T := TX4) (N := 20) hx hb hts hinX4 hown hK hP 0 rfl rfl 8 (by decide) hf85 (fun _ h9 => h9) rfl dX4_count_37 ?_
          refine lv_isub hx hb dX4_count_40 ?_
          refine tp_i (y := nI (n - x0)) (pk_sub (by omega)) ?_
          refine lv_icmp_ge (tgt := 127) hx hb dX4_count_41 (by decide) (fun c1 => ?_) (fun c1 => ?_)
          · skip
            have c1 : n - x0 ≤ i := (nI_leI (a := n - x0) (b := i) (by omega) (by omega)).mp c1
            have ez : mulN q (va_up dg 0 (if true = true then 1 else 0), 1) (if true = true then (knN n q (eff jn ns) n).2.2.2.2.1 else 0) = (D, ln) := by rw [hz, if_pos rfl, if_pos rfl, show i = (knN n q (eff jn ns) n).2.2.2.2.1 by omega]
            refine lv_iload_n hx hb dX4_count_127 rfl (lv_at hl 1 rfl) ?_
            refine lv_if_lt (tgt := 145) hx hb dX4_count_128 (by decide) (fun ct => ?_) (fun ct => ?_)
            · skip
              refine lv_iconst (v := (-1)) hx hb dX4_count_145 (by decide) ?_
              rw [hQ]
              exact W.iret (v := (-1)) hx hb hr (fun t ht hW => ⟨⟨_, (((x0, x1, x2, x3, x4, x5, x6, x7), N), D), rfl, ⟨hw, hwa, by rw [hag, ez]; exact Or.inl ⟨rfl, fun j hj e => nI_pos (by dsimp only at hj; omega) (e ▸ ct)⟩⟩, by rw [ht]; exact hP, va_K.moved hW.alike hK, hD⟩, hS.F ht⟩) hS.2.2 dX4_count_146
            · skip
              refine lv_iload_n hx hb dX4_count_131 rfl (lv_at hl 1 rfl) ?_
              refine lv_iload_n hx hb dX4_count_132 rfl (lv_at hl 3 rfl) ?_
              refine lv_icmp_ge (tgt := 145) hx hb dX4_count_133 (by decide) (fun cu => ?_) (fun cu => ?_)
              · skip
                refine lv_iconst (v := (-1)) hx hb dX4_count_145 (by decide) ?_
                rw [hQ]
                exact W.iret (v := (-1)) hx hb hr (fun t ht hW => ⟨⟨_, (((x0, x1, x2, x3, x4, x5, x6, x7), N), D), rfl, ⟨hw, hwa, by rw [hag, ez]; exact Or.inl ⟨rfl, fun j hj e => by dsimp only at hj; rw [e] at cu; exact absurd ((nI_leI (by omega) (by omega)).mp cu) (by omega)⟩⟩, by rw [ht]; exact hP, va_K.moved hW.alike hK, hD⟩, hS.F ht⟩) hS.2.2 dX4_count_146
              · skip
                obtain ⟨j0, hj0, rfl⟩ : ∃ j : Nat, j < ln ∧ x = nI j := by
                  rcases pk_ix x (n := ln) (by omega) with h | h | h
                  · exact absurd h ct
                  · exact absurd h cu
                  · exact h
                refine lv_aload_n hx hb dX4_count_136 rfl (lv_at hl 0 rfl) ?_
                refine va_get (D := (dC, dI)) (ci := 5) (v := .ref aD) (C := RX4) (T := TX4) (N := 20) hx hb hts hinX4 hown hK hP 0 rfl rfl 19 (by decide) hf53 (fun _ h9 => h9) rfl dX4_count_137 ?_
                refine lv_iload_n hx hb dX4_count_140 rfl (lv_at hl 1 rfl) ?_
                refine ra_ld (g := nI) (F := D) hx hb hK hP 13 0 rfl rfl (by omega) (by omega) dX4_count_141 ?_
                refine lv_goto (tgt := 146) hx hb dX4_count_142 (by decide) ?_
                rw [hQ]
                exact W.iret (v := nI (D j0)) hx hb hr (fun t ht hW => ⟨⟨_, (((x0, x1, x2, x3, x4, x5, x6, x7), N), D), rfl, ⟨hw, hwa, by rw [hag, ez]; exact Or.inr ⟨j0, hj0, rfl, rfl⟩⟩, by rw [ht]; exact hP, va_K.moved hW.alike hK, hD⟩, hS.F ht⟩) hS.2.2 dX4_count_146
          · skip
            have c1 : i < n - x0 := Nat.not_le.mp (fun h => c1 ((nI_leI (a := n - x0) (b := i) (by omega) (by omega)).mpr h))
            exact absurd c1 (by omega)
        | succ k0 ih0 =>
          intro i D ln hi hz H locs hP hD hS ls hl
          have ok1 := hok i
          rw [← hz] at ok1
          obtain ⟨ok1, ok2⟩ := ok1
          dsimp only at ok1 ok2
          refine lv_iload hx hb dX4_count_30 (lv_at hl 4 rfl) ?_
          refine lv_aload_n hx hb dX4_count_32 rfl (lv_at hl 0 rfl) ?_
          refine va_get (D := (dC, dI)) (ci := 5) (v := .int (nI (n))) (C := RX4) (T := TX4) (N := 20) hx hb hts hinX4 hown hK hP 0 rfl rfl 1 (by decide) hf56 (fun _ h9 => h9) rfl dX4_count_33 ?_
          refine lv_aload_n hx hb dX4_count_36 rfl (lv_at hl 0 rfl) ?_
          refine va_get (D := (dC, dI)) (ci := 5) (v := .int (nI (x0))) (C := RX4) (T := TX4) (N := 20) hx hb hts hinX4 hown hK hP 0 rfl rfl 8 (by decide) hf85 (fun _ h9 => h9) rfl dX4_count_37 ?_
          refine lv_isub hx hb dX4_count_40 ?_
          refine tp_i (y := nI (n - x0)) (pk_sub (by omega)) ?_
          refine lv_icmp_ge (tgt := 127) hx hb dX4_count_41 (by decide) (fun c1 => ?_) (fun c1 => ?_)
          · skip
            have c1 : n - x0 ≤ i := (nI_leI (a := n - x0) (b := i) (by omega) (by omega)).mp c1
            exact absurd c1 (by omega)
          · skip
            have c1 : i < n - x0 := Nat.not_le.mp (fun h => c1 ((nI_leI (a := n - x0) (b := i) (by omega) (by omega)).mpr h))
            refine lv_iload_n hx hb dX4_count_44 rfl (lv_at hl 2 rfl) ?_
            refine tp_i (y := nI 1) rfl ?_
            refine lv_if_eq (tgt := 127) hx hb dX4_count_45 (by decide) (fun c2 => ?_) (fun c2 => ?_)
            · skip
              have c2 : 1 = 0 := (nI_eq (a := 1) (b := 0) (by omega) (by omega)).mp c2
              exact absurd c2 (by omega)
            · skip
              have c2 : 1 ≠ 0 := fun h => c2 ((nI_eq (a := 1) (b := 0) (by omega) (by omega)).mpr h)
              have hft : 0 < (mulD q D ln).2 → ln < 26 := fun h9 => by
                have := mul_fit (dg := dg) hq hq7 (show i < 30 by omega)
                rw [← hz] at this
                exact this h9
              have hmE : mulN q (va_up dg 0 1, 1) (i + 1) = mulE q D ln := by simp only [mulN]; rw [← hz]
              refine lv_iconst (v := nI 0) hx hb dX4_count_48 (by decide) ?_
              refine lv_istore (lv' := [(5, .int (nI (0))), (0, .ref m0), (1, .int (x)), (2, .int (bI true)), (3, .int (nI (ln))), (4, .int (nI (i)))]) hx hb dX4_count_49 hl (by decide) rfl (fun ls hl => ?_)
              refine lv_iconst (v := nI 0) hx hb dX4_count_51 (by decide) ?_
              refine lv_istore (lv' := [(6, .int (nI (0))), (5, .int (nI (0))), (0, .ref m0), (1, .int (x)), (2, .int (bI true)), (3, .int (nI (ln))), (4, .int (nI (i)))]) hx hb dX4_count_52 hl (by decide) rfl (fun ls hl => ?_)
              have lp2 : ∀ (k2 : Nat) (d : Nat) (F : Nat → Nat) (c : Nat), (d + k2 = ln) → ((F, c) = mulD q D d) → ∀ (H : Heap) (locs : List Loc), va_P (dC, dI) vwCl [(m0, .inr (5, [.int (bI false), .int (nI (n)), .int (nI (q)), .ref aJ, .ref aS, .ref aT, .ref aW, .int (bI true), .int (nI (x0)), .ref aR, .ref aP, .ref aH, .ref aK, .ref aE, .ref aY, .ref aN, .ref aQ, .ref aB, .ref aI, .ref aD])), (aJ, .inl (cZ, 900, .inl (fun j => bI (jn j)))), (aS, .inl (cZ, 30, .inl (fun j => bI (ns j)))), (aR, .inl (cI, 900, .inl (fun j => nI (x1 j)))), (aP, .inl (cI, 900, .inl (fun j => nI (x2 j)))), (aH, .inl (cI, 30, .inl (fun j => nI (x3 j)))), (aK, .inl (cZ, 30, .inl (fun j => bI (x4 j)))), (aE, .inl (cI, 30, .inl (fun j => nI (x5 j)))), (aY, .inl (cI, 30, .inl (fun j => nI (x6 j)))), (aQ, .inl (cI, 900, .inl (fun j => nI (x7 j)))), (aT, .inl (cI, 30, .inl (fun j => nI (st j)))), (aW, .inl (cI, 30, .inl (fun j => nI (wt j)))), (aN, .inl (cI, 30, .inl (fun j => nI (N j)))), (aD, .inl (cI, 30, .inl (fun j => nI (F j))))] H → va_D A [(m0, .inr (5, [.int (bI false), .int (nI (n)), .int (nI (q)), .ref aJ, .ref aS, .ref aT, .ref aW, .int (bI true), .int (nI (x0)), .ref aR, .ref aP, .ref aH, .ref aK, .ref aE, .ref aY, .ref aN, .ref aQ, .ref aB, .ref aI, .ref aD])), (aJ, .inl (cZ, 900, .inl (fun j => bI (jn j)))), (aS, .inl (cZ, 30, .inl (fun j => bI (ns j)))), (aR, .inl (cI, 900, .inl (fun j => nI (x1 j)))), (aP, .inl (cI, 900, .inl (fun j => nI (x2 j)))), (aH, .inl (cI, 30, .inl (fun j => nI (x3 j)))), (aK, .inl (cZ, 30, .inl (fun j => bI (x4 j)))), (aE, .inl (cI, 30, .inl (fun j => nI (x5 j)))), (aY, .inl (cI, 30, .inl (fun j => nI (x6 j)))), (aQ, .inl (cI, 900, .inl (fun j => nI (x7 j)))), (aT, .inl (cI, 30, .inl (fun j => nI (st j)))), (aW, .inl (cI, 30, .inl (fun j => nI (wt j)))), (aN, .inl (cI, 30, .inl (fun j => nI (N j)))), (aD, .inl (cI, 30, .inl (fun j => nI (F j))))] → va_S A s.heap H locs → ∀ (ls : Array Slot), lv_has ls 8 [(0, .ref m0), (1, .int (x)), (2, .int (bI true)), (3, .int (nI (ln))), (4, .int (nI (i))), (5, .int (nI (c))), (6, .int (nI (d)))] → W zp l ze (headSpec wsX4_count ({ frames := 4, cells := 0, slots := 0, locals := 90 })).room s m args below meth zc H locs 0 0 Q (F0 m 54 ls []) := by
                intro k2
                induction k2 with
                | zero =>
                  intro d F c hd2 hF H locs hP hD hS ls hl
                  have hc := mulD_c (x := q) ok2 d (by omega)
                  rw [← hF] at hc
                  dsimp only at hc
                  refine lv_iload hx hb dX4_count_54 (lv_at hl 6 rfl) ?_
                  refine lv_iload_n hx hb dX4_count_56 rfl (lv_at hl 3 rfl) ?_
                  refine lv_icmp_ge (tgt := 102) hx hb dX4_count_57 (by decide) (fun c3 => ?_) (fun c3 => ?_)
                  · skip
                    have c3 : ln ≤ d := (nI_leI (a := ln) (b := d) (by omega) (by omega)).mp c3
                    have hFl : mulD q D ln = (F, c) := by rw [hF, show d = ln by omega]
                    rw [hFl] at hft
                    dsimp only at hft
                    unfold mulE at hmE
                    rw [hFl] at hmE
                    dsimp only at hmE
                    refine lv_iload hx hb dX4_count_102 (lv_at hl 5 rfl) ?_
                    refine lv_if_ne (tgt := 110) hx hb dX4_count_104 (by decide) (fun c4 => ?_) (fun c4 => ?_)
                    · skip
                      have c4 : c ≠ 0 := fun h => c4 ((nI_eq (a := c) (b := 0) (by omega) (by omega)).mpr h)
                      have hlt9 := hft (by omega)
                      refine lv_aload_n hx hb dX4_count_110 rfl (lv_at hl 0 rfl) ?_
                      refine va_get (D := (dC, dI)) (ci := 5) (v := .ref aD) (C := RX4) (T := TX4) (N := 20) hx hb hts hinX4 hown hK hP 0 rfl rfl 19 (by decide) hf53 (fun _ h9 => h9) rfl dX4_count_111 ?_
                      refine lv_iload_n hx hb dX4_count_114 rfl (lv_at hl 3 rfl) ?_
                      refine lv_iload hx hb dX4_count_115 (lv_at hl 5 rfl) ?_
                      refine ra_st (g := nI) (F := F) (v := c) hx hb hK hP hD hS 13 0 rfl rfl (by omega) (by omega) dX4_count_117 (fun H locs hP hD hS => ?_)
                      have hP : va_P (dC, dI) vwCl [(m0, .inr (5, [.int (bI false), .int (nI (n)), .int (nI (q)), .ref aJ, .ref aS, .ref aT, .ref aW, .int (bI true), .int (nI (x0)), .ref aR, .ref aP, .ref aH, .ref aK, .ref aE, .ref aY, .ref aN, .ref aQ, .ref aB, .ref aI, .ref aD])), (aJ, .inl (cZ, 900, .inl (fun j => bI (jn j)))), (aS, .inl (cZ, 30, .inl (fun j => bI (ns j)))), (aR, .inl (cI, 900, .inl (fun j => nI (x1 j)))), (aP, .inl (cI, 900, .inl (fun j => nI (x2 j)))), (aH, .inl (cI, 30, .inl (fun j => nI (x3 j)))), (aK, .inl (cZ, 30, .inl (fun j => bI (x4 j)))), (aE, .inl (cI, 30, .inl (fun j => nI (x5 j)))), (aY, .inl (cI, 30, .inl (fun j => nI (x6 j)))), (aQ, .inl (cI, 900, .inl (fun j => nI (x7 j)))), (aT, .inl (cI, 30, .inl (fun j => nI (st j)))), (aW, .inl (cI, 30, .inl (fun j => nI (wt j)))), (aN, .inl (cI, 30, .inl (fun j => nI (N j)))), (aD, .inl (cI, 30, .inl (fun j => nI ((va_up F ln (c)) j))))] H := hP
                      have hD : va_D A [(m0, .inr (5, [.int (bI false), .int (nI (n)), .int (nI (q)), .ref aJ, .ref aS, .ref aT, .ref aW, .int (bI true), .int (nI (x0)), .ref aR, .ref aP, .ref aH, .ref aK, .ref aE, .ref aY, .ref aN, .ref aQ, .ref aB, .ref aI, .ref aD])), (aJ, .inl (cZ, 900, .inl (fun j => bI (jn j)))), (aS, .inl (cZ, 30, .inl (fun j => bI (ns j)))), (aR, .inl (cI, 900, .inl (fun j => nI (x1 j)))), (aP, .inl (cI, 900, .inl (fun j => nI (x2 j)))), (aH, .inl (cI, 30, .inl (fun j => nI (x3 j)))), (aK, .inl (cZ, 30, .inl (fun j => bI (x4 j)))), (aE, .inl (cI, 30, .inl (fun j => nI (x5 j)))), (aY, .inl (cI, 30, .inl (fun j => nI (x6 j)))), (aQ, .inl (cI, 900, .inl (fun j => nI (x7 j)))), (aT, .inl (cI, 30, .inl (fun j => nI (st j)))), (aW, .inl (cI, 30, .inl (fun j => nI (wt j)))), (aN, .inl (cI, 30, .inl (fun j => nI (N j)))), (aD, .inl (cI, 30, .inl (fun j => nI ((va_up F ln (c)) j))))] := hD
                      refine lv_iinc (v := nI (ln + 1)) (lv' := [(3, .int (nI (ln + 1))), (0, .ref m0), (1, .int (x)), (2, .int (bI true)), (4, .int (nI (i))), (5, .int (nI (c))), (6, .int (nI (d)))]) hx hb dX4_count_118 hl (k := 3) rfl (nI_1 _) (by decide) rfl (fun ls hl => ?_)
                      refine lv_iinc (v := nI (i + 1)) (lv' := [(4, .int (nI (i + 1))), (3, .int (nI (ln + 1))), (0, .ref m0), (1, .int (x)), (2, .int (bI true)), (5, .int (nI (c))), (6, .int (nI (d)))]) hx hb dX4_count_121 hl (k := 4) rfl (nI_1 _) (by decide) rfl (fun ls hl => ?_)
                      refine lv_goto (tgt := 30) hx hb dX4_count_124 (by decide) ?_
                      exact ih0 (i + 1) (va_up F ln c) (ln + 1) (by omega) (by rw [hmE, if_pos ⟨by omega, hlt9⟩]) _ _ hP hD hS ls (lv_sub hl [2, 3, 4, 1, 0] rfl)
                    · skip
                      have c4 : c = 0 := (nI_eq (a := c) (b := 0) (by omega) (by omega)).mp c4
                      refine lv_goto (tgt := 121) hx hb dX4_count_107 (by decide) ?_
                      refine lv_iinc (v := nI (i + 1)) (lv' := [(4, .int (nI (i + 1))), (0, .ref m0), (1, .int (x)), (2, .int (bI true)), (3, .int (nI (ln))), (5, .int (nI (c))), (6, .int (nI (d)))]) hx hb dX4_count_121 hl (k := 4) rfl (nI_1 _) (by decide) rfl (fun ls hl => ?_)
                      refine lv_goto (tgt := 30) hx hb dX4_count_124 (by decide) ?_
                      exact ih0 (i + 1) F ln (by omega) (by rw [hmE, if_neg (fun h9 => absurd h9.1 (by omega))]) _ _ hP hD hS ls (lv_sub hl [1, 2, 3, 4, 0] rfl)
                  · skip
                    have c3 : d < ln := Nat.not_le.mp (fun h => c3 ((nI_leI (a := ln) (b := d) (by omega) (by omega)).mpr h))
                    exact absurd c3 (by omega)
                | succ k2 ih2 =>
                  intro d F c hd2 hF H locs hP hD hS ls hl
                  have hc := mulD_c (x := q) ok2 d (by omega)
                  rw [← hF] at hc
                  dsimp only at hc
                  refine lv_iload hx hb dX4_count_54 (lv_at hl 6 rfl) ?_
                  refine lv_iload_n hx hb dX4_count_56 rfl (lv_at hl 3 rfl) ?_
                  refine lv_icmp_ge (tgt := 102) hx hb dX4_count_57 (by decide) (fun c3 => ?_) (fun c3 => ?_)
                  · skip
                    have c3 : ln ≤ d := (nI_leI (a := ln) (b := d) (by omega) (by omega)).mp c3
                    exact absurd c3 (by omega)
                  · skip
                    have c3 : d < ln := Nat.not_le.mp (fun h => c3 ((nI_leI (a := ln) (b := d) (by omega) (by omega)).mpr h))
                    have hFd : F d = D d := by have := mulD_o (x := q) (dg := D) d d (Nat.le_refl d); rw [← hF] at this; exact this
                    have ok3 := ok2 d (by omega)
                    have hpr : D d * q ≤ 9 * q := Nat.mul_le_mul_right q (by omega)
                    refine lv_aload_n hx hb dX4_count_60 rfl (lv_at hl 0 rfl) ?_
                    refine va_get (D := (dC, dI)) (ci := 5) (v := .ref aD) (C := RX4) (T := TX4) (N := 20) hx hb hts hinX4 hown hK hP 0 rfl rfl 19 (by decide) hf53 (fun _ h9 => h9) rfl dX4_count_61 ?_
                    refine lv_iload hx hb dX4_count_64 (lv_at hl 6 rfl) ?_
                    refine ra_ld (g := nI) (F := F) hx hb hK hP 13 0 rfl rfl (by omega) (by omega) dX4_count_66 ?_
                    refine tp_i (y := nI (D d)) (by rw [hFd]) ?_
                    refine lv_aload_n hx hb dX4_count_67 rfl (lv_at hl 0 rfl) ?_
                    refine va_get (D := (dC, dI)) (ci := 5) (v := .int (nI (q))) (C := RX4) (T := TX4) (N := 20) hx hb hts hinX4 hown hK hP 0 rfl rfl 2 (by decide) hf60 (fun _ h9 => h9) rfl dX4_count_68 ?_
                    refine lv_imul hx hb dX4_count_71 ?_
                    refine tp_i (y := nI ((D d) * q)) (pk_mul _ _) ?_
                    refine lv_iload hx hb dX4_count_72 (lv_at hl 5 rfl) ?_
                    refine lv_iadd hx hb dX4_count_74 ?_
                    refine tp_i (y := nI (((D d) * q) + c)) (nI_add _ _) ?_
                    refine lv_istore (lv' := [(7, .int (nI (((D d) * q) + c))), (0, .ref m0), (1, .int (x)), (2, .int (bI true)), (3, .int (nI (ln))), (4, .int (nI (i))), (5, .int (nI (c))), (6, .int (nI (d)))]) hx hb dX4_count_75 hl (by decide) rfl (fun ls hl => ?_)
                    refine lv_aload_n hx hb dX4_count_77 rfl (lv_at hl 1 rfl) ?_
                    refine va_get (D := (dC, dI)) (ci := 5) (v := .ref aD) (C := RX4) (T := TX4) (N := 20) hx hb hts hinX4 hown hK hP 0 rfl rfl 19 (by decide) hf53 (fun _ h9 => h9) rfl dX4_count_78 ?_
                    refine lv_iload hx hb dX4_count_81 (lv_at hl 7 rfl) ?_
                    refine lv_iload hx hb dX4_count_83 (lv_at hl 0 rfl) ?_
                    refine lv_bipush (v := nI 10) hx hb dX4_count_85 (by decide) ?_
                    refine lv_irem hx hb dX4_count_87 (nI_ne0 (by omega) (by omega)) ?_
                    refine tp_i (y := nI ((((D d) * q) + c) % 10)) (pk_rem (by omega) (by omega) (by omega)) ?_
                    refine ra_st (g := nI) (F := F) (v := (((D d) * q) + c) % 10) hx hb hK hP hD hS 13 0 rfl rfl (by omega) (by omega) dX4_count_88 (fun H locs hP hD hS => ?_)
                    have hP : va_P (dC, dI) vwCl [(m0, .inr (5, [.int (bI false), .int (nI (n)), .int (nI (q)), .ref aJ, .ref aS, .ref aT, .ref aW, .int (bI true), .int (nI (x0)), .ref aR, .ref aP, .ref aH, .ref aK, .ref aE, .ref aY, .ref aN, .ref aQ, .ref aB, .ref aI, .ref aD])), (aJ, .inl (cZ, 900, .inl (fun j => bI (jn j)))), (aS, .inl (cZ, 30, .inl (fun j => bI (ns j)))), (aR, .inl (cI, 900, .inl (fun j => nI (x1 j)))), (aP, .inl (cI, 900, .inl (fun j => nI (x2 j)))), (aH, .inl (cI, 30, .inl (fun j => nI (x3 j)))), (aK, .inl (cZ, 30, .inl (fun j => bI (x4 j)))), (aE, .inl (cI, 30, .inl (fun j => nI (x5 j)))), (aY, .inl (cI, 30, .inl (fun j => nI (x6 j)))), (aQ, .inl (cI, 900, .inl (fun j => nI (x7 j)))), (aT, .inl (cI, 30, .inl (fun j => nI (st j)))), (aW, .inl (cI, 30, .inl (fun j => nI (wt j)))), (aN, .inl (cI, 30, .inl (fun j => nI (N j)))), (aD, .inl (cI, 30, .inl (fun j => nI ((va_up F d ((((D d) * q) + c) % 10)) j))))] H := hP
                    have hD : va_D A [(m0, .inr (5, [.int (bI false), .int (nI (n)), .int (nI (q)), .ref aJ, .ref aS, .ref aT, .ref aW, .int (bI true), .int (nI (x0)), .ref aR, .ref aP, .ref aH, .ref aK, .ref aE, .ref aY, .ref aN, .ref aQ, .ref aB, .ref aI, .ref aD])), (aJ, .inl (cZ, 900, .inl (fun j => bI (jn j)))), (aS, .inl (cZ, 30, .inl (fun j => bI (ns j)))), (aR, .inl (cI, 900, .inl (fun j => nI (x1 j)))), (aP, .inl (cI, 900, .inl (fun j => nI (x2 j)))), (aH, .inl (cI, 30, .inl (fun j => nI (x3 j)))), (aK, .inl (cZ, 30, .inl (fun j => bI (x4 j)))), (aE, .inl (cI, 30, .inl (fun j => nI (x5 j)))), (aY, .inl (cI, 30, .inl (fun j => nI (x6 j)))), (aQ, .inl (cI, 900, .inl (fun j => nI (x7 j)))), (aT, .inl (cI, 30, .inl (fun j => nI (st j)))), (aW, .inl (cI, 30, .inl (fun j => nI (wt j)))), (aN, .inl (cI, 30, .inl (fun j => nI (N j)))), (aD, .inl (cI, 30, .inl (fun j => nI ((va_up F d ((((D d) * q) + c) % 10)) j))))] := hD
                    refine lv_iload hx hb dX4_count_89 (lv_at hl 0 rfl) ?_
                    refine lv_bipush (v := nI 10) hx hb dX4_count_91 (by decide) ?_
                    refine lv_idiv hx hb dX4_count_93 (nI_ne0 (by omega) (by omega)) ?_
                    refine tp_i (y := nI ((((D d) * q) + c) / 10)) (pk_div (by omega) (by omega) (by omega)) ?_
                    refine lv_istore (lv' := [(5, .int (nI ((((D d) * q) + c) / 10))), (7, .int (nI (((D d) * q) + c))), (0, .ref m0), (1, .int (x)), (2, .int (bI true)), (3, .int (nI (ln))), (4, .int (nI (i))), (6, .int (nI (d)))]) hx hb dX4_count_94 hl (by decide) rfl (fun ls hl => ?_)
                    refine lv_iinc (v := nI (d + 1)) (lv' := [(6, .int (nI (d + 1))), (5, .int (nI ((((D d) * q) + c) / 10))), (7, .int (nI (((D d) * q) + c))), (0, .ref m0), (1, .int (x)), (2, .int (bI true)), (3, .int (nI (ln))), (4, .int (nI (i)))]) hx hb dX4_count_96 hl (k := 7) rfl (nI_1 _) (by decide) rfl (fun ls hl => ?_)
                    refine lv_goto (tgt := 54) hx hb dX4_count_99 (by decide) ?_
                    exact ih2 (d + 1) (va_up F d ((D d * q + c) % 10)) ((D d * q + c) / 10) (by omega) (by simp only [mulD]; rw [← hF]) _ _ hP hD hS ls (lv_sub hl [3, 4, 5, 6, 7, 1, 0] rfl)
              exact lp2 ln 0 D 0 (by omega) rfl _ _ hP hD hS ls (lv_sub hl [2, 3, 4, 5, 6, 1, 0] rfl)
      exact lp fr 0 (va_up dg 0 1) 1 (by omega) rfl _ _ hP hD hS ls (lv_sub hl [3, 4, 2, 1, 0] rfl)

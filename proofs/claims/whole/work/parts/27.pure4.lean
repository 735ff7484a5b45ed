/-- sums, the order by the first lamp that differs, and a step of the search -/
def sumF (f : Nat → Nat) : Nat → Nat
  | 0 => 0
  | i + 1 => sumF f i + f i
theorem sumF_congr {f g : Nat → Nat} : ∀ n, (∀ j, j < n → f j = g j) → sumF f n = sumF g n
  | 0, _ => rfl
  | n + 1, h => by
    simp only [sumF]
    rw [sumF_congr n (fun j hj => h j (by omega)), h n (by omega)]
theorem sumF_le {f : Nat → Nat} {q : Nat} : ∀ n, (∀ j, j < n → f j < q) → sumF f n ≤ n * q
  | 0, _ => Nat.zero_le _
  | n + 1, h => by
    simp only [sumF]
    have h1 := sumF_le n (fun j hj => h j (by omega))
    have h2 := h n (by omega)
    rw [Nat.succ_mul]
    omega
/-- whether f is ahead of g: k places are looked at, from i on -/
def lexL (f g : Nat → Nat) : Nat → Nat → Bool
  | 0, _ => false
  | k + 1, i => if f i = g i then lexL f g k (i + 1) else decide (f i < g i)
theorem lexL_congr {f g f' g' : Nat → Nat} : ∀ k i, (∀ j, i ≤ j → j < i + k → f j = f' j ∧ g j = g' j) → lexL f g k i = lexL f' g' k i
  | 0, _, _ => rfl
  | k + 1, i, h => by
    simp only [lexL]
    have h1 := h i (by omega) (by omega)
    rw [h1.1, h1.2, lexL_congr k (i + 1) (fun j h2 h3 => h j (by omega) (by omega))]
abbrev adq (q a b : Nat) : Nat := if a + b < q then a + b else a + b - q
theorem adq_lt {q a b : Nat} (ha : a < q) (hb : b < q) : adq q a b < q := by
  unfold adq
  split <;> omega
/-- one QUIET pattern after the other is added, as the digits of a number go on -/
def adv (q : Nat) (qp : Nat → Nat → Nat) : Nat → Nat → (Nat → Nat) × (Nat → Nat) → (Nat → Nat) × (Nat → Nat)
  | 0, _, z => z
  | f + 1, k, z => if z.2 k + 1 < q then (fun j => adq q (z.1 j) (qp k j), va_up z.2 k (z.2 k + 1)) else adv q qp f (k + 1) (fun j => adq q (z.1 j) (qp k j), va_up z.2 k 0)
/-- the search: what is tried, the least so far, the turns, the least total -/
abbrev srT : Type := (Nat → Nat) × (Nat → Nat) × (Nat → Nat) × Nat
def srK (n : Nat) (t : Nat → Nat) (l : Nat → Nat) (u : Nat → Nat) (z : Nat) : srT :=
  if sumF t n < z ∨ (sumF t n = z ∧ lexL t l n 0 = true) then (t, t, u, sumF t n) else (t, l, u, z)
def srS (n q fr : Nat) (qp : Nat → Nat → Nat) (w : srT) : srT := srK n (adv q qp fr 0 (w.1, w.2.2.1)).1 w.2.1 (adv q qp fr 0 (w.1, w.2.2.1)).2 w.2.2.2
def srB (n : Nat) (an : Nat → Nat) : srT := (an, an, fun _ => 0, sumF an n)
def srN (n q fr : Nat) (qp : Nat → Nat → Nat) (an : Nat → Nat) : Nat → srT
  | 0 => srB n an
  | k + 1 => srS n q fr qp (srN n q fr qp an k)
theorem adv_lt {q : Nat} {qp : Nat → Nat → Nat} {n fr : Nat} (hq : 0 < q) (hp : ∀ k, k < fr → ∀ j, j < n → qp k j < q) : ∀ (f k : Nat) (z : (Nat → Nat) × (Nat → Nat)), k + f ≤ fr → (∀ j, j < n → z.1 j < q) → (∀ j, z.2 j < q) → (∀ j, j < n → (adv q qp f k z).1 j < q) ∧ ∀ j, (adv q qp f k z).2 j < q
  | 0, _, _, _, h1, h2 => ⟨h1, h2⟩
  | f + 1, k, z, hk, h1, h2 => by
    simp only [adv]
    by_cases e : z.2 k + 1 < q
    · rw [if_pos e]
      exact ⟨fun j hj => adq_lt (h1 j hj) (hp k (by omega) j hj), fun j => by
        dsimp only
        by_cases e2 : j = k
        · rw [e2, up_at]; exact e
        · rw [up_of _ _ e2]; exact h2 j⟩
    · rw [if_neg e]
      exact adv_lt hq hp f (k + 1) _ (by omega) (fun j hj => adq_lt (h1 j hj) (hp k (by omega) j hj)) (fun j => by
        dsimp only
        by_cases e2 : j = k
        · rw [e2, up_at]; exact hq
        · rw [up_of _ _ e2]; exact h2 j)
theorem srN_lt {n q fr : Nat} {qp : Nat → Nat → Nat} {an : Nat → Nat} (hq : 0 < q) (hp : ∀ k, k < fr → ∀ j, j < n → qp k j < q) (ha : ∀ j, j < n → an j < q) : ∀ k, (∀ j, j < n → (srN n q fr qp an k).1 j < q) ∧ (∀ j, j < n → (srN n q fr qp an k).2.1 j < q) ∧ (∀ j, (srN n q fr qp an k).2.2.1 j < q) ∧ (srN n q fr qp an k).2.2.2 ≤ n * q
  | 0 => ⟨ha, ha, fun _ => hq, sumF_le n ha⟩
  | k + 1 => by
    obtain ⟨h1, h2, h3, h4⟩ := srN_lt hq hp ha k
    have h5 := adv_lt hq hp fr 0 ((srN n q fr qp an k).1, (srN n q fr qp an k).2.2.1) (by omega) h1 h3
    simp only [srN, srS, srK]
    split
    · exact ⟨h5.1, h5.1, h5.2, sumF_le n h5.1⟩
    · exact ⟨h5.1, h2, h5.2, h4⟩
section RG4
variable {p : Program} {l : Launch} {e : Env} {R : Room} {s : State} {m : MethodId} {args : Array Value} {below : List Frame} {meth : Method} {c : Code} {H : Heap} {locs : List Loc} {cells slots : Nat} {Q : State → Prop}
variable {cc : ByteArray} {pc : Nat} {ls : Array Slot} {rest : List Value} {D : va_G} {cl : List vw_C} {A : Nat → Prop} {a : Nat} {tys : List (ClassId × FieldType)} {ws : va_W} {H0 : Heap}
theorem ra_cp {F G : Nat → Nat} (hexec : p.tables.exec = Jvm.exec) (hb : c.code = cc) (hml : c.maxLocals = ls.size) {own : String} {index : Nat} (hown : s.vm.findClass own = some m.cls) (hlink : (Cond.methodLink own index arraycopyName).before args s = true) (hnat : (Cond.native arraycopyName).before args s = true) (hstat : (Cond.static arraycopyName).before args s = true) (hini : (Cond.initialized "java/lang/System").before args s = true)
    (hK : va_K D cl tys s) (hP : va_P D cl ws H) (hD : va_D A ws) (hS : va_S A H0 H locs) (q0 q1 t0 : Nat) {a0 : Nat} {c0 : ClassId} {n0 n1 k : Nat} (ha0 : ws[q0]? = some (a0, .inl (c0, n0, .inl (fun j => nI (F j))))) (ha1 : ws[q1]? = some (a, .inl (c0, n1, .inl (fun j => nI (G j))))) (ht0 : tys[t0]? = some (c0, .int)) (hk0 : k ≤ n0) (hk1 : k ≤ n1) (hk2 : k < 2 ^ 31)
    (hframes : 1 ≤ R.frames) (hlocals : (rest.map fun v => v.category).sum + (nativeFrameWords "java/lang/System" "arraycopy" 5 + 11) ≤ R.locals) (hdg : decode cc pc = .ok (.invokestatic index, 3))
    (kk : ∀ (H1 : Heap) (locs1 : List Loc), va_P D cl (ws.set q1 (a, .inl (c0, n1, .inl (fun j => nI ((fun j => if j < k then F j else G j) j))))) H1 → va_D A (ws.set q1 (a, .inl (c0, n1, .inl (fun j => nI ((fun j => if j < k then F j else G j) j))))) → va_S A H0 H1 locs1 → W p l e R s m args below meth c H1 locs1 cells slots Q (F0 m (pc + 3) ls rest)) : W p l e R s m args below meth c H locs cells slots Q (F0 m pc ls (.int (nI k) :: .int (nI 0) :: .ref a :: .int (nI 0) :: .ref a0 :: rest)) := by
  have e0 : (nI 0).toNatClampNeg = 0 := nI_clamp (by omega)
  have ek : (nI k).toNatClampNeg = k := nI_clamp hk2
  refine va_copyi (ty := .int) hexec hb hml hown hlink hnat hstat hini hK hP hD hS q0 q1 t0 t0 ha0 ha1 ht0 ht0 rfl (nI_pos (by omega)) (nI_pos (by omega)) (nI_pos hk2) (by rw [e0, ek]; omega) (by rw [e0, ek]; omega) (fun i _ => rfl) hframes hlocals hdg (fun H1 locs1 h1 h2 h3 => ?_)
  have ec : va_cpy (fun j => nI (F j)) (fun j => nI (G j)) (nI 0).toNatClampNeg (nI 0).toNatClampNeg (nI k).toNatClampNeg = fun j => nI ((fun j => if j < k then F j else G j) j) := by
    rw [e0, ek]
    funext j
    by_cases h : j < k
    · rw [pk_cpy_in (Nat.zero_le j) (by omega)]; simp [h]
    · rw [pk_cpy_out (Or.inr (by omega))]; simp [h]
  rw [ec] at h1 h2
  exact kk H1 locs1 h1 h2 h3
end RG4

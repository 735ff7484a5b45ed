/-! My own rows over the kit's: arrays by a view of natural numbers, pooled rows, grids, loops over a row -/
section RG
variable {p : Program} {l : Launch} {e : Env} {R : Room} {s : State} {m : MethodId} {args : Array Value} {below : List Frame} {meth : Method} {c : Code} {H : Heap} {locs : List Loc} {cells slots : Nat} {Q : State → Prop}
variable {cc : ByteArray} {pc : Nat} {ls : Array Slot} {rest : List Value} {D : va_G} {cl : List vw_C} {A : Nat → Prop} {a : Nat} {tys : List (ClassId × FieldType)} {ws : va_W} {H0 : Heap}
theorem tp_i {x y : Int32} (h : x = y) (k : W p l e R s m args below meth c H locs cells slots Q (F0 m pc ls (.int y :: rest))) : W p l e R s m args below meth c H locs cells slots Q (F0 m pc ls (.int x :: rest)) := by
  subst h; exact k
theorem tp_v {x y : Value} (h : x = y) (k : W p l e R s m args below meth c H locs cells slots Q (F0 m pc ls (y :: rest))) : W p l e R s m args below meth c H locs cells slots Q (F0 m pc ls (x :: rest)) := by
  subst h; exact k
theorem up_view {α : Type} (g : α → Int32) (F : Nat → α) (i : Nat) (v : α) : upd (fun j => g (F j)) i (g v) = fun j => g (va_up F i v j) := by
  funext j
  unfold upd va_up
  split <;> rfl
theorem ra_ld {α : Type} {g : α → Int32} {F : Nat → α} (hexec : p.tables.exec = Jvm.exec) (hb : c.code = cc) (hK : va_K D cl tys s) (hP : va_P D cl ws H) (q0 t0 : Nat) {cA : ClassId} {n : Nat} (ha : ws[q0]? = some (a, .inl (cA, n, .inl (fun j => g (F j))))) (ht : tys[t0]? = some (cA, .int)) {i : Nat} (hi : i < n) (hn : n < 2 ^ 31) (hdg : decode cc pc = .ok (.iaload, 1))
    (kk : W p l e R s m args below meth c H locs cells slots Q (F0 m (pc + 1) ls (.int (g (F i)) :: rest))) : W p l e R s m args below meth c H locs cells slots Q (F0 m pc ls (.int (nI i) :: .ref a :: rest)) := by
  refine va_iald hexec hb hK hP q0 t0 ha ht (vp_in_nI hi hn) hdg ?_
  refine tp_i (y := g (F i)) ?_ kk
  rw [nI_clamp (by omega)]
theorem rz_ld {α : Type} {g : α → Int32} {F : Nat → α} (hexec : p.tables.exec = Jvm.exec) (hb : c.code = cc) (hK : va_K D cl tys s) (hP : va_P D cl ws H) (q0 t0 : Nat) {cA : ClassId} {n : Nat} (ha : ws[q0]? = some (a, .inl (cA, n, .inl (fun j => g (F j))))) (ht : tys[t0]? = some (cA, .boolean)) {i : Nat} (hi : i < n) (hn : n < 2 ^ 31) (hdg : decode cc pc = .ok (.baload, 1))
    (kk : W p l e R s m args below meth c H locs cells slots Q (F0 m (pc + 1) ls (.int (g (F i)) :: rest))) : W p l e R s m args below meth c H locs cells slots Q (F0 m pc ls (.int (nI i) :: .ref a :: rest)) := by
  refine va_zald hexec hb hK hP q0 t0 ha ht (vp_in_nI hi hn) hdg ?_
  refine tp_i (y := g (F i)) ?_ kk
  rw [nI_clamp (by omega)]
theorem ra_st {α : Type} {g : α → Int32} {F : Nat → α} {v : α} (hexec : p.tables.exec = Jvm.exec) (hb : c.code = cc) (hK : va_K D cl tys s) (hP : va_P D cl ws H) (hD : va_D A ws) (hS : va_S A H0 H locs) (q0 t0 : Nat) {cA : ClassId} {n : Nat} (ha : ws[q0]? = some (a, .inl (cA, n, .inl (fun j => g (F j))))) (ht : tys[t0]? = some (cA, .int)) {i : Nat} (hi : i < n) (hn : n < 2 ^ 31) (hdg : decode cc pc = .ok (.iastore, 1))
    (kk : ∀ (H1 : Heap) (locs1 : List Loc), va_P D cl (ws.set q0 (a, .inl (cA, n, .inl (fun j => g (va_up F i v j))))) H1 → va_D A (ws.set q0 (a, .inl (cA, n, .inl (fun j => g (va_up F i v j))))) → va_S A H0 H1 locs1 → W p l e R s m args below meth c H1 locs1 cells slots Q (F0 m (pc + 1) ls rest)) : W p l e R s m args below meth c H locs cells slots Q (F0 m pc ls (.int (g v) :: .int (nI i) :: .ref a :: rest)) := by
  refine va_iast hexec hb hK hP hD hS q0 t0 ha ht (vp_in_nI hi hn) hdg (fun H1 locs1 h1 h2 h3 => ?_)
  rw [nI_clamp (by omega), up_view] at h1 h2
  exact kk H1 locs1 h1 h2 h3
theorem rz_st {α : Type} {g : α → Int32} {F : Nat → α} {v : α} (hexec : p.tables.exec = Jvm.exec) (hb : c.code = cc) (hK : va_K D cl tys s) (hP : va_P D cl ws H) (hD : va_D A ws) (hS : va_S A H0 H locs) (q0 t0 : Nat) {cA : ClassId} {n : Nat} (ha : ws[q0]? = some (a, .inl (cA, n, .inl (fun j => g (F j))))) (ht : tys[t0]? = some (cA, .boolean)) {i : Nat} (hi : i < n) (hn : n < 2 ^ 31) (hdg : decode cc pc = .ok (.bastore, 1)) (hg : vp_nar .boolean (g v) = g v)
    (kk : ∀ (H1 : Heap) (locs1 : List Loc), va_P D cl (ws.set q0 (a, .inl (cA, n, .inl (fun j => g (va_up F i v j))))) H1 → va_D A (ws.set q0 (a, .inl (cA, n, .inl (fun j => g (va_up F i v j))))) → va_S A H0 H1 locs1 → W p l e R s m args below meth c H1 locs1 cells slots Q (F0 m (pc + 1) ls rest)) : W p l e R s m args below meth c H locs cells slots Q (F0 m pc ls (.int (g v) :: .int (nI i) :: .ref a :: rest)) := by
  refine va_zast hexec hb hK hP hD hS q0 t0 ha ht (vp_in_nI hi hn) hdg (fun H1 locs1 h1 h2 h3 => ?_)
  rw [nI_clamp (by omega), hg, up_view] at h1 h2
  exact kk H1 locs1 h1 h2 h3
/-- the pool of rows: each address a row of numbers -/
def pI (cI : ClassId) (pl : Nat → Nat) (pr : Nat → Nat → Nat) : Nat → va_E := fun y => .inl (cI, pl y, .inl (fun j => nI (pr y j)))
theorem pI_up (cI : ClassId) (pl : Nat → Nat) (pr : Nat → Nat → Nat) (y : Nat) (f : Nat → Nat) (b : Nat) : va_up (pI cI pl pr) y (.inl (cI, pl y, .inl (fun j => nI (f j)))) b = pI cI pl (va_up pr y f) b := by
  by_cases h : b = y
  · subst h; simp [pI, va_up]
  · simp [pI, va_up, h]
theorem rp_ld {X : va_W} {L : List Nat} {cI : ClassId} {pl : Nat → Nat} {pr : Nat → Nat → Nat} (hexec : p.tables.exec = Jvm.exec) (hb : c.code = cc) (hK : va_K D cl tys s) (hP : va_P D cl (X ++ va_pl L (pI cI pl pr)) H) (t0 : Nat) (ht : tys[t0]? = some (cI, .int)) {y i : Nat} (hy : y ∈ L) (hi : i < pl y) (hn : pl y < 2 ^ 31) (hdg : decode cc pc = .ok (.iaload, 1))
    (kk : W p l e R s m args below meth c H locs cells slots Q (F0 m (pc + 1) ls (.int (nI (pr y i)) :: rest))) : W p l e R s m args below meth c H locs cells slots Q (F0 m pc ls (.int (nI i) :: .ref y :: rest)) := by
  obtain ⟨k, hk⟩ := va_pl_get (X := X) (f := pI cI pl pr) hy
  exact ra_ld (g := nI) (F := pr y) hexec hb hK hP k t0 hk ht hi hn hdg kk
theorem rp_st {X : va_W} {L : List Nat} {cI : ClassId} {pl : Nat → Nat} {pr : Nat → Nat → Nat} {v : Nat} (hexec : p.tables.exec = Jvm.exec) (hb : c.code = cc) (hK : va_K D cl tys s) (hP : va_P D cl (X ++ va_pl L (pI cI pl pr)) H) (hD : va_D A (X ++ va_pl L (pI cI pl pr))) (hS : va_S A H0 H locs) (t0 : Nat) (ht : tys[t0]? = some (cI, .int)) {y i : Nat} (hy : y ∈ L) (hi : i < pl y) (hn : pl y < 2 ^ 31) (hdg : decode cc pc = .ok (.iastore, 1))
    (kk : ∀ (H1 : Heap) (locs1 : List Loc), va_P D cl (X ++ va_pl L (pI cI pl (va_up pr y (va_up (pr y) i v)))) H1 → va_D A (X ++ va_pl L (pI cI pl (va_up pr y (va_up (pr y) i v)))) → va_S A H0 H1 locs1 → W p l e R s m args below meth c H1 locs1 cells slots Q (F0 m (pc + 1) ls rest)) : W p l e R s m args below meth c H locs cells slots Q (F0 m pc ls (.int (nI v) :: .int (nI i) :: .ref y :: rest)) := by
  obtain ⟨k, hk⟩ := va_pl_get (X := X) (f := pI cI pl pr) hy
  refine ra_st (g := nI) (F := pr y) (v := v) hexec hb hK hP hD hS k t0 hk ht hi hn hdg (fun H1 locs1 h1 h2 h3 => ?_)
  have e : (X ++ va_pl L (pI cI pl pr)).set k (y, .inl (cI, pl y, .inl (fun j => nI (va_up (pr y) i v j)))) = X ++ va_pl L (pI cI pl (va_up pr y (va_up (pr y) i v))) := by
    rw [va_pl_set hD hy hk]
    exact congrArg (fun l => X ++ l) (va_pl_congr (pI_up cI pl pr y (va_up (pr y) i v)))
  rw [e] at h1 h2
  exact kk H1 locs1 h1 h2 h3
theorem rg_ld {G : Nat → Nat} (hexec : p.tables.exec = Jvm.exec) (hb : c.code = cc) (hK : va_K D cl tys s) (hP : va_P D cl ws H) (q0 t0 : Nat) {cA : ClassId} {n : Nat} (ha : ws[q0]? = some (a, .inl (cA, n, .inr (.inr (.inr (.inr (fun j => some (G j)))))))) (ht : tys[t0]? = some (cA, .array .int)) {i : Nat} (hi : i < n) (hn : n < 2 ^ 31) (hdg : decode cc pc = .ok (.aaload, 1))
    (kk : W p l e R s m args below meth c H locs cells slots Q (F0 m (pc + 1) ls (.ref (G i) :: rest))) : W p l e R s m args below meth c H locs cells slots Q (F0 m pc ls (.int (nI i) :: .ref a :: rest)) := by
  have hc : (nI i).toNatClampNeg = i := nI_clamp (by omega)
  exact W.aald (v := .ref (G i)) (ty := .array .int) hexec hb (hP q0 _ ha) ((hK.2 t0 _ ht).1 n (fun j => va_rf (some (G j)))) rfl (fun q => by cases q) (by show ¬ (nI i < 0 ∨ (arrV _ _ _).slots.size ≤ _); rw [arrV_size]; exact vp_in_nI hi hn) (by show (arrV _ _ _).slots[_]? = _; rw [hc, arrV_read _ _ hi]; rfl) rfl rfl hdg kk
theorem lp_zero {α : Type} (new old : Nat → α) : ∀ j, old j = if j < 0 then new j else old j := fun j => by simp
theorem lp_step {α : Type} {F new old : Nat → α} {i : Nat} {v : α} (hF : ∀ j, F j = if j < i then new j else old j) (hv : v = new i) : ∀ j, va_up F i v j = if j < i + 1 then new j else old j := by
  intro j
  unfold va_up
  by_cases h : j = i
  · subst h; simp [hv]
  · rw [if_neg h, hF j]
    by_cases h2 : j < i
    · rw [if_pos h2, if_pos (by omega)]
    · rw [if_neg h2, if_neg (by omega)]
theorem up_up {α : Type} (f : Nat → α) (k : Nat) (v w : α) : va_up (va_up f k v) k w = va_up f k w := by
  funext j
  unfold va_up
  split <;> rfl
theorem up_at {α : Type} (f : Nat → α) (k : Nat) (v : α) : va_up f k v k = v := by simp [va_up]
theorem up_of {α : Type} (f : Nat → α) {k j : Nat} (v : α) (h : j ≠ k) : va_up f k v j = f j := by simp [va_up, h]
theorem up_id {α : Type} (f : Nat → α) (k : Nat) : va_up f k (f k) = f := by
  funext j
  unfold va_up
  split
  · rename_i h; rw [h]
  · rfl
end RG

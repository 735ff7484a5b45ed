/-- what the tables say of int[][]: its component class is int[]'s -/
def grK (cG cI : ClassId) (U : State) : Prop := (∃ kG : Class, U.vm.classes[cG]? = some kG ∧ kG.kind = .array cI (.array .int)) ∧ (∃ kI : Class, U.vm.classes[cI]? = some kI) ∧ U.vm.assignable cI cI = true
theorem grK.moved {cG cI : ClassId} {u U : State} (hvm : u.vm.Alike U.vm) (h : grK cG cI u) : grK cG cI U := by
  obtain ⟨⟨kG, h1, h2⟩, ⟨kI, h3⟩, h4⟩ := h
  obtain ⟨k', hk', he⟩ := hvm.2.2 _ _ h1
  obtain ⟨k2, hk2, -⟩ := hvm.2.2 _ _ h3
  exact ⟨⟨k', hk', by rw [he]; exact h2⟩, ⟨k2, hk2⟩, by rw [hvm.assignable]; exact h4⟩
section RG2
variable {p : Program} {l : Launch} {e : Env} {R : Room} {s : State} {m : MethodId} {args : Array Value} {below : List Frame} {meth : Method} {c : Code} {H : Heap} {locs : List Loc} {cells slots : Nat} {Q : State → Prop}
variable {cc : ByteArray} {pc : Nat} {ls : Array Slot} {rest : List Value} {D : va_G} {cl : List vw_C} {A : Nat → Prop} {a : Nat} {tys : List (ClassId × FieldType)} {H0 : Heap}
theorem rg_st {X : va_W} {L : List Nat} {cI cG : ClassId} {pl : Nat → Nat} {pr : Nat → Nat → Nat} {G : Nat → Nat} (hexec : p.tables.exec = Jvm.exec) (hb : c.code = cc) (hG : grK cG cI s) (hP : va_P D cl (X ++ va_pl L (pI cI pl pr)) H) (hD : va_D A (X ++ va_pl L (pI cI pl pr))) (hS : va_S A H0 H locs) (q0 : Nat) {n v i : Nat} (ha : (X ++ va_pl L (pI cI pl pr))[q0]? = some (a, .inl (cG, n, .inr (.inr (.inr (.inr (fun j => some (G j)))))))) (hv : v ∈ L) (hi : i < n) (hn : n < 2 ^ 31) (hdg : decode cc pc = .ok (.aastore, 1))
    (kk : ∀ (H1 : Heap) (locs1 : List Loc), va_P D cl ((X ++ va_pl L (pI cI pl pr)).set q0 (a, .inl (cG, n, .inr (.inr (.inr (.inr (fun j => some (va_up G i v j)))))))) H1 → va_D A ((X ++ va_pl L (pI cI pl pr)).set q0 (a, .inl (cG, n, .inr (.inr (.inr (.inr (fun j => some (va_up G i v j)))))))) → va_S A H0 H1 locs1 → W p l e R s m args below meth c H1 locs1 cells slots Q (F0 m (pc + 1) ls rest)) : W p l e R s m args below meth c H locs cells slots Q (F0 m pc ls (.ref v :: .int (nI i) :: .ref a :: rest)) := by
  have hc : (nI i).toNatClampNeg = i := nI_clamp (by omega)
  obtain ⟨⟨kG, k1, k2⟩, ⟨kI, k3⟩, k4⟩ := hG
  obtain ⟨k, hk⟩ := va_pl_get (X := X) (f := pI cI pl pr) hv
  have hcv : H[v]? = some (vp_cell cI (pl v, .inl (fun j => nI (pr v j)))) := hP k _ hk
  have hca : H[a]? = some (vp_cell cG (n, .inr (.inr (.inr (.inr (fun j => some (G j))))))) := hP q0 _ ha
  refine W.aast hexec hb hca (fun q h => by cases h) (fun h => by cases h) k1 k2 rfl k3 ⟨nI_pos (by omega), by show _ < (arrV _ _ _).slots.size; rw [arrV_size, hc]; exact hi⟩ hcv (fun q h => by cases h) k3 k4 rfl rfl hdg fun H1 e z oq => ?_
  refine kk H1 _ (hP.set hD ha ?_ oq) (hD.set ha) (hS.put z oq (hD.2 q0 _ ha))
  show H1[a]? = some (vp_cell _ _)
  rw [e, hc]
  rw [vp_cell_q, vp_cell_q, arrV_store]
  congr 2
  funext q
  by_cases hq : q = i
  · subst hq
    simp [updV, va_up, va_rf]
  · simp [updV, va_up, hq]
end RG2

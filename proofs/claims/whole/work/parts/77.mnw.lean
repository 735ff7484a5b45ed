theorem wP_iff {D : va_G} {cl : List vw_C} {ws : va_W} {H : Heap} : va_P D cl ws H ↔ ∀ x ∈ ws, va_at D cl x H := by
  constructor
  · intro h x hx
    obtain ⟨k, hk⟩ := List.mem_iff_getElem?.mp hx
    exact h k x hk
  · intro h k x hk
    exact h x (List.mem_iff_getElem?.mpr ⟨k, hk⟩)
theorem wD_iff {A : Nat → Prop} {ws : va_W} : va_D A ws ↔ (ws.map Prod.fst).Nodup ∧ ∀ x ∈ ws, A x.1 := by
  constructor
  · rintro ⟨h1, h2⟩
    refine ⟨List.pairwise_iff_getElem.mpr (fun i j hi hj hij he => ?_), fun x hx => ?_⟩
    · rw [List.length_map] at hi hj
      rw [List.getElem_map, List.getElem_map] at he
      have := h1 i j _ _ (List.getElem?_eq_getElem hi) (List.getElem?_eq_getElem hj) he
      omega
    · obtain ⟨k, hk⟩ := List.mem_iff_getElem?.mp hx
      exact h2 k x hk
  · rintro ⟨h1, h2⟩
    refine ⟨fun i j x y hx hy he => ?_, fun k x hk => h2 x (List.mem_iff_getElem?.mpr ⟨k, hk⟩)⟩
    have h3 := List.pairwise_iff_getElem.mp h1
    have ei : (ws.map Prod.fst)[i]? = some x.1 := by rw [List.getElem?_map, hx]; rfl
    have ej : (ws.map Prod.fst)[j]? = some y.1 := by rw [List.getElem?_map, hy]; rfl
    obtain ⟨li, ei⟩ := List.getElem?_eq_some_iff.mp ei
    obtain ⟨lj, ej⟩ := List.getElem?_eq_some_iff.mp ej
    rcases Nat.lt_trichotomy i j with h | h | h
    · exact absurd (ei.trans (he.trans ej.symm)) (h3 i j li lj h)
    · exact h
    · exact absurd (ej.trans (he.symm.trans ei.symm)) (h3 j i lj li h)
theorem wP_perm {D : va_G} {cl : List vw_C} {ws ws' : va_W} {H : Heap} (h : va_P D cl ws H) (hp : ws.Perm ws') : va_P D cl ws' H := wP_iff.mpr (fun x hx => wP_iff.mp h x (hp.mem_iff.mpr hx))
theorem wD_perm {A : Nat → Prop} {ws ws' : va_W} (h : va_D A ws) (hp : ws.Perm ws') : va_D A ws' := by
  obtain ⟨h1, h2⟩ := wD_iff.mp h
  exact wD_iff.mpr ⟨(hp.map Prod.fst).nodup_iff.mp h1, fun x hx => h2 x (hp.mem_iff.mpr hx)⟩
section MNX
variable {p : Program} {l : Launch} {e : Env} {R : Room} {s : State} {m : MethodId} {args : Array Value} {below : List Frame} {meth : Method} {c : Code} {H : Heap} {locs : List Loc} {cells slots : Nat} {Q : State → Prop}
variable {cc : ByteArray} {pc : Nat} {ls : Array Slot} {rest : List Value} {D : va_G} {cl : List vw_C} {A : Nat → Prop} {tys : List (ClassId × FieldType)} {H0 : Heap}
/-- new int[n] beside a pool -/
theorem rg_newa {X : va_W} {L : List Nat} {f : Nat → va_E} (hexec : p.tables.exec = Jvm.exec) (hb : c.code = cc) (harr : (Cond.arrayClass .int).before args s = true) (hK : va_K D cl tys s) (hP : va_P D cl (X ++ va_pl L f) H) (hD : va_D A (X ++ va_pl L f)) (hS : va_S A H0 H locs) (hA : ∀ q, H0.size ≤ q → A q)
    {n : Nat} (hn : n < 1000) (hcells : cells + 1 ≤ R.cells) (hslots : slots + n ≤ R.slots) (hdg : decode cc pc = .ok (.newarray .int, 2))
    (kk : ∀ (q : Nat) (cA : ClassId) (H1 : Heap), va_K D cl (tys ++ [(cA, .int)]) s → va_P D cl ((X ++ [(q, .inl (cA, n, .inl (fun j => nI ((fun _ => 0) j))))]) ++ va_pl L f) H1 → va_D A ((X ++ [(q, .inl (cA, n, .inl (fun j => nI ((fun _ => 0) j))))]) ++ va_pl L f) → va_S A H0 H1 locs →
      W p l e R s m args below meth c H1 locs (cells + 1) (slots + n) Q (F0 m (pc + 2) ls (.ref q :: rest))) : W p l e R s m args below meth c H locs cells slots Q (F0 m pc ls (.int (nI n) :: rest)) := by
  refine va_newa (atype := .int) (ty := .int) (N' := n) (a0 := (n, .inl (fun j => nI ((fun _ => 0) j)))) hexec hb harr rfl hK hP hD hS hA (fun _ => rfl) (nI_nneg (by omega)) (nI_clamp (by omega)) (by show n * 4 ≤ 536870912; omega) hcells hslots hdg (fun q cA H1 hK hP hD hS => ?_)
  have hp : ((X ++ va_pl L f) ++ [(q, (.inl (cA, n, .inl (fun j => nI ((fun _ => 0) j))) : va_E))]).Perm ((X ++ [(q, .inl (cA, n, .inl (fun j => nI ((fun _ => 0) j))))]) ++ va_pl L f) := by
    rw [List.append_assoc, List.append_assoc]
    exact List.Perm.append_left X List.perm_append_comm
  exact kk q cA H1 hK (wP_perm hP hp) (wD_perm hD hp) hS
/-- new int[N][M] beside a pool: its rows go into the pool -/
theorem rg_mna {X : va_W} {L : List Nat} {cG cI : ClassId} {pl : Nat → Nat} {pr : Nat → Nat → Nat} (hexec : p.tables.exec = Jvm.exec) (hb : c.code = cc) {own : String} {index : Nat} (hown : s.vm.findClass own = some m.cls) (hclink : (Cond.classLink own index "[[I").before args s = true) (hG : grK cG cI s) (hK : va_K D cl tys s) (tI tG : Nat) (htI : tys[tI]? = some (cI, .int)) (htG : tys[tG]? = some (cG, .array .int))
    (hP : va_P D cl (X ++ va_pl L (pI cI pl pr)) H) (hD : va_D A (X ++ va_pl L (pI cI pl pr))) (hS : va_S A H0 H locs) (hA : ∀ q, H0.size ≤ q → A q) {N M : Nat} (hN : N < 1000) (hM : M < 1000) (hcells : cells + (1 + N) ≤ R.cells) (hslots : slots + (N + N * M) ≤ R.slots) (hdg : decode cc pc = .ok (.multianewarray index 2, 4))
    (kk : ∀ (q : Nat) (H1 : Heap) (lo : List Loc), (∀ a ∈ L, a < q) → va_P D cl ((X ++ [(q, .inl (cG, N, .inr (.inr (.inr (.inr (fun j => some (q + 1 + j)))))))]) ++ va_pl (L ++ (List.range N).map (fun j => q + 1 + j)) (pI cI (fun a => if a < q then pl a else M) (fun a j => if a < q then pr a j else 0))) H1 →
      va_D A ((X ++ [(q, .inl (cG, N, .inr (.inr (.inr (.inr (fun j => some (q + 1 + j)))))))]) ++ va_pl (L ++ (List.range N).map (fun j => q + 1 + j)) (pI cI (fun a => if a < q then pl a else M) (fun a j => if a < q then pr a j else 0))) → va_S A H0 H1 lo →
      W p l e R s m args below meth c H1 lo (cells + 1 + N) (slots + N + N * M) Q (F0 m (pc + 4) ls (.ref q :: rest))) : W p l e R s m args below meth c H locs cells slots Q (F0 m pc ls (.int (nI M) :: .int (nI N) :: rest)) := by
  obtain ⟨⟨kG, k1, k2⟩, -, -⟩ := hG
  obtain ⟨-, kI, k3, c0, k4⟩ := (hK.2 tI _ htI).1 0 (fun _ => .null)
  have hfG : s.vm.findClass "[[I" = some cG := (hK.2 tG _ htG).2
  refine mn_W hexec hb hown hclink hfG k1 k2 k3 k4 (g := F0 m pc ls (.int (nI M) :: .int (nI N) :: rest)) rfl hdg rfl (nI_nneg (by omega)) (nI_nneg (by omega)) (nI_clamp (by omega)) (nI_clamp (by omega)) (by omega) (by omega) hcells hslots rfl (fun H1 lo z1 g1 g2 g3 g4 => ?_)
  have old : ∀ x ∈ X ++ va_pl L (pI cI pl pr), x.1 < H.size := fun x hx => by
    obtain ⟨k, hk⟩ := List.mem_iff_getElem?.mp hx
    exact (hP k x hk).lt
  have oldL : ∀ a ∈ L, a < H.size := fun a ha => old (a, pI cI pl pr a) (List.mem_append_right _ (List.mem_map.mpr ⟨a, ha, rfl⟩))
  have epl : va_pl (L ++ (List.range N).map (fun j => H.size + 1 + j)) (pI cI (fun a => if a < H.size then pl a else M) (fun a j => if a < H.size then pr a j else 0)) = va_pl L (pI cI pl pr) ++ va_pl ((List.range N).map (fun j => H.size + 1 + j)) (pI cI (fun _ => M) (fun _ _ => 0)) := by
    unfold va_pl
    rw [List.map_append]
    congr 1
    · refine List.map_congr_left (fun a ha => ?_)
      unfold pI
      dsimp only
      rw [if_pos (oldL a ha)]
      simp only [if_pos (oldL a ha)]
    · refine List.map_congr_left (fun a ha => ?_)
      obtain ⟨j, -, rfl⟩ := List.mem_map.mp ha
      unfold pI
      dsimp only
      rw [if_neg (show ¬ H.size + 1 + j < H.size by omega)]
      simp only [if_neg (show ¬ H.size + 1 + j < H.size by omega)]
  have new1 : va_P D cl (([(H.size, (.inl (cG, N, .inr (.inr (.inr (.inr (fun j => some (H.size + 1 + j)))))) : va_E))] : va_W) ++ va_pl ((List.range N).map (fun j => H.size + 1 + j)) (pI cI (fun _ => M) (fun _ _ => 0))) H1 := by
    refine wP_iff.mpr (fun x hx => ?_)
    rcases List.mem_append.mp hx with h | h
    · rw [List.mem_singleton.mp h]
      show H1[H.size]? = some (vp_cell _ _)
      rw [g1, vp_cell_q]
      unfold mnC
      congr 1
      unfold arrV
      congr 2
      funext j
      dsimp only
      rw [if_pos j.isLt]
      rfl
    · obtain ⟨a, ha, rfl⟩ := List.mem_map.mp h
      obtain ⟨j, hj, rfl⟩ := List.mem_map.mp ha
      exact g2 j (List.mem_range.mp hj)
  have hk : ∀ (k : Nat) (x : Nat × va_E), (X ++ va_pl L (pI cI pl pr))[k]? = some x → H1[x.1]? = H[x.1]? := fun k x hx => g3 x.1 ((hP k x hx).lt)
  have hP1 := (hP.kept hk).app new1
  have hD1 : va_D A ((X ++ va_pl L (pI cI pl pr)) ++ (([(H.size, (.inl (cG, N, .inr (.inr (.inr (.inr (fun j => some (H.size + 1 + j)))))) : va_E))] : va_W) ++ va_pl ((List.range N).map (fun j => H.size + 1 + j)) (pI cI (fun _ => M) (fun _ _ => 0)))) := by
    obtain ⟨d1, d2⟩ := wD_iff.mp hD
    have em : ((([(H.size, (.inl (cG, N, .inr (.inr (.inr (.inr (fun j => some (H.size + 1 + j)))))) : va_E))] : va_W) ++ va_pl ((List.range N).map (fun j => H.size + 1 + j)) (pI cI (fun _ => M) (fun _ _ => 0))).map Prod.fst) = H.size :: (List.range N).map (fun j => H.size + 1 + j) := by
      unfold va_pl
      simp [List.map_map, Function.comp_def]
    refine wD_iff.mpr ⟨?_, fun x hx => ?_⟩
    · rw [List.map_append, em, List.nodup_append]
      refine ⟨d1, List.nodup_cons.mpr ⟨fun h => ?_, ?_⟩, fun a ha b hb2 => ?_⟩
      · obtain ⟨j, -, hj⟩ := List.mem_map.mp h
        omega
      · refine List.pairwise_iff_getElem.mpr (fun i j hi hj hij he => ?_)
        rw [List.getElem_map, List.getElem_map, List.getElem_range, List.getElem_range] at he
        omega
      · obtain ⟨x, hx, rfl⟩ := List.mem_map.mp ha
        have := old x hx
        rcases List.mem_cons.mp hb2 with h | h
        · omega
        · obtain ⟨j, -, hj⟩ := List.mem_map.mp h
          omega
    · rcases List.mem_append.mp hx with h | h
      · exact d2 x h
      · have hx1 : x.1 ∈ H.size :: (List.range N).map (fun j => H.size + 1 + j) := by rw [← em]; exact List.mem_map.mpr ⟨x, h, rfl⟩
        have hs := hS.1
        rcases List.mem_cons.mp hx1 with h2 | h2
        · exact hA _ (by omega)
        · obtain ⟨j, -, hj⟩ := List.mem_map.mp h2
          exact hA _ (by omega)
  have hp : ((X ++ va_pl L (pI cI pl pr)) ++ (([(H.size, (.inl (cG, N, .inr (.inr (.inr (.inr (fun j => some (H.size + 1 + j)))))) : va_E))] : va_W) ++ va_pl ((List.range N).map (fun j => H.size + 1 + j)) (pI cI (fun _ => M) (fun _ _ => 0)))).Perm ((X ++ [(H.size, .inl (cG, N, .inr (.inr (.inr (.inr (fun j => some (H.size + 1 + j)))))))]) ++ (va_pl L (pI cI pl pr) ++ va_pl ((List.range N).map (fun j => H.size + 1 + j)) (pI cI (fun _ => M) (fun _ _ => 0)))) := by
    rw [List.append_assoc, List.append_assoc]
    refine List.Perm.append_left X ?_
    rw [← List.append_assoc, ← List.append_assoc]
    exact List.Perm.append_right _ List.perm_append_comm
  refine kk H.size H1 lo oldL (by rw [epl]; exact wP_perm hP1 hp) (by rw [epl]; exact wD_perm hD1 hp) ⟨by have := hS.1; omega, fun x h1 h2 => (g3 x (Nat.lt_of_lt_of_le h1 hS.1)).trans (hS.2.1 x h1 h2), fun q hq => ?_⟩
  rcases g4 q hq with h | h
  · exact hS.2.2 q h
  · rw [h]; exact hA _ hS.1
end MNX

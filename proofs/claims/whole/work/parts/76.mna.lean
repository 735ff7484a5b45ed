/-! new int[N][M]: my own row of multianewarray, two dimensions of ints -/
def mnC (cG : ClassId) (N h i : Nat) : Cell := arrV cG N (fun j => if j < i then .ref (h + 1 + j) else .null)
def mnI (cI : ClassId) (M : Nat) : Cell := arrV cI M (fun _ => .int 0)
/-- the state when i of the N rows are made -/
def mnS (cG cI : ClassId) (N M : Nat) (S : State) : Nat → State
  | 0 => S.pushCell (mnC cG N S.heap.size 0)
  | i + 1 => ((mnS cG cI N M S i).pushCell (mnI cI M)).setCell S.heap.size (mnC cG N S.heap.size (i + 1))
theorem mnC_step (cG : ClassId) (N h i : Nat) : (mnC cG N h i).setSlot i (.ref (h + 1 + i)) = mnC cG N h (i + 1) := by
  unfold mnC
  rw [arrV_store]
  congr 1
  funext j
  unfold updV
  by_cases e : j = i
  · subst e
    simp
  · simp only [e, if_false]
    by_cases e2 : j < i
    · rw [if_pos e2, if_pos (by omega)]
    · rw [if_neg e2, if_neg (by omega)]
theorem mnC_none (cG : ClassId) (N h i : Nat) : (mnC cG N h i).vm = .none := rfl
theorem mnS_has (cG cI : ClassId) (N M : Nat) (S : State) : ∀ i, (mnS cG cI N M S i).heap.size = S.heap.size + 1 + i ∧ (mnS cG cI N M S i).heap[S.heap.size]? = some (mnC cG N S.heap.size i) ∧ (mnS cG cI N M S i).vm = S.vm ∧ (mnS cG cI N M S i).slotsUsed = S.slotsUsed + N + i * M ∧
    (∀ q : Nat, q < S.heap.size → (mnS cG cI N M S i).heap[q]? = S.heap[q]?) ∧ ∀ j, j < i → (mnS cG cI N M S i).heap[S.heap.size + 1 + j]? = some (mnI cI M)
  | 0 => ⟨by simp [mnS], by simp [mnS], rfl, by simp [mnS, mnC, arrV_size], fun q hq => State.heap_pushCell_of_lt _ _ hq, fun j hj => absurd hj (Nat.not_lt_zero j)⟩
  | i + 1 => by
    obtain ⟨a1, a2, a3, a4, a5, a6⟩ := mnS_has cG cI N M S i
    have hlt : S.heap.size < (mnS cG cI N M S i).heap.size := by omega
    have hc : ((mnS cG cI N M S i).pushCell (mnI cI M)).heap[S.heap.size]? = some (mnC cG N S.heap.size i) := by rw [State.heap_pushCell_of_lt (h := hlt)]; exact a2
    refine ⟨?_, State.heap_setCell_self hc, by simp [mnS, a3], ?_, fun q hq => ?_, fun j hj => ?_⟩
    · simp [mnS, State.setCell, a1]; omega
    · simp [mnS, a4, mnI, arrV_size, Nat.succ_mul]; omega
    · show (((mnS cG cI N M S i).pushCell (mnI cI M)).setCell S.heap.size _).heap[q]? = _
      rw [State.heap_setCell_other (show S.heap.size ≠ q by omega), State.heap_pushCell_of_lt (h := show q < (mnS cG cI N M S i).heap.size by omega)]
      exact a5 q hq
    · show (((mnS cG cI N M S i).pushCell (mnI cI M)).setCell S.heap.size _).heap[S.heap.size + 1 + j]? = _
      rw [State.heap_setCell_other (show S.heap.size ≠ S.heap.size + 1 + j by omega)]
      by_cases e : j < i
      · rw [State.heap_pushCell_of_lt (h := show S.heap.size + 1 + j < (mnS cG cI N M S i).heap.size by omega)]
        exact a6 j e
      · have e2 : S.heap.size + 1 + j = (mnS cG cI N M S i).heap.size := by omega
        rw [e2]
        exact State.heap_pushCell_size _ _
theorem mnS_top (cG cI : ClassId) (N M : Nat) (S : State) (f : JFrame) : ∀ i, mnS cG cI N M (S.setTop f) i = (mnS cG cI N M S i).setTop f
  | 0 => rfl
  | i + 1 => by simp only [mnS, mnS_top cG cI N M S f i, State.heap_setTop, State.pushCell_setTop, State.setCell_setTop]
section MNA
variable {E : CtlPost} {e : Env} {d : Bool} {acts : List Action} {s : State}
theorem mn_arr {c comp : ClassId} {k : Class} {ty : FieldType} {len : Nat} {v : Value} (hk : s.vm.classes[c]? = some k) (hkind : k.kind = .array comp ty) (h1 : ¬ len > e.platform.arrayLengthLimit) (h2 : ¬ len * componentBytes ty > e.platform.maxHeapBytes) (hf : fits ty v = true) (hv : v.isDefault = true)
    {Q : Addr → Pre} (h3 : s.heap.size < e.platform.maxCells) (h4 : s.slotsUsed + len ≤ e.platform.maxSlots) (hq : Q s.heap.size d acts (s.pushCell (arrV c len (fun _ => v)))) : wp (Jvm.newArray c len v) Q E e d acts s := by
  rw [← arrV_new] at hq
  have g1 : ∀ i x, (Array.replicate len v)[i]? = some x → s.fitsSlot c .none i x = true := by
    intro i x hx
    rw [Array.getElem?_replicate] at hx
    split at hx
    · cases hx
      simp [State.fitsSlot, State.slotType?, hk, hkind, hf]
    · cases hx
  have g2 : allocActs (Array.replicate len v) s.heap.size acts = acts := by
    unfold allocActs
    rw [if_pos (by rw [Array.all_replicate]; split <;> simp [hv])]
  simp only [Jvm.newArray, Jvm.arrayFits, wp_bind', W.ask, W.ite, h1, if_false, wp_pure', W.theClass, hk, hkind, h2, W.alloc, W.stop, Option.some.injEq, exists_eq_left', Array.size_replicate, g2]
  rw [if_neg (by omega)]
  exact ⟨h3, h4, g1, hq⟩
theorem mn_row {cI c0 : ClassId} {kI : Class} {m : Int32} {M : Nat} (hM : m.toNatClampNeg = M) (hk : s.vm.classes[cI]? = some kI) (hkind : kI.kind = .array c0 .int) (hm : ¬ m < 0) (h1 : ¬ M > e.platform.arrayLengthLimit) (h2 : ¬ M * 4 > e.platform.maxHeapBytes)
    {Q : Addr → Pre} (h3 : s.heap.size < e.platform.maxCells) (h4 : s.slotsUsed + M ≤ e.platform.maxSlots) (hq : Q s.heap.size d acts (s.pushCell (mnI cI M))) : wp (multianewarray.make cI [m]) Q E e d acts s := by
  subst hM
  rw [multianewarray.make]
  simp only [wp_bind', W.ite, hm, if_false, wp_pure', W.theClass, hk, hkind, Option.some.injEq, exists_eq_left']
  exact mn_arr hk hkind h1 h2 rfl rfl h3 h4 hq
theorem mn_all {cG cI c0 : ClassId} {kG kI : Class} {n m : Int32} {N M : Nat} (hN : n.toNatClampNeg = N) (hM : m.toNatClampNeg = M) (hkG : s.vm.classes[cG]? = some kG) (hG : kG.kind = .array cI (.array .int)) (hkI : s.vm.classes[cI]? = some kI) (hI : kI.kind = .array c0 .int) (hn : ¬ n < 0) (hm : ¬ m < 0)
    (a1 : ¬ N > e.platform.arrayLengthLimit) (a2 : ¬ N * 4 > e.platform.maxHeapBytes) (a3 : ¬ M > e.platform.arrayLengthLimit) (a4 : ¬ M * 4 > e.platform.maxHeapBytes) (a5 : s.heap.size + 1 + N ≤ e.platform.maxCells) (a6 : s.slotsUsed + N + N * M ≤ e.platform.maxSlots)
    {Q : Addr → Pre} (hq : ∀ d' acts', Q s.heap.size d' acts' (mnS cG cI N M s N)) : wp (multianewarray.make cG [n, m]) Q E e d acts s := by
  subst hN
  have hfind : ([m].find? (· < 0)) = none := by simp [hm]
  rw [multianewarray.make]
  simp only [wp_bind', W.ite, hn, if_false, wp_pure', W.theClass, hkG, hG, Option.some.injEq, exists_eq_left']
  refine mn_arr hkG hG a1 a2 rfl rfl (by omega) (by have := Nat.zero_le (n.toNatClampNeg * M); omega) ?_
  simp only [hfind]
  rw [ite_self, wp_bind', Std.Legacy.Range.forIn_eq_forIn_range', show ([:n.toNatClampNeg] : Std.Legacy.Range).size = n.toNatClampNeg by simp [Std.Legacy.Range.size]]
  generalize n.toNatClampNeg = N at a1 a2 a5 a6 hq ⊢
  refine wp_forIn_inv (fun l t => ∃ i, i + l.length = N ∧ l = List.range' i l.length ∧ t = mnS cG cI N M s i) _ _ ⟨0, by simp, by simp, ?_⟩ ?_ ?_
  · show _ = s.pushCell (mnC cG N s.heap.size 0)
    congr 1
  · rintro x l t d' acts' Q' ⟨i, h1, h2, rfl⟩ hnext
    rw [List.length_cons, List.range'_succ] at h2
    obtain ⟨rfl, h3⟩ := List.cons.inj h2
    rw [List.length_cons] at h1
    obtain ⟨b1, b2, b3, b4, -, -⟩ := mnS_has cG cI N M s x
    have hmul : x * M + M ≤ N * M := by rw [← Nat.succ_mul]; exact Nat.mul_le_mul_right M (by omega)
    simp only [wp_bind']
    refine mn_row hM (by rw [b3]; exact hkI) hI hm a3 a4 (by rw [b1]; omega) (by rw [b4]; omega) ?_
    have hlt : s.heap.size < (mnS cG cI N M s x).heap.size := by rw [b1]; omega
    simp only [wp_bind', W.writeLoc, wp_pure']
    refine ⟨mnC cG N s.heap.size x, by rw [State.heap_pushCell_of_lt (h := hlt)]; exact b2, by rw [mnC_none]; simp, by unfold mnC; rw [arrV_size]; omega, ?_, hnext _ _ _ ⟨x + 1, by omega, h3, ?_⟩⟩
    · simp [mnC, arrV, State.fitsSlot, State.slotType?, b3, hkG, hG, fits]
    · rw [b1, mnC_step]; rfl
  · rintro t d' acts' ⟨i, h1, -, rfl⟩
    rw [List.length_nil, Nat.add_zero] at h1
    subst h1
    simp only [wp_pure']
    exact hq _ _
end MNA
section MNW
variable {p : Program} {l : Launch} {e : Env} {R : Room} {s : State} {m : MethodId} {args : Array Value} {below : List Frame} {meth : Method} {c : Code} {H : Heap} {locs : List Loc} {cells slots : Nat} {Q : State → Prop}
theorem mnS_stand {T : State} (X : Stand p l e R s m args below meth c T locs cells slots) (cG cI : ClassId) (N M : Nat) : ∀ i, ∃ lo, (∀ q ∈ lo, q ∈ locs ∨ q.base = T.heap.size) ∧ Stand p l e R s m args below meth c (mnS cG cI N M T i) lo (cells + 1 + i) (slots + N + i * M)
  | 0 => by
    have h := X.pushed (mnC cG N T.heap.size 0)
    rw [show (mnC cG N T.heap.size 0).slots.size = N from arrV_size _ _ _] at h
    exact ⟨locs, fun q hq => Or.inl hq, by simpa [mnS] using h⟩
  | i + 1 => by
    obtain ⟨lo, h1, h2⟩ := mnS_stand X cG cI N M i
    obtain ⟨b1, b2, -, -, -, -⟩ := mnS_has cG cI N M T i
    have hlt : T.heap.size < (mnS cG cI N M T i).heap.size := by rw [b1]; omega
    have hc : ((mnS cG cI N M T i).pushCell (mnI cI M)).heap[T.heap.size]? = some (mnC cG N T.heap.size i) := by rw [State.heap_pushCell_of_lt (h := hlt)]; exact b2
    have h := (h2.pushed (mnI cI M)).stored hc i (.ref (T.heap.size + 1 + i))
    rw [mnC_step, show (mnI cI M).slots.size = M from arrV_size _ _ _] at h
    have e3 : slots + N + (i + 1) * M = slots + N + i * M + M := by rw [Nat.succ_mul]; omega
    refine ⟨_, fun q hq => ?_, by rw [e3]; exact h⟩
    rcases List.mem_append.mp hq with h3 | h3
    · exact h1 q h3
    · rw [List.mem_singleton.mp h3]; exact Or.inr rfl
/-- new int[N][M] -/
theorem mn_W {cc : ByteArray} (hexec : p.tables.exec = Jvm.exec) (hb : c.code = cc) {own : String} {index : Nat} (hown : s.vm.findClass own = some m.cls) (hclink : (Cond.classLink own index "[[I").before args s = true)
    {cG cI c0 : ClassId} {kG kI : Class} (hfG : s.vm.findClass "[[I" = some cG) (hkG : s.vm.classes[cG]? = some kG) (hG : kG.kind = .array cI (.array .int)) (hkI : s.vm.classes[cI]? = some kI) (hI : kI.kind = .array c0 .int)
    {g : JFrame} (hg : g.method = m) (hdg : decode cc g.pc = .ok (.multianewarray index 2, 4)) {n k : Int32} {N M : Nat} {rest : List Value} (hstack : g.stack = .int k :: .int n :: rest) (hn : ¬ n < 0) (hk : ¬ k < 0) (hN : n.toNatClampNeg = N) (hM : k.toNatClampNeg = M)
    (hb1 : N * 4 ≤ 536870912) (hb2 : M * 4 ≤ 536870912) (hcells : cells + (1 + N) ≤ R.cells) (hslots : slots + (N + N * M) ≤ R.slots) {h : Nat} (hh : H.size = h)
    (kk : ∀ (H' : Heap) (lo : List Loc), H'.size = h + 1 + N → H'[h]? = some (mnC cG N h N) → (∀ j, j < N → H'[h + 1 + j]? = some (mnI cI M)) → (∀ q : Nat, q < h → H'[q]? = H[q]?) → (∀ q ∈ lo, q ∈ locs ∨ q.base = h) →
      W p l e R s m args below meth c H' lo (cells + 1 + N) (slots + N + N * M) Q { g with pc := g.pc + 4, stack := .ref h :: rest }) : W p l e R s m args below meth c H locs cells slots Q g := by
  intro T hT X
  subst hT; subst hb; subst hh; subst hg
  have hpl : e.platform.magicAccessors = ({} : Platform).magicAccessors := by rw [X.admits.platform]
  obtain ⟨c1, hfc, hcl⟩ := Cond.classLink_spec hown hclink e.platform hpl
  cases hfG.symm.trans hfc
  obtain ⟨hg₁, hwarm₁, hready₁⟩ := State.classEntry (e := e) X.warmed hcl
  generalize T.vm.noted g.method.cls index (.cls cG) = vm₁ at hg₁ hwarm₁ hready₁
  have hal : s.vm.Alike vm₁ := hwarm₁.alike
  obtain ⟨kG₁, hkG₁, heG⟩ := hal.2.2 _ _ hkG
  obtain ⟨kI₁, hkI₁, heI⟩ := hal.2.2 _ _ hkI
  have X₁ := X.noted hwarm₁
  obtain ⟨hr1, hr2⟩ := X.roomAbove hcells hslots
  obtain ⟨lo, hlo, XF⟩ := mnS_stand X₁ cG cI N M N
  obtain ⟨b1, b2, -, -, b5, b6⟩ := mnS_has cG cI N M (T.setVm vm₁) N
  obtain ⟨t, ht, hQ⟩ := kk (mnS cG cI N M (T.setVm vm₁) N).heap lo b1 b2 b6 b5 hlo _ rfl XF
  refine ⟨t, ?_, hQ⟩
  have hl1 : ¬ N > e.platform.arrayLengthLimit := by rw [Launch.admits_arrayLengthLimit X.admits]; omega
  have hh1 : ¬ N * 4 > e.platform.maxHeapBytes := by rw [Launch.admits_maxHeapBytes X.admits]; omega
  have hl2 : ¬ M > e.platform.arrayLengthLimit := by rw [Launch.admits_arrayLengthLimit X.admits]; omega
  have hh2 : ¬ M * 4 > e.platform.maxHeapBytes := by rw [Launch.admits_maxHeapBytes X.admits]; omega
  jvm_step X.here [hexec, hdg]
  simp only [multianewarray.sem, wp_bind', W.resolveClassAt_links (State.method?_setTop g X.here.top) hg₁]
  rw [W.popN, if_neg (by decide)]
  refine ⟨g, State.topJava?_setTop' (s := T.setVm vm₁) g X.here.top, [.int n, .int k], rest, rfl, hstack, ?_⟩
  simp only [List.mapM_cons, List.mapM_nil, wp_bind', wp_pure']
  refine mn_all hN hM (kG := kG₁) (kI := kI₁) hkG₁ (by rw [heG]; exact hG) hkI₁ (by rw [heI]; exact hI) hn hk hl1 hh1 hl2 hh2 (by show T.heap.size + 1 + N ≤ _; omega) (by show T.slotsUsed + N + N * M ≤ _; omega) (fun d' acts' => ?_)
  have eS : ((T.setTop g).setVm vm₁).setTop { g with stack := rest } = (T.setVm vm₁).setTop { g with stack := rest } := by
    show ((T.setVm vm₁).setTop g).setTop _ = _
    rw [State.setTop_setTop]
  rw [eS, mnS_top]
  simp only [wp_bind', W.mark, W.pushRef, State.topJava?_setTop' _ XF.here.top, Option.some.injEq, exists_eq_left', State.setTop_setTop, State.heap_setTop]
  intro acts
  simp [jvm, XF.here.top]
  exact ht
end MNW

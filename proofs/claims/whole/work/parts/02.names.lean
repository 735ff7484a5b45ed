/-! ===== BEGIN words of one list among another's, by their places ===== -/
theorem goodIn_r {big : List Cond} (ws : List Cond) (ps : List Nat) (hp : ws = ps.filterMap (fun i => big[i]?)) (h : ws.all goodWord = true) : GoodIn big ws := by
  intro w hw
  have h1 := List.all_eq_true.mp h w hw
  rw [hp] at hw
  obtain ⟨i, -, hi⟩ := List.mem_filterMap.mp hw
  have hm : w ∈ big := by first | exact List.mem_of_getElem? hi | exact List.getElem?_mem hi
  exact ⟨hm, good_of_word h1⟩
theorem goodIn_app {big a b : List Cond} (ha : GoodIn big a) (hb : GoodIn big b) : GoodIn big (a ++ b) := fun w h => (List.mem_append.mp h).elim (ha w) (hb w)
theorem goodIn_ca {big a b : List Cond} {c : Cond} (ha : GoodIn big (c :: a)) (hb : GoodIn big b) : GoodIn big (c :: (a ++ b)) := fun w h => (List.mem_cons.mp h).elim (fun e => ha w (List.mem_cons.mpr (Or.inl e))) (fun h => (List.mem_append.mp h).elim (fun h => ha w (List.mem_cons.mpr (Or.inr h))) (hb w))
theorem goodIn_sub {big ws : List Cond} (hm : ∀ w ∈ ws, w ∈ big) (h : ws.all goodWord = true) : GoodIn big ws := fun w hw => ⟨hm w hw, good_of_word (List.all_eq_true.mp h w hw)⟩
/-! ===== END ===== -/

/-! ===== BEGIN new T[n][m]: the outer array a place, the inner ones among the pooled ===== -/
/-- f, but v at every address of l -/
def vr_up {α : Type} (f : Nat → α) (l : List Nat) (v : α) : Nat → α := fun a => if a ∈ l then v else f a
theorem vr_up_in {α : Type} {f : Nat → α} {l : List Nat} {v : α} {a : Nat} (h : a ∈ l) : vr_up f l v a = v := if_pos h
theorem vr_up_ne {α : Type} {f : Nat → α} {l : List Nat} {v : α} {a : Nat} (h : a ∉ l) : vr_up f l v a = f a := if_neg h
theorem vr_rows {L l : List Nat} {f : Nat → va_E} {e : va_E} (h : ∀ a, a ∈ l → a ∉ L) : va_pl L f ++ l.map (fun a => (a, e)) = va_pl (L ++ l) (vr_up f l e) := by
  unfold va_pl
  rw [List.map_append]
  congr 1
  · apply List.map_congr_left
    intro a ha
    rw [vr_up_ne (fun q => h a q ha)]
  · apply List.map_congr_left
    intro a ha
    rw [vr_up_in ha]
theorem vr_lay {X rows : va_W} {x : Nat × va_E} {pl : va_W} {D : va_G} {cl : List vw_C} {H : Heap} (hP : va_P D cl (((X ++ pl) ++ [x]) ++ rows) H) : va_P D cl ((X ++ [x]) ++ (pl ++ rows)) H := by
  rw [List.append_assoc (X ++ pl)] at hP
  have h := va_P.swap hP
  rw [← List.append_assoc X] at h
  have h2 := va_P.swap h
  rw [List.append_assoc (X ++ [x])] at h2
  exact h2
theorem vr_layD {X rows : va_W} {x : Nat × va_E} {pl : va_W} {A : Nat → Prop} (hD : va_D A (((X ++ pl) ++ [x]) ++ rows)) : va_D A ((X ++ [x]) ++ (pl ++ rows)) := by
  rw [List.append_assoc (X ++ pl)] at hD
  have h := va_D.swap hD
  rw [← List.append_assoc X] at h
  have h2 := va_D.swap h
  rw [List.append_assoc (X ++ [x])] at h2
  exact h2
theorem vr_outer (c : ClassId) (N h0 : Nat) : ∀ i : Nat, Jvm.Free.Multi.outerC c N h0 i = arrV c N (fun j => va_rf (if j < i then some (h0 + 1 + j) else none))
  | 0 => by
    show ({ cls := c, slots := Array.replicate N .null, vm := .none } : Cell) = _
    rw [arrV_new]
    refine congrArg (arrV c N) (funext fun j => ?_)
    simp [va_rf]
  | i + 1 => by
    show (Jvm.Free.Multi.outerC c N h0 i).setSlot i (.ref (h0 + 1 + i)) = _
    rw [vr_outer c N h0 i, arrV_store]
    refine congrArg (arrV c N) (funext fun j => ?_)
    by_cases e : j = i
    · subst e
      simp [updV, va_rf]
    · by_cases h : j < i
      · simp [updV, e, h, Nat.lt_succ_of_lt h]
      · simp [updV, e, h, show ¬ j < i + 1 by omega]
section VGM
variable {p : Program} {l : Launch} {e : Env} {R : Room} {s : State} {m : MethodId} {args : Array Value} {below : List Frame} {meth : Method} {c : Code} {H : Heap} {locs : List Loc} {cells slots : Nat} {Q : State → Prop}
variable {cc : ByteArray} {pc : Nat} {ls : Array Slot} {rest : List Value} {D : va_G} {cl : List vw_C} {A : Nat → Prop} {a : Nat} {tys : List (ClassId × FieldType)} {ws : va_W} {H0 : Heap}
theorem va_mna {X : va_W} {L : List Nat} {f : Nat → va_E} {cc : ByteArray} (hexec : p.tables.exec = Jvm.exec) (hb : c.code = cc) {own : String} {index : Nat} {ty : FieldType} {cy : ClassId} (hown : s.vm.findClass own = some m.cls) (hclink : (Cond.classLink own index ("[" ++ (FieldType.array ty).toString)).before args s = true) (hover : va_AOA ty s) (harr : (Cond.arrayClass ty).before args s = true) (hcy : s.vm.findClass (FieldType.array ty).toString = some cy)
    (hK : va_K D cl tys s) (hP : va_P D cl (X ++ va_pl L f) H) (hD : va_D A (X ++ va_pl L f)) (hS : va_S A H0 H locs) (hA : ∀ q, H0.size ≤ q → A q) {n k : Int32} {N' K' : Nat} {z : vp_A} (hn : ¬ n < 0) (hk : ¬ k < 0) (hN : n.toNatClampNeg = N') (hM : k.toNatClampNeg = K')
    (hb1 : N' * 4 ≤ 536870912) (hb2 : K' * componentBytes ty ≤ 536870912) (hb3 : K' ≤ 536870912) (hdf : fits ty (defaultValue ty) = true) (hdd : (defaultValue ty).isDefault = true) (hcells : cells + (1 + N') ≤ R.cells) (hslots : slots + (N' + N' * K') ≤ R.slots) (hz : ∀ c : ClassId, Jvm.Free.Multi.innerC c K' (defaultValue ty) = vp_cell c z) (hdg : decode cc pc = .ok (.multianewarray index 2, 4))
    (kk : ∀ (q : Nat) (r : Nat → Nat) (cA : ClassId) (H1 : Heap), (∀ i j : Nat, i < N' → j < N' → r i = r j → i = j) → (∀ i : Nat, i < N' → r i ∉ L) → va_K D cl (tys ++ [(cA, .array ty)]) s →
      va_P D cl ((X ++ [(q, .inl (cA, N', .inr (.inr (.inr (.inr (fun i => if i < N' then some (r i) else none))))))]) ++ va_pl (L ++ (List.range N').map r) (vr_up f ((List.range N').map r) (.inl (cy, z)))) H1 → va_D A ((X ++ [(q, .inl (cA, N', .inr (.inr (.inr (.inr (fun i => if i < N' then some (r i) else none))))))]) ++ va_pl (L ++ (List.range N').map r) (vr_up f ((List.range N').map r) (.inl (cy, z)))) → va_S A H0 H1 locs →
      W p l e R s m args below meth c H1 locs (cells + 1 + N') (slots + N' + N' * K') Q (F0 m (pc + 4) ls (.ref q :: rest))) : W p l e R s m args below meth c H locs cells slots Q (F0 m pc ls (.int k :: .int n :: rest)) := by
  subst hN
  subst hM
  intro T hT Xs
  obtain ⟨vm₁, cA, comp, -, fA, fC, hO, -, X', step⟩ := Xs.multianewarray2F hexec hown hclink (va_AOA.use hover) harr (g := F0 m pc ls (.int k :: .int n :: rest)) rfl (by rw [hb]; exact hdg) rfl hn hk hb1 hb2 hb3 hdf hdd hcells hslots
  have ec : some cy = some comp := hcy.symm.trans fC
  cases ec
  generalize hF : Jvm.Free.Multi.fill (T.setVm vm₁) cA cy n.toNatClampNeg k.toNatClampNeg (defaultValue ty) n.toNatClampNeg = F at X' step
  have hTh : (T.setVm vm₁).heap = H := hT
  obtain ⟨f1, f2, -, -⟩ := Jvm.Free.Multi.fill_facts (T.setVm vm₁) cA cy n.toNatClampNeg k.toNatClampNeg (defaultValue ty) n.toNatClampNeg
  rw [hF, hTh] at f1 f2
  have hold : ∀ x : Nat, x < H.size → F.heap[x]? = H[x]? := fun x hx => by
    have := Jvm.Free.Multi.fill_old (T.setVm vm₁) cA cy n.toNatClampNeg k.toNatClampNeg (defaultValue ty) (a := x) (by rw [hTh]; exact hx) n.toNatClampNeg
    rw [hF, hTh] at this
    exact this
  have hrow : ∀ j : Nat, j < n.toNatClampNeg → F.heap[H.size + 1 + j]? = some (vp_cell cy z) := fun j hj => by
    have := Jvm.Free.Multi.fill_inner (T.setVm vm₁) cA cy n.toNatClampNeg k.toNatClampNeg (defaultValue ty) n.toNatClampNeg j hj
    rw [hF, hTh, hz] at this
    exact this
  have hout : Jvm.Free.Multi.outerC cA n.toNatClampNeg H.size n.toNatClampNeg = vp_cell cA (n.toNatClampNeg, .inr (.inr (.inr (.inr (fun i => if i < n.toNatClampNeg then some (H.size + 1 + i) else none))))) := by
    rw [vp_cell_q]
    exact vr_outer cA n.toNatClampNeg H.size n.toNatClampNeg
  rw [hout] at f2
  have hlt : ∀ a, a ∈ L → a < H.size := fun a ha => by
    obtain ⟨k9, hk9⟩ := va_pl_get (X := X) (f := f) ha
    exact (hP k9 _ hk9).lt
  have hnl : ∀ i : Nat, i < n.toNatClampNeg → H.size + 1 + i ∉ L := fun i _ h => by
    have := hlt _ h
    omega
  have hnm : ∀ a, a ∈ (List.range n.toNatClampNeg).map (fun i => H.size + 1 + i) → a ∉ L := fun a ha h => by
    obtain ⟨i, -, rfl⟩ := List.mem_map.mp ha
    have := hlt _ h
    omega
  have hP0 : va_P D cl (X ++ va_pl L f) F.heap := hP.kept (fun k9 x hx => hold x.1 ((hP k9 x hx).lt))
  have hP1 : va_P D cl ((X ++ va_pl L f) ++ [(H.size, .inl (cA, n.toNatClampNeg, .inr (.inr (.inr (.inr (fun i => if i < n.toNatClampNeg then some (H.size + 1 + i) else none))))))]) F.heap := hP0.app (fun k9 x hx => by
    have h0 : k9 < 1 := (List.getElem?_eq_some_iff.mp hx).1
    rw [show k9 = 0 by omega] at hx
    cases hx
    exact f2)
  have hP2 : va_P D cl (((X ++ va_pl L f) ++ [(H.size, .inl (cA, n.toNatClampNeg, .inr (.inr (.inr (.inr (fun i => if i < n.toNatClampNeg then some (H.size + 1 + i) else none))))))]) ++ ((List.range n.toNatClampNeg).map (fun i => H.size + 1 + i)).map (fun a => (a, .inl (cy, z)))) F.heap := hP1.app (fun k9 x hx => by
    obtain ⟨a, ha, rfl⟩ := List.mem_map.mp (List.mem_of_getElem? hx)
    obtain ⟨i, hi, rfl⟩ := List.mem_map.mp ha
    exact hrow i (List.mem_range.mp hi))
  have hD2 : va_D A (((X ++ va_pl L f) ++ [(H.size, .inl (cA, n.toNatClampNeg, .inr (.inr (.inr (.inr (fun i => if i < n.toNatClampNeg then some (H.size + 1 + i) else none))))))]) ++ ((List.range n.toNatClampNeg).map (fun i => H.size + 1 + i)).map (fun a => (a, .inl (cy, z)))) := by
    have hD1 := hD.push (e := .inl (cA, n.toNatClampNeg, .inr (.inr (.inr (.inr (fun i => if i < n.toNatClampNeg then some (H.size + 1 + i) else none)))))) hP rfl (hA _ hS.1)
    generalize hW1 : (X ++ va_pl L f) ++ [(H.size, .inl (cA, n.toNatClampNeg, .inr (.inr (.inr (.inr (fun i => if i < n.toNatClampNeg then some (H.size + 1 + i) else none))))))] = W1 at hD1 hP1 ⊢
    have hle : ∀ (k9 : Nat) (x : Nat × va_E), W1[k9]? = some x → x.1 ≤ H.size := fun k9 x hx => by
      rw [← hW1] at hx
      by_cases hl : k9 < (X ++ va_pl L f).length
      · rw [List.getElem?_append_left hl] at hx
        exact Nat.le_of_lt ((hP k9 x hx).lt)
      · rw [List.getElem?_append_right (by omega)] at hx
        have h0 : k9 - (X ++ va_pl L f).length < 1 := (List.getElem?_eq_some_iff.mp hx).1
        rw [show k9 - (X ++ va_pl L f).length = 0 by omega] at hx
        cases hx
        exact Nat.le_refl _
    have hr : ∀ (k9 : Nat) (x : Nat × va_E), (((List.range n.toNatClampNeg).map (fun i => H.size + 1 + i)).map (fun a => ((a, .inl (cy, z)) : Nat × va_E)))[k9]? = some x → x.1 = H.size + 1 + k9 := fun k9 x hx => by
      rw [List.getElem?_map, List.getElem?_map] at hx
      by_cases h9 : k9 < n.toNatClampNeg
      · rw [List.getElem?_range h9] at hx
        cases hx
        rfl
      · have hn0 : (List.range n.toNatClampNeg)[k9]? = none := List.getElem?_eq_none (by rw [List.length_range]; omega)
        rw [hn0] at hx
        cases hx
    refine ⟨fun i j x y hi hj hxy => ?_, fun k9 x hx => ?_⟩
    · by_cases h1 : i < W1.length <;> by_cases h2 : j < W1.length
      · rw [List.getElem?_append_left h1] at hi
        rw [List.getElem?_append_left h2] at hj
        exact hD1.1 i j x y hi hj hxy
      · rw [List.getElem?_append_left h1] at hi
        rw [List.getElem?_append_right (by omega)] at hj
        have := hle _ _ hi
        have := hr _ _ hj
        omega
      · rw [List.getElem?_append_right (by omega)] at hi
        rw [List.getElem?_append_left h2] at hj
        have := hle _ _ hj
        have := hr _ _ hi
        omega
      · rw [List.getElem?_append_right (by omega)] at hi hj
        have := hr _ _ hi
        have := hr _ _ hj
        omega
    · by_cases h1 : k9 < W1.length
      · rw [List.getElem?_append_left h1] at hx
        exact hD1.2 k9 x hx
      · rw [List.getElem?_append_right (by omega)] at hx
        have := hr _ _ hx
        exact hA _ (by have := hS.1; omega)
  have hAr : ArrOfT s cA (.array ty) := fun N9 z9 => by
    obtain ⟨-, k9, hk9, cm9, hkk9⟩ := (hO 0 0 0).1
    exact ⟨(fun q hq => by cases hq), k9, hk9, cm9, hkk9⟩
  have hK2 : va_K D cl (tys ++ [(cA, .array ty)]) s := ⟨hK.1, fun k9 x hx => by
    by_cases hl : k9 < tys.length
    · rw [List.getElem?_append_left hl] at hx
      exact hK.2 k9 x hx
    · rw [List.getElem?_append_right (by omega)] at hx
      have h0 : k9 - tys.length < 1 := (List.getElem?_eq_some_iff.mp hx).1
      rw [show k9 - tys.length = 0 by omega] at hx
      cases hx
      exact ⟨hAr, fA⟩⟩
  obtain ⟨t, a1, b1⟩ := kk H.size (fun i => H.size + 1 + i) cA F.heap (fun i j _ _ h => by have h9 : H.size + 1 + i = H.size + 1 + j := h; omega) hnl hK2 (by rw [← vr_rows hnm]; exact vr_lay hP2) (by rw [← vr_rows hnm]; exact vr_layD hD2) ⟨by rw [f1]; have := hS.1; omega, fun x h1 h2 => (hold x (Nat.lt_of_lt_of_le h1 hS.1)).trans (hS.2.1 x h1 h2), hS.2.2⟩ F rfl X'
  refine ⟨t, step t ?_, b1⟩
  have e : T.heap.size = H.size := by rw [hT]
  rw [e]
  exact a1
end VGM
/-! ===== END ===== -/

/-! ===== BEGIN printed: names, fields, word lists, decode rows ===== -/
def RX0 : String := "LightRows$Decimal"
def TX0 : u_T := fun k => match k with
  | 0 => ("LightRows$Decimal", "digits", "[I", true)
  | _ => ("LightRows$Decimal", "length", "I", false)
def tyX0 : Nat → FieldType := fun k => match k with
  | 0 => .array .int
  | _ => .int
abbrev wsX00 : List Cond := u_ws RX0 TX0 2
theorem nmX0 : ∀ a, a < 2 → ∀ b, b < 2 → a ≠ b → (TX0 a).2.1 ≠ (TX0 b).2.1 := by decide +kernel
theorem tyX0_ok : ∀ k, k < 2 → parseFieldDescriptor (TX0 k).2.2.1 = some (tyX0 k) := by decide +kernel
abbrev cX0_init : ByteArray := prog_2_method_1_code
def yX0_init : MethodName := ⟨RX0, "<init>", "()V"⟩
abbrev cX0_become : ByteArray := prog_2_method_2_code
def yX0_become : MethodName := ⟨RX0, "become", "(I)V"⟩
abbrev cX0_multiply : ByteArray := prog_2_method_3_code
def yX0_multiply : MethodName := ⟨RX0, "multiply", "(I)V"⟩
abbrev cX0_digit : ByteArray := prog_2_method_4_code
def yX0_digit : MethodName := ⟨RX0, "digit", "(I)I"⟩
def RX1 : String := "LightRows$Equations"
def TX1 : u_T := fun k => match k with
  | 0 => ("LightRows$Equations", "size", "I", true)
  | 1 => ("LightRows$Equations", "modulus", "I", true)
  | 2 => ("LightRows$Equations", "rows", "[[I", true)
  | 3 => ("LightRows$Equations", "rowOf", "[I", true)
  | 4 => ("LightRows$Equations", "quietPatterns", "[[I", true)
  | 5 => ("LightRows$Equations", "bound", "I", false)
  | _ => ("LightRows$Equations", "free", "I", false)
def tyX1 : Nat → FieldType := fun k => match k with
  | 0 => .int
  | 1 => .int
  | 2 => .array (.array .int)
  | 3 => .array .int
  | 4 => .array (.array .int)
  | 5 => .int
  | _ => .int
abbrev wsX10 : List Cond := u_ws RX1 TX1 7
theorem nmX1 : ∀ a, a < 7 → ∀ b, b < 7 → a ≠ b → (TX1 a).2.1 ≠ (TX1 b).2.1 := by decide +kernel
theorem tyX1_ok : ∀ k, k < 7 → parseFieldDescriptor (TX1 k).2.2.1 = some (tyX1 k) := by decide +kernel
abbrev cX1_init : ByteArray := prog_3_method_1_code
def yX1_init : MethodName := ⟨RX1, "<init>", "(II)V"⟩
abbrev cX1_take : ByteArray := prog_3_method_2_code
def yX1_take : MethodName := ⟨RX1, "take", "([I[I[I)V"⟩
abbrev cX1_reduce : ByteArray := prog_3_method_3_code
def yX1_reduce : MethodName := ⟨RX1, "reduce", "()V"⟩
abbrev cX1_boundLamps : ByteArray := prog_3_method_4_code
def yX1_boundLamps : MethodName := ⟨RX1, "boundLamps", "()I"⟩
abbrev cX1_freeLamps : ByteArray := prog_3_method_5_code
def yX1_freeLamps : MethodName := ⟨RX1, "freeLamps", "()I"⟩
abbrev cX1_agree : ByteArray := prog_3_method_6_code
def yX1_agree : MethodName := ⟨RX1, "agree", "()Z"⟩
abbrev cX1_pressesOf : ByteArray := prog_3_method_7_code
def yX1_pressesOf : MethodName := ⟨RX1, "pressesOf", "(I)I"⟩
abbrev cX1_quietPattern : ByteArray := prog_3_method_8_code
def yX1_quietPattern : MethodName := ⟨RX1, "quietPattern", "(I)[I"⟩
abbrev cX1_answersUpTo : ByteArray := prog_3_method_9_code
def yX1_answersUpTo : MethodName := ⟨RX1, "answersUpTo", "(I)I"⟩
abbrev cX1_unusedRowWith : ByteArray := prog_3_method_10_code
def yX1_unusedRowWith : MethodName := ⟨RX1, "unusedRowWith", "(I)I"⟩
abbrev cX1_swap : ByteArray := prog_3_method_11_code
def yX1_swap : MethodName := ⟨RX1, "swap", "(II)V"⟩
abbrev cX1_makeUnit : ByteArray := prog_3_method_12_code
def yX1_makeUnit : MethodName := ⟨RX1, "makeUnit", "([II)V"⟩
abbrev cX1_inverse : ByteArray := prog_3_method_13_code
def yX1_inverse : MethodName := ⟨RX1, "inverse", "(I)I"⟩
abbrev cX1_clearElsewhere : ByteArray := prog_3_method_14_code
def yX1_clearElsewhere : MethodName := ⟨RX1, "clearElsewhere", "(II)V"⟩
abbrev cX1_addMultiple : ByteArray := prog_3_method_15_code
def yX1_addMultiple : MethodName := ⟨RX1, "addMultiple", "([I[II)V"⟩
abbrev cX1_readQuietPatterns : ByteArray := prog_3_method_16_code
def yX1_readQuietPatterns : MethodName := ⟨RX1, "readQuietPatterns", "()V"⟩
abbrev cX1_readQuietPattern : ByteArray := prog_3_method_17_code
def yX1_readQuietPattern : MethodName := ⟨RX1, "readQuietPattern", "([II)V"⟩
def RX2 : String := "LightRows$Search"
def TX2 : u_T := fun k => match k with
  | 0 => ("LightRows$Search", "size", "I", true)
  | 1 => ("LightRows$Search", "modulus", "I", true)
  | 2 => ("LightRows$Search", "tried", "[I", true)
  | 3 => ("LightRows$Search", "least", "[I", true)
  | 4 => ("LightRows$Search", "turns", "[I", true)
  | _ => ("LightRows$Search", "total", "I", false)
def tyX2 : Nat → FieldType := fun k => match k with
  | 0 => .int
  | 1 => .int
  | 2 => .array .int
  | 3 => .array .int
  | 4 => .array .int
  | _ => .int
abbrev wsX20 : List Cond := u_ws RX2 TX2 6
theorem nmX2 : ∀ a, a < 6 → ∀ b, b < 6 → a ≠ b → (TX2 a).2.1 ≠ (TX2 b).2.1 := by decide +kernel
theorem tyX2_ok : ∀ k, k < 6 → parseFieldDescriptor (TX2 k).2.2.1 = some (tyX2 k) := by decide +kernel
abbrev cX2_init : ByteArray := prog_4_method_1_code
def yX2_init : MethodName := ⟨RX2, "<init>", "(II)V"⟩
abbrev cX2_leastTotal : ByteArray := prog_4_method_2_code
def yX2_leastTotal : MethodName := ⟨RX2, "leastTotal", "()I"⟩
abbrev cX2_leastPresses : ByteArray := prog_4_method_3_code
def yX2_leastPresses : MethodName := ⟨RX2, "leastPresses", "(I)I"⟩
abbrev cX2_run : ByteArray := prog_4_method_4_code
def yX2_run : MethodName := ⟨RX2, "run", "(LLightRows$Equations;)V"⟩
abbrev cX2_begin : ByteArray := prog_4_method_5_code
def yX2_begin : MethodName := ⟨RX2, "begin", "(LLightRows$Equations;)V"⟩
abbrev cX2_advance : ByteArray := prog_4_method_6_code
def yX2_advance : MethodName := ⟨RX2, "advance", "(LLightRows$Equations;)V"⟩
abbrev cX2_addToTried : ByteArray := prog_4_method_7_code
def yX2_addToTried : MethodName := ⟨RX2, "addToTried", "([I)V"⟩
abbrev cX2_keepIfLess : ByteArray := prog_4_method_8_code
def yX2_keepIfLess : MethodName := ⟨RX2, "keepIfLess", "()V"⟩
abbrev cX2_totalTried : ByteArray := prog_4_method_9_code
def yX2_totalTried : MethodName := ⟨RX2, "totalTried", "()I"⟩
abbrev cX2_triedIsAhead : ByteArray := prog_4_method_10_code
def yX2_triedIsAhead : MethodName := ⟨RX2, "triedIsAhead", "()Z"⟩
abbrev cX2_keep : ByteArray := prog_4_method_11_code
def yX2_keep : MethodName := ⟨RX2, "keep", "(I)V"⟩
def RX3 : String := "LightRows"
def TX3 : u_T := fun k => match k with
  | 0 => ("LightRows", "lamps", "I", true)
  | 1 => ("LightRows", "states", "I", true)
  | 2 => ("LightRows", "now", "[I", true)
  | 3 => ("LightRows", "wanted", "[I", true)
  | 4 => ("LightRows", "touched", "[I", true)
  | 5 => ("LightRows", "equations", "LLightRows$Equations;", true)
  | 6 => ("LightRows", "search", "LLightRows$Search;", true)
  | 7 => ("LightRows", "decimal", "LLightRows$Decimal;", true)
  | 8 => ("LightRows", "worked", "Z", false)
  | _ => ("LightRows", "searched", "Z", false)
def tyX3 : Nat → FieldType := fun k => match k with
  | 0 => .int
  | 1 => .int
  | 2 => .array .int
  | 3 => .array .int
  | 4 => .array .int
  | 5 => .object "LightRows$Equations"
  | 6 => .object "LightRows$Search"
  | 7 => .object "LightRows$Decimal"
  | 8 => .boolean
  | _ => .boolean
abbrev wsX30 : List Cond := u_ws RX3 TX3 10
theorem nmX3 : ∀ a, a < 10 → ∀ b, b < 10 → a ≠ b → (TX3 a).2.1 ≠ (TX3 b).2.1 := by decide +kernel
theorem tyX3_ok : ∀ k, k < 10 → parseFieldDescriptor (TX3 k).2.2.1 = some (tyX3 k) := by decide +kernel
abbrev cX3_init : ByteArray := prog_1_method_1_code
def yX3_init : MethodName := ⟨RX3, "<init>", "(II)V"⟩
abbrev cX3_join : ByteArray := prog_1_method_2_code
def yX3_join : MethodName := ⟨RX3, "join", "(II)Z"⟩
abbrev cX3_self : ByteArray := prog_1_method_3_code
def yX3_self : MethodName := ⟨RX3, "self", "(IZ)Z"⟩
abbrev cX3_set : ByteArray := prog_1_method_4_code
def yX3_set : MethodName := ⟨RX3, "set", "(II)Z"⟩
abbrev cX3_want : ByteArray := prog_1_method_5_code
def yX3_want : MethodName := ⟨RX3, "want", "(II)Z"⟩
abbrev cX3_press : ByteArray := prog_1_method_6_code
def yX3_press : MethodName := ⟨RX3, "press", "(II)Z"⟩
abbrev cX3_at : ByteArray := prog_1_method_7_code
def yX3_at : MethodName := ⟨RX3, "at", "(I)I"⟩
abbrev cX3_apart : ByteArray := prog_1_method_8_code
def yX3_apart : MethodName := ⟨RX3, "apart", "()I"⟩
abbrev cX3_rank : ByteArray := prog_1_method_9_code
def yX3_rank : MethodName := ⟨RX3, "rank", "()I"⟩
abbrev cX3_solvable : ByteArray := prog_1_method_10_code
def yX3_solvable : MethodName := ⟨RX3, "solvable", "()Z"⟩
abbrev cX3_answer : ByteArray := prog_1_method_11_code
def yX3_answer : MethodName := ⟨RX3, "answer", "(I)I"⟩
abbrev cX3_quiet : ByteArray := prog_1_method_12_code
def yX3_quiet : MethodName := ⟨RX3, "quiet", "(II)I"⟩
abbrev cX3_count : ByteArray := prog_1_method_13_code
def yX3_count : MethodName := ⟨RX3, "count", "(I)I"⟩
abbrev cX3_fewest : ByteArray := prog_1_method_14_code
def yX3_fewest : MethodName := ⟨RX3, "fewest", "()I"⟩
abbrev cX3_best : ByteArray := prog_1_method_15_code
def yX3_best : MethodName := ⟨RX3, "best", "(I)I"⟩
abbrev cX3_alone : ByteArray := prog_1_method_16_code
def yX3_alone : MethodName := ⟨RX3, "alone", "(I)Z"⟩
abbrev cX3_clear : ByteArray := prog_1_method_17_code
def yX3_clear : MethodName := ⟨RX3, "clear", "()V"⟩
abbrev cX3_primeFor : ByteArray := prog_1_method_18_code
def yX3_primeFor : MethodName := ⟨RX3, "primeFor", "(I)I"⟩
abbrev cX3_mustExist : ByteArray := prog_1_method_19_code
def yX3_mustExist : MethodName := ⟨RX3, "mustExist", "(I)V"⟩
abbrev cX3_isState : ByteArray := prog_1_method_20_code
def yX3_isState : MethodName := ⟨RX3, "isState", "(I)Z"⟩
abbrev cX3_touches : ByteArray := prog_1_method_21_code
def yX3_touches : MethodName := ⟨RX3, "touches", "(II)Z"⟩
abbrev cX3_forget : ByteArray := prog_1_method_22_code
def yX3_forget : MethodName := ⟨RX3, "forget", "()V"⟩
abbrev cX3_work : ByteArray := prog_1_method_23_code
def yX3_work : MethodName := ⟨RX3, "work", "()V"⟩
abbrev cX3_seek : ByteArray := prog_1_method_24_code
def yX3_seek : MethodName := ⟨RX3, "seek", "()V"⟩
def RX4 : String := "LightRowsModel"
def TX4 : u_T := fun k => match k with
  | 0 => ("LightRowsModel", "thrown", "I", false)
  | 1 => ("LightRowsModel", "lamps", "I", true)
  | 2 => ("LightRowsModel", "p", "I", true)
  | 3 => ("LightRowsModel", "joined", "[Z", true)
  | 4 => ("LightRowsModel", "isNotSelf", "[Z", true)
  | 5 => ("LightRowsModel", "states", "[I", true)
  | 6 => ("LightRowsModel", "wanted", "[I", true)
  | 7 => ("LightRowsModel", "isKnown", "Z", false)
  | 8 => ("LightRowsModel", "rank", "I", false)
  | 9 => ("LightRowsModel", "rows", "[I", true)
  | 10 => ("LightRowsModel", "presses", "[I", true)
  | 11 => ("LightRowsModel", "heads", "[I", true)
  | 12 => ("LightRowsModel", "isBound", "[Z", true)
  | 13 => ("LightRowsModel", "rest", "[I", true)
  | 14 => ("LightRowsModel", "by", "[I", true)
  | 15 => ("LightRowsModel", "answer", "[I", true)
  | 16 => ("LightRowsModel", "quiet", "[I", true)
  | 17 => ("LightRowsModel", "best", "[I", true)
  | 18 => ("LightRowsModel", "tried", "[I", true)
  | _ => ("LightRowsModel", "digits", "[I", true)
def tyX4 : Nat → FieldType := fun k => match k with
  | 0 => .int
  | 1 => .int
  | 2 => .int
  | 3 => .array .boolean
  | 4 => .array .boolean
  | 5 => .array .int
  | 6 => .array .int
  | 7 => .boolean
  | 8 => .int
  | 9 => .array .int
  | 10 => .array .int
  | 11 => .array .int
  | 12 => .array .boolean
  | 13 => .array .int
  | 14 => .array .int
  | 15 => .array .int
  | 16 => .array .int
  | 17 => .array .int
  | 18 => .array .int
  | _ => .array .int
abbrev wsX40 : List Cond := u_ws RX4 TX4 20
theorem nmX4 : ∀ a, a < 20 → ∀ b, b < 20 → a ≠ b → (TX4 a).2.1 ≠ (TX4 b).2.1 := by decide +kernel
theorem tyX4_ok : ∀ k, k < 20 → parseFieldDescriptor (TX4 k).2.2.1 = some (tyX4 k) := by decide +kernel
abbrev cX4_init : ByteArray := prog_6_method_1_code
def yX4_init : MethodName := ⟨RX4, "<init>", "(II)V"⟩
abbrev cX4_thrown : ByteArray := prog_6_method_2_code
def yX4_thrown : MethodName := ⟨RX4, "thrown", "()I"⟩
abbrev cX4_fails : ByteArray := prog_6_method_3_code
def yX4_fails : MethodName := ⟨RX4, "fails", "(Z)Z"⟩
abbrev cX4_isLamp : ByteArray := prog_6_method_4_code
def yX4_isLamp : MethodName := ⟨RX4, "isLamp", "(I)Z"⟩
abbrev cX4_isState : ByteArray := prog_6_method_5_code
def yX4_isState : MethodName := ⟨RX4, "isState", "(I)Z"⟩
abbrev cX4_join : ByteArray := prog_6_method_6_code
def yX4_join : MethodName := ⟨RX4, "join", "(II)Z"⟩
abbrev cX4_self : ByteArray := prog_6_method_7_code
def yX4_self : MethodName := ⟨RX4, "self", "(IZ)Z"⟩
abbrev cX4_set : ByteArray := prog_6_method_8_code
def yX4_set : MethodName := ⟨RX4, "set", "(II)Z"⟩
abbrev cX4_want : ByteArray := prog_6_method_9_code
def yX4_want : MethodName := ⟨RX4, "want", "(II)Z"⟩
abbrev cX4_effect : ByteArray := prog_6_method_10_code
def yX4_effect : MethodName := ⟨RX4, "effect", "(II)I"⟩
abbrev cX4_press : ByteArray := prog_6_method_11_code
def yX4_press : MethodName := ⟨RX4, "press", "(II)Z"⟩
abbrev cX4_at : ByteArray := prog_6_method_12_code
def yX4_at : MethodName := ⟨RX4, "at", "(I)I"⟩
abbrev cX4_apart : ByteArray := prog_6_method_13_code
def yX4_apart : MethodName := ⟨RX4, "apart", "()I"⟩
abbrev cX4_clear : ByteArray := prog_6_method_14_code
def yX4_clear : MethodName := ⟨RX4, "clear", "()V"⟩
abbrev cX4_inverse : ByteArray := prog_6_method_15_code
def yX4_inverse : MethodName := ⟨RX4, "inverse", "(I)I"⟩
abbrev cX4_takeApart : ByteArray := prog_6_method_16_code
def yX4_takeApart : MethodName := ⟨RX4, "takeApart", "()V"⟩
abbrev cX4_left : ByteArray := prog_6_method_17_code
def yX4_left : MethodName := ⟨RX4, "left", "()I"⟩
abbrev cX4_know : ByteArray := prog_6_method_18_code
def yX4_know : MethodName := ⟨RX4, "know", "()V"⟩
abbrev cX4_rank : ByteArray := prog_6_method_19_code
def yX4_rank : MethodName := ⟨RX4, "rank", "()I"⟩
abbrev cX4_answers : ByteArray := prog_6_method_20_code
def yX4_answers : MethodName := ⟨RX4, "answers", "()Z"⟩
abbrev cX4_solvable : ByteArray := prog_6_method_21_code
def yX4_solvable : MethodName := ⟨RX4, "solvable", "()Z"⟩
abbrev cX4_answer : ByteArray := prog_6_method_22_code
def yX4_answer : MethodName := ⟨RX4, "answer", "(I)I"⟩
abbrev cX4_quiet : ByteArray := prog_6_method_23_code
def yX4_quiet : MethodName := ⟨RX4, "quiet", "(II)I"⟩
abbrev cX4_count : ByteArray := prog_6_method_24_code
def yX4_count : MethodName := ⟨RX4, "count", "(I)I"⟩
abbrev cX4_findBest : ByteArray := prog_6_method_25_code
def yX4_findBest : MethodName := ⟨RX4, "findBest", "()I"⟩
abbrev cX4_tryWay : ByteArray := prog_6_method_26_code
def yX4_tryWay : MethodName := ⟨RX4, "tryWay", "(I)I"⟩
abbrev cX4_isLess : ByteArray := prog_6_method_27_code
def yX4_isLess : MethodName := ⟨RX4, "isLess", "()Z"⟩
abbrev cX4_fewest : ByteArray := prog_6_method_28_code
def yX4_fewest : MethodName := ⟨RX4, "fewest", "()I"⟩
abbrev cX4_best : ByteArray := prog_6_method_29_code
def yX4_best : MethodName := ⟨RX4, "best", "(I)I"⟩
abbrev cX4_alone : ByteArray := prog_6_method_30_code
def yX4_alone : MethodName := ⟨RX4, "alone", "(I)Z"⟩
def RJx00060 : String := "java/lang/ArrayIndexOutOfBoundsException"
def TJx00060 : u_T := fun k => match k with
  | 0 => ("java/lang/Throwable", "cause", "Ljava/lang/Throwable;", false)
  | 1 => ("java/lang/Throwable", "stackTrace", "[Ljava/lang/StackTraceElement;", false)
  | 2 => ("java/lang/Throwable", "suppressedExceptions", "Ljava/util/List;", false)
  | 3 => ("java/lang/Throwable", "detailMessage", "Ljava/lang/String;", false)
  | 4 => ("java/lang/Throwable", "backtrace", "Ljava/lang/Object;", false)
  | _ => ("java/lang/Throwable", "depth", "I", false)
def tyJx00060 : Nat → FieldType := fun k => match k with
  | 0 => .object "java/lang/Throwable"
  | 1 => .array (.object "java/lang/StackTraceElement")
  | 2 => .object "java/util/List"
  | 3 => .object "java/lang/String"
  | 4 => .object "java/lang/Object"
  | _ => .int
abbrev wsJx000600 : List Cond := u_ws RJx00060 TJx00060 6
theorem nmJx00060 : ∀ a, a < 6 → ∀ b, b < 6 → a ≠ b → (TJx00060 a).2.1 ≠ (TJx00060 b).2.1 := by decide +kernel
theorem tyJx00060_ok : ∀ k, k < 6 → parseFieldDescriptor (TJx00060 k).2.2.1 = some (tyJx00060 k) := by decide +kernel
abbrev cJx00060_init_a7421 : ByteArray := prog_7_method_2_code
def yJx00060_init_a7421 : MethodName := ⟨RJx00060, "<init>", "(Ljava/lang/String;)V"⟩
def RJ9 : String := "java/lang/Math"
def TJ9 : u_T := fun k => match k with
  | _ => ("", "", "", false)
def tyJ9 : Nat → FieldType := fun k => match k with
  | _ => .int
abbrev wsJ90 : List Cond := u_ws RJ9 TJ9 0
theorem nmJ9 : ∀ a, a < 0 → ∀ b, b < 0 → a ≠ b → (TJ9 a).2.1 ≠ (TJ9 b).2.1 := by decide +kernel
theorem tyJ9_ok : ∀ k, k < 0 → parseFieldDescriptor (TJ9 k).2.2.1 = some (tyJ9 k) := by decide +kernel
abbrev cJ9_max_7cf53 : ByteArray := prog_10_method_65_code
def yJ9_max_7cf53 : MethodName := ⟨RJ9, "max", "(II)I"⟩
abbrev cJ9_min_7cf53 : ByteArray := prog_10_method_69_code
def yJ9_min_7cf53 : MethodName := ⟨RJ9, "min", "(II)I"⟩
def RJ0 : String := "java/lang/String"
def TJ0 : u_T := fun k => match k with
  | _ => ("", "", "", false)
def tyJ0 : Nat → FieldType := fun k => match k with
  | _ => .int
abbrev wsJ00 : List Cond := u_ws RJ0 TJ0 0
theorem nmJ0 : ∀ a, a < 0 → ∀ b, b < 0 → a ≠ b → (TJ0 a).2.1 ≠ (TJ0 b).2.1 := by decide +kernel
theorem tyJ0_ok : ∀ k, k < 0 → parseFieldDescriptor (TJ0 k).2.2.1 = some (tyJ0 k) := by decide +kernel
def RJ10 : String := "java/lang/System"
def TJ10 : u_T := fun k => match k with
  | _ => ("", "", "", false)
def tyJ10 : Nat → FieldType := fun k => match k with
  | _ => .int
abbrev wsJ100 : List Cond := u_ws RJ10 TJ10 0
theorem nmJ10 : ∀ a, a < 0 → ∀ b, b < 0 → a ≠ b → (TJ10 a).2.1 ≠ (TJ10 b).2.1 := by decide +kernel
theorem tyJ10_ok : ∀ k, k < 0 → parseFieldDescriptor (TJ10 k).2.2.1 = some (tyJ10 k) := by decide +kernel
def RL : String := "LightRowsLaw"
abbrev cL_cell : ByteArray := method_2_code
def yL_cell : MethodName := ⟨RL, "cell", "([II)I"⟩
abbrev cL_join : ByteArray := method_3_code
def yL_join : MethodName := ⟨RL, "join", "(LLightRows;II[J)I"⟩
abbrev cL_self : ByteArray := method_4_code
def yL_self : MethodName := ⟨RL, "self", "(LLightRows;IZ[J)I"⟩
abbrev cL_set : ByteArray := method_5_code
def yL_set : MethodName := ⟨RL, "set", "(LLightRows;II[J)I"⟩
abbrev cL_want : ByteArray := method_6_code
def yL_want : MethodName := ⟨RL, "want", "(LLightRows;II[J)I"⟩
abbrev cL_press : ByteArray := method_7_code
def yL_press : MethodName := ⟨RL, "press", "(LLightRows;II[J)I"⟩
abbrev cL_at : ByteArray := method_8_code
def yL_at : MethodName := ⟨RL, "at", "(LLightRows;I[J)I"⟩
abbrev cL_answer : ByteArray := method_9_code
def yL_answer : MethodName := ⟨RL, "answer", "(LLightRows;I[J)I"⟩
abbrev cL_quiet : ByteArray := method_10_code
def yL_quiet : MethodName := ⟨RL, "quiet", "(LLightRows;II[J)I"⟩
abbrev cL_best : ByteArray := method_11_code
def yL_best : MethodName := ⟨RL, "best", "(LLightRows;I[J)I"⟩
abbrev cL_alone : ByteArray := method_12_code
def yL_alone : MethodName := ⟨RL, "alone", "(LLightRows;I[J)I"⟩
abbrev cL_law : ByteArray := code
def yL_law : MethodName := ⟨RL, "law", "([I)Z"⟩
def wsX0_init : List Cond := .code yX0_init cX0_init 1 none :: ([.methodLink RX0 3 objectInit, .instanceMethod objectInit, .code objectInit ⟨#[0xb1]⟩ 1 none, .arrayClass .int, .fieldLink RX0 11 "LightRows$Decimal" "digits" "[I", .fieldLink RX0 15 "LightRows$Decimal" "length" "I"] ++ wsX00)
def wsX0_become : List Cond := .code yX0_become cX0_become 2 none :: ([.fieldLink RX0 11 "LightRows$Decimal" "digits" "[I", .fieldLink RX0 15 "LightRows$Decimal" "length" "I"] ++ wsX00)
def wsX0_multiply : List Cond := .code yX0_multiply cX0_multiply 5 none :: ([.fieldLink RX0 15 "LightRows$Decimal" "length" "I", .fieldLink RX0 11 "LightRows$Decimal" "digits" "[I"] ++ wsX00)
def wsX0_digit : List Cond := .code yX0_digit cX0_digit 2 (some .int) :: ([.fieldLink RX0 15 "LightRows$Decimal" "length" "I", .fieldLink RX0 11 "LightRows$Decimal" "digits" "[I"] ++ wsX00)
def wsX1_init : List Cond := .code yX1_init cX1_init 3 none :: ([.methodLink RX1 3 objectInit, .instanceMethod objectInit, .code objectInit ⟨#[0xb1]⟩ 1 none, .fieldLink RX1 9 "LightRows$Equations" "size" "I", .fieldLink RX1 15 "LightRows$Equations" "modulus" "I", .classLink RX1 18 "[[I", .arrayClass .int, .fieldLink RX1 20 "LightRows$Equations" "rows" "[[I", .fieldLink RX1 23 "LightRows$Equations" "rowOf" "[I", .fieldLink RX1 27 "LightRows$Equations" "quietPatterns" "[[I", .fieldLink RX1 30 "LightRows$Equations" "bound" "I", .fieldLink RX1 33 "LightRows$Equations" "free" "I"] ++ wsX10)
def wsX1_take : List Cond := .code yX1_take cX1_take 7 none :: ([.fieldLink RX1 9 "LightRows$Equations" "size" "I", .fieldLink RX1 20 "LightRows$Equations" "rows" "[[I", .fieldLink RX1 15 "LightRows$Equations" "modulus" "I"] ++ wsX10)
def wsX1_unusedRowWith : List Cond := .code yX1_unusedRowWith cX1_unusedRowWith 3 (some .int) :: ([.fieldLink RX1 30 "LightRows$Equations" "bound" "I", .fieldLink RX1 9 "LightRows$Equations" "size" "I", .fieldLink RX1 20 "LightRows$Equations" "rows" "[[I"] ++ wsX10)
def wsX1_swap : List Cond := .code yX1_swap cX1_swap 4 none :: ([.fieldLink RX1 20 "LightRows$Equations" "rows" "[[I"] ++ wsX10)
def wsX1_inverse : List Cond := .code yX1_inverse cX1_inverse 3 (some .int) :: ([.fieldLink RX1 15 "LightRows$Equations" "modulus" "I"] ++ wsX10)
def wsX1_makeUnit : List Cond := .code yX1_makeUnit cX1_makeUnit 5 none :: ([.fieldLink RX1 9 "LightRows$Equations" "size" "I", .fieldLink RX1 15 "LightRows$Equations" "modulus" "I", .methodLink RX1 58 yX1_inverse, .instanceMethod yX1_inverse, .selects RX1 yX1_inverse yX1_inverse, .initialized RX1, .code yX1_inverse cX1_inverse 3 (some .int)] ++ wsX10)
def wsX1_addMultiple : List Cond := .code yX1_addMultiple cX1_addMultiple 5 none :: ([.fieldLink RX1 9 "LightRows$Equations" "size" "I", .fieldLink RX1 15 "LightRows$Equations" "modulus" "I"] ++ wsX10)
def wsX1_clearElsewhere : List Cond := .code yX1_clearElsewhere cX1_clearElsewhere 4 none :: ([.fieldLink RX1 9 "LightRows$Equations" "size" "I", .fieldLink RX1 20 "LightRows$Equations" "rows" "[[I", .fieldLink RX1 15 "LightRows$Equations" "modulus" "I", .methodLink RX1 61 yX1_addMultiple, .instanceMethod yX1_addMultiple, .selects RX1 yX1_addMultiple yX1_addMultiple, .initialized RX1, .code yX1_addMultiple cX1_addMultiple 5 none] ++ wsX10)
def wsX1_readQuietPattern : List Cond := .code yX1_readQuietPattern cX1_readQuietPattern 5 none :: ([.fieldLink RX1 9 "LightRows$Equations" "size" "I", .fieldLink RX1 23 "LightRows$Equations" "rowOf" "[I", .fieldLink RX1 15 "LightRows$Equations" "modulus" "I", .fieldLink RX1 20 "LightRows$Equations" "rows" "[[I"] ++ wsX10)
def wsX1_readQuietPatterns : List Cond := .code yX1_readQuietPatterns cX1_readQuietPatterns 2 none :: ([.fieldLink RX1 33 "LightRows$Equations" "free" "I", .fieldLink RX1 9 "LightRows$Equations" "size" "I", .fieldLink RX1 23 "LightRows$Equations" "rowOf" "[I", .fieldLink RX1 27 "LightRows$Equations" "quietPatterns" "[[I", .methodLink RX1 65 yX1_readQuietPattern, .instanceMethod yX1_readQuietPattern, .selects RX1 yX1_readQuietPattern yX1_readQuietPattern, .initialized RX1, .code yX1_readQuietPattern cX1_readQuietPattern 5 none, .fieldLink RX1 15 "LightRows$Equations" "modulus" "I", .fieldLink RX1 20 "LightRows$Equations" "rows" "[[I"] ++ wsX10)
def wsX1_reduce_r1 : List Cond := [Cond.fieldLink RX1 30 "LightRows$Equations" "bound" "I", Cond.fieldLink RX1 9 "LightRows$Equations" "size" "I", Cond.fieldLink RX1 23 "LightRows$Equations" "rowOf" "[I", Cond.fieldLink RX1 20 "LightRows$Equations" "rows" "[[I", Cond.methodLink RX1 36 yX1_unusedRowWith, Cond.instanceMethod yX1_unusedRowWith, Cond.selects RX1 yX1_unusedRowWith yX1_unusedRowWith, Cond.initialized RX1, Cond.code yX1_unusedRowWith cX1_unusedRowWith 3 (some .int), Cond.methodLink RX1 40 yX1_swap, Cond.instanceMethod yX1_swap, Cond.selects RX1 yX1_swap yX1_swap, Cond.code yX1_swap cX1_swap 4 none, Cond.methodLink RX1 44 yX1_makeUnit, Cond.instanceMethod yX1_makeUnit, Cond.selects RX1 yX1_makeUnit yX1_makeUnit, Cond.code yX1_makeUnit cX1_makeUnit 5 none, Cond.fieldLink RX1 15 "LightRows$Equations" "modulus" "I", Cond.methodLink RX1 58 yX1_inverse, Cond.instanceMethod yX1_inverse, Cond.selects RX1 yX1_inverse yX1_inverse, Cond.code yX1_inverse cX1_inverse 3 (some .int), Cond.methodLink RX1 48 yX1_clearElsewhere, Cond.instanceMethod yX1_clearElsewhere]
def wsX1_reduce_r2 : List Cond := [Cond.selects RX1 yX1_clearElsewhere yX1_clearElsewhere, Cond.code yX1_clearElsewhere cX1_clearElsewhere 4 none, Cond.methodLink RX1 61 yX1_addMultiple, Cond.instanceMethod yX1_addMultiple, Cond.selects RX1 yX1_addMultiple yX1_addMultiple, Cond.code yX1_addMultiple cX1_addMultiple 5 none, Cond.methodLink RX1 51 yX1_readQuietPatterns, Cond.instanceMethod yX1_readQuietPatterns, Cond.selects RX1 yX1_readQuietPatterns yX1_readQuietPatterns, Cond.code yX1_readQuietPatterns cX1_readQuietPatterns 2 none, Cond.fieldLink RX1 33 "LightRows$Equations" "free" "I", Cond.fieldLink RX1 27 "LightRows$Equations" "quietPatterns" "[[I", Cond.methodLink RX1 65 yX1_readQuietPattern, Cond.instanceMethod yX1_readQuietPattern, Cond.selects RX1 yX1_readQuietPattern yX1_readQuietPattern, Cond.code yX1_readQuietPattern cX1_readQuietPattern 5 none]
def wsX1_reduce : List Cond := .code yX1_reduce cX1_reduce 3 none :: ((wsX1_reduce_r1 ++ wsX1_reduce_r2) ++ wsX10)
def wsX1_boundLamps : List Cond := .code yX1_boundLamps cX1_boundLamps 1 (some .int) :: ([.fieldLink RX1 30 "LightRows$Equations" "bound" "I"] ++ wsX10)
def wsX1_freeLamps : List Cond := .code yX1_freeLamps cX1_freeLamps 1 (some .int) :: ([.fieldLink RX1 33 "LightRows$Equations" "free" "I"] ++ wsX10)
def wsX1_agree : List Cond := .code yX1_agree cX1_agree 2 (some .boolean) :: ([.fieldLink RX1 30 "LightRows$Equations" "bound" "I", .fieldLink RX1 9 "LightRows$Equations" "size" "I", .fieldLink RX1 20 "LightRows$Equations" "rows" "[[I"] ++ wsX10)
def wsX1_pressesOf : List Cond := .code yX1_pressesOf cX1_pressesOf 3 (some .int) :: ([.fieldLink RX1 23 "LightRows$Equations" "rowOf" "[I", .fieldLink RX1 20 "LightRows$Equations" "rows" "[[I", .fieldLink RX1 9 "LightRows$Equations" "size" "I"] ++ wsX10)
def wsX1_quietPattern : List Cond := .code yX1_quietPattern cX1_quietPattern 2 (some (.array .int)) :: ([.fieldLink RX1 27 "LightRows$Equations" "quietPatterns" "[[I"] ++ wsX10)
def wsX1_answersUpTo : List Cond := .code yX1_answersUpTo cX1_answersUpTo 4 (some .int) :: ([.fieldLink RX1 33 "LightRows$Equations" "free" "I", .fieldLink RX1 15 "LightRows$Equations" "modulus" "I", .methodLink RX1 54 yX1_agree, .instanceMethod yX1_agree, .selects RX1 yX1_agree yX1_agree, .initialized RX1, .code yX1_agree cX1_agree 2 (some .boolean), .fieldLink RX1 30 "LightRows$Equations" "bound" "I", .fieldLink RX1 9 "LightRows$Equations" "size" "I", .fieldLink RX1 20 "LightRows$Equations" "rows" "[[I"] ++ wsX10)
def wsX2_init : List Cond := .code yX2_init cX2_init 3 none :: ([.methodLink RX2 3 objectInit, .instanceMethod objectInit, .code objectInit ⟨#[0xb1]⟩ 1 none, .fieldLink RX2 9 "LightRows$Search" "size" "I", .fieldLink RX2 15 "LightRows$Search" "modulus" "I", .arrayClass .int, .fieldLink RX2 18 "LightRows$Search" "tried" "[I", .fieldLink RX2 22 "LightRows$Search" "least" "[I", .fieldLink RX2 25 "LightRows$Search" "turns" "[I", .fieldLink RX2 28 "LightRows$Search" "total" "I"] ++ wsX20)
def wsX2_leastTotal : List Cond := .code yX2_leastTotal cX2_leastTotal 1 (some .int) :: ([.fieldLink RX2 28 "LightRows$Search" "total" "I"] ++ wsX20)
def wsX2_leastPresses : List Cond := .code yX2_leastPresses cX2_leastPresses 2 (some .int) :: ([.fieldLink RX2 22 "LightRows$Search" "least" "[I"] ++ wsX20)
def wsX2_totalTried : List Cond := .code yX2_totalTried cX2_totalTried 3 (some .int) :: ([.fieldLink RX2 9 "LightRows$Search" "size" "I", .fieldLink RX2 18 "LightRows$Search" "tried" "[I"] ++ wsX20)
def wsX2_keep : List Cond := .code yX2_keep cX2_keep 2 none :: ([.fieldLink RX2 28 "LightRows$Search" "total" "I", .fieldLink RX2 18 "LightRows$Search" "tried" "[I", .fieldLink RX2 22 "LightRows$Search" "least" "[I", .fieldLink RX2 9 "LightRows$Search" "size" "I", .methodLink RX2 73 arraycopyName, .native arraycopyName, .static arraycopyName, .initialized "java/lang/System"] ++ wsX20)
def wsX2_begin_r1 : List Cond := [Cond.fieldLink RX2 9 "LightRows$Search" "size" "I", Cond.fieldLink RX2 18 "LightRows$Search" "tried" "[I", Cond.fieldLink RX2 25 "LightRows$Search" "turns" "[I", Cond.methodLink RX2 47 yX1_pressesOf, Cond.instanceMethod yX1_pressesOf, Cond.selects RX1 yX1_pressesOf yX1_pressesOf, Cond.initialized RX1, Cond.code yX1_pressesOf cX1_pressesOf 3 (some .int), Cond.fieldLink RX1 23 "LightRows$Equations" "rowOf" "[I", Cond.fieldLink RX1 20 "LightRows$Equations" "rows" "[[I", Cond.fieldLink RX1 9 "LightRows$Equations" "size" "I", Cond.methodLink RX2 50 yX2_totalTried, Cond.instanceMethod yX2_totalTried, Cond.selects RX2 yX2_totalTried yX2_totalTried, Cond.initialized RX2, Cond.code yX2_totalTried cX2_totalTried 3 (some .int), Cond.methodLink RX2 54 yX2_keep, Cond.instanceMethod yX2_keep, Cond.selects RX2 yX2_keep yX2_keep, Cond.code yX2_keep cX2_keep 2 none, Cond.fieldLink RX2 28 "LightRows$Search" "total" "I", Cond.fieldLink RX2 22 "LightRows$Search" "least" "[I", Cond.methodLink RX2 73 arraycopyName, Cond.native arraycopyName]
def wsX2_begin_r2 : List Cond := [Cond.static arraycopyName, Cond.initialized "java/lang/System"]
def wsX2_begin : List Cond := .code yX2_begin cX2_begin 3 none :: ((wsX2_begin_r1 ++ wsX2_begin_r2) ++ wsX20 ++ wsX10)
def wsX2_addToTried : List Cond := .code yX2_addToTried cX2_addToTried 4 none :: ([.fieldLink RX2 9 "LightRows$Search" "size" "I", .fieldLink RX2 18 "LightRows$Search" "tried" "[I", .fieldLink RX2 15 "LightRows$Search" "modulus" "I"] ++ wsX20)
def wsX2_advance : List Cond := .code yX2_advance cX2_advance 3 none :: ([.fieldLink RX2 25 "LightRows$Search" "turns" "[I", .fieldLink RX2 15 "LightRows$Search" "modulus" "I", .methodLink RX2 58 yX1_freeLamps, .instanceMethod yX1_freeLamps, .selects RX1 yX1_freeLamps yX1_freeLamps, .initialized RX1, .code yX1_freeLamps cX1_freeLamps 1 (some .int), .fieldLink RX1 33 "LightRows$Equations" "free" "I", .methodLink RX2 61 yX1_quietPattern, .instanceMethod yX1_quietPattern, .selects RX1 yX1_quietPattern yX1_quietPattern, .code yX1_quietPattern cX1_quietPattern 2 (some (.array .int)), .fieldLink RX1 27 "LightRows$Equations" "quietPatterns" "[[I", .methodLink RX2 65 yX2_addToTried, .instanceMethod yX2_addToTried, .selects RX2 yX2_addToTried yX2_addToTried, .initialized RX2, .code yX2_addToTried cX2_addToTried 4 none, .fieldLink RX2 9 "LightRows$Search" "size" "I", .fieldLink RX2 18 "LightRows$Search" "tried" "[I"] ++ wsX20 ++ wsX10)
def wsX2_triedIsAhead : List Cond := .code yX2_triedIsAhead cX2_triedIsAhead 2 (some .boolean) :: ([.fieldLink RX2 9 "LightRows$Search" "size" "I", .fieldLink RX2 18 "LightRows$Search" "tried" "[I", .fieldLink RX2 22 "LightRows$Search" "least" "[I"] ++ wsX20)
def wsX2_keepIfLess : List Cond := .code yX2_keepIfLess cX2_keepIfLess 2 none :: ([.fieldLink RX2 28 "LightRows$Search" "total" "I", .methodLink RX2 50 yX2_totalTried, .instanceMethod yX2_totalTried, .selects RX2 yX2_totalTried yX2_totalTried, .initialized RX2, .code yX2_totalTried cX2_totalTried 3 (some .int), .fieldLink RX2 9 "LightRows$Search" "size" "I", .fieldLink RX2 18 "LightRows$Search" "tried" "[I", .methodLink RX2 69 yX2_triedIsAhead, .instanceMethod yX2_triedIsAhead, .selects RX2 yX2_triedIsAhead yX2_triedIsAhead, .code yX2_triedIsAhead cX2_triedIsAhead 2 (some .boolean), .fieldLink RX2 22 "LightRows$Search" "least" "[I", .methodLink RX2 54 yX2_keep, .instanceMethod yX2_keep, .selects RX2 yX2_keep yX2_keep, .code yX2_keep cX2_keep 2 none, .methodLink RX2 73 arraycopyName, .native arraycopyName, .static arraycopyName, .initialized "java/lang/System"] ++ wsX20)
def wsX2_run_r1 : List Cond := [Cond.fieldLink RX2 28 "LightRows$Search" "total" "I", Cond.methodLink RX2 31 yX1_answersUpTo, Cond.instanceMethod yX1_answersUpTo, Cond.selects RX1 yX1_answersUpTo yX1_answersUpTo, Cond.initialized RX1, Cond.code yX1_answersUpTo cX1_answersUpTo 4 (some .int), Cond.fieldLink RX1 33 "LightRows$Equations" "free" "I", Cond.fieldLink RX1 15 "LightRows$Equations" "modulus" "I", Cond.methodLink RX1 54 yX1_agree, Cond.instanceMethod yX1_agree, Cond.selects RX1 yX1_agree yX1_agree, Cond.code yX1_agree cX1_agree 2 (some .boolean), Cond.fieldLink RX1 30 "LightRows$Equations" "bound" "I", Cond.fieldLink RX1 9 "LightRows$Equations" "size" "I", Cond.fieldLink RX1 20 "LightRows$Equations" "rows" "[[I", Cond.methodLink RX2 37 yX2_begin, Cond.instanceMethod yX2_begin, Cond.selects RX2 yX2_begin yX2_begin, Cond.initialized RX2, Cond.code yX2_begin cX2_begin 3 none, Cond.fieldLink RX2 9 "LightRows$Search" "size" "I", Cond.fieldLink RX2 18 "LightRows$Search" "tried" "[I", Cond.fieldLink RX2 25 "LightRows$Search" "turns" "[I", Cond.methodLink RX2 47 yX1_pressesOf]
def wsX2_run_r2 : List Cond := [Cond.instanceMethod yX1_pressesOf, Cond.selects RX1 yX1_pressesOf yX1_pressesOf, Cond.code yX1_pressesOf cX1_pressesOf 3 (some .int), Cond.fieldLink RX1 23 "LightRows$Equations" "rowOf" "[I", Cond.methodLink RX2 50 yX2_totalTried, Cond.instanceMethod yX2_totalTried, Cond.selects RX2 yX2_totalTried yX2_totalTried, Cond.code yX2_totalTried cX2_totalTried 3 (some .int), Cond.methodLink RX2 54 yX2_keep, Cond.instanceMethod yX2_keep, Cond.selects RX2 yX2_keep yX2_keep, Cond.code yX2_keep cX2_keep 2 none, Cond.fieldLink RX2 22 "LightRows$Search" "least" "[I", Cond.methodLink RX2 73 arraycopyName, Cond.native arraycopyName, Cond.static arraycopyName, Cond.initialized "java/lang/System", Cond.methodLink RX2 41 yX2_advance, Cond.instanceMethod yX2_advance, Cond.selects RX2 yX2_advance yX2_advance, Cond.code yX2_advance cX2_advance 3 none, Cond.fieldLink RX2 15 "LightRows$Search" "modulus" "I", Cond.methodLink RX2 58 yX1_freeLamps, Cond.instanceMethod yX1_freeLamps]
def wsX2_run_r3 : List Cond := [Cond.selects RX1 yX1_freeLamps yX1_freeLamps, Cond.code yX1_freeLamps cX1_freeLamps 1 (some .int), Cond.methodLink RX2 61 yX1_quietPattern, Cond.instanceMethod yX1_quietPattern, Cond.selects RX1 yX1_quietPattern yX1_quietPattern, Cond.code yX1_quietPattern cX1_quietPattern 2 (some (.array .int)), Cond.fieldLink RX1 27 "LightRows$Equations" "quietPatterns" "[[I", Cond.methodLink RX2 65 yX2_addToTried, Cond.instanceMethod yX2_addToTried, Cond.selects RX2 yX2_addToTried yX2_addToTried, Cond.code yX2_addToTried cX2_addToTried 4 none, Cond.methodLink RX2 44 yX2_keepIfLess, Cond.instanceMethod yX2_keepIfLess, Cond.selects RX2 yX2_keepIfLess yX2_keepIfLess, Cond.code yX2_keepIfLess cX2_keepIfLess 2 none, Cond.methodLink RX2 69 yX2_triedIsAhead, Cond.instanceMethod yX2_triedIsAhead, Cond.selects RX2 yX2_triedIsAhead yX2_triedIsAhead, Cond.code yX2_triedIsAhead cX2_triedIsAhead 2 (some .boolean)]
def wsX2_run : List Cond := .code yX2_run cX2_run 4 none :: ((wsX2_run_r1 ++ (wsX2_run_r2 ++ wsX2_run_r3)) ++ wsX20 ++ wsX10)
def wsX3_primeFor : List Cond := .code yX3_primeFor cX3_primeFor 1 (some .int) :: ([])
def wsX3_init_r1 : List Cond := [Cond.methodLink RX3 1 objectInit, Cond.instanceMethod objectInit, Cond.code objectInit ⟨#[0xb1]⟩ 1 none, Cond.methodLink RX3 9 Lib.Math.min.name, Cond.static Lib.Math.min.name, Cond.initialized "java/lang/Math", Cond.code Lib.Math.min.name Lib.Math.min.code 2 (some .int), Cond.methodLink RX3 15 Lib.Math.max.name, Cond.static Lib.Math.max.name, Cond.code Lib.Math.max.name Lib.Math.max.code 2 (some .int), Cond.fieldLink RX3 18 "LightRows" "lamps" "I", Cond.fieldLink RX3 26 "LightRows" "states" "I", Cond.arrayClass .int, Cond.fieldLink RX3 29 "LightRows" "now" "[I", Cond.fieldLink RX3 33 "LightRows" "wanted" "[I", Cond.fieldLink RX3 36 "LightRows" "touched" "[I", Cond.classLink RX3 39 RX1, Cond.instantiable RX1 7, Cond.initialized RX1, Cond.fieldLink RX3 44 "LightRows" "equations" "LLightRows$Equations;", Cond.classLink RX3 48 RX2, Cond.instantiable RX2 6, Cond.initialized RX2, Cond.fieldLink RX3 51 "LightRows" "search" "LLightRows$Search;"]
def wsX3_init_r2 : List Cond := [Cond.classLink RX3 55 RX0, Cond.instantiable RX0 2, Cond.initialized RX0, Cond.fieldLink RX3 58 "LightRows" "decimal" "LLightRows$Decimal;", Cond.fieldLink RX3 62 "LightRows" "worked" "Z", Cond.fieldLink RX3 66 "LightRows" "searched" "Z", Cond.methodLink RX3 22 yX3_primeFor, Cond.static yX3_primeFor, Cond.initialized RX3, Cond.code yX3_primeFor cX3_primeFor 1 (some .int), Cond.methodLink RX3 41 yX1_init, Cond.instanceMethod yX1_init, Cond.code yX1_init cX1_init 3 none, Cond.methodLink RX1 3 objectInit, Cond.fieldLink RX1 9 "LightRows$Equations" "size" "I", Cond.fieldLink RX1 15 "LightRows$Equations" "modulus" "I", Cond.classLink RX1 18 "[[I", Cond.fieldLink RX1 20 "LightRows$Equations" "rows" "[[I", Cond.fieldLink RX1 23 "LightRows$Equations" "rowOf" "[I", Cond.fieldLink RX1 27 "LightRows$Equations" "quietPatterns" "[[I", Cond.fieldLink RX1 30 "LightRows$Equations" "bound" "I", Cond.fieldLink RX1 33 "LightRows$Equations" "free" "I", Cond.methodLink RX3 50 yX2_init, Cond.instanceMethod yX2_init]
def wsX3_init_r3 : List Cond := [Cond.code yX2_init cX2_init 3 none, Cond.methodLink RX2 3 objectInit, Cond.fieldLink RX2 9 "LightRows$Search" "size" "I", Cond.fieldLink RX2 15 "LightRows$Search" "modulus" "I", Cond.fieldLink RX2 18 "LightRows$Search" "tried" "[I", Cond.fieldLink RX2 22 "LightRows$Search" "least" "[I", Cond.fieldLink RX2 25 "LightRows$Search" "turns" "[I", Cond.fieldLink RX2 28 "LightRows$Search" "total" "I", Cond.methodLink RX3 57 yX0_init, Cond.instanceMethod yX0_init, Cond.code yX0_init cX0_init 1 none, Cond.methodLink RX0 3 objectInit, Cond.fieldLink RX0 11 "LightRows$Decimal" "digits" "[I", Cond.fieldLink RX0 15 "LightRows$Decimal" "length" "I"]
def wsX3_init : List Cond := .code yX3_init cX3_init 4 none :: ((wsX3_init_r1 ++ (wsX3_init_r2 ++ wsX3_init_r3)) ++ wsX30 ++ wsX10 ++ wsX20 ++ wsX00)
def wsX3_mustExist : List Cond := .code yX3_mustExist cX3_mustExist 2 none :: ([.fieldLink RX3 18 "LightRows" "lamps" "I", .classLink RX3 123 RJx00060, .instantiable RJx00060 6, .initialized RJx00060] ++ wsX30 ++ wsJx000600)
def wsX3_touches : List Cond := .code yX3_touches cX3_touches 3 (some .boolean) :: ([.fieldLink RX3 36 "LightRows" "touched" "[I"] ++ wsX30)
def wsX3_forget : List Cond := .code yX3_forget cX3_forget 1 none :: ([.fieldLink RX3 62 "LightRows" "worked" "Z", .fieldLink RX3 66 "LightRows" "searched" "Z"] ++ wsX30)
def wsX3_join : List Cond := .code yX3_join cX3_join 3 (some .boolean) :: ([.fieldLink RX3 36 "LightRows" "touched" "[I", .methodLink RX3 69 yX3_mustExist, .instanceMethod yX3_mustExist, .selects RX3 yX3_mustExist yX3_mustExist, .initialized RX3, .code yX3_mustExist cX3_mustExist 2 none, .fieldLink RX3 18 "LightRows" "lamps" "I", .classLink RX3 123 RJx00060, .instantiable RJx00060 6, .initialized RJx00060, .methodLink RX3 73 yX3_touches, .instanceMethod yX3_touches, .selects RX3 yX3_touches yX3_touches, .code yX3_touches cX3_touches 3 (some .boolean), .methodLink RX3 77 yX3_forget, .instanceMethod yX3_forget, .selects RX3 yX3_forget yX3_forget, .code yX3_forget cX3_forget 1 none, .fieldLink RX3 62 "LightRows" "worked" "Z", .fieldLink RX3 66 "LightRows" "searched" "Z"] ++ wsX30 ++ wsJx000600)
def wsX3_self : List Cond := .code yX3_self cX3_self 3 (some .boolean) :: ([.fieldLink RX3 36 "LightRows" "touched" "[I", .methodLink RX3 69 yX3_mustExist, .instanceMethod yX3_mustExist, .selects RX3 yX3_mustExist yX3_mustExist, .initialized RX3, .code yX3_mustExist cX3_mustExist 2 none, .fieldLink RX3 18 "LightRows" "lamps" "I", .classLink RX3 123 RJx00060, .instantiable RJx00060 6, .initialized RJx00060, .methodLink RX3 73 yX3_touches, .instanceMethod yX3_touches, .selects RX3 yX3_touches yX3_touches, .code yX3_touches cX3_touches 3 (some .boolean), .methodLink RX3 77 yX3_forget, .instanceMethod yX3_forget, .selects RX3 yX3_forget yX3_forget, .code yX3_forget cX3_forget 1 none, .fieldLink RX3 62 "LightRows" "worked" "Z", .fieldLink RX3 66 "LightRows" "searched" "Z"] ++ wsX30 ++ wsJx000600)
def wsX3_isState : List Cond := .code yX3_isState cX3_isState 2 (some .boolean) :: ([.fieldLink RX3 26 "LightRows" "states" "I"] ++ wsX30)
def wsX3_set : List Cond := .code yX3_set cX3_set 3 (some .boolean) :: ([.fieldLink RX3 29 "LightRows" "now" "[I", .methodLink RX3 69 yX3_mustExist, .instanceMethod yX3_mustExist, .selects RX3 yX3_mustExist yX3_mustExist, .initialized RX3, .code yX3_mustExist cX3_mustExist 2 none, .fieldLink RX3 18 "LightRows" "lamps" "I", .classLink RX3 123 RJx00060, .instantiable RJx00060 6, .initialized RJx00060, .methodLink RX3 80 yX3_isState, .instanceMethod yX3_isState, .selects RX3 yX3_isState yX3_isState, .code yX3_isState cX3_isState 2 (some .boolean), .fieldLink RX3 26 "LightRows" "states" "I", .methodLink RX3 77 yX3_forget, .instanceMethod yX3_forget, .selects RX3 yX3_forget yX3_forget, .code yX3_forget cX3_forget 1 none, .fieldLink RX3 62 "LightRows" "worked" "Z", .fieldLink RX3 66 "LightRows" "searched" "Z"] ++ wsX30 ++ wsJx000600)
def wsX3_want : List Cond := .code yX3_want cX3_want 3 (some .boolean) :: ([.fieldLink RX3 33 "LightRows" "wanted" "[I", .methodLink RX3 69 yX3_mustExist, .instanceMethod yX3_mustExist, .selects RX3 yX3_mustExist yX3_mustExist, .initialized RX3, .code yX3_mustExist cX3_mustExist 2 none, .fieldLink RX3 18 "LightRows" "lamps" "I", .classLink RX3 123 RJx00060, .instantiable RJx00060 6, .initialized RJx00060, .methodLink RX3 80 yX3_isState, .instanceMethod yX3_isState, .selects RX3 yX3_isState yX3_isState, .code yX3_isState cX3_isState 2 (some .boolean), .fieldLink RX3 26 "LightRows" "states" "I", .methodLink RX3 77 yX3_forget, .instanceMethod yX3_forget, .selects RX3 yX3_forget yX3_forget, .code yX3_forget cX3_forget 1 none, .fieldLink RX3 62 "LightRows" "worked" "Z", .fieldLink RX3 66 "LightRows" "searched" "Z"] ++ wsX30 ++ wsJx000600)
def wsX3_press : List Cond := .code yX3_press cX3_press 4 (some .boolean) :: ([.fieldLink RX3 18 "LightRows" "lamps" "I", .fieldLink RX3 29 "LightRows" "now" "[I", .fieldLink RX3 26 "LightRows" "states" "I", .methodLink RX3 69 yX3_mustExist, .instanceMethod yX3_mustExist, .selects RX3 yX3_mustExist yX3_mustExist, .initialized RX3, .code yX3_mustExist cX3_mustExist 2 none, .classLink RX3 123 RJx00060, .instantiable RJx00060 6, .initialized RJx00060, .methodLink RX3 73 yX3_touches, .instanceMethod yX3_touches, .selects RX3 yX3_touches yX3_touches, .code yX3_touches cX3_touches 3 (some .boolean), .fieldLink RX3 36 "LightRows" "touched" "[I", .methodLink RX3 77 yX3_forget, .instanceMethod yX3_forget, .selects RX3 yX3_forget yX3_forget, .code yX3_forget cX3_forget 1 none, .fieldLink RX3 62 "LightRows" "worked" "Z", .fieldLink RX3 66 "LightRows" "searched" "Z"] ++ wsX30 ++ wsJx000600)
def wsX3_at : List Cond := .code yX3_at cX3_at 2 (some .int) :: ([.fieldLink RX3 29 "LightRows" "now" "[I", .methodLink RX3 69 yX3_mustExist, .instanceMethod yX3_mustExist, .selects RX3 yX3_mustExist yX3_mustExist, .initialized RX3, .code yX3_mustExist cX3_mustExist 2 none, .fieldLink RX3 18 "LightRows" "lamps" "I", .classLink RX3 123 RJx00060, .instantiable RJx00060 6, .initialized RJx00060] ++ wsX30 ++ wsJx000600)
def wsX3_apart : List Cond := .code yX3_apart cX3_apart 3 (some .int) :: ([.fieldLink RX3 18 "LightRows" "lamps" "I", .fieldLink RX3 29 "LightRows" "now" "[I", .fieldLink RX3 33 "LightRows" "wanted" "[I"] ++ wsX30)
def wsX3_work_r1 : List Cond := [Cond.fieldLink RX3 62 "LightRows" "worked" "Z", Cond.fieldLink RX3 44 "LightRows" "equations" "LLightRows$Equations;", Cond.fieldLink RX3 36 "LightRows" "touched" "[I", Cond.fieldLink RX3 29 "LightRows" "now" "[I", Cond.fieldLink RX3 33 "LightRows" "wanted" "[I", Cond.methodLink RX3 130 yX1_take, Cond.instanceMethod yX1_take, Cond.selects RX1 yX1_take yX1_take, Cond.initialized RX1, Cond.code yX1_take cX1_take 7 none, Cond.fieldLink RX1 9 "LightRows$Equations" "size" "I", Cond.fieldLink RX1 20 "LightRows$Equations" "rows" "[[I", Cond.fieldLink RX1 15 "LightRows$Equations" "modulus" "I", Cond.methodLink RX3 134 yX1_reduce, Cond.instanceMethod yX1_reduce, Cond.selects RX1 yX1_reduce yX1_reduce, Cond.code yX1_reduce cX1_reduce 3 none, Cond.fieldLink RX1 30 "LightRows$Equations" "bound" "I", Cond.fieldLink RX1 23 "LightRows$Equations" "rowOf" "[I", Cond.methodLink RX1 36 yX1_unusedRowWith, Cond.instanceMethod yX1_unusedRowWith, Cond.selects RX1 yX1_unusedRowWith yX1_unusedRowWith, Cond.code yX1_unusedRowWith cX1_unusedRowWith 3 (some .int), Cond.methodLink RX1 40 yX1_swap]
def wsX3_work_r2 : List Cond := [Cond.instanceMethod yX1_swap, Cond.selects RX1 yX1_swap yX1_swap, Cond.code yX1_swap cX1_swap 4 none, Cond.methodLink RX1 44 yX1_makeUnit, Cond.instanceMethod yX1_makeUnit, Cond.selects RX1 yX1_makeUnit yX1_makeUnit, Cond.code yX1_makeUnit cX1_makeUnit 5 none, Cond.methodLink RX1 58 yX1_inverse, Cond.instanceMethod yX1_inverse, Cond.selects RX1 yX1_inverse yX1_inverse, Cond.code yX1_inverse cX1_inverse 3 (some .int), Cond.methodLink RX1 48 yX1_clearElsewhere, Cond.instanceMethod yX1_clearElsewhere, Cond.selects RX1 yX1_clearElsewhere yX1_clearElsewhere, Cond.code yX1_clearElsewhere cX1_clearElsewhere 4 none, Cond.methodLink RX1 61 yX1_addMultiple, Cond.instanceMethod yX1_addMultiple, Cond.selects RX1 yX1_addMultiple yX1_addMultiple, Cond.code yX1_addMultiple cX1_addMultiple 5 none, Cond.methodLink RX1 51 yX1_readQuietPatterns, Cond.instanceMethod yX1_readQuietPatterns, Cond.selects RX1 yX1_readQuietPatterns yX1_readQuietPatterns, Cond.code yX1_readQuietPatterns cX1_readQuietPatterns 2 none, Cond.fieldLink RX1 33 "LightRows$Equations" "free" "I"]
def wsX3_work_r3 : List Cond := [Cond.fieldLink RX1 27 "LightRows$Equations" "quietPatterns" "[[I", Cond.methodLink RX1 65 yX1_readQuietPattern, Cond.instanceMethod yX1_readQuietPattern, Cond.selects RX1 yX1_readQuietPattern yX1_readQuietPattern, Cond.code yX1_readQuietPattern cX1_readQuietPattern 5 none]
def wsX3_work : List Cond := .code yX3_work cX3_work 1 none :: ((wsX3_work_r1 ++ (wsX3_work_r2 ++ wsX3_work_r3)) ++ wsX30 ++ wsX10)
def wsX3_rank_r1 : List Cond := [Cond.fieldLink RX3 44 "LightRows" "equations" "LLightRows$Equations;", Cond.methodLink RX3 84 yX3_work, Cond.instanceMethod yX3_work, Cond.selects RX3 yX3_work yX3_work, Cond.initialized RX3, Cond.code yX3_work cX3_work 1 none, Cond.fieldLink RX3 62 "LightRows" "worked" "Z", Cond.fieldLink RX3 36 "LightRows" "touched" "[I", Cond.fieldLink RX3 29 "LightRows" "now" "[I", Cond.fieldLink RX3 33 "LightRows" "wanted" "[I", Cond.methodLink RX3 130 yX1_take, Cond.instanceMethod yX1_take, Cond.selects RX1 yX1_take yX1_take, Cond.initialized RX1, Cond.code yX1_take cX1_take 7 none, Cond.fieldLink RX1 9 "LightRows$Equations" "size" "I", Cond.fieldLink RX1 20 "LightRows$Equations" "rows" "[[I", Cond.fieldLink RX1 15 "LightRows$Equations" "modulus" "I", Cond.methodLink RX3 134 yX1_reduce, Cond.instanceMethod yX1_reduce, Cond.selects RX1 yX1_reduce yX1_reduce, Cond.code yX1_reduce cX1_reduce 3 none, Cond.fieldLink RX1 30 "LightRows$Equations" "bound" "I", Cond.fieldLink RX1 23 "LightRows$Equations" "rowOf" "[I"]
def wsX3_rank_r2 : List Cond := [Cond.methodLink RX1 36 yX1_unusedRowWith, Cond.instanceMethod yX1_unusedRowWith, Cond.selects RX1 yX1_unusedRowWith yX1_unusedRowWith, Cond.code yX1_unusedRowWith cX1_unusedRowWith 3 (some .int), Cond.methodLink RX1 40 yX1_swap, Cond.instanceMethod yX1_swap, Cond.selects RX1 yX1_swap yX1_swap, Cond.code yX1_swap cX1_swap 4 none, Cond.methodLink RX1 44 yX1_makeUnit, Cond.instanceMethod yX1_makeUnit, Cond.selects RX1 yX1_makeUnit yX1_makeUnit, Cond.code yX1_makeUnit cX1_makeUnit 5 none, Cond.methodLink RX1 58 yX1_inverse, Cond.instanceMethod yX1_inverse, Cond.selects RX1 yX1_inverse yX1_inverse, Cond.code yX1_inverse cX1_inverse 3 (some .int), Cond.methodLink RX1 48 yX1_clearElsewhere, Cond.instanceMethod yX1_clearElsewhere, Cond.selects RX1 yX1_clearElsewhere yX1_clearElsewhere, Cond.code yX1_clearElsewhere cX1_clearElsewhere 4 none, Cond.methodLink RX1 61 yX1_addMultiple, Cond.instanceMethod yX1_addMultiple, Cond.selects RX1 yX1_addMultiple yX1_addMultiple, Cond.code yX1_addMultiple cX1_addMultiple 5 none]
def wsX3_rank_r3 : List Cond := [Cond.methodLink RX1 51 yX1_readQuietPatterns, Cond.instanceMethod yX1_readQuietPatterns, Cond.selects RX1 yX1_readQuietPatterns yX1_readQuietPatterns, Cond.code yX1_readQuietPatterns cX1_readQuietPatterns 2 none, Cond.fieldLink RX1 33 "LightRows$Equations" "free" "I", Cond.fieldLink RX1 27 "LightRows$Equations" "quietPatterns" "[[I", Cond.methodLink RX1 65 yX1_readQuietPattern, Cond.instanceMethod yX1_readQuietPattern, Cond.selects RX1 yX1_readQuietPattern yX1_readQuietPattern, Cond.code yX1_readQuietPattern cX1_readQuietPattern 5 none, Cond.methodLink RX3 87 yX1_boundLamps, Cond.instanceMethod yX1_boundLamps, Cond.selects RX1 yX1_boundLamps yX1_boundLamps, Cond.code yX1_boundLamps cX1_boundLamps 1 (some .int)]
def wsX3_rank : List Cond := .code yX3_rank cX3_rank 1 (some .int) :: ((wsX3_rank_r1 ++ (wsX3_rank_r2 ++ wsX3_rank_r3)) ++ wsX30 ++ wsX10)
def wsX3_solvable_r1 : List Cond := [Cond.fieldLink RX3 44 "LightRows" "equations" "LLightRows$Equations;", Cond.methodLink RX3 84 yX3_work, Cond.instanceMethod yX3_work, Cond.selects RX3 yX3_work yX3_work, Cond.initialized RX3, Cond.code yX3_work cX3_work 1 none, Cond.fieldLink RX3 62 "LightRows" "worked" "Z", Cond.fieldLink RX3 36 "LightRows" "touched" "[I", Cond.fieldLink RX3 29 "LightRows" "now" "[I", Cond.fieldLink RX3 33 "LightRows" "wanted" "[I", Cond.methodLink RX3 130 yX1_take, Cond.instanceMethod yX1_take, Cond.selects RX1 yX1_take yX1_take, Cond.initialized RX1, Cond.code yX1_take cX1_take 7 none, Cond.fieldLink RX1 9 "LightRows$Equations" "size" "I", Cond.fieldLink RX1 20 "LightRows$Equations" "rows" "[[I", Cond.fieldLink RX1 15 "LightRows$Equations" "modulus" "I", Cond.methodLink RX3 134 yX1_reduce, Cond.instanceMethod yX1_reduce, Cond.selects RX1 yX1_reduce yX1_reduce, Cond.code yX1_reduce cX1_reduce 3 none, Cond.fieldLink RX1 30 "LightRows$Equations" "bound" "I", Cond.fieldLink RX1 23 "LightRows$Equations" "rowOf" "[I"]
def wsX3_solvable_r2 : List Cond := [Cond.methodLink RX1 36 yX1_unusedRowWith, Cond.instanceMethod yX1_unusedRowWith, Cond.selects RX1 yX1_unusedRowWith yX1_unusedRowWith, Cond.code yX1_unusedRowWith cX1_unusedRowWith 3 (some .int), Cond.methodLink RX1 40 yX1_swap, Cond.instanceMethod yX1_swap, Cond.selects RX1 yX1_swap yX1_swap, Cond.code yX1_swap cX1_swap 4 none, Cond.methodLink RX1 44 yX1_makeUnit, Cond.instanceMethod yX1_makeUnit, Cond.selects RX1 yX1_makeUnit yX1_makeUnit, Cond.code yX1_makeUnit cX1_makeUnit 5 none, Cond.methodLink RX1 58 yX1_inverse, Cond.instanceMethod yX1_inverse, Cond.selects RX1 yX1_inverse yX1_inverse, Cond.code yX1_inverse cX1_inverse 3 (some .int), Cond.methodLink RX1 48 yX1_clearElsewhere, Cond.instanceMethod yX1_clearElsewhere, Cond.selects RX1 yX1_clearElsewhere yX1_clearElsewhere, Cond.code yX1_clearElsewhere cX1_clearElsewhere 4 none, Cond.methodLink RX1 61 yX1_addMultiple, Cond.instanceMethod yX1_addMultiple, Cond.selects RX1 yX1_addMultiple yX1_addMultiple, Cond.code yX1_addMultiple cX1_addMultiple 5 none]
def wsX3_solvable_r3 : List Cond := [Cond.methodLink RX1 51 yX1_readQuietPatterns, Cond.instanceMethod yX1_readQuietPatterns, Cond.selects RX1 yX1_readQuietPatterns yX1_readQuietPatterns, Cond.code yX1_readQuietPatterns cX1_readQuietPatterns 2 none, Cond.fieldLink RX1 33 "LightRows$Equations" "free" "I", Cond.fieldLink RX1 27 "LightRows$Equations" "quietPatterns" "[[I", Cond.methodLink RX1 65 yX1_readQuietPattern, Cond.instanceMethod yX1_readQuietPattern, Cond.selects RX1 yX1_readQuietPattern yX1_readQuietPattern, Cond.code yX1_readQuietPattern cX1_readQuietPattern 5 none, Cond.methodLink RX3 91 yX1_agree, Cond.instanceMethod yX1_agree, Cond.selects RX1 yX1_agree yX1_agree, Cond.code yX1_agree cX1_agree 2 (some .boolean)]
def wsX3_solvable : List Cond := .code yX3_solvable cX3_solvable 1 (some .boolean) :: ((wsX3_solvable_r1 ++ (wsX3_solvable_r2 ++ wsX3_solvable_r3)) ++ wsX30 ++ wsX10)
def wsX3_answer_r1 : List Cond := [Cond.fieldLink RX3 44 "LightRows" "equations" "LLightRows$Equations;", Cond.methodLink RX3 69 yX3_mustExist, Cond.instanceMethod yX3_mustExist, Cond.selects RX3 yX3_mustExist yX3_mustExist, Cond.initialized RX3, Cond.code yX3_mustExist cX3_mustExist 2 none, Cond.fieldLink RX3 18 "LightRows" "lamps" "I", Cond.classLink RX3 123 RJx00060, Cond.instantiable RJx00060 6, Cond.initialized RJx00060, Cond.methodLink RX3 84 yX3_work, Cond.instanceMethod yX3_work, Cond.selects RX3 yX3_work yX3_work, Cond.code yX3_work cX3_work 1 none, Cond.fieldLink RX3 62 "LightRows" "worked" "Z", Cond.fieldLink RX3 36 "LightRows" "touched" "[I", Cond.fieldLink RX3 29 "LightRows" "now" "[I", Cond.fieldLink RX3 33 "LightRows" "wanted" "[I", Cond.methodLink RX3 130 yX1_take, Cond.instanceMethod yX1_take, Cond.selects RX1 yX1_take yX1_take, Cond.initialized RX1, Cond.code yX1_take cX1_take 7 none, Cond.fieldLink RX1 9 "LightRows$Equations" "size" "I"]
def wsX3_answer_r2 : List Cond := [Cond.fieldLink RX1 20 "LightRows$Equations" "rows" "[[I", Cond.fieldLink RX1 15 "LightRows$Equations" "modulus" "I", Cond.methodLink RX3 134 yX1_reduce, Cond.instanceMethod yX1_reduce, Cond.selects RX1 yX1_reduce yX1_reduce, Cond.code yX1_reduce cX1_reduce 3 none, Cond.fieldLink RX1 30 "LightRows$Equations" "bound" "I", Cond.fieldLink RX1 23 "LightRows$Equations" "rowOf" "[I", Cond.methodLink RX1 36 yX1_unusedRowWith, Cond.instanceMethod yX1_unusedRowWith, Cond.selects RX1 yX1_unusedRowWith yX1_unusedRowWith, Cond.code yX1_unusedRowWith cX1_unusedRowWith 3 (some .int), Cond.methodLink RX1 40 yX1_swap, Cond.instanceMethod yX1_swap, Cond.selects RX1 yX1_swap yX1_swap, Cond.code yX1_swap cX1_swap 4 none, Cond.methodLink RX1 44 yX1_makeUnit, Cond.instanceMethod yX1_makeUnit, Cond.selects RX1 yX1_makeUnit yX1_makeUnit, Cond.code yX1_makeUnit cX1_makeUnit 5 none, Cond.methodLink RX1 58 yX1_inverse, Cond.instanceMethod yX1_inverse, Cond.selects RX1 yX1_inverse yX1_inverse, Cond.code yX1_inverse cX1_inverse 3 (some .int)]
def wsX3_answer_r3 : List Cond := [Cond.methodLink RX1 48 yX1_clearElsewhere, Cond.instanceMethod yX1_clearElsewhere, Cond.selects RX1 yX1_clearElsewhere yX1_clearElsewhere, Cond.code yX1_clearElsewhere cX1_clearElsewhere 4 none, Cond.methodLink RX1 61 yX1_addMultiple, Cond.instanceMethod yX1_addMultiple, Cond.selects RX1 yX1_addMultiple yX1_addMultiple, Cond.code yX1_addMultiple cX1_addMultiple 5 none, Cond.methodLink RX1 51 yX1_readQuietPatterns, Cond.instanceMethod yX1_readQuietPatterns, Cond.selects RX1 yX1_readQuietPatterns yX1_readQuietPatterns, Cond.code yX1_readQuietPatterns cX1_readQuietPatterns 2 none, Cond.fieldLink RX1 33 "LightRows$Equations" "free" "I", Cond.fieldLink RX1 27 "LightRows$Equations" "quietPatterns" "[[I", Cond.methodLink RX1 65 yX1_readQuietPattern, Cond.instanceMethod yX1_readQuietPattern, Cond.selects RX1 yX1_readQuietPattern yX1_readQuietPattern, Cond.code yX1_readQuietPattern cX1_readQuietPattern 5 none, Cond.methodLink RX3 91 yX1_agree, Cond.instanceMethod yX1_agree, Cond.selects RX1 yX1_agree yX1_agree, Cond.code yX1_agree cX1_agree 2 (some .boolean), Cond.methodLink RX3 95 yX1_pressesOf, Cond.instanceMethod yX1_pressesOf]
def wsX3_answer_r4 : List Cond := [Cond.selects RX1 yX1_pressesOf yX1_pressesOf, Cond.code yX1_pressesOf cX1_pressesOf 3 (some .int)]
def wsX3_answer : List Cond := .code yX3_answer cX3_answer 2 (some .int) :: ((wsX3_answer_r1 ++ (wsX3_answer_r2 ++ (wsX3_answer_r3 ++ wsX3_answer_r4))) ++ wsX30 ++ wsJx000600 ++ wsX10)
def wsX3_quiet_r1 : List Cond := [Cond.fieldLink RX3 44 "LightRows" "equations" "LLightRows$Equations;", Cond.methodLink RX3 69 yX3_mustExist, Cond.instanceMethod yX3_mustExist, Cond.selects RX3 yX3_mustExist yX3_mustExist, Cond.initialized RX3, Cond.code yX3_mustExist cX3_mustExist 2 none, Cond.fieldLink RX3 18 "LightRows" "lamps" "I", Cond.classLink RX3 123 RJx00060, Cond.instantiable RJx00060 6, Cond.initialized RJx00060, Cond.methodLink RX3 84 yX3_work, Cond.instanceMethod yX3_work, Cond.selects RX3 yX3_work yX3_work, Cond.code yX3_work cX3_work 1 none, Cond.fieldLink RX3 62 "LightRows" "worked" "Z", Cond.fieldLink RX3 36 "LightRows" "touched" "[I", Cond.fieldLink RX3 29 "LightRows" "now" "[I", Cond.fieldLink RX3 33 "LightRows" "wanted" "[I", Cond.methodLink RX3 130 yX1_take, Cond.instanceMethod yX1_take, Cond.selects RX1 yX1_take yX1_take, Cond.initialized RX1, Cond.code yX1_take cX1_take 7 none, Cond.fieldLink RX1 9 "LightRows$Equations" "size" "I"]
def wsX3_quiet_r2 : List Cond := [Cond.fieldLink RX1 20 "LightRows$Equations" "rows" "[[I", Cond.fieldLink RX1 15 "LightRows$Equations" "modulus" "I", Cond.methodLink RX3 134 yX1_reduce, Cond.instanceMethod yX1_reduce, Cond.selects RX1 yX1_reduce yX1_reduce, Cond.code yX1_reduce cX1_reduce 3 none, Cond.fieldLink RX1 30 "LightRows$Equations" "bound" "I", Cond.fieldLink RX1 23 "LightRows$Equations" "rowOf" "[I", Cond.methodLink RX1 36 yX1_unusedRowWith, Cond.instanceMethod yX1_unusedRowWith, Cond.selects RX1 yX1_unusedRowWith yX1_unusedRowWith, Cond.code yX1_unusedRowWith cX1_unusedRowWith 3 (some .int), Cond.methodLink RX1 40 yX1_swap, Cond.instanceMethod yX1_swap, Cond.selects RX1 yX1_swap yX1_swap, Cond.code yX1_swap cX1_swap 4 none, Cond.methodLink RX1 44 yX1_makeUnit, Cond.instanceMethod yX1_makeUnit, Cond.selects RX1 yX1_makeUnit yX1_makeUnit, Cond.code yX1_makeUnit cX1_makeUnit 5 none, Cond.methodLink RX1 58 yX1_inverse, Cond.instanceMethod yX1_inverse, Cond.selects RX1 yX1_inverse yX1_inverse, Cond.code yX1_inverse cX1_inverse 3 (some .int)]
def wsX3_quiet_r3 : List Cond := [Cond.methodLink RX1 48 yX1_clearElsewhere, Cond.instanceMethod yX1_clearElsewhere, Cond.selects RX1 yX1_clearElsewhere yX1_clearElsewhere, Cond.code yX1_clearElsewhere cX1_clearElsewhere 4 none, Cond.methodLink RX1 61 yX1_addMultiple, Cond.instanceMethod yX1_addMultiple, Cond.selects RX1 yX1_addMultiple yX1_addMultiple, Cond.code yX1_addMultiple cX1_addMultiple 5 none, Cond.methodLink RX1 51 yX1_readQuietPatterns, Cond.instanceMethod yX1_readQuietPatterns, Cond.selects RX1 yX1_readQuietPatterns yX1_readQuietPatterns, Cond.code yX1_readQuietPatterns cX1_readQuietPatterns 2 none, Cond.fieldLink RX1 33 "LightRows$Equations" "free" "I", Cond.fieldLink RX1 27 "LightRows$Equations" "quietPatterns" "[[I", Cond.methodLink RX1 65 yX1_readQuietPattern, Cond.instanceMethod yX1_readQuietPattern, Cond.selects RX1 yX1_readQuietPattern yX1_readQuietPattern, Cond.code yX1_readQuietPattern cX1_readQuietPattern 5 none, Cond.methodLink RX3 98 yX1_freeLamps, Cond.instanceMethod yX1_freeLamps, Cond.selects RX1 yX1_freeLamps yX1_freeLamps, Cond.code yX1_freeLamps cX1_freeLamps 1 (some .int), Cond.methodLink RX3 101 yX1_quietPattern, Cond.instanceMethod yX1_quietPattern]
def wsX3_quiet_r4 : List Cond := [Cond.selects RX1 yX1_quietPattern yX1_quietPattern, Cond.code yX1_quietPattern cX1_quietPattern 2 (some (.array .int))]
def wsX3_quiet : List Cond := .code yX3_quiet cX3_quiet 3 (some .int) :: ((wsX3_quiet_r1 ++ (wsX3_quiet_r2 ++ (wsX3_quiet_r3 ++ wsX3_quiet_r4))) ++ wsX30 ++ wsJx000600 ++ wsX10)
def wsX3_count_r1 : List Cond := [Cond.fieldLink RX3 58 "LightRows" "decimal" "LLightRows$Decimal;", Cond.fieldLink RX3 44 "LightRows" "equations" "LLightRows$Equations;", Cond.fieldLink RX3 26 "LightRows" "states" "I", Cond.methodLink RX3 84 yX3_work, Cond.instanceMethod yX3_work, Cond.selects RX3 yX3_work yX3_work, Cond.initialized RX3, Cond.code yX3_work cX3_work 1 none, Cond.fieldLink RX3 62 "LightRows" "worked" "Z", Cond.fieldLink RX3 36 "LightRows" "touched" "[I", Cond.fieldLink RX3 29 "LightRows" "now" "[I", Cond.fieldLink RX3 33 "LightRows" "wanted" "[I", Cond.methodLink RX3 130 yX1_take, Cond.instanceMethod yX1_take, Cond.selects RX1 yX1_take yX1_take, Cond.initialized RX1, Cond.code yX1_take cX1_take 7 none, Cond.fieldLink RX1 9 "LightRows$Equations" "size" "I", Cond.fieldLink RX1 20 "LightRows$Equations" "rows" "[[I", Cond.fieldLink RX1 15 "LightRows$Equations" "modulus" "I", Cond.methodLink RX3 134 yX1_reduce, Cond.instanceMethod yX1_reduce, Cond.selects RX1 yX1_reduce yX1_reduce, Cond.code yX1_reduce cX1_reduce 3 none]
def wsX3_count_r2 : List Cond := [Cond.fieldLink RX1 30 "LightRows$Equations" "bound" "I", Cond.fieldLink RX1 23 "LightRows$Equations" "rowOf" "[I", Cond.methodLink RX1 36 yX1_unusedRowWith, Cond.instanceMethod yX1_unusedRowWith, Cond.selects RX1 yX1_unusedRowWith yX1_unusedRowWith, Cond.code yX1_unusedRowWith cX1_unusedRowWith 3 (some .int), Cond.methodLink RX1 40 yX1_swap, Cond.instanceMethod yX1_swap, Cond.selects RX1 yX1_swap yX1_swap, Cond.code yX1_swap cX1_swap 4 none, Cond.methodLink RX1 44 yX1_makeUnit, Cond.instanceMethod yX1_makeUnit, Cond.selects RX1 yX1_makeUnit yX1_makeUnit, Cond.code yX1_makeUnit cX1_makeUnit 5 none, Cond.methodLink RX1 58 yX1_inverse, Cond.instanceMethod yX1_inverse, Cond.selects RX1 yX1_inverse yX1_inverse, Cond.code yX1_inverse cX1_inverse 3 (some .int), Cond.methodLink RX1 48 yX1_clearElsewhere, Cond.instanceMethod yX1_clearElsewhere, Cond.selects RX1 yX1_clearElsewhere yX1_clearElsewhere, Cond.code yX1_clearElsewhere cX1_clearElsewhere 4 none, Cond.methodLink RX1 61 yX1_addMultiple, Cond.instanceMethod yX1_addMultiple]
def wsX3_count_r3 : List Cond := [Cond.selects RX1 yX1_addMultiple yX1_addMultiple, Cond.code yX1_addMultiple cX1_addMultiple 5 none, Cond.methodLink RX1 51 yX1_readQuietPatterns, Cond.instanceMethod yX1_readQuietPatterns, Cond.selects RX1 yX1_readQuietPatterns yX1_readQuietPatterns, Cond.code yX1_readQuietPatterns cX1_readQuietPatterns 2 none, Cond.fieldLink RX1 33 "LightRows$Equations" "free" "I", Cond.fieldLink RX1 27 "LightRows$Equations" "quietPatterns" "[[I", Cond.methodLink RX1 65 yX1_readQuietPattern, Cond.instanceMethod yX1_readQuietPattern, Cond.selects RX1 yX1_readQuietPattern yX1_readQuietPattern, Cond.code yX1_readQuietPattern cX1_readQuietPattern 5 none, Cond.methodLink RX3 91 yX1_agree, Cond.instanceMethod yX1_agree, Cond.selects RX1 yX1_agree yX1_agree, Cond.code yX1_agree cX1_agree 2 (some .boolean), Cond.methodLink RX3 105 yX0_become, Cond.instanceMethod yX0_become, Cond.selects RX0 yX0_become yX0_become, Cond.initialized RX0, Cond.code yX0_become cX0_become 2 none, Cond.fieldLink RX0 11 "LightRows$Decimal" "digits" "[I", Cond.fieldLink RX0 15 "LightRows$Decimal" "length" "I", Cond.methodLink RX3 98 yX1_freeLamps]
def wsX3_count_r4 : List Cond := [Cond.instanceMethod yX1_freeLamps, Cond.selects RX1 yX1_freeLamps yX1_freeLamps, Cond.code yX1_freeLamps cX1_freeLamps 1 (some .int), Cond.methodLink RX3 108 yX0_multiply, Cond.instanceMethod yX0_multiply, Cond.selects RX0 yX0_multiply yX0_multiply, Cond.code yX0_multiply cX0_multiply 5 none, Cond.methodLink RX3 111 yX0_digit, Cond.instanceMethod yX0_digit, Cond.selects RX0 yX0_digit yX0_digit, Cond.code yX0_digit cX0_digit 2 (some .int)]
def wsX3_count : List Cond := .code yX3_count cX3_count 3 (some .int) :: ((wsX3_count_r1 ++ (wsX3_count_r2 ++ (wsX3_count_r3 ++ wsX3_count_r4))) ++ wsX30 ++ wsX10 ++ wsX00)
def wsX3_seek_r1 : List Cond := [Cond.fieldLink RX3 66 "LightRows" "searched" "Z", Cond.fieldLink RX3 51 "LightRows" "search" "LLightRows$Search;", Cond.fieldLink RX3 44 "LightRows" "equations" "LLightRows$Equations;", Cond.methodLink RX3 84 yX3_work, Cond.instanceMethod yX3_work, Cond.selects RX3 yX3_work yX3_work, Cond.initialized RX3, Cond.code yX3_work cX3_work 1 none, Cond.fieldLink RX3 62 "LightRows" "worked" "Z", Cond.fieldLink RX3 36 "LightRows" "touched" "[I", Cond.fieldLink RX3 29 "LightRows" "now" "[I", Cond.fieldLink RX3 33 "LightRows" "wanted" "[I", Cond.methodLink RX3 130 yX1_take, Cond.instanceMethod yX1_take, Cond.selects RX1 yX1_take yX1_take, Cond.initialized RX1, Cond.code yX1_take cX1_take 7 none, Cond.fieldLink RX1 9 "LightRows$Equations" "size" "I", Cond.fieldLink RX1 20 "LightRows$Equations" "rows" "[[I", Cond.fieldLink RX1 15 "LightRows$Equations" "modulus" "I", Cond.methodLink RX3 134 yX1_reduce, Cond.instanceMethod yX1_reduce, Cond.selects RX1 yX1_reduce yX1_reduce, Cond.code yX1_reduce cX1_reduce 3 none]
def wsX3_seek_r2 : List Cond := [Cond.fieldLink RX1 30 "LightRows$Equations" "bound" "I", Cond.fieldLink RX1 23 "LightRows$Equations" "rowOf" "[I", Cond.methodLink RX1 36 yX1_unusedRowWith, Cond.instanceMethod yX1_unusedRowWith, Cond.selects RX1 yX1_unusedRowWith yX1_unusedRowWith, Cond.code yX1_unusedRowWith cX1_unusedRowWith 3 (some .int), Cond.methodLink RX1 40 yX1_swap, Cond.instanceMethod yX1_swap, Cond.selects RX1 yX1_swap yX1_swap, Cond.code yX1_swap cX1_swap 4 none, Cond.methodLink RX1 44 yX1_makeUnit, Cond.instanceMethod yX1_makeUnit, Cond.selects RX1 yX1_makeUnit yX1_makeUnit, Cond.code yX1_makeUnit cX1_makeUnit 5 none, Cond.methodLink RX1 58 yX1_inverse, Cond.instanceMethod yX1_inverse, Cond.selects RX1 yX1_inverse yX1_inverse, Cond.code yX1_inverse cX1_inverse 3 (some .int), Cond.methodLink RX1 48 yX1_clearElsewhere, Cond.instanceMethod yX1_clearElsewhere, Cond.selects RX1 yX1_clearElsewhere yX1_clearElsewhere, Cond.code yX1_clearElsewhere cX1_clearElsewhere 4 none, Cond.methodLink RX1 61 yX1_addMultiple, Cond.instanceMethod yX1_addMultiple]
def wsX3_seek_r3 : List Cond := [Cond.selects RX1 yX1_addMultiple yX1_addMultiple, Cond.code yX1_addMultiple cX1_addMultiple 5 none, Cond.methodLink RX1 51 yX1_readQuietPatterns, Cond.instanceMethod yX1_readQuietPatterns, Cond.selects RX1 yX1_readQuietPatterns yX1_readQuietPatterns, Cond.code yX1_readQuietPatterns cX1_readQuietPatterns 2 none, Cond.fieldLink RX1 33 "LightRows$Equations" "free" "I", Cond.fieldLink RX1 27 "LightRows$Equations" "quietPatterns" "[[I", Cond.methodLink RX1 65 yX1_readQuietPattern, Cond.instanceMethod yX1_readQuietPattern, Cond.selects RX1 yX1_readQuietPattern yX1_readQuietPattern, Cond.code yX1_readQuietPattern cX1_readQuietPattern 5 none, Cond.methodLink RX3 137 yX2_run, Cond.instanceMethod yX2_run, Cond.selects RX2 yX2_run yX2_run, Cond.initialized RX2, Cond.code yX2_run cX2_run 4 none, Cond.fieldLink RX2 28 "LightRows$Search" "total" "I", Cond.methodLink RX2 31 yX1_answersUpTo, Cond.instanceMethod yX1_answersUpTo, Cond.selects RX1 yX1_answersUpTo yX1_answersUpTo, Cond.code yX1_answersUpTo cX1_answersUpTo 4 (some .int), Cond.methodLink RX1 54 yX1_agree, Cond.instanceMethod yX1_agree]
def wsX3_seek_r4 : List Cond := [Cond.selects RX1 yX1_agree yX1_agree, Cond.code yX1_agree cX1_agree 2 (some .boolean), Cond.methodLink RX2 37 yX2_begin, Cond.instanceMethod yX2_begin, Cond.selects RX2 yX2_begin yX2_begin, Cond.code yX2_begin cX2_begin 3 none, Cond.fieldLink RX2 9 "LightRows$Search" "size" "I", Cond.fieldLink RX2 18 "LightRows$Search" "tried" "[I", Cond.fieldLink RX2 25 "LightRows$Search" "turns" "[I", Cond.methodLink RX2 47 yX1_pressesOf, Cond.instanceMethod yX1_pressesOf, Cond.selects RX1 yX1_pressesOf yX1_pressesOf, Cond.code yX1_pressesOf cX1_pressesOf 3 (some .int), Cond.methodLink RX2 50 yX2_totalTried, Cond.instanceMethod yX2_totalTried, Cond.selects RX2 yX2_totalTried yX2_totalTried, Cond.code yX2_totalTried cX2_totalTried 3 (some .int), Cond.methodLink RX2 54 yX2_keep, Cond.instanceMethod yX2_keep, Cond.selects RX2 yX2_keep yX2_keep, Cond.code yX2_keep cX2_keep 2 none, Cond.fieldLink RX2 22 "LightRows$Search" "least" "[I", Cond.methodLink RX2 73 arraycopyName, Cond.native arraycopyName]
def wsX3_seek_r5 : List Cond := [Cond.static arraycopyName, Cond.initialized "java/lang/System", Cond.methodLink RX2 41 yX2_advance, Cond.instanceMethod yX2_advance, Cond.selects RX2 yX2_advance yX2_advance, Cond.code yX2_advance cX2_advance 3 none, Cond.fieldLink RX2 15 "LightRows$Search" "modulus" "I", Cond.methodLink RX2 58 yX1_freeLamps, Cond.instanceMethod yX1_freeLamps, Cond.selects RX1 yX1_freeLamps yX1_freeLamps, Cond.code yX1_freeLamps cX1_freeLamps 1 (some .int), Cond.methodLink RX2 61 yX1_quietPattern, Cond.instanceMethod yX1_quietPattern, Cond.selects RX1 yX1_quietPattern yX1_quietPattern, Cond.code yX1_quietPattern cX1_quietPattern 2 (some (.array .int)), Cond.methodLink RX2 65 yX2_addToTried, Cond.instanceMethod yX2_addToTried, Cond.selects RX2 yX2_addToTried yX2_addToTried, Cond.code yX2_addToTried cX2_addToTried 4 none, Cond.methodLink RX2 44 yX2_keepIfLess, Cond.instanceMethod yX2_keepIfLess, Cond.selects RX2 yX2_keepIfLess yX2_keepIfLess, Cond.code yX2_keepIfLess cX2_keepIfLess 2 none, Cond.methodLink RX2 69 yX2_triedIsAhead]
def wsX3_seek_r6 : List Cond := [Cond.instanceMethod yX2_triedIsAhead, Cond.selects RX2 yX2_triedIsAhead yX2_triedIsAhead, Cond.code yX2_triedIsAhead cX2_triedIsAhead 2 (some .boolean)]
def wsX3_seek : List Cond := .code yX3_seek cX3_seek 1 none :: ((wsX3_seek_r1 ++ (wsX3_seek_r2 ++ (wsX3_seek_r3 ++ (wsX3_seek_r4 ++ (wsX3_seek_r5 ++ wsX3_seek_r6))))) ++ wsX30 ++ wsX10 ++ wsX20)
def wsX3_fewest_r1 : List Cond := [Cond.fieldLink RX3 51 "LightRows" "search" "LLightRows$Search;", Cond.methodLink RX3 114 yX3_seek, Cond.instanceMethod yX3_seek, Cond.selects RX3 yX3_seek yX3_seek, Cond.initialized RX3, Cond.code yX3_seek cX3_seek 1 none, Cond.fieldLink RX3 66 "LightRows" "searched" "Z", Cond.fieldLink RX3 44 "LightRows" "equations" "LLightRows$Equations;", Cond.methodLink RX3 84 yX3_work, Cond.instanceMethod yX3_work, Cond.selects RX3 yX3_work yX3_work, Cond.code yX3_work cX3_work 1 none, Cond.fieldLink RX3 62 "LightRows" "worked" "Z", Cond.fieldLink RX3 36 "LightRows" "touched" "[I", Cond.fieldLink RX3 29 "LightRows" "now" "[I", Cond.fieldLink RX3 33 "LightRows" "wanted" "[I", Cond.methodLink RX3 130 yX1_take, Cond.instanceMethod yX1_take, Cond.selects RX1 yX1_take yX1_take, Cond.initialized RX1, Cond.code yX1_take cX1_take 7 none, Cond.fieldLink RX1 9 "LightRows$Equations" "size" "I", Cond.fieldLink RX1 20 "LightRows$Equations" "rows" "[[I", Cond.fieldLink RX1 15 "LightRows$Equations" "modulus" "I"]
def wsX3_fewest_r2 : List Cond := [Cond.methodLink RX3 134 yX1_reduce, Cond.instanceMethod yX1_reduce, Cond.selects RX1 yX1_reduce yX1_reduce, Cond.code yX1_reduce cX1_reduce 3 none, Cond.fieldLink RX1 30 "LightRows$Equations" "bound" "I", Cond.fieldLink RX1 23 "LightRows$Equations" "rowOf" "[I", Cond.methodLink RX1 36 yX1_unusedRowWith, Cond.instanceMethod yX1_unusedRowWith, Cond.selects RX1 yX1_unusedRowWith yX1_unusedRowWith, Cond.code yX1_unusedRowWith cX1_unusedRowWith 3 (some .int), Cond.methodLink RX1 40 yX1_swap, Cond.instanceMethod yX1_swap, Cond.selects RX1 yX1_swap yX1_swap, Cond.code yX1_swap cX1_swap 4 none, Cond.methodLink RX1 44 yX1_makeUnit, Cond.instanceMethod yX1_makeUnit, Cond.selects RX1 yX1_makeUnit yX1_makeUnit, Cond.code yX1_makeUnit cX1_makeUnit 5 none, Cond.methodLink RX1 58 yX1_inverse, Cond.instanceMethod yX1_inverse, Cond.selects RX1 yX1_inverse yX1_inverse, Cond.code yX1_inverse cX1_inverse 3 (some .int), Cond.methodLink RX1 48 yX1_clearElsewhere, Cond.instanceMethod yX1_clearElsewhere]
def wsX3_fewest_r3 : List Cond := [Cond.selects RX1 yX1_clearElsewhere yX1_clearElsewhere, Cond.code yX1_clearElsewhere cX1_clearElsewhere 4 none, Cond.methodLink RX1 61 yX1_addMultiple, Cond.instanceMethod yX1_addMultiple, Cond.selects RX1 yX1_addMultiple yX1_addMultiple, Cond.code yX1_addMultiple cX1_addMultiple 5 none, Cond.methodLink RX1 51 yX1_readQuietPatterns, Cond.instanceMethod yX1_readQuietPatterns, Cond.selects RX1 yX1_readQuietPatterns yX1_readQuietPatterns, Cond.code yX1_readQuietPatterns cX1_readQuietPatterns 2 none, Cond.fieldLink RX1 33 "LightRows$Equations" "free" "I", Cond.fieldLink RX1 27 "LightRows$Equations" "quietPatterns" "[[I", Cond.methodLink RX1 65 yX1_readQuietPattern, Cond.instanceMethod yX1_readQuietPattern, Cond.selects RX1 yX1_readQuietPattern yX1_readQuietPattern, Cond.code yX1_readQuietPattern cX1_readQuietPattern 5 none, Cond.methodLink RX3 137 yX2_run, Cond.instanceMethod yX2_run, Cond.selects RX2 yX2_run yX2_run, Cond.initialized RX2, Cond.code yX2_run cX2_run 4 none, Cond.fieldLink RX2 28 "LightRows$Search" "total" "I", Cond.methodLink RX2 31 yX1_answersUpTo, Cond.instanceMethod yX1_answersUpTo]
def wsX3_fewest_r4 : List Cond := [Cond.selects RX1 yX1_answersUpTo yX1_answersUpTo, Cond.code yX1_answersUpTo cX1_answersUpTo 4 (some .int), Cond.methodLink RX1 54 yX1_agree, Cond.instanceMethod yX1_agree, Cond.selects RX1 yX1_agree yX1_agree, Cond.code yX1_agree cX1_agree 2 (some .boolean), Cond.methodLink RX2 37 yX2_begin, Cond.instanceMethod yX2_begin, Cond.selects RX2 yX2_begin yX2_begin, Cond.code yX2_begin cX2_begin 3 none, Cond.fieldLink RX2 9 "LightRows$Search" "size" "I", Cond.fieldLink RX2 18 "LightRows$Search" "tried" "[I", Cond.fieldLink RX2 25 "LightRows$Search" "turns" "[I", Cond.methodLink RX2 47 yX1_pressesOf, Cond.instanceMethod yX1_pressesOf, Cond.selects RX1 yX1_pressesOf yX1_pressesOf, Cond.code yX1_pressesOf cX1_pressesOf 3 (some .int), Cond.methodLink RX2 50 yX2_totalTried, Cond.instanceMethod yX2_totalTried, Cond.selects RX2 yX2_totalTried yX2_totalTried, Cond.code yX2_totalTried cX2_totalTried 3 (some .int), Cond.methodLink RX2 54 yX2_keep, Cond.instanceMethod yX2_keep, Cond.selects RX2 yX2_keep yX2_keep]
def wsX3_fewest_r5 : List Cond := [Cond.code yX2_keep cX2_keep 2 none, Cond.fieldLink RX2 22 "LightRows$Search" "least" "[I", Cond.methodLink RX2 73 arraycopyName, Cond.native arraycopyName, Cond.static arraycopyName, Cond.initialized "java/lang/System", Cond.methodLink RX2 41 yX2_advance, Cond.instanceMethod yX2_advance, Cond.selects RX2 yX2_advance yX2_advance, Cond.code yX2_advance cX2_advance 3 none, Cond.fieldLink RX2 15 "LightRows$Search" "modulus" "I", Cond.methodLink RX2 58 yX1_freeLamps, Cond.instanceMethod yX1_freeLamps, Cond.selects RX1 yX1_freeLamps yX1_freeLamps, Cond.code yX1_freeLamps cX1_freeLamps 1 (some .int), Cond.methodLink RX2 61 yX1_quietPattern, Cond.instanceMethod yX1_quietPattern, Cond.selects RX1 yX1_quietPattern yX1_quietPattern, Cond.code yX1_quietPattern cX1_quietPattern 2 (some (.array .int)), Cond.methodLink RX2 65 yX2_addToTried, Cond.instanceMethod yX2_addToTried, Cond.selects RX2 yX2_addToTried yX2_addToTried, Cond.code yX2_addToTried cX2_addToTried 4 none, Cond.methodLink RX2 44 yX2_keepIfLess]
def wsX3_fewest_r6 : List Cond := [Cond.instanceMethod yX2_keepIfLess, Cond.selects RX2 yX2_keepIfLess yX2_keepIfLess, Cond.code yX2_keepIfLess cX2_keepIfLess 2 none, Cond.methodLink RX2 69 yX2_triedIsAhead, Cond.instanceMethod yX2_triedIsAhead, Cond.selects RX2 yX2_triedIsAhead yX2_triedIsAhead, Cond.code yX2_triedIsAhead cX2_triedIsAhead 2 (some .boolean), Cond.methodLink RX3 117 yX2_leastTotal, Cond.instanceMethod yX2_leastTotal, Cond.selects RX2 yX2_leastTotal yX2_leastTotal, Cond.code yX2_leastTotal cX2_leastTotal 1 (some .int)]
def wsX3_fewest : List Cond := .code yX3_fewest cX3_fewest 1 (some .int) :: ((wsX3_fewest_r1 ++ (wsX3_fewest_r2 ++ (wsX3_fewest_r3 ++ (wsX3_fewest_r4 ++ (wsX3_fewest_r5 ++ wsX3_fewest_r6))))) ++ wsX30 ++ wsX10 ++ wsX20)
def wsX3_best_r1 : List Cond := [Cond.fieldLink RX3 51 "LightRows" "search" "LLightRows$Search;", Cond.methodLink RX3 69 yX3_mustExist, Cond.instanceMethod yX3_mustExist, Cond.selects RX3 yX3_mustExist yX3_mustExist, Cond.initialized RX3, Cond.code yX3_mustExist cX3_mustExist 2 none, Cond.fieldLink RX3 18 "LightRows" "lamps" "I", Cond.classLink RX3 123 RJx00060, Cond.instantiable RJx00060 6, Cond.initialized RJx00060, Cond.methodLink RX3 114 yX3_seek, Cond.instanceMethod yX3_seek, Cond.selects RX3 yX3_seek yX3_seek, Cond.code yX3_seek cX3_seek 1 none, Cond.fieldLink RX3 66 "LightRows" "searched" "Z", Cond.fieldLink RX3 44 "LightRows" "equations" "LLightRows$Equations;", Cond.methodLink RX3 84 yX3_work, Cond.instanceMethod yX3_work, Cond.selects RX3 yX3_work yX3_work, Cond.code yX3_work cX3_work 1 none, Cond.fieldLink RX3 62 "LightRows" "worked" "Z", Cond.fieldLink RX3 36 "LightRows" "touched" "[I", Cond.fieldLink RX3 29 "LightRows" "now" "[I", Cond.fieldLink RX3 33 "LightRows" "wanted" "[I"]
def wsX3_best_r2 : List Cond := [Cond.methodLink RX3 130 yX1_take, Cond.instanceMethod yX1_take, Cond.selects RX1 yX1_take yX1_take, Cond.initialized RX1, Cond.code yX1_take cX1_take 7 none, Cond.fieldLink RX1 9 "LightRows$Equations" "size" "I", Cond.fieldLink RX1 20 "LightRows$Equations" "rows" "[[I", Cond.fieldLink RX1 15 "LightRows$Equations" "modulus" "I", Cond.methodLink RX3 134 yX1_reduce, Cond.instanceMethod yX1_reduce, Cond.selects RX1 yX1_reduce yX1_reduce, Cond.code yX1_reduce cX1_reduce 3 none, Cond.fieldLink RX1 30 "LightRows$Equations" "bound" "I", Cond.fieldLink RX1 23 "LightRows$Equations" "rowOf" "[I", Cond.methodLink RX1 36 yX1_unusedRowWith, Cond.instanceMethod yX1_unusedRowWith, Cond.selects RX1 yX1_unusedRowWith yX1_unusedRowWith, Cond.code yX1_unusedRowWith cX1_unusedRowWith 3 (some .int), Cond.methodLink RX1 40 yX1_swap, Cond.instanceMethod yX1_swap, Cond.selects RX1 yX1_swap yX1_swap, Cond.code yX1_swap cX1_swap 4 none, Cond.methodLink RX1 44 yX1_makeUnit, Cond.instanceMethod yX1_makeUnit]
def wsX3_best_r3 : List Cond := [Cond.selects RX1 yX1_makeUnit yX1_makeUnit, Cond.code yX1_makeUnit cX1_makeUnit 5 none, Cond.methodLink RX1 58 yX1_inverse, Cond.instanceMethod yX1_inverse, Cond.selects RX1 yX1_inverse yX1_inverse, Cond.code yX1_inverse cX1_inverse 3 (some .int), Cond.methodLink RX1 48 yX1_clearElsewhere, Cond.instanceMethod yX1_clearElsewhere, Cond.selects RX1 yX1_clearElsewhere yX1_clearElsewhere, Cond.code yX1_clearElsewhere cX1_clearElsewhere 4 none, Cond.methodLink RX1 61 yX1_addMultiple, Cond.instanceMethod yX1_addMultiple, Cond.selects RX1 yX1_addMultiple yX1_addMultiple, Cond.code yX1_addMultiple cX1_addMultiple 5 none, Cond.methodLink RX1 51 yX1_readQuietPatterns, Cond.instanceMethod yX1_readQuietPatterns, Cond.selects RX1 yX1_readQuietPatterns yX1_readQuietPatterns, Cond.code yX1_readQuietPatterns cX1_readQuietPatterns 2 none, Cond.fieldLink RX1 33 "LightRows$Equations" "free" "I", Cond.fieldLink RX1 27 "LightRows$Equations" "quietPatterns" "[[I", Cond.methodLink RX1 65 yX1_readQuietPattern, Cond.instanceMethod yX1_readQuietPattern, Cond.selects RX1 yX1_readQuietPattern yX1_readQuietPattern, Cond.code yX1_readQuietPattern cX1_readQuietPattern 5 none]
def wsX3_best_r4 : List Cond := [Cond.methodLink RX3 137 yX2_run, Cond.instanceMethod yX2_run, Cond.selects RX2 yX2_run yX2_run, Cond.initialized RX2, Cond.code yX2_run cX2_run 4 none, Cond.fieldLink RX2 28 "LightRows$Search" "total" "I", Cond.methodLink RX2 31 yX1_answersUpTo, Cond.instanceMethod yX1_answersUpTo, Cond.selects RX1 yX1_answersUpTo yX1_answersUpTo, Cond.code yX1_answersUpTo cX1_answersUpTo 4 (some .int), Cond.methodLink RX1 54 yX1_agree, Cond.instanceMethod yX1_agree, Cond.selects RX1 yX1_agree yX1_agree, Cond.code yX1_agree cX1_agree 2 (some .boolean), Cond.methodLink RX2 37 yX2_begin, Cond.instanceMethod yX2_begin, Cond.selects RX2 yX2_begin yX2_begin, Cond.code yX2_begin cX2_begin 3 none, Cond.fieldLink RX2 9 "LightRows$Search" "size" "I", Cond.fieldLink RX2 18 "LightRows$Search" "tried" "[I", Cond.fieldLink RX2 25 "LightRows$Search" "turns" "[I", Cond.methodLink RX2 47 yX1_pressesOf, Cond.instanceMethod yX1_pressesOf, Cond.selects RX1 yX1_pressesOf yX1_pressesOf]
def wsX3_best_r5 : List Cond := [Cond.code yX1_pressesOf cX1_pressesOf 3 (some .int), Cond.methodLink RX2 50 yX2_totalTried, Cond.instanceMethod yX2_totalTried, Cond.selects RX2 yX2_totalTried yX2_totalTried, Cond.code yX2_totalTried cX2_totalTried 3 (some .int), Cond.methodLink RX2 54 yX2_keep, Cond.instanceMethod yX2_keep, Cond.selects RX2 yX2_keep yX2_keep, Cond.code yX2_keep cX2_keep 2 none, Cond.fieldLink RX2 22 "LightRows$Search" "least" "[I", Cond.methodLink RX2 73 arraycopyName, Cond.native arraycopyName, Cond.static arraycopyName, Cond.initialized "java/lang/System", Cond.methodLink RX2 41 yX2_advance, Cond.instanceMethod yX2_advance, Cond.selects RX2 yX2_advance yX2_advance, Cond.code yX2_advance cX2_advance 3 none, Cond.fieldLink RX2 15 "LightRows$Search" "modulus" "I", Cond.methodLink RX2 58 yX1_freeLamps, Cond.instanceMethod yX1_freeLamps, Cond.selects RX1 yX1_freeLamps yX1_freeLamps, Cond.code yX1_freeLamps cX1_freeLamps 1 (some .int), Cond.methodLink RX2 61 yX1_quietPattern]
def wsX3_best_r6 : List Cond := [Cond.instanceMethod yX1_quietPattern, Cond.selects RX1 yX1_quietPattern yX1_quietPattern, Cond.code yX1_quietPattern cX1_quietPattern 2 (some (.array .int)), Cond.methodLink RX2 65 yX2_addToTried, Cond.instanceMethod yX2_addToTried, Cond.selects RX2 yX2_addToTried yX2_addToTried, Cond.code yX2_addToTried cX2_addToTried 4 none, Cond.methodLink RX2 44 yX2_keepIfLess, Cond.instanceMethod yX2_keepIfLess, Cond.selects RX2 yX2_keepIfLess yX2_keepIfLess, Cond.code yX2_keepIfLess cX2_keepIfLess 2 none, Cond.methodLink RX2 69 yX2_triedIsAhead, Cond.instanceMethod yX2_triedIsAhead, Cond.selects RX2 yX2_triedIsAhead yX2_triedIsAhead, Cond.code yX2_triedIsAhead cX2_triedIsAhead 2 (some .boolean), Cond.methodLink RX3 117 yX2_leastTotal, Cond.instanceMethod yX2_leastTotal, Cond.selects RX2 yX2_leastTotal yX2_leastTotal, Cond.code yX2_leastTotal cX2_leastTotal 1 (some .int), Cond.methodLink RX3 120 yX2_leastPresses, Cond.instanceMethod yX2_leastPresses, Cond.selects RX2 yX2_leastPresses yX2_leastPresses, Cond.code yX2_leastPresses cX2_leastPresses 2 (some .int)]
def wsX3_best : List Cond := .code yX3_best cX3_best 2 (some .int) :: ((wsX3_best_r1 ++ (wsX3_best_r2 ++ (wsX3_best_r3 ++ (wsX3_best_r4 ++ (wsX3_best_r5 ++ wsX3_best_r6))))) ++ wsX30 ++ wsJx000600 ++ wsX10 ++ wsX20)
def wsX3_alone_r1 : List Cond := [Cond.fieldLink RX3 44 "LightRows" "equations" "LLightRows$Equations;", Cond.methodLink RX3 69 yX3_mustExist, Cond.instanceMethod yX3_mustExist, Cond.selects RX3 yX3_mustExist yX3_mustExist, Cond.initialized RX3, Cond.code yX3_mustExist cX3_mustExist 2 none, Cond.fieldLink RX3 18 "LightRows" "lamps" "I", Cond.classLink RX3 123 RJx00060, Cond.instantiable RJx00060 6, Cond.initialized RJx00060, Cond.methodLink RX3 84 yX3_work, Cond.instanceMethod yX3_work, Cond.selects RX3 yX3_work yX3_work, Cond.code yX3_work cX3_work 1 none, Cond.fieldLink RX3 62 "LightRows" "worked" "Z", Cond.fieldLink RX3 36 "LightRows" "touched" "[I", Cond.fieldLink RX3 29 "LightRows" "now" "[I", Cond.fieldLink RX3 33 "LightRows" "wanted" "[I", Cond.methodLink RX3 130 yX1_take, Cond.instanceMethod yX1_take, Cond.selects RX1 yX1_take yX1_take, Cond.initialized RX1, Cond.code yX1_take cX1_take 7 none, Cond.fieldLink RX1 9 "LightRows$Equations" "size" "I"]
def wsX3_alone_r2 : List Cond := [Cond.fieldLink RX1 20 "LightRows$Equations" "rows" "[[I", Cond.fieldLink RX1 15 "LightRows$Equations" "modulus" "I", Cond.methodLink RX3 134 yX1_reduce, Cond.instanceMethod yX1_reduce, Cond.selects RX1 yX1_reduce yX1_reduce, Cond.code yX1_reduce cX1_reduce 3 none, Cond.fieldLink RX1 30 "LightRows$Equations" "bound" "I", Cond.fieldLink RX1 23 "LightRows$Equations" "rowOf" "[I", Cond.methodLink RX1 36 yX1_unusedRowWith, Cond.instanceMethod yX1_unusedRowWith, Cond.selects RX1 yX1_unusedRowWith yX1_unusedRowWith, Cond.code yX1_unusedRowWith cX1_unusedRowWith 3 (some .int), Cond.methodLink RX1 40 yX1_swap, Cond.instanceMethod yX1_swap, Cond.selects RX1 yX1_swap yX1_swap, Cond.code yX1_swap cX1_swap 4 none, Cond.methodLink RX1 44 yX1_makeUnit, Cond.instanceMethod yX1_makeUnit, Cond.selects RX1 yX1_makeUnit yX1_makeUnit, Cond.code yX1_makeUnit cX1_makeUnit 5 none, Cond.methodLink RX1 58 yX1_inverse, Cond.instanceMethod yX1_inverse, Cond.selects RX1 yX1_inverse yX1_inverse, Cond.code yX1_inverse cX1_inverse 3 (some .int)]
def wsX3_alone_r3 : List Cond := [Cond.methodLink RX1 48 yX1_clearElsewhere, Cond.instanceMethod yX1_clearElsewhere, Cond.selects RX1 yX1_clearElsewhere yX1_clearElsewhere, Cond.code yX1_clearElsewhere cX1_clearElsewhere 4 none, Cond.methodLink RX1 61 yX1_addMultiple, Cond.instanceMethod yX1_addMultiple, Cond.selects RX1 yX1_addMultiple yX1_addMultiple, Cond.code yX1_addMultiple cX1_addMultiple 5 none, Cond.methodLink RX1 51 yX1_readQuietPatterns, Cond.instanceMethod yX1_readQuietPatterns, Cond.selects RX1 yX1_readQuietPatterns yX1_readQuietPatterns, Cond.code yX1_readQuietPatterns cX1_readQuietPatterns 2 none, Cond.fieldLink RX1 33 "LightRows$Equations" "free" "I", Cond.fieldLink RX1 27 "LightRows$Equations" "quietPatterns" "[[I", Cond.methodLink RX1 65 yX1_readQuietPattern, Cond.instanceMethod yX1_readQuietPattern, Cond.selects RX1 yX1_readQuietPattern yX1_readQuietPattern, Cond.code yX1_readQuietPattern cX1_readQuietPattern 5 none, Cond.methodLink RX3 98 yX1_freeLamps, Cond.instanceMethod yX1_freeLamps, Cond.selects RX1 yX1_freeLamps yX1_freeLamps, Cond.code yX1_freeLamps cX1_freeLamps 1 (some .int), Cond.methodLink RX3 101 yX1_quietPattern, Cond.instanceMethod yX1_quietPattern]
def wsX3_alone_r4 : List Cond := [Cond.selects RX1 yX1_quietPattern yX1_quietPattern, Cond.code yX1_quietPattern cX1_quietPattern 2 (some (.array .int))]
def wsX3_alone : List Cond := .code yX3_alone cX3_alone 3 (some .boolean) :: ((wsX3_alone_r1 ++ (wsX3_alone_r2 ++ (wsX3_alone_r3 ++ wsX3_alone_r4))) ++ wsX30 ++ wsJx000600 ++ wsX10)
def wsX3_clear : List Cond := .code yX3_clear cX3_clear 2 none :: ([.fieldLink RX3 18 "LightRows" "lamps" "I", .fieldLink RX3 29 "LightRows" "now" "[I", .fieldLink RX3 33 "LightRows" "wanted" "[I", .methodLink RX3 77 yX3_forget, .instanceMethod yX3_forget, .selects RX3 yX3_forget yX3_forget, .initialized RX3, .code yX3_forget cX3_forget 1 none, .fieldLink RX3 62 "LightRows" "worked" "Z", .fieldLink RX3 66 "LightRows" "searched" "Z"] ++ wsX30)
def wsX4_init : List Cond := .code yX4_init cX4_init 3 none :: ([.methodLink RX4 1 objectInit, .instanceMethod objectInit, .code objectInit ⟨#[0xb1]⟩ 1 none, .arrayClass .boolean, .fieldLink RX4 7 "LightRowsModel" "joined" "[Z", .fieldLink RX4 13 "LightRowsModel" "isNotSelf" "[Z", .arrayClass .int, .fieldLink RX4 16 "LightRowsModel" "states" "[I", .fieldLink RX4 20 "LightRowsModel" "wanted" "[I", .fieldLink RX4 23 "LightRowsModel" "rows" "[I", .fieldLink RX4 26 "LightRowsModel" "presses" "[I", .fieldLink RX4 29 "LightRowsModel" "heads" "[I", .fieldLink RX4 32 "LightRowsModel" "isBound" "[Z", .fieldLink RX4 35 "LightRowsModel" "rest" "[I", .fieldLink RX4 38 "LightRowsModel" "by" "[I", .fieldLink RX4 41 "LightRowsModel" "answer" "[I", .fieldLink RX4 44 "LightRowsModel" "quiet" "[I", .fieldLink RX4 47 "LightRowsModel" "best" "[I", .fieldLink RX4 50 "LightRowsModel" "tried" "[I", .fieldLink RX4 53 "LightRowsModel" "digits" "[I", .fieldLink RX4 56 "LightRowsModel" "lamps" "I", .fieldLink RX4 60 "LightRowsModel" "p" "I"] ++ wsX40)
def wsX4_thrown : List Cond := .code yX4_thrown cX4_thrown 1 (some .int) :: ([.fieldLink RX4 63 "LightRowsModel" "thrown" "I"] ++ wsX40)
def wsX4_fails : List Cond := .code yX4_fails cX4_fails 2 (some .boolean) :: ([.fieldLink RX4 63 "LightRowsModel" "thrown" "I"] ++ wsX40)
def wsX4_isLamp : List Cond := .code yX4_isLamp cX4_isLamp 2 (some .boolean) :: ([.fieldLink RX4 56 "LightRowsModel" "lamps" "I"] ++ wsX40)
def wsX4_isState : List Cond := .code yX4_isState cX4_isState 2 (some .boolean) :: ([.fieldLink RX4 60 "LightRowsModel" "p" "I"] ++ wsX40)
def wsX4_join : List Cond := .code yX4_join cX4_join 3 (some .boolean) :: ([.fieldLink RX4 7 "LightRowsModel" "joined" "[Z", .fieldLink RX4 74 "LightRowsModel" "isKnown" "Z", .methodLink RX4 66 yX4_isLamp, .instanceMethod yX4_isLamp, .selects RX4 yX4_isLamp yX4_isLamp, .initialized RX4, .code yX4_isLamp cX4_isLamp 2 (some .boolean), .fieldLink RX4 56 "LightRowsModel" "lamps" "I", .methodLink RX4 70 yX4_fails, .instanceMethod yX4_fails, .selects RX4 yX4_fails yX4_fails, .code yX4_fails cX4_fails 2 (some .boolean), .fieldLink RX4 63 "LightRowsModel" "thrown" "I"] ++ wsX40)
def wsX4_self : List Cond := .code yX4_self cX4_self 3 (some .boolean) :: ([.fieldLink RX4 13 "LightRowsModel" "isNotSelf" "[Z", .fieldLink RX4 74 "LightRowsModel" "isKnown" "Z", .methodLink RX4 66 yX4_isLamp, .instanceMethod yX4_isLamp, .selects RX4 yX4_isLamp yX4_isLamp, .initialized RX4, .code yX4_isLamp cX4_isLamp 2 (some .boolean), .fieldLink RX4 56 "LightRowsModel" "lamps" "I", .methodLink RX4 70 yX4_fails, .instanceMethod yX4_fails, .selects RX4 yX4_fails yX4_fails, .code yX4_fails cX4_fails 2 (some .boolean), .fieldLink RX4 63 "LightRowsModel" "thrown" "I"] ++ wsX40)
def wsX4_set : List Cond := .code yX4_set cX4_set 3 (some .boolean) :: ([.fieldLink RX4 16 "LightRowsModel" "states" "[I", .methodLink RX4 66 yX4_isLamp, .instanceMethod yX4_isLamp, .selects RX4 yX4_isLamp yX4_isLamp, .initialized RX4, .code yX4_isLamp cX4_isLamp 2 (some .boolean), .fieldLink RX4 56 "LightRowsModel" "lamps" "I", .methodLink RX4 70 yX4_fails, .instanceMethod yX4_fails, .selects RX4 yX4_fails yX4_fails, .code yX4_fails cX4_fails 2 (some .boolean), .fieldLink RX4 63 "LightRowsModel" "thrown" "I", .methodLink RX4 78 yX4_isState, .instanceMethod yX4_isState, .selects RX4 yX4_isState yX4_isState, .code yX4_isState cX4_isState 2 (some .boolean), .fieldLink RX4 60 "LightRowsModel" "p" "I"] ++ wsX40)
def wsX4_want : List Cond := .code yX4_want cX4_want 3 (some .boolean) :: ([.fieldLink RX4 20 "LightRowsModel" "wanted" "[I", .methodLink RX4 66 yX4_isLamp, .instanceMethod yX4_isLamp, .selects RX4 yX4_isLamp yX4_isLamp, .initialized RX4, .code yX4_isLamp cX4_isLamp 2 (some .boolean), .fieldLink RX4 56 "LightRowsModel" "lamps" "I", .methodLink RX4 70 yX4_fails, .instanceMethod yX4_fails, .selects RX4 yX4_fails yX4_fails, .code yX4_fails cX4_fails 2 (some .boolean), .fieldLink RX4 63 "LightRowsModel" "thrown" "I", .methodLink RX4 78 yX4_isState, .instanceMethod yX4_isState, .selects RX4 yX4_isState yX4_isState, .code yX4_isState cX4_isState 2 (some .boolean), .fieldLink RX4 60 "LightRowsModel" "p" "I"] ++ wsX40)
def wsX4_effect : List Cond := .code yX4_effect cX4_effect 3 (some .int) :: ([.fieldLink RX4 13 "LightRowsModel" "isNotSelf" "[Z", .fieldLink RX4 7 "LightRowsModel" "joined" "[Z"] ++ wsX40)
def wsX4_press : List Cond := .code yX4_press cX4_press 4 (some .boolean) :: ([.fieldLink RX4 56 "LightRowsModel" "lamps" "I", .fieldLink RX4 16 "LightRowsModel" "states" "[I", .fieldLink RX4 60 "LightRowsModel" "p" "I", .methodLink RX4 66 yX4_isLamp, .instanceMethod yX4_isLamp, .selects RX4 yX4_isLamp yX4_isLamp, .initialized RX4, .code yX4_isLamp cX4_isLamp 2 (some .boolean), .methodLink RX4 70 yX4_fails, .instanceMethod yX4_fails, .selects RX4 yX4_fails yX4_fails, .code yX4_fails cX4_fails 2 (some .boolean), .fieldLink RX4 63 "LightRowsModel" "thrown" "I", .methodLink RX4 81 yX4_effect, .instanceMethod yX4_effect, .selects RX4 yX4_effect yX4_effect, .code yX4_effect cX4_effect 3 (some .int), .fieldLink RX4 13 "LightRowsModel" "isNotSelf" "[Z", .fieldLink RX4 7 "LightRowsModel" "joined" "[Z"] ++ wsX40)
def wsX4_at : List Cond := .code yX4_at cX4_at 2 (some .int) :: ([.fieldLink RX4 16 "LightRowsModel" "states" "[I", .methodLink RX4 66 yX4_isLamp, .instanceMethod yX4_isLamp, .selects RX4 yX4_isLamp yX4_isLamp, .initialized RX4, .code yX4_isLamp cX4_isLamp 2 (some .boolean), .fieldLink RX4 56 "LightRowsModel" "lamps" "I", .methodLink RX4 70 yX4_fails, .instanceMethod yX4_fails, .selects RX4 yX4_fails yX4_fails, .code yX4_fails cX4_fails 2 (some .boolean), .fieldLink RX4 63 "LightRowsModel" "thrown" "I"] ++ wsX40)
def wsX4_apart : List Cond := .code yX4_apart cX4_apart 3 (some .int) :: ([.fieldLink RX4 63 "LightRowsModel" "thrown" "I", .fieldLink RX4 56 "LightRowsModel" "lamps" "I", .fieldLink RX4 16 "LightRowsModel" "states" "[I", .fieldLink RX4 20 "LightRowsModel" "wanted" "[I"] ++ wsX40)
def wsX4_clear : List Cond := .code yX4_clear cX4_clear 2 none :: ([.fieldLink RX4 63 "LightRowsModel" "thrown" "I", .fieldLink RX4 56 "LightRowsModel" "lamps" "I", .fieldLink RX4 16 "LightRowsModel" "states" "[I", .fieldLink RX4 20 "LightRowsModel" "wanted" "[I"] ++ wsX40)
def wsX4_inverse : List Cond := .code yX4_inverse cX4_inverse 3 (some .int) :: ([.fieldLink RX4 60 "LightRowsModel" "p" "I"] ++ wsX40)
def wsX4_takeApart : List Cond := .code yX4_takeApart cX4_takeApart 4 none :: ([.fieldLink RX4 56 "LightRowsModel" "lamps" "I", .fieldLink RX4 38 "LightRowsModel" "by" "[I", .fieldLink RX4 85 "LightRowsModel" "rank" "I", .fieldLink RX4 35 "LightRowsModel" "rest" "[I", .fieldLink RX4 29 "LightRowsModel" "heads" "[I", .fieldLink RX4 23 "LightRowsModel" "rows" "[I", .fieldLink RX4 60 "LightRowsModel" "p" "I", .fieldLink RX4 26 "LightRowsModel" "presses" "[I", .methodLink RX4 88 yX4_inverse, .instanceMethod yX4_inverse, .selects RX4 yX4_inverse yX4_inverse, .initialized RX4, .code yX4_inverse cX4_inverse 3 (some .int)] ++ wsX40)
def wsX4_left : List Cond := .code yX4_left cX4_left 2 (some .int) :: ([.fieldLink RX4 56 "LightRowsModel" "lamps" "I", .fieldLink RX4 35 "LightRowsModel" "rest" "[I"] ++ wsX40)
def wsX4_know_r1 : List Cond := [Cond.fieldLink RX4 74 "LightRowsModel" "isKnown" "Z", Cond.fieldLink RX4 85 "LightRowsModel" "rank" "I", Cond.fieldLink RX4 56 "LightRowsModel" "lamps" "I", Cond.fieldLink RX4 35 "LightRowsModel" "rest" "[I", Cond.fieldLink RX4 32 "LightRowsModel" "isBound" "[Z", Cond.fieldLink RX4 23 "LightRowsModel" "rows" "[I", Cond.fieldLink RX4 26 "LightRowsModel" "presses" "[I", Cond.fieldLink RX4 60 "LightRowsModel" "p" "I", Cond.fieldLink RX4 38 "LightRowsModel" "by" "[I", Cond.fieldLink RX4 29 "LightRowsModel" "heads" "[I", Cond.fieldLink RX4 44 "LightRowsModel" "quiet" "[I", Cond.methodLink RX4 81 yX4_effect, Cond.instanceMethod yX4_effect, Cond.selects RX4 yX4_effect yX4_effect, Cond.initialized RX4, Cond.code yX4_effect cX4_effect 3 (some .int), Cond.fieldLink RX4 13 "LightRowsModel" "isNotSelf" "[Z", Cond.fieldLink RX4 7 "LightRowsModel" "joined" "[Z", Cond.methodLink RX4 92 yX4_takeApart, Cond.instanceMethod yX4_takeApart, Cond.selects RX4 yX4_takeApart yX4_takeApart, Cond.code yX4_takeApart cX4_takeApart 4 none, Cond.methodLink RX4 88 yX4_inverse, Cond.instanceMethod yX4_inverse]
def wsX4_know_r2 : List Cond := [Cond.selects RX4 yX4_inverse yX4_inverse, Cond.code yX4_inverse cX4_inverse 3 (some .int), Cond.methodLink RX4 95 yX4_left, Cond.instanceMethod yX4_left, Cond.selects RX4 yX4_left yX4_left, Cond.code yX4_left cX4_left 2 (some .int)]
def wsX4_know : List Cond := .code yX4_know cX4_know 5 none :: ((wsX4_know_r1 ++ wsX4_know_r2) ++ wsX40)
def wsX4_rank_r1 : List Cond := [Cond.fieldLink RX4 63 "LightRowsModel" "thrown" "I", Cond.fieldLink RX4 85 "LightRowsModel" "rank" "I", Cond.methodLink RX4 99 yX4_know, Cond.instanceMethod yX4_know, Cond.selects RX4 yX4_know yX4_know, Cond.initialized RX4, Cond.code yX4_know cX4_know 5 none, Cond.fieldLink RX4 74 "LightRowsModel" "isKnown" "Z", Cond.fieldLink RX4 56 "LightRowsModel" "lamps" "I", Cond.fieldLink RX4 35 "LightRowsModel" "rest" "[I", Cond.fieldLink RX4 32 "LightRowsModel" "isBound" "[Z", Cond.fieldLink RX4 23 "LightRowsModel" "rows" "[I", Cond.fieldLink RX4 26 "LightRowsModel" "presses" "[I", Cond.fieldLink RX4 60 "LightRowsModel" "p" "I", Cond.fieldLink RX4 38 "LightRowsModel" "by" "[I", Cond.fieldLink RX4 29 "LightRowsModel" "heads" "[I", Cond.fieldLink RX4 44 "LightRowsModel" "quiet" "[I", Cond.methodLink RX4 81 yX4_effect, Cond.instanceMethod yX4_effect, Cond.selects RX4 yX4_effect yX4_effect, Cond.code yX4_effect cX4_effect 3 (some .int), Cond.fieldLink RX4 13 "LightRowsModel" "isNotSelf" "[Z", Cond.fieldLink RX4 7 "LightRowsModel" "joined" "[Z", Cond.methodLink RX4 92 yX4_takeApart]
def wsX4_rank_r2 : List Cond := [Cond.instanceMethod yX4_takeApart, Cond.selects RX4 yX4_takeApart yX4_takeApart, Cond.code yX4_takeApart cX4_takeApart 4 none, Cond.methodLink RX4 88 yX4_inverse, Cond.instanceMethod yX4_inverse, Cond.selects RX4 yX4_inverse yX4_inverse, Cond.code yX4_inverse cX4_inverse 3 (some .int), Cond.methodLink RX4 95 yX4_left, Cond.instanceMethod yX4_left, Cond.selects RX4 yX4_left yX4_left, Cond.code yX4_left cX4_left 2 (some .int)]
def wsX4_rank : List Cond := .code yX4_rank cX4_rank 1 (some .int) :: ((wsX4_rank_r1 ++ wsX4_rank_r2) ++ wsX40)
def wsX4_answers_r1 : List Cond := [Cond.fieldLink RX4 56 "LightRowsModel" "lamps" "I", Cond.fieldLink RX4 35 "LightRowsModel" "rest" "[I", Cond.fieldLink RX4 20 "LightRowsModel" "wanted" "[I", Cond.fieldLink RX4 60 "LightRowsModel" "p" "I", Cond.fieldLink RX4 16 "LightRowsModel" "states" "[I", Cond.fieldLink RX4 41 "LightRowsModel" "answer" "[I", Cond.fieldLink RX4 38 "LightRowsModel" "by" "[I", Cond.methodLink RX4 99 yX4_know, Cond.instanceMethod yX4_know, Cond.selects RX4 yX4_know yX4_know, Cond.initialized RX4, Cond.code yX4_know cX4_know 5 none, Cond.fieldLink RX4 74 "LightRowsModel" "isKnown" "Z", Cond.fieldLink RX4 85 "LightRowsModel" "rank" "I", Cond.fieldLink RX4 32 "LightRowsModel" "isBound" "[Z", Cond.fieldLink RX4 23 "LightRowsModel" "rows" "[I", Cond.fieldLink RX4 26 "LightRowsModel" "presses" "[I", Cond.fieldLink RX4 29 "LightRowsModel" "heads" "[I", Cond.fieldLink RX4 44 "LightRowsModel" "quiet" "[I", Cond.methodLink RX4 81 yX4_effect, Cond.instanceMethod yX4_effect, Cond.selects RX4 yX4_effect yX4_effect, Cond.code yX4_effect cX4_effect 3 (some .int), Cond.fieldLink RX4 13 "LightRowsModel" "isNotSelf" "[Z"]
def wsX4_answers_r2 : List Cond := [Cond.fieldLink RX4 7 "LightRowsModel" "joined" "[Z", Cond.methodLink RX4 92 yX4_takeApart, Cond.instanceMethod yX4_takeApart, Cond.selects RX4 yX4_takeApart yX4_takeApart, Cond.code yX4_takeApart cX4_takeApart 4 none, Cond.methodLink RX4 88 yX4_inverse, Cond.instanceMethod yX4_inverse, Cond.selects RX4 yX4_inverse yX4_inverse, Cond.code yX4_inverse cX4_inverse 3 (some .int), Cond.methodLink RX4 95 yX4_left, Cond.instanceMethod yX4_left, Cond.selects RX4 yX4_left yX4_left, Cond.code yX4_left cX4_left 2 (some .int)]
def wsX4_answers : List Cond := .code yX4_answers cX4_answers 2 (some .boolean) :: ((wsX4_answers_r1 ++ wsX4_answers_r2) ++ wsX40)
def wsX4_solvable_r1 : List Cond := [Cond.fieldLink RX4 63 "LightRowsModel" "thrown" "I", Cond.methodLink RX4 102 yX4_answers, Cond.instanceMethod yX4_answers, Cond.selects RX4 yX4_answers yX4_answers, Cond.initialized RX4, Cond.code yX4_answers cX4_answers 2 (some .boolean), Cond.fieldLink RX4 56 "LightRowsModel" "lamps" "I", Cond.fieldLink RX4 35 "LightRowsModel" "rest" "[I", Cond.fieldLink RX4 20 "LightRowsModel" "wanted" "[I", Cond.fieldLink RX4 60 "LightRowsModel" "p" "I", Cond.fieldLink RX4 16 "LightRowsModel" "states" "[I", Cond.fieldLink RX4 41 "LightRowsModel" "answer" "[I", Cond.fieldLink RX4 38 "LightRowsModel" "by" "[I", Cond.methodLink RX4 99 yX4_know, Cond.instanceMethod yX4_know, Cond.selects RX4 yX4_know yX4_know, Cond.code yX4_know cX4_know 5 none, Cond.fieldLink RX4 74 "LightRowsModel" "isKnown" "Z", Cond.fieldLink RX4 85 "LightRowsModel" "rank" "I", Cond.fieldLink RX4 32 "LightRowsModel" "isBound" "[Z", Cond.fieldLink RX4 23 "LightRowsModel" "rows" "[I", Cond.fieldLink RX4 26 "LightRowsModel" "presses" "[I", Cond.fieldLink RX4 29 "LightRowsModel" "heads" "[I", Cond.fieldLink RX4 44 "LightRowsModel" "quiet" "[I"]
def wsX4_solvable_r2 : List Cond := [Cond.methodLink RX4 81 yX4_effect, Cond.instanceMethod yX4_effect, Cond.selects RX4 yX4_effect yX4_effect, Cond.code yX4_effect cX4_effect 3 (some .int), Cond.fieldLink RX4 13 "LightRowsModel" "isNotSelf" "[Z", Cond.fieldLink RX4 7 "LightRowsModel" "joined" "[Z", Cond.methodLink RX4 92 yX4_takeApart, Cond.instanceMethod yX4_takeApart, Cond.selects RX4 yX4_takeApart yX4_takeApart, Cond.code yX4_takeApart cX4_takeApart 4 none, Cond.methodLink RX4 88 yX4_inverse, Cond.instanceMethod yX4_inverse, Cond.selects RX4 yX4_inverse yX4_inverse, Cond.code yX4_inverse cX4_inverse 3 (some .int), Cond.methodLink RX4 95 yX4_left, Cond.instanceMethod yX4_left, Cond.selects RX4 yX4_left yX4_left, Cond.code yX4_left cX4_left 2 (some .int)]
def wsX4_solvable : List Cond := .code yX4_solvable cX4_solvable 1 (some .boolean) :: ((wsX4_solvable_r1 ++ wsX4_solvable_r2) ++ wsX40)
def wsX4_answer_r1 : List Cond := [Cond.fieldLink RX4 41 "LightRowsModel" "answer" "[I", Cond.methodLink RX4 66 yX4_isLamp, Cond.instanceMethod yX4_isLamp, Cond.selects RX4 yX4_isLamp yX4_isLamp, Cond.initialized RX4, Cond.code yX4_isLamp cX4_isLamp 2 (some .boolean), Cond.fieldLink RX4 56 "LightRowsModel" "lamps" "I", Cond.methodLink RX4 70 yX4_fails, Cond.instanceMethod yX4_fails, Cond.selects RX4 yX4_fails yX4_fails, Cond.code yX4_fails cX4_fails 2 (some .boolean), Cond.fieldLink RX4 63 "LightRowsModel" "thrown" "I", Cond.methodLink RX4 102 yX4_answers, Cond.instanceMethod yX4_answers, Cond.selects RX4 yX4_answers yX4_answers, Cond.code yX4_answers cX4_answers 2 (some .boolean), Cond.fieldLink RX4 35 "LightRowsModel" "rest" "[I", Cond.fieldLink RX4 20 "LightRowsModel" "wanted" "[I", Cond.fieldLink RX4 60 "LightRowsModel" "p" "I", Cond.fieldLink RX4 16 "LightRowsModel" "states" "[I", Cond.fieldLink RX4 38 "LightRowsModel" "by" "[I", Cond.methodLink RX4 99 yX4_know, Cond.instanceMethod yX4_know, Cond.selects RX4 yX4_know yX4_know]
def wsX4_answer_r2 : List Cond := [Cond.code yX4_know cX4_know 5 none, Cond.fieldLink RX4 74 "LightRowsModel" "isKnown" "Z", Cond.fieldLink RX4 85 "LightRowsModel" "rank" "I", Cond.fieldLink RX4 32 "LightRowsModel" "isBound" "[Z", Cond.fieldLink RX4 23 "LightRowsModel" "rows" "[I", Cond.fieldLink RX4 26 "LightRowsModel" "presses" "[I", Cond.fieldLink RX4 29 "LightRowsModel" "heads" "[I", Cond.fieldLink RX4 44 "LightRowsModel" "quiet" "[I", Cond.methodLink RX4 81 yX4_effect, Cond.instanceMethod yX4_effect, Cond.selects RX4 yX4_effect yX4_effect, Cond.code yX4_effect cX4_effect 3 (some .int), Cond.fieldLink RX4 13 "LightRowsModel" "isNotSelf" "[Z", Cond.fieldLink RX4 7 "LightRowsModel" "joined" "[Z", Cond.methodLink RX4 92 yX4_takeApart, Cond.instanceMethod yX4_takeApart, Cond.selects RX4 yX4_takeApart yX4_takeApart, Cond.code yX4_takeApart cX4_takeApart 4 none, Cond.methodLink RX4 88 yX4_inverse, Cond.instanceMethod yX4_inverse, Cond.selects RX4 yX4_inverse yX4_inverse, Cond.code yX4_inverse cX4_inverse 3 (some .int), Cond.methodLink RX4 95 yX4_left, Cond.instanceMethod yX4_left]
def wsX4_answer_r3 : List Cond := [Cond.selects RX4 yX4_left yX4_left, Cond.code yX4_left cX4_left 2 (some .int)]
def wsX4_answer : List Cond := .code yX4_answer cX4_answer 2 (some .int) :: ((wsX4_answer_r1 ++ (wsX4_answer_r2 ++ wsX4_answer_r3)) ++ wsX40)
def wsX4_quiet_r1 : List Cond := [Cond.fieldLink RX4 56 "LightRowsModel" "lamps" "I", Cond.fieldLink RX4 85 "LightRowsModel" "rank" "I", Cond.fieldLink RX4 44 "LightRowsModel" "quiet" "[I", Cond.methodLink RX4 66 yX4_isLamp, Cond.instanceMethod yX4_isLamp, Cond.selects RX4 yX4_isLamp yX4_isLamp, Cond.initialized RX4, Cond.code yX4_isLamp cX4_isLamp 2 (some .boolean), Cond.methodLink RX4 70 yX4_fails, Cond.instanceMethod yX4_fails, Cond.selects RX4 yX4_fails yX4_fails, Cond.code yX4_fails cX4_fails 2 (some .boolean), Cond.fieldLink RX4 63 "LightRowsModel" "thrown" "I", Cond.methodLink RX4 99 yX4_know, Cond.instanceMethod yX4_know, Cond.selects RX4 yX4_know yX4_know, Cond.code yX4_know cX4_know 5 none, Cond.fieldLink RX4 74 "LightRowsModel" "isKnown" "Z", Cond.fieldLink RX4 35 "LightRowsModel" "rest" "[I", Cond.fieldLink RX4 32 "LightRowsModel" "isBound" "[Z", Cond.fieldLink RX4 23 "LightRowsModel" "rows" "[I", Cond.fieldLink RX4 26 "LightRowsModel" "presses" "[I", Cond.fieldLink RX4 60 "LightRowsModel" "p" "I", Cond.fieldLink RX4 38 "LightRowsModel" "by" "[I"]
def wsX4_quiet_r2 : List Cond := [Cond.fieldLink RX4 29 "LightRowsModel" "heads" "[I", Cond.methodLink RX4 81 yX4_effect, Cond.instanceMethod yX4_effect, Cond.selects RX4 yX4_effect yX4_effect, Cond.code yX4_effect cX4_effect 3 (some .int), Cond.fieldLink RX4 13 "LightRowsModel" "isNotSelf" "[Z", Cond.fieldLink RX4 7 "LightRowsModel" "joined" "[Z", Cond.methodLink RX4 92 yX4_takeApart, Cond.instanceMethod yX4_takeApart, Cond.selects RX4 yX4_takeApart yX4_takeApart, Cond.code yX4_takeApart cX4_takeApart 4 none, Cond.methodLink RX4 88 yX4_inverse, Cond.instanceMethod yX4_inverse, Cond.selects RX4 yX4_inverse yX4_inverse, Cond.code yX4_inverse cX4_inverse 3 (some .int), Cond.methodLink RX4 95 yX4_left, Cond.instanceMethod yX4_left, Cond.selects RX4 yX4_left yX4_left, Cond.code yX4_left cX4_left 2 (some .int)]
def wsX4_quiet : List Cond := .code yX4_quiet cX4_quiet 3 (some .int) :: ((wsX4_quiet_r1 ++ wsX4_quiet_r2) ++ wsX40)
def wsX4_count_r1 : List Cond := [Cond.fieldLink RX4 63 "LightRowsModel" "thrown" "I", Cond.fieldLink RX4 53 "LightRowsModel" "digits" "[I", Cond.fieldLink RX4 56 "LightRowsModel" "lamps" "I", Cond.fieldLink RX4 85 "LightRowsModel" "rank" "I", Cond.fieldLink RX4 60 "LightRowsModel" "p" "I", Cond.methodLink RX4 102 yX4_answers, Cond.instanceMethod yX4_answers, Cond.selects RX4 yX4_answers yX4_answers, Cond.initialized RX4, Cond.code yX4_answers cX4_answers 2 (some .boolean), Cond.fieldLink RX4 35 "LightRowsModel" "rest" "[I", Cond.fieldLink RX4 20 "LightRowsModel" "wanted" "[I", Cond.fieldLink RX4 16 "LightRowsModel" "states" "[I", Cond.fieldLink RX4 41 "LightRowsModel" "answer" "[I", Cond.fieldLink RX4 38 "LightRowsModel" "by" "[I", Cond.methodLink RX4 99 yX4_know, Cond.instanceMethod yX4_know, Cond.selects RX4 yX4_know yX4_know, Cond.code yX4_know cX4_know 5 none, Cond.fieldLink RX4 74 "LightRowsModel" "isKnown" "Z", Cond.fieldLink RX4 32 "LightRowsModel" "isBound" "[Z", Cond.fieldLink RX4 23 "LightRowsModel" "rows" "[I", Cond.fieldLink RX4 26 "LightRowsModel" "presses" "[I", Cond.fieldLink RX4 29 "LightRowsModel" "heads" "[I"]
def wsX4_count_r2 : List Cond := [Cond.fieldLink RX4 44 "LightRowsModel" "quiet" "[I", Cond.methodLink RX4 81 yX4_effect, Cond.instanceMethod yX4_effect, Cond.selects RX4 yX4_effect yX4_effect, Cond.code yX4_effect cX4_effect 3 (some .int), Cond.fieldLink RX4 13 "LightRowsModel" "isNotSelf" "[Z", Cond.fieldLink RX4 7 "LightRowsModel" "joined" "[Z", Cond.methodLink RX4 92 yX4_takeApart, Cond.instanceMethod yX4_takeApart, Cond.selects RX4 yX4_takeApart yX4_takeApart, Cond.code yX4_takeApart cX4_takeApart 4 none, Cond.methodLink RX4 88 yX4_inverse, Cond.instanceMethod yX4_inverse, Cond.selects RX4 yX4_inverse yX4_inverse, Cond.code yX4_inverse cX4_inverse 3 (some .int), Cond.methodLink RX4 95 yX4_left, Cond.instanceMethod yX4_left, Cond.selects RX4 yX4_left yX4_left, Cond.code yX4_left cX4_left 2 (some .int)]
def wsX4_count : List Cond := .code yX4_count cX4_count 8 (some .int) :: ((wsX4_count_r1 ++ wsX4_count_r2) ++ wsX40)
def wsX4_tryWay : List Cond := .code yX4_tryWay cX4_tryWay 6 (some .int) :: ([.fieldLink RX4 56 "LightRowsModel" "lamps" "I", .fieldLink RX4 50 "LightRowsModel" "tried" "[I", .fieldLink RX4 41 "LightRowsModel" "answer" "[I", .fieldLink RX4 60 "LightRowsModel" "p" "I", .fieldLink RX4 44 "LightRowsModel" "quiet" "[I"] ++ wsX40)
def wsX4_isLess : List Cond := .code yX4_isLess cX4_isLess 2 (some .boolean) :: ([.fieldLink RX4 56 "LightRowsModel" "lamps" "I", .fieldLink RX4 50 "LightRowsModel" "tried" "[I", .fieldLink RX4 47 "LightRowsModel" "best" "[I"] ++ wsX40)
def wsX4_findBest_r1 : List Cond := [Cond.fieldLink RX4 56 "LightRowsModel" "lamps" "I", Cond.fieldLink RX4 85 "LightRowsModel" "rank" "I", Cond.fieldLink RX4 60 "LightRowsModel" "p" "I", Cond.fieldLink RX4 47 "LightRowsModel" "best" "[I", Cond.fieldLink RX4 50 "LightRowsModel" "tried" "[I", Cond.methodLink RX4 102 yX4_answers, Cond.instanceMethod yX4_answers, Cond.selects RX4 yX4_answers yX4_answers, Cond.initialized RX4, Cond.code yX4_answers cX4_answers 2 (some .boolean), Cond.fieldLink RX4 35 "LightRowsModel" "rest" "[I", Cond.fieldLink RX4 20 "LightRowsModel" "wanted" "[I", Cond.fieldLink RX4 16 "LightRowsModel" "states" "[I", Cond.fieldLink RX4 41 "LightRowsModel" "answer" "[I", Cond.fieldLink RX4 38 "LightRowsModel" "by" "[I", Cond.methodLink RX4 99 yX4_know, Cond.instanceMethod yX4_know, Cond.selects RX4 yX4_know yX4_know, Cond.code yX4_know cX4_know 5 none, Cond.fieldLink RX4 74 "LightRowsModel" "isKnown" "Z", Cond.fieldLink RX4 32 "LightRowsModel" "isBound" "[Z", Cond.fieldLink RX4 23 "LightRowsModel" "rows" "[I", Cond.fieldLink RX4 26 "LightRowsModel" "presses" "[I", Cond.fieldLink RX4 29 "LightRowsModel" "heads" "[I"]
def wsX4_findBest_r2 : List Cond := [Cond.fieldLink RX4 44 "LightRowsModel" "quiet" "[I", Cond.methodLink RX4 81 yX4_effect, Cond.instanceMethod yX4_effect, Cond.selects RX4 yX4_effect yX4_effect, Cond.code yX4_effect cX4_effect 3 (some .int), Cond.fieldLink RX4 13 "LightRowsModel" "isNotSelf" "[Z", Cond.fieldLink RX4 7 "LightRowsModel" "joined" "[Z", Cond.methodLink RX4 92 yX4_takeApart, Cond.instanceMethod yX4_takeApart, Cond.selects RX4 yX4_takeApart yX4_takeApart, Cond.code yX4_takeApart cX4_takeApart 4 none, Cond.methodLink RX4 88 yX4_inverse, Cond.instanceMethod yX4_inverse, Cond.selects RX4 yX4_inverse yX4_inverse, Cond.code yX4_inverse cX4_inverse 3 (some .int), Cond.methodLink RX4 95 yX4_left, Cond.instanceMethod yX4_left, Cond.selects RX4 yX4_left yX4_left, Cond.code yX4_left cX4_left 2 (some .int), Cond.methodLink RX4 106 yX4_tryWay, Cond.instanceMethod yX4_tryWay, Cond.selects RX4 yX4_tryWay yX4_tryWay, Cond.code yX4_tryWay cX4_tryWay 6 (some .int), Cond.methodLink RX4 109 yX4_isLess]
def wsX4_findBest_r3 : List Cond := [Cond.instanceMethod yX4_isLess, Cond.selects RX4 yX4_isLess yX4_isLess, Cond.code yX4_isLess cX4_isLess 2 (some .boolean)]
def wsX4_findBest : List Cond := .code yX4_findBest cX4_findBest 6 (some .int) :: ((wsX4_findBest_r1 ++ (wsX4_findBest_r2 ++ wsX4_findBest_r3)) ++ wsX40)
def wsX4_fewest_r1 : List Cond := [Cond.fieldLink RX4 63 "LightRowsModel" "thrown" "I", Cond.methodLink RX4 112 yX4_findBest, Cond.instanceMethod yX4_findBest, Cond.selects RX4 yX4_findBest yX4_findBest, Cond.initialized RX4, Cond.code yX4_findBest cX4_findBest 6 (some .int), Cond.fieldLink RX4 56 "LightRowsModel" "lamps" "I", Cond.fieldLink RX4 85 "LightRowsModel" "rank" "I", Cond.fieldLink RX4 60 "LightRowsModel" "p" "I", Cond.fieldLink RX4 47 "LightRowsModel" "best" "[I", Cond.fieldLink RX4 50 "LightRowsModel" "tried" "[I", Cond.methodLink RX4 102 yX4_answers, Cond.instanceMethod yX4_answers, Cond.selects RX4 yX4_answers yX4_answers, Cond.code yX4_answers cX4_answers 2 (some .boolean), Cond.fieldLink RX4 35 "LightRowsModel" "rest" "[I", Cond.fieldLink RX4 20 "LightRowsModel" "wanted" "[I", Cond.fieldLink RX4 16 "LightRowsModel" "states" "[I", Cond.fieldLink RX4 41 "LightRowsModel" "answer" "[I", Cond.fieldLink RX4 38 "LightRowsModel" "by" "[I", Cond.methodLink RX4 99 yX4_know, Cond.instanceMethod yX4_know, Cond.selects RX4 yX4_know yX4_know, Cond.code yX4_know cX4_know 5 none]
def wsX4_fewest_r2 : List Cond := [Cond.fieldLink RX4 74 "LightRowsModel" "isKnown" "Z", Cond.fieldLink RX4 32 "LightRowsModel" "isBound" "[Z", Cond.fieldLink RX4 23 "LightRowsModel" "rows" "[I", Cond.fieldLink RX4 26 "LightRowsModel" "presses" "[I", Cond.fieldLink RX4 29 "LightRowsModel" "heads" "[I", Cond.fieldLink RX4 44 "LightRowsModel" "quiet" "[I", Cond.methodLink RX4 81 yX4_effect, Cond.instanceMethod yX4_effect, Cond.selects RX4 yX4_effect yX4_effect, Cond.code yX4_effect cX4_effect 3 (some .int), Cond.fieldLink RX4 13 "LightRowsModel" "isNotSelf" "[Z", Cond.fieldLink RX4 7 "LightRowsModel" "joined" "[Z", Cond.methodLink RX4 92 yX4_takeApart, Cond.instanceMethod yX4_takeApart, Cond.selects RX4 yX4_takeApart yX4_takeApart, Cond.code yX4_takeApart cX4_takeApart 4 none, Cond.methodLink RX4 88 yX4_inverse, Cond.instanceMethod yX4_inverse, Cond.selects RX4 yX4_inverse yX4_inverse, Cond.code yX4_inverse cX4_inverse 3 (some .int), Cond.methodLink RX4 95 yX4_left, Cond.instanceMethod yX4_left, Cond.selects RX4 yX4_left yX4_left, Cond.code yX4_left cX4_left 2 (some .int)]
def wsX4_fewest_r3 : List Cond := [Cond.methodLink RX4 106 yX4_tryWay, Cond.instanceMethod yX4_tryWay, Cond.selects RX4 yX4_tryWay yX4_tryWay, Cond.code yX4_tryWay cX4_tryWay 6 (some .int), Cond.methodLink RX4 109 yX4_isLess, Cond.instanceMethod yX4_isLess, Cond.selects RX4 yX4_isLess yX4_isLess, Cond.code yX4_isLess cX4_isLess 2 (some .boolean)]
def wsX4_fewest : List Cond := .code yX4_fewest cX4_fewest 1 (some .int) :: ((wsX4_fewest_r1 ++ (wsX4_fewest_r2 ++ wsX4_fewest_r3)) ++ wsX40)
def wsX4_best_r1 : List Cond := [Cond.fieldLink RX4 47 "LightRowsModel" "best" "[I", Cond.methodLink RX4 66 yX4_isLamp, Cond.instanceMethod yX4_isLamp, Cond.selects RX4 yX4_isLamp yX4_isLamp, Cond.initialized RX4, Cond.code yX4_isLamp cX4_isLamp 2 (some .boolean), Cond.fieldLink RX4 56 "LightRowsModel" "lamps" "I", Cond.methodLink RX4 70 yX4_fails, Cond.instanceMethod yX4_fails, Cond.selects RX4 yX4_fails yX4_fails, Cond.code yX4_fails cX4_fails 2 (some .boolean), Cond.fieldLink RX4 63 "LightRowsModel" "thrown" "I", Cond.methodLink RX4 112 yX4_findBest, Cond.instanceMethod yX4_findBest, Cond.selects RX4 yX4_findBest yX4_findBest, Cond.code yX4_findBest cX4_findBest 6 (some .int), Cond.fieldLink RX4 85 "LightRowsModel" "rank" "I", Cond.fieldLink RX4 60 "LightRowsModel" "p" "I", Cond.fieldLink RX4 50 "LightRowsModel" "tried" "[I", Cond.methodLink RX4 102 yX4_answers, Cond.instanceMethod yX4_answers, Cond.selects RX4 yX4_answers yX4_answers, Cond.code yX4_answers cX4_answers 2 (some .boolean), Cond.fieldLink RX4 35 "LightRowsModel" "rest" "[I"]
def wsX4_best_r2 : List Cond := [Cond.fieldLink RX4 20 "LightRowsModel" "wanted" "[I", Cond.fieldLink RX4 16 "LightRowsModel" "states" "[I", Cond.fieldLink RX4 41 "LightRowsModel" "answer" "[I", Cond.fieldLink RX4 38 "LightRowsModel" "by" "[I", Cond.methodLink RX4 99 yX4_know, Cond.instanceMethod yX4_know, Cond.selects RX4 yX4_know yX4_know, Cond.code yX4_know cX4_know 5 none, Cond.fieldLink RX4 74 "LightRowsModel" "isKnown" "Z", Cond.fieldLink RX4 32 "LightRowsModel" "isBound" "[Z", Cond.fieldLink RX4 23 "LightRowsModel" "rows" "[I", Cond.fieldLink RX4 26 "LightRowsModel" "presses" "[I", Cond.fieldLink RX4 29 "LightRowsModel" "heads" "[I", Cond.fieldLink RX4 44 "LightRowsModel" "quiet" "[I", Cond.methodLink RX4 81 yX4_effect, Cond.instanceMethod yX4_effect, Cond.selects RX4 yX4_effect yX4_effect, Cond.code yX4_effect cX4_effect 3 (some .int), Cond.fieldLink RX4 13 "LightRowsModel" "isNotSelf" "[Z", Cond.fieldLink RX4 7 "LightRowsModel" "joined" "[Z", Cond.methodLink RX4 92 yX4_takeApart, Cond.instanceMethod yX4_takeApart, Cond.selects RX4 yX4_takeApart yX4_takeApart, Cond.code yX4_takeApart cX4_takeApart 4 none]
def wsX4_best_r3 : List Cond := [Cond.methodLink RX4 88 yX4_inverse, Cond.instanceMethod yX4_inverse, Cond.selects RX4 yX4_inverse yX4_inverse, Cond.code yX4_inverse cX4_inverse 3 (some .int), Cond.methodLink RX4 95 yX4_left, Cond.instanceMethod yX4_left, Cond.selects RX4 yX4_left yX4_left, Cond.code yX4_left cX4_left 2 (some .int), Cond.methodLink RX4 106 yX4_tryWay, Cond.instanceMethod yX4_tryWay, Cond.selects RX4 yX4_tryWay yX4_tryWay, Cond.code yX4_tryWay cX4_tryWay 6 (some .int), Cond.methodLink RX4 109 yX4_isLess, Cond.instanceMethod yX4_isLess, Cond.selects RX4 yX4_isLess yX4_isLess, Cond.code yX4_isLess cX4_isLess 2 (some .boolean)]
def wsX4_best : List Cond := .code yX4_best cX4_best 3 (some .int) :: ((wsX4_best_r1 ++ (wsX4_best_r2 ++ wsX4_best_r3)) ++ wsX40)
def wsX4_alone_r1 : List Cond := [Cond.fieldLink RX4 56 "LightRowsModel" "lamps" "I", Cond.fieldLink RX4 35 "LightRowsModel" "rest" "[I", Cond.methodLink RX4 66 yX4_isLamp, Cond.instanceMethod yX4_isLamp, Cond.selects RX4 yX4_isLamp yX4_isLamp, Cond.initialized RX4, Cond.code yX4_isLamp cX4_isLamp 2 (some .boolean), Cond.methodLink RX4 70 yX4_fails, Cond.instanceMethod yX4_fails, Cond.selects RX4 yX4_fails yX4_fails, Cond.code yX4_fails cX4_fails 2 (some .boolean), Cond.fieldLink RX4 63 "LightRowsModel" "thrown" "I", Cond.methodLink RX4 99 yX4_know, Cond.instanceMethod yX4_know, Cond.selects RX4 yX4_know yX4_know, Cond.code yX4_know cX4_know 5 none, Cond.fieldLink RX4 74 "LightRowsModel" "isKnown" "Z", Cond.fieldLink RX4 85 "LightRowsModel" "rank" "I", Cond.fieldLink RX4 32 "LightRowsModel" "isBound" "[Z", Cond.fieldLink RX4 23 "LightRowsModel" "rows" "[I", Cond.fieldLink RX4 26 "LightRowsModel" "presses" "[I", Cond.fieldLink RX4 60 "LightRowsModel" "p" "I", Cond.fieldLink RX4 38 "LightRowsModel" "by" "[I", Cond.fieldLink RX4 29 "LightRowsModel" "heads" "[I"]
def wsX4_alone_r2 : List Cond := [Cond.fieldLink RX4 44 "LightRowsModel" "quiet" "[I", Cond.methodLink RX4 81 yX4_effect, Cond.instanceMethod yX4_effect, Cond.selects RX4 yX4_effect yX4_effect, Cond.code yX4_effect cX4_effect 3 (some .int), Cond.fieldLink RX4 13 "LightRowsModel" "isNotSelf" "[Z", Cond.fieldLink RX4 7 "LightRowsModel" "joined" "[Z", Cond.methodLink RX4 92 yX4_takeApart, Cond.instanceMethod yX4_takeApart, Cond.selects RX4 yX4_takeApart yX4_takeApart, Cond.code yX4_takeApart cX4_takeApart 4 none, Cond.methodLink RX4 88 yX4_inverse, Cond.instanceMethod yX4_inverse, Cond.selects RX4 yX4_inverse yX4_inverse, Cond.code yX4_inverse cX4_inverse 3 (some .int), Cond.methodLink RX4 95 yX4_left, Cond.instanceMethod yX4_left, Cond.selects RX4 yX4_left yX4_left, Cond.code yX4_left cX4_left 2 (some .int)]
def wsX4_alone : List Cond := .code yX4_alone cX4_alone 3 (some .boolean) :: ((wsX4_alone_r1 ++ wsX4_alone_r2) ++ wsX40)
def wsJx00060_init_a7421 : List Cond := .code yJx00060_init_a7421 cJx00060_init_a7421 2 none :: ([])
def wsJ9_max_7cf53 : List Cond := .code yJ9_max_7cf53 cJ9_max_7cf53 2 (some .int) :: ([])
def wsJ9_min_7cf53 : List Cond := .code yJ9_min_7cf53 cJ9_min_7cf53 2 (some .int) :: ([])
def wsL_cell : List Cond := .code yL_cell cL_cell 2 (some .int) :: ([])
def wsL_join : List Cond := .codeWith yL_join cL_join 5 (some .int) [(0, 17, 20, 13)] :: ([.methodLink RL 7 yX3_join, .instanceMethod yX3_join, .selects RX3 yX3_join yX3_join, .initialized RX3, .code yX3_join cX3_join 3 (some .boolean), .fieldLink RX3 36 "LightRows" "touched" "[I", .methodLink RX3 69 yX3_mustExist, .instanceMethod yX3_mustExist, .selects RX3 yX3_mustExist yX3_mustExist, .code yX3_mustExist cX3_mustExist 2 none, .fieldLink RX3 18 "LightRows" "lamps" "I", .classLink RX3 123 RJx00060, .instantiable RJx00060 6, .initialized RJx00060, .methodLink RX3 73 yX3_touches, .instanceMethod yX3_touches, .selects RX3 yX3_touches yX3_touches, .code yX3_touches cX3_touches 3 (some .boolean), .methodLink RX3 77 yX3_forget, .instanceMethod yX3_forget, .selects RX3 yX3_forget yX3_forget, .code yX3_forget cX3_forget 1 none, .fieldLink RX3 62 "LightRows" "worked" "Z", .fieldLink RX3 66 "LightRows" "searched" "Z"] ++ wsX30 ++ wsJx000600)
def wsL_self : List Cond := .codeWith yL_self cL_self 5 (some .int) [(0, 17, 20, 13)] :: ([.methodLink RL 15 yX3_self, .instanceMethod yX3_self, .selects RX3 yX3_self yX3_self, .initialized RX3, .code yX3_self cX3_self 3 (some .boolean), .fieldLink RX3 36 "LightRows" "touched" "[I", .methodLink RX3 69 yX3_mustExist, .instanceMethod yX3_mustExist, .selects RX3 yX3_mustExist yX3_mustExist, .code yX3_mustExist cX3_mustExist 2 none, .fieldLink RX3 18 "LightRows" "lamps" "I", .classLink RX3 123 RJx00060, .instantiable RJx00060 6, .initialized RJx00060, .methodLink RX3 73 yX3_touches, .instanceMethod yX3_touches, .selects RX3 yX3_touches yX3_touches, .code yX3_touches cX3_touches 3 (some .boolean), .methodLink RX3 77 yX3_forget, .instanceMethod yX3_forget, .selects RX3 yX3_forget yX3_forget, .code yX3_forget cX3_forget 1 none, .fieldLink RX3 62 "LightRows" "worked" "Z", .fieldLink RX3 66 "LightRows" "searched" "Z"] ++ wsX30 ++ wsJx000600)
def wsL_set_r1 : List Cond := [Cond.methodLink RL 19 yX3_set, Cond.instanceMethod yX3_set, Cond.selects RX3 yX3_set yX3_set, Cond.initialized RX3, Cond.code yX3_set cX3_set 3 (some .boolean), Cond.fieldLink RX3 29 "LightRows" "now" "[I", Cond.methodLink RX3 69 yX3_mustExist, Cond.instanceMethod yX3_mustExist, Cond.selects RX3 yX3_mustExist yX3_mustExist, Cond.code yX3_mustExist cX3_mustExist 2 none, Cond.fieldLink RX3 18 "LightRows" "lamps" "I", Cond.classLink RX3 123 RJx00060, Cond.instantiable RJx00060 6, Cond.initialized RJx00060, Cond.methodLink RX3 80 yX3_isState, Cond.instanceMethod yX3_isState, Cond.selects RX3 yX3_isState yX3_isState, Cond.code yX3_isState cX3_isState 2 (some .boolean), Cond.fieldLink RX3 26 "LightRows" "states" "I", Cond.methodLink RX3 77 yX3_forget, Cond.instanceMethod yX3_forget, Cond.selects RX3 yX3_forget yX3_forget, Cond.code yX3_forget cX3_forget 1 none, Cond.fieldLink RX3 62 "LightRows" "worked" "Z"]
def wsL_set_r2 : List Cond := [Cond.fieldLink RX3 66 "LightRows" "searched" "Z"]
def wsL_set : List Cond := .codeWith yL_set cL_set 5 (some .int) [(0, 17, 20, 13)] :: ((wsL_set_r1 ++ wsL_set_r2) ++ wsX30 ++ wsJx000600)
def wsL_want_r1 : List Cond := [Cond.methodLink RL 22 yX3_want, Cond.instanceMethod yX3_want, Cond.selects RX3 yX3_want yX3_want, Cond.initialized RX3, Cond.code yX3_want cX3_want 3 (some .boolean), Cond.fieldLink RX3 33 "LightRows" "wanted" "[I", Cond.methodLink RX3 69 yX3_mustExist, Cond.instanceMethod yX3_mustExist, Cond.selects RX3 yX3_mustExist yX3_mustExist, Cond.code yX3_mustExist cX3_mustExist 2 none, Cond.fieldLink RX3 18 "LightRows" "lamps" "I", Cond.classLink RX3 123 RJx00060, Cond.instantiable RJx00060 6, Cond.initialized RJx00060, Cond.methodLink RX3 80 yX3_isState, Cond.instanceMethod yX3_isState, Cond.selects RX3 yX3_isState yX3_isState, Cond.code yX3_isState cX3_isState 2 (some .boolean), Cond.fieldLink RX3 26 "LightRows" "states" "I", Cond.methodLink RX3 77 yX3_forget, Cond.instanceMethod yX3_forget, Cond.selects RX3 yX3_forget yX3_forget, Cond.code yX3_forget cX3_forget 1 none, Cond.fieldLink RX3 62 "LightRows" "worked" "Z"]
def wsL_want_r2 : List Cond := [Cond.fieldLink RX3 66 "LightRows" "searched" "Z"]
def wsL_want : List Cond := .codeWith yL_want cL_want 5 (some .int) [(0, 17, 20, 13)] :: ((wsL_want_r1 ++ wsL_want_r2) ++ wsX30 ++ wsJx000600)
def wsL_press_r1 : List Cond := [Cond.methodLink RL 25 yX3_press, Cond.instanceMethod yX3_press, Cond.selects RX3 yX3_press yX3_press, Cond.initialized RX3, Cond.code yX3_press cX3_press 4 (some .boolean), Cond.fieldLink RX3 18 "LightRows" "lamps" "I", Cond.fieldLink RX3 29 "LightRows" "now" "[I", Cond.fieldLink RX3 26 "LightRows" "states" "I", Cond.methodLink RX3 69 yX3_mustExist, Cond.instanceMethod yX3_mustExist, Cond.selects RX3 yX3_mustExist yX3_mustExist, Cond.code yX3_mustExist cX3_mustExist 2 none, Cond.classLink RX3 123 RJx00060, Cond.instantiable RJx00060 6, Cond.initialized RJx00060, Cond.methodLink RX3 73 yX3_touches, Cond.instanceMethod yX3_touches, Cond.selects RX3 yX3_touches yX3_touches, Cond.code yX3_touches cX3_touches 3 (some .boolean), Cond.fieldLink RX3 36 "LightRows" "touched" "[I", Cond.methodLink RX3 77 yX3_forget, Cond.instanceMethod yX3_forget, Cond.selects RX3 yX3_forget yX3_forget, Cond.code yX3_forget cX3_forget 1 none]
def wsL_press_r2 : List Cond := [Cond.fieldLink RX3 62 "LightRows" "worked" "Z", Cond.fieldLink RX3 66 "LightRows" "searched" "Z"]
def wsL_press : List Cond := .codeWith yL_press cL_press 5 (some .int) [(0, 17, 20, 13)] :: ((wsL_press_r1 ++ wsL_press_r2) ++ wsX30 ++ wsJx000600)
def wsL_at : List Cond := .codeWith yL_at cL_at 4 (some .int) [(0, 9, 12, 13)] :: ([.methodLink RL 28 yX3_at, .instanceMethod yX3_at, .selects RX3 yX3_at yX3_at, .initialized RX3, .code yX3_at cX3_at 2 (some .int), .fieldLink RX3 29 "LightRows" "now" "[I", .methodLink RX3 69 yX3_mustExist, .instanceMethod yX3_mustExist, .selects RX3 yX3_mustExist yX3_mustExist, .code yX3_mustExist cX3_mustExist 2 none, .fieldLink RX3 18 "LightRows" "lamps" "I", .classLink RX3 123 RJx00060, .instantiable RJx00060 6, .initialized RJx00060] ++ wsX30 ++ wsJx000600)
def wsL_answer_r1 : List Cond := [Cond.methodLink RL 32 yX3_answer, Cond.instanceMethod yX3_answer, Cond.selects RX3 yX3_answer yX3_answer, Cond.initialized RX3, Cond.code yX3_answer cX3_answer 2 (some .int), Cond.fieldLink RX3 44 "LightRows" "equations" "LLightRows$Equations;", Cond.methodLink RX3 69 yX3_mustExist, Cond.instanceMethod yX3_mustExist, Cond.selects RX3 yX3_mustExist yX3_mustExist, Cond.code yX3_mustExist cX3_mustExist 2 none, Cond.fieldLink RX3 18 "LightRows" "lamps" "I", Cond.classLink RX3 123 RJx00060, Cond.instantiable RJx00060 6, Cond.initialized RJx00060, Cond.methodLink RX3 84 yX3_work, Cond.instanceMethod yX3_work, Cond.selects RX3 yX3_work yX3_work, Cond.code yX3_work cX3_work 1 none, Cond.fieldLink RX3 62 "LightRows" "worked" "Z", Cond.fieldLink RX3 36 "LightRows" "touched" "[I", Cond.fieldLink RX3 29 "LightRows" "now" "[I", Cond.fieldLink RX3 33 "LightRows" "wanted" "[I", Cond.methodLink RX3 130 yX1_take, Cond.instanceMethod yX1_take]
def wsL_answer_r2 : List Cond := [Cond.selects RX1 yX1_take yX1_take, Cond.initialized RX1, Cond.code yX1_take cX1_take 7 none, Cond.fieldLink RX1 9 "LightRows$Equations" "size" "I", Cond.fieldLink RX1 20 "LightRows$Equations" "rows" "[[I", Cond.fieldLink RX1 15 "LightRows$Equations" "modulus" "I", Cond.methodLink RX3 134 yX1_reduce, Cond.instanceMethod yX1_reduce, Cond.selects RX1 yX1_reduce yX1_reduce, Cond.code yX1_reduce cX1_reduce 3 none, Cond.fieldLink RX1 30 "LightRows$Equations" "bound" "I", Cond.fieldLink RX1 23 "LightRows$Equations" "rowOf" "[I", Cond.methodLink RX1 36 yX1_unusedRowWith, Cond.instanceMethod yX1_unusedRowWith, Cond.selects RX1 yX1_unusedRowWith yX1_unusedRowWith, Cond.code yX1_unusedRowWith cX1_unusedRowWith 3 (some .int), Cond.methodLink RX1 40 yX1_swap, Cond.instanceMethod yX1_swap, Cond.selects RX1 yX1_swap yX1_swap, Cond.code yX1_swap cX1_swap 4 none, Cond.methodLink RX1 44 yX1_makeUnit, Cond.instanceMethod yX1_makeUnit, Cond.selects RX1 yX1_makeUnit yX1_makeUnit, Cond.code yX1_makeUnit cX1_makeUnit 5 none]
def wsL_answer_r3 : List Cond := [Cond.methodLink RX1 58 yX1_inverse, Cond.instanceMethod yX1_inverse, Cond.selects RX1 yX1_inverse yX1_inverse, Cond.code yX1_inverse cX1_inverse 3 (some .int), Cond.methodLink RX1 48 yX1_clearElsewhere, Cond.instanceMethod yX1_clearElsewhere, Cond.selects RX1 yX1_clearElsewhere yX1_clearElsewhere, Cond.code yX1_clearElsewhere cX1_clearElsewhere 4 none, Cond.methodLink RX1 61 yX1_addMultiple, Cond.instanceMethod yX1_addMultiple, Cond.selects RX1 yX1_addMultiple yX1_addMultiple, Cond.code yX1_addMultiple cX1_addMultiple 5 none, Cond.methodLink RX1 51 yX1_readQuietPatterns, Cond.instanceMethod yX1_readQuietPatterns, Cond.selects RX1 yX1_readQuietPatterns yX1_readQuietPatterns, Cond.code yX1_readQuietPatterns cX1_readQuietPatterns 2 none, Cond.fieldLink RX1 33 "LightRows$Equations" "free" "I", Cond.fieldLink RX1 27 "LightRows$Equations" "quietPatterns" "[[I", Cond.methodLink RX1 65 yX1_readQuietPattern, Cond.instanceMethod yX1_readQuietPattern, Cond.selects RX1 yX1_readQuietPattern yX1_readQuietPattern, Cond.code yX1_readQuietPattern cX1_readQuietPattern 5 none, Cond.methodLink RX3 91 yX1_agree, Cond.instanceMethod yX1_agree]
def wsL_answer_r4 : List Cond := [Cond.selects RX1 yX1_agree yX1_agree, Cond.code yX1_agree cX1_agree 2 (some .boolean), Cond.methodLink RX3 95 yX1_pressesOf, Cond.instanceMethod yX1_pressesOf, Cond.selects RX1 yX1_pressesOf yX1_pressesOf, Cond.code yX1_pressesOf cX1_pressesOf 3 (some .int)]
def wsL_answer : List Cond := .codeWith yL_answer cL_answer 4 (some .int) [(0, 9, 12, 13)] :: ((wsL_answer_r1 ++ (wsL_answer_r2 ++ (wsL_answer_r3 ++ wsL_answer_r4))) ++ wsX30 ++ wsJx000600 ++ wsX10)
def wsL_quiet_r1 : List Cond := [Cond.methodLink RL 35 yX3_quiet, Cond.instanceMethod yX3_quiet, Cond.selects RX3 yX3_quiet yX3_quiet, Cond.initialized RX3, Cond.code yX3_quiet cX3_quiet 3 (some .int), Cond.fieldLink RX3 44 "LightRows" "equations" "LLightRows$Equations;", Cond.methodLink RX3 69 yX3_mustExist, Cond.instanceMethod yX3_mustExist, Cond.selects RX3 yX3_mustExist yX3_mustExist, Cond.code yX3_mustExist cX3_mustExist 2 none, Cond.fieldLink RX3 18 "LightRows" "lamps" "I", Cond.classLink RX3 123 RJx00060, Cond.instantiable RJx00060 6, Cond.initialized RJx00060, Cond.methodLink RX3 84 yX3_work, Cond.instanceMethod yX3_work, Cond.selects RX3 yX3_work yX3_work, Cond.code yX3_work cX3_work 1 none, Cond.fieldLink RX3 62 "LightRows" "worked" "Z", Cond.fieldLink RX3 36 "LightRows" "touched" "[I", Cond.fieldLink RX3 29 "LightRows" "now" "[I", Cond.fieldLink RX3 33 "LightRows" "wanted" "[I", Cond.methodLink RX3 130 yX1_take, Cond.instanceMethod yX1_take]
def wsL_quiet_r2 : List Cond := [Cond.selects RX1 yX1_take yX1_take, Cond.initialized RX1, Cond.code yX1_take cX1_take 7 none, Cond.fieldLink RX1 9 "LightRows$Equations" "size" "I", Cond.fieldLink RX1 20 "LightRows$Equations" "rows" "[[I", Cond.fieldLink RX1 15 "LightRows$Equations" "modulus" "I", Cond.methodLink RX3 134 yX1_reduce, Cond.instanceMethod yX1_reduce, Cond.selects RX1 yX1_reduce yX1_reduce, Cond.code yX1_reduce cX1_reduce 3 none, Cond.fieldLink RX1 30 "LightRows$Equations" "bound" "I", Cond.fieldLink RX1 23 "LightRows$Equations" "rowOf" "[I", Cond.methodLink RX1 36 yX1_unusedRowWith, Cond.instanceMethod yX1_unusedRowWith, Cond.selects RX1 yX1_unusedRowWith yX1_unusedRowWith, Cond.code yX1_unusedRowWith cX1_unusedRowWith 3 (some .int), Cond.methodLink RX1 40 yX1_swap, Cond.instanceMethod yX1_swap, Cond.selects RX1 yX1_swap yX1_swap, Cond.code yX1_swap cX1_swap 4 none, Cond.methodLink RX1 44 yX1_makeUnit, Cond.instanceMethod yX1_makeUnit, Cond.selects RX1 yX1_makeUnit yX1_makeUnit, Cond.code yX1_makeUnit cX1_makeUnit 5 none]
def wsL_quiet_r3 : List Cond := [Cond.methodLink RX1 58 yX1_inverse, Cond.instanceMethod yX1_inverse, Cond.selects RX1 yX1_inverse yX1_inverse, Cond.code yX1_inverse cX1_inverse 3 (some .int), Cond.methodLink RX1 48 yX1_clearElsewhere, Cond.instanceMethod yX1_clearElsewhere, Cond.selects RX1 yX1_clearElsewhere yX1_clearElsewhere, Cond.code yX1_clearElsewhere cX1_clearElsewhere 4 none, Cond.methodLink RX1 61 yX1_addMultiple, Cond.instanceMethod yX1_addMultiple, Cond.selects RX1 yX1_addMultiple yX1_addMultiple, Cond.code yX1_addMultiple cX1_addMultiple 5 none, Cond.methodLink RX1 51 yX1_readQuietPatterns, Cond.instanceMethod yX1_readQuietPatterns, Cond.selects RX1 yX1_readQuietPatterns yX1_readQuietPatterns, Cond.code yX1_readQuietPatterns cX1_readQuietPatterns 2 none, Cond.fieldLink RX1 33 "LightRows$Equations" "free" "I", Cond.fieldLink RX1 27 "LightRows$Equations" "quietPatterns" "[[I", Cond.methodLink RX1 65 yX1_readQuietPattern, Cond.instanceMethod yX1_readQuietPattern, Cond.selects RX1 yX1_readQuietPattern yX1_readQuietPattern, Cond.code yX1_readQuietPattern cX1_readQuietPattern 5 none, Cond.methodLink RX3 98 yX1_freeLamps, Cond.instanceMethod yX1_freeLamps]
def wsL_quiet_r4 : List Cond := [Cond.selects RX1 yX1_freeLamps yX1_freeLamps, Cond.code yX1_freeLamps cX1_freeLamps 1 (some .int), Cond.methodLink RX3 101 yX1_quietPattern, Cond.instanceMethod yX1_quietPattern, Cond.selects RX1 yX1_quietPattern yX1_quietPattern, Cond.code yX1_quietPattern cX1_quietPattern 2 (some (.array .int))]
def wsL_quiet : List Cond := .codeWith yL_quiet cL_quiet 5 (some .int) [(0, 10, 13, 13)] :: ((wsL_quiet_r1 ++ (wsL_quiet_r2 ++ (wsL_quiet_r3 ++ wsL_quiet_r4))) ++ wsX30 ++ wsJx000600 ++ wsX10)
def wsL_best_r1 : List Cond := [Cond.methodLink RL 39 yX3_best, Cond.instanceMethod yX3_best, Cond.selects RX3 yX3_best yX3_best, Cond.initialized RX3, Cond.code yX3_best cX3_best 2 (some .int), Cond.fieldLink RX3 51 "LightRows" "search" "LLightRows$Search;", Cond.methodLink RX3 69 yX3_mustExist, Cond.instanceMethod yX3_mustExist, Cond.selects RX3 yX3_mustExist yX3_mustExist, Cond.code yX3_mustExist cX3_mustExist 2 none, Cond.fieldLink RX3 18 "LightRows" "lamps" "I", Cond.classLink RX3 123 RJx00060, Cond.instantiable RJx00060 6, Cond.initialized RJx00060, Cond.methodLink RX3 114 yX3_seek, Cond.instanceMethod yX3_seek, Cond.selects RX3 yX3_seek yX3_seek, Cond.code yX3_seek cX3_seek 1 none, Cond.fieldLink RX3 66 "LightRows" "searched" "Z", Cond.fieldLink RX3 44 "LightRows" "equations" "LLightRows$Equations;", Cond.methodLink RX3 84 yX3_work, Cond.instanceMethod yX3_work, Cond.selects RX3 yX3_work yX3_work, Cond.code yX3_work cX3_work 1 none]
def wsL_best_r2 : List Cond := [Cond.fieldLink RX3 62 "LightRows" "worked" "Z", Cond.fieldLink RX3 36 "LightRows" "touched" "[I", Cond.fieldLink RX3 29 "LightRows" "now" "[I", Cond.fieldLink RX3 33 "LightRows" "wanted" "[I", Cond.methodLink RX3 130 yX1_take, Cond.instanceMethod yX1_take, Cond.selects RX1 yX1_take yX1_take, Cond.initialized RX1, Cond.code yX1_take cX1_take 7 none, Cond.fieldLink RX1 9 "LightRows$Equations" "size" "I", Cond.fieldLink RX1 20 "LightRows$Equations" "rows" "[[I", Cond.fieldLink RX1 15 "LightRows$Equations" "modulus" "I", Cond.methodLink RX3 134 yX1_reduce, Cond.instanceMethod yX1_reduce, Cond.selects RX1 yX1_reduce yX1_reduce, Cond.code yX1_reduce cX1_reduce 3 none, Cond.fieldLink RX1 30 "LightRows$Equations" "bound" "I", Cond.fieldLink RX1 23 "LightRows$Equations" "rowOf" "[I", Cond.methodLink RX1 36 yX1_unusedRowWith, Cond.instanceMethod yX1_unusedRowWith, Cond.selects RX1 yX1_unusedRowWith yX1_unusedRowWith, Cond.code yX1_unusedRowWith cX1_unusedRowWith 3 (some .int), Cond.methodLink RX1 40 yX1_swap, Cond.instanceMethod yX1_swap]
def wsL_best_r3 : List Cond := [Cond.selects RX1 yX1_swap yX1_swap, Cond.code yX1_swap cX1_swap 4 none, Cond.methodLink RX1 44 yX1_makeUnit, Cond.instanceMethod yX1_makeUnit, Cond.selects RX1 yX1_makeUnit yX1_makeUnit, Cond.code yX1_makeUnit cX1_makeUnit 5 none, Cond.methodLink RX1 58 yX1_inverse, Cond.instanceMethod yX1_inverse, Cond.selects RX1 yX1_inverse yX1_inverse, Cond.code yX1_inverse cX1_inverse 3 (some .int), Cond.methodLink RX1 48 yX1_clearElsewhere, Cond.instanceMethod yX1_clearElsewhere, Cond.selects RX1 yX1_clearElsewhere yX1_clearElsewhere, Cond.code yX1_clearElsewhere cX1_clearElsewhere 4 none, Cond.methodLink RX1 61 yX1_addMultiple, Cond.instanceMethod yX1_addMultiple, Cond.selects RX1 yX1_addMultiple yX1_addMultiple, Cond.code yX1_addMultiple cX1_addMultiple 5 none, Cond.methodLink RX1 51 yX1_readQuietPatterns, Cond.instanceMethod yX1_readQuietPatterns, Cond.selects RX1 yX1_readQuietPatterns yX1_readQuietPatterns, Cond.code yX1_readQuietPatterns cX1_readQuietPatterns 2 none, Cond.fieldLink RX1 33 "LightRows$Equations" "free" "I", Cond.fieldLink RX1 27 "LightRows$Equations" "quietPatterns" "[[I"]
def wsL_best_r4 : List Cond := [Cond.methodLink RX1 65 yX1_readQuietPattern, Cond.instanceMethod yX1_readQuietPattern, Cond.selects RX1 yX1_readQuietPattern yX1_readQuietPattern, Cond.code yX1_readQuietPattern cX1_readQuietPattern 5 none, Cond.methodLink RX3 137 yX2_run, Cond.instanceMethod yX2_run, Cond.selects RX2 yX2_run yX2_run, Cond.initialized RX2, Cond.code yX2_run cX2_run 4 none, Cond.fieldLink RX2 28 "LightRows$Search" "total" "I", Cond.methodLink RX2 31 yX1_answersUpTo, Cond.instanceMethod yX1_answersUpTo, Cond.selects RX1 yX1_answersUpTo yX1_answersUpTo, Cond.code yX1_answersUpTo cX1_answersUpTo 4 (some .int), Cond.methodLink RX1 54 yX1_agree, Cond.instanceMethod yX1_agree, Cond.selects RX1 yX1_agree yX1_agree, Cond.code yX1_agree cX1_agree 2 (some .boolean), Cond.methodLink RX2 37 yX2_begin, Cond.instanceMethod yX2_begin, Cond.selects RX2 yX2_begin yX2_begin, Cond.code yX2_begin cX2_begin 3 none, Cond.fieldLink RX2 9 "LightRows$Search" "size" "I", Cond.fieldLink RX2 18 "LightRows$Search" "tried" "[I"]
def wsL_best_r5 : List Cond := [Cond.fieldLink RX2 25 "LightRows$Search" "turns" "[I", Cond.methodLink RX2 47 yX1_pressesOf, Cond.instanceMethod yX1_pressesOf, Cond.selects RX1 yX1_pressesOf yX1_pressesOf, Cond.code yX1_pressesOf cX1_pressesOf 3 (some .int), Cond.methodLink RX2 50 yX2_totalTried, Cond.instanceMethod yX2_totalTried, Cond.selects RX2 yX2_totalTried yX2_totalTried, Cond.code yX2_totalTried cX2_totalTried 3 (some .int), Cond.methodLink RX2 54 yX2_keep, Cond.instanceMethod yX2_keep, Cond.selects RX2 yX2_keep yX2_keep, Cond.code yX2_keep cX2_keep 2 none, Cond.fieldLink RX2 22 "LightRows$Search" "least" "[I", Cond.methodLink RX2 73 arraycopyName, Cond.native arraycopyName, Cond.static arraycopyName, Cond.initialized "java/lang/System", Cond.methodLink RX2 41 yX2_advance, Cond.instanceMethod yX2_advance, Cond.selects RX2 yX2_advance yX2_advance, Cond.code yX2_advance cX2_advance 3 none, Cond.fieldLink RX2 15 "LightRows$Search" "modulus" "I", Cond.methodLink RX2 58 yX1_freeLamps]
def wsL_best_r6 : List Cond := [Cond.instanceMethod yX1_freeLamps, Cond.selects RX1 yX1_freeLamps yX1_freeLamps, Cond.code yX1_freeLamps cX1_freeLamps 1 (some .int), Cond.methodLink RX2 61 yX1_quietPattern, Cond.instanceMethod yX1_quietPattern, Cond.selects RX1 yX1_quietPattern yX1_quietPattern, Cond.code yX1_quietPattern cX1_quietPattern 2 (some (.array .int)), Cond.methodLink RX2 65 yX2_addToTried, Cond.instanceMethod yX2_addToTried, Cond.selects RX2 yX2_addToTried yX2_addToTried, Cond.code yX2_addToTried cX2_addToTried 4 none, Cond.methodLink RX2 44 yX2_keepIfLess, Cond.instanceMethod yX2_keepIfLess, Cond.selects RX2 yX2_keepIfLess yX2_keepIfLess, Cond.code yX2_keepIfLess cX2_keepIfLess 2 none, Cond.methodLink RX2 69 yX2_triedIsAhead, Cond.instanceMethod yX2_triedIsAhead, Cond.selects RX2 yX2_triedIsAhead yX2_triedIsAhead, Cond.code yX2_triedIsAhead cX2_triedIsAhead 2 (some .boolean), Cond.methodLink RX3 117 yX2_leastTotal, Cond.instanceMethod yX2_leastTotal, Cond.selects RX2 yX2_leastTotal yX2_leastTotal, Cond.code yX2_leastTotal cX2_leastTotal 1 (some .int), Cond.methodLink RX3 120 yX2_leastPresses]
def wsL_best_r7 : List Cond := [Cond.instanceMethod yX2_leastPresses, Cond.selects RX2 yX2_leastPresses yX2_leastPresses, Cond.code yX2_leastPresses cX2_leastPresses 2 (some .int)]
def wsL_best : List Cond := .codeWith yL_best cL_best 4 (some .int) [(0, 9, 12, 13)] :: ((wsL_best_r1 ++ (wsL_best_r2 ++ (wsL_best_r3 ++ (wsL_best_r4 ++ (wsL_best_r5 ++ (wsL_best_r6 ++ wsL_best_r7)))))) ++ wsX30 ++ wsJx000600 ++ wsX10 ++ wsX20)
def wsL_alone_r1 : List Cond := [Cond.methodLink RL 42 yX3_alone, Cond.instanceMethod yX3_alone, Cond.selects RX3 yX3_alone yX3_alone, Cond.initialized RX3, Cond.code yX3_alone cX3_alone 3 (some .boolean), Cond.fieldLink RX3 44 "LightRows" "equations" "LLightRows$Equations;", Cond.methodLink RX3 69 yX3_mustExist, Cond.instanceMethod yX3_mustExist, Cond.selects RX3 yX3_mustExist yX3_mustExist, Cond.code yX3_mustExist cX3_mustExist 2 none, Cond.fieldLink RX3 18 "LightRows" "lamps" "I", Cond.classLink RX3 123 RJx00060, Cond.instantiable RJx00060 6, Cond.initialized RJx00060, Cond.methodLink RX3 84 yX3_work, Cond.instanceMethod yX3_work, Cond.selects RX3 yX3_work yX3_work, Cond.code yX3_work cX3_work 1 none, Cond.fieldLink RX3 62 "LightRows" "worked" "Z", Cond.fieldLink RX3 36 "LightRows" "touched" "[I", Cond.fieldLink RX3 29 "LightRows" "now" "[I", Cond.fieldLink RX3 33 "LightRows" "wanted" "[I", Cond.methodLink RX3 130 yX1_take, Cond.instanceMethod yX1_take]
def wsL_alone_r2 : List Cond := [Cond.selects RX1 yX1_take yX1_take, Cond.initialized RX1, Cond.code yX1_take cX1_take 7 none, Cond.fieldLink RX1 9 "LightRows$Equations" "size" "I", Cond.fieldLink RX1 20 "LightRows$Equations" "rows" "[[I", Cond.fieldLink RX1 15 "LightRows$Equations" "modulus" "I", Cond.methodLink RX3 134 yX1_reduce, Cond.instanceMethod yX1_reduce, Cond.selects RX1 yX1_reduce yX1_reduce, Cond.code yX1_reduce cX1_reduce 3 none, Cond.fieldLink RX1 30 "LightRows$Equations" "bound" "I", Cond.fieldLink RX1 23 "LightRows$Equations" "rowOf" "[I", Cond.methodLink RX1 36 yX1_unusedRowWith, Cond.instanceMethod yX1_unusedRowWith, Cond.selects RX1 yX1_unusedRowWith yX1_unusedRowWith, Cond.code yX1_unusedRowWith cX1_unusedRowWith 3 (some .int), Cond.methodLink RX1 40 yX1_swap, Cond.instanceMethod yX1_swap, Cond.selects RX1 yX1_swap yX1_swap, Cond.code yX1_swap cX1_swap 4 none, Cond.methodLink RX1 44 yX1_makeUnit, Cond.instanceMethod yX1_makeUnit, Cond.selects RX1 yX1_makeUnit yX1_makeUnit, Cond.code yX1_makeUnit cX1_makeUnit 5 none]
def wsL_alone_r3 : List Cond := [Cond.methodLink RX1 58 yX1_inverse, Cond.instanceMethod yX1_inverse, Cond.selects RX1 yX1_inverse yX1_inverse, Cond.code yX1_inverse cX1_inverse 3 (some .int), Cond.methodLink RX1 48 yX1_clearElsewhere, Cond.instanceMethod yX1_clearElsewhere, Cond.selects RX1 yX1_clearElsewhere yX1_clearElsewhere, Cond.code yX1_clearElsewhere cX1_clearElsewhere 4 none, Cond.methodLink RX1 61 yX1_addMultiple, Cond.instanceMethod yX1_addMultiple, Cond.selects RX1 yX1_addMultiple yX1_addMultiple, Cond.code yX1_addMultiple cX1_addMultiple 5 none, Cond.methodLink RX1 51 yX1_readQuietPatterns, Cond.instanceMethod yX1_readQuietPatterns, Cond.selects RX1 yX1_readQuietPatterns yX1_readQuietPatterns, Cond.code yX1_readQuietPatterns cX1_readQuietPatterns 2 none, Cond.fieldLink RX1 33 "LightRows$Equations" "free" "I", Cond.fieldLink RX1 27 "LightRows$Equations" "quietPatterns" "[[I", Cond.methodLink RX1 65 yX1_readQuietPattern, Cond.instanceMethod yX1_readQuietPattern, Cond.selects RX1 yX1_readQuietPattern yX1_readQuietPattern, Cond.code yX1_readQuietPattern cX1_readQuietPattern 5 none, Cond.methodLink RX3 98 yX1_freeLamps, Cond.instanceMethod yX1_freeLamps]
def wsL_alone_r4 : List Cond := [Cond.selects RX1 yX1_freeLamps yX1_freeLamps, Cond.code yX1_freeLamps cX1_freeLamps 1 (some .int), Cond.methodLink RX3 101 yX1_quietPattern, Cond.instanceMethod yX1_quietPattern, Cond.selects RX1 yX1_quietPattern yX1_quietPattern, Cond.code yX1_quietPattern cX1_quietPattern 2 (some (.array .int))]
def wsL_alone : List Cond := .codeWith yL_alone cL_alone 4 (some .int) [(0, 16, 19, 13)] :: ((wsL_alone_r1 ++ (wsL_alone_r2 ++ (wsL_alone_r3 ++ wsL_alone_r4))) ++ wsX30 ++ wsJx000600 ++ wsX10)
def wsL_law_r1 : List Cond := [Cond.classLink RL 8 RX3, Cond.instantiable RX3 10, Cond.initialized RX3, Cond.classLink RL 55 RX4, Cond.instantiable RX4 20, Cond.initialized RX4, Cond.arrayClass .long, Cond.methodLink RL 46 yL_cell, Cond.static yL_cell, Cond.initialized RL, Cond.code yL_cell cL_cell 2 (some .int), Cond.methodLink RL 52 yX3_init, Cond.instanceMethod yX3_init, Cond.code yX3_init cX3_init 4 none, Cond.methodLink RX3 1 objectInit, Cond.instanceMethod objectInit, Cond.code objectInit ⟨#[0xb1]⟩ 1 none, Cond.methodLink RX3 9 Lib.Math.min.name, Cond.static Lib.Math.min.name, Cond.initialized "java/lang/Math", Cond.code Lib.Math.min.name Lib.Math.min.code 2 (some .int), Cond.methodLink RX3 15 Lib.Math.max.name, Cond.static Lib.Math.max.name, Cond.code Lib.Math.max.name Lib.Math.max.code 2 (some .int)]
def wsL_law_r2 : List Cond := [Cond.fieldLink RX3 18 "LightRows" "lamps" "I", Cond.fieldLink RX3 26 "LightRows" "states" "I", Cond.arrayClass .int, Cond.fieldLink RX3 29 "LightRows" "now" "[I", Cond.fieldLink RX3 33 "LightRows" "wanted" "[I", Cond.fieldLink RX3 36 "LightRows" "touched" "[I", Cond.classLink RX3 39 RX1, Cond.instantiable RX1 7, Cond.initialized RX1, Cond.fieldLink RX3 44 "LightRows" "equations" "LLightRows$Equations;", Cond.classLink RX3 48 RX2, Cond.instantiable RX2 6, Cond.initialized RX2, Cond.fieldLink RX3 51 "LightRows" "search" "LLightRows$Search;", Cond.classLink RX3 55 RX0, Cond.instantiable RX0 2, Cond.initialized RX0, Cond.fieldLink RX3 58 "LightRows" "decimal" "LLightRows$Decimal;", Cond.fieldLink RX3 62 "LightRows" "worked" "Z", Cond.fieldLink RX3 66 "LightRows" "searched" "Z", Cond.methodLink RX3 22 yX3_primeFor, Cond.static yX3_primeFor, Cond.code yX3_primeFor cX3_primeFor 1 (some .int), Cond.methodLink RX3 41 yX1_init]
def wsL_law_r3 : List Cond := [Cond.instanceMethod yX1_init, Cond.code yX1_init cX1_init 3 none, Cond.methodLink RX1 3 objectInit, Cond.fieldLink RX1 9 "LightRows$Equations" "size" "I", Cond.fieldLink RX1 15 "LightRows$Equations" "modulus" "I", Cond.classLink RX1 18 "[[I", Cond.fieldLink RX1 20 "LightRows$Equations" "rows" "[[I", Cond.fieldLink RX1 23 "LightRows$Equations" "rowOf" "[I", Cond.fieldLink RX1 27 "LightRows$Equations" "quietPatterns" "[[I", Cond.fieldLink RX1 30 "LightRows$Equations" "bound" "I", Cond.fieldLink RX1 33 "LightRows$Equations" "free" "I", Cond.methodLink RX3 50 yX2_init, Cond.instanceMethod yX2_init, Cond.code yX2_init cX2_init 3 none, Cond.methodLink RX2 3 objectInit, Cond.fieldLink RX2 9 "LightRows$Search" "size" "I", Cond.fieldLink RX2 15 "LightRows$Search" "modulus" "I", Cond.fieldLink RX2 18 "LightRows$Search" "tried" "[I", Cond.fieldLink RX2 22 "LightRows$Search" "least" "[I", Cond.fieldLink RX2 25 "LightRows$Search" "turns" "[I", Cond.fieldLink RX2 28 "LightRows$Search" "total" "I", Cond.methodLink RX3 57 yX0_init, Cond.instanceMethod yX0_init, Cond.code yX0_init cX0_init 1 none]
def wsL_law_r4 : List Cond := [Cond.methodLink RX0 3 objectInit, Cond.fieldLink RX0 11 "LightRows$Decimal" "digits" "[I", Cond.fieldLink RX0 15 "LightRows$Decimal" "length" "I", Cond.methodLink RL 57 yX4_init, Cond.instanceMethod yX4_init, Cond.code yX4_init cX4_init 3 none, Cond.methodLink RX4 1 objectInit, Cond.arrayClass .boolean, Cond.fieldLink RX4 7 "LightRowsModel" "joined" "[Z", Cond.fieldLink RX4 13 "LightRowsModel" "isNotSelf" "[Z", Cond.fieldLink RX4 16 "LightRowsModel" "states" "[I", Cond.fieldLink RX4 20 "LightRowsModel" "wanted" "[I", Cond.fieldLink RX4 23 "LightRowsModel" "rows" "[I", Cond.fieldLink RX4 26 "LightRowsModel" "presses" "[I", Cond.fieldLink RX4 29 "LightRowsModel" "heads" "[I", Cond.fieldLink RX4 32 "LightRowsModel" "isBound" "[Z", Cond.fieldLink RX4 35 "LightRowsModel" "rest" "[I", Cond.fieldLink RX4 38 "LightRowsModel" "by" "[I", Cond.fieldLink RX4 41 "LightRowsModel" "answer" "[I", Cond.fieldLink RX4 44 "LightRowsModel" "quiet" "[I", Cond.fieldLink RX4 47 "LightRowsModel" "best" "[I", Cond.fieldLink RX4 50 "LightRowsModel" "tried" "[I", Cond.fieldLink RX4 53 "LightRowsModel" "digits" "[I", Cond.fieldLink RX4 56 "LightRowsModel" "lamps" "I"]
def wsL_law_r5 : List Cond := [Cond.fieldLink RX4 60 "LightRowsModel" "p" "I", Cond.methodLink RL 58 yL_join, Cond.static yL_join, Cond.codeWith yL_join cL_join 5 (some .int) [(0, 17, 20, 13)], Cond.methodLink RL 7 yX3_join, Cond.instanceMethod yX3_join, Cond.selects RX3 yX3_join yX3_join, Cond.code yX3_join cX3_join 3 (some .boolean), Cond.methodLink RX3 69 yX3_mustExist, Cond.instanceMethod yX3_mustExist, Cond.selects RX3 yX3_mustExist yX3_mustExist, Cond.code yX3_mustExist cX3_mustExist 2 none, Cond.classLink RX3 123 RJx00060, Cond.instantiable RJx00060 6, Cond.initialized RJx00060, Cond.methodLink RX3 73 yX3_touches, Cond.instanceMethod yX3_touches, Cond.selects RX3 yX3_touches yX3_touches, Cond.code yX3_touches cX3_touches 3 (some .boolean), Cond.methodLink RX3 77 yX3_forget, Cond.instanceMethod yX3_forget, Cond.selects RX3 yX3_forget yX3_forget, Cond.code yX3_forget cX3_forget 1 none, Cond.methodLink RL 61 yX4_join]
def wsL_law_r6 : List Cond := [Cond.instanceMethod yX4_join, Cond.selects RX4 yX4_join yX4_join, Cond.code yX4_join cX4_join 3 (some .boolean), Cond.fieldLink RX4 74 "LightRowsModel" "isKnown" "Z", Cond.methodLink RX4 66 yX4_isLamp, Cond.instanceMethod yX4_isLamp, Cond.selects RX4 yX4_isLamp yX4_isLamp, Cond.code yX4_isLamp cX4_isLamp 2 (some .boolean), Cond.methodLink RX4 70 yX4_fails, Cond.instanceMethod yX4_fails, Cond.selects RX4 yX4_fails yX4_fails, Cond.code yX4_fails cX4_fails 2 (some .boolean), Cond.fieldLink RX4 63 "LightRowsModel" "thrown" "I", Cond.methodLink RL 62 yX4_thrown, Cond.instanceMethod yX4_thrown, Cond.selects RX4 yX4_thrown yX4_thrown, Cond.code yX4_thrown cX4_thrown 1 (some .int), Cond.methodLink RL 66 yL_self, Cond.static yL_self, Cond.codeWith yL_self cL_self 5 (some .int) [(0, 17, 20, 13)], Cond.methodLink RL 15 yX3_self, Cond.instanceMethod yX3_self, Cond.selects RX3 yX3_self yX3_self, Cond.code yX3_self cX3_self 3 (some .boolean)]
def wsL_law_r7 : List Cond := [Cond.methodLink RL 69 yX4_self, Cond.instanceMethod yX4_self, Cond.selects RX4 yX4_self yX4_self, Cond.code yX4_self cX4_self 3 (some .boolean), Cond.methodLink RL 70 yL_set, Cond.static yL_set, Cond.codeWith yL_set cL_set 5 (some .int) [(0, 17, 20, 13)], Cond.methodLink RL 19 yX3_set, Cond.instanceMethod yX3_set, Cond.selects RX3 yX3_set yX3_set, Cond.code yX3_set cX3_set 3 (some .boolean), Cond.methodLink RX3 80 yX3_isState, Cond.instanceMethod yX3_isState, Cond.selects RX3 yX3_isState yX3_isState, Cond.code yX3_isState cX3_isState 2 (some .boolean), Cond.methodLink RL 72 yX4_set, Cond.instanceMethod yX4_set, Cond.selects RX4 yX4_set yX4_set, Cond.code yX4_set cX4_set 3 (some .boolean), Cond.methodLink RX4 78 yX4_isState, Cond.instanceMethod yX4_isState, Cond.selects RX4 yX4_isState yX4_isState, Cond.code yX4_isState cX4_isState 2 (some .boolean), Cond.methodLink RL 73 yL_want]
def wsL_law_r8 : List Cond := [Cond.static yL_want, Cond.codeWith yL_want cL_want 5 (some .int) [(0, 17, 20, 13)], Cond.methodLink RL 22 yX3_want, Cond.instanceMethod yX3_want, Cond.selects RX3 yX3_want yX3_want, Cond.code yX3_want cX3_want 3 (some .boolean), Cond.methodLink RL 75 yX4_want, Cond.instanceMethod yX4_want, Cond.selects RX4 yX4_want yX4_want, Cond.code yX4_want cX4_want 3 (some .boolean), Cond.methodLink RL 76 yL_press, Cond.static yL_press, Cond.codeWith yL_press cL_press 5 (some .int) [(0, 17, 20, 13)], Cond.methodLink RL 25 yX3_press, Cond.instanceMethod yX3_press, Cond.selects RX3 yX3_press yX3_press, Cond.code yX3_press cX3_press 4 (some .boolean), Cond.methodLink RL 78 yX4_press, Cond.instanceMethod yX4_press, Cond.selects RX4 yX4_press yX4_press, Cond.code yX4_press cX4_press 4 (some .boolean), Cond.methodLink RX4 81 yX4_effect, Cond.instanceMethod yX4_effect, Cond.selects RX4 yX4_effect yX4_effect]
def wsL_law_r9 : List Cond := [Cond.code yX4_effect cX4_effect 3 (some .int), Cond.methodLink RL 79 yL_at, Cond.static yL_at, Cond.codeWith yL_at cL_at 4 (some .int) [(0, 9, 12, 13)], Cond.methodLink RL 28 yX3_at, Cond.instanceMethod yX3_at, Cond.selects RX3 yX3_at yX3_at, Cond.code yX3_at cX3_at 2 (some .int), Cond.methodLink RL 82 yX4_at, Cond.instanceMethod yX4_at, Cond.selects RX4 yX4_at yX4_at, Cond.code yX4_at cX4_at 2 (some .int), Cond.methodLink RL 83 yX3_apart, Cond.instanceMethod yX3_apart, Cond.selects RX3 yX3_apart yX3_apart, Cond.code yX3_apart cX3_apart 3 (some .int), Cond.methodLink RL 86 yX4_apart, Cond.instanceMethod yX4_apart, Cond.selects RX4 yX4_apart yX4_apart, Cond.code yX4_apart cX4_apart 3 (some .int), Cond.methodLink RL 87 yX3_rank, Cond.instanceMethod yX3_rank, Cond.selects RX3 yX3_rank yX3_rank, Cond.code yX3_rank cX3_rank 1 (some .int)]
def wsL_law_r10 : List Cond := [Cond.methodLink RX3 84 yX3_work, Cond.instanceMethod yX3_work, Cond.selects RX3 yX3_work yX3_work, Cond.code yX3_work cX3_work 1 none, Cond.methodLink RX3 130 yX1_take, Cond.instanceMethod yX1_take, Cond.selects RX1 yX1_take yX1_take, Cond.code yX1_take cX1_take 7 none, Cond.methodLink RX3 134 yX1_reduce, Cond.instanceMethod yX1_reduce, Cond.selects RX1 yX1_reduce yX1_reduce, Cond.code yX1_reduce cX1_reduce 3 none, Cond.methodLink RX1 36 yX1_unusedRowWith, Cond.instanceMethod yX1_unusedRowWith, Cond.selects RX1 yX1_unusedRowWith yX1_unusedRowWith, Cond.code yX1_unusedRowWith cX1_unusedRowWith 3 (some .int), Cond.methodLink RX1 40 yX1_swap, Cond.instanceMethod yX1_swap, Cond.selects RX1 yX1_swap yX1_swap, Cond.code yX1_swap cX1_swap 4 none, Cond.methodLink RX1 44 yX1_makeUnit, Cond.instanceMethod yX1_makeUnit, Cond.selects RX1 yX1_makeUnit yX1_makeUnit, Cond.code yX1_makeUnit cX1_makeUnit 5 none]
def wsL_law_r11 : List Cond := [Cond.methodLink RX1 58 yX1_inverse, Cond.instanceMethod yX1_inverse, Cond.selects RX1 yX1_inverse yX1_inverse, Cond.code yX1_inverse cX1_inverse 3 (some .int), Cond.methodLink RX1 48 yX1_clearElsewhere, Cond.instanceMethod yX1_clearElsewhere, Cond.selects RX1 yX1_clearElsewhere yX1_clearElsewhere, Cond.code yX1_clearElsewhere cX1_clearElsewhere 4 none, Cond.methodLink RX1 61 yX1_addMultiple, Cond.instanceMethod yX1_addMultiple, Cond.selects RX1 yX1_addMultiple yX1_addMultiple, Cond.code yX1_addMultiple cX1_addMultiple 5 none, Cond.methodLink RX1 51 yX1_readQuietPatterns, Cond.instanceMethod yX1_readQuietPatterns, Cond.selects RX1 yX1_readQuietPatterns yX1_readQuietPatterns, Cond.code yX1_readQuietPatterns cX1_readQuietPatterns 2 none, Cond.methodLink RX1 65 yX1_readQuietPattern, Cond.instanceMethod yX1_readQuietPattern, Cond.selects RX1 yX1_readQuietPattern yX1_readQuietPattern, Cond.code yX1_readQuietPattern cX1_readQuietPattern 5 none, Cond.methodLink RX3 87 yX1_boundLamps, Cond.instanceMethod yX1_boundLamps, Cond.selects RX1 yX1_boundLamps yX1_boundLamps, Cond.code yX1_boundLamps cX1_boundLamps 1 (some .int)]
def wsL_law_r12 : List Cond := [Cond.methodLink RL 90 yX4_rank, Cond.instanceMethod yX4_rank, Cond.selects RX4 yX4_rank yX4_rank, Cond.code yX4_rank cX4_rank 1 (some .int), Cond.fieldLink RX4 85 "LightRowsModel" "rank" "I", Cond.methodLink RX4 99 yX4_know, Cond.instanceMethod yX4_know, Cond.selects RX4 yX4_know yX4_know, Cond.code yX4_know cX4_know 5 none, Cond.methodLink RX4 92 yX4_takeApart, Cond.instanceMethod yX4_takeApart, Cond.selects RX4 yX4_takeApart yX4_takeApart, Cond.code yX4_takeApart cX4_takeApart 4 none, Cond.methodLink RX4 88 yX4_inverse, Cond.instanceMethod yX4_inverse, Cond.selects RX4 yX4_inverse yX4_inverse, Cond.code yX4_inverse cX4_inverse 3 (some .int), Cond.methodLink RX4 95 yX4_left, Cond.instanceMethod yX4_left, Cond.selects RX4 yX4_left yX4_left, Cond.code yX4_left cX4_left 2 (some .int), Cond.methodLink RL 91 yX3_solvable, Cond.instanceMethod yX3_solvable, Cond.selects RX3 yX3_solvable yX3_solvable]
def wsL_law_r13 : List Cond := [Cond.code yX3_solvable cX3_solvable 1 (some .boolean), Cond.methodLink RX3 91 yX1_agree, Cond.instanceMethod yX1_agree, Cond.selects RX1 yX1_agree yX1_agree, Cond.code yX1_agree cX1_agree 2 (some .boolean), Cond.methodLink RL 95 yX4_solvable, Cond.instanceMethod yX4_solvable, Cond.selects RX4 yX4_solvable yX4_solvable, Cond.code yX4_solvable cX4_solvable 1 (some .boolean), Cond.methodLink RX4 102 yX4_answers, Cond.instanceMethod yX4_answers, Cond.selects RX4 yX4_answers yX4_answers, Cond.code yX4_answers cX4_answers 2 (some .boolean), Cond.methodLink RL 96 yL_answer, Cond.static yL_answer, Cond.codeWith yL_answer cL_answer 4 (some .int) [(0, 9, 12, 13)], Cond.methodLink RL 32 yX3_answer, Cond.instanceMethod yX3_answer, Cond.selects RX3 yX3_answer yX3_answer, Cond.code yX3_answer cX3_answer 2 (some .int), Cond.methodLink RX3 95 yX1_pressesOf, Cond.instanceMethod yX1_pressesOf, Cond.selects RX1 yX1_pressesOf yX1_pressesOf, Cond.code yX1_pressesOf cX1_pressesOf 3 (some .int)]
def wsL_law_r14 : List Cond := [Cond.methodLink RL 98 yX4_answer, Cond.instanceMethod yX4_answer, Cond.selects RX4 yX4_answer yX4_answer, Cond.code yX4_answer cX4_answer 2 (some .int), Cond.methodLink RL 99 yL_quiet, Cond.static yL_quiet, Cond.codeWith yL_quiet cL_quiet 5 (some .int) [(0, 10, 13, 13)], Cond.methodLink RL 35 yX3_quiet, Cond.instanceMethod yX3_quiet, Cond.selects RX3 yX3_quiet yX3_quiet, Cond.code yX3_quiet cX3_quiet 3 (some .int), Cond.methodLink RX3 98 yX1_freeLamps, Cond.instanceMethod yX1_freeLamps, Cond.selects RX1 yX1_freeLamps yX1_freeLamps, Cond.code yX1_freeLamps cX1_freeLamps 1 (some .int), Cond.methodLink RX3 101 yX1_quietPattern, Cond.instanceMethod yX1_quietPattern, Cond.selects RX1 yX1_quietPattern yX1_quietPattern, Cond.code yX1_quietPattern cX1_quietPattern 2 (some (.array .int)), Cond.methodLink RL 101 yX4_quiet, Cond.instanceMethod yX4_quiet, Cond.selects RX4 yX4_quiet yX4_quiet, Cond.code yX4_quiet cX4_quiet 3 (some .int), Cond.methodLink RL 102 yX3_count]
def wsL_law_r15 : List Cond := [Cond.instanceMethod yX3_count, Cond.selects RX3 yX3_count yX3_count, Cond.code yX3_count cX3_count 3 (some .int), Cond.methodLink RX3 105 yX0_become, Cond.instanceMethod yX0_become, Cond.selects RX0 yX0_become yX0_become, Cond.code yX0_become cX0_become 2 none, Cond.methodLink RX3 108 yX0_multiply, Cond.instanceMethod yX0_multiply, Cond.selects RX0 yX0_multiply yX0_multiply, Cond.code yX0_multiply cX0_multiply 5 none, Cond.methodLink RX3 111 yX0_digit, Cond.instanceMethod yX0_digit, Cond.selects RX0 yX0_digit yX0_digit, Cond.code yX0_digit cX0_digit 2 (some .int), Cond.methodLink RL 105 yX4_count, Cond.instanceMethod yX4_count, Cond.selects RX4 yX4_count yX4_count, Cond.code yX4_count cX4_count 8 (some .int), Cond.methodLink RL 106 yX3_fewest, Cond.instanceMethod yX3_fewest, Cond.selects RX3 yX3_fewest yX3_fewest, Cond.code yX3_fewest cX3_fewest 1 (some .int), Cond.methodLink RX3 114 yX3_seek]
def wsL_law_r16 : List Cond := [Cond.instanceMethod yX3_seek, Cond.selects RX3 yX3_seek yX3_seek, Cond.code yX3_seek cX3_seek 1 none, Cond.methodLink RX3 137 yX2_run, Cond.instanceMethod yX2_run, Cond.selects RX2 yX2_run yX2_run, Cond.code yX2_run cX2_run 4 none, Cond.methodLink RX2 31 yX1_answersUpTo, Cond.instanceMethod yX1_answersUpTo, Cond.selects RX1 yX1_answersUpTo yX1_answersUpTo, Cond.code yX1_answersUpTo cX1_answersUpTo 4 (some .int), Cond.methodLink RX1 54 yX1_agree, Cond.methodLink RX2 37 yX2_begin, Cond.instanceMethod yX2_begin, Cond.selects RX2 yX2_begin yX2_begin, Cond.code yX2_begin cX2_begin 3 none, Cond.methodLink RX2 47 yX1_pressesOf, Cond.methodLink RX2 50 yX2_totalTried, Cond.instanceMethod yX2_totalTried, Cond.selects RX2 yX2_totalTried yX2_totalTried, Cond.code yX2_totalTried cX2_totalTried 3 (some .int), Cond.methodLink RX2 54 yX2_keep, Cond.instanceMethod yX2_keep, Cond.selects RX2 yX2_keep yX2_keep]
def wsL_law_r17 : List Cond := [Cond.code yX2_keep cX2_keep 2 none, Cond.methodLink RX2 73 arraycopyName, Cond.native arraycopyName, Cond.static arraycopyName, Cond.initialized "java/lang/System", Cond.methodLink RX2 41 yX2_advance, Cond.instanceMethod yX2_advance, Cond.selects RX2 yX2_advance yX2_advance, Cond.code yX2_advance cX2_advance 3 none, Cond.methodLink RX2 58 yX1_freeLamps, Cond.methodLink RX2 61 yX1_quietPattern, Cond.methodLink RX2 65 yX2_addToTried, Cond.instanceMethod yX2_addToTried, Cond.selects RX2 yX2_addToTried yX2_addToTried, Cond.code yX2_addToTried cX2_addToTried 4 none, Cond.methodLink RX2 44 yX2_keepIfLess, Cond.instanceMethod yX2_keepIfLess, Cond.selects RX2 yX2_keepIfLess yX2_keepIfLess, Cond.code yX2_keepIfLess cX2_keepIfLess 2 none, Cond.methodLink RX2 69 yX2_triedIsAhead, Cond.instanceMethod yX2_triedIsAhead, Cond.selects RX2 yX2_triedIsAhead yX2_triedIsAhead, Cond.code yX2_triedIsAhead cX2_triedIsAhead 2 (some .boolean), Cond.methodLink RX3 117 yX2_leastTotal]
def wsL_law_r18 : List Cond := [Cond.instanceMethod yX2_leastTotal, Cond.selects RX2 yX2_leastTotal yX2_leastTotal, Cond.code yX2_leastTotal cX2_leastTotal 1 (some .int), Cond.methodLink RL 109 yX4_fewest, Cond.instanceMethod yX4_fewest, Cond.selects RX4 yX4_fewest yX4_fewest, Cond.code yX4_fewest cX4_fewest 1 (some .int), Cond.methodLink RX4 112 yX4_findBest, Cond.instanceMethod yX4_findBest, Cond.selects RX4 yX4_findBest yX4_findBest, Cond.code yX4_findBest cX4_findBest 6 (some .int), Cond.methodLink RX4 106 yX4_tryWay, Cond.instanceMethod yX4_tryWay, Cond.selects RX4 yX4_tryWay yX4_tryWay, Cond.code yX4_tryWay cX4_tryWay 6 (some .int), Cond.methodLink RX4 109 yX4_isLess, Cond.instanceMethod yX4_isLess, Cond.selects RX4 yX4_isLess yX4_isLess, Cond.code yX4_isLess cX4_isLess 2 (some .boolean), Cond.methodLink RL 110 yL_best, Cond.static yL_best, Cond.codeWith yL_best cL_best 4 (some .int) [(0, 9, 12, 13)], Cond.methodLink RL 39 yX3_best, Cond.instanceMethod yX3_best]
def wsL_law_r19 : List Cond := [Cond.selects RX3 yX3_best yX3_best, Cond.code yX3_best cX3_best 2 (some .int), Cond.methodLink RX3 120 yX2_leastPresses, Cond.instanceMethod yX2_leastPresses, Cond.selects RX2 yX2_leastPresses yX2_leastPresses, Cond.code yX2_leastPresses cX2_leastPresses 2 (some .int), Cond.methodLink RL 112 yX4_best, Cond.instanceMethod yX4_best, Cond.selects RX4 yX4_best yX4_best, Cond.code yX4_best cX4_best 3 (some .int), Cond.methodLink RL 113 yL_alone, Cond.static yL_alone, Cond.codeWith yL_alone cL_alone 4 (some .int) [(0, 16, 19, 13)], Cond.methodLink RL 42 yX3_alone, Cond.instanceMethod yX3_alone, Cond.selects RX3 yX3_alone yX3_alone, Cond.code yX3_alone cX3_alone 3 (some .boolean), Cond.methodLink RL 115 yX4_alone, Cond.instanceMethod yX4_alone, Cond.selects RX4 yX4_alone yX4_alone, Cond.code yX4_alone cX4_alone 3 (some .boolean), Cond.methodLink RL 116 yX3_clear, Cond.instanceMethod yX3_clear, Cond.selects RX3 yX3_clear yX3_clear]
def wsL_law_r20 : List Cond := [Cond.code yX3_clear cX3_clear 2 none, Cond.methodLink RL 119 yX4_clear, Cond.instanceMethod yX4_clear, Cond.selects RX4 yX4_clear yX4_clear, Cond.code yX4_clear cX4_clear 2 none]
def wsL_law : List Cond := (wsL_law_r1 ++ (wsL_law_r2 ++ (wsL_law_r3 ++ (wsL_law_r4 ++ (wsL_law_r5 ++ (wsL_law_r6 ++ (wsL_law_r7 ++ (wsL_law_r8 ++ (wsL_law_r9 ++ (wsL_law_r10 ++ (wsL_law_r11 ++ (wsL_law_r12 ++ (wsL_law_r13 ++ (wsL_law_r14 ++ (wsL_law_r15 ++ (wsL_law_r16 ++ (wsL_law_r17 ++ (wsL_law_r18 ++ (wsL_law_r19 ++ wsL_law_r20))))))))))))))))))) ++ wsX30 ++ wsX40 ++ wsX10 ++ wsX20 ++ wsX00 ++ wsJx000600 ++ ([] : List Cond)
set_option maxRecDepth 20000 in
theorem wsL_law_in : ∀ w ∈ wsL_law, w ∈ lw_tbl := fun w h => (goodIn_p wsL_law [319, 51, 54, 57, 60, 63, 68, 99, 124, 484, 327, 331, 406, 316, 555, 559, 563, 551, 413, 567, 420, 424, 571, 575, 431, 579, 438, 583, 587, 445, 591, 167, 595, 171, 175, 179, 183, 187, 191, 195, 199, 203, 207, 211, 215, 219, 603, 607, 611, 615, 619, 223, 227, 623, 627, 452, 272, 631, 460, 239, 292, 635, 231, 235, 243, 247, 639, 251, 255, 259, 263, 268, 276, 280, 287, 296, 300, 304, 308, 643, 647, 651, 655, 468, 472, 659, 479, 663, 312, 599] (by decide +kernel) (by decide +kernel) w h).1
theorem inlX0 : ∀ w ∈ wsX00, w ∈ wsL_law := fun _ h => List.mem_append_left _ (List.mem_append_left _ (List.mem_append_right _ h))
theorem inX0 : ∀ w ∈ wsX00, w ∈ lw_tbl := fun w h => wsL_law_in w (inlX0 w h)
theorem inlX1 : ∀ w ∈ wsX10, w ∈ wsL_law := fun _ h => List.mem_append_left _ (List.mem_append_left _ (List.mem_append_left _ (List.mem_append_left _ (List.mem_append_right _ h))))
theorem inX1 : ∀ w ∈ wsX10, w ∈ lw_tbl := fun w h => wsL_law_in w (inlX1 w h)
theorem inlX2 : ∀ w ∈ wsX20, w ∈ wsL_law := fun _ h => List.mem_append_left _ (List.mem_append_left _ (List.mem_append_left _ (List.mem_append_right _ h)))
theorem inX2 : ∀ w ∈ wsX20, w ∈ lw_tbl := fun w h => wsL_law_in w (inlX2 w h)
theorem inlX3 : ∀ w ∈ wsX30, w ∈ wsL_law := fun _ h => List.mem_append_left _ (List.mem_append_left _ (List.mem_append_left _ (List.mem_append_left _ (List.mem_append_left _ (List.mem_append_left _ (List.mem_append_right _ h))))))
theorem inX3 : ∀ w ∈ wsX30, w ∈ lw_tbl := fun w h => wsL_law_in w (inlX3 w h)
theorem inlX4 : ∀ w ∈ wsX40, w ∈ wsL_law := fun _ h => List.mem_append_left _ (List.mem_append_left _ (List.mem_append_left _ (List.mem_append_left _ (List.mem_append_left _ (List.mem_append_right _ h)))))
theorem inX4 : ∀ w ∈ wsX40, w ∈ lw_tbl := fun w h => wsL_law_in w (inlX4 w h)
theorem inlJx00060 : ∀ w ∈ wsJx000600, w ∈ wsL_law := fun _ h => List.mem_append_left _ (List.mem_append_right _ h)
theorem inJx00060 : ∀ w ∈ wsJx000600, w ∈ lw_tbl := fun w h => wsL_law_in w (inlJx00060 w h)
theorem inJ9 : ∀ w ∈ wsJ90, w ∈ lw_tbl := by decide +kernel
theorem inJ0 : ∀ w ∈ wsJ00, w ∈ lw_tbl := by decide +kernel
theorem inJ10 : ∀ w ∈ wsJ100, w ∈ lw_tbl := by decide +kernel
set_option maxRecDepth 20000 in
theorem ggX1_reduce_X1_unusedRowWith : GoodIn wsX1_reduce wsX1_unusedRowWith := goodIn_r _ [9, 1, 2, 4, 41, 42, 43, 44, 45, 46, 47] (by decide +kernel) (by decide +kernel)
set_option maxRecDepth 20000 in
theorem gX1_reduce_X1_unusedRowWith : GoodIn wsX1_reduce (wsV RX1 36 RX1 yX1_unusedRowWith wsX1_unusedRowWith) := goodIn_app (goodIn_of _ (by decide +kernel)) ggX1_reduce_X1_unusedRowWith
set_option maxRecDepth 20000 in
theorem ggX1_reduce_X1_swap : GoodIn wsX1_reduce wsX1_swap := goodIn_r _ [13, 4, 41, 42, 43, 44, 45, 46, 47] (by decide +kernel) (by decide +kernel)
set_option maxRecDepth 20000 in
theorem gX1_reduce_X1_swap : GoodIn wsX1_reduce (wsV RX1 40 RX1 yX1_swap wsX1_swap) := goodIn_app (goodIn_of _ (by decide +kernel)) ggX1_reduce_X1_swap
set_option maxRecDepth 20000 in
theorem ggX1_reduce_X1_makeUnit : GoodIn wsX1_reduce wsX1_makeUnit := goodIn_r _ [17, 2, 18, 19, 20, 21, 8, 22, 41, 42, 43, 44, 45, 46, 47] (by decide +kernel) (by decide +kernel)
set_option maxRecDepth 20000 in
theorem gX1_reduce_X1_makeUnit : GoodIn wsX1_reduce (wsV RX1 44 RX1 yX1_makeUnit wsX1_makeUnit) := goodIn_app (goodIn_of _ (by decide +kernel)) ggX1_reduce_X1_makeUnit
set_option maxRecDepth 20000 in
theorem ggX1_reduce_X1_clearElsewhere : GoodIn wsX1_reduce wsX1_clearElsewhere := goodIn_r _ [26, 2, 4, 18, 27, 28, 29, 8, 30, 41, 42, 43, 44, 45, 46, 47] (by decide +kernel) (by decide +kernel)
set_option maxRecDepth 20000 in
theorem gX1_reduce_X1_clearElsewhere : GoodIn wsX1_reduce (wsV RX1 48 RX1 yX1_clearElsewhere wsX1_clearElsewhere) := goodIn_app (goodIn_of _ (by decide +kernel)) ggX1_reduce_X1_clearElsewhere
set_option maxRecDepth 20000 in
theorem ggX1_reduce_X1_readQuietPatterns : GoodIn wsX1_reduce wsX1_readQuietPatterns := goodIn_r _ [34, 35, 2, 3, 36, 37, 38, 39, 8, 40, 18, 4, 41, 42, 43, 44, 45, 46, 47] (by decide +kernel) (by decide +kernel)
set_option maxRecDepth 20000 in
theorem gX1_reduce_X1_readQuietPatterns : GoodIn wsX1_reduce (wsV RX1 51 RX1 yX1_readQuietPatterns wsX1_readQuietPatterns) := goodIn_app (goodIn_of _ (by decide +kernel)) ggX1_reduce_X1_readQuietPatterns
set_option maxRecDepth 20000 in
theorem ggX1_answersUpTo_X1_agree : GoodIn wsX1_answersUpTo wsX1_agree := goodIn_r _ [7, 8, 9, 10, 11, 12, 13, 14, 15, 16, 17] (by decide +kernel) (by decide +kernel)
set_option maxRecDepth 20000 in
theorem gX1_answersUpTo_X1_agree : GoodIn wsX1_answersUpTo (wsV RX1 54 RX1 yX1_agree wsX1_agree) := goodIn_app (goodIn_of _ (by decide +kernel)) ggX1_answersUpTo_X1_agree
set_option maxRecDepth 20000 in
theorem ggX1_makeUnit_X1_inverse : GoodIn wsX1_makeUnit wsX1_inverse := goodIn_r _ [7, 2, 8, 9, 10, 11, 12, 13, 14] (by decide +kernel) (by decide +kernel)
set_option maxRecDepth 20000 in
theorem gX1_makeUnit_X1_inverse : GoodIn wsX1_makeUnit (wsV RX1 58 RX1 yX1_inverse wsX1_inverse) := goodIn_app (goodIn_of _ (by decide +kernel)) ggX1_makeUnit_X1_inverse
set_option maxRecDepth 20000 in
theorem ggX1_clearElsewhere_X1_addMultiple : GoodIn wsX1_clearElsewhere wsX1_addMultiple := goodIn_r _ [8, 1, 3, 9, 10, 11, 12, 13, 14, 15] (by decide +kernel) (by decide +kernel)
set_option maxRecDepth 20000 in
theorem gX1_clearElsewhere_X1_addMultiple : GoodIn wsX1_clearElsewhere (wsV RX1 61 RX1 yX1_addMultiple wsX1_addMultiple) := goodIn_app (goodIn_of _ (by decide +kernel)) ggX1_clearElsewhere_X1_addMultiple
set_option maxRecDepth 20000 in
theorem ggX1_readQuietPatterns_X1_readQuietPattern : GoodIn wsX1_readQuietPatterns wsX1_readQuietPattern := goodIn_r _ [9, 2, 3, 10, 11, 12, 13, 14, 15, 16, 17, 18] (by decide +kernel) (by decide +kernel)
set_option maxRecDepth 20000 in
theorem gX1_readQuietPatterns_X1_readQuietPattern : GoodIn wsX1_readQuietPatterns (wsV RX1 65 RX1 yX1_readQuietPattern wsX1_readQuietPattern) := goodIn_app (goodIn_of _ (by decide +kernel)) ggX1_readQuietPatterns_X1_readQuietPattern
set_option maxRecDepth 20000 in
theorem ggX2_run_X1_answersUpTo : GoodIn wsX2_run wsX1_answersUpTo := goodIn_r _ [6, 7, 8, 9, 10, 11, 5, 12, 13, 14, 15, 74, 75, 76, 77, 78, 79, 80] (by decide +kernel) (by decide +kernel)
set_option maxRecDepth 20000 in
theorem gX2_run_X1_answersUpTo : GoodIn wsX2_run (wsV RX2 31 RX1 yX1_answersUpTo wsX1_answersUpTo) := goodIn_app (goodIn_of _ (by decide +kernel)) ggX2_run_X1_answersUpTo
set_option maxRecDepth 20000 in
theorem ggX2_run_X2_begin : GoodIn wsX2_run wsX2_begin := goodIn_r _ [20, 21, 22, 23, 24, 25, 26, 5, 27, 28, 15, 14, 29, 30, 31, 19, 32, 33, 34, 35, 36, 1, 37, 38, 39, 40, 41, 68, 69, 70, 71, 72, 73, 74, 75, 76, 77, 78, 79, 80] (by decide +kernel) (by decide +kernel)
set_option maxRecDepth 20000 in
theorem gX2_run_X2_begin : GoodIn wsX2_run (wsV RX2 37 RX2 yX2_begin wsX2_begin) := goodIn_app (goodIn_of _ (by decide +kernel)) ggX2_run_X2_begin
set_option maxRecDepth 20000 in
theorem ggX2_run_X2_advance : GoodIn wsX2_run wsX2_advance := goodIn_r _ [45, 23, 46, 47, 48, 49, 5, 50, 7, 51, 52, 53, 54, 55, 56, 57, 58, 19, 59, 21, 22, 68, 69, 70, 71, 72, 73, 74, 75, 76, 77, 78, 79, 80] (by decide +kernel) (by decide +kernel)
set_option maxRecDepth 20000 in
theorem gX2_run_X2_advance : GoodIn wsX2_run (wsV RX2 41 RX2 yX2_advance wsX2_advance) := goodIn_app (goodIn_of _ (by decide +kernel)) ggX2_run_X2_advance
set_option maxRecDepth 20000 in
theorem ggX2_run_X2_keepIfLess : GoodIn wsX2_run wsX2_keepIfLess := goodIn_r _ [63, 1, 29, 30, 31, 19, 32, 21, 22, 64, 65, 66, 67, 37, 33, 34, 35, 36, 38, 39, 40, 41, 68, 69, 70, 71, 72, 73] (by decide +kernel) (by decide +kernel)
set_option maxRecDepth 20000 in
theorem gX2_run_X2_keepIfLess : GoodIn wsX2_run (wsV RX2 44 RX2 yX2_keepIfLess wsX2_keepIfLess) := goodIn_app (goodIn_of _ (by decide +kernel)) ggX2_run_X2_keepIfLess
set_option maxRecDepth 20000 in
theorem ggX2_begin_X1_pressesOf : GoodIn wsX2_begin wsX1_pressesOf := goodIn_r _ [8, 9, 10, 11, 33, 34, 35, 36, 37, 38, 39] (by decide +kernel) (by decide +kernel)
set_option maxRecDepth 20000 in
theorem gX2_begin_X1_pressesOf : GoodIn wsX2_begin (wsV RX2 47 RX1 yX1_pressesOf wsX1_pressesOf) := goodIn_app (goodIn_of _ (by decide +kernel)) ggX2_begin_X1_pressesOf
set_option maxRecDepth 20000 in
theorem ggX2_begin_X2_totalTried : GoodIn wsX2_begin wsX2_totalTried := goodIn_r _ [16, 1, 2, 27, 28, 29, 30, 31, 32] (by decide +kernel) (by decide +kernel)
set_option maxRecDepth 20000 in
theorem gX2_begin_X2_totalTried : GoodIn wsX2_begin (wsV RX2 50 RX2 yX2_totalTried wsX2_totalTried) := goodIn_app (goodIn_of _ (by decide +kernel)) ggX2_begin_X2_totalTried
set_option maxRecDepth 20000 in
theorem ggX2_begin_X2_keep : GoodIn wsX2_begin wsX2_keep := goodIn_r _ [20, 21, 2, 22, 1, 23, 24, 25, 26, 27, 28, 29, 30, 31, 32] (by decide +kernel) (by decide +kernel)
set_option maxRecDepth 20000 in
theorem gX2_begin_X2_keep : GoodIn wsX2_begin (wsV RX2 54 RX2 yX2_keep wsX2_keep) := goodIn_app (goodIn_of _ (by decide +kernel)) ggX2_begin_X2_keep
set_option maxRecDepth 20000 in
theorem ggX2_advance_X1_freeLamps : GoodIn wsX2_advance wsX1_freeLamps := goodIn_r _ [7, 8, 27, 28, 29, 30, 31, 32, 33] (by decide +kernel) (by decide +kernel)
set_option maxRecDepth 20000 in
theorem gX2_advance_X1_freeLamps : GoodIn wsX2_advance (wsV RX2 58 RX1 yX1_freeLamps wsX1_freeLamps) := goodIn_app (goodIn_of _ (by decide +kernel)) ggX2_advance_X1_freeLamps
set_option maxRecDepth 20000 in
theorem ggX2_advance_X1_quietPattern : GoodIn wsX2_advance wsX1_quietPattern := goodIn_r _ [12, 13, 27, 28, 29, 30, 31, 32, 33] (by decide +kernel) (by decide +kernel)
set_option maxRecDepth 20000 in
theorem gX2_advance_X1_quietPattern : GoodIn wsX2_advance (wsV RX2 61 RX1 yX1_quietPattern wsX1_quietPattern) := goodIn_app (goodIn_of _ (by decide +kernel)) ggX2_advance_X1_quietPattern
set_option maxRecDepth 20000 in
theorem ggX2_advance_X2_addToTried : GoodIn wsX2_advance wsX2_addToTried := goodIn_r _ [18, 19, 20, 2, 21, 22, 23, 24, 25, 26] (by decide +kernel) (by decide +kernel)
set_option maxRecDepth 20000 in
theorem gX2_advance_X2_addToTried : GoodIn wsX2_advance (wsV RX2 65 RX2 yX2_addToTried wsX2_addToTried) := goodIn_app (goodIn_of _ (by decide +kernel)) ggX2_advance_X2_addToTried
set_option maxRecDepth 20000 in
theorem ggX2_keepIfLess_X2_totalTried : GoodIn wsX2_keepIfLess wsX2_totalTried := goodIn_r _ [6, 7, 8, 22, 23, 24, 25, 26, 27] (by decide +kernel) (by decide +kernel)
set_option maxRecDepth 20000 in
theorem gX2_keepIfLess_X2_totalTried : GoodIn wsX2_keepIfLess (wsV RX2 50 RX2 yX2_totalTried wsX2_totalTried) := goodIn_app (goodIn_of _ (by decide +kernel)) ggX2_keepIfLess_X2_totalTried
set_option maxRecDepth 20000 in
theorem ggX2_keepIfLess_X2_triedIsAhead : GoodIn wsX2_keepIfLess wsX2_triedIsAhead := goodIn_r _ [12, 7, 8, 13, 22, 23, 24, 25, 26, 27] (by decide +kernel) (by decide +kernel)
set_option maxRecDepth 20000 in
theorem gX2_keepIfLess_X2_triedIsAhead : GoodIn wsX2_keepIfLess (wsV RX2 69 RX2 yX2_triedIsAhead wsX2_triedIsAhead) := goodIn_app (goodIn_of _ (by decide +kernel)) ggX2_keepIfLess_X2_triedIsAhead
set_option maxRecDepth 20000 in
theorem ggX2_keepIfLess_X2_keep : GoodIn wsX2_keepIfLess wsX2_keep := goodIn_r _ [17, 1, 8, 13, 7, 18, 19, 20, 21, 22, 23, 24, 25, 26, 27] (by decide +kernel) (by decide +kernel)
set_option maxRecDepth 20000 in
theorem gX2_keepIfLess_X2_keep : GoodIn wsX2_keepIfLess (wsV RX2 54 RX2 yX2_keep wsX2_keep) := goodIn_app (goodIn_of _ (by decide +kernel)) ggX2_keepIfLess_X2_keep
set_option maxRecDepth 20000 in
theorem ggX3_init_X3_primeFor : GoodIn wsX3_init wsX3_primeFor := goodIn_r _ [34] (by decide +kernel) (by decide +kernel)
set_option maxRecDepth 20000 in
theorem gX3_init_X3_primeFor : GoodIn wsX3_init (va_wsS RX3 22 yX3_primeFor wsX3_primeFor) := goodIn_app (goodIn_of _ (by decide +kernel)) ggX3_init_X3_primeFor
set_option maxRecDepth 20000 in
theorem ggX3_init_X1_init : GoodIn wsX3_init wsX1_init := goodIn_r _ [37, 38, 2, 3, 39, 40, 41, 13, 42, 43, 44, 45, 46, 73, 74, 75, 76, 77, 78, 79] (by decide +kernel) (by decide +kernel)
set_option maxRecDepth 20000 in
theorem gX3_init_X1_init : GoodIn wsX3_init (wsX1_init) := ggX3_init_X1_init
set_option maxRecDepth 20000 in
theorem ggX3_init_X2_init : GoodIn wsX3_init wsX2_init := goodIn_r _ [49, 50, 2, 3, 51, 52, 13, 53, 54, 55, 56, 80, 81, 82, 83, 84, 85] (by decide +kernel) (by decide +kernel)
set_option maxRecDepth 20000 in
theorem gX3_init_X2_init : GoodIn wsX3_init (wsX2_init) := ggX3_init_X2_init
set_option maxRecDepth 20000 in
theorem ggX3_init_X0_init : GoodIn wsX3_init wsX0_init := goodIn_r _ [59, 60, 2, 3, 13, 61, 62, 86, 87] (by decide +kernel) (by decide +kernel)
set_option maxRecDepth 20000 in
theorem gX3_init_X0_init : GoodIn wsX3_init (wsX0_init) := ggX3_init_X0_init
set_option maxRecDepth 20000 in
theorem ggX3_join_X3_mustExist : GoodIn wsX3_join wsX3_mustExist := goodIn_r _ [6, 7, 8, 9, 10, 21, 22, 23, 24, 25, 26, 27, 28, 29, 30, 31, 32, 33, 34, 35, 36] (by decide +kernel) (by decide +kernel)
set_option maxRecDepth 20000 in
theorem gX3_join_X3_mustExist : GoodIn wsX3_join (wsV RX3 69 RX3 yX3_mustExist wsX3_mustExist) := goodIn_app (goodIn_of _ (by decide +kernel)) ggX3_join_X3_mustExist
set_option maxRecDepth 20000 in
theorem ggX3_join_X3_touches : GoodIn wsX3_join wsX3_touches := goodIn_r _ [14, 1, 21, 22, 23, 24, 25, 26, 27, 28, 29, 30] (by decide +kernel) (by decide +kernel)
set_option maxRecDepth 20000 in
theorem gX3_join_X3_touches : GoodIn wsX3_join (wsV RX3 73 RX3 yX3_touches wsX3_touches) := goodIn_app (goodIn_of _ (by decide +kernel)) ggX3_join_X3_touches
set_option maxRecDepth 20000 in
theorem ggX3_join_X3_forget : GoodIn wsX3_join wsX3_forget := goodIn_r _ [18, 19, 20, 21, 22, 23, 24, 25, 26, 27, 28, 29, 30] (by decide +kernel) (by decide +kernel)
set_option maxRecDepth 20000 in
theorem gX3_join_X3_forget : GoodIn wsX3_join (wsV RX3 77 RX3 yX3_forget wsX3_forget) := goodIn_app (goodIn_of _ (by decide +kernel)) ggX3_join_X3_forget
set_option maxRecDepth 20000 in
theorem ggX3_self_X3_mustExist : GoodIn wsX3_self wsX3_mustExist := goodIn_r _ [6, 7, 8, 9, 10, 21, 22, 23, 24, 25, 26, 27, 28, 29, 30, 31, 32, 33, 34, 35, 36] (by decide +kernel) (by decide +kernel)
set_option maxRecDepth 20000 in
theorem gX3_self_X3_mustExist : GoodIn wsX3_self (wsV RX3 69 RX3 yX3_mustExist wsX3_mustExist) := goodIn_app (goodIn_of _ (by decide +kernel)) ggX3_self_X3_mustExist
set_option maxRecDepth 20000 in
theorem ggX3_self_X3_touches : GoodIn wsX3_self wsX3_touches := goodIn_r _ [14, 1, 21, 22, 23, 24, 25, 26, 27, 28, 29, 30] (by decide +kernel) (by decide +kernel)
set_option maxRecDepth 20000 in
theorem gX3_self_X3_touches : GoodIn wsX3_self (wsV RX3 73 RX3 yX3_touches wsX3_touches) := goodIn_app (goodIn_of _ (by decide +kernel)) ggX3_self_X3_touches
set_option maxRecDepth 20000 in
theorem ggX3_self_X3_forget : GoodIn wsX3_self wsX3_forget := goodIn_r _ [18, 19, 20, 21, 22, 23, 24, 25, 26, 27, 28, 29, 30] (by decide +kernel) (by decide +kernel)
set_option maxRecDepth 20000 in
theorem gX3_self_X3_forget : GoodIn wsX3_self (wsV RX3 77 RX3 yX3_forget wsX3_forget) := goodIn_app (goodIn_of _ (by decide +kernel)) ggX3_self_X3_forget
set_option maxRecDepth 20000 in
theorem ggX3_set_X3_mustExist : GoodIn wsX3_set wsX3_mustExist := goodIn_r _ [6, 7, 8, 9, 10, 22, 23, 24, 25, 26, 27, 28, 29, 30, 31, 32, 33, 34, 35, 36, 37] (by decide +kernel) (by decide +kernel)
set_option maxRecDepth 20000 in
theorem gX3_set_X3_mustExist : GoodIn wsX3_set (wsV RX3 69 RX3 yX3_mustExist wsX3_mustExist) := goodIn_app (goodIn_of _ (by decide +kernel)) ggX3_set_X3_mustExist
set_option maxRecDepth 20000 in
theorem ggX3_set_X3_isState : GoodIn wsX3_set wsX3_isState := goodIn_r _ [14, 15, 22, 23, 24, 25, 26, 27, 28, 29, 30, 31] (by decide +kernel) (by decide +kernel)
set_option maxRecDepth 20000 in
theorem gX3_set_X3_isState : GoodIn wsX3_set (wsV RX3 80 RX3 yX3_isState wsX3_isState) := goodIn_app (goodIn_of _ (by decide +kernel)) ggX3_set_X3_isState
set_option maxRecDepth 20000 in
theorem ggX3_set_X3_forget : GoodIn wsX3_set wsX3_forget := goodIn_r _ [19, 20, 21, 22, 23, 24, 25, 26, 27, 28, 29, 30, 31] (by decide +kernel) (by decide +kernel)
set_option maxRecDepth 20000 in
theorem gX3_set_X3_forget : GoodIn wsX3_set (wsV RX3 77 RX3 yX3_forget wsX3_forget) := goodIn_app (goodIn_of _ (by decide +kernel)) ggX3_set_X3_forget
set_option maxRecDepth 20000 in
theorem ggX3_want_X3_mustExist : GoodIn wsX3_want wsX3_mustExist := goodIn_r _ [6, 7, 8, 9, 10, 22, 23, 24, 25, 26, 27, 28, 29, 30, 31, 32, 33, 34, 35, 36, 37] (by decide +kernel) (by decide +kernel)
set_option maxRecDepth 20000 in
theorem gX3_want_X3_mustExist : GoodIn wsX3_want (wsV RX3 69 RX3 yX3_mustExist wsX3_mustExist) := goodIn_app (goodIn_of _ (by decide +kernel)) ggX3_want_X3_mustExist
set_option maxRecDepth 20000 in
theorem ggX3_want_X3_isState : GoodIn wsX3_want wsX3_isState := goodIn_r _ [14, 15, 22, 23, 24, 25, 26, 27, 28, 29, 30, 31] (by decide +kernel) (by decide +kernel)
set_option maxRecDepth 20000 in
theorem gX3_want_X3_isState : GoodIn wsX3_want (wsV RX3 80 RX3 yX3_isState wsX3_isState) := goodIn_app (goodIn_of _ (by decide +kernel)) ggX3_want_X3_isState
set_option maxRecDepth 20000 in
theorem ggX3_want_X3_forget : GoodIn wsX3_want wsX3_forget := goodIn_r _ [19, 20, 21, 22, 23, 24, 25, 26, 27, 28, 29, 30, 31] (by decide +kernel) (by decide +kernel)
set_option maxRecDepth 20000 in
theorem gX3_want_X3_forget : GoodIn wsX3_want (wsV RX3 77 RX3 yX3_forget wsX3_forget) := goodIn_app (goodIn_of _ (by decide +kernel)) ggX3_want_X3_forget
set_option maxRecDepth 20000 in
theorem ggX3_press_X3_mustExist : GoodIn wsX3_press wsX3_mustExist := goodIn_r _ [8, 1, 9, 10, 11, 23, 24, 25, 26, 27, 28, 29, 30, 31, 32, 33, 34, 35, 36, 37, 38] (by decide +kernel) (by decide +kernel)
set_option maxRecDepth 20000 in
theorem gX3_press_X3_mustExist : GoodIn wsX3_press (wsV RX3 69 RX3 yX3_mustExist wsX3_mustExist) := goodIn_app (goodIn_of _ (by decide +kernel)) ggX3_press_X3_mustExist
set_option maxRecDepth 20000 in
theorem ggX3_press_X3_touches : GoodIn wsX3_press wsX3_touches := goodIn_r _ [15, 16, 23, 24, 25, 26, 27, 28, 29, 30, 31, 32] (by decide +kernel) (by decide +kernel)
set_option maxRecDepth 20000 in
theorem gX3_press_X3_touches : GoodIn wsX3_press (wsV RX3 73 RX3 yX3_touches wsX3_touches) := goodIn_app (goodIn_of _ (by decide +kernel)) ggX3_press_X3_touches
set_option maxRecDepth 20000 in
theorem ggX3_press_X3_forget : GoodIn wsX3_press wsX3_forget := goodIn_r _ [20, 21, 22, 23, 24, 25, 26, 27, 28, 29, 30, 31, 32] (by decide +kernel) (by decide +kernel)
set_option maxRecDepth 20000 in
theorem gX3_press_X3_forget : GoodIn wsX3_press (wsV RX3 77 RX3 yX3_forget wsX3_forget) := goodIn_app (goodIn_of _ (by decide +kernel)) ggX3_press_X3_forget
set_option maxRecDepth 20000 in
theorem ggX3_at_X3_mustExist : GoodIn wsX3_at wsX3_mustExist := goodIn_r _ [6, 7, 8, 9, 10, 11, 12, 13, 14, 15, 16, 17, 18, 19, 20, 21, 22, 23, 24, 25, 26] (by decide +kernel) (by decide +kernel)
set_option maxRecDepth 20000 in
theorem gX3_at_X3_mustExist : GoodIn wsX3_at (wsV RX3 69 RX3 yX3_mustExist wsX3_mustExist) := goodIn_app (goodIn_of _ (by decide +kernel)) ggX3_at_X3_mustExist
set_option maxRecDepth 20000 in
theorem ggX3_rank_X3_work : GoodIn wsX3_rank wsX3_work := goodIn_r _ [6, 7, 1, 8, 9, 10, 11, 12, 13, 14, 15, 16, 17, 18, 19, 20, 21, 22, 23, 24, 25, 26, 27, 28, 29, 30, 31, 32, 33, 34, 35, 36, 37, 38, 39, 40, 41, 42, 43, 44, 45, 46, 47, 48, 49, 50, 51, 52, 53, 54, 55, 56, 57, 58, 63, 64, 65, 66, 67, 68, 69, 70, 71, 72, 73, 74, 75, 76, 77, 78, 79] (by decide +kernel) (by decide +kernel)
set_option maxRecDepth 20000 in
theorem gX3_rank_X3_work : GoodIn wsX3_rank (wsV RX3 84 RX3 yX3_work wsX3_work) := goodIn_app (goodIn_of _ (by decide +kernel)) ggX3_rank_X3_work
set_option maxRecDepth 20000 in
theorem ggX3_rank_X1_boundLamps : GoodIn wsX3_rank wsX1_boundLamps := goodIn_r _ [62, 23, 73, 74, 75, 76, 77, 78, 79] (by decide +kernel) (by decide +kernel)
set_option maxRecDepth 20000 in
theorem gX3_rank_X1_boundLamps : GoodIn wsX3_rank (wsV RX3 87 RX1 yX1_boundLamps wsX1_boundLamps) := goodIn_app (goodIn_of _ (by decide +kernel)) ggX3_rank_X1_boundLamps
set_option maxRecDepth 20000 in
theorem ggX3_solvable_X3_work : GoodIn wsX3_solvable wsX3_work := goodIn_r _ [6, 7, 1, 8, 9, 10, 11, 12, 13, 14, 15, 16, 17, 18, 19, 20, 21, 22, 23, 24, 25, 26, 27, 28, 29, 30, 31, 32, 33, 34, 35, 36, 37, 38, 39, 40, 41, 42, 43, 44, 45, 46, 47, 48, 49, 50, 51, 52, 53, 54, 55, 56, 57, 58, 63, 64, 65, 66, 67, 68, 69, 70, 71, 72, 73, 74, 75, 76, 77, 78, 79] (by decide +kernel) (by decide +kernel)
set_option maxRecDepth 20000 in
theorem gX3_solvable_X3_work : GoodIn wsX3_solvable (wsV RX3 84 RX3 yX3_work wsX3_work) := goodIn_app (goodIn_of _ (by decide +kernel)) ggX3_solvable_X3_work
set_option maxRecDepth 20000 in
theorem ggX3_solvable_X1_agree : GoodIn wsX3_solvable wsX1_agree := goodIn_r _ [62, 23, 16, 17, 73, 74, 75, 76, 77, 78, 79] (by decide +kernel) (by decide +kernel)
set_option maxRecDepth 20000 in
theorem gX3_solvable_X1_agree : GoodIn wsX3_solvable (wsV RX3 91 RX1 yX1_agree wsX1_agree) := goodIn_app (goodIn_of _ (by decide +kernel)) ggX3_solvable_X1_agree
set_option maxRecDepth 20000 in
theorem ggX3_answer_X3_mustExist : GoodIn wsX3_answer wsX3_mustExist := goodIn_r _ [6, 7, 8, 9, 10, 75, 76, 77, 78, 79, 80, 81, 82, 83, 84, 85, 86, 87, 88, 89, 90] (by decide +kernel) (by decide +kernel)
set_option maxRecDepth 20000 in
theorem gX3_answer_X3_mustExist : GoodIn wsX3_answer (wsV RX3 69 RX3 yX3_mustExist wsX3_mustExist) := goodIn_app (goodIn_of _ (by decide +kernel)) ggX3_answer_X3_mustExist
set_option maxRecDepth 20000 in
theorem ggX3_answer_X3_work : GoodIn wsX3_answer wsX3_work := goodIn_r _ [14, 15, 1, 16, 17, 18, 19, 20, 21, 22, 23, 24, 25, 26, 27, 28, 29, 30, 31, 32, 33, 34, 35, 36, 37, 38, 39, 40, 41, 42, 43, 44, 45, 46, 47, 48, 49, 50, 51, 52, 53, 54, 55, 56, 57, 58, 59, 60, 61, 62, 63, 64, 65, 66, 75, 76, 77, 78, 79, 80, 81, 82, 83, 84, 91, 92, 93, 94, 95, 96, 97] (by decide +kernel) (by decide +kernel)
set_option maxRecDepth 20000 in
theorem gX3_answer_X3_work : GoodIn wsX3_answer (wsV RX3 84 RX3 yX3_work wsX3_work) := goodIn_app (goodIn_of _ (by decide +kernel)) ggX3_answer_X3_work
set_option maxRecDepth 20000 in
theorem ggX3_answer_X1_agree : GoodIn wsX3_answer wsX1_agree := goodIn_r _ [70, 31, 24, 25, 91, 92, 93, 94, 95, 96, 97] (by decide +kernel) (by decide +kernel)
set_option maxRecDepth 20000 in
theorem gX3_answer_X1_agree : GoodIn wsX3_answer (wsV RX3 91 RX1 yX1_agree wsX1_agree) := goodIn_app (goodIn_of _ (by decide +kernel)) ggX3_answer_X1_agree
set_option maxRecDepth 20000 in
theorem ggX3_answer_X1_pressesOf : GoodIn wsX3_answer wsX1_pressesOf := goodIn_r _ [74, 32, 25, 24, 91, 92, 93, 94, 95, 96, 97] (by decide +kernel) (by decide +kernel)
set_option maxRecDepth 20000 in
theorem gX3_answer_X1_pressesOf : GoodIn wsX3_answer (wsV RX3 95 RX1 yX1_pressesOf wsX1_pressesOf) := goodIn_app (goodIn_of _ (by decide +kernel)) ggX3_answer_X1_pressesOf
set_option maxRecDepth 20000 in
theorem ggX3_quiet_X3_mustExist : GoodIn wsX3_quiet wsX3_mustExist := goodIn_r _ [6, 7, 8, 9, 10, 75, 76, 77, 78, 79, 80, 81, 82, 83, 84, 85, 86, 87, 88, 89, 90] (by decide +kernel) (by decide +kernel)
set_option maxRecDepth 20000 in
theorem gX3_quiet_X3_mustExist : GoodIn wsX3_quiet (wsV RX3 69 RX3 yX3_mustExist wsX3_mustExist) := goodIn_app (goodIn_of _ (by decide +kernel)) ggX3_quiet_X3_mustExist
set_option maxRecDepth 20000 in
theorem ggX3_quiet_X3_work : GoodIn wsX3_quiet wsX3_work := goodIn_r _ [14, 15, 1, 16, 17, 18, 19, 20, 21, 22, 23, 24, 25, 26, 27, 28, 29, 30, 31, 32, 33, 34, 35, 36, 37, 38, 39, 40, 41, 42, 43, 44, 45, 46, 47, 48, 49, 50, 51, 52, 53, 54, 55, 56, 57, 58, 59, 60, 61, 62, 63, 64, 65, 66, 75, 76, 77, 78, 79, 80, 81, 82, 83, 84, 91, 92, 93, 94, 95, 96, 97] (by decide +kernel) (by decide +kernel)
set_option maxRecDepth 20000 in
theorem gX3_quiet_X3_work : GoodIn wsX3_quiet (wsV RX3 84 RX3 yX3_work wsX3_work) := goodIn_app (goodIn_of _ (by decide +kernel)) ggX3_quiet_X3_work
set_option maxRecDepth 20000 in
theorem ggX3_quiet_X1_freeLamps : GoodIn wsX3_quiet wsX1_freeLamps := goodIn_r _ [70, 61, 91, 92, 93, 94, 95, 96, 97] (by decide +kernel) (by decide +kernel)
set_option maxRecDepth 20000 in
theorem gX3_quiet_X1_freeLamps : GoodIn wsX3_quiet (wsV RX3 98 RX1 yX1_freeLamps wsX1_freeLamps) := goodIn_app (goodIn_of _ (by decide +kernel)) ggX3_quiet_X1_freeLamps
set_option maxRecDepth 20000 in
theorem ggX3_quiet_X1_quietPattern : GoodIn wsX3_quiet wsX1_quietPattern := goodIn_r _ [74, 62, 91, 92, 93, 94, 95, 96, 97] (by decide +kernel) (by decide +kernel)
set_option maxRecDepth 20000 in
theorem gX3_quiet_X1_quietPattern : GoodIn wsX3_quiet (wsV RX3 101 RX1 yX1_quietPattern wsX1_quietPattern) := goodIn_app (goodIn_of _ (by decide +kernel)) ggX3_quiet_X1_quietPattern
set_option maxRecDepth 20000 in
theorem ggX3_count_X3_work : GoodIn wsX3_count wsX3_work := goodIn_r _ [8, 9, 2, 10, 11, 12, 13, 14, 15, 16, 17, 18, 19, 20, 21, 22, 23, 24, 25, 26, 27, 28, 29, 30, 31, 32, 33, 34, 35, 36, 37, 38, 39, 40, 41, 42, 43, 44, 45, 46, 47, 48, 49, 50, 51, 52, 53, 54, 55, 56, 57, 58, 59, 60, 84, 85, 86, 87, 88, 89, 90, 91, 92, 93, 94, 95, 96, 97, 98, 99, 100] (by decide +kernel) (by decide +kernel)
set_option maxRecDepth 20000 in
theorem gX3_count_X3_work : GoodIn wsX3_count (wsV RX3 84 RX3 yX3_work wsX3_work) := goodIn_app (goodIn_of _ (by decide +kernel)) ggX3_count_X3_work
set_option maxRecDepth 20000 in
theorem ggX3_count_X1_agree : GoodIn wsX3_count wsX1_agree := goodIn_r _ [64, 25, 18, 19, 94, 95, 96, 97, 98, 99, 100] (by decide +kernel) (by decide +kernel)
set_option maxRecDepth 20000 in
theorem gX3_count_X1_agree : GoodIn wsX3_count (wsV RX3 91 RX1 yX1_agree wsX1_agree) := goodIn_app (goodIn_of _ (by decide +kernel)) ggX3_count_X1_agree
set_option maxRecDepth 20000 in
theorem ggX3_count_X0_become : GoodIn wsX3_count wsX0_become := goodIn_r _ [69, 70, 71, 101, 102] (by decide +kernel) (by decide +kernel)
set_option maxRecDepth 20000 in
theorem gX3_count_X0_become : GoodIn wsX3_count (wsV RX3 105 RX0 yX0_become wsX0_become) := goodIn_app (goodIn_of _ (by decide +kernel)) ggX3_count_X0_become
set_option maxRecDepth 20000 in
theorem ggX3_count_X1_freeLamps : GoodIn wsX3_count wsX1_freeLamps := goodIn_r _ [75, 55, 94, 95, 96, 97, 98, 99, 100] (by decide +kernel) (by decide +kernel)
set_option maxRecDepth 20000 in
theorem gX3_count_X1_freeLamps : GoodIn wsX3_count (wsV RX3 98 RX1 yX1_freeLamps wsX1_freeLamps) := goodIn_app (goodIn_of _ (by decide +kernel)) ggX3_count_X1_freeLamps
set_option maxRecDepth 20000 in
theorem ggX3_count_X0_multiply : GoodIn wsX3_count wsX0_multiply := goodIn_r _ [79, 71, 70, 101, 102] (by decide +kernel) (by decide +kernel)
set_option maxRecDepth 20000 in
theorem gX3_count_X0_multiply : GoodIn wsX3_count (wsV RX3 108 RX0 yX0_multiply wsX0_multiply) := goodIn_app (goodIn_of _ (by decide +kernel)) ggX3_count_X0_multiply
set_option maxRecDepth 20000 in
theorem ggX3_count_X0_digit : GoodIn wsX3_count wsX0_digit := goodIn_r _ [83, 71, 70, 101, 102] (by decide +kernel) (by decide +kernel)
set_option maxRecDepth 20000 in
theorem gX3_count_X0_digit : GoodIn wsX3_count (wsV RX3 111 RX0 yX0_digit wsX0_digit) := goodIn_app (goodIn_of _ (by decide +kernel)) ggX3_count_X0_digit
set_option maxRecDepth 20000 in
theorem ggX3_fewest_X3_seek : GoodIn wsX3_fewest wsX3_seek := goodIn_r _ [6, 7, 1, 8, 9, 10, 11, 5, 12, 13, 14, 15, 16, 17, 18, 19, 20, 21, 22, 23, 24, 25, 26, 27, 28, 29, 30, 31, 32, 33, 34, 35, 36, 37, 38, 39, 40, 41, 42, 43, 44, 45, 46, 47, 48, 49, 50, 51, 52, 53, 54, 55, 56, 57, 58, 59, 60, 61, 62, 63, 64, 65, 66, 67, 68, 69, 70, 71, 72, 73, 74, 75, 76, 77, 78, 79, 80, 81, 82, 83, 84, 85, 86, 87, 88, 89, 90, 91, 92, 93, 94, 95, 96, 97, 98, 99, 100, 101, 102, 103, 104, 105, 106, 107, 108, 109, 110, 111, 112, 113, 114, 115, 116, 117, 118, 119, 120, 121, 122, 123, 124, 125, 126, 127, 132, 133, 134, 135, 136, 137, 138, 139, 140, 141, 142, 143, 144, 145, 146, 147, 148, 149, 150, 151, 152, 153, 154] (by decide +kernel) (by decide +kernel)
set_option maxRecDepth 20000 in
theorem gX3_fewest_X3_seek : GoodIn wsX3_fewest (wsV RX3 114 RX3 yX3_seek wsX3_seek) := goodIn_app (goodIn_of _ (by decide +kernel)) ggX3_fewest_X3_seek
set_option maxRecDepth 20000 in
theorem ggX3_fewest_X2_leastTotal : GoodIn wsX3_fewest wsX2_leastTotal := goodIn_r _ [131, 70, 149, 150, 151, 152, 153, 154] (by decide +kernel) (by decide +kernel)
set_option maxRecDepth 20000 in
theorem gX3_fewest_X2_leastTotal : GoodIn wsX3_fewest (wsV RX3 117 RX2 yX2_leastTotal wsX2_leastTotal) := goodIn_app (goodIn_of _ (by decide +kernel)) ggX3_fewest_X2_leastTotal
set_option maxRecDepth 20000 in
theorem ggX3_best_X3_mustExist : GoodIn wsX3_best wsX3_mustExist := goodIn_r _ [6, 7, 8, 9, 10, 144, 145, 146, 147, 148, 149, 150, 151, 152, 153, 154, 155, 156, 157, 158, 159] (by decide +kernel) (by decide +kernel)
set_option maxRecDepth 20000 in
theorem gX3_best_X3_mustExist : GoodIn wsX3_best (wsV RX3 69 RX3 yX3_mustExist wsX3_mustExist) := goodIn_app (goodIn_of _ (by decide +kernel)) ggX3_best_X3_mustExist
set_option maxRecDepth 20000 in
theorem ggX3_best_X3_seek : GoodIn wsX3_best wsX3_seek := goodIn_r _ [14, 15, 1, 16, 17, 18, 19, 5, 20, 21, 22, 23, 24, 25, 26, 27, 28, 29, 30, 31, 32, 33, 34, 35, 36, 37, 38, 39, 40, 41, 42, 43, 44, 45, 46, 47, 48, 49, 50, 51, 52, 53, 54, 55, 56, 57, 58, 59, 60, 61, 62, 63, 64, 65, 66, 67, 68, 69, 70, 71, 72, 73, 74, 75, 76, 77, 78, 79, 80, 81, 82, 83, 84, 85, 86, 87, 88, 89, 90, 91, 92, 93, 94, 95, 96, 97, 98, 99, 100, 101, 102, 103, 104, 105, 106, 107, 108, 109, 110, 111, 112, 113, 114, 115, 116, 117, 118, 119, 120, 121, 122, 123, 124, 125, 126, 127, 128, 129, 130, 131, 132, 133, 134, 135, 144, 145, 146, 147, 148, 149, 150, 151, 152, 153, 160, 161, 162, 163, 164, 165, 166, 167, 168, 169, 170, 171, 172] (by decide +kernel) (by decide +kernel)
set_option maxRecDepth 20000 in
theorem gX3_best_X3_seek : GoodIn wsX3_best (wsV RX3 114 RX3 yX3_seek wsX3_seek) := goodIn_app (goodIn_of _ (by decide +kernel)) ggX3_best_X3_seek
set_option maxRecDepth 20000 in
theorem ggX3_best_X2_leastTotal : GoodIn wsX3_best wsX2_leastTotal := goodIn_r _ [139, 78, 167, 168, 169, 170, 171, 172] (by decide +kernel) (by decide +kernel)
set_option maxRecDepth 20000 in
theorem gX3_best_X2_leastTotal : GoodIn wsX3_best (wsV RX3 117 RX2 yX2_leastTotal wsX2_leastTotal) := goodIn_app (goodIn_of _ (by decide +kernel)) ggX3_best_X2_leastTotal
set_option maxRecDepth 20000 in
theorem ggX3_best_X2_leastPresses : GoodIn wsX3_best wsX2_leastPresses := goodIn_r _ [143, 106, 167, 168, 169, 170, 171, 172] (by decide +kernel) (by decide +kernel)
set_option maxRecDepth 20000 in
theorem gX3_best_X2_leastPresses : GoodIn wsX3_best (wsV RX3 120 RX2 yX2_leastPresses wsX2_leastPresses) := goodIn_app (goodIn_of _ (by decide +kernel)) ggX3_best_X2_leastPresses
set_option maxRecDepth 20000 in
theorem ggX3_alone_X3_mustExist : GoodIn wsX3_alone wsX3_mustExist := goodIn_r _ [6, 7, 8, 9, 10, 75, 76, 77, 78, 79, 80, 81, 82, 83, 84, 85, 86, 87, 88, 89, 90] (by decide +kernel) (by decide +kernel)
set_option maxRecDepth 20000 in
theorem gX3_alone_X3_mustExist : GoodIn wsX3_alone (wsV RX3 69 RX3 yX3_mustExist wsX3_mustExist) := goodIn_app (goodIn_of _ (by decide +kernel)) ggX3_alone_X3_mustExist
set_option maxRecDepth 20000 in
theorem ggX3_alone_X3_work : GoodIn wsX3_alone wsX3_work := goodIn_r _ [14, 15, 1, 16, 17, 18, 19, 20, 21, 22, 23, 24, 25, 26, 27, 28, 29, 30, 31, 32, 33, 34, 35, 36, 37, 38, 39, 40, 41, 42, 43, 44, 45, 46, 47, 48, 49, 50, 51, 52, 53, 54, 55, 56, 57, 58, 59, 60, 61, 62, 63, 64, 65, 66, 75, 76, 77, 78, 79, 80, 81, 82, 83, 84, 91, 92, 93, 94, 95, 96, 97] (by decide +kernel) (by decide +kernel)
set_option maxRecDepth 20000 in
theorem gX3_alone_X3_work : GoodIn wsX3_alone (wsV RX3 84 RX3 yX3_work wsX3_work) := goodIn_app (goodIn_of _ (by decide +kernel)) ggX3_alone_X3_work
set_option maxRecDepth 20000 in
theorem ggX3_alone_X1_freeLamps : GoodIn wsX3_alone wsX1_freeLamps := goodIn_r _ [70, 61, 91, 92, 93, 94, 95, 96, 97] (by decide +kernel) (by decide +kernel)
set_option maxRecDepth 20000 in
theorem gX3_alone_X1_freeLamps : GoodIn wsX3_alone (wsV RX3 98 RX1 yX1_freeLamps wsX1_freeLamps) := goodIn_app (goodIn_of _ (by decide +kernel)) ggX3_alone_X1_freeLamps
set_option maxRecDepth 20000 in
theorem ggX3_alone_X1_quietPattern : GoodIn wsX3_alone wsX1_quietPattern := goodIn_r _ [74, 62, 91, 92, 93, 94, 95, 96, 97] (by decide +kernel) (by decide +kernel)
set_option maxRecDepth 20000 in
theorem gX3_alone_X1_quietPattern : GoodIn wsX3_alone (wsV RX3 101 RX1 yX1_quietPattern wsX1_quietPattern) := goodIn_app (goodIn_of _ (by decide +kernel)) ggX3_alone_X1_quietPattern
set_option maxRecDepth 20000 in
theorem ggX3_clear_X3_forget : GoodIn wsX3_clear wsX3_forget := goodIn_r _ [8, 9, 10, 11, 12, 13, 14, 15, 16, 17, 18, 19, 20] (by decide +kernel) (by decide +kernel)
set_option maxRecDepth 20000 in
theorem gX3_clear_X3_forget : GoodIn wsX3_clear (wsV RX3 77 RX3 yX3_forget wsX3_forget) := goodIn_app (goodIn_of _ (by decide +kernel)) ggX3_clear_X3_forget
set_option maxRecDepth 20000 in
theorem ggX3_work_X1_take : GoodIn wsX3_work wsX1_take := goodIn_r _ [10, 11, 12, 13, 64, 65, 66, 67, 68, 69, 70] (by decide +kernel) (by decide +kernel)
set_option maxRecDepth 20000 in
theorem gX3_work_X1_take : GoodIn wsX3_work (wsV RX3 130 RX1 yX1_take wsX1_take) := goodIn_app (goodIn_of _ (by decide +kernel)) ggX3_work_X1_take
set_option maxRecDepth 20000 in
theorem ggX3_work_X1_reduce : GoodIn wsX3_work wsX1_reduce := goodIn_r _ [17, 18, 11, 19, 12, 20, 21, 22, 9, 23, 24, 25, 26, 27, 28, 29, 30, 31, 13, 32, 33, 34, 35, 36, 37, 38, 39, 40, 41, 42, 43, 44, 45, 46, 47, 48, 49, 50, 51, 52, 53, 64, 65, 66, 67, 68, 69, 70] (by decide +kernel) (by decide +kernel)
set_option maxRecDepth 20000 in
theorem gX3_work_X1_reduce : GoodIn wsX3_work (wsV RX3 134 RX1 yX1_reduce wsX1_reduce) := goodIn_app (goodIn_of _ (by decide +kernel)) ggX3_work_X1_reduce
set_option maxRecDepth 20000 in
theorem ggX3_seek_X3_work : GoodIn wsX3_seek wsX3_work := goodIn_r _ [8, 9, 3, 10, 11, 12, 13, 14, 15, 16, 17, 18, 19, 20, 21, 22, 23, 24, 25, 26, 27, 28, 29, 30, 31, 32, 33, 34, 35, 36, 37, 38, 39, 40, 41, 42, 43, 44, 45, 46, 47, 48, 49, 50, 51, 52, 53, 54, 55, 56, 57, 58, 59, 60, 124, 125, 126, 127, 128, 129, 130, 131, 132, 133, 134, 135, 136, 137, 138, 139, 140] (by decide +kernel) (by decide +kernel)
set_option maxRecDepth 20000 in
theorem gX3_seek_X3_work : GoodIn wsX3_seek (wsV RX3 84 RX3 yX3_work wsX3_work) := goodIn_app (goodIn_of _ (by decide +kernel)) ggX3_seek_X3_work
set_option maxRecDepth 20000 in
theorem ggX3_seek_X2_run : GoodIn wsX3_seek wsX2_run := goodIn_r _ [65, 66, 67, 68, 69, 16, 70, 55, 20, 71, 72, 73, 74, 25, 18, 19, 75, 76, 77, 64, 78, 79, 80, 81, 82, 83, 84, 85, 26, 86, 87, 88, 89, 90, 91, 92, 93, 94, 95, 96, 97, 98, 99, 100, 101, 102, 103, 104, 105, 106, 107, 108, 109, 110, 111, 56, 112, 113, 114, 115, 116, 117, 118, 119, 120, 121, 122, 123, 141, 142, 143, 144, 145, 146, 134, 135, 136, 137, 138, 139, 140] (by decide +kernel) (by decide +kernel)
set_option maxRecDepth 20000 in
theorem gX3_seek_X2_run : GoodIn wsX3_seek (wsV RX3 137 RX2 yX2_run wsX2_run) := goodIn_app (goodIn_of _ (by decide +kernel)) ggX3_seek_X2_run
set_option maxRecDepth 20000 in
theorem ggX4_join_X4_isLamp : GoodIn wsX4_join wsX4_isLamp := goodIn_r _ [7, 8, 14, 15, 16, 17, 18, 19, 20, 21, 22, 23, 24, 25, 26, 27, 28, 29, 30, 31, 32, 33] (by decide +kernel) (by decide +kernel)
set_option maxRecDepth 20000 in
theorem gX4_join_X4_isLamp : GoodIn wsX4_join (wsV RX4 66 RX4 yX4_isLamp wsX4_isLamp) := goodIn_app (goodIn_of _ (by decide +kernel)) ggX4_join_X4_isLamp
set_option maxRecDepth 20000 in
theorem ggX4_join_X4_fails : GoodIn wsX4_join wsX4_fails := goodIn_r _ [12, 13, 14, 15, 16, 17, 18, 19, 20, 21, 22, 23, 24, 25, 26, 27, 28, 29, 30, 31, 32, 33] (by decide +kernel) (by decide +kernel)
set_option maxRecDepth 20000 in
theorem gX4_join_X4_fails : GoodIn wsX4_join (wsV RX4 70 RX4 yX4_fails wsX4_fails) := goodIn_app (goodIn_of _ (by decide +kernel)) ggX4_join_X4_fails
set_option maxRecDepth 20000 in
theorem ggX4_self_X4_isLamp : GoodIn wsX4_self wsX4_isLamp := goodIn_r _ [7, 8, 14, 15, 16, 17, 18, 19, 20, 21, 22, 23, 24, 25, 26, 27, 28, 29, 30, 31, 32, 33] (by decide +kernel) (by decide +kernel)
set_option maxRecDepth 20000 in
theorem gX4_self_X4_isLamp : GoodIn wsX4_self (wsV RX4 66 RX4 yX4_isLamp wsX4_isLamp) := goodIn_app (goodIn_of _ (by decide +kernel)) ggX4_self_X4_isLamp
set_option maxRecDepth 20000 in
theorem ggX4_self_X4_fails : GoodIn wsX4_self wsX4_fails := goodIn_r _ [12, 13, 14, 15, 16, 17, 18, 19, 20, 21, 22, 23, 24, 25, 26, 27, 28, 29, 30, 31, 32, 33] (by decide +kernel) (by decide +kernel)
set_option maxRecDepth 20000 in
theorem gX4_self_X4_fails : GoodIn wsX4_self (wsV RX4 70 RX4 yX4_fails wsX4_fails) := goodIn_app (goodIn_of _ (by decide +kernel)) ggX4_self_X4_fails
set_option maxRecDepth 20000 in
theorem ggX4_set_X4_isLamp : GoodIn wsX4_set wsX4_isLamp := goodIn_r _ [6, 7, 18, 19, 20, 21, 22, 23, 24, 25, 26, 27, 28, 29, 30, 31, 32, 33, 34, 35, 36, 37] (by decide +kernel) (by decide +kernel)
set_option maxRecDepth 20000 in
theorem gX4_set_X4_isLamp : GoodIn wsX4_set (wsV RX4 66 RX4 yX4_isLamp wsX4_isLamp) := goodIn_app (goodIn_of _ (by decide +kernel)) ggX4_set_X4_isLamp
set_option maxRecDepth 20000 in
theorem ggX4_set_X4_fails : GoodIn wsX4_set wsX4_fails := goodIn_r _ [11, 12, 18, 19, 20, 21, 22, 23, 24, 25, 26, 27, 28, 29, 30, 31, 32, 33, 34, 35, 36, 37] (by decide +kernel) (by decide +kernel)
set_option maxRecDepth 20000 in
theorem gX4_set_X4_fails : GoodIn wsX4_set (wsV RX4 70 RX4 yX4_fails wsX4_fails) := goodIn_app (goodIn_of _ (by decide +kernel)) ggX4_set_X4_fails
set_option maxRecDepth 20000 in
theorem ggX4_set_X4_isState : GoodIn wsX4_set wsX4_isState := goodIn_r _ [16, 17, 18, 19, 20, 21, 22, 23, 24, 25, 26, 27, 28, 29, 30, 31, 32, 33, 34, 35, 36, 37] (by decide +kernel) (by decide +kernel)
set_option maxRecDepth 20000 in
theorem gX4_set_X4_isState : GoodIn wsX4_set (wsV RX4 78 RX4 yX4_isState wsX4_isState) := goodIn_app (goodIn_of _ (by decide +kernel)) ggX4_set_X4_isState
set_option maxRecDepth 20000 in
theorem ggX4_want_X4_isLamp : GoodIn wsX4_want wsX4_isLamp := goodIn_r _ [6, 7, 18, 19, 20, 21, 22, 23, 24, 25, 26, 27, 28, 29, 30, 31, 32, 33, 34, 35, 36, 37] (by decide +kernel) (by decide +kernel)
set_option maxRecDepth 20000 in
theorem gX4_want_X4_isLamp : GoodIn wsX4_want (wsV RX4 66 RX4 yX4_isLamp wsX4_isLamp) := goodIn_app (goodIn_of _ (by decide +kernel)) ggX4_want_X4_isLamp
set_option maxRecDepth 20000 in
theorem ggX4_want_X4_fails : GoodIn wsX4_want wsX4_fails := goodIn_r _ [11, 12, 18, 19, 20, 21, 22, 23, 24, 25, 26, 27, 28, 29, 30, 31, 32, 33, 34, 35, 36, 37] (by decide +kernel) (by decide +kernel)
set_option maxRecDepth 20000 in
theorem gX4_want_X4_fails : GoodIn wsX4_want (wsV RX4 70 RX4 yX4_fails wsX4_fails) := goodIn_app (goodIn_of _ (by decide +kernel)) ggX4_want_X4_fails
set_option maxRecDepth 20000 in
theorem ggX4_want_X4_isState : GoodIn wsX4_want wsX4_isState := goodIn_r _ [16, 17, 18, 19, 20, 21, 22, 23, 24, 25, 26, 27, 28, 29, 30, 31, 32, 33, 34, 35, 36, 37] (by decide +kernel) (by decide +kernel)
set_option maxRecDepth 20000 in
theorem gX4_want_X4_isState : GoodIn wsX4_want (wsV RX4 78 RX4 yX4_isState wsX4_isState) := goodIn_app (goodIn_of _ (by decide +kernel)) ggX4_want_X4_isState
set_option maxRecDepth 20000 in
theorem ggX4_press_X4_isLamp : GoodIn wsX4_press wsX4_isLamp := goodIn_r _ [8, 1, 20, 21, 22, 23, 24, 25, 26, 27, 28, 29, 30, 31, 32, 33, 34, 35, 36, 37, 38, 39] (by decide +kernel) (by decide +kernel)
set_option maxRecDepth 20000 in
theorem gX4_press_X4_isLamp : GoodIn wsX4_press (wsV RX4 66 RX4 yX4_isLamp wsX4_isLamp) := goodIn_app (goodIn_of _ (by decide +kernel)) ggX4_press_X4_isLamp
set_option maxRecDepth 20000 in
theorem ggX4_press_X4_fails : GoodIn wsX4_press wsX4_fails := goodIn_r _ [12, 13, 20, 21, 22, 23, 24, 25, 26, 27, 28, 29, 30, 31, 32, 33, 34, 35, 36, 37, 38, 39] (by decide +kernel) (by decide +kernel)
set_option maxRecDepth 20000 in
theorem gX4_press_X4_fails : GoodIn wsX4_press (wsV RX4 70 RX4 yX4_fails wsX4_fails) := goodIn_app (goodIn_of _ (by decide +kernel)) ggX4_press_X4_fails
set_option maxRecDepth 20000 in
theorem ggX4_press_X4_effect : GoodIn wsX4_press wsX4_effect := goodIn_r _ [17, 18, 19, 20, 21, 22, 23, 24, 25, 26, 27, 28, 29, 30, 31, 32, 33, 34, 35, 36, 37, 38, 39] (by decide +kernel) (by decide +kernel)
set_option maxRecDepth 20000 in
theorem gX4_press_X4_effect : GoodIn wsX4_press (wsV RX4 81 RX4 yX4_effect wsX4_effect) := goodIn_app (goodIn_of _ (by decide +kernel)) ggX4_press_X4_effect
set_option maxRecDepth 20000 in
theorem ggX4_at_X4_isLamp : GoodIn wsX4_at wsX4_isLamp := goodIn_r _ [6, 7, 13, 14, 15, 16, 17, 18, 19, 20, 21, 22, 23, 24, 25, 26, 27, 28, 29, 30, 31, 32] (by decide +kernel) (by decide +kernel)
set_option maxRecDepth 20000 in
theorem gX4_at_X4_isLamp : GoodIn wsX4_at (wsV RX4 66 RX4 yX4_isLamp wsX4_isLamp) := goodIn_app (goodIn_of _ (by decide +kernel)) ggX4_at_X4_isLamp
set_option maxRecDepth 20000 in
theorem ggX4_at_X4_fails : GoodIn wsX4_at wsX4_fails := goodIn_r _ [11, 12, 13, 14, 15, 16, 17, 18, 19, 20, 21, 22, 23, 24, 25, 26, 27, 28, 29, 30, 31, 32] (by decide +kernel) (by decide +kernel)
set_option maxRecDepth 20000 in
theorem gX4_at_X4_fails : GoodIn wsX4_at (wsV RX4 70 RX4 yX4_fails wsX4_fails) := goodIn_app (goodIn_of _ (by decide +kernel)) ggX4_at_X4_fails
set_option maxRecDepth 20000 in
theorem ggX4_takeApart_X4_inverse : GoodIn wsX4_takeApart wsX4_inverse := goodIn_r _ [13, 7, 14, 15, 16, 17, 18, 19, 20, 21, 22, 23, 24, 25, 26, 27, 28, 29, 30, 31, 32, 33] (by decide +kernel) (by decide +kernel)
set_option maxRecDepth 20000 in
theorem gX4_takeApart_X4_inverse : GoodIn wsX4_takeApart (wsV RX4 88 RX4 yX4_inverse wsX4_inverse) := goodIn_app (goodIn_of _ (by decide +kernel)) ggX4_takeApart_X4_inverse
set_option maxRecDepth 20000 in
theorem ggX4_know_X4_effect : GoodIn wsX4_know wsX4_effect := goodIn_r _ [16, 17, 18, 31, 32, 33, 34, 35, 36, 37, 38, 39, 40, 41, 42, 43, 44, 45, 46, 47, 48, 49, 50] (by decide +kernel) (by decide +kernel)
set_option maxRecDepth 20000 in
theorem gX4_know_X4_effect : GoodIn wsX4_know (wsV RX4 81 RX4 yX4_effect wsX4_effect) := goodIn_app (goodIn_of _ (by decide +kernel)) ggX4_know_X4_effect
set_option maxRecDepth 20000 in
theorem ggX4_know_X4_takeApart : GoodIn wsX4_know wsX4_takeApart := goodIn_r _ [22, 3, 9, 2, 4, 10, 6, 8, 7, 23, 24, 25, 15, 26, 31, 32, 33, 34, 35, 36, 37, 38, 39, 40, 41, 42, 43, 44, 45, 46, 47, 48, 49, 50] (by decide +kernel) (by decide +kernel)
set_option maxRecDepth 20000 in
theorem gX4_know_X4_takeApart : GoodIn wsX4_know (wsV RX4 92 RX4 yX4_takeApart wsX4_takeApart) := goodIn_app (goodIn_of _ (by decide +kernel)) ggX4_know_X4_takeApart
set_option maxRecDepth 20000 in
theorem ggX4_know_X4_left : GoodIn wsX4_know wsX4_left := goodIn_r _ [30, 3, 4, 31, 32, 33, 34, 35, 36, 37, 38, 39, 40, 41, 42, 43, 44, 45, 46, 47, 48, 49, 50] (by decide +kernel) (by decide +kernel)
set_option maxRecDepth 20000 in
theorem gX4_know_X4_left : GoodIn wsX4_know (wsV RX4 95 RX4 yX4_left wsX4_left) := goodIn_app (goodIn_of _ (by decide +kernel)) ggX4_know_X4_left
set_option maxRecDepth 20000 in
theorem ggX4_rank_X4_know : GoodIn wsX4_rank wsX4_know := goodIn_r _ [7, 8, 2, 9, 10, 11, 12, 13, 14, 15, 16, 17, 18, 19, 20, 6, 21, 22, 23, 24, 25, 26, 27, 28, 29, 30, 31, 32, 33, 34, 35, 36, 37, 38, 39, 40, 41, 42, 43, 44, 45, 46, 47, 48, 49, 50, 51, 52, 53, 54, 55] (by decide +kernel) (by decide +kernel)
set_option maxRecDepth 20000 in
theorem gX4_rank_X4_know : GoodIn wsX4_rank (wsV RX4 99 RX4 yX4_know wsX4_know) := goodIn_app (goodIn_of _ (by decide +kernel)) ggX4_rank_X4_know
set_option maxRecDepth 20000 in
theorem ggX4_answers_X4_know : GoodIn wsX4_answers wsX4_know := goodIn_r _ [12, 13, 14, 1, 2, 15, 16, 17, 4, 7, 18, 19, 20, 21, 22, 11, 23, 24, 25, 26, 27, 28, 29, 30, 31, 32, 33, 34, 35, 36, 37, 38, 39, 40, 41, 42, 43, 44, 45, 46, 47, 48, 49, 50, 51, 52, 53, 54, 55, 56, 57] (by decide +kernel) (by decide +kernel)
set_option maxRecDepth 20000 in
theorem gX4_answers_X4_know : GoodIn wsX4_answers (wsV RX4 99 RX4 yX4_know wsX4_know) := goodIn_app (goodIn_of _ (by decide +kernel)) ggX4_answers_X4_know
set_option maxRecDepth 20000 in
theorem ggX4_answers_X4_takeApart : GoodIn wsX4_answers wsX4_takeApart := goodIn_r _ [29, 1, 7, 14, 2, 18, 16, 4, 17, 30, 31, 32, 11, 33, 38, 39, 40, 41, 42, 43, 44, 45, 46, 47, 48, 49, 50, 51, 52, 53, 54, 55, 56, 57] (by decide +kernel) (by decide +kernel)
set_option maxRecDepth 20000 in
theorem gX4_answers_X4_takeApart : GoodIn wsX4_answers (wsV RX4 92 RX4 yX4_takeApart wsX4_takeApart) := goodIn_app (goodIn_of _ (by decide +kernel)) ggX4_answers_X4_takeApart
set_option maxRecDepth 20000 in
theorem ggX4_answers_X4_left : GoodIn wsX4_answers wsX4_left := goodIn_r _ [37, 1, 2, 38, 39, 40, 41, 42, 43, 44, 45, 46, 47, 48, 49, 50, 51, 52, 53, 54, 55, 56, 57] (by decide +kernel) (by decide +kernel)
set_option maxRecDepth 20000 in
theorem gX4_answers_X4_left : GoodIn wsX4_answers (wsV RX4 95 RX4 yX4_left wsX4_left) := goodIn_app (goodIn_of _ (by decide +kernel)) ggX4_answers_X4_left
set_option maxRecDepth 20000 in
theorem ggX4_solvable_X4_answers : GoodIn wsX4_solvable wsX4_answers := goodIn_r _ [6, 7, 8, 9, 10, 11, 12, 13, 14, 15, 16, 5, 17, 18, 19, 20, 21, 22, 23, 24, 25, 26, 27, 28, 29, 30, 31, 32, 33, 34, 35, 36, 37, 38, 39, 40, 41, 42, 43, 44, 45, 46, 47, 48, 49, 50, 51, 52, 53, 54, 55, 56, 57, 58, 59, 60, 61, 62] (by decide +kernel) (by decide +kernel)
set_option maxRecDepth 20000 in
theorem gX4_solvable_X4_answers : GoodIn wsX4_solvable (wsV RX4 102 RX4 yX4_answers wsX4_answers) := goodIn_app (goodIn_of _ (by decide +kernel)) ggX4_solvable_X4_answers
set_option maxRecDepth 20000 in
theorem ggX4_answer_X4_isLamp : GoodIn wsX4_answer wsX4_isLamp := goodIn_r _ [6, 7, 51, 52, 53, 54, 55, 56, 57, 58, 59, 60, 61, 62, 63, 64, 65, 66, 67, 68, 69, 70] (by decide +kernel) (by decide +kernel)
set_option maxRecDepth 20000 in
theorem gX4_answer_X4_isLamp : GoodIn wsX4_answer (wsV RX4 66 RX4 yX4_isLamp wsX4_isLamp) := goodIn_app (goodIn_of _ (by decide +kernel)) ggX4_answer_X4_isLamp
set_option maxRecDepth 20000 in
theorem ggX4_answer_X4_fails : GoodIn wsX4_answer wsX4_fails := goodIn_r _ [11, 12, 51, 52, 53, 54, 55, 56, 57, 58, 59, 60, 61, 62, 63, 64, 65, 66, 67, 68, 69, 70] (by decide +kernel) (by decide +kernel)
set_option maxRecDepth 20000 in
theorem gX4_answer_X4_fails : GoodIn wsX4_answer (wsV RX4 70 RX4 yX4_fails wsX4_fails) := goodIn_app (goodIn_of _ (by decide +kernel)) ggX4_answer_X4_fails
set_option maxRecDepth 20000 in
theorem ggX4_answer_X4_answers : GoodIn wsX4_answer wsX4_answers := goodIn_r _ [16, 7, 17, 18, 19, 20, 1, 21, 22, 23, 24, 5, 25, 26, 27, 28, 29, 30, 31, 32, 33, 34, 35, 36, 37, 38, 39, 40, 41, 42, 43, 44, 45, 46, 47, 48, 49, 50, 51, 52, 53, 54, 55, 56, 57, 58, 59, 60, 61, 62, 63, 64, 65, 66, 67, 68, 69, 70] (by decide +kernel) (by decide +kernel)
set_option maxRecDepth 20000 in
theorem gX4_answer_X4_answers : GoodIn wsX4_answer (wsV RX4 102 RX4 yX4_answers wsX4_answers) := goodIn_app (goodIn_of _ (by decide +kernel)) ggX4_answer_X4_answers
set_option maxRecDepth 20000 in
theorem ggX4_quiet_X4_isLamp : GoodIn wsX4_quiet wsX4_isLamp := goodIn_r _ [8, 1, 44, 45, 46, 47, 48, 49, 50, 51, 52, 53, 54, 55, 56, 57, 58, 59, 60, 61, 62, 63] (by decide +kernel) (by decide +kernel)
set_option maxRecDepth 20000 in
theorem gX4_quiet_X4_isLamp : GoodIn wsX4_quiet (wsV RX4 66 RX4 yX4_isLamp wsX4_isLamp) := goodIn_app (goodIn_of _ (by decide +kernel)) ggX4_quiet_X4_isLamp
set_option maxRecDepth 20000 in
theorem ggX4_quiet_X4_fails : GoodIn wsX4_quiet wsX4_fails := goodIn_r _ [12, 13, 44, 45, 46, 47, 48, 49, 50, 51, 52, 53, 54, 55, 56, 57, 58, 59, 60, 61, 62, 63] (by decide +kernel) (by decide +kernel)
set_option maxRecDepth 20000 in
theorem gX4_quiet_X4_fails : GoodIn wsX4_quiet (wsV RX4 70 RX4 yX4_fails wsX4_fails) := goodIn_app (goodIn_of _ (by decide +kernel)) ggX4_quiet_X4_fails
set_option maxRecDepth 20000 in
theorem ggX4_quiet_X4_know : GoodIn wsX4_quiet wsX4_know := goodIn_r _ [17, 18, 2, 1, 19, 20, 21, 22, 23, 24, 25, 3, 26, 27, 28, 7, 29, 30, 31, 32, 33, 34, 35, 36, 37, 38, 39, 40, 41, 42, 43, 44, 45, 46, 47, 48, 49, 50, 51, 52, 53, 54, 55, 56, 57, 58, 59, 60, 61, 62, 63] (by decide +kernel) (by decide +kernel)
set_option maxRecDepth 20000 in
theorem gX4_quiet_X4_know : GoodIn wsX4_quiet (wsV RX4 99 RX4 yX4_know wsX4_know) := goodIn_app (goodIn_of _ (by decide +kernel)) ggX4_quiet_X4_know
set_option maxRecDepth 20000 in
theorem ggX4_count_X4_answers : GoodIn wsX4_count wsX4_answers := goodIn_r _ [10, 3, 11, 12, 5, 13, 14, 15, 16, 17, 18, 9, 19, 20, 4, 21, 22, 23, 24, 25, 26, 27, 28, 29, 30, 31, 32, 33, 34, 35, 36, 37, 38, 39, 40, 41, 42, 43, 44, 45, 46, 47, 48, 49, 50, 51, 52, 53, 54, 55, 56, 57, 58, 59, 60, 61, 62, 63] (by decide +kernel) (by decide +kernel)
set_option maxRecDepth 20000 in
theorem gX4_count_X4_answers : GoodIn wsX4_count (wsV RX4 102 RX4 yX4_answers wsX4_answers) := goodIn_app (goodIn_of _ (by decide +kernel)) ggX4_count_X4_answers
set_option maxRecDepth 20000 in
theorem ggX4_findBest_X4_answers : GoodIn wsX4_findBest wsX4_answers := goodIn_r _ [10, 1, 11, 12, 3, 13, 14, 15, 16, 17, 18, 9, 19, 20, 2, 21, 22, 23, 24, 25, 26, 27, 28, 29, 30, 31, 32, 33, 34, 35, 36, 37, 38, 39, 40, 41, 42, 43, 52, 53, 54, 55, 56, 57, 58, 59, 60, 61, 62, 63, 64, 65, 66, 67, 68, 69, 70, 71] (by decide +kernel) (by decide +kernel)
set_option maxRecDepth 20000 in
theorem gX4_findBest_X4_answers : GoodIn wsX4_findBest (wsV RX4 102 RX4 yX4_answers wsX4_answers) := goodIn_app (goodIn_of _ (by decide +kernel)) ggX4_findBest_X4_answers
set_option maxRecDepth 20000 in
theorem ggX4_findBest_X4_tryWay : GoodIn wsX4_findBest wsX4_tryWay := goodIn_r _ [47, 1, 5, 14, 3, 25, 52, 53, 54, 55, 56, 57, 58, 59, 60, 61, 62, 63, 64, 65, 66, 67, 68, 69, 70, 71] (by decide +kernel) (by decide +kernel)
set_option maxRecDepth 20000 in
theorem gX4_findBest_X4_tryWay : GoodIn wsX4_findBest (wsV RX4 106 RX4 yX4_tryWay wsX4_tryWay) := goodIn_app (goodIn_of _ (by decide +kernel)) ggX4_findBest_X4_tryWay
set_option maxRecDepth 20000 in
theorem ggX4_findBest_X4_isLess : GoodIn wsX4_findBest wsX4_isLess := goodIn_r _ [51, 1, 5, 4, 52, 53, 54, 55, 56, 57, 58, 59, 60, 61, 62, 63, 64, 65, 66, 67, 68, 69, 70, 71] (by decide +kernel) (by decide +kernel)
set_option maxRecDepth 20000 in
theorem gX4_findBest_X4_isLess : GoodIn wsX4_findBest (wsV RX4 109 RX4 yX4_isLess wsX4_isLess) := goodIn_app (goodIn_of _ (by decide +kernel)) ggX4_findBest_X4_isLess
set_option maxRecDepth 20000 in
theorem ggX4_fewest_X4_findBest : GoodIn wsX4_fewest wsX4_findBest := goodIn_r _ [6, 7, 8, 9, 10, 11, 12, 13, 14, 5, 15, 16, 17, 18, 19, 20, 21, 22, 23, 24, 25, 26, 27, 28, 29, 30, 31, 32, 33, 34, 35, 36, 37, 38, 39, 40, 41, 42, 43, 44, 45, 46, 47, 48, 49, 50, 51, 52, 53, 54, 55, 56, 57, 58, 59, 60, 61, 62, 63, 64, 65, 66, 67, 68, 69, 70, 71, 72, 73, 74, 75, 76] (by decide +kernel) (by decide +kernel)
set_option maxRecDepth 20000 in
theorem gX4_fewest_X4_findBest : GoodIn wsX4_fewest (wsV RX4 112 RX4 yX4_findBest wsX4_findBest) := goodIn_app (goodIn_of _ (by decide +kernel)) ggX4_fewest_X4_findBest
set_option maxRecDepth 20000 in
theorem ggX4_best_X4_isLamp : GoodIn wsX4_best wsX4_isLamp := goodIn_r _ [6, 7, 65, 66, 67, 68, 69, 70, 71, 72, 73, 74, 75, 76, 77, 78, 79, 80, 81, 82, 83, 84] (by decide +kernel) (by decide +kernel)
set_option maxRecDepth 20000 in
theorem gX4_best_X4_isLamp : GoodIn wsX4_best (wsV RX4 66 RX4 yX4_isLamp wsX4_isLamp) := goodIn_app (goodIn_of _ (by decide +kernel)) ggX4_best_X4_isLamp
set_option maxRecDepth 20000 in
theorem ggX4_best_X4_fails : GoodIn wsX4_best wsX4_fails := goodIn_r _ [11, 12, 65, 66, 67, 68, 69, 70, 71, 72, 73, 74, 75, 76, 77, 78, 79, 80, 81, 82, 83, 84] (by decide +kernel) (by decide +kernel)
set_option maxRecDepth 20000 in
theorem gX4_best_X4_fails : GoodIn wsX4_best (wsV RX4 70 RX4 yX4_fails wsX4_fails) := goodIn_app (goodIn_of _ (by decide +kernel)) ggX4_best_X4_fails
set_option maxRecDepth 20000 in
theorem ggX4_best_X4_findBest : GoodIn wsX4_best wsX4_findBest := goodIn_r _ [16, 7, 17, 18, 1, 19, 20, 21, 22, 5, 23, 24, 25, 26, 27, 28, 29, 30, 31, 32, 33, 34, 35, 36, 37, 38, 39, 40, 41, 42, 43, 44, 45, 46, 47, 48, 49, 50, 51, 52, 53, 54, 55, 56, 57, 58, 59, 60, 61, 62, 63, 64, 65, 66, 67, 68, 69, 70, 71, 72, 73, 74, 75, 76, 77, 78, 79, 80, 81, 82, 83, 84] (by decide +kernel) (by decide +kernel)
set_option maxRecDepth 20000 in
theorem gX4_best_X4_findBest : GoodIn wsX4_best (wsV RX4 112 RX4 yX4_findBest wsX4_findBest) := goodIn_app (goodIn_of _ (by decide +kernel)) ggX4_best_X4_findBest
set_option maxRecDepth 20000 in
theorem ggX4_alone_X4_isLamp : GoodIn wsX4_alone wsX4_isLamp := goodIn_r _ [7, 1, 44, 45, 46, 47, 48, 49, 50, 51, 52, 53, 54, 55, 56, 57, 58, 59, 60, 61, 62, 63] (by decide +kernel) (by decide +kernel)
set_option maxRecDepth 20000 in
theorem gX4_alone_X4_isLamp : GoodIn wsX4_alone (wsV RX4 66 RX4 yX4_isLamp wsX4_isLamp) := goodIn_app (goodIn_of _ (by decide +kernel)) ggX4_alone_X4_isLamp
set_option maxRecDepth 20000 in
theorem ggX4_alone_X4_fails : GoodIn wsX4_alone wsX4_fails := goodIn_r _ [11, 12, 44, 45, 46, 47, 48, 49, 50, 51, 52, 53, 54, 55, 56, 57, 58, 59, 60, 61, 62, 63] (by decide +kernel) (by decide +kernel)
set_option maxRecDepth 20000 in
theorem gX4_alone_X4_fails : GoodIn wsX4_alone (wsV RX4 70 RX4 yX4_fails wsX4_fails) := goodIn_app (goodIn_of _ (by decide +kernel)) ggX4_alone_X4_fails
set_option maxRecDepth 20000 in
theorem ggX4_alone_X4_know : GoodIn wsX4_alone wsX4_know := goodIn_r _ [16, 17, 18, 1, 2, 19, 20, 21, 22, 23, 24, 25, 26, 27, 28, 6, 29, 30, 31, 32, 33, 34, 35, 36, 37, 38, 39, 40, 41, 42, 43, 44, 45, 46, 47, 48, 49, 50, 51, 52, 53, 54, 55, 56, 57, 58, 59, 60, 61, 62, 63] (by decide +kernel) (by decide +kernel)
set_option maxRecDepth 20000 in
theorem gX4_alone_X4_know : GoodIn wsX4_alone (wsV RX4 99 RX4 yX4_know wsX4_know) := goodIn_app (goodIn_of _ (by decide +kernel)) ggX4_alone_X4_know
set_option maxRecDepth 20000 in
theorem ggX4_alone_X4_takeApart : GoodIn wsX4_alone wsX4_takeApart := goodIn_r _ [35, 1, 23, 18, 2, 24, 20, 22, 21, 36, 37, 38, 6, 39, 44, 45, 46, 47, 48, 49, 50, 51, 52, 53, 54, 55, 56, 57, 58, 59, 60, 61, 62, 63] (by decide +kernel) (by decide +kernel)
set_option maxRecDepth 20000 in
theorem gX4_alone_X4_takeApart : GoodIn wsX4_alone (wsV RX4 92 RX4 yX4_takeApart wsX4_takeApart) := goodIn_app (goodIn_of _ (by decide +kernel)) ggX4_alone_X4_takeApart
set_option maxRecDepth 20000 in
theorem ggX4_alone_X4_left : GoodIn wsX4_alone wsX4_left := goodIn_r _ [43, 1, 2, 44, 45, 46, 47, 48, 49, 50, 51, 52, 53, 54, 55, 56, 57, 58, 59, 60, 61, 62, 63] (by decide +kernel) (by decide +kernel)
set_option maxRecDepth 20000 in
theorem gX4_alone_X4_left : GoodIn wsX4_alone (wsV RX4 95 RX4 yX4_left wsX4_left) := goodIn_app (goodIn_of _ (by decide +kernel)) ggX4_alone_X4_left
set_option maxRecDepth 20000 in
theorem ggL_join_X3_join : GoodIn wsL_join wsX3_join := goodIn_r _ [5, 6, 7, 8, 9, 4, 10, 11, 12, 13, 14, 15, 16, 17, 18, 19, 20, 21, 22, 23, 24, 25, 26, 27, 28, 29, 30, 31, 32, 33, 34, 35, 36, 37, 38, 39, 40] (by decide +kernel) (by decide +kernel)
set_option maxRecDepth 20000 in
theorem gL_join_X3_join : GoodIn wsL_join (wsV RL 7 RX3 yX3_join wsX3_join) := goodIn_app (goodIn_of _ (by decide +kernel)) ggL_join_X3_join
set_option maxRecDepth 20000 in
theorem ggL_self_X3_self : GoodIn wsL_self wsX3_self := goodIn_r _ [5, 6, 7, 8, 9, 4, 10, 11, 12, 13, 14, 15, 16, 17, 18, 19, 20, 21, 22, 23, 24, 25, 26, 27, 28, 29, 30, 31, 32, 33, 34, 35, 36, 37, 38, 39, 40] (by decide +kernel) (by decide +kernel)
set_option maxRecDepth 20000 in
theorem gL_self_X3_self : GoodIn wsL_self (wsV RL 15 RX3 yX3_self wsX3_self) := goodIn_app (goodIn_of _ (by decide +kernel)) ggL_self_X3_self
set_option maxRecDepth 20000 in
theorem ggL_set_X3_set : GoodIn wsL_set wsX3_set := goodIn_r _ [5, 6, 7, 8, 9, 4, 10, 11, 12, 13, 14, 15, 16, 17, 18, 19, 20, 21, 22, 23, 24, 25, 26, 27, 28, 29, 30, 31, 32, 33, 34, 35, 36, 37, 38, 39, 40, 41] (by decide +kernel) (by decide +kernel)
set_option maxRecDepth 20000 in
theorem gL_set_X3_set : GoodIn wsL_set (wsV RL 19 RX3 yX3_set wsX3_set) := goodIn_app (goodIn_of _ (by decide +kernel)) ggL_set_X3_set
set_option maxRecDepth 20000 in
theorem ggL_want_X3_want : GoodIn wsL_want wsX3_want := goodIn_r _ [5, 6, 7, 8, 9, 4, 10, 11, 12, 13, 14, 15, 16, 17, 18, 19, 20, 21, 22, 23, 24, 25, 26, 27, 28, 29, 30, 31, 32, 33, 34, 35, 36, 37, 38, 39, 40, 41] (by decide +kernel) (by decide +kernel)
set_option maxRecDepth 20000 in
theorem gL_want_X3_want : GoodIn wsL_want (wsV RL 22 RX3 yX3_want wsX3_want) := goodIn_app (goodIn_of _ (by decide +kernel)) ggL_want_X3_want
set_option maxRecDepth 20000 in
theorem ggL_press_X3_press : GoodIn wsL_press wsX3_press := goodIn_r _ [5, 6, 7, 8, 9, 10, 11, 4, 12, 13, 14, 15, 16, 17, 18, 19, 20, 21, 22, 23, 24, 25, 26, 27, 28, 29, 30, 31, 32, 33, 34, 35, 36, 37, 38, 39, 40, 41, 42] (by decide +kernel) (by decide +kernel)
set_option maxRecDepth 20000 in
theorem gL_press_X3_press : GoodIn wsL_press (wsV RL 25 RX3 yX3_press wsX3_press) := goodIn_app (goodIn_of _ (by decide +kernel)) ggL_press_X3_press
set_option maxRecDepth 20000 in
theorem ggL_at_X3_at : GoodIn wsL_at wsX3_at := goodIn_r _ [5, 6, 7, 8, 9, 4, 10, 11, 12, 13, 14, 15, 16, 17, 18, 19, 20, 21, 22, 23, 24, 25, 26, 27, 28, 29, 30] (by decide +kernel) (by decide +kernel)
set_option maxRecDepth 20000 in
theorem gL_at_X3_at : GoodIn wsL_at (wsV RL 28 RX3 yX3_at wsX3_at) := goodIn_app (goodIn_of _ (by decide +kernel)) ggL_at_X3_at
set_option maxRecDepth 20000 in
theorem ggL_answer_X3_answer : GoodIn wsL_answer wsX3_answer := goodIn_r _ [5, 6, 7, 8, 9, 4, 10, 11, 12, 13, 14, 15, 16, 17, 18, 19, 20, 21, 22, 23, 24, 25, 26, 27, 28, 29, 30, 31, 32, 33, 34, 35, 36, 37, 38, 39, 40, 41, 42, 43, 44, 45, 46, 47, 48, 49, 50, 51, 52, 53, 54, 55, 56, 57, 58, 59, 60, 61, 62, 63, 64, 65, 66, 67, 68, 69, 70, 71, 72, 73, 74, 75, 76, 77, 78, 79, 80, 81, 82, 83, 84, 85, 86, 87, 88, 89, 90, 91, 92, 93, 94, 95, 96, 97, 98, 99, 100, 101] (by decide +kernel) (by decide +kernel)
set_option maxRecDepth 20000 in
theorem gL_answer_X3_answer : GoodIn wsL_answer (wsV RL 32 RX3 yX3_answer wsX3_answer) := goodIn_app (goodIn_of _ (by decide +kernel)) ggL_answer_X3_answer
set_option maxRecDepth 20000 in
theorem ggL_quiet_X3_quiet : GoodIn wsL_quiet wsX3_quiet := goodIn_r _ [5, 6, 7, 8, 9, 4, 10, 11, 12, 13, 14, 15, 16, 17, 18, 19, 20, 21, 22, 23, 24, 25, 26, 27, 28, 29, 30, 31, 32, 33, 34, 35, 36, 37, 38, 39, 40, 41, 42, 43, 44, 45, 46, 47, 48, 49, 50, 51, 52, 53, 54, 55, 56, 57, 58, 59, 60, 61, 62, 63, 64, 65, 66, 67, 68, 69, 70, 71, 72, 73, 74, 75, 76, 77, 78, 79, 80, 81, 82, 83, 84, 85, 86, 87, 88, 89, 90, 91, 92, 93, 94, 95, 96, 97, 98, 99, 100, 101] (by decide +kernel) (by decide +kernel)
set_option maxRecDepth 20000 in
theorem gL_quiet_X3_quiet : GoodIn wsL_quiet (wsV RL 35 RX3 yX3_quiet wsX3_quiet) := goodIn_app (goodIn_of _ (by decide +kernel)) ggL_quiet_X3_quiet
set_option maxRecDepth 20000 in
theorem ggL_best_X3_best : GoodIn wsL_best wsX3_best := goodIn_r _ [5, 6, 7, 8, 9, 4, 10, 11, 12, 13, 14, 15, 16, 17, 18, 19, 20, 21, 22, 23, 24, 25, 26, 27, 28, 29, 30, 31, 32, 33, 34, 35, 36, 37, 38, 39, 40, 41, 42, 43, 44, 45, 46, 47, 48, 49, 50, 51, 52, 53, 54, 55, 56, 57, 58, 59, 60, 61, 62, 63, 64, 65, 66, 67, 68, 69, 70, 71, 72, 73, 74, 75, 76, 77, 78, 79, 80, 81, 82, 83, 84, 85, 86, 87, 88, 89, 90, 91, 92, 93, 94, 95, 96, 97, 98, 99, 100, 101, 102, 103, 104, 105, 106, 107, 108, 109, 110, 111, 112, 113, 114, 115, 116, 117, 118, 119, 120, 121, 122, 123, 124, 125, 126, 127, 128, 129, 130, 131, 132, 133, 134, 135, 136, 137, 138, 139, 140, 141, 142, 143, 144, 145, 146, 147, 148, 149, 150, 151, 152, 153, 154, 155, 156, 157, 158, 159, 160, 161, 162, 163, 164, 165, 166, 167, 168, 169, 170, 171, 172, 173, 174, 175, 176] (by decide +kernel) (by decide +kernel)
set_option maxRecDepth 20000 in
theorem gL_best_X3_best : GoodIn wsL_best (wsV RL 39 RX3 yX3_best wsX3_best) := goodIn_app (goodIn_of _ (by decide +kernel)) ggL_best_X3_best
set_option maxRecDepth 20000 in
theorem ggL_alone_X3_alone : GoodIn wsL_alone wsX3_alone := goodIn_r _ [5, 6, 7, 8, 9, 4, 10, 11, 12, 13, 14, 15, 16, 17, 18, 19, 20, 21, 22, 23, 24, 25, 26, 27, 28, 29, 30, 31, 32, 33, 34, 35, 36, 37, 38, 39, 40, 41, 42, 43, 44, 45, 46, 47, 48, 49, 50, 51, 52, 53, 54, 55, 56, 57, 58, 59, 60, 61, 62, 63, 64, 65, 66, 67, 68, 69, 70, 71, 72, 73, 74, 75, 76, 77, 78, 79, 80, 81, 82, 83, 84, 85, 86, 87, 88, 89, 90, 91, 92, 93, 94, 95, 96, 97, 98, 99, 100, 101] (by decide +kernel) (by decide +kernel)
set_option maxRecDepth 20000 in
theorem gL_alone_X3_alone : GoodIn wsL_alone (wsV RL 42 RX3 yX3_alone wsX3_alone) := goodIn_app (goodIn_of _ (by decide +kernel)) ggL_alone_X3_alone
set_option maxRecDepth 20000 in
theorem ggL_law_L_cell : GoodIn wsL_law wsL_cell := goodIn_r _ [10] (by decide +kernel) (by decide +kernel)
set_option maxRecDepth 20000 in
theorem gL_law_L_cell : GoodIn wsL_law (va_wsS RL 46 yL_cell wsL_cell) := goodIn_app (goodIn_of _ (by decide +kernel)) ggL_law_L_cell
set_option maxRecDepth 20000 in
theorem ggL_law_X3_init : GoodIn wsL_law wsX3_init := goodIn_r _ [13, 14, 15, 16, 17, 18, 19, 20, 21, 22, 23, 24, 25, 26, 27, 28, 29, 30, 31, 32, 33, 34, 35, 36, 37, 38, 39, 40, 41, 42, 43, 44, 45, 2, 46, 47, 48, 49, 50, 51, 52, 53, 54, 55, 56, 57, 58, 59, 60, 61, 62, 63, 64, 65, 66, 67, 68, 69, 70, 71, 72, 73, 74, 461, 462, 463, 464, 465, 466, 467, 468, 469, 470, 491, 492, 493, 494, 495, 496, 497, 498, 499, 500, 501, 502, 503, 504, 505] (by decide +kernel) (by decide +kernel)
set_option maxRecDepth 20000 in
theorem gL_law_X3_init : GoodIn wsL_law (wsX3_init) := ggL_law_X3_init
set_option maxRecDepth 20000 in
theorem ggL_law_X4_init : GoodIn wsL_law wsX4_init := goodIn_r _ [77, 78, 15, 16, 79, 80, 81, 26, 82, 83, 84, 85, 86, 87, 88, 89, 90, 91, 92, 93, 94, 95, 96, 471, 472, 473, 474, 475, 476, 477, 478, 479, 480, 481, 482, 483, 484, 485, 486, 487, 488, 489, 490] (by decide +kernel) (by decide +kernel)
set_option maxRecDepth 20000 in
theorem gL_law_X4_init : GoodIn wsL_law (wsX4_init) := ggL_law_X4_init
set_option maxRecDepth 20000 in
theorem ggL_law_L_join : GoodIn wsL_law wsL_join := goodIn_r _ [99, 100, 101, 102, 2, 103, 29, 104, 105, 106, 107, 24, 108, 109, 110, 111, 112, 113, 114, 115, 116, 117, 118, 42, 43, 461, 462, 463, 464, 465, 466, 467, 468, 469, 470, 506, 507, 508, 509, 510, 511] (by decide +kernel) (by decide +kernel)
set_option maxRecDepth 20000 in
theorem gL_law_L_join : GoodIn wsL_law (va_wsS RL 58 yL_join wsL_join) := goodIn_app (goodIn_of _ (by decide +kernel)) ggL_law_L_join
set_option maxRecDepth 20000 in
theorem ggL_law_X4_join : GoodIn wsL_law wsX4_join := goodIn_r _ [122, 80, 123, 124, 125, 126, 5, 127, 95, 128, 129, 130, 131, 132, 471, 472, 473, 474, 475, 476, 477, 478, 479, 480, 481, 482, 483, 484, 485, 486, 487, 488, 489, 490] (by decide +kernel) (by decide +kernel)
set_option maxRecDepth 20000 in
theorem gL_law_X4_join : GoodIn wsL_law (wsV RL 61 RX4 yX4_join wsX4_join) := goodIn_app (goodIn_of _ (by decide +kernel)) ggL_law_X4_join
set_option maxRecDepth 20000 in
theorem ggL_law_X4_thrown : GoodIn wsL_law wsX4_thrown := goodIn_r _ [136, 132, 471, 472, 473, 474, 475, 476, 477, 478, 479, 480, 481, 482, 483, 484, 485, 486, 487, 488, 489, 490] (by decide +kernel) (by decide +kernel)
set_option maxRecDepth 20000 in
theorem gL_law_X4_thrown : GoodIn wsL_law (wsV RL 62 RX4 yX4_thrown wsX4_thrown) := goodIn_app (goodIn_of _ (by decide +kernel)) ggL_law_X4_thrown
set_option maxRecDepth 20000 in
theorem ggL_law_L_self : GoodIn wsL_law wsL_self := goodIn_r _ [139, 140, 141, 142, 2, 143, 29, 104, 105, 106, 107, 24, 108, 109, 110, 111, 112, 113, 114, 115, 116, 117, 118, 42, 43, 461, 462, 463, 464, 465, 466, 467, 468, 469, 470, 506, 507, 508, 509, 510, 511] (by decide +kernel) (by decide +kernel)
set_option maxRecDepth 20000 in
theorem gL_law_L_self : GoodIn wsL_law (va_wsS RL 66 yL_self wsL_self) := goodIn_app (goodIn_of _ (by decide +kernel)) ggL_law_L_self
set_option maxRecDepth 20000 in
theorem ggL_law_X4_self : GoodIn wsL_law wsX4_self := goodIn_r _ [147, 81, 123, 124, 125, 126, 5, 127, 95, 128, 129, 130, 131, 132, 471, 472, 473, 474, 475, 476, 477, 478, 479, 480, 481, 482, 483, 484, 485, 486, 487, 488, 489, 490] (by decide +kernel) (by decide +kernel)
set_option maxRecDepth 20000 in
theorem gL_law_X4_self : GoodIn wsL_law (wsV RL 69 RX4 yX4_self wsX4_self) := goodIn_app (goodIn_of _ (by decide +kernel)) ggL_law_X4_self
set_option maxRecDepth 20000 in
theorem ggL_law_L_set : GoodIn wsL_law wsL_set := goodIn_r _ [150, 151, 152, 153, 2, 154, 27, 104, 105, 106, 107, 24, 108, 109, 110, 155, 156, 157, 158, 25, 115, 116, 117, 118, 42, 43, 461, 462, 463, 464, 465, 466, 467, 468, 469, 470, 506, 507, 508, 509, 510, 511] (by decide +kernel) (by decide +kernel)
set_option maxRecDepth 20000 in
theorem gL_law_L_set : GoodIn wsL_law (va_wsS RL 70 yL_set wsL_set) := goodIn_app (goodIn_of _ (by decide +kernel)) ggL_law_L_set
set_option maxRecDepth 20000 in
theorem ggL_law_X4_set : GoodIn wsL_law wsX4_set := goodIn_r _ [162, 82, 124, 125, 126, 5, 127, 95, 128, 129, 130, 131, 132, 163, 164, 165, 166, 96, 471, 472, 473, 474, 475, 476, 477, 478, 479, 480, 481, 482, 483, 484, 485, 486, 487, 488, 489, 490] (by decide +kernel) (by decide +kernel)
set_option maxRecDepth 20000 in
theorem gL_law_X4_set : GoodIn wsL_law (wsV RL 72 RX4 yX4_set wsX4_set) := goodIn_app (goodIn_of _ (by decide +kernel)) ggL_law_X4_set
set_option maxRecDepth 20000 in
theorem ggL_law_L_want : GoodIn wsL_law wsL_want := goodIn_r _ [169, 170, 171, 172, 2, 173, 28, 104, 105, 106, 107, 24, 108, 109, 110, 155, 156, 157, 158, 25, 115, 116, 117, 118, 42, 43, 461, 462, 463, 464, 465, 466, 467, 468, 469, 470, 506, 507, 508, 509, 510, 511] (by decide +kernel) (by decide +kernel)
set_option maxRecDepth 20000 in
theorem gL_law_L_want : GoodIn wsL_law (va_wsS RL 73 yL_want wsL_want) := goodIn_app (goodIn_of _ (by decide +kernel)) ggL_law_L_want
set_option maxRecDepth 20000 in
theorem ggL_law_X4_want : GoodIn wsL_law wsX4_want := goodIn_r _ [177, 83, 124, 125, 126, 5, 127, 95, 128, 129, 130, 131, 132, 163, 164, 165, 166, 96, 471, 472, 473, 474, 475, 476, 477, 478, 479, 480, 481, 482, 483, 484, 485, 486, 487, 488, 489, 490] (by decide +kernel) (by decide +kernel)
set_option maxRecDepth 20000 in
theorem gL_law_X4_want : GoodIn wsL_law (wsV RL 75 RX4 yX4_want wsX4_want) := goodIn_app (goodIn_of _ (by decide +kernel)) ggL_law_X4_want
set_option maxRecDepth 20000 in
theorem ggL_law_L_press : GoodIn wsL_law wsL_press := goodIn_r _ [180, 181, 182, 183, 2, 184, 24, 27, 25, 104, 105, 106, 107, 108, 109, 110, 111, 112, 113, 114, 29, 115, 116, 117, 118, 42, 43, 461, 462, 463, 464, 465, 466, 467, 468, 469, 470, 506, 507, 508, 509, 510, 511] (by decide +kernel) (by decide +kernel)
set_option maxRecDepth 20000 in
theorem gL_law_L_press : GoodIn wsL_law (va_wsS RL 76 yL_press wsL_press) := goodIn_app (goodIn_of _ (by decide +kernel)) ggL_law_L_press
set_option maxRecDepth 20000 in
theorem ggL_law_X4_press : GoodIn wsL_law wsX4_press := goodIn_r _ [188, 95, 82, 96, 124, 125, 126, 5, 127, 128, 129, 130, 131, 132, 189, 190, 191, 192, 81, 80, 471, 472, 473, 474, 475, 476, 477, 478, 479, 480, 481, 482, 483, 484, 485, 486, 487, 488, 489, 490] (by decide +kernel) (by decide +kernel)
set_option maxRecDepth 20000 in
theorem gL_law_X4_press : GoodIn wsL_law (wsV RL 78 RX4 yX4_press wsX4_press) := goodIn_app (goodIn_of _ (by decide +kernel)) ggL_law_X4_press
set_option maxRecDepth 20000 in
theorem ggL_law_L_at : GoodIn wsL_law wsL_at := goodIn_r _ [195, 196, 197, 198, 2, 199, 27, 104, 105, 106, 107, 24, 108, 109, 110, 461, 462, 463, 464, 465, 466, 467, 468, 469, 470, 506, 507, 508, 509, 510, 511] (by decide +kernel) (by decide +kernel)
set_option maxRecDepth 20000 in
theorem gL_law_L_at : GoodIn wsL_law (va_wsS RL 79 yL_at wsL_at) := goodIn_app (goodIn_of _ (by decide +kernel)) ggL_law_L_at
set_option maxRecDepth 20000 in
theorem ggL_law_X4_at : GoodIn wsL_law wsX4_at := goodIn_r _ [203, 82, 124, 125, 126, 5, 127, 95, 128, 129, 130, 131, 132, 471, 472, 473, 474, 475, 476, 477, 478, 479, 480, 481, 482, 483, 484, 485, 486, 487, 488, 489, 490] (by decide +kernel) (by decide +kernel)
set_option maxRecDepth 20000 in
theorem gL_law_X4_at : GoodIn wsL_law (wsV RL 82 RX4 yX4_at wsX4_at) := goodIn_app (goodIn_of _ (by decide +kernel)) ggL_law_X4_at
set_option maxRecDepth 20000 in
theorem ggL_law_X3_apart : GoodIn wsL_law wsX3_apart := goodIn_r _ [207, 24, 27, 28, 461, 462, 463, 464, 465, 466, 467, 468, 469, 470] (by decide +kernel) (by decide +kernel)
set_option maxRecDepth 20000 in
theorem gL_law_X3_apart : GoodIn wsL_law (wsV RL 83 RX3 yX3_apart wsX3_apart) := goodIn_app (goodIn_of _ (by decide +kernel)) ggL_law_X3_apart
set_option maxRecDepth 20000 in
theorem ggL_law_X4_apart : GoodIn wsL_law wsX4_apart := goodIn_r _ [211, 132, 95, 82, 83, 471, 472, 473, 474, 475, 476, 477, 478, 479, 480, 481, 482, 483, 484, 485, 486, 487, 488, 489, 490] (by decide +kernel) (by decide +kernel)
set_option maxRecDepth 20000 in
theorem gL_law_X4_apart : GoodIn wsL_law (wsV RL 86 RX4 yX4_apart wsX4_apart) := goodIn_app (goodIn_of _ (by decide +kernel)) ggL_law_X4_apart
set_option maxRecDepth 20000 in
theorem ggL_law_X3_rank : GoodIn wsL_law wsX3_rank := goodIn_r _ [215, 33, 216, 217, 218, 2, 219, 42, 29, 27, 28, 220, 221, 222, 32, 223, 51, 54, 52, 224, 225, 226, 227, 57, 55, 228, 229, 230, 231, 232, 233, 234, 235, 236, 237, 238, 239, 240, 241, 242, 243, 244, 245, 246, 247, 248, 249, 250, 251, 252, 253, 254, 255, 58, 56, 256, 257, 258, 259, 260, 261, 262, 263, 461, 462, 463, 464, 465, 466, 467, 468, 469, 470, 491, 492, 493, 494, 495, 496, 497] (by decide +kernel) (by decide +kernel)
set_option maxRecDepth 20000 in
theorem gL_law_X3_rank : GoodIn wsL_law (wsV RL 87 RX3 yX3_rank wsX3_rank) := goodIn_app (goodIn_of _ (by decide +kernel)) ggL_law_X3_rank
set_option maxRecDepth 20000 in
theorem ggL_law_X4_rank : GoodIn wsL_law wsX4_rank := goodIn_r _ [267, 132, 268, 269, 270, 271, 5, 272, 123, 95, 88, 87, 84, 85, 96, 89, 86, 91, 189, 190, 191, 192, 81, 80, 273, 274, 275, 276, 277, 278, 279, 280, 281, 282, 283, 284, 471, 472, 473, 474, 475, 476, 477, 478, 479, 480, 481, 482, 483, 484, 485, 486, 487, 488, 489, 490] (by decide +kernel) (by decide +kernel)
set_option maxRecDepth 20000 in
theorem gL_law_X4_rank : GoodIn wsL_law (wsV RL 90 RX4 yX4_rank wsX4_rank) := goodIn_app (goodIn_of _ (by decide +kernel)) ggL_law_X4_rank
set_option maxRecDepth 20000 in
theorem ggL_law_X3_solvable : GoodIn wsL_law wsX3_solvable := goodIn_r _ [288, 33, 216, 217, 218, 2, 219, 42, 29, 27, 28, 220, 221, 222, 32, 223, 51, 54, 52, 224, 225, 226, 227, 57, 55, 228, 229, 230, 231, 232, 233, 234, 235, 236, 237, 238, 239, 240, 241, 242, 243, 244, 245, 246, 247, 248, 249, 250, 251, 252, 253, 254, 255, 58, 56, 256, 257, 258, 259, 289, 290, 291, 292, 461, 462, 463, 464, 465, 466, 467, 468, 469, 470, 491, 492, 493, 494, 495, 496, 497] (by decide +kernel) (by decide +kernel)
set_option maxRecDepth 20000 in
theorem gL_law_X3_solvable : GoodIn wsL_law (wsV RL 91 RX3 yX3_solvable wsX3_solvable) := goodIn_app (goodIn_of _ (by decide +kernel)) ggL_law_X3_solvable
set_option maxRecDepth 20000 in
theorem ggL_law_X4_solvable : GoodIn wsL_law wsX4_solvable := goodIn_r _ [296, 132, 297, 298, 299, 5, 300, 95, 88, 83, 96, 82, 90, 89, 269, 270, 271, 272, 123, 268, 87, 84, 85, 86, 91, 189, 190, 191, 192, 81, 80, 273, 274, 275, 276, 277, 278, 279, 280, 281, 282, 283, 284, 471, 472, 473, 474, 475, 476, 477, 478, 479, 480, 481, 482, 483, 484, 485, 486, 487, 488, 489, 490] (by decide +kernel) (by decide +kernel)
set_option maxRecDepth 20000 in
theorem gL_law_X4_solvable : GoodIn wsL_law (wsV RL 95 RX4 yX4_solvable wsX4_solvable) := goodIn_app (goodIn_of _ (by decide +kernel)) ggL_law_X4_solvable
set_option maxRecDepth 20000 in
theorem ggL_law_L_answer : GoodIn wsL_law wsL_answer := goodIn_r _ [303, 304, 305, 306, 2, 307, 33, 104, 105, 106, 107, 24, 108, 109, 110, 216, 217, 218, 219, 42, 29, 27, 28, 220, 221, 222, 32, 223, 51, 54, 52, 224, 225, 226, 227, 57, 55, 228, 229, 230, 231, 232, 233, 234, 235, 236, 237, 238, 239, 240, 241, 242, 243, 244, 245, 246, 247, 248, 249, 250, 251, 252, 253, 254, 255, 58, 56, 256, 257, 258, 259, 289, 290, 291, 292, 308, 309, 310, 311, 461, 462, 463, 464, 465, 466, 467, 468, 469, 470, 506, 507, 508, 509, 510, 511, 491, 492, 493, 494, 495, 496, 497] (by decide +kernel) (by decide +kernel)
set_option maxRecDepth 20000 in
theorem gL_law_L_answer : GoodIn wsL_law (va_wsS RL 96 yL_answer wsL_answer) := goodIn_app (goodIn_of _ (by decide +kernel)) ggL_law_L_answer
set_option maxRecDepth 20000 in
theorem ggL_law_X4_answer : GoodIn wsL_law wsX4_answer := goodIn_r _ [315, 90, 124, 125, 126, 5, 127, 95, 128, 129, 130, 131, 132, 297, 298, 299, 300, 88, 83, 96, 82, 89, 269, 270, 271, 272, 123, 268, 87, 84, 85, 86, 91, 189, 190, 191, 192, 81, 80, 273, 274, 275, 276, 277, 278, 279, 280, 281, 282, 283, 284, 471, 472, 473, 474, 475, 476, 477, 478, 479, 480, 481, 482, 483, 484, 485, 486, 487, 488, 489, 490] (by decide +kernel) (by decide +kernel)
set_option maxRecDepth 20000 in
theorem gL_law_X4_answer : GoodIn wsL_law (wsV RL 98 RX4 yX4_answer wsX4_answer) := goodIn_app (goodIn_of _ (by decide +kernel)) ggL_law_X4_answer
set_option maxRecDepth 20000 in
theorem ggL_law_L_quiet : GoodIn wsL_law wsL_quiet := goodIn_r _ [318, 319, 320, 321, 2, 322, 33, 104, 105, 106, 107, 24, 108, 109, 110, 216, 217, 218, 219, 42, 29, 27, 28, 220, 221, 222, 32, 223, 51, 54, 52, 224, 225, 226, 227, 57, 55, 228, 229, 230, 231, 232, 233, 234, 235, 236, 237, 238, 239, 240, 241, 242, 243, 244, 245, 246, 247, 248, 249, 250, 251, 252, 253, 254, 255, 58, 56, 256, 257, 258, 259, 323, 324, 325, 326, 327, 328, 329, 330, 461, 462, 463, 464, 465, 466, 467, 468, 469, 470, 506, 507, 508, 509, 510, 511, 491, 492, 493, 494, 495, 496, 497] (by decide +kernel) (by decide +kernel)
set_option maxRecDepth 20000 in
theorem gL_law_L_quiet : GoodIn wsL_law (va_wsS RL 99 yL_quiet wsL_quiet) := goodIn_app (goodIn_of _ (by decide +kernel)) ggL_law_L_quiet
set_option maxRecDepth 20000 in
theorem ggL_law_X4_quiet : GoodIn wsL_law wsX4_quiet := goodIn_r _ [334, 95, 268, 91, 124, 125, 126, 5, 127, 128, 129, 130, 131, 132, 269, 270, 271, 272, 123, 88, 87, 84, 85, 96, 89, 86, 189, 190, 191, 192, 81, 80, 273, 274, 275, 276, 277, 278, 279, 280, 281, 282, 283, 284, 471, 472, 473, 474, 475, 476, 477, 478, 479, 480, 481, 482, 483, 484, 485, 486, 487, 488, 489, 490] (by decide +kernel) (by decide +kernel)
set_option maxRecDepth 20000 in
theorem gL_law_X4_quiet : GoodIn wsL_law (wsV RL 101 RX4 yX4_quiet wsX4_quiet) := goodIn_app (goodIn_of _ (by decide +kernel)) ggL_law_X4_quiet
set_option maxRecDepth 20000 in
theorem ggL_law_X3_count : GoodIn wsL_law wsX3_count := goodIn_r _ [338, 41, 33, 25, 216, 217, 218, 2, 219, 42, 29, 27, 28, 220, 221, 222, 32, 223, 51, 54, 52, 224, 225, 226, 227, 57, 55, 228, 229, 230, 231, 232, 233, 234, 235, 236, 237, 238, 239, 240, 241, 242, 243, 244, 245, 246, 247, 248, 249, 250, 251, 252, 253, 254, 255, 58, 56, 256, 257, 258, 259, 289, 290, 291, 292, 339, 340, 341, 40, 342, 73, 74, 323, 324, 325, 326, 343, 344, 345, 346, 347, 348, 349, 350, 461, 462, 463, 464, 465, 466, 467, 468, 469, 470, 491, 492, 493, 494, 495, 496, 497, 504, 505] (by decide +kernel) (by decide +kernel)
set_option maxRecDepth 20000 in
theorem gL_law_X3_count : GoodIn wsL_law (wsV RL 102 RX3 yX3_count wsX3_count) := goodIn_app (goodIn_of _ (by decide +kernel)) ggL_law_X3_count
set_option maxRecDepth 20000 in
theorem ggL_law_X4_count : GoodIn wsL_law wsX4_count := goodIn_r _ [354, 132, 94, 95, 268, 96, 297, 298, 299, 5, 300, 88, 83, 82, 90, 89, 269, 270, 271, 272, 123, 87, 84, 85, 86, 91, 189, 190, 191, 192, 81, 80, 273, 274, 275, 276, 277, 278, 279, 280, 281, 282, 283, 284, 471, 472, 473, 474, 475, 476, 477, 478, 479, 480, 481, 482, 483, 484, 485, 486, 487, 488, 489, 490] (by decide +kernel) (by decide +kernel)
set_option maxRecDepth 20000 in
theorem gL_law_X4_count : GoodIn wsL_law (wsV RL 105 RX4 yX4_count wsX4_count) := goodIn_app (goodIn_of _ (by decide +kernel)) ggL_law_X4_count
set_option maxRecDepth 20000 in
theorem ggL_law_X3_fewest : GoodIn wsL_law wsX3_fewest := goodIn_r _ [358, 37, 359, 360, 361, 2, 362, 43, 33, 216, 217, 218, 219, 42, 29, 27, 28, 220, 221, 222, 32, 223, 51, 54, 52, 224, 225, 226, 227, 57, 55, 228, 229, 230, 231, 232, 233, 234, 235, 236, 237, 238, 239, 240, 241, 242, 243, 244, 245, 246, 247, 248, 249, 250, 251, 252, 253, 254, 255, 58, 56, 256, 257, 258, 259, 363, 364, 365, 36, 366, 68, 367, 368, 369, 370, 371, 290, 291, 292, 372, 373, 374, 375, 63, 65, 67, 376, 309, 310, 311, 377, 378, 379, 380, 381, 382, 383, 384, 66, 385, 386, 387, 388, 389, 390, 391, 392, 64, 393, 324, 325, 326, 394, 328, 329, 330, 395, 396, 397, 398, 399, 400, 401, 402, 403, 404, 405, 406, 407, 408, 409, 410, 461, 462, 463, 464, 465, 466, 467, 468, 469, 470, 491, 492, 493, 494, 495, 496, 497, 498, 499, 500, 501, 502, 503] (by decide +kernel) (by decide +kernel)
set_option maxRecDepth 20000 in
theorem gL_law_X3_fewest : GoodIn wsL_law (wsV RL 106 RX3 yX3_fewest wsX3_fewest) := goodIn_app (goodIn_of _ (by decide +kernel)) ggL_law_X3_fewest
set_option maxRecDepth 20000 in
theorem ggL_law_X4_fewest : GoodIn wsL_law wsX4_fewest := goodIn_r _ [414, 132, 415, 416, 417, 5, 418, 95, 268, 96, 92, 93, 297, 298, 299, 300, 88, 83, 82, 90, 89, 269, 270, 271, 272, 123, 87, 84, 85, 86, 91, 189, 190, 191, 192, 81, 80, 273, 274, 275, 276, 277, 278, 279, 280, 281, 282, 283, 284, 419, 420, 421, 422, 423, 424, 425, 426, 471, 472, 473, 474, 475, 476, 477, 478, 479, 480, 481, 482, 483, 484, 485, 486, 487, 488, 489, 490] (by decide +kernel) (by decide +kernel)
set_option maxRecDepth 20000 in
theorem gL_law_X4_fewest : GoodIn wsL_law (wsV RL 109 RX4 yX4_fewest wsX4_fewest) := goodIn_app (goodIn_of _ (by decide +kernel)) ggL_law_X4_fewest
set_option maxRecDepth 20000 in
theorem ggL_law_L_best : GoodIn wsL_law wsL_best := goodIn_r _ [429, 430, 431, 432, 2, 433, 37, 104, 105, 106, 107, 24, 108, 109, 110, 359, 360, 361, 362, 43, 33, 216, 217, 218, 219, 42, 29, 27, 28, 220, 221, 222, 32, 223, 51, 54, 52, 224, 225, 226, 227, 57, 55, 228, 229, 230, 231, 232, 233, 234, 235, 236, 237, 238, 239, 240, 241, 242, 243, 244, 245, 246, 247, 248, 249, 250, 251, 252, 253, 254, 255, 58, 56, 256, 257, 258, 259, 363, 364, 365, 36, 366, 68, 367, 368, 369, 370, 371, 290, 291, 292, 372, 373, 374, 375, 63, 65, 67, 376, 309, 310, 311, 377, 378, 379, 380, 381, 382, 383, 384, 66, 385, 386, 387, 388, 389, 390, 391, 392, 64, 393, 324, 325, 326, 394, 328, 329, 330, 395, 396, 397, 398, 399, 400, 401, 402, 403, 404, 405, 406, 407, 408, 409, 410, 434, 435, 436, 437, 461, 462, 463, 464, 465, 466, 467, 468, 469, 470, 506, 507, 508, 509, 510, 511, 491, 492, 493, 494, 495, 496, 497, 498, 499, 500, 501, 502, 503] (by decide +kernel) (by decide +kernel)
set_option maxRecDepth 20000 in
theorem gL_law_L_best : GoodIn wsL_law (va_wsS RL 110 yL_best wsL_best) := goodIn_app (goodIn_of _ (by decide +kernel)) ggL_law_L_best
set_option maxRecDepth 20000 in
theorem ggL_law_X4_best : GoodIn wsL_law wsX4_best := goodIn_r _ [441, 92, 124, 125, 126, 5, 127, 95, 128, 129, 130, 131, 132, 415, 416, 417, 418, 268, 96, 93, 297, 298, 299, 300, 88, 83, 82, 90, 89, 269, 270, 271, 272, 123, 87, 84, 85, 86, 91, 189, 190, 191, 192, 81, 80, 273, 274, 275, 276, 277, 278, 279, 280, 281, 282, 283, 284, 419, 420, 421, 422, 423, 424, 425, 426, 471, 472, 473, 474, 475, 476, 477, 478, 479, 480, 481, 482, 483, 484, 485, 486, 487, 488, 489, 490] (by decide +kernel) (by decide +kernel)
set_option maxRecDepth 20000 in
theorem gL_law_X4_best : GoodIn wsL_law (wsV RL 112 RX4 yX4_best wsX4_best) := goodIn_app (goodIn_of _ (by decide +kernel)) ggL_law_X4_best
set_option maxRecDepth 20000 in
theorem ggL_law_L_alone : GoodIn wsL_law wsL_alone := goodIn_r _ [444, 445, 446, 447, 2, 448, 33, 104, 105, 106, 107, 24, 108, 109, 110, 216, 217, 218, 219, 42, 29, 27, 28, 220, 221, 222, 32, 223, 51, 54, 52, 224, 225, 226, 227, 57, 55, 228, 229, 230, 231, 232, 233, 234, 235, 236, 237, 238, 239, 240, 241, 242, 243, 244, 245, 246, 247, 248, 249, 250, 251, 252, 253, 254, 255, 58, 56, 256, 257, 258, 259, 323, 324, 325, 326, 327, 328, 329, 330, 461, 462, 463, 464, 465, 466, 467, 468, 469, 470, 506, 507, 508, 509, 510, 511, 491, 492, 493, 494, 495, 496, 497] (by decide +kernel) (by decide +kernel)
set_option maxRecDepth 20000 in
theorem gL_law_L_alone : GoodIn wsL_law (va_wsS RL 113 yL_alone wsL_alone) := goodIn_app (goodIn_of _ (by decide +kernel)) ggL_law_L_alone
set_option maxRecDepth 20000 in
theorem ggL_law_X4_alone : GoodIn wsL_law wsX4_alone := goodIn_r _ [452, 95, 88, 124, 125, 126, 5, 127, 128, 129, 130, 131, 132, 269, 270, 271, 272, 123, 268, 87, 84, 85, 96, 89, 86, 91, 189, 190, 191, 192, 81, 80, 273, 274, 275, 276, 277, 278, 279, 280, 281, 282, 283, 284, 471, 472, 473, 474, 475, 476, 477, 478, 479, 480, 481, 482, 483, 484, 485, 486, 487, 488, 489, 490] (by decide +kernel) (by decide +kernel)
set_option maxRecDepth 20000 in
theorem gL_law_X4_alone : GoodIn wsL_law (wsV RL 115 RX4 yX4_alone wsX4_alone) := goodIn_app (goodIn_of _ (by decide +kernel)) ggL_law_X4_alone
set_option maxRecDepth 20000 in
theorem ggL_law_X3_clear : GoodIn wsL_law wsX3_clear := goodIn_r _ [456, 24, 27, 28, 115, 116, 117, 2, 118, 42, 43, 461, 462, 463, 464, 465, 466, 467, 468, 469, 470] (by decide +kernel) (by decide +kernel)
set_option maxRecDepth 20000 in
theorem gL_law_X3_clear : GoodIn wsL_law (wsV RL 116 RX3 yX3_clear wsX3_clear) := goodIn_app (goodIn_of _ (by decide +kernel)) ggL_law_X3_clear
set_option maxRecDepth 20000 in
theorem ggL_law_X4_clear : GoodIn wsL_law wsX4_clear := goodIn_r _ [460, 132, 95, 82, 83, 471, 472, 473, 474, 475, 476, 477, 478, 479, 480, 481, 482, 483, 484, 485, 486, 487, 488, 489, 490] (by decide +kernel) (by decide +kernel)
set_option maxRecDepth 20000 in
theorem gL_law_X4_clear : GoodIn wsL_law (wsV RL 119 RX4 yX4_clear wsX4_clear) := goodIn_app (goodIn_of _ (by decide +kernel)) ggL_law_X4_clear
abbrev vwCl : List vw_C := [(RJx00060, TJx00060, 6), (RX0, TX0, 2), (RX1, TX1, 7), (RX2, TX2, 6), (RX3, TX3, 10), (RX4, TX4, 20)]

/-! Throwing: the class's own exception, calls that may throw -/
abbrev ttX : String := "java/lang/ArrayIndexOutOfBoundsException"
def tt_at : List Cond := Bundle.ownAtoms RX3 127 ttX ["java/lang/IndexOutOfBoundsException", "java/lang/RuntimeException", "java/lang/Exception"]
def tt_r1 : Cond := .isRef (.static "java/lang/Throwable" "UNASSIGNED_STACK" "[Ljava/lang/StackTraceElement;")
def tt_r2 : Cond := .isRef (.static "java/lang/Throwable" "SUPPRESSED_SENTINEL" "Ljava/util/List;")
def tt_s1 : Cond := .laysStatic "java/lang/Throwable" "UNASSIGNED_STACK" "[Ljava/lang/StackTraceElement;"
def tt_s2 : Cond := .laysStatic "java/lang/Throwable" "SUPPRESSED_SENTINEL" "Ljava/util/List;"
set_option maxRecDepth 100000 in
theorem tt_at_good : tt_at.all (fun w => goodWord w || (w.onTables && w.faceAtom) || decide (w = tt_r1) || decide (w = tt_r2) || decide (w = tt_s1) || decide (w = tt_s2)) = true := by decide +kernel
set_option maxRecDepth 100000 in
theorem tt_at_in : tt_at.all (fun w => decide (w ∈ tables_1) || decide (w = tt_r1) || decide (w = tt_r2)) = true := by decide +kernel
/-- U is a later state of s0: warmer tables, and every cell that was there is as it was -/
def tt_F (s0 U : State) : Prop := s0.WarmedH U.vm ∧ s0.heap.size ≤ U.heap.size ∧ ∀ q, q < s0.heap.size → U.heap[q]? = s0.heap[q]?
theorem tt_ls {s0 U : State} {A B : Array Value} {C n d : String} (hF : tt_F s0 U) (h : (Cond.laysStatic C n d).before A s0 = true) : (Cond.laysStatic C n d).before B U = true := by
  have h1 : (Cond.laysStatic C n d).before A (s0.setVm U.vm) = true := Cond.holds_shifted (State.Shifted.of_warmed hF.1) _ [] rfl h
  obtain ⟨c, k, i, f, a, cell, e1, e2, e3, e4, e5, e6, e7, e8, e9⟩ := Cond.laysStatic_spec h1
  have e1' : U.vm.findClass C = some c := e1
  have e2' : U.fieldFound? C n d = some (c, k, i, f) := e2
  have e0 : s0.heap[a]? = some cell := e5
  have e5' : U.heap[a]? = some cell := by rw [hF.2.2 a (Array.getElem?_eq_some_iff.mp e0).1]; exact e0
  simp [Cond.before, Cond.holds, Cond.value, e1', e2', e3, e4, e5', e6, e7, e8, e9]
theorem tt_is {s0 U : State} {A B : Array Value} {C n d : String} (hF : tt_F s0 U) (h : (Cond.isRef (.static C n d)).before A s0 = true) : (Cond.isRef (.static C n d)).before B U = true := by
  have h1 : (Cond.isRef (.static C n d)).before A (s0.setVm U.vm) = true := Cond.holds_shifted (State.Shifted.of_warmed hF.1) _ [] rfl h
  cases hv : (Term.static C n d).eval A (s0.setVm U.vm) none [] (s0.setVm U.vm) with
  | none => simp [Cond.before, Cond.holds, Cond.value, hv] at h1
  | some v =>
    cases hi : (s0.setVm U.vm).fieldFound? C n d with
    | none => simp [Term.eval, State.fieldNamed?, hi] at hv
    | some x =>
      obtain ⟨c, k, i, f⟩ := x
      obtain ⟨hst, a, cell, ha, hcell, his, hslot⟩ := Term.static_spec hi hv
      have hi' : U.fieldFound? C n d = some (c, k, i, f) := hi
      have e0 : s0.heap[a]? = some cell := hcell
      have hc' : U.heap[a]? = some cell := by rw [hF.2.2 a (Array.getElem?_eq_some_iff.mp e0).1]; exact e0
      have his2 : cell.vm.isStatics = true := by
        cases hz : cell.vm.isStatics with
        | true => rfl
        | false => simp [Term.eval, State.fieldNamed?, hi, hst, ha, e0, hz] at hv
      have hv' : (Term.static C n d).eval B U none [] U = some v := by simp [Term.eval, State.fieldNamed?, hi', hst, ha, hc', his2, hslot]
      simp only [Cond.before, Cond.holds, Cond.value, hv] at h1
      simp only [Cond.before, Cond.holds, Cond.value, hv']
      exact h1
theorem tt_face {s U : State} {A B : Array Value} {w : Cond} (hW : s.WarmedH U.vm) (h1 : w.onTables = true) (h2 : w.faceAtom = true) (h : w.before A s = true) : w.before B U = true :=
  va_tabs h1 (rfl : (s.setVm U.vm).vm = U.vm) (Cond.faceAtom_setVm hW.alike w h2 h)
theorem tt_all {s0 U : State} {A B : Array Value} (hF : tt_F s0 U) (h : ∀ w ∈ tt_at, w.before A s0 = true) : ∀ w ∈ tt_at, w.before B U = true := by
  intro w hw
  have h1 := List.all_eq_true.mp tt_at_good w hw
  have h2 := h w hw
  simp only [Bool.or_eq_true, Bool.and_eq_true, decide_eq_true_eq] at h1
  rcases h1 with ((((h1 | h1) | h1) | h1) | h1) | h1
  · exact word_at hF.1 (good_of_word h1) h2
  · exact tt_face hF.1 h1.1 h1.2 h2
  · rw [h1] at h2 ⊢; exact tt_is hF h2
  · rw [h1] at h2 ⊢; exact tt_is hF h2
  · rw [h1] at h2 ⊢; exact tt_ls hF h2
  · rw [h1] at h2 ⊢; exact tt_ls hF h2
/-- what a method that may throw needs of its start: all of it was so at the law's own start s0 -/
def tt_B (s0 : State) (A0 : Array Value) (str : Nat) (U : State) : Prop := (∀ w ∈ tt_at, w.before A0 s0 = true) ∧ vk_R RX3 125 "there is no such lamp" str s0 ∧ tt_F s0 U
theorem tt_B.blind {s0 : State} {A0 : Array Value} {str : Nat} {U : State} (h : tt_B s0 A0 str U) {V : State} (hv : V.vm = U.vm) (hh : V.heap = U.heap) : tt_B s0 A0 str V := by
  obtain ⟨h1, h2, h3, h4, h5⟩ := h
  exact ⟨h1, h2, by rw [hv]; exact h3, by rw [hh]; exact h4, by rw [hh]; exact h5⟩
/-- the exception x, made since st; all that was there is as it was -/
def tt_E (st t : State) (x : Nat) : Prop := ∃ ce : Cell, t.heap[x]? = some ce ∧ st.vm.findClass ttX = some ce.cls ∧ ce.vm = .none ∧ st.heap.size ≤ x ∧ st.heap.size ≤ t.heap.size ∧ ∀ q, q < st.heap.size → t.heap[q]? = st.heap[q]?
def tt_Fr (st t : State) (L : List Loc) (k n : Nat) : Prop := st.WarmedH t.vm ∧ st.sameButNew ({ t with vm := st.vm } : State) L k n
def tt_MQ (below : List Frame) (Qc : Array Value → State → Outcome → State → Prop) (a : Array Value) (s : State) (mc ms : Nat) (free : Addr → Prop) : State → Prop := fun t =>
  ∃ o, t.status = .running ∧ Ended t below o ∧ Qc a s o t ∧ ∃ L, tt_Fr s t L mc ms ∧ ∀ q ∈ L, free q.base
def tt_Met (l : Launch) (y : MethodName) (ws : List Cond) (rm : Room) (Pc : Array Value → State → Prop) (Qc : Array Value → State → Outcome → State → Prop) (mc ms : Nat) (free : Addr → Prop) : Prop :=
  MetFree l y (headSpec ws rm) Pc (fun _ _ _ _ _ => True) (fun a st o t => Qc a st o t ∧ ∃ L, tt_Fr st t L mc ms ∧ ∀ q ∈ L, free q.base)
/-- an end: either the answer, where ok; or the exception -/
def tt_Q (ok : Prop) (Qr : Array Value → State → Outcome → State → Prop) : Array Value → State → Outcome → State → Prop := fun a st o t => (ok ∧ (∃ v, o = .returned v) ∧ Qr a st o t) ∨ (¬ ok ∧ ∃ x, o = .threw x ∧ tt_E st t x)
theorem tt_same {s U : State} {k n : Nat} (h : s.sameButNew ({ U with vm := s.vm } : State) [] k n) : s.heap.size ≤ U.heap.size ∧ ∀ q, q < s.heap.size → U.heap[q]? = s.heap[q]? := by
  obtain ⟨-, h1, -, -, -, h2⟩ := h
  refine ⟨h1, fun q hq => ?_⟩
  have hc : s.heap[q]? = some s.heap[q] := Array.getElem?_eq_getElem hq
  obtain ⟨c', e1, e2, e3, e4⟩ := h2 q _ hc
  have e5 : c'.slots = s.heap[q].slots := by
    apply Array.ext_getElem?
    intro i
    exact e4 i (by simp)
  have e6 : c' = s.heap[q] := by rw [e2, e5]
  rw [hc, ← e6]
  exact e1
section TT
variable {p : Program} {l : Launch} {e : Env} {R : Room} {s : State} {m : MethodId} {args : Array Value} {below : List Frame} {meth : Method} {c : Code} {H : Heap} {locs : List Loc} {cells slots : Nat} {Q Q' : State → Prop}
theorem tt_weak {g : JFrame} (h : ∀ t, Q t → Q' t) (k : W p l e R s m args below meth c H locs cells slots Q g) : W p l e R s m args below meth c H locs cells slots Q' g := fun T hT X => by
  obtain ⟨t, a, b⟩ := k T hT X
  exact ⟨t, a, h t b⟩
/-- a return in a method that may throw -/
theorem tt_ret {g : JFrame} {ok : Prop} {Qr : Array Value → State → Outcome → State → Prop} {mc ms : Nat} {free : Addr → Prop} (hok : ok) (k : W p l e R s m args below meth c H locs cells slots (MQ below Qr args s mc ms free) g) : W p l e R s m args below meth c H locs cells slots (tt_MQ below (tt_Q ok Qr) args s mc ms free) g :=
  tt_weak (fun t ⟨o, h1, h2, h3, L, h4, h5⟩ => ⟨o, h1, h2, Or.inl ⟨hok, h4.1, h3⟩, L, ⟨h4.2.1, h4.2.2⟩, h5⟩) k
theorem tt_ofW {y : MethodName} {ws ws' : List Cond} {rm : Room} {Pc : Array Value → State → Prop} {Qc : Array Value → State → Outcome → State → Prop} {mc ms : Nat} {free : Addr → Prop} {cc : ByteArray} {maxL : Nat} {ret : Option FieldType}
    (hy : plainName y.cls = true) (hw : ws = Cond.code y cc maxL ret :: ws')
    (body : ∀ p e s m args below meth c s₁, BodyLoose p l y (headSpec ws rm) cc maxL ret e s m args below meth c s₁ → c.maxLocals = maxL → Pc args s →
      W p l e (headSpec ws rm).room s m args below meth c s.heap [] 0 0 (tt_MQ below Qc args s mc ms free) (entryFrame m args maxL)) : tt_Met l y ws rm Pc Qc mc ms free := by
  refine MetFree.of_bodyS (code := cc) (maxLocals := maxL) (ret := ret) hy ?_ ?_
  · intro args s m h hn
    obtain ⟨meth, c, h1, h2, h3, h4, h5, h6, -, -⟩ := Cond.code_spec hn (atoms_spec (ws := ws) h _ (by rw [hw]; exact List.mem_cons_self))
    exact ⟨meth, c, h1, h2, h3, h4, h5, h6⟩
  · intro p e s m args below meth c s₁ B hml hP _
    have hh0 : s₁.heap = s.heap := by rw [B.state]; rfl
    obtain ⟨t, a1, o, b1, b2, b3⟩ := body p e s m args below meth c s₁ B hml hP s₁ hh0 (Stand.of_body B)
    exact ⟨t, o, a1, b1, b2, ⟨b3.1, b3.2⟩⟩
/-- the throw itself: the constructor's call and athrow, in a method that has written nothing -/
theorem tt_throw {cc : ByteArray} (hexec : p.tables.exec = Jvm.exec) (hb : c.code = cc) (hfl : l.flags = pinnedFlags ++ [noTraceFlag]) (hown : s.vm.findClass RX3 = some m.cls) (hat : ∀ w ∈ tt_at, w.before args s = true)
    {a : Nat} {cX : ClassId} {kX : Class} (hfX : s.vm.findClass ttX = some cX) (hkX : s.vm.classes[cX]? = some kX) (hcell : H[a]? = some { cls := cX, slots := kX.instanceTypes.map defaultValue, vm := .none }) (hnew : s.heap.size ≤ a)
    {str pc : Nat} {ls : Array Slot} (hsize : ls.size = c.maxLocals) (hemp : c.exceptionTable.isEmpty = true) (hd6 : decode cc pc = .ok (.invokespecial 127, 3)) (hd9 : decode cc (pc + 3) = .ok (.athrow, 1)) (hRf : 6 < R.frames) (hRl : 95 ≤ R.locals) (hlocks : meth.locks = false)
    {ok : Prop} (hok : ¬ ok) {Qr : Array Value → State → Outcome → State → Prop} {free : Addr → Prop} : W p l e R s m args below meth c H [] cells slots (tt_MQ below (tt_Q ok Qr) args s cells slots free) (F0 m pc ls [.ref str, .ref a, .ref a]) := by
  intro T hT X
  have hout : ∀ x ∈ c.exceptionTable.toList, covers x (pc + 3) = false := by
    have h0 : c.exceptionTable.size = 0 := by simpa [Array.isEmpty] using hemp
    have h1 : c.exceptionTable.toList = [] := List.eq_nil_of_length_eq_zero (by simpa using h0)
    intro y hy
    rw [h1] at hy
    cases hy
  obtain ⟨U, h1, h2, h3, h4, h5, ce, h6, h7⟩ := X.ctorThrowS hexec (Launch.traces_off hfl X.admits) (own := RX3) (cls := ttX) (names := ["java/lang/IndexOutOfBoundsException", "java/lang/RuntimeException", "java/lang/Exception"]) (ic := 127) hown (by decide) (by decide) hat (fun x hx => by cases hx)
    (a := a) (cX := cX) (kX := kX) hfX hkX (by rw [hT]; exact hcell) hnew (msg := .ref str) rfl (g := F0 m pc ls [.ref str, .ref a, .ref a]) rfl hsize rfl rfl (rest := []) rfl (by rw [hb]; exact hd6) (by rw [hb]; exact hd9) hout (by show 3 + 3 < R.frames; omega) (by show 2 * 0 + 1 + (13 * (3 + 1) + 42) ≤ R.locals; omega) hlocks
  have h8 := tt_same h5
  exact ⟨U, h1, .threw a, h2, h3, Or.inr ⟨hok, a, rfl, ce, h6, h7.cls, h7.vm, hnew, h8⟩, [], ⟨h4, h5⟩, fun q hq => by cases hq⟩
/-- a call that may throw: where it returns, the caller goes on; where it throws, the note lies over the caller's frame -/
def tt_Run (p : Program) (l : Launch) (e : Env) (R : Room) (s : State) (m : MethodId) (args : Array Value) (below : List Frame) (meth : Method) (c : Code) (H : Heap) (locs : List Loc) (cells slots mc ms : Nat) (g : JFrame) (rest : List Value) (Qa : State → Outcome → State → Prop) (free : Addr → Prop) : Prop :=
  ∀ T : State, T.heap = H → Stand p l e R s m args below meth c T locs cells slots → ∃ (o : Outcome) (st₀ t T' : State) (L : List Loc), st₀.heap = H ∧ s.WarmedH st₀.vm ∧ Stand p l e R s m args below meth c T' (locs ++ L) (cells + mc) (slots + ms) ∧ (∀ q ∈ L, free q.base) ∧ T'.heap = t.heap ∧ T'.vm = t.vm ∧ Qa st₀ o t ∧
    ∀ tg, Steps p.tables e below (match o with
      | .returned v => T'.setTop { g with pc := g.pc + 3, stack := v.toList ++ rest }
      | .threw x => (T'.setTop { g with stack := rest }).pushFrame (.throwing x)) tg → Steps p.tables e below (T.setTop g) tg
theorem tt_runV {y : MethodName} {bytes cc : ByteArray} {maxL nL mc ms n index : Nat} {ret : Option FieldType} {ws : List Cond} {rm : Room} {Pc : Array Value → State → Prop} {Qc : Array Value → State → Outcome → State → Prop} {free : Addr → Prop} {Ts : List Cond} {own C : String} {b : Addr} {As rest : List Value} {g : JFrame}
    (S : CallFix p m c cc nL s args Ts own) (hM : tt_Met l y ws rm Pc Qc mc ms free) (cw : CallW R s args own C index y bytes maxL ret ws rm mc ms n) (hp : PreV s H C b Pc As)
    (hg : g.method = m) (hn : As.length = n) (hsize : g.locals.size = nL) (hstack : g.stack = As.reverse ++ .ref b :: rest) (hW : 2 * g.monitorRoom + (rest.map fun v => v.category).sum ≤ 8) (hdg : decode cc g.pc = .ok (.invokevirtual index, 3)) (hf : cells + mc ≤ R.cells ∧ slots + ms ≤ R.slots) :
    tt_Run p l e R s m args below meth c H locs cells slots mc ms g rest (Qc (Value.ref b :: As).toArray) free := by
  obtain ⟨⟨hrc, hrs, hfr, hlo, hws, hcw, hcode, hini, hy, hlen, hl⟩, hin, hse⟩ := cw
  obtain ⟨hx, hb, hml, ho, -⟩ := S
  obtain ⟨hbl, ⟨cellB, hcB, hoB, hclB⟩, hPc⟩ := hp
  intro T hT X
  subst hb
  obtain ⟨mk, methM, hnamed, hmethM, hstM, habM⟩ := Cond.instanceMethod_spec hin
  obtain ⟨methM', cM, hmethM', hcM, -, hlM, -, -, -, hsigM⟩ := Cond.code_spec hnamed hcode
  cases hmethM.symm.trans hmethM'
  obtain ⟨c2, r2, m2, q1, q2, q3, q4, kP, hkP, hkPi⟩ := Cond.selects_spec hse
  cases hclB.symm.trans q1
  cases (State.methodFound?_of_named hnamed hy).symm.trans q2
  cases hnamed.symm.trans q3
  have hselP : selectMethod e.platform s.vm cellB.cls mk = .method mk := by rw [Launch.admits_selectMethod X.admits]; exact q4
  obtain ⟨vm₁, X₁, hstep₁⟩ := X.invokevirtual hx ho hl hnamed hmethM hstM hkP hkPi hy (a := b) (cell := cellB) (by rw [hT]; exact hcB)
    (fun z h => by rw [h] at hoB; cases hoB) hselP hmethM habM hkP hkPi (g := g) hg (argsL := As) (rest := rest) (hn.trans (hlen _ hsigM)) hstack hdg
  -- the callee, from the caller's frame without the arguments
  have hnU : (T.setVm vm₁).methodNamed? y = some mk := X₁.named hnamed
  have h2 : (Cond.code y bytes maxL ret).before (Value.ref b :: As).toArray (T.setVm vm₁) = true := hws _ hcw _ _ X₁.warmed
  obtain ⟨methY, cY, hmY, hcY, -, hlY, -, -, -, -⟩ := Cond.code_spec hnU h2
  obtain ⟨kY, hkY, -⟩ := className_of_methodNamed hnU
  have hinitY : kY.init = .initialized := Cond.initialized_spec (findClass_of_methodNamed hnU) hkY (word_at (a' := (Value.ref b :: As).toArray) X₁.warmed (Or.inl (by first | rfl | simp [Cond.onTables, Cond.keeps, Cond.steady])) hini)
  have hg' : ({ g with stack := rest } : JFrame).method = m := hg
  have h : At (T.setVm vm₁) ({ g with stack := rest } : JFrame).method c below := by rw [hg']; exact X₁.here
  have hroom := X₁.room_calling (g := { g with stack := rest }) (R' := rm) (args' := (Value.ref b :: As).toArray) (hsize.trans hml.symm) hmY hcY hfr (by rw [hlY]; show 2 * g.monitorRoom + (rest.map fun v => v.category).sum + _ + _ ≤ _; omega) (by rw [hrc]; exact hf.1) (by rw [hrs]; exact hf.2)
  have happ : (headSpec ws rm).appliesLoose y e.platform ((T.setVm vm₁).calling { g with stack := rest } mk (Value.ref b :: As).toArray) = true :=
    Spec.appliesLoose_calling (g := { g with stack := rest }) h hdg hnU hkY hinitY hroom (atoms_intro fun w hw => hws w hw _ _ X₁.warmed)
  obtain ⟨mid, hmid⟩ := h.above
  have hfr2 : ((T.setVm vm₁).setTop { g with stack := rest }).frames = (.java { g with stack := rest } :: mid) ++ below := by rw [State.frames_setTop' _ h.top, hmid]; rfl
  obtain ⟨o, s₂, hsteps, -, hend, hq, L, hFr, hL⟩ := Steps.callFree hM p X₁.admits X₁.cas X₁.clock (acts := []) hfr2 happ (hbl _ _ _ _ (hPc (T.setVm vm₁) hT X₁.warmed)) trivial
  rw [State.frames_setTop' _ h.top, X₁.tail] at hend
  cases o with
  | returned v =>
    obtain ⟨T', X', hW', hsame', ht'⟩ := X₁.outOf (g := { g with stack := rest }) hg' hdg hend hFr.1 hFr.2
    refine ⟨.returned v, _, s₂, T', L, ?_, ?_, X', hL, by rw [ht']; rfl, by rw [ht']; rfl, hq, fun tg k => ?_⟩
    · exact hT
    · exact X₁.warmed
    · refine hstep₁ _ fun acts => ?_
      rw [doInvoke_state]
      refine hsteps.trans ?_
      rw [ht']
      exact k
  | threw x =>
    obtain ⟨T', X', hW', hsame', ht'⟩ := X₁.outOfThrown (g := { g with stack := rest }) hg' hend hFr.1 hFr.2
    refine ⟨.threw x, _, s₂, T', L, ?_, ?_, X', hL, by rw [ht']; rfl, by rw [ht']; rfl, hq, fun tg k => ?_⟩
    · exact hT
    · exact X₁.warmed
    · refine hstep₁ _ fun acts => ?_
      rw [doInvoke_state]
      refine hsteps.trans ?_
      rw [ht']
      exact k
end TT

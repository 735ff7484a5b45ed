/-! an exception that is caught where its class isn't resolved yet -/
section CA1
variable {e : Env} {s : State} {f : JFrame} {a : Addr}
theorem ca_find {meth : Method} {code : Code} (hm : s.vm.method? f.method = some meth) (hc : meth.code = some code) {x : ExceptionTableEntry} (htab : code.exceptionTable.toList = [x]) (hx : covers x f.pc = true) (h0 : x.catchType ≠ 0) {c : ClassId} {vm' : Vm} {cell : Cell}
    (hg : (Jvm.resolveClass f.method.cls x.catchType).Gives e.toSetting s.vm (.ok c) vm') (hsz : vm'.classes.size ≤ s.vm.classes.size) (hcell : s.heap[a]? = some cell) (hobj : ∀ k, cell.vm ≠ .statics k) (hk : ∃ k, vm'.classes[cell.cls]? = some k) (hcl : ∃ k, vm'.classes[c]? = some k) (hfit : vm'.assignable cell.cls c = true)
    (Q : Handler → Pre) (E : CtlPost) (d : Bool) (acts : List Action) : wp (findHandler f a) Q E e d acts s ↔ Q (.found x.handlerPc) d acts (s.setVm vm') := by
  rw [W.findHandler_eq hm hc, htab]
  obtain ⟨ha, ht⟩ := hg.op (op := VmOp.resolveClass f.method.cls x.catchType) rfl
  simp only [covers] at hx
  simp [findHandler.go, hx, h0, ha, ht, hsz, hcell, hobj, hk, hcl, hfit, VmOp.dirties, VmOp.acts]
theorem ca_step {s' : State} {r : List Frame} {pc : Nat} (hfind : ∀ (Q : Handler → Pre) (E : CtlPost) (d : Bool) (acts : List Action), wp (findHandler f a) Q E e d acts s ↔ Q (.found pc) d acts s') : (stepThrowing e s a (.java f :: r)).Is (s'.setFrames (.java { f with pc := pc, stack := [.ref a] } :: r)) [] := by
  simp only [stepThrowing, searchFrame, vmDo]
  generalize hr : Sem.go _ e false [] s = res
  obtain ⟨as, rfl, ha⟩ := Sem.eq_ok_of hr (a := Handler.found pc) (s' := s') (acts' := []) (by simp [hfind])
  exact ⟨rfl, ha⟩
theorem as_refl (vm : Vm) (c : ClassId) : vm.assignable c c = true := by
  show vm.assignableAux (255 + 1) c c = true
  rw [Vm.assignableAux]
  simp
end CA1
section CA2
variable {p : Program} {l : Launch} {e : Env} {R : Room} {s : State} {m : MethodId} {args : Array Value} {below : List Frame} {meth : Method} {c : Code} {T : State} {locs : List Loc} {cells slots : Nat}
theorem ca_caught (X : Stand p l e R s m args below meth c T locs cells slots) {x : ExceptionTableEntry} (htab : c.exceptionTable.toList = [x]) {g : JFrame} (hg : g.method = m) (hx : covers x g.pc = true) (h0 : x.catchType ≠ 0) {own C : String} (hown : s.vm.findClass own = some m.cls) (hclink : (Cond.classLink own x.catchType C).before args s = true)
    {a : Addr} {ce : Cell} (hce : T.heap[a]? = some ce) (hvm : ce.vm = .none) (hcls : s.vm.findClass C = some ce.cls) :
    ∃ vm₁, Stand p l e R s m args below meth c (T.setVm vm₁) locs cells slots ∧ ∀ target, Steps p.tables e below ((T.setVm vm₁).setTop { g with pc := x.handlerPc, stack := [.ref a] }) target → Steps p.tables e below ((T.setTop g).pushFrame (.throwing a)) target := by
  subst hg
  have hpl : e.platform.magicAccessors = ({} : Platform).magicAccessors := by rw [X.admits.platform]
  obtain ⟨c1, hfc, hcl⟩ := Cond.classLink_spec hown hclink e.platform hpl
  cases hcls.symm.trans hfc
  obtain ⟨hg₁, hwarm₁, hready₁⟩ := State.classEntry (e := e) X.warmed hcl
  have hsz : (T.vm.noted g.method.cls x.catchType (.cls ce.cls)).classes.size ≤ T.vm.classes.size := by no_record
  generalize T.vm.noted g.method.cls x.catchType (.cls ce.cls) = vm₁ at hg₁ hwarm₁ hready₁ hsz
  refine ⟨vm₁, X.noted hwarm₁, fun target hrest => ?_⟩
  obtain ⟨k0, hk0⟩ := Vm.classAt_of_findClass hfc
  obtain ⟨k1, hk1, -⟩ := hwarm₁.alike.2.2 _ _ hk0
  obtain ⟨hgo, hw⟩ := (show At T g.method c below from X.here).throwing a
  have hm : ((T.setTop g).pushFrame (.throwing a)).vm.method? g.method = some meth := by rw [Stand.throwing_vm]; exact X.method'
  have hf := fun Q E d acts => ca_find (e := e) (s := (T.setTop g).pushFrame (.throwing a)) (f := g) (a := a) hm X.code htab hx h0 (c := ce.cls) (vm' := vm₁) (cell := ce) (by rw [Stand.throwing_vm]; exact hg₁) (by rw [Stand.throwing_vm]; exact hsz) (by rw [Stand.throwing_heap]; exact hce) (fun k h => by rw [hvm] at h; cases h) ⟨k1, hk1⟩ ⟨k1, hk1⟩ (as_refl _ _) Q E d acts
  refine Steps.head hgo hw ?_
  rw [stepThread_throwing (frames_entered X.here.top _), (ca_step hf).1]
  obtain ⟨g₀, hg0⟩ := Option.isSome_iff_exists.mp X.here.top
  obtain ⟨r, hr⟩ := State.topJava?_eq_some.mp hg0
  have hr1 : (T.setVm vm₁).frames = .java g₀ :: r := hr
  have e1 : ∀ (S : State) (fs : List Frame), (S.setFrames fs).setVm vm₁ = (S.setVm vm₁).setFrames fs := fun _ _ => rfl
  rw [State.pushFrame, State.setTop_of_frames _ hr, State.setFrames_setFrames, e1, State.setFrames_setFrames]
  rw [State.setTop_of_frames _ hr1] at hrest
  rw [hr]
  exact hrest
end CA2

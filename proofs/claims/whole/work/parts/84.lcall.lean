section LC
variable {p : Program} {l : Launch} {e : Env} {R : Room} {s : State} {m : MethodId} {args : Array Value} {below : List Frame} {meth : Method} {c : Code} {H : Heap} {locs : List Loc} {cells slots mc ms : Nat} {Q : State → Prop}
/-- a call that may throw, where it doesn't -/
theorem tt_run_ok {g : JFrame} {rest : List Value} {ok : Prop} {a : Array Value} {Qr : Array Value → State → Outcome → State → Prop} {free : Addr → Prop} (hok : ok) (hr : tt_Run p l e R s m args below meth c H locs cells slots mc ms g rest (tt_Q ok Qr a) free) : va_Run p l e R s m args below meth c H locs cells slots mc ms g rest (Qr a) free := by
  intro T hT X
  obtain ⟨o, st₀, t, T', L, g1, g2, X', hL, e1, e2, hq, hst⟩ := hr T hT X
  rcases hq with ⟨-, ⟨v, ho⟩, hq⟩ | ⟨hno, -⟩
  · subst ho
    exact ⟨v, st₀, t, T', L, g1, X', hL, e1, e2, hq, hst⟩
  · exact absurd hok hno
/-- a call that may throw, where it does: caught -/
theorem tt_catch {pc : Nat} {ls : Array Slot} {st0 rest : List Value} {ok : Prop} {a : Array Value} {Qr : Array Value → State → Outcome → State → Prop} {free : Addr → Prop} (hno : ¬ ok) (hr : tt_Run p l e R s m args below meth c H locs cells slots mc ms (F0 m pc ls st0) rest (tt_Q ok Qr a) free)
    {x : ExceptionTableEntry} (htab : c.exceptionTable.toList = [x]) (hx : covers x pc = true) (h0 : x.catchType ≠ 0) {own : String} (hown : s.vm.findClass own = some m.cls) (hclink : (Cond.classLink own x.catchType ttX).before args s = true)
    (kk : ∀ (H1 : Heap) (lo : List Loc) (x1 : Nat), H.size ≤ H1.size → (∀ q : Nat, q < H.size → H1[q]? = H[q]?) → (∀ q ∈ lo, q ∈ locs ∨ free q.base) → W p l e R s m args below meth c H1 lo (cells + mc) (slots + ms) Q (F0 m x.handlerPc ls [.ref x1])) : W p l e R s m args below meth c H locs cells slots Q (F0 m pc ls st0) := by
  intro T hT X
  obtain ⟨o, st₀, t, T', L, g1, g2, X', hL, e1, e2, hq, hst⟩ := hr T hT X
  rcases hq with ⟨hok, -⟩ | ⟨-, x1, ho, ce, k1, k2, k3, k4, k5, k6⟩
  · exact absurd hok hno
  · subst ho
    rw [g1] at k5 k6
    obtain ⟨vm₁, X₁, st₁⟩ := ca_caught X' htab (g := { F0 m pc ls st0 with stack := rest }) rfl hx h0 hown hclink (a := x1) (ce := ce) (by rw [e1]; exact k1) k3 (by rw [← g2.alike.findClass]; exact k2)
    obtain ⟨t2, a1, b1⟩ := kk (T'.setVm vm₁).heap (locs ++ L) x1 (by show H.size ≤ T'.heap.size; rw [e1]; exact k5) (fun q h => by show T'.heap[q]? = _; rw [e1]; exact k6 q h) (fun q h => (List.mem_append.mp h).imp id (hL q)) _ rfl X₁
    exact ⟨t2, hst _ (st₁ t2 a1), b1⟩
variable {y : MethodName} {bytes cc : ByteArray} {maxL nL n index : Nat} {ret : Option FieldType} {ws : List Cond} {rm : Room} {Pc : Array Value → State → Prop} {Qc : Array Value → State → Outcome → State → Prop} {free : Addr → Prop} {Ts : List Cond} {own : String} {As rest : List Value} {g : JFrame} {hh : List (Nat × Nat × Nat × Nat)}
/-- a static method with a table of handlers, called -/
theorem lw_runS (S : CallFix p m c cc nL s args Ts own) (hM : Met l y ws rm Pc Qc mc ms free) (hG : GoodIn Ts (va_wsS own index y ws)) {ws' : List Cond} (hw : ws = Cond.codeWith y bytes maxL ret hh :: ws') (hrc : rm.cells = mc) (hrs : rm.slots = ms)
    (hd : y.cls ≠ "java/lang/invoke/MethodHandle" ∧ y.cls ≠ "java/lang/invoke/VarHandle" ∧ (parseMethodDescriptor y.desc).map (fun d => d.parameters.length) = some n) (hR : rm.frames + 1 ≤ R.frames ∧ 8 + (maxL + 11) + rm.locals ≤ R.locals) (hp : PreS s H Pc As)
    (hg : g.method = m) (hn : As.length = n) (hsize : g.locals.size = nL) (hstack : g.stack = As.reverse ++ rest) (hW : 2 * g.monitorRoom + (rest.map fun v => v.category).sum ≤ 8) (hdg : decode cc g.pc = .ok (.invokestatic index, 3)) (hf : cells + mc ≤ R.cells ∧ slots + ms ≤ R.slots) :
    va_Run p l e R s m args below meth c H locs cells slots mc ms g rest (Qc As.toArray) free := by
  obtain ⟨hx, hb, hml, ho, ht⟩ := S
  have ok : ∀ w ∈ va_wsS own index y ws, w.before args s = true := fun w h => ht w (hG w h).1
  have hGw : GoodIn Ts ws := fun w h => hG w (by unfold va_wsS; exact List.mem_append_right _ h)
  have hc : Cond.codeWith y bytes maxL ret hh ∈ ws := by rw [hw]; exact List.mem_cons_self
  have hcode := ht _ (hGw _ hc).1
  have hini : (Cond.initialized y.cls).before args s = true := ok _ (by simp [va_wsS])
  have hl : (Cond.methodLink own index y).before args s = true := ok _ (by simp [va_wsS])
  have hstt : (Cond.static y).before args s = true := ok _ (by simp [va_wsS])
  have hK : Back l R p e below s args y 3 8 (PreOf R mc ms Pc) (PostOf Qc mc ms free) := va_backW (hh := hh) (bytes := bytes) (maxL := maxL) (ret := ret) hM hp.1 hrc hrs hR.1 hR.2 (pay_in ht hGw) hc (fun a' U hW => word_at hW (Or.inl (by first | rfl | simp [Cond.onTables, Cond.keeps, Cond.steady])) hini)
  intro T hT X
  obtain ⟨mk, methM, cM, hnamed, hmethM, -, -, -, -, -, -, hsigM⟩ := Cond.codeWith_spec hcode
  have hstatic : methM.isStatic = true := Cond.static_spec hnamed hmethM hstt
  obtain ⟨kP, hkP, -⟩ := className_of_methodNamed hnamed
  have hinitP : kP.init = .initialized := Cond.initialized_spec (findClass_of_methodNamed hnamed) hkP hini
  have hlen : As.length = methM.sig.parameters.length := by
    have h2 := hd.2.2
    rw [hsigM] at h2
    rw [hn]
    exact (Option.some.inj h2).symm
  obtain ⟨vm₁, X₁, hstep₁⟩ := X.invokestatic hx ho hl hnamed hmethM hstatic hkP hinitP ⟨hd.1, hd.2.1⟩ (g := g) hg (argsL := As) (rest := rest) hlen hstack (by rw [hb]; exact hdg)
  obtain ⟨v, ⟨U', l2, c2, s2⟩, X', ⟨g', mk', t, L, e1, e2, hq, h1, hL, h2, h3⟩, hsteps⟩ := hK m meth c ⟨T.setVm vm₁, locs, cells, slots⟩ { g with stack := rest } (.invokestatic index) mk As.toArray X₁ hg (hsize.trans hml.symm) (by rw [hb]; exact hdg) hW (X₁.named hnamed) ⟨hf.1, hf.2, hp.2 (T.setVm vm₁) hT X₁.warmed⟩
  dsimp only [Pt.U, Pt.locs, Pt.cells, Pt.slots] at X' e1 e2 h1 h2 h3 hsteps
  subst h1; subst h2; subst h3
  exact ⟨v, (T.setVm vm₁).calling g' mk' As.toArray, t, U', L, hT, X', hL, e1, e2, hq, fun target h => hstep₁ _ fun acts => by rw [doInvoke_state]; exact hsteps.trans h⟩
end LC

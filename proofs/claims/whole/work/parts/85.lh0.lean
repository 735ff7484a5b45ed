theorem lh_tab {p : Program} {l : Launch} {y : MethodName} {S : Spec} {code : ByteArray} {maxLocals : Nat} {ret : Option FieldType} {e : Env} {s : State} {m : MethodId} {args : Array Value} {below : List Frame} {meth : Method} {c : Code} {s₁ : State} (B : BodyLoose p l y S code maxLocals ret e s m args below meth c s₁) {a b h t : Nat} (hw : (Cond.codeWith y code maxLocals ret [(a, b, h, t)]).before args s = true) :
    ∃ x, c.exceptionTable.toList = [x] ∧ x.startPc = a ∧ x.endPc = b ∧ x.handlerPc = h ∧ x.catchType = t := by
  obtain ⟨m9, meth9, c9, hn9, hm9, hc9, -, -, ht, -⟩ := Cond.codeWith_spec hw
  cases B.named.symm.trans hn9
  cases B.method.symm.trans hm9
  cases (Stand.of_body B).code.symm.trans hc9
  obtain ⟨x, hx, he⟩ := List.map_eq_singleton_iff.mp ht
  cases he
  exact ⟨x, hx, rfl, rfl, rfl, rfl⟩
/-- a boolean answer as the law keeps it -/
def lbv (r : Int32) : Int64 := if r = 0 then 0 else 1

/-- the answer of mustExist where the lamp is there: nothing, and nothing has changed -/
def tt_U : Array Value → State → Outcome → State → Prop := fun _ st o t => o = .returned none ∧ t.heap = st.heap
theorem tt_E.moved {s st t t2 : State} {x : Nat} (h : tt_E st t x) (hh : st.heap = s.heap) (hv : s.WarmedH st.vm) (ht : t2.heap = t.heap) : tt_E s t2 x := by
  obtain ⟨ce, h1, h2, h3, h4, h5, h6⟩ := h
  rw [hh] at h4 h5 h6
  exact ⟨ce, by rw [ht]; exact h1, by rw [← hv.alike.findClass]; exact h2, h3, h4, by rw [ht]; exact h5, fun q hq => by rw [ht]; exact h6 q hq⟩
section TT2
variable {p : Program} {l : Launch} {e : Env} {R : Room} {s : State} {m : MethodId} {args : Array Value} {below : List Frame} {meth : Method} {c : Code} {cells slots : Nat}
/-- mustExist, called from a method that has written nothing yet and catches nothing -/
theorem tt_must {mc ms mc2 ms2 pc : Nat} {ls : Array Slot} {st0 rest : List Value} {ok ok2 : Prop} {a : Array Value} {Qr : Array Value → State → Outcome → State → Prop} {free2 : Addr → Prop}
    (hr : tt_Run p l e R s m args below meth c s.heap [] cells slots mc ms (F0 m pc ls st0) rest (tt_Q ok tt_U a) (fun _ => False)) (hemp : c.exceptionTable.isEmpty = true) (hlocks : meth.locks = false) (h1 : cells + mc ≤ mc2) (h2 : slots + ms ≤ ms2) (kt : ¬ ok → ¬ ok2)
    (kr : ok → W p l e R s m args below meth c s.heap [] (cells + mc) (slots + ms) (tt_MQ below (tt_Q ok2 Qr) args s mc2 ms2 free2) (F0 m (pc + 3) ls rest)) : W p l e R s m args below meth c s.heap [] cells slots (tt_MQ below (tt_Q ok2 Qr) args s mc2 ms2 free2) (F0 m pc ls st0) := by
  intro T hT X
  obtain ⟨o, st₀, t, T', L, g1, g2, X', hL, e1, e2, hq, hst⟩ := hr T hT X
  have hL0 : L = [] := by
    cases L with
    | nil => rfl
    | cons q L => exact (hL q (by simp)).elim
  subst hL0
  rcases hq with ⟨hok, -, ho, hh⟩ | ⟨hok, x, ho, hE⟩
  · subst ho
    obtain ⟨t2, a1, b1⟩ := kr hok T' (by rw [e1, hh, g1]) X'
    exact ⟨t2, hst t2 a1, b1⟩
  · subst ho
    have X2 := stand_widen X' h1 h2
    have hout : ∀ y ∈ c.exceptionTable.toList, covers y pc = false := by
      have h0 : c.exceptionTable.size = 0 := by simpa [Array.isEmpty] using hemp
      have h3 : c.exceptionTable.toList = [] := List.eq_nil_of_length_eq_zero (by simpa using h0)
      intro y hy
      rw [h3] at hy
      cases hy
    obtain ⟨k1, k2, k3, k4, k5⟩ := X2.leaveThrown x (g := { F0 m pc ls st0 with stack := rest }) rfl rfl rfl hout hlocks
    exact ⟨_, hst _ k1, .threw x, k2, k3, Or.inr ⟨kt hok, x, rfl, hE.moved g1 g2 e1⟩, [], ⟨k4, k5⟩, fun q hq => by cases hq⟩
end TT2

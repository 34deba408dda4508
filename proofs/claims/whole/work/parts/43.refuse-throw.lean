/-- the words of a throw hold, wherever the cell of Throwable's statics stands -/
def TX (U : State) : Prop := ∃ (sc : Nat) (cell : Cell), U.heap[sc]? = some cell ∧ cell.vm.isStatics = true ∧ ∀ V : State, U.WarmedH V.vm → V.heap[sc]? = some cell → ∀ (a : Array Value), ∀ w ∈ XW, w.before a V = true
theorem TX.words {U : State} (h : TX U) (a : Array Value) : ∀ w ∈ XW, w.before a U = true := by
  obtain ⟨sc, cell, h1, -, h3⟩ := h
  exact h3 U (State.WarmedH.refl U) h1 a
theorem no_handlers {p : Program} {l : Launch} {e : Env} {R : Room} {s : State} {m : MethodId} {args : Array Value} {below : List Frame} {meth : Method} {c : Code} {T : State} {locs : List Loc} {cells slots : Nat} {y : MethodName} {bytes : ByteArray} {maxL : Nat} {ret : Option FieldType}
    (X : Stand p l e R s m args below meth c T locs cells slots) (hn : s.methodNamed? y = some m) (hc : (Cond.code y bytes maxL ret).before args s = true) (pc : Nat) : ∀ x ∈ c.exceptionTable.toList, covers x pc = false := by
  obtain ⟨meth', c', h1, h2, -, -, -, -, h7, -⟩ := Cond.code_spec hn hc
  have e1 : meth = meth' := Option.some.inj (X.method.symm.trans h1)
  subst e1
  have e2 : c = c' := Option.some.inj (X.code.symm.trans h2)
  subst e2
  intro x hx
  have h8 : c.exceptionTable = #[] := by simpa using h7
  rw [h8] at hx
  cases hx

/-! What the law's start gives: the words of a throw, the nest mates' links, the exceptions apart. -/
theorem nx_base {a : Array Value} {s : State} (hts : ∀ w ∈ tables_1, w.before a s = true) : NX s := by
  intro w hw
  obtain ⟨h1, h2⟩ := List.mem_filter.mp hw
  have h3 : w.onTables = true := by cases w <;> first | rfl | (simp [isNest] at h2)
  exact va_Nw.of h3 (hts w h1)
theorem nc_base {a : Array Value} {s : State} {x y : String} {c1 c2 : ClassId} (hno : (Cond.not (.castable x y)).before a s = true) (h1 : s.vm.findClass x = some c1) (h2 : s.vm.findClass y = some c2) : s.vm.assignable c1 c2 = false := by
  have hv := Cond.holds_not_iff.mp hno
  simp only [Cond.value, h1, h2] at hv
  exact Option.some.inj hv
/-- a static field of a class, read again where its cell stands -/
def stK (s : State) (O f d : String) (sc : Nat) (cell : Cell) : Prop := ∃ c k i fd, s.vm.findClass O = some c ∧ s.fieldFound? O f d = some (c, k, i, fd) ∧ fd.isStatic = true ∧ k.statics = some sc ∧ cell.vm.isStatics = true ∧ cell.cls = c ∧ fd.slot < cell.slots.size ∧ k.staticTypes[fd.slot]? = some fd.type
theorem stK.moved {s V : State} {O f d : String} {sc : Nat} {cell : Cell} (h : stK s O f d sc cell) (hV : s.WarmedH V.vm) : stK V O f d sc cell := by
  obtain ⟨c, k, i, fd, h1, h2, h3, h4, h5, h6, h7, h8⟩ := h
  obtain ⟨k', e1, e2⟩ := State.fieldFound?_setVm hV.alike h2
  exact ⟨c, k', i, fd, by rw [hV.alike.findClass]; exact h1, e1, h3, (congrArg Class.statics e2).trans h4, h5, h6, h7, by have e5 := congrArg Class.staticTypes e2; dsimp only at e5; rw [e5]; exact h8⟩
theorem stK.lays {V : State} {O f d : String} {sc : Nat} {cell : Cell} (h : stK V O f d sc cell) (hc : V.heap[sc]? = some cell) (a : Array Value) : (Cond.laysStatic O f d).before a V = true := by
  obtain ⟨c, k, i, fd, h1, h2, h3, h4, h5, h6, h7, h8⟩ := h
  simp [Cond.before, Cond.holds, Cond.value, h1, h2, h3, h4, hc, h5, h6, h7, h8]
theorem stK.ref {s V : State} {O f d : String} {sc : Nat} {cell : Cell} (h0 : stK s O f d sc cell) (hc0 : s.heap[sc]? = some cell) (hV : s.WarmedH V.vm) (hc : V.heap[sc]? = some cell) {a a' : Array Value} (hr : (Cond.isRef (.static O f d)).before a s = true) : (Cond.isRef (.static O f d)).before a' V = true := by
  obtain ⟨c, k, i, fd, h1, h2, h3, h4, h5, h6, h7, h8⟩ := h0
  obtain ⟨k', e1, e2⟩ := State.fieldFound?_setVm hV.alike h2
  have e3 : V.fieldFound? O f d = some (c, k', i, fd) := e1
  have e4 : k'.statics = some sc := (congrArg Class.statics e2).trans h4
  simp [Cond.before, Cond.holds, Cond.value, Term.eval, State.fieldNamed?, h2, h3, h4, hc0, h5] at hr
  simp [Cond.before, Cond.holds, Cond.value, Term.eval, State.fieldNamed?, e3, h3, e4, hc, h5]
  exact hr
theorem str_move {s U : State} {own tx : String} {k : Nat} {a a' : Array Value} (hW : s.WarmedH U.vm) (h : (Cond.stringRef own k tx).before a s = true) : (Cond.stringRef own k tx).before a' U = true := Cond.stringRef_warmed (args := a) hW h
set_option maxRecDepth 100000 in
theorem tx_base {a : Array Value} {s : State} (hts : ∀ w ∈ tables_1, w.before a s = true) (hr1 : (Cond.isRef (.static "java/lang/Throwable" "UNASSIGNED_STACK" "[Ljava/lang/StackTraceElement;")).before a s = true) (hr2 : (Cond.isRef (.static "java/lang/Throwable" "SUPPRESSED_SENTINEL" "Ljava/util/List;")).before a s = true) : TX s := by
  have w1 : (Cond.laysStatic "java/lang/Throwable" "UNASSIGNED_STACK" "[Ljava/lang/StackTraceElement;").before a s = true := hts _ (List.mem_of_getElem? (i := 274) rfl)
  have w2 : (Cond.laysStatic "java/lang/Throwable" "SUPPRESSED_SENTINEL" "Ljava/util/List;").before a s = true := hts _ (List.mem_of_getElem? (i := 276) rfl)
  obtain ⟨c, k, i, f, sc, cell, k1, k2, k3, k4, k5, k6, k7, k8, k9⟩ := Cond.laysStatic_spec w1
  obtain ⟨c', k', i', f', sc', cell', j1, j2, j3, j4, j5, j6, j7, j8, j9⟩ := Cond.laysStatic_spec w2
  cases Option.some.inj (k1.symm.trans j1)
  cases Option.some.inj ((State.fieldFound?_spec k2).1.symm.trans (State.fieldFound?_spec j2).1)
  cases Option.some.inj (k4.symm.trans j4)
  cases Option.some.inj (k5.symm.trans j5)
  have s1 : stK s "java/lang/Throwable" "UNASSIGNED_STACK" "[Ljava/lang/StackTraceElement;" sc cell := ⟨c, k, i, f, k1, k2, k3, k4, k6, k7, k8, k9⟩
  have s2 : stK s "java/lang/Throwable" "SUPPRESSED_SENTINEL" "Ljava/util/List;" sc cell := ⟨c, k, i', f', k1, j2, j3, k4, k6, k7, j8, j9⟩
  refine ⟨sc, cell, k5, k6, fun V hV hc a' w hw => ?_⟩
  simp only [XW, List.mem_cons, List.not_mem_nil, or_false] at hw
  rcases hw with rfl | rfl | rfl | rfl | rfl | rfl | rfl | rfl | rfl | rfl | rfl | rfl | rfl | rfl | rfl | rfl | rfl | rfl | rfl
  · exact (s1.moved hV).lays hc a'
  · exact (s2.moved hV).lays hc a'
  · exact va_Nw.use rfl (va_Nw.warmD hV (va_Nw.of rfl (hts _ (List.mem_of_getElem? (i := 251) rfl))))
  · exact va_Nw.use rfl (va_Nw.warmD hV (va_Nw.of rfl (hts _ (List.mem_of_getElem? (i := 253) rfl))))
  · exact va_Nw.use rfl (va_Nw.warmD hV (va_Nw.of rfl (hts _ (List.mem_of_getElem? (i := 255) rfl))))
  · exact va_Nw.use rfl (va_Nw.warmC hV (va_Nw.of rfl (hts _ (List.mem_of_getElem? (i := 249) rfl))))
  · exact s1.ref k5 hV hc hr1
  · exact s2.ref k5 hV hc hr2
  · exact va_Nw.use rfl (va_Nw.warmC hV (va_Nw.of rfl (hts _ (List.mem_of_getElem? (i := 338) rfl))))
  · exact va_Nw.use rfl (va_Nw.warmC hV (va_Nw.of rfl (hts _ (List.mem_of_getElem? (i := 373) rfl))))
  · exact va_Nw.use rfl (va_Nw.warmC hV (va_Nw.of rfl (hts _ (List.mem_of_getElem? (i := 428) rfl))))
  · exact va_Nw.use rfl (va_Nw.warmC hV (va_Nw.of rfl (hts _ (List.mem_of_getElem? (i := 550) rfl))))
  · exact str_move hV (hts _ (List.mem_of_getElem? (i := 290) rfl))
  · exact str_move hV (hts _ (List.mem_of_getElem? (i := 345) rfl))
  · exact str_move hV (hts _ (List.mem_of_getElem? (i := 380) rfl))
  · exact str_move hV (hts _ (List.mem_of_getElem? (i := 435) rfl))
  · exact str_move hV (hts _ (List.mem_of_getElem? (i := 527) rfl))
  · exact str_move hV (hts _ (List.mem_of_getElem? (i := 532) rfl))
  · exact str_move hV (hts _ (List.mem_of_getElem? (i := 557) rfl))
set_option maxRecDepth 100000 in
theorem cx_base {a : Array Value} {s : State} (h : (Jvm.Cond.and given_1 narrow_1).before a s = true) : CX s := by
  have hs := flat_of_before _ h
  intro x hx y hy hn c1 c2 h1 h2
  simp only [xcl, List.mem_cons, List.not_mem_nil, or_false] at hx hy
  rcases hx with rfl | rfl | rfl | rfl | rfl <;> rcases hy with rfl | rfl | rfl | rfl | rfl
  · exact absurd rfl hn
  · exact nc_base (hs (.not (.castable "java/lang/IndexOutOfBoundsException" "java/lang/UnsupportedOperationException")) (by decide +kernel)) h1 h2
  · exact nc_base (hs (.not (.castable "java/lang/IndexOutOfBoundsException" "java/lang/IllegalArgumentException")) (by decide +kernel)) h1 h2
  · exact nc_base (hs (.not (.castable "java/lang/IndexOutOfBoundsException" "java/lang/IllegalStateException")) (by decide +kernel)) h1 h2
  · exact nc_base (hs (.not (.castable "java/lang/IndexOutOfBoundsException" "java/lang/ArithmeticException")) (by decide +kernel)) h1 h2
  · exact nc_base (hs (.not (.castable "java/lang/UnsupportedOperationException" "java/lang/IndexOutOfBoundsException")) (by decide +kernel)) h1 h2
  · exact absurd rfl hn
  · exact nc_base (hs (.not (.castable "java/lang/UnsupportedOperationException" "java/lang/IllegalArgumentException")) (by decide +kernel)) h1 h2
  · exact nc_base (hs (.not (.castable "java/lang/UnsupportedOperationException" "java/lang/IllegalStateException")) (by decide +kernel)) h1 h2
  · exact nc_base (hs (.not (.castable "java/lang/UnsupportedOperationException" "java/lang/ArithmeticException")) (by decide +kernel)) h1 h2
  · exact nc_base (hs (.not (.castable "java/lang/IllegalArgumentException" "java/lang/IndexOutOfBoundsException")) (by decide +kernel)) h1 h2
  · exact nc_base (hs (.not (.castable "java/lang/IllegalArgumentException" "java/lang/UnsupportedOperationException")) (by decide +kernel)) h1 h2
  · exact absurd rfl hn
  · exact nc_base (hs (.not (.castable "java/lang/IllegalArgumentException" "java/lang/IllegalStateException")) (by decide +kernel)) h1 h2
  · exact nc_base (hs (.not (.castable "java/lang/IllegalArgumentException" "java/lang/ArithmeticException")) (by decide +kernel)) h1 h2
  · exact nc_base (hs (.not (.castable "java/lang/IllegalStateException" "java/lang/IndexOutOfBoundsException")) (by decide +kernel)) h1 h2
  · exact nc_base (hs (.not (.castable "java/lang/IllegalStateException" "java/lang/UnsupportedOperationException")) (by decide +kernel)) h1 h2
  · exact nc_base (hs (.not (.castable "java/lang/IllegalStateException" "java/lang/IllegalArgumentException")) (by decide +kernel)) h1 h2
  · exact absurd rfl hn
  · exact nc_base (hs (.not (.castable "java/lang/IllegalStateException" "java/lang/ArithmeticException")) (by decide +kernel)) h1 h2
  · exact nc_base (hs (.not (.castable "java/lang/ArithmeticException" "java/lang/IndexOutOfBoundsException")) (by decide +kernel)) h1 h2
  · exact nc_base (hs (.not (.castable "java/lang/ArithmeticException" "java/lang/UnsupportedOperationException")) (by decide +kernel)) h1 h2
  · exact nc_base (hs (.not (.castable "java/lang/ArithmeticException" "java/lang/IllegalArgumentException")) (by decide +kernel)) h1 h2
  · exact nc_base (hs (.not (.castable "java/lang/ArithmeticException" "java/lang/IllegalStateException")) (by decide +kernel)) h1 h2
  · exact absurd rfl hn

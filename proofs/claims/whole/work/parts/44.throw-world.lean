/-- where nothing is free, the cells that were there stay -/
theorem same_cells {s t : State} {k n : Nat} (h : s.sameButNew t [] k n) : ∀ a, a < s.heap.size → t.heap[a]? = s.heap[a]? := by
  obtain ⟨-, -, -, -, -, h6⟩ := h
  intro a ha
  obtain ⟨c', h1, h2, h3, h4⟩ := h6 a s.heap[a] (Array.getElem?_eq_getElem ha)
  have e : c'.slots = s.heap[a].slots := Array.ext_getElem? (fun i => h4 i List.not_mem_nil)
  rw [h1, Array.getElem?_eq_getElem ha, h2, e]
theorem va_P_grown {D : va_G} {ws : va_W} {H H1 : Heap} (hP : va_P D cls ws H) (h : ∀ a, a < H.size → H1[a]? = H[a]?) : va_P D cls ws H1 := hP.kept (fun k x hx => h x.1 ((hP k x hx).lt))
theorem isX.to {cl : String} {s st t U : State} {q : Addr} (h : isX cl st q t) (hw : s.WarmedH st.vm) (hz : s.heap.size ≤ st.heap.size) (hU : U.heap = t.heap) : isX cl s q U := by
  obtain ⟨cX, ce, h1, h2, h3, h4, h5⟩ := h
  exact ⟨cX, ce, by rw [← hw.alike.findClass]; exact h1, by rw [hU]; exact h2, h3, h4, Nat.le_trans hz h5⟩
/-- a world's cells are no statics cells -/
theorem va_at_vm {D : va_G} {q : Nat × va_E} {H : Heap} (h : va_at D cls q H) {cell : Cell} (hc : H[q.1]? = some cell) : cell.vm.isStatics = false := by
  obtain ⟨a, e⟩ := q
  cases e with
  | inl x =>
    have h9 : H[a]? = some (vp_cell x.1 x.2) := h
    have e1 : cell = vp_cell x.1 x.2 := Option.some.inj (hc.symm.trans h9)
    obtain ⟨cA, n, f⟩ := x
    subst e1
    rcases f with f | f | f | f | f <;> first | rfl | (rcases f with f | f <;> rfl)
  | inr o =>
    obtain ⟨r, h1, cell', h2, h3, h4, h5⟩ := h
    have e1 : cell = cell' := Option.some.inj (hc.symm.trans h2)
    subst e1
    rw [h4]
    rfl
theorem tx_keep {D : va_G} {ws : va_W} {s : State} {H : Heap} {locs : List Loc} (hX : TX s) (hP : va_P D cls ws s.heap) (hS : va_S (va_A ws s.heap.size) s.heap H locs) : ∀ U : State, U.heap = H → s.WarmedH U.vm → TX U := by
  obtain ⟨sc, cell, h1, h2, h3⟩ := hX
  have hlt : sc < s.heap.size := (Array.getElem?_eq_some_iff.mp h1).1
  have hn : ¬ va_A ws s.heap.size sc := by
    intro hA
    rcases hA with ⟨k, e, hk⟩ | hA
    · have h9 := va_at_vm (hP k _ hk) h1
      rw [h9] at h2
      cases h2
    · omega
  have hh : H[sc]? = some cell := (hS.2.1 sc hlt hn).trans h1
  intro U hU hW
  exact ⟨sc, cell, by rw [hU]; exact hh, h2, fun V hV hc a w hw => h3 V (State.WarmedH.trans hW hV) hc a w hw⟩

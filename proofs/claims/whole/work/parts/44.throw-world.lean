/-- where nothing is free, the cells that were there stay -/
theorem same_cells {s t : State} {k n : Nat} (h : s.sameButNew t [] k n) : ∀ a, a < s.heap.size → t.heap[a]? = s.heap[a]? := by
  obtain ⟨-, -, -, -, -, h6⟩ := h
  intro a ha
  obtain ⟨c', h1, h2, h3, h4⟩ := h6 a s.heap[a] (Array.getElem?_eq_getElem ha)
  have e : c'.slots = s.heap[a].slots := Array.ext_getElem? (fun i => h4 i List.not_mem_nil)
  rw [h1, Array.getElem?_eq_getElem ha, h2, e]
theorem va_P_grown {D : va_G} {ws : va_W} {H H1 : Heap} (hP : va_P D cls ws H) (h : ∀ a, a < H.size → H1[a]? = H[a]?) : va_P D cls ws H1 := hP.kept (fun k x hx => h x.1 ((hP k x hx).lt))

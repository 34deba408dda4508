/-- the words of a throw hold, wherever the cell of Throwable's statics stands -/
def TX (U : State) : Prop := ∃ (sc : Nat) (cell : Cell), U.heap[sc]? = some cell ∧ cell.vm.isStatics = true ∧ ∀ V : State, U.WarmedH V.vm → V.heap[sc]? = some cell → ∀ (a : Array Value), ∀ w ∈ XW, w.before a V = true
theorem TX.words {U : State} (h : TX U) (a : Array Value) : ∀ w ∈ XW, w.before a U = true := by
  obtain ⟨sc, cell, h1, -, h3⟩ := h
  exact h3 U (State.WarmedH.refl U) h1 a
theorem no_handlers {p : Program} {l : Launch} {e : Env} {R : Room} {s : State} {m : MethodId} {args : Array Value} {below : List Frame} {meth : Method} {c : Code} {T : State} {locs : List Loc} {cells slots : Nat} {y : MethodName} {bytes : ByteArray} {maxL : Nat} {ret : Option FieldType}
    (X : Stand p l e R s m args below meth c T locs cells slots) (hn : s.methodNamed? y = some m) (hc : (Cond.code y bytes maxL ret).before args s = true) (pc : Nat) : ∀ x ∈ c.exceptionTable.toList, covers x pc = false := by
  obtain ⟨meth', c', h1, h2, -, -, -, -, h7, -⟩ := Cond.code_spec hn hc
  have e1 : meth = meth' := Option.some.inj (X.method.symm.trans h1)
  subst e1
  have e2 : c = c' := Option.some.inj (X.code.symm.trans h2)
  subst e2
  intro x hx
  have h8 : c.exceptionTable = #[] := by simpa using h7
  rw [h8] at hx
  cases hx
-- GENERATED
/-- its end: a new object of the class is thrown; nothing else has moved -/
def tq (cls : String) : Array Value → State → Outcome → State → Prop := fun _ st o t => ∃ q, o = .threw q ∧ isX cls st q t ∧ st.sameButNew ({ t with vm := st.vm } : State) [] 1 6
set_option maxHeartbeats 4000000 in
set_option maxRecDepth 100000 in
theorem t_R_refuseUnknown (l : Launch) (htr : l.stackTraces = false) (x lo hi : Int32) (hbad : x < lo ∨ ¬ x ≤ hi) : MetT l y_R_refuseUnknown w_R_refuseUnknown { frames := 6, cells := 1, slots := 6, locals := 100 } (va_Pc [.int x, .int lo, .int hi] (fun U => NX U ∧ TX U)) (tq "java/lang/IllegalArgumentException") 1 6 (fun _ => False) := by
  refine MetT.ofW (cc := b_R_refuseUnknown) (maxL := 3) (ret := none) (by decide) rfl ?_
  intro p e s m args below meth c s₁ B hml hv
  obtain ⟨rfl, hN, hX⟩ := hv
  have hx := B.exec
  have hb := B.bytes
  have hts := atoms_spec (ws := w_R_refuseUnknown) B.pre
  have htb : ∀ w ∈ TBG, w.before [.int x, .int lo, .int hi].toArray s = true := fun w h => hts w (List.mem_cons_of_mem _ h)
  have hown : s.vm.findClass R_R = some m.cls := findClass_of_methodNamed B.named
  have hlocks := B.notSynchronized
  have hl := lv_entry ([.int x, .int lo, .int hi]) (n := 3) (Nat.le_of_ble_eq_true rfl)
  rw [lg_entry_eq]
  generalize (lg_sl ([.int x, .int lo, .int hi]) ++ List.replicate (3 - (lg_sl ([.int x, .int lo, .int hi])).length) Slot.unset).toArray = ls at hl ⊢
  have hl : lv_has ls 3 [(0, .int x), (1, .int lo), (2, .int hi)] := hl
  refine lv_iload_n hx hb d_R_refuseUnknown_0 rfl (lv_at hl 0 rfl) ?_
  refine lv_iload_n hx hb d_R_refuseUnknown_1 rfl (lv_at hl 1 rfl) ?_
  refine lv_icmp_lt (tgt := 10) hx hb d_R_refuseUnknown_2 (by decide) (fun c_2 => ?_) (fun c_2 => ?_)
  · intro T hT X
    exact nr_throwNew (names := ["java/lang/RuntimeException", "java/lang/Exception"]) hx hb htr hown (by decide +kernel) (by decide +kernel) (oa_IAE htb (hX.words _)) (htb _ (tbm 371 rfl rfl)) (htb _ (tbm 372 rfl rfl)) (htb _ (tbm 10 rfl rfl)) (hX.words _ _ x14) (fun _ h => absurd h List.not_mem_nil) (Nat.le_refl _) (fun _ h => absurd h List.not_mem_nil) (hml.trans hl.1.symm) (no_handlers X B.named (hts _ List.mem_cons_self) _) (Nat.le_of_ble_eq_true rfl) (Nat.le_of_ble_eq_true rfl) (by decide) (by decide) d_R_refuseUnknown_10 d_R_refuseUnknown_13 d_R_refuseUnknown_14 d_R_refuseUnknown_16 d_R_refuseUnknown_19 (fun q t h1 h2 h3 => ⟨q, rfl, h1, h3⟩) hlocks T hT X
  · refine lv_iload_n hx hb d_R_refuseUnknown_5 rfl (lv_at hl 0 rfl) ?_
    refine lv_iload_n hx hb d_R_refuseUnknown_6 rfl (lv_at hl 2 rfl) ?_
    refine lv_icmp_le (tgt := 20) hx hb d_R_refuseUnknown_7 (by decide) (fun c_7 => by rcases hbad with h | h; exact absurd h c_2; exact absurd c_7 h) (fun c_7 => ?_)
    intro T hT X
    exact nr_throwNew (names := ["java/lang/RuntimeException", "java/lang/Exception"]) hx hb htr hown (by decide +kernel) (by decide +kernel) (oa_IAE htb (hX.words _)) (htb _ (tbm 371 rfl rfl)) (htb _ (tbm 372 rfl rfl)) (htb _ (tbm 10 rfl rfl)) (hX.words _ _ x14) (fun _ h => absurd h List.not_mem_nil) (Nat.le_refl _) (fun _ h => absurd h List.not_mem_nil) (hml.trans hl.1.symm) (no_handlers X B.named (hts _ List.mem_cons_self) _) (Nat.le_of_ble_eq_true rfl) (Nat.le_of_ble_eq_true rfl) (by decide) (by decide) d_R_refuseUnknown_10 d_R_refuseUnknown_13 d_R_refuseUnknown_14 d_R_refuseUnknown_16 d_R_refuseUnknown_19 (fun q t h1 h2 h3 => ⟨q, rfl, h1, h3⟩) hlocks T hT X
set_option maxHeartbeats 4000000 in
set_option maxRecDepth 100000 in
theorem t_R_refuseOutside (l : Launch) (htr : l.stackTraces = false) (x lo hi : Int32) (hbad : x < lo ∨ ¬ x ≤ hi) : MetT l y_R_refuseOutside w_R_refuseOutside { frames := 6, cells := 1, slots := 6, locals := 100 } (va_Pc [.int x, .int lo, .int hi] (fun U => NX U ∧ TX U)) (tq "java/lang/IndexOutOfBoundsException") 1 6 (fun _ => False) := by
  refine MetT.ofW (cc := b_R_refuseOutside) (maxL := 3) (ret := none) (by decide) rfl ?_
  intro p e s m args below meth c s₁ B hml hv
  obtain ⟨rfl, hN, hX⟩ := hv
  have hx := B.exec
  have hb := B.bytes
  have hts := atoms_spec (ws := w_R_refuseOutside) B.pre
  have htb : ∀ w ∈ TBG, w.before [.int x, .int lo, .int hi].toArray s = true := fun w h => hts w (List.mem_cons_of_mem _ h)
  have hown : s.vm.findClass R_R = some m.cls := findClass_of_methodNamed B.named
  have hlocks := B.notSynchronized
  have hl := lv_entry ([.int x, .int lo, .int hi]) (n := 3) (Nat.le_of_ble_eq_true rfl)
  rw [lg_entry_eq]
  generalize (lg_sl ([.int x, .int lo, .int hi]) ++ List.replicate (3 - (lg_sl ([.int x, .int lo, .int hi])).length) Slot.unset).toArray = ls at hl ⊢
  have hl : lv_has ls 3 [(0, .int x), (1, .int lo), (2, .int hi)] := hl
  refine lv_iload_n hx hb d_R_refuseOutside_0 rfl (lv_at hl 0 rfl) ?_
  refine lv_iload_n hx hb d_R_refuseOutside_1 rfl (lv_at hl 1 rfl) ?_
  refine lv_icmp_lt (tgt := 10) hx hb d_R_refuseOutside_2 (by decide) (fun c_2 => ?_) (fun c_2 => ?_)
  · intro T hT X
    exact nr_throwNew (names := ["java/lang/RuntimeException", "java/lang/Exception"]) hx hb htr hown (by decide +kernel) (by decide +kernel) (oa_IOOBE htb (hX.words _)) (htb _ (tbm 247 rfl rfl)) (htb _ (tbm 248 rfl rfl)) (htb _ (tbm 8 rfl rfl)) (hX.words _ _ x12) (fun _ h => absurd h List.not_mem_nil) (Nat.le_refl _) (fun _ h => absurd h List.not_mem_nil) (hml.trans hl.1.symm) (no_handlers X B.named (hts _ List.mem_cons_self) _) (Nat.le_of_ble_eq_true rfl) (Nat.le_of_ble_eq_true rfl) (by decide) (by decide) d_R_refuseOutside_10 d_R_refuseOutside_13 d_R_refuseOutside_14 d_R_refuseOutside_16 d_R_refuseOutside_19 (fun q t h1 h2 h3 => ⟨q, rfl, h1, h3⟩) hlocks T hT X
  · refine lv_iload_n hx hb d_R_refuseOutside_5 rfl (lv_at hl 0 rfl) ?_
    refine lv_iload_n hx hb d_R_refuseOutside_6 rfl (lv_at hl 2 rfl) ?_
    refine lv_icmp_le (tgt := 20) hx hb d_R_refuseOutside_7 (by decide) (fun c_7 => by rcases hbad with h | h; exact absurd h c_2; exact absurd c_7 h) (fun c_7 => ?_)
    intro T hT X
    exact nr_throwNew (names := ["java/lang/RuntimeException", "java/lang/Exception"]) hx hb htr hown (by decide +kernel) (by decide +kernel) (oa_IOOBE htb (hX.words _)) (htb _ (tbm 247 rfl rfl)) (htb _ (tbm 248 rfl rfl)) (htb _ (tbm 8 rfl rfl)) (hX.words _ _ x12) (fun _ h => absurd h List.not_mem_nil) (Nat.le_refl _) (fun _ h => absurd h List.not_mem_nil) (hml.trans hl.1.symm) (no_handlers X B.named (hts _ List.mem_cons_self) _) (Nat.le_of_ble_eq_true rfl) (Nat.le_of_ble_eq_true rfl) (by decide) (by decide) d_R_refuseOutside_10 d_R_refuseOutside_13 d_R_refuseOutside_14 d_R_refuseOutside_16 d_R_refuseOutside_19 (fun q t h1 h2 h3 => ⟨q, rfl, h1, h3⟩) hlocks T hT X
set_option maxHeartbeats 4000000 in
set_option maxRecDepth 100000 in
theorem t_R_refuseFull (l : Launch) (htr : l.stackTraces = false) (x y : Int32) (hbad : ¬ x < y) : MetT l y_R_refuseFull w_R_refuseFull { frames := 6, cells := 1, slots := 6, locals := 100 } (va_Pc [.int x, .int y] (fun U => NX U ∧ TX U)) (tq "java/lang/UnsupportedOperationException") 1 6 (fun _ => False) := by
  refine MetT.ofW (cc := b_R_refuseFull) (maxL := 2) (ret := none) (by decide) rfl ?_
  intro p e s m args below meth c s₁ B hml hv
  obtain ⟨rfl, hN, hX⟩ := hv
  have hx := B.exec
  have hb := B.bytes
  have hts := atoms_spec (ws := w_R_refuseFull) B.pre
  have htb : ∀ w ∈ TBG, w.before [.int x, .int y].toArray s = true := fun w h => hts w (List.mem_cons_of_mem _ h)
  have hown : s.vm.findClass R_R = some m.cls := findClass_of_methodNamed B.named
  have hlocks := B.notSynchronized
  have hl := lv_entry ([.int x, .int y]) (n := 2) (Nat.le_of_ble_eq_true rfl)
  rw [lg_entry_eq]
  generalize (lg_sl ([.int x, .int y]) ++ List.replicate (2 - (lg_sl ([.int x, .int y])).length) Slot.unset).toArray = ls at hl ⊢
  have hl : lv_has ls 2 [(0, .int x), (1, .int y)] := hl
  refine lv_iload_n hx hb d_R_refuseFull_0 rfl (lv_at hl 0 rfl) ?_
  refine lv_iload_n hx hb d_R_refuseFull_1 rfl (lv_at hl 1 rfl) ?_
  refine lv_icmp_lt (tgt := 15) hx hb d_R_refuseFull_2 (by decide) (fun c_2 => absurd c_2 hbad) (fun c_2 => ?_)
  intro T hT X
  exact nr_throwNew (names := ["java/lang/RuntimeException", "java/lang/Exception"]) hx hb htr hown (by decide +kernel) (by decide +kernel) (oa_UOE htb (hX.words _)) (htb _ (tbm 336 rfl rfl)) (htb _ (tbm 337 rfl rfl)) (htb _ (tbm 9 rfl rfl)) (hX.words _ _ x13) (fun _ h => absurd h List.not_mem_nil) (Nat.le_refl _) (fun _ h => absurd h List.not_mem_nil) (hml.trans hl.1.symm) (no_handlers X B.named (hts _ List.mem_cons_self) _) (Nat.le_of_ble_eq_true rfl) (Nat.le_of_ble_eq_true rfl) (by decide) (by decide) d_R_refuseFull_5 d_R_refuseFull_8 d_R_refuseFull_9 d_R_refuseFull_11 d_R_refuseFull_14 (fun q t h1 h2 h3 => ⟨q, rfl, h1, h3⟩) hlocks T hT X
set_option maxHeartbeats 4000000 in
set_option maxRecDepth 100000 in
theorem t_R_refuseSame (l : Launch) (htr : l.stackTraces = false) (x y : Int32) (hbad : x = y) : MetT l y_R_refuseSame w_R_refuseSame { frames := 6, cells := 1, slots := 6, locals := 100 } (va_Pc [.int x, .int y] (fun U => NX U ∧ TX U)) (tq "java/lang/IllegalArgumentException") 1 6 (fun _ => False) := by
  refine MetT.ofW (cc := b_R_refuseSame) (maxL := 2) (ret := none) (by decide) rfl ?_
  intro p e s m args below meth c s₁ B hml hv
  obtain ⟨rfl, hN, hX⟩ := hv
  have hx := B.exec
  have hb := B.bytes
  have hts := atoms_spec (ws := w_R_refuseSame) B.pre
  have htb : ∀ w ∈ TBG, w.before [.int x, .int y].toArray s = true := fun w h => hts w (List.mem_cons_of_mem _ h)
  have hown : s.vm.findClass R_R = some m.cls := findClass_of_methodNamed B.named
  have hlocks := B.notSynchronized
  have hl := lv_entry ([.int x, .int y]) (n := 2) (Nat.le_of_ble_eq_true rfl)
  rw [lg_entry_eq]
  generalize (lg_sl ([.int x, .int y]) ++ List.replicate (2 - (lg_sl ([.int x, .int y])).length) Slot.unset).toArray = ls at hl ⊢
  have hl : lv_has ls 2 [(0, .int x), (1, .int y)] := hl
  refine lv_iload_n hx hb d_R_refuseSame_0 rfl (lv_at hl 0 rfl) ?_
  refine lv_iload_n hx hb d_R_refuseSame_1 rfl (lv_at hl 1 rfl) ?_
  refine lv_icmp_ne (tgt := 15) hx hb d_R_refuseSame_2 (by decide) (fun c_2 => absurd hbad c_2) (fun c_2 => ?_)
  intro T hT X
  exact nr_throwNew (names := ["java/lang/RuntimeException", "java/lang/Exception"]) hx hb htr hown (by decide +kernel) (by decide +kernel) (oa_IAE htb (hX.words _)) (htb _ (tbm 371 rfl rfl)) (htb _ (tbm 372 rfl rfl)) (htb _ (tbm 10 rfl rfl)) (hX.words _ _ x16) (fun _ h => absurd h List.not_mem_nil) (Nat.le_refl _) (fun _ h => absurd h List.not_mem_nil) (hml.trans hl.1.symm) (no_handlers X B.named (hts _ List.mem_cons_self) _) (Nat.le_of_ble_eq_true rfl) (Nat.le_of_ble_eq_true rfl) (by decide) (by decide) d_R_refuseSame_5 d_R_refuseSame_8 d_R_refuseSame_9 d_R_refuseSame_11 d_R_refuseSame_14 (fun q t h1 h2 h3 => ⟨q, rfl, h1, h3⟩) hlocks T hT X

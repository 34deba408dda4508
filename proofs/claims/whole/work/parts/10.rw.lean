/-- the start of a contract that may write -/
def rw_P (av : List Value) (D : va_G) (ws : va_W) (tys : List (ClassId × FieldType)) (sz : Nat) : Array Value → State → Prop := va_Pc av (fun U => U.heap.size = sz ∧ NX U ∧ va_P D cls ws U.heap ∧ va_K D cls tys U ∧ va_D (fun _ => True) ws)
theorem rw_blind {av : List Value} {D : va_G} {ws : va_W} {tys : List (ClassId × FieldType)} {sz : Nat} : FrameBlind (rw_P av D ws tys sz) := fun a U g mk q => ⟨q.1, q.2.1, q.2.2.1.calling, q.2.2.2.1, va_K.moved (u := U) (U := U.calling g mk a) (Vm.Alike.refl U.vm) q.2.2.2.2.1, q.2.2.2.2.2⟩
theorem rw_pre {s : State} {H : Heap} {av : List Value} {D : va_G} {ws : va_W} {tys : List (ClassId × FieldType)} {A : Nat → Prop} (hN : NX s) (hP : va_P D cls ws H) (hK : va_K D cls tys s) (hD : va_D A ws) : ∀ U : State, U.heap = H → s.WarmedH U.vm → rw_P av D ws tys H.size av.toArray U := fun U hU hW => ⟨rfl, by rw [hU], hN.warm hW, by rw [hU]; exact hP, va_K.moved hW.alike hK, hD.weaken (fun _ _ _ _ => trivial)⟩
/-- its end: a new world over the same addresses; void, and an int -/
abbrev rw_Qv {S : Type} (post : S → Prop) (D : va_G) (wc : va_W) (w1 : S → va_W) (sz : Nat) : Array Value → State → Outcome → State → Prop := va_Qv post (fun u t => va_P D cls (w1 u) t.heap ∧ va_D (va_A wc sz) (w1 u)) (va_A wc sz)
abbrev rw_Qi {S : Type} (post : Int32 → S → Prop) (D : va_G) (wc : va_W) (w1 : S → va_W) (sz : Nat) : Array Value → State → Outcome → State → Prop := va_Qi post (fun u t => va_P D cls (w1 u) t.heap ∧ va_D (va_A wc sz) (w1 u)) (va_A wc sz)
section NW
variable {p : Program} {l : Launch} {e : Env} {R : Room} {s : State} {m : MethodId} {args : Array Value} {below : List Frame} {meth : Method} {c : Code} {H : Heap} {locs : List Loc} {cells slots : Nat} {Q : State → Prop} {pc : Nat} {ls : Array Slot} {rest st0 : List Value}
variable {D : va_G} {ws wc wr : va_W} {A : Nat → Prop} {H0 : Heap} {a : Array Value} {mc ms : Nat}
theorem nr_callv {S : Type} {post : S → Prop} {w1 : S → va_W} (hr : va_Run p l e R s m args below meth c H locs cells slots mc ms (F0 m pc ls st0) rest (rw_Qv post D wc w1 H.size a) (va_A wc H.size)) (hP : va_P D cls ws H) (hD : va_D A ws) (hS : va_S A H0 H locs) (hA : ∀ q, H0.size ≤ q → A q) (isC isR : List Nat) (hC : isC.map (fun i => ws[i]?) = wc.map some) (hR : isR.map (fun i => ws[i]?) = wr.map some) (hn : va_nd isR = true) (hdis : ∀ i ∈ isR, i ∉ isC)
    (kk : ∀ (u : S) (H1 : Heap) (locs1 : List Loc), post u → va_P D cls (wr ++ w1 u) H1 → va_D A (wr ++ w1 u) → va_S A H0 H1 locs1 → W p l e R s m args below meth c H1 locs1 (cells + mc) (slots + ms) Q (F0 m (pc + 3) ls rest)) : W p l e R s m args below meth c H locs cells slots Q (F0 m pc ls st0) := by
  have hF := va_free (wc := wc) hD hS hA isC hC
  refine va_callv hr hS (fun q _ h => hF q h) hF (fun u t H1 locs1 ht hvm hp hB hz hk hS1 => ?_)
  obtain ⟨hP1, hD1⟩ := hB
  rw [ht] at hP1
  obtain ⟨hP2, hD2⟩ := va_join hP hD isC isR hC hR hn hdis hk hF hP1 hD1
  exact kk u H1 locs1 hp hP2 hD2 hS1
theorem nr_callwi {S : Type} {post : Int32 → S → Prop} {w1 : S → va_W} (hr : va_Run p l e R s m args below meth c H locs cells slots mc ms (F0 m pc ls st0) rest (rw_Qi post D wc w1 H.size a) (va_A wc H.size)) (hP : va_P D cls ws H) (hD : va_D A ws) (hS : va_S A H0 H locs) (hA : ∀ q, H0.size ≤ q → A q) (isC isR : List Nat) (hC : isC.map (fun i => ws[i]?) = wc.map some) (hR : isR.map (fun i => ws[i]?) = wr.map some) (hn : va_nd isR = true) (hdis : ∀ i ∈ isR, i ∉ isC)
    (kk : ∀ (r : Int32) (u : S) (H1 : Heap) (locs1 : List Loc), post r u → va_P D cls (wr ++ w1 u) H1 → va_D A (wr ++ w1 u) → va_S A H0 H1 locs1 → W p l e R s m args below meth c H1 locs1 (cells + mc) (slots + ms) Q (F0 m (pc + 3) ls (.int r :: rest))) : W p l e R s m args below meth c H locs cells slots Q (F0 m pc ls st0) := by
  have hF := va_free (wc := wc) hD hS hA isC hC
  refine va_calli hr hS (fun q _ h => hF q h) hF (fun r u t H1 locs1 ht hvm hp hB hz hk hS1 => ?_)
  obtain ⟨hP1, hD1⟩ := hB
  rw [ht] at hP1
  obtain ⟨hP2, hD2⟩ := va_join hP hD isC isR hC hR hn hdis hk hF hP1 hD1
  exact kk r u H1 locs1 hp hP2 hD2 hS1
end NW
theorem nr_arrV {cA : ClassId} {n : Nat} {f g : Nat → Value} (h : ∀ j, j < n → f j = g j) : arrV cA n f = arrV cA n g := by
  unfold arrV
  congr 2
  funext j
  exact h j.1 j.2
/-- what an array holds beyond its end is nobody's -/
theorem nr_swap {D : va_G} {cl : List vw_C} {A : Nat → Prop} {ws : va_W} {H : Heap} {a n q0 : Nat} {cA : ClassId} {f g : Nat → Int32} (hP : va_P D cl ws H) (hD : va_D A ws) (ha : ws[q0]? = some (a, .inl (cA, n, .inl f))) (h : ∀ j, j < n → f j = g j) : va_P D cl (ws.set q0 (a, .inl (cA, n, .inl g))) H ∧ va_D A (ws.set q0 (a, .inl (cA, n, .inl g))) := by
  refine ⟨hP.set hD ha ?_ (fun _ _ => rfl), hD.set ha⟩
  have h1 : H[a]? = some (vp_cell cA (n, .inl f)) := hP q0 _ ha
  show H[a]? = some (vp_cell cA (n, .inl g))
  rw [h1, vp_cell_i, vp_cell_i, nr_arrV (fun j hj => by rw [h j hj])]
section NY
variable {p : Program} {l : Launch} {e : Env} {R : Room} {s : State} {m : MethodId} {args : Array Value} {below : List Frame} {meth : Method} {c : Code} {H : Heap} {locs : List Loc} {cells slots : Nat} {Q : State → Prop} {pc : Nat} {ls : Array Slot} {rest : List Value}
variable {cc : ByteArray} {D : va_G} {cl : List vw_C} {A : Nat → Prop} {a : Nat} {tys : List (ClassId × FieldType)} {ws : va_W} {H0 : Heap}
/-- the whole of an array is copied into another of its length -/
theorem nr_copy (hexec : p.tables.exec = Jvm.exec) (hb : c.code = cc) (hml : c.maxLocals = ls.size) {own : String} {index : Nat} (hown : s.vm.findClass own = some m.cls) (hlink : (Cond.methodLink own index arraycopyName).before args s = true) (hnat : (Cond.native arraycopyName).before args s = true) (hstat : (Cond.static arraycopyName).before args s = true) (hini : (Cond.initialized "java/lang/System").before args s = true)
    (hK : va_K D cl tys s) (hP : va_P D cl ws H) (hD : va_D A ws) (hS : va_S A H0 H locs) (q0 q1 t0 t1 : Nat) {a0 : Nat} {c0 c1 : ClassId} {f g : Nat → Nat} (ha0 : ws[q0]? = some (a0, .inl (c0, 42, .inl (fun k => nI (f k))))) (ha1 : ws[q1]? = some (a, .inl (c1, 42, .inl (fun k => nI (g k))))) (ht0 : tys[t0]? = some (c0, .int)) (ht1 : tys[t1]? = some (c1, .int))
    (hframes : 1 ≤ R.frames) (hlocals : (rest.map fun v => v.category).sum + 18 ≤ R.locals) (hdg : decode cc pc = .ok (.invokestatic index, 3))
    (kk : ∀ (H1 : Heap) (locs1 : List Loc), va_P D cl (ws.set q1 (a, .inl (c1, 42, .inl (fun k => nI (f k))))) H1 → va_D A (ws.set q1 (a, .inl (c1, 42, .inl (fun k => nI (f k))))) → va_S A H0 H1 locs1 → W p l e R s m args below meth c H1 locs1 cells slots Q (F0 m (pc + 3) ls rest)) : W p l e R s m args below meth c H locs cells slots Q (F0 m pc ls (.int (nI 42) :: .int (nI 0) :: .ref a :: .int (nI 0) :: .ref a0 :: rest)) := by
  refine va_copyi (f := fun k => nI (f k)) (g := fun k => nI (g k)) hexec hb hml hown hlink hnat hstat hini hK hP hD hS q0 q1 t0 t1 ha0 ha1 ht0 ht1 rfl (by decide) (by decide) (by decide) (by decide) (by decide) (fun _ _ => rfl) hframes hlocals hdg (fun H1 locs1 hP1 hD1 hS1 => ?_)
  have hi : q1 < ws.length := (List.getElem?_eq_some_iff.mp ha1).1
  obtain ⟨hP2, hD2⟩ := nr_swap (q0 := q1) (g := fun k => nI (f k)) hP1 hD1 (by rw [List.getElem?_set_self hi]) (fun j hj => by
    have e1 : (nI 0).toNatClampNeg = 0 := by decide
    have e2 : (nI 42).toNatClampNeg = 42 := by decide
    rw [e1, e2, pk_cpy_in (Nat.zero_le j) (by omega)]
    simp)
  rw [List.set_set] at hP2 hD2
  exact kk H1 locs1 hP2 hD2 hS1
end NY
theorem upr_self (S : Nat → Nat → Nat) (a : Nat) (f : Nat → Nat) (k : Nat) : upr S a f a k = f k := by simp [upr]
theorem nr_start {p : Program} {l : Launch} {e : Env} {R : Room} {s : State} {m : MethodId} {args : Array Value} {below : List Frame} {meth : Method} {c : Code} {H : Heap} {locs : List Loc} {cells slots : Nat} {Q : State → Prop} {g : JFrame} {D : va_G} {cl : List vw_C} {A : Nat → Prop} {ws : va_W} {H0 : Heap} (hP : va_P D cl ws H) (hS : va_S A H0 H locs) (kk : ∀ (H1 : Heap) (locs1 : List Loc), va_P D cl ws H1 → va_S A H0 H1 locs1 → W p l e R s m args below meth c H1 locs1 cells slots Q g) : W p l e R s m args below meth c H locs cells slots Q g := kk H locs hP hS
def up1 (f : Nat → Nat) (i x : Nat) : Nat → Nat := fun k => if k = i then x else f k

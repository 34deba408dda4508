/-! A throw that is caught; a static call of a method with an exception table. -/
theorem MetT.more {l : Launch} {y : MethodName} {ws : List Cond} {rm : Room} {Pc : Array Value → State → Prop} {Qc : Array Value → State → Outcome → State → Prop} {mc ms : Nat} {free : Addr → Prop} (hM : MetT l y ws rm Pc Qc mc ms free) : MetT l y ws rm Pc (fun a st o t => Qc a st o t ∧ va_F free st t) mc ms free := by
  intro p e ha hc hk s m args below hf happ hP hK
  obtain ⟨n, o, h1, h2, h3, h4, L, h5, h6⟩ := hM p e ha hc hk s m args below hf happ hP hK
  refine ⟨n, o, h1, h2, h3, ⟨h4, ?_⟩, L, h5, h6⟩
  obtain ⟨-, -, k1⟩ := h5
  refine ⟨k1.2.1, fun q hq hn => ?_⟩
  have h9 := k1.kept_off (a := q) (c := s.heap[q]) (fun i hi => hn (h6 _ hi)) (Array.getElem?_eq_getElem hq)
  rw [Array.getElem?_eq_getElem hq]
  exact h9
/-- the exceptions are no kinds of one another -/
def xcl : List String := ["java/lang/IndexOutOfBoundsException", "java/lang/UnsupportedOperationException", "java/lang/IllegalArgumentException", "java/lang/IllegalStateException", "java/lang/ArithmeticException"]
def CX (U : State) : Prop := ∀ x ∈ xcl, ∀ y ∈ xcl, x ≠ y → ∀ c1 c2, U.vm.findClass x = some c1 → U.vm.findClass y = some c2 → U.vm.assignable c1 c2 = false
theorem CX.warm {s U : State} (h : CX s) (hW : s.WarmedH U.vm) : CX U := fun x hx y hy hn c1 c2 h1 h2 => by
  rw [hW.alike.findClass] at h1 h2
  rw [hW.alike.assignable]
  exact h x hx y hy hn c1 c2 h1 h2
section CT
variable {p : Program} {l : Launch} {e : Env} {R : Room} {s : State} {m : MethodId} {args : Array Value} {below : List Frame} {meth : Method} {c : Code} {H : Heap} {locs : List Loc} {cells slots : Nat} {Q : State → Prop} {pc : Nat} {ls : Array Slot} {rest st0 : List Value}
variable {D : va_G} {ws wc wr : va_W} {A : Nat → Prop} {H0 : Heap} {a : Array Value} {mc ms : Nat}
theorem nr_caught {cl own : String} {y : MethodName} {bytes : ByteArray} {maxL : Nat} {ret : Option FieldType} {hh : List (Nat × Nat × Nat × Nat)}
    (hr : va_RunT p l e R s m args below meth c H locs cells slots mc ms (F0 m pc ls st0) rest (fun st o t => tqw cl D wc a st o t ∧ va_F (va_A wc H.size) st t) (va_A wc H.size))
    (hcode : (Cond.codeWith y bytes maxL ret hh).before args s = true) (hnm : s.methodNamed? y = some m) (hown : s.vm.findClass own = some m.cls) (hcx : CX s) (hcl : cl ∈ xcl)
    (k : Nat) {sp ep hp ct : Nat} (hk : hh[k]? = some (sp, ep, hp, ct)) (hsp : sp ≤ pc) (hep : pc < ep) (hct : ct ≠ 0) (hlink : (Cond.classLink own ct cl).before args s = true) (hcast : (Cond.castable cl cl).before args s = true)
    (hpass : ∀ r ∈ hh.take k, r.2.2.2 ≠ 0 ∧ ∃ name ∈ xcl, cl ≠ name ∧ (Cond.classLink own r.2.2.2 name).before args s = true)
    (hP : va_P D cls ws H) (hD : va_D A ws) (hS : va_S A H0 H locs) (hA : ∀ q, H0.size ≤ q → A q) (hDc : va_D A wc) (isC isR : List Nat) (hC : isC.map (fun i => ws[i]?) = wc.map some) (hR : isR.map (fun i => ws[i]?) = wr.map some) (hn : va_nd isR = true) (hdis : ∀ i ∈ isR, i ∉ isC)
    (kk : ∀ (v : Addr) (H1 : Heap) (locs1 : List Loc), va_P D cls (wr ++ wc) H1 → va_D A (wr ++ wc) → va_S A H0 H1 locs1 → W p l e R s m args below meth c H1 locs1 (cells + mc) (slots + ms) Q (F0 m hp ls [.ref v])) :
    W p l e R s m args below meth c H locs cells slots Q (F0 m pc ls st0) := by
  have hF := va_free (wc := wc) hD hS hA isC hC
  intro T hT X
  obtain ⟨v, st₀, t, T', L, h0, hw0, X', hL, e1, e2, ⟨⟨q, eq, ⟨cX, ce, i1, i2, i3, i4, i5⟩, hPt⟩, hFt⟩, st⟩ := hr T hT X
  cases eq
  rw [hw0.alike.findClass] at i1
  obtain ⟨m9, meth9, c9, n1, n2, n3, -, -, n6, -⟩ := Cond.codeWith_spec hcode
  cases Option.some.inj (hnm.symm.trans n1)
  cases Option.some.inj (X.method.symm.trans n2)
  cases Option.some.inj (X.code.symm.trans n3)
  have hpl : e.platform.magicAccessors = ({} : Platform).magicAccessors := by rw [X.admits.platform]
  have hk2 : (c.exceptionTable.toList.map (fun h => (h.startPc, h.endPc, h.handlerPc, h.catchType)))[k]? = some (sp, ep, hp, ct) := by rw [n6]; exact hk
  rw [List.getElem?_map, Option.map_eq_some_iff] at hk2
  obtain ⟨x, hx1, hx2⟩ := hk2
  obtain ⟨hxl, hx1⟩ := List.getElem?_eq_some_iff.mp hx1
  cases hx2
  have hsplit : c.exceptionTable.toList = c.exceptionTable.toList.take k ++ x :: c.exceptionTable.toList.drop (k + 1) := by
    rw [← hx1, ← List.drop_eq_getElem_cons hxl, List.take_append_drop]
  obtain ⟨c3, t3, w1, w2, w3⟩ := Cond.castable_spec hcast
  cases Option.some.inj (i1.symm.trans w1)
  cases Option.some.inj (i1.symm.trans w2)
  obtain ⟨hend, hk0⟩ := X'.catches_of_link hown (x := x) hct hlink i1 w3
  have hps : ∀ z ∈ c.exceptionTable.toList.take k, RowPassed e.platform s m.cls pc ce.cls z := by
    intro z hz
    have hz2 : (z.startPc, z.endPc, z.handlerPc, z.catchType) ∈ hh.take k := by
      rw [← n6, ← List.map_take]
      exact List.mem_map.mpr ⟨z, hz, rfl⟩
    obtain ⟨j1, name, j2, j3, j4⟩ := hpass _ hz2
    obtain ⟨c', hc', hcl'⟩ := Cond.classLink_spec hown j4 e.platform hpl
    exact Or.inr ⟨j1, c', hcl', by rw [i3]; exact hcx _ hcl _ j2 j3 _ _ i1 hc'⟩
  obtain ⟨vm', XV, st2⟩ := X'.thenCaughtThrough v (g := { F0 m pc ls st0 with stack := rest }) rfl st (cell := ce) (by rw [e1]; exact i2) (by rw [i4]; rfl) (by rw [i3]; exact hk0) _ x _ hsplit hps (by simp [covers]; exact ⟨hsp, hep⟩) (by rw [i3]; exact hend)
  obtain ⟨hz, hkk⟩ := hFt
  rw [h0] at hz hkk
  obtain ⟨hP2, hD2⟩ := va_join hP hD isC isR hC hR hn hdis hkk hF hPt hDc.self
  obtain ⟨t2, a1, b1⟩ := kk v T'.heap (locs ++ L) (by rw [e1]; exact hP2) hD2
    ⟨Nat.le_trans hS.1 (by rw [e1]; exact hz), fun q h1 h2 => by rw [e1, hkk q (Nat.lt_of_lt_of_le h1 hS.1) (fun z => h2 (hF q z))]; exact hS.2.1 q h1 h2, fun q hq => by
      rcases List.mem_append.mp hq with h | h
      · exact hS.2.2 q h
      · exact hF _ (hL q h)⟩ (T'.setVm vm') rfl XV
  exact ⟨t2, st2.trans a1, b1⟩
variable {y : MethodName} {bytes cc : ByteArray} {maxL nL n index : Nat} {ret : Option FieldType} {hh : List (Nat × Nat × Nat × Nat)} {rm : Room} {Pc : Array Value → State → Prop} {Qc : Array Value → State → Outcome → State → Prop} {free : Addr → Prop} {Ts w9 : List Cond} {own : String} {As : List Value} {g : JFrame}
/-- a static call of a method with an exception table -/
theorem va_runSW (S : CallFix p m c cc nL s args Ts own) (hM : Met l y w9 rm Pc Qc mc ms free) (hrc : rm.cells = mc ∧ rm.slots = ms) (hR : rm.frames + 1 ≤ R.frames ∧ 8 + (maxL + 11) + rm.locals ≤ R.locals) (hws : ∀ w ∈ w9, ∀ (a' : Array Value) (U : State), s.WarmedH U.vm → w.before a' U = true) (hcm : Cond.codeWith y bytes maxL ret hh ∈ w9)
    (hlink : (Cond.methodLink own index y).before args s = true) (hstat : (Cond.static y).before args s = true) (hinit : (Cond.initialized y.cls).before args s = true) (hy : y.cls ≠ "java/lang/invoke/MethodHandle" ∧ y.cls ≠ "java/lang/invoke/VarHandle") (hlen : (parseMethodDescriptor y.desc).map (fun d => d.parameters.length) = some n) (hp : PreS s H Pc As)
    (hg : g.method = m) (hn : As.length = n) (hsize : g.locals.size = nL) (hstack : g.stack = As.reverse ++ rest) (hW : 2 * g.monitorRoom + (rest.map fun v => v.category).sum ≤ 8) (hdg : decode cc g.pc = .ok (.invokestatic index, 3)) (hf : cells + mc ≤ R.cells ∧ slots + ms ≤ R.slots) :
    va_Run p l e R s m args below meth c H locs cells slots mc ms g rest (Qc As.toArray) (free) := by
  have hK : Back l R p e below s args y 3 8 (PreOf R mc ms Pc) (PostOf Qc mc ms free) := va_backW (hh := hh) (bytes := bytes) (maxL := maxL) (ret := ret) hM hp.1 hrc.1 hrc.2 hR.1 hR.2 hws hcm (fun a' U hW => word_at hW (Or.inl (by first | rfl | simp [Cond.onTables, Cond.keeps, Cond.steady])) hinit)
  obtain ⟨hx, hb, hml, ho, -⟩ := S
  intro T hT X
  obtain ⟨mk, methM, cM, hnamed, hmethM, -, -, -, -, -, -, hsigM⟩ := Cond.codeWith_spec (hws _ hcm args s (State.WarmedH.refl s))
  have hstatic : methM.isStatic = true := Cond.static_spec hnamed hmethM hstat
  obtain ⟨kP, hkP, -⟩ := className_of_methodNamed hnamed
  have hinitP : kP.init = .initialized := Cond.initialized_spec (findClass_of_methodNamed hnamed) hkP hinit
  rw [hsigM] at hlen
  have hln : As.length = methM.sig.parameters.length := hn.trans (Option.some.inj hlen).symm
  obtain ⟨vm₁, X₁, hstep₁⟩ := X.invokestatic hx ho hlink hnamed hmethM hstatic hkP hinitP hy (g := g) hg (argsL := As) (rest := rest) hln hstack (by rw [hb]; exact hdg)
  obtain ⟨v, ⟨U', l2, c2, s2⟩, X', ⟨g', mk', t, L, e1, e2, hq, h1, hL, h2, h3⟩, hsteps⟩ := hK m meth c ⟨T.setVm vm₁, locs, cells, slots⟩ { g with stack := rest } (.invokestatic index) mk As.toArray X₁ hg (hsize.trans hml.symm) (by rw [hb]; exact hdg) hW (X₁.named hnamed) ⟨hf.1, hf.2, hp.2 (T.setVm vm₁) hT X₁.warmed⟩
  dsimp only [Pt.U, Pt.locs, Pt.cells, Pt.slots] at X' e1 e2 h1 h2 h3 hsteps
  subst h1; subst h2; subst h3
  exact ⟨v, (T.setVm vm₁).calling g' mk' As.toArray, t, U', L, hT, X', hL, e1, e2, hq, fun target h => hstep₁ _ fun acts => by rw [doInvoke_state]; exact hsteps.trans h⟩
end CT

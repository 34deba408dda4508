/-! A throw of one's own behind calls: the Stand begun anew where the throw begins. -/
/-- where the throw begins, as if the method were invoked there -/
def anewS (T : State) (m : MethodId) (args : Array Value) (below : List Frame) : State := T.setFrames (.invoking m args :: below)
theorem stand_anew {p : Program} {l : Launch} {e : Env} {R : Room} {s : State} {m : MethodId} {args : Array Value} {below : List Frame} {meth : Method} {c : Code} {T : State} {locs : List Loc} {cells slots : Nat}
    (X : Stand p l e R s m args below meth c T locs cells slots) (R' : Room) (hf : R'.frames = R.frames) (hl : R'.locals = R.locals) (hc : cells + R'.cells ≤ R.cells) (hs : slots + R'.slots ≤ R.slots) :
    Stand p l e R' (anewS T m args below) m args below meth c T [] 0 0 := by
  obtain ⟨g₀, hfr⟩ := X.frames_eq
  have hcur : T.cur < T.threads.size := State.cur_lt_of_frames hfr
  obtain ⟨t, ht, -⟩ := State.frames_cons hfr
  have hF : (anewS T m args below).frames = .invoking m args :: below := State.frames_setFrames _ hcur
  have hvm : (anewS T m args below).vm = T.vm := rfl
  have hloc : (anewS T m args below).localsInUse = s.localsInUse := by
    rw [State.localsInUse_invoking hF (meth := meth) (by rw [hvm]; exact X.method') X.code, State.localsInUse_invoking X.frames X.method X.code]
  refine ⟨X.admits, X.cas, X.clock, hF, ?_, ?_, X.method', X.code, X.here, X.tail, State.WarmedH.refl T, (State.stackLimits_setFrames _ _ _).symm, (State.stackBytes_setFrames _ _).symm, ?_⟩
  · have h := X.room
    have h1 := X.heapSize
    have h2 := X.used
    have h3 := X.book
    have hlim : e.platform.stackLimits (anewS T m args below).me = e.platform.stackLimits s.me := (State.stackLimits_setFrames _ _ _).trans X.limits
    have hby : (anewS T m args below).me.stackBytes = s.me.stackBytes := (State.stackBytes_setFrames _ _).trans X.bytes
    simp only [State.hasRoom, Bool.and_eq_true, decide_eq_true_eq] at h ⊢
    rw [hloc, hlim, hby, hF, hf, hl]
    rw [X.frames] at h
    obtain ⟨⟨⟨⟨a1, a2⟩, a3⟩, a4⟩, a5⟩ := h
    refine ⟨⟨⟨⟨a1, a2⟩, ?_⟩, ?_⟩, h3⟩
    · show T.heap.size + R'.cells ≤ _
      omega
    · show T.slotsUsed + R'.slots ≤ _
      omega
  · have hh := X.hears
    rcases below with _ | ⟨y, r⟩
    · simp only [State.hears] at hh ⊢
      rw [hvm, X.method']
      rw [X.method] at hh
      exact hh
    · cases y <;> first | rfl | (simp only [State.hears, State.code?_eq] at hh ⊢; rw [hvm, X.warmed.alike.method?]; exact hh)
  · obtain ⟨h1, h2⟩ := State.sameButNew.refl T ht
    refine ⟨?_, h2⟩
    show T = { ((T.setFrames (.invoking m args :: below)).setFrames T.frames) with heap := T.heap, slotsUsed := T.slotsUsed }
    rw [State.setFrames_setFrames]
    exact h1
theorem tbg_warm {a a' : Array Value} {s U : State} (htb : ∀ w ∈ TBG, w.before a s = true) (hW : s.WarmedH U.vm) : ∀ w ∈ TBG, w.before a' U = true := fun w h => word_at hW (good_of_word (tbg_good h)) (htb w h)
theorem nr_throwAnew {p : Program} {l : Launch} {e : Env} {R : Room} {s : State} {m : MethodId} {args : Array Value} {below : List Frame} {meth : Method} {c : Code} {H : Heap} {locs : List Loc} {cells slots : Nat} {cc : ByteArray} {pc : Nat} {ls : Array Slot} {rest : List Value}
    {Q2 : Array Value → State → Outcome → State → Prop} {free : Addr → Prop} (hexec : p.tables.exec = Jvm.exec) (hb : c.code = cc) (htr : l.stackTraces = false) {own cls text : String} {names : List String} {ic idn ids : Nat}
    (hown : s.vm.findClass own = some m.cls) (hcls : Bundle.fit cls = true) (hnames : ∀ n ∈ names, Bundle.fit n = true)
    (hw : ∀ U : State, U.heap = H → s.WarmedH U.vm → (∀ a ∈ Bundle.ownAtoms own ic cls names, a.before args U = true) ∧ (Cond.classLink own idn cls).before args U = true ∧ (Cond.instantiable cls 6).before args U = true ∧ (Cond.initialized cls).before args U = true ∧ (Cond.stringRef own ids text).before args U = true)
    (hfr : ∀ q ∈ locs, free q.base)
    (hml : c.maxLocals = ls.size) (hout : ∀ x ∈ c.exceptionTable.toList, covers x (pc + 9) = false) (hcells : cells + 1 ≤ R.cells) (hslots : slots + 6 ≤ R.slots)
    (hRf : names.length + 3 < R.frames) (hRl : ((rest.map fun v => v.category).sum + 1) + (13 * (names.length + 1) + 42) ≤ R.locals)
    (d0 : decode cc pc = .ok (.new idn, 3)) (d3 : decode cc (pc + 3) = .ok (.dup, 1)) (d4 : decode cc (pc + 4) = .ok (.ldc ids, 2)) (d6 : decode cc (pc + 6) = .ok (.invokespecial ic, 3)) (d9 : decode cc (pc + 9) = .ok (.athrow, 1))
    (hlocks : meth.locks = false)
    (hq : ∀ (v : Addr) (st t U : State), st.heap = H → s.WarmedH st.vm → tq cls args st (.threw v) t → U.heap = t.heap → s.WarmedH U.vm → Q2 args s (.threw v) U) :
    W p l e R s m args below meth c H locs cells slots (MQT below Q2 args s (cells + 1) (slots + 6) free) (F0 m pc ls rest) := by
  intro T hT X
  have X' := stand_anew X { R with cells := 1, slots := 6 } rfl rfl hcells hslots
  have hW' : s.WarmedH (anewS T m args below).vm := X.warmed
  obtain ⟨w1, w2, w3, w4, w5⟩ := hw (anewS T m args below) hT hW'
  obtain ⟨t, st, o, h1, h2, ⟨q, e1, h3, h4⟩, L, ⟨h5, h6, h7⟩, h8⟩ := nr_throwNew (s := anewS T m args below) (R := { R with cells := 1, slots := 6 }) (Qc := tq cls) (free := fun _ => False) (locs := []) (cells := 0) (slots := 0) (H := H) (rest := rest) hexec hb htr (by rw [hW'.alike.findClass]; exact hown) hcls hnames w1 w2 w3 w4 w5 (fun _ h => absurd h List.not_mem_nil) (Nat.le_of_eq (congrArg Array.size hT)) (fun _ h => absurd h List.not_mem_nil) hml hout (Nat.le_refl _) (Nat.le_refl _) hRf hRl d0 d3 d4 d6 d9 (fun q t a1 a2 a3 => ⟨q, rfl, a1, a3⟩) hlocks T hT X'
  cases e1
  have k1 : s.WarmedH t.vm := State.WarmedH.trans hW' h6
  have k2 : T.sameButNew { t with vm := T.vm } [] 1 6 := State.sameButNew.of_setFrames (F := .invoking m args :: below) h4
  refine ⟨t, st, .threw q, h1, h2, hq q (anewS T m args below) t t hT hW' ⟨q, rfl, h3, h4⟩ rfl k1, locs ++ [], ⟨⟨_, rfl⟩, k1, X.same.trans (k2.setVm s.vm)⟩, fun x hx => ?_⟩
  rw [List.append_nil] at hx
  exact hfr x hx

/-! One turn of the law: what stands at its head, and its rows. -/
theorem gTB0 {c' : Cond} (h : c' ∈ TBG) : GoodIn TBG (c' :: TBG) := fun w hw => (List.mem_cons.mp hw).elim (fun e => by subst e; exact ⟨h, good_of_word (tbg_good h)⟩) (fun h2 => ⟨h2, good_of_word (tbg_good h2)⟩)
theorem va_P_left {D : va_G} {wa wb : va_W} {H : Heap} (h : va_P D cls (wa ++ wb) H) : va_P D cls wa H := fun k q hq => h k q (by rw [List.getElem?_append_left (List.getElem?_eq_some_iff.mp hq).1]; exact hq)
theorem va_P_right {D : va_G} {wa wb : va_W} {H : Heap} (h : va_P D cls (wa ++ wb) H) : va_P D cls wb H := fun k q hq => h (wa.length + k) q (by rw [List.getElem?_append_right (Nat.le_add_right _ _), Nat.add_sub_cancel_left]; exact hq)
theorem va_P_app {D : va_G} {wa wb : va_W} {H : Heap} (h1 : va_P D cls wa H) (h2 : va_P D cls wb H) : va_P D cls (wa ++ wb) H := by
  intro k q hq
  by_cases hk : k < wa.length
  · rw [List.getElem?_append_left hk] at hq
    exact h1 k q hq
  · rw [List.getElem?_append_right (Nat.not_lt.mp hk)] at hq
    exact h2 _ q hq
theorem va_D_left {A : Nat → Prop} {wa wb : va_W} (h : va_D A (wa ++ wb)) : va_D A wa := by
  have e : ∀ (k : Nat) (q : Nat × va_E), wa[k]? = some q → (wa ++ wb)[k]? = some q := fun k q hq => by rw [List.getElem?_append_left (List.getElem?_eq_some_iff.mp hq).1]; exact hq
  exact ⟨fun i j p q hi hj hpq => h.1 i j p q (e i p hi) (e j q hj) hpq, fun k q hk => h.2 k q (e k q hk)⟩
theorem va_D_right {A : Nat → Prop} {wa wb : va_W} (h : va_D A (wa ++ wb)) : va_D A wb := by
  have e : ∀ (k : Nat) (q : Nat × va_E), wb[k]? = some q → (wa ++ wb)[wa.length + k]? = some q := fun k q hq => by rw [List.getElem?_append_right (Nat.le_add_right _ _), Nat.add_sub_cancel_left]; exact hq
  exact ⟨fun i j p q hi hj hpq => by have := h.1 _ _ p q (e i p hi) (e j q hj) hpq; omega, fun k q hk => h.2 _ q (e k q hk)⟩
theorem va_D_apart {A : Nat → Prop} {wa wb : va_W} (h : va_D A (wa ++ wb)) : ∀ (i j : Nat) (p q : Nat × va_E), wa[i]? = some p → wb[j]? = some q → p.1 ≠ q.1 := by
  intro i j p q hi hj e
  have hl := (List.getElem?_eq_some_iff.mp hi).1
  have h1 : (wa ++ wb)[i]? = some p := by rw [List.getElem?_append_left hl]; exact hi
  have h2 : (wa ++ wb)[wa.length + j]? = some q := by rw [List.getElem?_append_right (Nat.le_add_right _ _), Nat.add_sub_cancel_left]; exact hj
  have := h.1 _ _ p q h1 h2 e
  omega
theorem va_D_app {A : Nat → Prop} {wa wb : va_W} (h1 : va_D A wa) (h2 : va_D A wb) (hx : ∀ (i j : Nat) (p q : Nat × va_E), wa[i]? = some p → wb[j]? = some q → p.1 ≠ q.1) : va_D A (wa ++ wb) := by
  have e : ∀ (k : Nat) (q : Nat × va_E), (wa ++ wb)[k]? = some q → (k < wa.length ∧ wa[k]? = some q) ∨ (wa.length ≤ k ∧ wb[k - wa.length]? = some q) := by
    intro k q hq
    by_cases hk : k < wa.length
    · rw [List.getElem?_append_left hk] at hq
      exact Or.inl ⟨hk, hq⟩
    · rw [List.getElem?_append_right (Nat.not_lt.mp hk)] at hq
      exact Or.inr ⟨Nat.not_lt.mp hk, hq⟩
  refine ⟨fun i j p q hi hj hpq => ?_, fun k q hk => ?_⟩
  · rcases e i p hi with ⟨a1, a2⟩ | ⟨a1, a2⟩ <;> rcases e j q hj with ⟨b1, b2⟩ | ⟨b1, b2⟩
    · exact h1.1 _ _ p q a2 b2 hpq
    · exact absurd hpq (hx _ _ p q a2 b2)
    · exact absurd hpq.symm (hx _ _ q p b2 a2)
    · have := h2.1 _ _ p q a2 b2 hpq
      omega
  · rcases e k q hk with ⟨-, a⟩ | ⟨-, a⟩
    · exact h1.2 _ q a
    · exact h2.2 _ q a
theorem va_sideA {A : Nat → Prop} {D : va_G} {wa wb w1 : va_W} {H H1 : Heap} (hP : va_P D cls (wa ++ wb) H) (hD : va_D A (wa ++ wb)) (hk : ∀ q : Nat, q < H.size → ¬ va_A wa H.size q → H1[q]? = H[q]?) (hF : ∀ q, va_A wa H.size q → A q) (hP1 : va_P D cls w1 H1) (hD1 : va_D (va_A wa H.size) w1) : va_P D cls (w1 ++ wb) H1 ∧ va_D A (w1 ++ wb) := by
  have hb := va_P_right hP
  have off : ∀ (k : Nat) (q : Nat × va_E), wb[k]? = some q → q.1 < H.size ∧ ¬ va_A wa H.size q.1 := by
    intro k q hq
    have hlt := (hb k q hq).lt
    refine ⟨hlt, fun hA => ?_⟩
    rcases hA with ⟨i, e, hi⟩ | hA
    · exact va_D_apart hD i k _ q hi hq rfl
    · omega
  refine ⟨va_P_app hP1 (hb.kept (fun k q hq => hk q.1 (off k q hq).1 (off k q hq).2)), va_D_app (hD1.weaken (fun _ q _ h => hF q.1 h)) (va_D_right hD) (fun i j p q hi hj e => ?_)⟩
  exact (off j q hj).2 (e ▸ hD1.2 i p hi)
theorem va_sideB {A : Nat → Prop} {D : va_G} {wa wb w1 : va_W} {H H1 : Heap} (hP : va_P D cls (wa ++ wb) H) (hD : va_D A (wa ++ wb)) (hk : ∀ q : Nat, q < H.size → ¬ va_A wb H.size q → H1[q]? = H[q]?) (hF : ∀ q, va_A wb H.size q → A q) (hP1 : va_P D cls w1 H1) (hD1 : va_D (va_A wb H.size) w1) : va_P D cls (wa ++ w1) H1 ∧ va_D A (wa ++ w1) := by
  obtain ⟨h1, h2⟩ := va_sideA (va_P_app (va_P_right hP) (va_P_left hP)) (va_D_app (va_D_right hD) (va_D_left hD) (fun i j p q hi hj e => va_D_apart hD j i q p hj hi e.symm)) hk hF hP1 hD1
  exact ⟨va_P_app (va_P_right h1) (va_P_left h1), va_D_app (va_D_right h2) (va_D_left h2) (fun i j p q hi hj e => va_D_apart h2 j i q p hj hi e.symm)⟩
theorem va_freeP_ {A0 : Nat → Prop} {wc : va_W} {H0 H : Heap} {locs : List Loc} (hD : va_D A0 wc) (hS : va_S A0 H0 H locs) (hA : ∀ q, H0.size ≤ q → A0 q) : ∀ q, va_A wc H.size q → A0 q := by
  intro q h
  rcases h with ⟨k, e, h⟩ | h
  · exact hD.2 k _ h
  · exact hA q (Nat.le_trans hS.1 h)
section LS
variable {p : Program} {l : Launch} {e : Env} {R : Room} {s : State} {m : MethodId} {args : Array Value} {below : List Frame} {meth : Method} {c : Code} {H : Heap} {locs : List Loc} {cells slots : Nat} {Q : State → Prop} {pc : Nat} {ls : Array Slot} {rest st0 : List Value}
variable {D : va_G} {wa wb : va_W} {A : Nat → Prop} {H0 : Heap} {a : Array Value} {mc ms : Nat}
theorem nr_callwiA {S : Type} {post : Int32 → S → Prop} {w1 : S → va_W} (hr : va_Run p l e R s m args below meth c H locs cells slots mc ms (F0 m pc ls st0) rest (rw_Qi post D wa w1 H.size a) (va_A wa H.size)) (hP : va_P D cls (wa ++ wb) H) (hD : va_D A (wa ++ wb)) (hS : va_S A H0 H locs) (hA : ∀ q, H0.size ≤ q → A q)
    (kk : ∀ (r : Int32) (u : S) (H1 : Heap) (locs1 : List Loc), post r u → va_P D cls (w1 u ++ wb) H1 → va_D A (w1 u ++ wb) → va_S A H0 H1 locs1 → W p l e R s m args below meth c H1 locs1 (cells + mc) (slots + ms) Q (F0 m (pc + 3) ls (.int r :: rest))) : W p l e R s m args below meth c H locs cells slots Q (F0 m pc ls st0) := by
  have hF := va_freeP_ (va_D_left hD) hS hA
  refine va_calli hr hS (fun q _ h => hF q h) hF (fun r u t H1 locs1 ht hvm hp hB hz hk hS1 => ?_)
  obtain ⟨hP1, hD1⟩ := hB
  rw [ht] at hP1
  obtain ⟨hP2, hD2⟩ := va_sideA hP hD hk hF hP1 hD1
  exact kk r u H1 locs1 hp hP2 hD2 hS1
theorem nr_callwiB {S : Type} {post : Int32 → S → Prop} {w1 : S → va_W} (hr : va_Run p l e R s m args below meth c H locs cells slots mc ms (F0 m pc ls st0) rest (rw_Qi post D wb w1 H.size a) (va_A wb H.size)) (hP : va_P D cls (wa ++ wb) H) (hD : va_D A (wa ++ wb)) (hS : va_S A H0 H locs) (hA : ∀ q, H0.size ≤ q → A q)
    (kk : ∀ (r : Int32) (u : S) (H1 : Heap) (locs1 : List Loc), post r u → va_P D cls (wa ++ w1 u) H1 → va_D A (wa ++ w1 u) → va_S A H0 H1 locs1 → W p l e R s m args below meth c H1 locs1 (cells + mc) (slots + ms) Q (F0 m (pc + 3) ls (.int r :: rest))) : W p l e R s m args below meth c H locs cells slots Q (F0 m pc ls st0) := by
  have hF := va_freeP_ (va_D_right hD) hS hA
  refine va_calli hr hS (fun q _ h => hF q h) hF (fun r u t H1 locs1 ht hvm hp hB hz hk hS1 => ?_)
  obtain ⟨hP1, hD1⟩ := hB
  rw [ht] at hP1
  obtain ⟨hP2, hD2⟩ := va_sideB hP hD hk hF hP1 hD1
  exact kk r u H1 locs1 hp hP2 hD2 hS1
theorem nr_callvB {S : Type} {post : S → Prop} {w1 : S → va_W} (hr : va_Run p l e R s m args below meth c H locs cells slots mc ms (F0 m pc ls st0) rest (rw_Qv post D wb w1 H.size a) (va_A wb H.size)) (hP : va_P D cls (wa ++ wb) H) (hD : va_D A (wa ++ wb)) (hS : va_S A H0 H locs) (hA : ∀ q, H0.size ≤ q → A q)
    (kk : ∀ (u : S) (H1 : Heap) (locs1 : List Loc), post u → va_P D cls (wa ++ w1 u) H1 → va_D A (wa ++ w1 u) → va_S A H0 H1 locs1 → W p l e R s m args below meth c H1 locs1 (cells + mc) (slots + ms) Q (F0 m (pc + 3) ls rest)) : W p l e R s m args below meth c H locs cells slots Q (F0 m pc ls st0) := by
  have hF := va_freeP_ (va_D_right hD) hS hA
  refine va_callv hr hS (fun q _ h => hF q h) hF (fun u t H1 locs1 ht hvm hp hB hz hk hS1 => ?_)
  obtain ⟨hP1, hD1⟩ := hB
  rw [ht] at hP1
  obtain ⟨hP2, hD2⟩ := va_sideB hP hD hk hF hP1 hD1
  exact kk u H1 locs1 hp hP2 hD2 hS1
end LS
abbrev LA (s : State) : Nat → Prop := fun q => s.heap.size ≤ q
/-- the two sides and the law's array -/
abbrev wL (ad : Nat → Nat) (ca : Nat → ClassId) (am : Nat → Nat) (cm : Nat → ClassId) (P S G P' G' X : Nat → Nat → Nat) (ao : Nat) (co : ClassId) (vo : Nat → Int64) : va_W := wR ad ca P S G ++ ([(ao, .inl (co, 1, .inr (.inl vo)))] ++ wM am cm P' G' X)
theorem wL_assoc {ad am : Nat → Nat} {ca cm : Nat → ClassId} {P S G P' G' X : Nat → Nat → Nat} {ao : Nat} {co : ClassId} {vo : Nat → Int64} : wRo ad ca P S G ao co vo ++ wM am cm P' G' X = wL ad ca am cm P S G P' G' X ao co vo := List.append_assoc _ _ _
def LK (D : va_G) (ca cm : Nat → ClassId) (co : ClassId) (s : State) : Prop := va_K D cls [] s ∧ va_K D cls (tR ca) s ∧ va_K D cls (tRo ca co) s ∧ va_K D cls [(co, .long)] s ∧ va_K D cls (tM cm) s
abbrev lL (b : Nat) (ad am : Nat → Nat) (ao t : Nat) : List (Nat × Value) := [(0, .ref b), (1, .ref (ad 0)), (2, .ref (am 0)), (3, .ref ao), (4, .int (nI (6 * t)))]
/-- what holds at every turn -/
def LC (p : Program) (s : State) (m : MethodId) (meth : Method) (c : Code) (b L : Nat) (xs : Nat → Int32) : Prop :=
  p.tables.exec = Jvm.exec ∧ c.code = b_L_law ∧ meth.sig.returnType = some .boolean ∧ c.maxLocals = 7 ∧ s.vm.findClass R_L = some m.cls ∧ (∀ w ∈ TBG, w.before #[Value.ref b] s = true) ∧ NX s ∧ TX s ∧ CX s ∧ va_X b L xs s s.heap ∧ b < s.heap.size ∧ meth.locks = false ∧ L ≤ 3072
theorem tx_law {s : State} {H : Heap} {locs : List Loc} (hX : TX s) (hS : va_S (LA s) s.heap H locs) : ∀ U : State, U.heap = H → s.WarmedH U.vm → TX U := by
  obtain ⟨sc, cell, h1, h2, h3⟩ := hX
  have hlt : sc < s.heap.size := (Array.getElem?_eq_some_iff.mp h1).1
  have hh : H[sc]? = some cell := (hS.2.1 sc hlt (fun h => absurd h (Nat.not_le.mpr hlt))).trans h1
  intro U hU hW
  exact ⟨sc, cell, by rw [hU]; exact hh, h2, fun V hV hc a w hw => h3 V (State.WarmedH.trans hW hV) hc a w hw⟩
def b01 (x : Int32) : Nat := if x = 0 then 0 else 1
theorem b01_le (x : Int32) : b01 x ≤ 1 := by unfold b01; split <;> omega
section LR
variable {p : Program} {l : Launch} {e : Env} {R : Room} {s : State} {m : MethodId} {args : Array Value} {below : List Frame} {meth : Method} {c : Code} {H : Heap} {locs : List Loc} {cells slots : Nat} {Q : State → Prop} {cc : ByteArray} {pc : Nat} {ls : Array Slot} {rest : List Value}
theorem lv_lcmp_eq (hexec : p.tables.exec = Jvm.exec) (hb : c.code = cc) {x y : Int64} (h : x = y) (hdg : decode cc pc = .ok (.lcmp, 1)) (k : W p l e R s m args below meth c H locs cells slots Q (F0 m (pc + 1) ls (.int 0 :: rest))) : W p l e R s m args below meth c H locs cells slots Q (F0 m pc ls (.long y :: .long x :: rest)) := by
  subst h
  intro T hT X
  obtain ⟨t, a, b⟩ := k T hT X
  refine ⟨t, ?_, b⟩
  jvm_step X.here [X.here.top, hexec, hb, hdg, Int64.lt_irrefl]
  exact a
theorem nr_tobool (hexec : p.tables.exec = Jvm.exec) (hb : c.code = cc) {x : Int32} (d0 : decode cc pc = .ok (.ifCond .eq 7, 3)) (d3 : decode cc (pc + 3) = .ok (.iconst 1, 1)) (d4 : decode cc (pc + 3 + 1) = .ok (.goto 4, 3)) (d7 : decode cc (pc + 7) = .ok (.iconst 0, 1))
    (k : W p l e R s m args below meth c H locs cells slots Q (F0 m (pc + 7 + 1) ls (.int (nI (b01 x)) :: rest))) : W p l e R s m args below meth c H locs cells slots Q (F0 m pc ls (.int x :: rest)) := by
  refine lv_if_eq (tgt := pc + 7) hexec hb d0 (by omega) (fun h => ?_) (fun h => ?_)
  · refine nr_iconst hexec hb 0 d7 (by decide) ?_
    rw [b01, if_pos h] at k
    exact k
  · refine nr_iconst hexec hb 1 d3 (by decide) ?_
    refine lv_goto (tgt := pc + 7 + 1) hexec hb d4 (by omega) ?_
    rw [b01, if_neg h] at k
    exact k
theorem nr_up {cells2 slots2 : Nat} (hc : cells ≤ cells2) (hs : slots ≤ slots2) {g : JFrame} (k : W p l e R s m args below meth c H locs cells2 slots2 Q g) : W p l e R s m args below meth c H locs cells slots Q g := by
  intro T hT X
  exact k T hT ⟨X.admits, X.cas, X.clock, X.frames, X.room, X.hears, X.method, X.code, X.here, X.tail, X.warmed, X.limits, X.bytes, X.same.mono hc hs⟩
theorem nr_fresh (hl : ∀ x ∈ locs, s.heap.size ≤ x.base) {g : JFrame} (k : W p l e R s m args below meth c H [] cells slots Q g) : W p l e R s m args below meth c H locs cells slots Q g := by
  intro T hT X
  exact k T hT ⟨X.admits, X.cas, X.clock, X.frames, X.room, X.hears, X.method, X.code, X.here, X.tail, X.warmed, X.limits, X.bytes, X.same.sift (fun x hx => Or.inr (hl x hx))⟩
end LR

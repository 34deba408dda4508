abbrev wS (ad : Nat → Nat) (ca : Nat → ClassId) (S : Nat → Nat → Nat) : va_W := [(ad 2, .inr (1, [.ref (ad 1), .ref (ad 9), .ref (ad 10), .ref (ad 11), .ref (ad 12), .ref (ad 13), .ref (ad 14), .ref (ad 15), .int (nI (S 0 0)), .int (nI (S 0 1)), .int (nI (S 0 2)), .int (nI (S 0 3)), .int (nI (S 0 4)), .int (nI (S 0 5)), .int (nI (S 0 6))])), (ad 9, .inl (ca 6, 42, .inl (fun k => nI (S 1 k)))), (ad 10, .inl (ca 7, 42, .inl (fun k => nI (S 2 k)))), (ad 11, .inl (ca 8, 42, .inl (fun k => nI (S 3 k)))), (ad 12, .inl (ca 9, 42, .inl (fun k => nI (S 4 k)))), (ad 13, .inl (ca 10, 42, .inl (fun k => nI (S 5 k)))), (ad 14, .inl (ca 11, 42, .inl (fun k => nI (S 6 k)))), (ad 15, .inl (ca 12, 42, .inl (fun k => nI (S 7 k))))]
abbrev wSP (ad : Nat → Nat) (ca : Nat → ClassId) (P S : Nat → Nat → Nat) (a : Nat) (cS : ClassId) (ro : Nat → Nat) : va_W := wP ad ca P ++ (wS ad ca S ++ [(a, .inl (cS, 42, .inl (fun k => nI (ro k))))])
abbrev tS (ca : Nat → ClassId) : List (ClassId × FieldType) := [(ca 6, .int), (ca 7, .int), (ca 8, .int), (ca 9, .int), (ca 10, .int), (ca 11, .int), (ca 12, .int)]
abbrev tSP (ca : Nat → ClassId) (cS : ClassId) : List (ClassId × FieldType) := tP ca ++ (tS ca ++ [(cS, .int)])
/-- S: row 0 limit, frozen days, steps, right ones, best unmet, stopped, exact; rows 1 best, 2 trial, 3 next shift, 4 last shift, 5 shifts had, 6 nights had, 7 unmet had -/
def okS (S : Nat → Nat → Nat) : Prop := S 0 0 ≤ 20000 ∧ S 0 1 ≤ 7 ∧ S 0 2 ≤ 40000 ∧ S 0 3 ≤ 40000 ∧ S 0 4 ≤ 100000 ∧ S 0 5 ≤ 1 ∧ S 0 6 ≤ 1 ∧ (∀ k, S 1 k ≤ 3) ∧ (∀ k, S 2 k ≤ 3) ∧ (∀ k, S 3 k ≤ 4) ∧ (∀ k, S 4 k ≤ 3) ∧ (∀ k, S 5 k ≤ k + 1) ∧ (∀ k, S 6 k ≤ k + 1) ∧ (∀ k, S 7 k ≤ 2000 * (k + 1))
def openS (S : Nat → Nat → Nat) (ro : Nat → Nat) (p d : Nat) : Nat → Nat → Nat := if d < S 0 1 then up2 (up2 S 3 (d * 6 + p) (ro (d * 6 + p))) 4 (d * 6 + p) (ro (d * 6 + p)) else up2 (up2 S 3 (d * 6 + p) 0) 4 (d * 6 + p) 3
def hadB (S : Nat → Nat → Nat) (r p d : Nat) : Nat := if d = 0 then 0 else S r ((d - 1) * 6 + p)
def krS (S : Nat → Nat → Nat) (p d s : Nat) : Nat → Nat → Nat := up2 (up2 S 5 (d * 6 + p) (if s = 0 then hadB S 5 p d else hadB S 5 p d + 1)) 6 (d * 6 + p) (if s = 3 then hadB S 6 p d + 1 else 0)
def krB (P S : Nat → Nat → Nat) (p d s : Nat) : Bool := decide ((if s = 0 then hadB S 5 p d else hadB S 5 p d + 1) ≤ P 0 3 ∧ (if s = 3 then hadB S 6 p d + 1 else 0) ≤ P 0 4 ∧ breaks P (hadB S 2 p d) s = false)
def ubef (P S : Nat → Nat → Nat) (p d : Nat) : Nat := if 0 < p then S 7 (d * 6 + (p - 1)) else if d = 0 then 0 else S 7 ((d - 1) * 6 + (P 0 0 - 1))
def sbS (P S : Nat → Nat → Nat) (p d s : Nat) : Nat → Nat → Nat := up2 S 7 (d * 6 + p) (ubef P S p d + P 6 ((d * 6 + p) * 4 + s))
def sbB (P S : Nat → Nat → Nat) (p d s : Nat) : Bool := decide (ubef P S p d + P 6 ((d * 6 + p) * 4 + s) < S 0 4)
theorem b01_f {b : Bool} (h : (if b = true then 1 else 0 : Nat) = 0) : b = false := by cases b <;> simp_all
theorem ubef_le {P S : Nat → Nat → Nat} (h : okS S) (h0 : P 0 0 ≤ 6) (p d : Nat) (hp : p < P 0 0) (hd : d < 7) : ubef P S p d ≤ 2000 * (d * 6 + p) := by
  obtain ⟨-, -, -, -, -, -, -, -, -, -, -, -, -, h7⟩ := h
  unfold ubef
  split
  · have := h7 (d * 6 + (p - 1)); omega
  · split
    · omega
    · have := h7 ((d - 1) * 6 + (P 0 0 - 1)); omega
set_option maxHeartbeats 4000000 in
set_option maxRecDepth 100000 in
theorem c_R_cell_raw (l : Launch) (D : va_G) (x y : Int32) : Met l y_R_cell w_R_cell { frames := 0, cells := 0, slots := 0, locals := 0 } (ro_P [.int x, .int y] D ([]) ([])) (vp_Si (fun r => r = y * nI 6 + x)) 0 0 (fun _ => False) := by
  refine Met.ofW (cc := b_R_cell) (maxL := 2) (ret := (some .int)) (by decide) rfl ?_
  intro p e s m args below meth c s₁ B hml hv
  obtain ⟨rfl, hN, hP, hK⟩ := hv
  have hx := B.exec
  have hb := B.bytes
  have hr := B.returns
  have hts := atoms_spec (ws := w_R_cell) B.pre
  have htb : ∀ w ∈ TBG, w.before [.int x, .int y].toArray s = true := fun w h => hts w (List.mem_cons_of_mem _ h)
  have hown : s.vm.findClass R_R = some m.cls := findClass_of_methodNamed B.named
  have hlocks := B.notSynchronized
  have hl := lv_entry ([.int x, .int y]) (n := 2) (Nat.le_of_ble_eq_true rfl)
  rw [lg_entry_eq]
  generalize (lg_sl ([.int x, .int y]) ++ List.replicate (2 - (lg_sl ([.int x, .int y])).length) Slot.unset).toArray = ls at hl ⊢
  have hl : lv_has ls 2 [(0, .int x), (1, .int y)] := hl
  refine lv_iload_n hx hb d_R_cell_0 rfl (lv_at hl 1 rfl) ?_
  refine nr_bipush hx hb 6 d_R_cell_1 (by decide) ?_
  refine lv_imul hx hb d_R_cell_3 ?_
  refine lv_iload_n hx hb d_R_cell_4 rfl (lv_at hl 0 rfl) ?_
  refine lv_iadd hx hb d_R_cell_5 ?_
  exact W.iret (v := ((y * nI 6) + x)) hx hb hr (fun t ht hW => ⟨_, rfl, rfl, ht⟩) (fun q h => by cases h) d_R_cell_6
set_option maxHeartbeats 4000000 in
set_option maxRecDepth 100000 in
theorem c_S_open (l : Launch) (D : va_G) (ad : Nat → Nat) (ca : Nat → ClassId) (P S : Nat → Nat → Nat) (a : Nat) (cS : ClassId) (ro : Nat → Nat) (hP0 : okP P) (hS0 : okS S) (hro : ∀ k, ro k ≤ 3) (p1 d : Nat) (hp : p1 < 6) (hd : d < 7) (sz : Nat) : Met l y_S_open w_S_open { frames := 1, cells := 0, slots := 0, locals := 21 } (rw_P [.ref (ad 2), .ref a, .int (nI p1), .int (nI d)] D (wSP ad ca P S a cS ro) (tSP ca cS) sz) (rw_Qv (fun u : Unit => True) D (wSP ad ca P S a cS ro) (fun u => wSP ad ca P (openS S ro p1 d) a cS ro) sz) 0 0 (va_A (wSP ad ca P S a cS ro) sz) := by
  refine Met.ofW (cc := b_S_open) (maxL := 6) (ret := none) (by decide) rfl ?_
  intro p e s m args below meth c s₁ B hml hv
  obtain ⟨rfl, hsz, hN, hP, hK, hD0⟩ := hv
  have hx := B.exec
  have hb := B.bytes
  have hr := B.returns
  have hts := atoms_spec (ws := w_S_open) B.pre
  have htb : ∀ w ∈ TBG, w.before [.ref (ad 2), .ref a, .int (nI p1), .int (nI d)].toArray s = true := fun w h => hts w (List.mem_cons_of_mem _ h)
  have hown : s.vm.findClass R_S = some m.cls := findClass_of_methodNamed B.named
  have hlocks := B.notSynchronized
  subst hsz
  have hD := hD0.self (sz := s.heap.size)
  unfold rw_Qv
  generalize hAe : va_A (wSP ad ca P S a cS ro) s.heap.size = A at hD ⊢
  have hA : ∀ q : Nat, s.heap.size ≤ q → A q := fun q h => by rw [← hAe]; exact Or.inr h
  have hS : va_S A s.heap s.heap [] := va_S.rf
  have hl := lv_entry ([.ref (ad 2), .ref a, .int (nI p1), .int (nI d)]) (n := 6) (Nat.le_of_ble_eq_true rfl)
  rw [lg_entry_eq]
  generalize (lg_sl ([.ref (ad 2), .ref a, .int (nI p1), .int (nI d)]) ++ List.replicate (6 - (lg_sl ([.ref (ad 2), .ref a, .int (nI p1), .int (nI d)])).length) Slot.unset).toArray = ls at hl ⊢
  have hl : lv_has ls 6 [(0, .ref (ad 2)), (1, .ref a), (2, .int (nI p1)), (3, .int (nI d))] := hl
  refine nr_start hP hS (fun H locs hP hS => ?_)
  obtain ⟨h00, h01, h02, h03, h04, h05, hp1, hp2, hp3, hp4, hp5, hp6⟩ := id hP0
  obtain ⟨g00, g01, g02, g03, g04, g05, g06, hs1, hs2, hs3, hs4, hs5, hs6, hs7⟩ := id hS0
  refine lv_iload_n hx hb d_S_open_0 rfl (lv_at hl 2 rfl) ?_
  refine lv_iload_n hx hb d_S_open_1 rfl (lv_at hl 3 rfl) ?_
  refine nr_calli (va_runSN (As := [.int (nI p1), .int (nI d)]) (rest := []) ⟨hx, hb, hml, hown, hts⟩ (c_R_cell l D p1 d) ⟨va_cnB 2 hts (gTB q_R_cell) rfl rfl rfl (hN.nw q489 rfl) (htb _ q1) hd_R_cell ⟨Nat.le_of_ble_eq_true rfl, Nat.le_of_ble_eq_true rfl⟩, (htb _ q174), trivial⟩ ⟨ro_blind, ro_pre hN (hP.sub (ws' := []) [] rfl) (hK.sub (tys' := []) [] rfl)⟩ rfl rfl hl.1 rfl (lv_room (Nat.le_of_ble_eq_true rfl)) d_S_open_2 ⟨Nat.le_of_ble_eq_true rfl, Nat.le_of_ble_eq_true rfl⟩) (fun r_1 hr_1 => ?_)
  subst hr_1
  refine lv_istore (lv' := [(4, .int (nI (d * 6 + p1))), (0, .ref (ad 2)), (1, .ref a), (2, .int (nI p1)), (3, .int (nI d))]) hx hb d_S_open_5 hl (by decide) rfl (fun ls hl => ?_)
  refine lv_iload_n hx hb d_S_open_7 rfl (lv_at hl 4 rfl) ?_
  refine lv_aload_n hx hb d_S_open_8 rfl (lv_at hl 1 rfl) ?_
  refine va_get (D := D) (ci := 1) (v := .int (nI (S 0 1))) (C := R_S) (T := F_S) (N := 15) hx hb htb u_S hown hK hP 7 rfl rfl 9 (by decide) (htb _ q93) (fun _ h9 => h9) rfl d_S_open_9 ?_
  refine nr_icmp_ge (tgt := 19) hx hb (by omega) (by omega) d_S_open_12 (by decide) (fun c_12 => ?_) (fun c_12 => ?_)
  · refine nr_iconst hx hb 0 d_S_open_19 (by decide) ?_
    refine lv_istore (lv' := [(5, .int (nI 0)), (4, .int (nI (d * 6 + p1))), (0, .ref (ad 2)), (1, .ref a), (2, .int (nI p1)), (3, .int (nI d))]) hx hb d_S_open_20 hl (by decide) rfl (fun ls hl => ?_)
    refine lv_aload_n hx hb d_S_open_22 rfl (lv_at hl 2 rfl) ?_
    refine va_get (D := D) (ci := 1) (v := .ref (ad 11)) (C := R_S) (T := F_S) (N := 15) hx hb htb u_S hown hK hP 7 rfl rfl 3 (by decide) (htb _ q87) (fun _ h9 => h9) rfl d_S_open_23 ?_
    refine lv_iload hx hb d_S_open_26 (lv_at hl 1 rfl) ?_
    refine lv_iload hx hb d_S_open_28 (lv_at hl 0 rfl) ?_
    refine nr_if_eq (tgt := 40) hx hb (by omega) d_S_open_30 (by decide) (fun c_30 => ?_) (fun c_30 => by exfalso; omega)
    refine nr_iconst hx hb 0 d_S_open_40 (by decide) ?_
    refine nr_iast hx hb hK hP hD hS 10 8 rfl rfl (by omega) (by decide) d_S_open_41 (fun H locs hP hD hS => ?_)
    have hP : va_P D cls (wSP ad ca P (up2 S 3 (d * 6 + p1) 0) a cS ro) H := hP
    have hD : va_D A (wSP ad ca P (up2 S 3 (d * 6 + p1) 0) a cS ro) := hD
    refine lv_aload_n hx hb d_S_open_42 rfl (lv_at hl 2 rfl) ?_
    refine va_get (D := D) (ci := 1) (v := .ref (ad 12)) (C := R_S) (T := F_S) (N := 15) hx hb htb u_S hown hK hP 7 rfl rfl 4 (by decide) (htb _ q88) (fun _ h9 => h9) rfl d_S_open_43 ?_
    refine lv_iload hx hb d_S_open_46 (lv_at hl 1 rfl) ?_
    refine lv_iload hx hb d_S_open_48 (lv_at hl 0 rfl) ?_
    refine nr_if_eq (tgt := 60) hx hb (by omega) d_S_open_50 (by decide) (fun c_50 => ?_) (fun c_50 => by exfalso; omega)
    refine nr_iconst hx hb 3 d_S_open_60 (by decide) ?_
    refine nr_iast hx hb hK hP hD hS 11 9 rfl rfl (by omega) (by decide) d_S_open_61 (fun H locs hP hD hS => ?_)
    have hP : va_P D cls (wSP ad ca P (up2 (up2 S 3 (d * 6 + p1) 0) 4 (d * 6 + p1) 3) a cS ro) H := hP
    have hD : va_D A (wSP ad ca P (up2 (up2 S 3 (d * 6 + p1) 0) 4 (d * 6 + p1) 3) a cS ro) := hD
    have hfin : openS S ro p1 d = up2 (up2 S 3 (d * 6 + p1) 0) 4 (d * 6 + p1) 3 := by unfold openS; rw [if_neg (by omega)]
    rw [← hfin] at hP hD
    exact W.vret hx hb hr (fun t ht hW => ⟨⟨(), rfl, trivial, by rw [ht]; exact hP, hD⟩, hS.F ht⟩) hS.2.2 d_S_open_62
  · refine nr_iconst hx hb 1 d_S_open_15 (by decide) ?_
    refine lv_goto (tgt := 20) hx hb d_S_open_16 (by decide) ?_
    refine lv_istore (lv' := [(5, .int (nI 1)), (4, .int (nI (d * 6 + p1))), (0, .ref (ad 2)), (1, .ref a), (2, .int (nI p1)), (3, .int (nI d))]) hx hb d_S_open_20 hl (by decide) rfl (fun ls hl => ?_)
    refine lv_aload_n hx hb d_S_open_22 rfl (lv_at hl 2 rfl) ?_
    refine va_get (D := D) (ci := 1) (v := .ref (ad 11)) (C := R_S) (T := F_S) (N := 15) hx hb htb u_S hown hK hP 7 rfl rfl 3 (by decide) (htb _ q87) (fun _ h9 => h9) rfl d_S_open_23 ?_
    refine lv_iload hx hb d_S_open_26 (lv_at hl 1 rfl) ?_
    refine lv_iload hx hb d_S_open_28 (lv_at hl 0 rfl) ?_
    refine nr_if_eq (tgt := 40) hx hb (by omega) d_S_open_30 (by decide) (fun c_30 => by exfalso; omega) (fun c_30 => ?_)
    refine lv_aload_n hx hb d_S_open_33 rfl (lv_at hl 3 rfl) ?_
    refine lv_iload hx hb d_S_open_34 (lv_at hl 1 rfl) ?_
    refine nr_iald hx hb hK hP 15 13 rfl rfl (by omega) (by decide) d_S_open_36 ?_
    have hv_2 := hro (d * 6 + p1)
    refine lv_goto (tgt := 41) hx hb d_S_open_37 (by decide) ?_
    refine nr_iast hx hb hK hP hD hS 10 8 rfl rfl (by omega) (by decide) d_S_open_41 (fun H locs hP hD hS => ?_)
    have hP : va_P D cls (wSP ad ca P (up2 S 3 (d * 6 + p1) (ro (d * 6 + p1))) a cS ro) H := hP
    have hD : va_D A (wSP ad ca P (up2 S 3 (d * 6 + p1) (ro (d * 6 + p1))) a cS ro) := hD
    refine lv_aload_n hx hb d_S_open_42 rfl (lv_at hl 2 rfl) ?_
    refine va_get (D := D) (ci := 1) (v := .ref (ad 12)) (C := R_S) (T := F_S) (N := 15) hx hb htb u_S hown hK hP 7 rfl rfl 4 (by decide) (htb _ q88) (fun _ h9 => h9) rfl d_S_open_43 ?_
    refine lv_iload hx hb d_S_open_46 (lv_at hl 1 rfl) ?_
    refine lv_iload hx hb d_S_open_48 (lv_at hl 0 rfl) ?_
    refine nr_if_eq (tgt := 60) hx hb (by omega) d_S_open_50 (by decide) (fun c_50 => by exfalso; omega) (fun c_50 => ?_)
    refine lv_aload_n hx hb d_S_open_53 rfl (lv_at hl 3 rfl) ?_
    refine lv_iload hx hb d_S_open_54 (lv_at hl 1 rfl) ?_
    refine nr_iald hx hb hK hP 15 13 rfl rfl (by omega) (by decide) d_S_open_56 ?_
    have hv_3 := hro (d * 6 + p1)
    refine lv_goto (tgt := 61) hx hb d_S_open_57 (by decide) ?_
    refine nr_iast hx hb hK hP hD hS 11 9 rfl rfl (by omega) (by decide) d_S_open_61 (fun H locs hP hD hS => ?_)
    have hP : va_P D cls (wSP ad ca P (up2 (up2 S 3 (d * 6 + p1) (ro (d * 6 + p1))) 4 (d * 6 + p1) (ro (d * 6 + p1))) a cS ro) H := hP
    have hD : va_D A (wSP ad ca P (up2 (up2 S 3 (d * 6 + p1) (ro (d * 6 + p1))) 4 (d * 6 + p1) (ro (d * 6 + p1))) a cS ro) := hD
    have hfin : openS S ro p1 d = up2 (up2 S 3 (d * 6 + p1) (ro (d * 6 + p1))) 4 (d * 6 + p1) (ro (d * 6 + p1)) := by unfold openS; rw [if_pos c_12]
    rw [← hfin] at hP hD
    exact W.vret hx hb hr (fun t ht hW => ⟨⟨(), rfl, trivial, by rw [ht]; exact hP, hD⟩, hS.F ht⟩) hS.2.2 d_S_open_62
set_option maxHeartbeats 4000000 in
set_option maxRecDepth 100000 in
theorem c_S_keepsRules (l : Launch) (D : va_G) (ad : Nat → Nat) (ca : Nat → ClassId) (P S : Nat → Nat → Nat) (a : Nat) (cS : ClassId) (ro : Nat → Nat) (hP0 : okP P) (hS0 : okS S) (hro : ∀ k, ro k ≤ 3) (p1 d sf : Nat) (hp : p1 < 6) (hd : d < 7) (hsf : sf ≤ 3) (sz : Nat) : Met l y_S_keepsRules w_S_keepsRules { frames := 2, cells := 0, slots := 0, locals := 43 } (rw_P [.ref (ad 2), .int (nI p1), .int (nI d), .int (nI sf)] D (wSP ad ca P S a cS ro) (tSP ca cS) sz) (rw_Qi (fun (r : Int32) (u : Unit) => r = nI (if krB P S p1 d sf = true then 1 else 0)) D (wSP ad ca P S a cS ro) (fun u => wSP ad ca P (krS S p1 d sf) a cS ro) sz) 0 0 (va_A (wSP ad ca P S a cS ro) sz) := by
  refine Met.ofW (cc := b_S_keepsRules) (maxL := 9) (ret := (some .boolean)) (by decide) rfl ?_
  intro p e s m args below meth c s₁ B hml hv
  obtain ⟨rfl, hsz, hN, hP, hK, hD0⟩ := hv
  have hx := B.exec
  have hb := B.bytes
  have hr := B.returns
  have hts := atoms_spec (ws := w_S_keepsRules) B.pre
  have htb : ∀ w ∈ TBG, w.before [.ref (ad 2), .int (nI p1), .int (nI d), .int (nI sf)].toArray s = true := fun w h => hts w (List.mem_cons_of_mem _ h)
  have hown : s.vm.findClass R_S = some m.cls := findClass_of_methodNamed B.named
  have hlocks := B.notSynchronized
  subst hsz
  have hD := hD0.self (sz := s.heap.size)
  unfold rw_Qi
  generalize hAe : va_A (wSP ad ca P S a cS ro) s.heap.size = A at hD ⊢
  have hA : ∀ q : Nat, s.heap.size ≤ q → A q := fun q h => by rw [← hAe]; exact Or.inr h
  have hS : va_S A s.heap s.heap [] := va_S.rf
  have hl := lv_entry ([.ref (ad 2), .int (nI p1), .int (nI d), .int (nI sf)]) (n := 9) (Nat.le_of_ble_eq_true rfl)
  rw [lg_entry_eq]
  generalize (lg_sl ([.ref (ad 2), .int (nI p1), .int (nI d), .int (nI sf)]) ++ List.replicate (9 - (lg_sl ([.ref (ad 2), .int (nI p1), .int (nI d), .int (nI sf)])).length) Slot.unset).toArray = ls at hl ⊢
  have hl : lv_has ls 9 [(0, .ref (ad 2)), (1, .int (nI p1)), (2, .int (nI d)), (3, .int (nI sf))] := hl
  refine nr_start hP hS (fun H locs hP hS => ?_)
  obtain ⟨h00, h01, h02, h03, h04, h05, hp1, hp2, hp3, hp4, hp5, hp6⟩ := id hP0
  obtain ⟨g00, g01, g02, g03, g04, g05, g06, hs1, hs2, hs3, hs4, hs5, hs6, hs7⟩ := id hS0
  rcases Nat.eq_zero_or_pos d with hd0 | hd0
  · have hh5 : hadB S 5 p1 d = 0 := by unfold hadB; rw [if_pos hd0]
    have hh6 : hadB S 6 p1 d = 0 := by unfold hadB; rw [if_pos hd0]
    have hh2 : hadB S 2 p1 d = 0 := by unfold hadB; rw [if_pos hd0]
    refine lv_iload_n hx hb d_S_keepsRules_0 rfl (lv_at hl 1 rfl) ?_
    refine lv_iload_n hx hb d_S_keepsRules_1 rfl (lv_at hl 2 rfl) ?_
    refine nr_calli (va_runSN (As := [.int (nI p1), .int (nI d)]) (rest := []) ⟨hx, hb, hml, hown, hts⟩ (c_R_cell l D p1 d) ⟨va_cnB 2 hts (gTB q_R_cell) rfl rfl rfl (hN.nw q489 rfl) (htb _ q1) hd_R_cell ⟨Nat.le_of_ble_eq_true rfl, Nat.le_of_ble_eq_true rfl⟩, (htb _ q174), trivial⟩ ⟨ro_blind, ro_pre hN (hP.sub (ws' := []) [] rfl) (hK.sub (tys' := []) [] rfl)⟩ rfl rfl hl.1 rfl (lv_room (Nat.le_of_ble_eq_true rfl)) d_S_keepsRules_2 ⟨Nat.le_of_ble_eq_true rfl, Nat.le_of_ble_eq_true rfl⟩) (fun r_1 hr_1 => ?_)
    subst hr_1
    refine lv_istore (lv' := [(4, .int (nI (d * 6 + p1))), (0, .ref (ad 2)), (1, .int (nI p1)), (2, .int (nI d)), (3, .int (nI sf))]) hx hb d_S_keepsRules_5 hl (by decide) rfl (fun ls hl => ?_)
    refine lv_iload_n hx hb d_S_keepsRules_7 rfl (lv_at hl 2 rfl) ?_
    refine lv_iload_n hx hb d_S_keepsRules_8 rfl (lv_at hl 3 rfl) ?_
    refine nr_iconst hx hb 1 d_S_keepsRules_9 (by decide) ?_
    refine lv_isub hx hb d_S_keepsRules_10 ?_
    refine nr_calli (va_runSN (As := [.int (nI p1), .int (nI d - nI 1)]) (rest := []) ⟨hx, hb, hml, hown, hts⟩ (c_R_cell_raw l D (nI p1) (nI d - nI 1)) ⟨va_cnB 2 hts (gTB q_R_cell) rfl rfl rfl (hN.nw q489 rfl) (htb _ q1) hd_R_cell ⟨Nat.le_of_ble_eq_true rfl, Nat.le_of_ble_eq_true rfl⟩, (htb _ q174), trivial⟩ ⟨ro_blind, ro_pre hN (hP.sub (ws' := []) [] rfl) (hK.sub (tys' := []) [] rfl)⟩ rfl rfl hl.1 rfl (lv_room (Nat.le_of_ble_eq_true rfl)) d_S_keepsRules_11 ⟨Nat.le_of_ble_eq_true rfl, Nat.le_of_ble_eq_true rfl⟩) (fun r_2 hr_2 => ?_)
    subst hr_2
    refine lv_istore (lv' := [(5, .int ((nI d - nI 1) * nI 6 + (nI p1))), (4, .int (nI (d * 6 + p1))), (0, .ref (ad 2)), (1, .int (nI p1)), (2, .int (nI d)), (3, .int (nI sf))]) hx hb d_S_keepsRules_14 hl (by decide) rfl (fun ls hl => ?_)
    refine lv_iload_n hx hb d_S_keepsRules_16 rfl (lv_at hl 4 rfl) ?_
    refine nr_if_ne (tgt := 24) hx hb (by omega) d_S_keepsRules_17 (by decide) (fun c_17 => by exfalso; omega) (fun c_17 => ?_)
    refine nr_iconst hx hb 0 d_S_keepsRules_20 (by decide) ?_
    refine lv_goto (tgt := 31) hx hb d_S_keepsRules_21 (by decide) ?_
    refine lv_istore (lv' := [(6, .int (nI 0)), (5, .int ((nI d - nI 1) * nI 6 + (nI p1))), (4, .int (nI (d * 6 + p1))), (0, .ref (ad 2)), (1, .int (nI p1)), (2, .int (nI d)), (3, .int (nI sf))]) hx hb d_S_keepsRules_31 hl (by decide) rfl (fun ls hl => ?_)
    refine lv_iload_n hx hb d_S_keepsRules_33 rfl (lv_at hl 5 rfl) ?_
    refine nr_if_ne (tgt := 41) hx hb (by omega) d_S_keepsRules_34 (by decide) (fun c_34 => by exfalso; omega) (fun c_34 => ?_)
    refine nr_iconst hx hb 0 d_S_keepsRules_37 (by decide) ?_
    refine lv_goto (tgt := 48) hx hb d_S_keepsRules_38 (by decide) ?_
    refine lv_istore (lv' := [(7, .int (nI 0)), (6, .int (nI 0)), (5, .int ((nI d - nI 1) * nI 6 + (nI p1))), (4, .int (nI (d * 6 + p1))), (0, .ref (ad 2)), (1, .int (nI p1)), (2, .int (nI d)), (3, .int (nI sf))]) hx hb d_S_keepsRules_48 hl (by decide) rfl (fun ls hl => ?_)
    refine lv_iload_n hx hb d_S_keepsRules_50 rfl (lv_at hl 6 rfl) ?_
    refine nr_if_ne (tgt := 58) hx hb (by omega) d_S_keepsRules_51 (by decide) (fun c_51 => by exfalso; omega) (fun c_51 => ?_)
    refine nr_iconst hx hb 0 d_S_keepsRules_54 (by decide) ?_
    refine lv_goto (tgt := 65) hx hb d_S_keepsRules_55 (by decide) ?_
    refine lv_istore (lv' := [(8, .int (nI 0)), (7, .int (nI 0)), (6, .int (nI 0)), (5, .int ((nI d - nI 1) * nI 6 + (nI p1))), (4, .int (nI (d * 6 + p1))), (0, .ref (ad 2)), (1, .int (nI p1)), (2, .int (nI d)), (3, .int (nI sf))]) hx hb d_S_keepsRules_65 hl (by decide) rfl (fun ls hl => ?_)
    refine lv_aload_n hx hb d_S_keepsRules_67 rfl (lv_at hl 5 rfl) ?_
    refine va_get (D := D) (ci := 1) (v := .ref (ad 13)) (C := R_S) (T := F_S) (N := 15) hx hb htb u_S hown hK hP 7 rfl rfl 5 (by decide) (htb _ q89) (fun _ h9 => h9) rfl d_S_keepsRules_68 ?_
    refine lv_iload hx hb d_S_keepsRules_71 (lv_at hl 4 rfl) ?_
    refine lv_iload_n hx hb d_S_keepsRules_73 rfl (lv_at hl 8 rfl) ?_
    refine nr_if_ne (tgt := 82) hx hb (by omega) d_S_keepsRules_74 (by decide) (fun c_74 => ?_) (fun c_74 => ?_)
    · refine lv_iload hx hb d_S_keepsRules_82 (lv_at hl 2 rfl) ?_
      refine nr_iconst hx hb 1 d_S_keepsRules_84 (by decide) ?_
      refine nr_iadd hx hb d_S_keepsRules_85 ?_
      refine nr_iast hx hb hK hP hD hS 12 10 rfl rfl (by omega) (by decide) d_S_keepsRules_86 (fun H locs hP hD hS => ?_)
      have hP : va_P D cls (wSP ad ca P (up2 S 5 (d * 6 + p1) (0 + 1)) a cS ro) H := hP
      have hD : va_D A (wSP ad ca P (up2 S 5 (d * 6 + p1) (0 + 1)) a cS ro) := hD
      refine lv_aload_n hx hb d_S_keepsRules_87 rfl (lv_at hl 5 rfl) ?_
      refine va_get (D := D) (ci := 1) (v := .ref (ad 14)) (C := R_S) (T := F_S) (N := 15) hx hb htb u_S hown hK hP 7 rfl rfl 6 (by decide) (htb _ q90) (fun _ h9 => h9) rfl d_S_keepsRules_88 ?_
      refine lv_iload hx hb d_S_keepsRules_91 (lv_at hl 4 rfl) ?_
      refine lv_iload_n hx hb d_S_keepsRules_93 rfl (lv_at hl 8 rfl) ?_
      refine nr_iconst hx hb 3 d_S_keepsRules_94 (by decide) ?_
      refine nr_icmp_ne (tgt := 105) hx hb (by omega) (by omega) d_S_keepsRules_95 (by decide) (fun c_95 => ?_) (fun c_95 => ?_)
      · refine nr_iconst hx hb 0 d_S_keepsRules_105 (by decide) ?_
        refine nr_iast hx hb hK hP hD hS 13 11 rfl rfl (by omega) (by decide) d_S_keepsRules_106 (fun H locs hP hD hS => ?_)
        have hP : va_P D cls (wSP ad ca P (up2 (up2 S 5 (d * 6 + p1) (0 + 1)) 6 (d * 6 + p1) 0) a cS ro) H := hP
        have hD : va_D A (wSP ad ca P (up2 (up2 S 5 (d * 6 + p1) (0 + 1)) 6 (d * 6 + p1) 0) a cS ro) := hD
        refine lv_aload_n hx hb d_S_keepsRules_107 rfl (lv_at hl 5 rfl) ?_
        refine va_get (D := D) (ci := 1) (v := .ref (ad 13)) (C := R_S) (T := F_S) (N := 15) hx hb htb u_S hown hK hP 7 rfl rfl 5 (by decide) (htb _ q89) (fun _ h9 => h9) rfl d_S_keepsRules_108 ?_
        refine lv_iload hx hb d_S_keepsRules_111 (lv_at hl 4 rfl) ?_
        refine nr_iald hx hb hK hP 12 10 rfl rfl (by omega) (by decide) d_S_keepsRules_113 ?_
        refine nr_top (y := nI (0 + 1)) (by simp [up2, upr]) ?_
        have hv_3 := hs5 (d * 6 + p1)
        refine lv_aload_n hx hb d_S_keepsRules_114 rfl (lv_at hl 5 rfl) ?_
        refine va_get (D := D) (ci := 1) (v := .ref (ad 1)) (C := R_S) (T := F_S) (N := 15) hx hb htb u_S hown hK hP 7 rfl rfl 0 (by decide) (htb _ q83) (fun _ h9 => h9) rfl d_S_keepsRules_115 ?_
        refine va_getN (D := D) (ci := 0) (v := .int (nI (P 0 3))) (C := R_P) (T := F_P) (N := 12) hx hb htb u_P hown hK hP 0 rfl rfl 3 (by decide) (hN.at q36 rfl rfl) (fun _ h9 => h9) rfl d_S_keepsRules_118 ?_
        refine nr_icmp_gt (tgt := 158) hx hb (by omega) (by omega) d_S_keepsRules_121 (by decide) (fun c_121 => ?_) (fun c_121 => ?_)
        · refine nr_iconst hx hb 0 d_S_keepsRules_158 (by decide) ?_
          have hfin : krS S p1 d sf = up2 (up2 S 5 (d * 6 + p1) (0 + 1)) 6 (d * 6 + p1) 0 := by unfold krS; rw [hh5, hh6, if_neg c_74, if_neg c_95]
          rw [← hfin] at hP hD
          exact W.zret (v := (nI 0)) hx hb hr rfl (fun t ht hW => ⟨⟨_, (), rfl, by rw [krB, hh5, hh6, hh2, if_neg c_74, if_neg c_95, decide_eq_false (fun h => absurd h.1 (by omega))]; rfl, by rw [ht]; exact hP, hD⟩, hS.F ht⟩) hS.2.2 d_S_keepsRules_159
        · refine lv_aload_n hx hb d_S_keepsRules_124 rfl (lv_at hl 5 rfl) ?_
          refine va_get (D := D) (ci := 1) (v := .ref (ad 14)) (C := R_S) (T := F_S) (N := 15) hx hb htb u_S hown hK hP 7 rfl rfl 6 (by decide) (htb _ q90) (fun _ h9 => h9) rfl d_S_keepsRules_125 ?_
          refine lv_iload hx hb d_S_keepsRules_128 (lv_at hl 4 rfl) ?_
          refine nr_iald hx hb hK hP 13 11 rfl rfl (by omega) (by decide) d_S_keepsRules_130 ?_
          refine nr_top (y := nI 0) (by simp [up2, upr]) ?_
          have hv_4 := hs6 (d * 6 + p1)
          refine lv_aload_n hx hb d_S_keepsRules_131 rfl (lv_at hl 5 rfl) ?_
          refine va_get (D := D) (ci := 1) (v := .ref (ad 1)) (C := R_S) (T := F_S) (N := 15) hx hb htb u_S hown hK hP 7 rfl rfl 0 (by decide) (htb _ q83) (fun _ h9 => h9) rfl d_S_keepsRules_132 ?_
          refine va_getN (D := D) (ci := 0) (v := .int (nI (P 0 4))) (C := R_P) (T := F_P) (N := 12) hx hb htb u_P hown hK hP 0 rfl rfl 4 (by decide) (hN.at q38 rfl rfl) (fun _ h9 => h9) rfl d_S_keepsRules_135 ?_
          refine nr_icmp_gt (tgt := 158) hx hb (by omega) (by omega) d_S_keepsRules_138 (by decide) (fun c_138 => ?_) (fun c_138 => ?_)
          · refine nr_iconst hx hb 0 d_S_keepsRules_158 (by decide) ?_
            have hfin : krS S p1 d sf = up2 (up2 S 5 (d * 6 + p1) (0 + 1)) 6 (d * 6 + p1) 0 := by unfold krS; rw [hh5, hh6, if_neg c_74, if_neg c_95]
            rw [← hfin] at hP hD
            exact W.zret (v := (nI 0)) hx hb hr rfl (fun t ht hW => ⟨⟨_, (), rfl, by rw [krB, hh5, hh6, hh2, if_neg c_74, if_neg c_95, decide_eq_false (fun h => absurd h.2.1 (by omega))]; rfl, by rw [ht]; exact hP, hD⟩, hS.F ht⟩) hS.2.2 d_S_keepsRules_159
          · refine lv_aload_n hx hb d_S_keepsRules_141 rfl (lv_at hl 5 rfl) ?_
            refine va_get (D := D) (ci := 1) (v := .ref (ad 1)) (C := R_S) (T := F_S) (N := 15) hx hb htb u_S hown hK hP 7 rfl rfl 0 (by decide) (htb _ q83) (fun _ h9 => h9) rfl d_S_keepsRules_142 ?_
            refine lv_iload hx hb d_S_keepsRules_145 (lv_at hl 0 rfl) ?_
            refine lv_iload_n hx hb d_S_keepsRules_147 rfl (lv_at hl 8 rfl) ?_
            refine nr_calli (va_runVN (As := [.int (nI 0), .int (nI sf)]) (rest := []) ⟨hx, hb, hml, hown, hts⟩ (c_P_breaksRest l D ad ca P a cS ro hP0 hro 0 sf (by omega) (by omega)) ⟨va_cnB 2 hts (gTB q_P_breaksRest) rfl rfl rfl (hN.nw q499 rfl) (htb _ q2) hd_P_breaksRest ⟨Nat.le_of_ble_eq_true rfl, Nat.le_of_ble_eq_true rfl⟩, (htb _ q188), (htb _ sel_P_breaksRest)⟩ ⟨ro_blind, va_recv (hK.sub (tys' := []) [] rfl) hP (ci := 0) (q0 := 0) rfl rfl, ro_pre hN (hP.sub (ws' := (wPS ad ca P a cS ro)) [0, 1, 2, 3, 4, 5, 6, 15] rfl) (hK.sub (tys' := (tPS ca cS)) [0, 1, 2, 3, 4, 5, 13] rfl)⟩ rfl rfl hl.1 rfl (lv_room (Nat.le_of_ble_eq_true rfl)) d_S_keepsRules_148 ⟨Nat.le_of_ble_eq_true rfl, Nat.le_of_ble_eq_true rfl⟩) (fun r_5 hr_5 => ?_)
            subst hr_5
            refine nr_if_ne (tgt := 158) hx hb b01_lt d_S_keepsRules_151 (by decide) (fun c_151 => ?_) (fun c_151 => ?_)
            · refine nr_iconst hx hb 0 d_S_keepsRules_158 (by decide) ?_
              have hfin : krS S p1 d sf = up2 (up2 S 5 (d * 6 + p1) (0 + 1)) 6 (d * 6 + p1) 0 := by unfold krS; rw [hh5, hh6, if_neg c_74, if_neg c_95]
              rw [← hfin] at hP hD
              exact W.zret (v := (nI 0)) hx hb hr rfl (fun t ht hW => ⟨⟨_, (), rfl, by rw [krB, hh5, hh6, hh2, if_neg c_74, if_neg c_95, decide_eq_false (fun h => absurd h.2.2 (by rw [b01_nz c_151]; decide))]; rfl, by rw [ht]; exact hP, hD⟩, hS.F ht⟩) hS.2.2 d_S_keepsRules_159
            · refine nr_iconst hx hb 1 d_S_keepsRules_154 (by decide) ?_
              refine lv_goto (tgt := 159) hx hb d_S_keepsRules_155 (by decide) ?_
              have hfin : krS S p1 d sf = up2 (up2 S 5 (d * 6 + p1) (0 + 1)) 6 (d * 6 + p1) 0 := by unfold krS; rw [hh5, hh6, if_neg c_74, if_neg c_95]
              rw [← hfin] at hP hD
              exact W.zret (v := (nI 1)) hx hb hr rfl (fun t ht hW => ⟨⟨_, (), rfl, by rw [krB, hh5, hh6, hh2, if_neg c_74, if_neg c_95, decide_eq_true (⟨c_121, c_138, b01_f c_151⟩)]; rfl, by rw [ht]; exact hP, hD⟩, hS.F ht⟩) hS.2.2 d_S_keepsRules_159
      · refine lv_iload hx hb d_S_keepsRules_98 (lv_at hl 1 rfl) ?_
        refine nr_iconst hx hb 1 d_S_keepsRules_100 (by decide) ?_
        refine nr_iadd hx hb d_S_keepsRules_101 ?_
        refine lv_goto (tgt := 106) hx hb d_S_keepsRules_102 (by decide) ?_
        refine nr_iast hx hb hK hP hD hS 13 11 rfl rfl (by omega) (by decide) d_S_keepsRules_106 (fun H locs hP hD hS => ?_)
        have hP : va_P D cls (wSP ad ca P (up2 (up2 S 5 (d * 6 + p1) (0 + 1)) 6 (d * 6 + p1) (0 + 1)) a cS ro) H := hP
        have hD : va_D A (wSP ad ca P (up2 (up2 S 5 (d * 6 + p1) (0 + 1)) 6 (d * 6 + p1) (0 + 1)) a cS ro) := hD
        refine lv_aload_n hx hb d_S_keepsRules_107 rfl (lv_at hl 5 rfl) ?_
        refine va_get (D := D) (ci := 1) (v := .ref (ad 13)) (C := R_S) (T := F_S) (N := 15) hx hb htb u_S hown hK hP 7 rfl rfl 5 (by decide) (htb _ q89) (fun _ h9 => h9) rfl d_S_keepsRules_108 ?_
        refine lv_iload hx hb d_S_keepsRules_111 (lv_at hl 4 rfl) ?_
        refine nr_iald hx hb hK hP 12 10 rfl rfl (by omega) (by decide) d_S_keepsRules_113 ?_
        refine nr_top (y := nI (0 + 1)) (by simp [up2, upr]) ?_
        have hv_6 := hs5 (d * 6 + p1)
        refine lv_aload_n hx hb d_S_keepsRules_114 rfl (lv_at hl 5 rfl) ?_
        refine va_get (D := D) (ci := 1) (v := .ref (ad 1)) (C := R_S) (T := F_S) (N := 15) hx hb htb u_S hown hK hP 7 rfl rfl 0 (by decide) (htb _ q83) (fun _ h9 => h9) rfl d_S_keepsRules_115 ?_
        refine va_getN (D := D) (ci := 0) (v := .int (nI (P 0 3))) (C := R_P) (T := F_P) (N := 12) hx hb htb u_P hown hK hP 0 rfl rfl 3 (by decide) (hN.at q36 rfl rfl) (fun _ h9 => h9) rfl d_S_keepsRules_118 ?_
        refine nr_icmp_gt (tgt := 158) hx hb (by omega) (by omega) d_S_keepsRules_121 (by decide) (fun c_121 => ?_) (fun c_121 => ?_)
        · refine nr_iconst hx hb 0 d_S_keepsRules_158 (by decide) ?_
          have hfin : krS S p1 d sf = up2 (up2 S 5 (d * 6 + p1) (0 + 1)) 6 (d * 6 + p1) (0 + 1) := by unfold krS; rw [hh5, hh6, if_neg c_74, if_pos c_95]
          rw [← hfin] at hP hD
          exact W.zret (v := (nI 0)) hx hb hr rfl (fun t ht hW => ⟨⟨_, (), rfl, by rw [krB, hh5, hh6, hh2, if_neg c_74, if_pos c_95, decide_eq_false (fun h => absurd h.1 (by omega))]; rfl, by rw [ht]; exact hP, hD⟩, hS.F ht⟩) hS.2.2 d_S_keepsRules_159
        · refine lv_aload_n hx hb d_S_keepsRules_124 rfl (lv_at hl 5 rfl) ?_
          refine va_get (D := D) (ci := 1) (v := .ref (ad 14)) (C := R_S) (T := F_S) (N := 15) hx hb htb u_S hown hK hP 7 rfl rfl 6 (by decide) (htb _ q90) (fun _ h9 => h9) rfl d_S_keepsRules_125 ?_
          refine lv_iload hx hb d_S_keepsRules_128 (lv_at hl 4 rfl) ?_
          refine nr_iald hx hb hK hP 13 11 rfl rfl (by omega) (by decide) d_S_keepsRules_130 ?_
          refine nr_top (y := nI (0 + 1)) (by simp [up2, upr]) ?_
          have hv_7 := hs6 (d * 6 + p1)
          refine lv_aload_n hx hb d_S_keepsRules_131 rfl (lv_at hl 5 rfl) ?_
          refine va_get (D := D) (ci := 1) (v := .ref (ad 1)) (C := R_S) (T := F_S) (N := 15) hx hb htb u_S hown hK hP 7 rfl rfl 0 (by decide) (htb _ q83) (fun _ h9 => h9) rfl d_S_keepsRules_132 ?_
          refine va_getN (D := D) (ci := 0) (v := .int (nI (P 0 4))) (C := R_P) (T := F_P) (N := 12) hx hb htb u_P hown hK hP 0 rfl rfl 4 (by decide) (hN.at q38 rfl rfl) (fun _ h9 => h9) rfl d_S_keepsRules_135 ?_
          refine nr_icmp_gt (tgt := 158) hx hb (by omega) (by omega) d_S_keepsRules_138 (by decide) (fun c_138 => ?_) (fun c_138 => ?_)
          · refine nr_iconst hx hb 0 d_S_keepsRules_158 (by decide) ?_
            have hfin : krS S p1 d sf = up2 (up2 S 5 (d * 6 + p1) (0 + 1)) 6 (d * 6 + p1) (0 + 1) := by unfold krS; rw [hh5, hh6, if_neg c_74, if_pos c_95]
            rw [← hfin] at hP hD
            exact W.zret (v := (nI 0)) hx hb hr rfl (fun t ht hW => ⟨⟨_, (), rfl, by rw [krB, hh5, hh6, hh2, if_neg c_74, if_pos c_95, decide_eq_false (fun h => absurd h.2.1 (by omega))]; rfl, by rw [ht]; exact hP, hD⟩, hS.F ht⟩) hS.2.2 d_S_keepsRules_159
          · refine lv_aload_n hx hb d_S_keepsRules_141 rfl (lv_at hl 5 rfl) ?_
            refine va_get (D := D) (ci := 1) (v := .ref (ad 1)) (C := R_S) (T := F_S) (N := 15) hx hb htb u_S hown hK hP 7 rfl rfl 0 (by decide) (htb _ q83) (fun _ h9 => h9) rfl d_S_keepsRules_142 ?_
            refine lv_iload hx hb d_S_keepsRules_145 (lv_at hl 0 rfl) ?_
            refine lv_iload_n hx hb d_S_keepsRules_147 rfl (lv_at hl 8 rfl) ?_
            refine nr_calli (va_runVN (As := [.int (nI 0), .int (nI sf)]) (rest := []) ⟨hx, hb, hml, hown, hts⟩ (c_P_breaksRest l D ad ca P a cS ro hP0 hro 0 sf (by omega) (by omega)) ⟨va_cnB 2 hts (gTB q_P_breaksRest) rfl rfl rfl (hN.nw q499 rfl) (htb _ q2) hd_P_breaksRest ⟨Nat.le_of_ble_eq_true rfl, Nat.le_of_ble_eq_true rfl⟩, (htb _ q188), (htb _ sel_P_breaksRest)⟩ ⟨ro_blind, va_recv (hK.sub (tys' := []) [] rfl) hP (ci := 0) (q0 := 0) rfl rfl, ro_pre hN (hP.sub (ws' := (wPS ad ca P a cS ro)) [0, 1, 2, 3, 4, 5, 6, 15] rfl) (hK.sub (tys' := (tPS ca cS)) [0, 1, 2, 3, 4, 5, 13] rfl)⟩ rfl rfl hl.1 rfl (lv_room (Nat.le_of_ble_eq_true rfl)) d_S_keepsRules_148 ⟨Nat.le_of_ble_eq_true rfl, Nat.le_of_ble_eq_true rfl⟩) (fun r_8 hr_8 => ?_)
            subst hr_8
            refine nr_if_ne (tgt := 158) hx hb b01_lt d_S_keepsRules_151 (by decide) (fun c_151 => ?_) (fun c_151 => ?_)
            · refine nr_iconst hx hb 0 d_S_keepsRules_158 (by decide) ?_
              have hfin : krS S p1 d sf = up2 (up2 S 5 (d * 6 + p1) (0 + 1)) 6 (d * 6 + p1) (0 + 1) := by unfold krS; rw [hh5, hh6, if_neg c_74, if_pos c_95]
              rw [← hfin] at hP hD
              exact W.zret (v := (nI 0)) hx hb hr rfl (fun t ht hW => ⟨⟨_, (), rfl, by rw [krB, hh5, hh6, hh2, if_neg c_74, if_pos c_95, decide_eq_false (fun h => absurd h.2.2 (by rw [b01_nz c_151]; decide))]; rfl, by rw [ht]; exact hP, hD⟩, hS.F ht⟩) hS.2.2 d_S_keepsRules_159
            · refine nr_iconst hx hb 1 d_S_keepsRules_154 (by decide) ?_
              refine lv_goto (tgt := 159) hx hb d_S_keepsRules_155 (by decide) ?_
              have hfin : krS S p1 d sf = up2 (up2 S 5 (d * 6 + p1) (0 + 1)) 6 (d * 6 + p1) (0 + 1) := by unfold krS; rw [hh5, hh6, if_neg c_74, if_pos c_95]
              rw [← hfin] at hP hD
              exact W.zret (v := (nI 1)) hx hb hr rfl (fun t ht hW => ⟨⟨_, (), rfl, by rw [krB, hh5, hh6, hh2, if_neg c_74, if_pos c_95, decide_eq_true (⟨c_121, c_138, b01_f c_151⟩)]; rfl, by rw [ht]; exact hP, hD⟩, hS.F ht⟩) hS.2.2 d_S_keepsRules_159
    · refine lv_iload hx hb d_S_keepsRules_77 (lv_at hl 2 rfl) ?_
      refine lv_goto (tgt := 86) hx hb d_S_keepsRules_79 (by decide) ?_
      refine nr_iast hx hb hK hP hD hS 12 10 rfl rfl (by omega) (by decide) d_S_keepsRules_86 (fun H locs hP hD hS => ?_)
      have hP : va_P D cls (wSP ad ca P (up2 S 5 (d * 6 + p1) 0) a cS ro) H := hP
      have hD : va_D A (wSP ad ca P (up2 S 5 (d * 6 + p1) 0) a cS ro) := hD
      refine lv_aload_n hx hb d_S_keepsRules_87 rfl (lv_at hl 5 rfl) ?_
      refine va_get (D := D) (ci := 1) (v := .ref (ad 14)) (C := R_S) (T := F_S) (N := 15) hx hb htb u_S hown hK hP 7 rfl rfl 6 (by decide) (htb _ q90) (fun _ h9 => h9) rfl d_S_keepsRules_88 ?_
      refine lv_iload hx hb d_S_keepsRules_91 (lv_at hl 4 rfl) ?_
      refine lv_iload_n hx hb d_S_keepsRules_93 rfl (lv_at hl 8 rfl) ?_
      refine nr_iconst hx hb 3 d_S_keepsRules_94 (by decide) ?_
      refine nr_icmp_ne (tgt := 105) hx hb (by omega) (by omega) d_S_keepsRules_95 (by decide) (fun c_95 => ?_) (fun c_95 => ?_)
      · refine nr_iconst hx hb 0 d_S_keepsRules_105 (by decide) ?_
        refine nr_iast hx hb hK hP hD hS 13 11 rfl rfl (by omega) (by decide) d_S_keepsRules_106 (fun H locs hP hD hS => ?_)
        have hP : va_P D cls (wSP ad ca P (up2 (up2 S 5 (d * 6 + p1) 0) 6 (d * 6 + p1) 0) a cS ro) H := hP
        have hD : va_D A (wSP ad ca P (up2 (up2 S 5 (d * 6 + p1) 0) 6 (d * 6 + p1) 0) a cS ro) := hD
        refine lv_aload_n hx hb d_S_keepsRules_107 rfl (lv_at hl 5 rfl) ?_
        refine va_get (D := D) (ci := 1) (v := .ref (ad 13)) (C := R_S) (T := F_S) (N := 15) hx hb htb u_S hown hK hP 7 rfl rfl 5 (by decide) (htb _ q89) (fun _ h9 => h9) rfl d_S_keepsRules_108 ?_
        refine lv_iload hx hb d_S_keepsRules_111 (lv_at hl 4 rfl) ?_
        refine nr_iald hx hb hK hP 12 10 rfl rfl (by omega) (by decide) d_S_keepsRules_113 ?_
        refine nr_top (y := nI 0) (by simp [up2, upr]) ?_
        have hv_9 := hs5 (d * 6 + p1)
        refine lv_aload_n hx hb d_S_keepsRules_114 rfl (lv_at hl 5 rfl) ?_
        refine va_get (D := D) (ci := 1) (v := .ref (ad 1)) (C := R_S) (T := F_S) (N := 15) hx hb htb u_S hown hK hP 7 rfl rfl 0 (by decide) (htb _ q83) (fun _ h9 => h9) rfl d_S_keepsRules_115 ?_
        refine va_getN (D := D) (ci := 0) (v := .int (nI (P 0 3))) (C := R_P) (T := F_P) (N := 12) hx hb htb u_P hown hK hP 0 rfl rfl 3 (by decide) (hN.at q36 rfl rfl) (fun _ h9 => h9) rfl d_S_keepsRules_118 ?_
        refine nr_icmp_gt (tgt := 158) hx hb (by omega) (by omega) d_S_keepsRules_121 (by decide) (fun c_121 => ?_) (fun c_121 => ?_)
        · refine nr_iconst hx hb 0 d_S_keepsRules_158 (by decide) ?_
          have hfin : krS S p1 d sf = up2 (up2 S 5 (d * 6 + p1) 0) 6 (d * 6 + p1) 0 := by unfold krS; rw [hh5, hh6, if_pos c_74, if_neg c_95]
          rw [← hfin] at hP hD
          exact W.zret (v := (nI 0)) hx hb hr rfl (fun t ht hW => ⟨⟨_, (), rfl, by rw [krB, hh5, hh6, hh2, if_pos c_74, if_neg c_95, decide_eq_false (fun h => absurd h.1 (by omega))]; rfl, by rw [ht]; exact hP, hD⟩, hS.F ht⟩) hS.2.2 d_S_keepsRules_159
        · refine lv_aload_n hx hb d_S_keepsRules_124 rfl (lv_at hl 5 rfl) ?_
          refine va_get (D := D) (ci := 1) (v := .ref (ad 14)) (C := R_S) (T := F_S) (N := 15) hx hb htb u_S hown hK hP 7 rfl rfl 6 (by decide) (htb _ q90) (fun _ h9 => h9) rfl d_S_keepsRules_125 ?_
          refine lv_iload hx hb d_S_keepsRules_128 (lv_at hl 4 rfl) ?_
          refine nr_iald hx hb hK hP 13 11 rfl rfl (by omega) (by decide) d_S_keepsRules_130 ?_
          refine nr_top (y := nI 0) (by simp [up2, upr]) ?_
          have hv_10 := hs6 (d * 6 + p1)
          refine lv_aload_n hx hb d_S_keepsRules_131 rfl (lv_at hl 5 rfl) ?_
          refine va_get (D := D) (ci := 1) (v := .ref (ad 1)) (C := R_S) (T := F_S) (N := 15) hx hb htb u_S hown hK hP 7 rfl rfl 0 (by decide) (htb _ q83) (fun _ h9 => h9) rfl d_S_keepsRules_132 ?_
          refine va_getN (D := D) (ci := 0) (v := .int (nI (P 0 4))) (C := R_P) (T := F_P) (N := 12) hx hb htb u_P hown hK hP 0 rfl rfl 4 (by decide) (hN.at q38 rfl rfl) (fun _ h9 => h9) rfl d_S_keepsRules_135 ?_
          refine nr_icmp_gt (tgt := 158) hx hb (by omega) (by omega) d_S_keepsRules_138 (by decide) (fun c_138 => ?_) (fun c_138 => ?_)
          · refine nr_iconst hx hb 0 d_S_keepsRules_158 (by decide) ?_
            have hfin : krS S p1 d sf = up2 (up2 S 5 (d * 6 + p1) 0) 6 (d * 6 + p1) 0 := by unfold krS; rw [hh5, hh6, if_pos c_74, if_neg c_95]
            rw [← hfin] at hP hD
            exact W.zret (v := (nI 0)) hx hb hr rfl (fun t ht hW => ⟨⟨_, (), rfl, by rw [krB, hh5, hh6, hh2, if_pos c_74, if_neg c_95, decide_eq_false (fun h => absurd h.2.1 (by omega))]; rfl, by rw [ht]; exact hP, hD⟩, hS.F ht⟩) hS.2.2 d_S_keepsRules_159
          · refine lv_aload_n hx hb d_S_keepsRules_141 rfl (lv_at hl 5 rfl) ?_
            refine va_get (D := D) (ci := 1) (v := .ref (ad 1)) (C := R_S) (T := F_S) (N := 15) hx hb htb u_S hown hK hP 7 rfl rfl 0 (by decide) (htb _ q83) (fun _ h9 => h9) rfl d_S_keepsRules_142 ?_
            refine lv_iload hx hb d_S_keepsRules_145 (lv_at hl 0 rfl) ?_
            refine lv_iload_n hx hb d_S_keepsRules_147 rfl (lv_at hl 8 rfl) ?_
            refine nr_calli (va_runVN (As := [.int (nI 0), .int (nI sf)]) (rest := []) ⟨hx, hb, hml, hown, hts⟩ (c_P_breaksRest l D ad ca P a cS ro hP0 hro 0 sf (by omega) (by omega)) ⟨va_cnB 2 hts (gTB q_P_breaksRest) rfl rfl rfl (hN.nw q499 rfl) (htb _ q2) hd_P_breaksRest ⟨Nat.le_of_ble_eq_true rfl, Nat.le_of_ble_eq_true rfl⟩, (htb _ q188), (htb _ sel_P_breaksRest)⟩ ⟨ro_blind, va_recv (hK.sub (tys' := []) [] rfl) hP (ci := 0) (q0 := 0) rfl rfl, ro_pre hN (hP.sub (ws' := (wPS ad ca P a cS ro)) [0, 1, 2, 3, 4, 5, 6, 15] rfl) (hK.sub (tys' := (tPS ca cS)) [0, 1, 2, 3, 4, 5, 13] rfl)⟩ rfl rfl hl.1 rfl (lv_room (Nat.le_of_ble_eq_true rfl)) d_S_keepsRules_148 ⟨Nat.le_of_ble_eq_true rfl, Nat.le_of_ble_eq_true rfl⟩) (fun r_11 hr_11 => ?_)
            subst hr_11
            refine nr_if_ne (tgt := 158) hx hb b01_lt d_S_keepsRules_151 (by decide) (fun c_151 => ?_) (fun c_151 => ?_)
            · refine nr_iconst hx hb 0 d_S_keepsRules_158 (by decide) ?_
              have hfin : krS S p1 d sf = up2 (up2 S 5 (d * 6 + p1) 0) 6 (d * 6 + p1) 0 := by unfold krS; rw [hh5, hh6, if_pos c_74, if_neg c_95]
              rw [← hfin] at hP hD
              exact W.zret (v := (nI 0)) hx hb hr rfl (fun t ht hW => ⟨⟨_, (), rfl, by rw [krB, hh5, hh6, hh2, if_pos c_74, if_neg c_95, decide_eq_false (fun h => absurd h.2.2 (by rw [b01_nz c_151]; decide))]; rfl, by rw [ht]; exact hP, hD⟩, hS.F ht⟩) hS.2.2 d_S_keepsRules_159
            · refine nr_iconst hx hb 1 d_S_keepsRules_154 (by decide) ?_
              refine lv_goto (tgt := 159) hx hb d_S_keepsRules_155 (by decide) ?_
              have hfin : krS S p1 d sf = up2 (up2 S 5 (d * 6 + p1) 0) 6 (d * 6 + p1) 0 := by unfold krS; rw [hh5, hh6, if_pos c_74, if_neg c_95]
              rw [← hfin] at hP hD
              exact W.zret (v := (nI 1)) hx hb hr rfl (fun t ht hW => ⟨⟨_, (), rfl, by rw [krB, hh5, hh6, hh2, if_pos c_74, if_neg c_95, decide_eq_true (⟨c_121, c_138, b01_f c_151⟩)]; rfl, by rw [ht]; exact hP, hD⟩, hS.F ht⟩) hS.2.2 d_S_keepsRules_159
      · refine lv_iload hx hb d_S_keepsRules_98 (lv_at hl 1 rfl) ?_
        refine nr_iconst hx hb 1 d_S_keepsRules_100 (by decide) ?_
        refine nr_iadd hx hb d_S_keepsRules_101 ?_
        refine lv_goto (tgt := 106) hx hb d_S_keepsRules_102 (by decide) ?_
        refine nr_iast hx hb hK hP hD hS 13 11 rfl rfl (by omega) (by decide) d_S_keepsRules_106 (fun H locs hP hD hS => ?_)
        have hP : va_P D cls (wSP ad ca P (up2 (up2 S 5 (d * 6 + p1) 0) 6 (d * 6 + p1) (0 + 1)) a cS ro) H := hP
        have hD : va_D A (wSP ad ca P (up2 (up2 S 5 (d * 6 + p1) 0) 6 (d * 6 + p1) (0 + 1)) a cS ro) := hD
        refine lv_aload_n hx hb d_S_keepsRules_107 rfl (lv_at hl 5 rfl) ?_
        refine va_get (D := D) (ci := 1) (v := .ref (ad 13)) (C := R_S) (T := F_S) (N := 15) hx hb htb u_S hown hK hP 7 rfl rfl 5 (by decide) (htb _ q89) (fun _ h9 => h9) rfl d_S_keepsRules_108 ?_
        refine lv_iload hx hb d_S_keepsRules_111 (lv_at hl 4 rfl) ?_
        refine nr_iald hx hb hK hP 12 10 rfl rfl (by omega) (by decide) d_S_keepsRules_113 ?_
        refine nr_top (y := nI 0) (by simp [up2, upr]) ?_
        have hv_12 := hs5 (d * 6 + p1)
        refine lv_aload_n hx hb d_S_keepsRules_114 rfl (lv_at hl 5 rfl) ?_
        refine va_get (D := D) (ci := 1) (v := .ref (ad 1)) (C := R_S) (T := F_S) (N := 15) hx hb htb u_S hown hK hP 7 rfl rfl 0 (by decide) (htb _ q83) (fun _ h9 => h9) rfl d_S_keepsRules_115 ?_
        refine va_getN (D := D) (ci := 0) (v := .int (nI (P 0 3))) (C := R_P) (T := F_P) (N := 12) hx hb htb u_P hown hK hP 0 rfl rfl 3 (by decide) (hN.at q36 rfl rfl) (fun _ h9 => h9) rfl d_S_keepsRules_118 ?_
        refine nr_icmp_gt (tgt := 158) hx hb (by omega) (by omega) d_S_keepsRules_121 (by decide) (fun c_121 => ?_) (fun c_121 => ?_)
        · refine nr_iconst hx hb 0 d_S_keepsRules_158 (by decide) ?_
          have hfin : krS S p1 d sf = up2 (up2 S 5 (d * 6 + p1) 0) 6 (d * 6 + p1) (0 + 1) := by unfold krS; rw [hh5, hh6, if_pos c_74, if_pos c_95]
          rw [← hfin] at hP hD
          exact W.zret (v := (nI 0)) hx hb hr rfl (fun t ht hW => ⟨⟨_, (), rfl, by rw [krB, hh5, hh6, hh2, if_pos c_74, if_pos c_95, decide_eq_false (fun h => absurd h.1 (by omega))]; rfl, by rw [ht]; exact hP, hD⟩, hS.F ht⟩) hS.2.2 d_S_keepsRules_159
        · refine lv_aload_n hx hb d_S_keepsRules_124 rfl (lv_at hl 5 rfl) ?_
          refine va_get (D := D) (ci := 1) (v := .ref (ad 14)) (C := R_S) (T := F_S) (N := 15) hx hb htb u_S hown hK hP 7 rfl rfl 6 (by decide) (htb _ q90) (fun _ h9 => h9) rfl d_S_keepsRules_125 ?_
          refine lv_iload hx hb d_S_keepsRules_128 (lv_at hl 4 rfl) ?_
          refine nr_iald hx hb hK hP 13 11 rfl rfl (by omega) (by decide) d_S_keepsRules_130 ?_
          refine nr_top (y := nI (0 + 1)) (by simp [up2, upr]) ?_
          have hv_13 := hs6 (d * 6 + p1)
          refine lv_aload_n hx hb d_S_keepsRules_131 rfl (lv_at hl 5 rfl) ?_
          refine va_get (D := D) (ci := 1) (v := .ref (ad 1)) (C := R_S) (T := F_S) (N := 15) hx hb htb u_S hown hK hP 7 rfl rfl 0 (by decide) (htb _ q83) (fun _ h9 => h9) rfl d_S_keepsRules_132 ?_
          refine va_getN (D := D) (ci := 0) (v := .int (nI (P 0 4))) (C := R_P) (T := F_P) (N := 12) hx hb htb u_P hown hK hP 0 rfl rfl 4 (by decide) (hN.at q38 rfl rfl) (fun _ h9 => h9) rfl d_S_keepsRules_135 ?_
          refine nr_icmp_gt (tgt := 158) hx hb (by omega) (by omega) d_S_keepsRules_138 (by decide) (fun c_138 => ?_) (fun c_138 => ?_)
          · refine nr_iconst hx hb 0 d_S_keepsRules_158 (by decide) ?_
            have hfin : krS S p1 d sf = up2 (up2 S 5 (d * 6 + p1) 0) 6 (d * 6 + p1) (0 + 1) := by unfold krS; rw [hh5, hh6, if_pos c_74, if_pos c_95]
            rw [← hfin] at hP hD
            exact W.zret (v := (nI 0)) hx hb hr rfl (fun t ht hW => ⟨⟨_, (), rfl, by rw [krB, hh5, hh6, hh2, if_pos c_74, if_pos c_95, decide_eq_false (fun h => absurd h.2.1 (by omega))]; rfl, by rw [ht]; exact hP, hD⟩, hS.F ht⟩) hS.2.2 d_S_keepsRules_159
          · refine lv_aload_n hx hb d_S_keepsRules_141 rfl (lv_at hl 5 rfl) ?_
            refine va_get (D := D) (ci := 1) (v := .ref (ad 1)) (C := R_S) (T := F_S) (N := 15) hx hb htb u_S hown hK hP 7 rfl rfl 0 (by decide) (htb _ q83) (fun _ h9 => h9) rfl d_S_keepsRules_142 ?_
            refine lv_iload hx hb d_S_keepsRules_145 (lv_at hl 0 rfl) ?_
            refine lv_iload_n hx hb d_S_keepsRules_147 rfl (lv_at hl 8 rfl) ?_
            refine nr_calli (va_runVN (As := [.int (nI 0), .int (nI sf)]) (rest := []) ⟨hx, hb, hml, hown, hts⟩ (c_P_breaksRest l D ad ca P a cS ro hP0 hro 0 sf (by omega) (by omega)) ⟨va_cnB 2 hts (gTB q_P_breaksRest) rfl rfl rfl (hN.nw q499 rfl) (htb _ q2) hd_P_breaksRest ⟨Nat.le_of_ble_eq_true rfl, Nat.le_of_ble_eq_true rfl⟩, (htb _ q188), (htb _ sel_P_breaksRest)⟩ ⟨ro_blind, va_recv (hK.sub (tys' := []) [] rfl) hP (ci := 0) (q0 := 0) rfl rfl, ro_pre hN (hP.sub (ws' := (wPS ad ca P a cS ro)) [0, 1, 2, 3, 4, 5, 6, 15] rfl) (hK.sub (tys' := (tPS ca cS)) [0, 1, 2, 3, 4, 5, 13] rfl)⟩ rfl rfl hl.1 rfl (lv_room (Nat.le_of_ble_eq_true rfl)) d_S_keepsRules_148 ⟨Nat.le_of_ble_eq_true rfl, Nat.le_of_ble_eq_true rfl⟩) (fun r_14 hr_14 => ?_)
            subst hr_14
            refine nr_if_ne (tgt := 158) hx hb b01_lt d_S_keepsRules_151 (by decide) (fun c_151 => ?_) (fun c_151 => ?_)
            · refine nr_iconst hx hb 0 d_S_keepsRules_158 (by decide) ?_
              have hfin : krS S p1 d sf = up2 (up2 S 5 (d * 6 + p1) 0) 6 (d * 6 + p1) (0 + 1) := by unfold krS; rw [hh5, hh6, if_pos c_74, if_pos c_95]
              rw [← hfin] at hP hD
              exact W.zret (v := (nI 0)) hx hb hr rfl (fun t ht hW => ⟨⟨_, (), rfl, by rw [krB, hh5, hh6, hh2, if_pos c_74, if_pos c_95, decide_eq_false (fun h => absurd h.2.2 (by rw [b01_nz c_151]; decide))]; rfl, by rw [ht]; exact hP, hD⟩, hS.F ht⟩) hS.2.2 d_S_keepsRules_159
            · refine nr_iconst hx hb 1 d_S_keepsRules_154 (by decide) ?_
              refine lv_goto (tgt := 159) hx hb d_S_keepsRules_155 (by decide) ?_
              have hfin : krS S p1 d sf = up2 (up2 S 5 (d * 6 + p1) 0) 6 (d * 6 + p1) (0 + 1) := by unfold krS; rw [hh5, hh6, if_pos c_74, if_pos c_95]
              rw [← hfin] at hP hD
              exact W.zret (v := (nI 1)) hx hb hr rfl (fun t ht hW => ⟨⟨_, (), rfl, by rw [krB, hh5, hh6, hh2, if_pos c_74, if_pos c_95, decide_eq_true (⟨c_121, c_138, b01_f c_151⟩)]; rfl, by rw [ht]; exact hP, hD⟩, hS.F ht⟩) hS.2.2 d_S_keepsRules_159
  · have hh5 : hadB S 5 p1 d = S 5 ((d - 1) * 6 + p1) := by unfold hadB; rw [if_neg (by omega)]
    have hh6 : hadB S 6 p1 d = S 6 ((d - 1) * 6 + p1) := by unfold hadB; rw [if_neg (by omega)]
    have hh2 : hadB S 2 p1 d = S 2 ((d - 1) * 6 + p1) := by unfold hadB; rw [if_neg (by omega)]
    refine lv_iload_n hx hb d_S_keepsRules_0 rfl (lv_at hl 1 rfl) ?_
    refine lv_iload_n hx hb d_S_keepsRules_1 rfl (lv_at hl 2 rfl) ?_
    refine nr_calli (va_runSN (As := [.int (nI p1), .int (nI d)]) (rest := []) ⟨hx, hb, hml, hown, hts⟩ (c_R_cell l D p1 d) ⟨va_cnB 2 hts (gTB q_R_cell) rfl rfl rfl (hN.nw q489 rfl) (htb _ q1) hd_R_cell ⟨Nat.le_of_ble_eq_true rfl, Nat.le_of_ble_eq_true rfl⟩, (htb _ q174), trivial⟩ ⟨ro_blind, ro_pre hN (hP.sub (ws' := []) [] rfl) (hK.sub (tys' := []) [] rfl)⟩ rfl rfl hl.1 rfl (lv_room (Nat.le_of_ble_eq_true rfl)) d_S_keepsRules_2 ⟨Nat.le_of_ble_eq_true rfl, Nat.le_of_ble_eq_true rfl⟩) (fun r_15 hr_15 => ?_)
    subst hr_15
    refine lv_istore (lv' := [(4, .int (nI (d * 6 + p1))), (0, .ref (ad 2)), (1, .int (nI p1)), (2, .int (nI d)), (3, .int (nI sf))]) hx hb d_S_keepsRules_5 hl (by decide) rfl (fun ls hl => ?_)
    refine lv_iload_n hx hb d_S_keepsRules_7 rfl (lv_at hl 2 rfl) ?_
    refine lv_iload_n hx hb d_S_keepsRules_8 rfl (lv_at hl 3 rfl) ?_
    refine nr_iconst hx hb 1 d_S_keepsRules_9 (by decide) ?_
    refine nr_isub hx hb (by omega) d_S_keepsRules_10 ?_
    refine nr_calli (va_runSN (As := [.int (nI p1), .int (nI (d - 1))]) (rest := []) ⟨hx, hb, hml, hown, hts⟩ (c_R_cell l D p1 (d - 1)) ⟨va_cnB 2 hts (gTB q_R_cell) rfl rfl rfl (hN.nw q489 rfl) (htb _ q1) hd_R_cell ⟨Nat.le_of_ble_eq_true rfl, Nat.le_of_ble_eq_true rfl⟩, (htb _ q174), trivial⟩ ⟨ro_blind, ro_pre hN (hP.sub (ws' := []) [] rfl) (hK.sub (tys' := []) [] rfl)⟩ rfl rfl hl.1 rfl (lv_room (Nat.le_of_ble_eq_true rfl)) d_S_keepsRules_11 ⟨Nat.le_of_ble_eq_true rfl, Nat.le_of_ble_eq_true rfl⟩) (fun r_16 hr_16 => ?_)
    subst hr_16
    refine lv_istore (lv' := [(5, .int (nI ((d - 1) * 6 + p1))), (4, .int (nI (d * 6 + p1))), (0, .ref (ad 2)), (1, .int (nI p1)), (2, .int (nI d)), (3, .int (nI sf))]) hx hb d_S_keepsRules_14 hl (by decide) rfl (fun ls hl => ?_)
    refine lv_iload_n hx hb d_S_keepsRules_16 rfl (lv_at hl 4 rfl) ?_
    refine nr_if_ne (tgt := 24) hx hb (by omega) d_S_keepsRules_17 (by decide) (fun c_17 => ?_) (fun c_17 => by exfalso; omega)
    refine lv_aload_n hx hb d_S_keepsRules_24 rfl (lv_at hl 2 rfl) ?_
    refine va_get (D := D) (ci := 1) (v := .ref (ad 13)) (C := R_S) (T := F_S) (N := 15) hx hb htb u_S hown hK hP 7 rfl rfl 5 (by decide) (htb _ q89) (fun _ h9 => h9) rfl d_S_keepsRules_25 ?_
    refine lv_iload hx hb d_S_keepsRules_28 (lv_at hl 0 rfl) ?_
    refine nr_iald hx hb hK hP 12 10 rfl rfl (by omega) (by decide) d_S_keepsRules_30 ?_
    have hv_17 := hs5 ((d - 1) * 6 + p1)
    refine lv_istore (lv' := [(6, .int (nI (S 5 ((d - 1) * 6 + p1)))), (5, .int (nI ((d - 1) * 6 + p1))), (4, .int (nI (d * 6 + p1))), (0, .ref (ad 2)), (1, .int (nI p1)), (2, .int (nI d)), (3, .int (nI sf))]) hx hb d_S_keepsRules_31 hl (by decide) rfl (fun ls hl => ?_)
    refine lv_iload_n hx hb d_S_keepsRules_33 rfl (lv_at hl 5 rfl) ?_
    refine nr_if_ne (tgt := 41) hx hb (by omega) d_S_keepsRules_34 (by decide) (fun c_34 => ?_) (fun c_34 => by exfalso; omega)
    refine lv_aload_n hx hb d_S_keepsRules_41 rfl (lv_at hl 3 rfl) ?_
    refine va_get (D := D) (ci := 1) (v := .ref (ad 14)) (C := R_S) (T := F_S) (N := 15) hx hb htb u_S hown hK hP 7 rfl rfl 6 (by decide) (htb _ q90) (fun _ h9 => h9) rfl d_S_keepsRules_42 ?_
    refine lv_iload hx hb d_S_keepsRules_45 (lv_at hl 1 rfl) ?_
    refine nr_iald hx hb hK hP 13 11 rfl rfl (by omega) (by decide) d_S_keepsRules_47 ?_
    have hv_18 := hs6 ((d - 1) * 6 + p1)
    refine lv_istore (lv' := [(7, .int (nI (S 6 ((d - 1) * 6 + p1)))), (6, .int (nI (S 5 ((d - 1) * 6 + p1)))), (5, .int (nI ((d - 1) * 6 + p1))), (4, .int (nI (d * 6 + p1))), (0, .ref (ad 2)), (1, .int (nI p1)), (2, .int (nI d)), (3, .int (nI sf))]) hx hb d_S_keepsRules_48 hl (by decide) rfl (fun ls hl => ?_)
    refine lv_iload_n hx hb d_S_keepsRules_50 rfl (lv_at hl 6 rfl) ?_
    refine nr_if_ne (tgt := 58) hx hb (by omega) d_S_keepsRules_51 (by decide) (fun c_51 => ?_) (fun c_51 => by exfalso; omega)
    refine lv_aload_n hx hb d_S_keepsRules_58 rfl (lv_at hl 4 rfl) ?_
    refine va_get (D := D) (ci := 1) (v := .ref (ad 10)) (C := R_S) (T := F_S) (N := 15) hx hb htb u_S hown hK hP 7 rfl rfl 2 (by decide) (htb _ q86) (fun _ h9 => h9) rfl d_S_keepsRules_59 ?_
    refine lv_iload hx hb d_S_keepsRules_62 (lv_at hl 2 rfl) ?_
    refine nr_iald hx hb hK hP 9 7 rfl rfl (by omega) (by decide) d_S_keepsRules_64 ?_
    have hv_19 := hs2 ((d - 1) * 6 + p1)
    refine lv_istore (lv' := [(8, .int (nI (S 2 ((d - 1) * 6 + p1)))), (7, .int (nI (S 6 ((d - 1) * 6 + p1)))), (6, .int (nI (S 5 ((d - 1) * 6 + p1)))), (5, .int (nI ((d - 1) * 6 + p1))), (4, .int (nI (d * 6 + p1))), (0, .ref (ad 2)), (1, .int (nI p1)), (2, .int (nI d)), (3, .int (nI sf))]) hx hb d_S_keepsRules_65 hl (by decide) rfl (fun ls hl => ?_)
    refine lv_aload_n hx hb d_S_keepsRules_67 rfl (lv_at hl 5 rfl) ?_
    refine va_get (D := D) (ci := 1) (v := .ref (ad 13)) (C := R_S) (T := F_S) (N := 15) hx hb htb u_S hown hK hP 7 rfl rfl 5 (by decide) (htb _ q89) (fun _ h9 => h9) rfl d_S_keepsRules_68 ?_
    refine lv_iload hx hb d_S_keepsRules_71 (lv_at hl 4 rfl) ?_
    refine lv_iload_n hx hb d_S_keepsRules_73 rfl (lv_at hl 8 rfl) ?_
    refine nr_if_ne (tgt := 82) hx hb (by omega) d_S_keepsRules_74 (by decide) (fun c_74 => ?_) (fun c_74 => ?_)
    · refine lv_iload hx hb d_S_keepsRules_82 (lv_at hl 2 rfl) ?_
      refine nr_iconst hx hb 1 d_S_keepsRules_84 (by decide) ?_
      refine nr_iadd hx hb d_S_keepsRules_85 ?_
      refine nr_iast hx hb hK hP hD hS 12 10 rfl rfl (by omega) (by decide) d_S_keepsRules_86 (fun H locs hP hD hS => ?_)
      have hP : va_P D cls (wSP ad ca P (up2 S 5 (d * 6 + p1) ((S 5 ((d - 1) * 6 + p1)) + 1)) a cS ro) H := hP
      have hD : va_D A (wSP ad ca P (up2 S 5 (d * 6 + p1) ((S 5 ((d - 1) * 6 + p1)) + 1)) a cS ro) := hD
      refine lv_aload_n hx hb d_S_keepsRules_87 rfl (lv_at hl 5 rfl) ?_
      refine va_get (D := D) (ci := 1) (v := .ref (ad 14)) (C := R_S) (T := F_S) (N := 15) hx hb htb u_S hown hK hP 7 rfl rfl 6 (by decide) (htb _ q90) (fun _ h9 => h9) rfl d_S_keepsRules_88 ?_
      refine lv_iload hx hb d_S_keepsRules_91 (lv_at hl 4 rfl) ?_
      refine lv_iload_n hx hb d_S_keepsRules_93 rfl (lv_at hl 8 rfl) ?_
      refine nr_iconst hx hb 3 d_S_keepsRules_94 (by decide) ?_
      refine nr_icmp_ne (tgt := 105) hx hb (by omega) (by omega) d_S_keepsRules_95 (by decide) (fun c_95 => ?_) (fun c_95 => ?_)
      · refine nr_iconst hx hb 0 d_S_keepsRules_105 (by decide) ?_
        refine nr_iast hx hb hK hP hD hS 13 11 rfl rfl (by omega) (by decide) d_S_keepsRules_106 (fun H locs hP hD hS => ?_)
        have hP : va_P D cls (wSP ad ca P (up2 (up2 S 5 (d * 6 + p1) ((S 5 ((d - 1) * 6 + p1)) + 1)) 6 (d * 6 + p1) 0) a cS ro) H := hP
        have hD : va_D A (wSP ad ca P (up2 (up2 S 5 (d * 6 + p1) ((S 5 ((d - 1) * 6 + p1)) + 1)) 6 (d * 6 + p1) 0) a cS ro) := hD
        refine lv_aload_n hx hb d_S_keepsRules_107 rfl (lv_at hl 5 rfl) ?_
        refine va_get (D := D) (ci := 1) (v := .ref (ad 13)) (C := R_S) (T := F_S) (N := 15) hx hb htb u_S hown hK hP 7 rfl rfl 5 (by decide) (htb _ q89) (fun _ h9 => h9) rfl d_S_keepsRules_108 ?_
        refine lv_iload hx hb d_S_keepsRules_111 (lv_at hl 4 rfl) ?_
        refine nr_iald hx hb hK hP 12 10 rfl rfl (by omega) (by decide) d_S_keepsRules_113 ?_
        refine nr_top (y := nI ((S 5 ((d - 1) * 6 + p1)) + 1)) (by simp [up2, upr]) ?_
        have hv_20 := hs5 (d * 6 + p1)
        refine lv_aload_n hx hb d_S_keepsRules_114 rfl (lv_at hl 5 rfl) ?_
        refine va_get (D := D) (ci := 1) (v := .ref (ad 1)) (C := R_S) (T := F_S) (N := 15) hx hb htb u_S hown hK hP 7 rfl rfl 0 (by decide) (htb _ q83) (fun _ h9 => h9) rfl d_S_keepsRules_115 ?_
        refine va_getN (D := D) (ci := 0) (v := .int (nI (P 0 3))) (C := R_P) (T := F_P) (N := 12) hx hb htb u_P hown hK hP 0 rfl rfl 3 (by decide) (hN.at q36 rfl rfl) (fun _ h9 => h9) rfl d_S_keepsRules_118 ?_
        refine nr_icmp_gt (tgt := 158) hx hb (by omega) (by omega) d_S_keepsRules_121 (by decide) (fun c_121 => ?_) (fun c_121 => ?_)
        · refine nr_iconst hx hb 0 d_S_keepsRules_158 (by decide) ?_
          have hfin : krS S p1 d sf = up2 (up2 S 5 (d * 6 + p1) ((S 5 ((d - 1) * 6 + p1)) + 1)) 6 (d * 6 + p1) 0 := by unfold krS; rw [hh5, hh6, if_neg c_74, if_neg c_95]
          rw [← hfin] at hP hD
          exact W.zret (v := (nI 0)) hx hb hr rfl (fun t ht hW => ⟨⟨_, (), rfl, by rw [krB, hh5, hh6, hh2, if_neg c_74, if_neg c_95, decide_eq_false (fun h => absurd h.1 (by omega))]; rfl, by rw [ht]; exact hP, hD⟩, hS.F ht⟩) hS.2.2 d_S_keepsRules_159
        · refine lv_aload_n hx hb d_S_keepsRules_124 rfl (lv_at hl 5 rfl) ?_
          refine va_get (D := D) (ci := 1) (v := .ref (ad 14)) (C := R_S) (T := F_S) (N := 15) hx hb htb u_S hown hK hP 7 rfl rfl 6 (by decide) (htb _ q90) (fun _ h9 => h9) rfl d_S_keepsRules_125 ?_
          refine lv_iload hx hb d_S_keepsRules_128 (lv_at hl 4 rfl) ?_
          refine nr_iald hx hb hK hP 13 11 rfl rfl (by omega) (by decide) d_S_keepsRules_130 ?_
          refine nr_top (y := nI 0) (by simp [up2, upr]) ?_
          have hv_21 := hs6 (d * 6 + p1)
          refine lv_aload_n hx hb d_S_keepsRules_131 rfl (lv_at hl 5 rfl) ?_
          refine va_get (D := D) (ci := 1) (v := .ref (ad 1)) (C := R_S) (T := F_S) (N := 15) hx hb htb u_S hown hK hP 7 rfl rfl 0 (by decide) (htb _ q83) (fun _ h9 => h9) rfl d_S_keepsRules_132 ?_
          refine va_getN (D := D) (ci := 0) (v := .int (nI (P 0 4))) (C := R_P) (T := F_P) (N := 12) hx hb htb u_P hown hK hP 0 rfl rfl 4 (by decide) (hN.at q38 rfl rfl) (fun _ h9 => h9) rfl d_S_keepsRules_135 ?_
          refine nr_icmp_gt (tgt := 158) hx hb (by omega) (by omega) d_S_keepsRules_138 (by decide) (fun c_138 => ?_) (fun c_138 => ?_)
          · refine nr_iconst hx hb 0 d_S_keepsRules_158 (by decide) ?_
            have hfin : krS S p1 d sf = up2 (up2 S 5 (d * 6 + p1) ((S 5 ((d - 1) * 6 + p1)) + 1)) 6 (d * 6 + p1) 0 := by unfold krS; rw [hh5, hh6, if_neg c_74, if_neg c_95]
            rw [← hfin] at hP hD
            exact W.zret (v := (nI 0)) hx hb hr rfl (fun t ht hW => ⟨⟨_, (), rfl, by rw [krB, hh5, hh6, hh2, if_neg c_74, if_neg c_95, decide_eq_false (fun h => absurd h.2.1 (by omega))]; rfl, by rw [ht]; exact hP, hD⟩, hS.F ht⟩) hS.2.2 d_S_keepsRules_159
          · refine lv_aload_n hx hb d_S_keepsRules_141 rfl (lv_at hl 5 rfl) ?_
            refine va_get (D := D) (ci := 1) (v := .ref (ad 1)) (C := R_S) (T := F_S) (N := 15) hx hb htb u_S hown hK hP 7 rfl rfl 0 (by decide) (htb _ q83) (fun _ h9 => h9) rfl d_S_keepsRules_142 ?_
            refine lv_iload hx hb d_S_keepsRules_145 (lv_at hl 0 rfl) ?_
            refine lv_iload_n hx hb d_S_keepsRules_147 rfl (lv_at hl 8 rfl) ?_
            refine nr_calli (va_runVN (As := [.int (nI (S 2 ((d - 1) * 6 + p1))), .int (nI sf)]) (rest := []) ⟨hx, hb, hml, hown, hts⟩ (c_P_breaksRest l D ad ca P a cS ro hP0 hro (S 2 ((d - 1) * 6 + p1)) sf (by omega) (by omega)) ⟨va_cnB 2 hts (gTB q_P_breaksRest) rfl rfl rfl (hN.nw q499 rfl) (htb _ q2) hd_P_breaksRest ⟨Nat.le_of_ble_eq_true rfl, Nat.le_of_ble_eq_true rfl⟩, (htb _ q188), (htb _ sel_P_breaksRest)⟩ ⟨ro_blind, va_recv (hK.sub (tys' := []) [] rfl) hP (ci := 0) (q0 := 0) rfl rfl, ro_pre hN (hP.sub (ws' := (wPS ad ca P a cS ro)) [0, 1, 2, 3, 4, 5, 6, 15] rfl) (hK.sub (tys' := (tPS ca cS)) [0, 1, 2, 3, 4, 5, 13] rfl)⟩ rfl rfl hl.1 rfl (lv_room (Nat.le_of_ble_eq_true rfl)) d_S_keepsRules_148 ⟨Nat.le_of_ble_eq_true rfl, Nat.le_of_ble_eq_true rfl⟩) (fun r_22 hr_22 => ?_)
            subst hr_22
            refine nr_if_ne (tgt := 158) hx hb b01_lt d_S_keepsRules_151 (by decide) (fun c_151 => ?_) (fun c_151 => ?_)
            · refine nr_iconst hx hb 0 d_S_keepsRules_158 (by decide) ?_
              have hfin : krS S p1 d sf = up2 (up2 S 5 (d * 6 + p1) ((S 5 ((d - 1) * 6 + p1)) + 1)) 6 (d * 6 + p1) 0 := by unfold krS; rw [hh5, hh6, if_neg c_74, if_neg c_95]
              rw [← hfin] at hP hD
              exact W.zret (v := (nI 0)) hx hb hr rfl (fun t ht hW => ⟨⟨_, (), rfl, by rw [krB, hh5, hh6, hh2, if_neg c_74, if_neg c_95, decide_eq_false (fun h => absurd h.2.2 (by rw [b01_nz c_151]; decide))]; rfl, by rw [ht]; exact hP, hD⟩, hS.F ht⟩) hS.2.2 d_S_keepsRules_159
            · refine nr_iconst hx hb 1 d_S_keepsRules_154 (by decide) ?_
              refine lv_goto (tgt := 159) hx hb d_S_keepsRules_155 (by decide) ?_
              have hfin : krS S p1 d sf = up2 (up2 S 5 (d * 6 + p1) ((S 5 ((d - 1) * 6 + p1)) + 1)) 6 (d * 6 + p1) 0 := by unfold krS; rw [hh5, hh6, if_neg c_74, if_neg c_95]
              rw [← hfin] at hP hD
              exact W.zret (v := (nI 1)) hx hb hr rfl (fun t ht hW => ⟨⟨_, (), rfl, by rw [krB, hh5, hh6, hh2, if_neg c_74, if_neg c_95, decide_eq_true (⟨c_121, c_138, b01_f c_151⟩)]; rfl, by rw [ht]; exact hP, hD⟩, hS.F ht⟩) hS.2.2 d_S_keepsRules_159
      · refine lv_iload hx hb d_S_keepsRules_98 (lv_at hl 1 rfl) ?_
        refine nr_iconst hx hb 1 d_S_keepsRules_100 (by decide) ?_
        refine nr_iadd hx hb d_S_keepsRules_101 ?_
        refine lv_goto (tgt := 106) hx hb d_S_keepsRules_102 (by decide) ?_
        refine nr_iast hx hb hK hP hD hS 13 11 rfl rfl (by omega) (by decide) d_S_keepsRules_106 (fun H locs hP hD hS => ?_)
        have hP : va_P D cls (wSP ad ca P (up2 (up2 S 5 (d * 6 + p1) ((S 5 ((d - 1) * 6 + p1)) + 1)) 6 (d * 6 + p1) ((S 6 ((d - 1) * 6 + p1)) + 1)) a cS ro) H := hP
        have hD : va_D A (wSP ad ca P (up2 (up2 S 5 (d * 6 + p1) ((S 5 ((d - 1) * 6 + p1)) + 1)) 6 (d * 6 + p1) ((S 6 ((d - 1) * 6 + p1)) + 1)) a cS ro) := hD
        refine lv_aload_n hx hb d_S_keepsRules_107 rfl (lv_at hl 5 rfl) ?_
        refine va_get (D := D) (ci := 1) (v := .ref (ad 13)) (C := R_S) (T := F_S) (N := 15) hx hb htb u_S hown hK hP 7 rfl rfl 5 (by decide) (htb _ q89) (fun _ h9 => h9) rfl d_S_keepsRules_108 ?_
        refine lv_iload hx hb d_S_keepsRules_111 (lv_at hl 4 rfl) ?_
        refine nr_iald hx hb hK hP 12 10 rfl rfl (by omega) (by decide) d_S_keepsRules_113 ?_
        refine nr_top (y := nI ((S 5 ((d - 1) * 6 + p1)) + 1)) (by simp [up2, upr]) ?_
        have hv_23 := hs5 (d * 6 + p1)
        refine lv_aload_n hx hb d_S_keepsRules_114 rfl (lv_at hl 5 rfl) ?_
        refine va_get (D := D) (ci := 1) (v := .ref (ad 1)) (C := R_S) (T := F_S) (N := 15) hx hb htb u_S hown hK hP 7 rfl rfl 0 (by decide) (htb _ q83) (fun _ h9 => h9) rfl d_S_keepsRules_115 ?_
        refine va_getN (D := D) (ci := 0) (v := .int (nI (P 0 3))) (C := R_P) (T := F_P) (N := 12) hx hb htb u_P hown hK hP 0 rfl rfl 3 (by decide) (hN.at q36 rfl rfl) (fun _ h9 => h9) rfl d_S_keepsRules_118 ?_
        refine nr_icmp_gt (tgt := 158) hx hb (by omega) (by omega) d_S_keepsRules_121 (by decide) (fun c_121 => ?_) (fun c_121 => ?_)
        · refine nr_iconst hx hb 0 d_S_keepsRules_158 (by decide) ?_
          have hfin : krS S p1 d sf = up2 (up2 S 5 (d * 6 + p1) ((S 5 ((d - 1) * 6 + p1)) + 1)) 6 (d * 6 + p1) ((S 6 ((d - 1) * 6 + p1)) + 1) := by unfold krS; rw [hh5, hh6, if_neg c_74, if_pos c_95]
          rw [← hfin] at hP hD
          exact W.zret (v := (nI 0)) hx hb hr rfl (fun t ht hW => ⟨⟨_, (), rfl, by rw [krB, hh5, hh6, hh2, if_neg c_74, if_pos c_95, decide_eq_false (fun h => absurd h.1 (by omega))]; rfl, by rw [ht]; exact hP, hD⟩, hS.F ht⟩) hS.2.2 d_S_keepsRules_159
        · refine lv_aload_n hx hb d_S_keepsRules_124 rfl (lv_at hl 5 rfl) ?_
          refine va_get (D := D) (ci := 1) (v := .ref (ad 14)) (C := R_S) (T := F_S) (N := 15) hx hb htb u_S hown hK hP 7 rfl rfl 6 (by decide) (htb _ q90) (fun _ h9 => h9) rfl d_S_keepsRules_125 ?_
          refine lv_iload hx hb d_S_keepsRules_128 (lv_at hl 4 rfl) ?_
          refine nr_iald hx hb hK hP 13 11 rfl rfl (by omega) (by decide) d_S_keepsRules_130 ?_
          refine nr_top (y := nI ((S 6 ((d - 1) * 6 + p1)) + 1)) (by simp [up2, upr]) ?_
          have hv_24 := hs6 (d * 6 + p1)
          refine lv_aload_n hx hb d_S_keepsRules_131 rfl (lv_at hl 5 rfl) ?_
          refine va_get (D := D) (ci := 1) (v := .ref (ad 1)) (C := R_S) (T := F_S) (N := 15) hx hb htb u_S hown hK hP 7 rfl rfl 0 (by decide) (htb _ q83) (fun _ h9 => h9) rfl d_S_keepsRules_132 ?_
          refine va_getN (D := D) (ci := 0) (v := .int (nI (P 0 4))) (C := R_P) (T := F_P) (N := 12) hx hb htb u_P hown hK hP 0 rfl rfl 4 (by decide) (hN.at q38 rfl rfl) (fun _ h9 => h9) rfl d_S_keepsRules_135 ?_
          refine nr_icmp_gt (tgt := 158) hx hb (by omega) (by omega) d_S_keepsRules_138 (by decide) (fun c_138 => ?_) (fun c_138 => ?_)
          · refine nr_iconst hx hb 0 d_S_keepsRules_158 (by decide) ?_
            have hfin : krS S p1 d sf = up2 (up2 S 5 (d * 6 + p1) ((S 5 ((d - 1) * 6 + p1)) + 1)) 6 (d * 6 + p1) ((S 6 ((d - 1) * 6 + p1)) + 1) := by unfold krS; rw [hh5, hh6, if_neg c_74, if_pos c_95]
            rw [← hfin] at hP hD
            exact W.zret (v := (nI 0)) hx hb hr rfl (fun t ht hW => ⟨⟨_, (), rfl, by rw [krB, hh5, hh6, hh2, if_neg c_74, if_pos c_95, decide_eq_false (fun h => absurd h.2.1 (by omega))]; rfl, by rw [ht]; exact hP, hD⟩, hS.F ht⟩) hS.2.2 d_S_keepsRules_159
          · refine lv_aload_n hx hb d_S_keepsRules_141 rfl (lv_at hl 5 rfl) ?_
            refine va_get (D := D) (ci := 1) (v := .ref (ad 1)) (C := R_S) (T := F_S) (N := 15) hx hb htb u_S hown hK hP 7 rfl rfl 0 (by decide) (htb _ q83) (fun _ h9 => h9) rfl d_S_keepsRules_142 ?_
            refine lv_iload hx hb d_S_keepsRules_145 (lv_at hl 0 rfl) ?_
            refine lv_iload_n hx hb d_S_keepsRules_147 rfl (lv_at hl 8 rfl) ?_
            refine nr_calli (va_runVN (As := [.int (nI (S 2 ((d - 1) * 6 + p1))), .int (nI sf)]) (rest := []) ⟨hx, hb, hml, hown, hts⟩ (c_P_breaksRest l D ad ca P a cS ro hP0 hro (S 2 ((d - 1) * 6 + p1)) sf (by omega) (by omega)) ⟨va_cnB 2 hts (gTB q_P_breaksRest) rfl rfl rfl (hN.nw q499 rfl) (htb _ q2) hd_P_breaksRest ⟨Nat.le_of_ble_eq_true rfl, Nat.le_of_ble_eq_true rfl⟩, (htb _ q188), (htb _ sel_P_breaksRest)⟩ ⟨ro_blind, va_recv (hK.sub (tys' := []) [] rfl) hP (ci := 0) (q0 := 0) rfl rfl, ro_pre hN (hP.sub (ws' := (wPS ad ca P a cS ro)) [0, 1, 2, 3, 4, 5, 6, 15] rfl) (hK.sub (tys' := (tPS ca cS)) [0, 1, 2, 3, 4, 5, 13] rfl)⟩ rfl rfl hl.1 rfl (lv_room (Nat.le_of_ble_eq_true rfl)) d_S_keepsRules_148 ⟨Nat.le_of_ble_eq_true rfl, Nat.le_of_ble_eq_true rfl⟩) (fun r_25 hr_25 => ?_)
            subst hr_25
            refine nr_if_ne (tgt := 158) hx hb b01_lt d_S_keepsRules_151 (by decide) (fun c_151 => ?_) (fun c_151 => ?_)
            · refine nr_iconst hx hb 0 d_S_keepsRules_158 (by decide) ?_
              have hfin : krS S p1 d sf = up2 (up2 S 5 (d * 6 + p1) ((S 5 ((d - 1) * 6 + p1)) + 1)) 6 (d * 6 + p1) ((S 6 ((d - 1) * 6 + p1)) + 1) := by unfold krS; rw [hh5, hh6, if_neg c_74, if_pos c_95]
              rw [← hfin] at hP hD
              exact W.zret (v := (nI 0)) hx hb hr rfl (fun t ht hW => ⟨⟨_, (), rfl, by rw [krB, hh5, hh6, hh2, if_neg c_74, if_pos c_95, decide_eq_false (fun h => absurd h.2.2 (by rw [b01_nz c_151]; decide))]; rfl, by rw [ht]; exact hP, hD⟩, hS.F ht⟩) hS.2.2 d_S_keepsRules_159
            · refine nr_iconst hx hb 1 d_S_keepsRules_154 (by decide) ?_
              refine lv_goto (tgt := 159) hx hb d_S_keepsRules_155 (by decide) ?_
              have hfin : krS S p1 d sf = up2 (up2 S 5 (d * 6 + p1) ((S 5 ((d - 1) * 6 + p1)) + 1)) 6 (d * 6 + p1) ((S 6 ((d - 1) * 6 + p1)) + 1) := by unfold krS; rw [hh5, hh6, if_neg c_74, if_pos c_95]
              rw [← hfin] at hP hD
              exact W.zret (v := (nI 1)) hx hb hr rfl (fun t ht hW => ⟨⟨_, (), rfl, by rw [krB, hh5, hh6, hh2, if_neg c_74, if_pos c_95, decide_eq_true (⟨c_121, c_138, b01_f c_151⟩)]; rfl, by rw [ht]; exact hP, hD⟩, hS.F ht⟩) hS.2.2 d_S_keepsRules_159
    · refine lv_iload hx hb d_S_keepsRules_77 (lv_at hl 2 rfl) ?_
      refine lv_goto (tgt := 86) hx hb d_S_keepsRules_79 (by decide) ?_
      refine nr_iast hx hb hK hP hD hS 12 10 rfl rfl (by omega) (by decide) d_S_keepsRules_86 (fun H locs hP hD hS => ?_)
      have hP : va_P D cls (wSP ad ca P (up2 S 5 (d * 6 + p1) (S 5 ((d - 1) * 6 + p1))) a cS ro) H := hP
      have hD : va_D A (wSP ad ca P (up2 S 5 (d * 6 + p1) (S 5 ((d - 1) * 6 + p1))) a cS ro) := hD
      refine lv_aload_n hx hb d_S_keepsRules_87 rfl (lv_at hl 5 rfl) ?_
      refine va_get (D := D) (ci := 1) (v := .ref (ad 14)) (C := R_S) (T := F_S) (N := 15) hx hb htb u_S hown hK hP 7 rfl rfl 6 (by decide) (htb _ q90) (fun _ h9 => h9) rfl d_S_keepsRules_88 ?_
      refine lv_iload hx hb d_S_keepsRules_91 (lv_at hl 4 rfl) ?_
      refine lv_iload_n hx hb d_S_keepsRules_93 rfl (lv_at hl 8 rfl) ?_
      refine nr_iconst hx hb 3 d_S_keepsRules_94 (by decide) ?_
      refine nr_icmp_ne (tgt := 105) hx hb (by omega) (by omega) d_S_keepsRules_95 (by decide) (fun c_95 => ?_) (fun c_95 => ?_)
      · refine nr_iconst hx hb 0 d_S_keepsRules_105 (by decide) ?_
        refine nr_iast hx hb hK hP hD hS 13 11 rfl rfl (by omega) (by decide) d_S_keepsRules_106 (fun H locs hP hD hS => ?_)
        have hP : va_P D cls (wSP ad ca P (up2 (up2 S 5 (d * 6 + p1) (S 5 ((d - 1) * 6 + p1))) 6 (d * 6 + p1) 0) a cS ro) H := hP
        have hD : va_D A (wSP ad ca P (up2 (up2 S 5 (d * 6 + p1) (S 5 ((d - 1) * 6 + p1))) 6 (d * 6 + p1) 0) a cS ro) := hD
        refine lv_aload_n hx hb d_S_keepsRules_107 rfl (lv_at hl 5 rfl) ?_
        refine va_get (D := D) (ci := 1) (v := .ref (ad 13)) (C := R_S) (T := F_S) (N := 15) hx hb htb u_S hown hK hP 7 rfl rfl 5 (by decide) (htb _ q89) (fun _ h9 => h9) rfl d_S_keepsRules_108 ?_
        refine lv_iload hx hb d_S_keepsRules_111 (lv_at hl 4 rfl) ?_
        refine nr_iald hx hb hK hP 12 10 rfl rfl (by omega) (by decide) d_S_keepsRules_113 ?_
        refine nr_top (y := nI (S 5 ((d - 1) * 6 + p1))) (by simp [up2, upr]) ?_
        have hv_26 := hs5 (d * 6 + p1)
        refine lv_aload_n hx hb d_S_keepsRules_114 rfl (lv_at hl 5 rfl) ?_
        refine va_get (D := D) (ci := 1) (v := .ref (ad 1)) (C := R_S) (T := F_S) (N := 15) hx hb htb u_S hown hK hP 7 rfl rfl 0 (by decide) (htb _ q83) (fun _ h9 => h9) rfl d_S_keepsRules_115 ?_
        refine va_getN (D := D) (ci := 0) (v := .int (nI (P 0 3))) (C := R_P) (T := F_P) (N := 12) hx hb htb u_P hown hK hP 0 rfl rfl 3 (by decide) (hN.at q36 rfl rfl) (fun _ h9 => h9) rfl d_S_keepsRules_118 ?_
        refine nr_icmp_gt (tgt := 158) hx hb (by omega) (by omega) d_S_keepsRules_121 (by decide) (fun c_121 => ?_) (fun c_121 => ?_)
        · refine nr_iconst hx hb 0 d_S_keepsRules_158 (by decide) ?_
          have hfin : krS S p1 d sf = up2 (up2 S 5 (d * 6 + p1) (S 5 ((d - 1) * 6 + p1))) 6 (d * 6 + p1) 0 := by unfold krS; rw [hh5, hh6, if_pos c_74, if_neg c_95]
          rw [← hfin] at hP hD
          exact W.zret (v := (nI 0)) hx hb hr rfl (fun t ht hW => ⟨⟨_, (), rfl, by rw [krB, hh5, hh6, hh2, if_pos c_74, if_neg c_95, decide_eq_false (fun h => absurd h.1 (by omega))]; rfl, by rw [ht]; exact hP, hD⟩, hS.F ht⟩) hS.2.2 d_S_keepsRules_159
        · refine lv_aload_n hx hb d_S_keepsRules_124 rfl (lv_at hl 5 rfl) ?_
          refine va_get (D := D) (ci := 1) (v := .ref (ad 14)) (C := R_S) (T := F_S) (N := 15) hx hb htb u_S hown hK hP 7 rfl rfl 6 (by decide) (htb _ q90) (fun _ h9 => h9) rfl d_S_keepsRules_125 ?_
          refine lv_iload hx hb d_S_keepsRules_128 (lv_at hl 4 rfl) ?_
          refine nr_iald hx hb hK hP 13 11 rfl rfl (by omega) (by decide) d_S_keepsRules_130 ?_
          refine nr_top (y := nI 0) (by simp [up2, upr]) ?_
          have hv_27 := hs6 (d * 6 + p1)
          refine lv_aload_n hx hb d_S_keepsRules_131 rfl (lv_at hl 5 rfl) ?_
          refine va_get (D := D) (ci := 1) (v := .ref (ad 1)) (C := R_S) (T := F_S) (N := 15) hx hb htb u_S hown hK hP 7 rfl rfl 0 (by decide) (htb _ q83) (fun _ h9 => h9) rfl d_S_keepsRules_132 ?_
          refine va_getN (D := D) (ci := 0) (v := .int (nI (P 0 4))) (C := R_P) (T := F_P) (N := 12) hx hb htb u_P hown hK hP 0 rfl rfl 4 (by decide) (hN.at q38 rfl rfl) (fun _ h9 => h9) rfl d_S_keepsRules_135 ?_
          refine nr_icmp_gt (tgt := 158) hx hb (by omega) (by omega) d_S_keepsRules_138 (by decide) (fun c_138 => ?_) (fun c_138 => ?_)
          · refine nr_iconst hx hb 0 d_S_keepsRules_158 (by decide) ?_
            have hfin : krS S p1 d sf = up2 (up2 S 5 (d * 6 + p1) (S 5 ((d - 1) * 6 + p1))) 6 (d * 6 + p1) 0 := by unfold krS; rw [hh5, hh6, if_pos c_74, if_neg c_95]
            rw [← hfin] at hP hD
            exact W.zret (v := (nI 0)) hx hb hr rfl (fun t ht hW => ⟨⟨_, (), rfl, by rw [krB, hh5, hh6, hh2, if_pos c_74, if_neg c_95, decide_eq_false (fun h => absurd h.2.1 (by omega))]; rfl, by rw [ht]; exact hP, hD⟩, hS.F ht⟩) hS.2.2 d_S_keepsRules_159
          · refine lv_aload_n hx hb d_S_keepsRules_141 rfl (lv_at hl 5 rfl) ?_
            refine va_get (D := D) (ci := 1) (v := .ref (ad 1)) (C := R_S) (T := F_S) (N := 15) hx hb htb u_S hown hK hP 7 rfl rfl 0 (by decide) (htb _ q83) (fun _ h9 => h9) rfl d_S_keepsRules_142 ?_
            refine lv_iload hx hb d_S_keepsRules_145 (lv_at hl 0 rfl) ?_
            refine lv_iload_n hx hb d_S_keepsRules_147 rfl (lv_at hl 8 rfl) ?_
            refine nr_calli (va_runVN (As := [.int (nI (S 2 ((d - 1) * 6 + p1))), .int (nI sf)]) (rest := []) ⟨hx, hb, hml, hown, hts⟩ (c_P_breaksRest l D ad ca P a cS ro hP0 hro (S 2 ((d - 1) * 6 + p1)) sf (by omega) (by omega)) ⟨va_cnB 2 hts (gTB q_P_breaksRest) rfl rfl rfl (hN.nw q499 rfl) (htb _ q2) hd_P_breaksRest ⟨Nat.le_of_ble_eq_true rfl, Nat.le_of_ble_eq_true rfl⟩, (htb _ q188), (htb _ sel_P_breaksRest)⟩ ⟨ro_blind, va_recv (hK.sub (tys' := []) [] rfl) hP (ci := 0) (q0 := 0) rfl rfl, ro_pre hN (hP.sub (ws' := (wPS ad ca P a cS ro)) [0, 1, 2, 3, 4, 5, 6, 15] rfl) (hK.sub (tys' := (tPS ca cS)) [0, 1, 2, 3, 4, 5, 13] rfl)⟩ rfl rfl hl.1 rfl (lv_room (Nat.le_of_ble_eq_true rfl)) d_S_keepsRules_148 ⟨Nat.le_of_ble_eq_true rfl, Nat.le_of_ble_eq_true rfl⟩) (fun r_28 hr_28 => ?_)
            subst hr_28
            refine nr_if_ne (tgt := 158) hx hb b01_lt d_S_keepsRules_151 (by decide) (fun c_151 => ?_) (fun c_151 => ?_)
            · refine nr_iconst hx hb 0 d_S_keepsRules_158 (by decide) ?_
              have hfin : krS S p1 d sf = up2 (up2 S 5 (d * 6 + p1) (S 5 ((d - 1) * 6 + p1))) 6 (d * 6 + p1) 0 := by unfold krS; rw [hh5, hh6, if_pos c_74, if_neg c_95]
              rw [← hfin] at hP hD
              exact W.zret (v := (nI 0)) hx hb hr rfl (fun t ht hW => ⟨⟨_, (), rfl, by rw [krB, hh5, hh6, hh2, if_pos c_74, if_neg c_95, decide_eq_false (fun h => absurd h.2.2 (by rw [b01_nz c_151]; decide))]; rfl, by rw [ht]; exact hP, hD⟩, hS.F ht⟩) hS.2.2 d_S_keepsRules_159
            · refine nr_iconst hx hb 1 d_S_keepsRules_154 (by decide) ?_
              refine lv_goto (tgt := 159) hx hb d_S_keepsRules_155 (by decide) ?_
              have hfin : krS S p1 d sf = up2 (up2 S 5 (d * 6 + p1) (S 5 ((d - 1) * 6 + p1))) 6 (d * 6 + p1) 0 := by unfold krS; rw [hh5, hh6, if_pos c_74, if_neg c_95]
              rw [← hfin] at hP hD
              exact W.zret (v := (nI 1)) hx hb hr rfl (fun t ht hW => ⟨⟨_, (), rfl, by rw [krB, hh5, hh6, hh2, if_pos c_74, if_neg c_95, decide_eq_true (⟨c_121, c_138, b01_f c_151⟩)]; rfl, by rw [ht]; exact hP, hD⟩, hS.F ht⟩) hS.2.2 d_S_keepsRules_159
      · refine lv_iload hx hb d_S_keepsRules_98 (lv_at hl 1 rfl) ?_
        refine nr_iconst hx hb 1 d_S_keepsRules_100 (by decide) ?_
        refine nr_iadd hx hb d_S_keepsRules_101 ?_
        refine lv_goto (tgt := 106) hx hb d_S_keepsRules_102 (by decide) ?_
        refine nr_iast hx hb hK hP hD hS 13 11 rfl rfl (by omega) (by decide) d_S_keepsRules_106 (fun H locs hP hD hS => ?_)
        have hP : va_P D cls (wSP ad ca P (up2 (up2 S 5 (d * 6 + p1) (S 5 ((d - 1) * 6 + p1))) 6 (d * 6 + p1) ((S 6 ((d - 1) * 6 + p1)) + 1)) a cS ro) H := hP
        have hD : va_D A (wSP ad ca P (up2 (up2 S 5 (d * 6 + p1) (S 5 ((d - 1) * 6 + p1))) 6 (d * 6 + p1) ((S 6 ((d - 1) * 6 + p1)) + 1)) a cS ro) := hD
        refine lv_aload_n hx hb d_S_keepsRules_107 rfl (lv_at hl 5 rfl) ?_
        refine va_get (D := D) (ci := 1) (v := .ref (ad 13)) (C := R_S) (T := F_S) (N := 15) hx hb htb u_S hown hK hP 7 rfl rfl 5 (by decide) (htb _ q89) (fun _ h9 => h9) rfl d_S_keepsRules_108 ?_
        refine lv_iload hx hb d_S_keepsRules_111 (lv_at hl 4 rfl) ?_
        refine nr_iald hx hb hK hP 12 10 rfl rfl (by omega) (by decide) d_S_keepsRules_113 ?_
        refine nr_top (y := nI (S 5 ((d - 1) * 6 + p1))) (by simp [up2, upr]) ?_
        have hv_29 := hs5 (d * 6 + p1)
        refine lv_aload_n hx hb d_S_keepsRules_114 rfl (lv_at hl 5 rfl) ?_
        refine va_get (D := D) (ci := 1) (v := .ref (ad 1)) (C := R_S) (T := F_S) (N := 15) hx hb htb u_S hown hK hP 7 rfl rfl 0 (by decide) (htb _ q83) (fun _ h9 => h9) rfl d_S_keepsRules_115 ?_
        refine va_getN (D := D) (ci := 0) (v := .int (nI (P 0 3))) (C := R_P) (T := F_P) (N := 12) hx hb htb u_P hown hK hP 0 rfl rfl 3 (by decide) (hN.at q36 rfl rfl) (fun _ h9 => h9) rfl d_S_keepsRules_118 ?_
        refine nr_icmp_gt (tgt := 158) hx hb (by omega) (by omega) d_S_keepsRules_121 (by decide) (fun c_121 => ?_) (fun c_121 => ?_)
        · refine nr_iconst hx hb 0 d_S_keepsRules_158 (by decide) ?_
          have hfin : krS S p1 d sf = up2 (up2 S 5 (d * 6 + p1) (S 5 ((d - 1) * 6 + p1))) 6 (d * 6 + p1) ((S 6 ((d - 1) * 6 + p1)) + 1) := by unfold krS; rw [hh5, hh6, if_pos c_74, if_pos c_95]
          rw [← hfin] at hP hD
          exact W.zret (v := (nI 0)) hx hb hr rfl (fun t ht hW => ⟨⟨_, (), rfl, by rw [krB, hh5, hh6, hh2, if_pos c_74, if_pos c_95, decide_eq_false (fun h => absurd h.1 (by omega))]; rfl, by rw [ht]; exact hP, hD⟩, hS.F ht⟩) hS.2.2 d_S_keepsRules_159
        · refine lv_aload_n hx hb d_S_keepsRules_124 rfl (lv_at hl 5 rfl) ?_
          refine va_get (D := D) (ci := 1) (v := .ref (ad 14)) (C := R_S) (T := F_S) (N := 15) hx hb htb u_S hown hK hP 7 rfl rfl 6 (by decide) (htb _ q90) (fun _ h9 => h9) rfl d_S_keepsRules_125 ?_
          refine lv_iload hx hb d_S_keepsRules_128 (lv_at hl 4 rfl) ?_
          refine nr_iald hx hb hK hP 13 11 rfl rfl (by omega) (by decide) d_S_keepsRules_130 ?_
          refine nr_top (y := nI ((S 6 ((d - 1) * 6 + p1)) + 1)) (by simp [up2, upr]) ?_
          have hv_30 := hs6 (d * 6 + p1)
          refine lv_aload_n hx hb d_S_keepsRules_131 rfl (lv_at hl 5 rfl) ?_
          refine va_get (D := D) (ci := 1) (v := .ref (ad 1)) (C := R_S) (T := F_S) (N := 15) hx hb htb u_S hown hK hP 7 rfl rfl 0 (by decide) (htb _ q83) (fun _ h9 => h9) rfl d_S_keepsRules_132 ?_
          refine va_getN (D := D) (ci := 0) (v := .int (nI (P 0 4))) (C := R_P) (T := F_P) (N := 12) hx hb htb u_P hown hK hP 0 rfl rfl 4 (by decide) (hN.at q38 rfl rfl) (fun _ h9 => h9) rfl d_S_keepsRules_135 ?_
          refine nr_icmp_gt (tgt := 158) hx hb (by omega) (by omega) d_S_keepsRules_138 (by decide) (fun c_138 => ?_) (fun c_138 => ?_)
          · refine nr_iconst hx hb 0 d_S_keepsRules_158 (by decide) ?_
            have hfin : krS S p1 d sf = up2 (up2 S 5 (d * 6 + p1) (S 5 ((d - 1) * 6 + p1))) 6 (d * 6 + p1) ((S 6 ((d - 1) * 6 + p1)) + 1) := by unfold krS; rw [hh5, hh6, if_pos c_74, if_pos c_95]
            rw [← hfin] at hP hD
            exact W.zret (v := (nI 0)) hx hb hr rfl (fun t ht hW => ⟨⟨_, (), rfl, by rw [krB, hh5, hh6, hh2, if_pos c_74, if_pos c_95, decide_eq_false (fun h => absurd h.2.1 (by omega))]; rfl, by rw [ht]; exact hP, hD⟩, hS.F ht⟩) hS.2.2 d_S_keepsRules_159
          · refine lv_aload_n hx hb d_S_keepsRules_141 rfl (lv_at hl 5 rfl) ?_
            refine va_get (D := D) (ci := 1) (v := .ref (ad 1)) (C := R_S) (T := F_S) (N := 15) hx hb htb u_S hown hK hP 7 rfl rfl 0 (by decide) (htb _ q83) (fun _ h9 => h9) rfl d_S_keepsRules_142 ?_
            refine lv_iload hx hb d_S_keepsRules_145 (lv_at hl 0 rfl) ?_
            refine lv_iload_n hx hb d_S_keepsRules_147 rfl (lv_at hl 8 rfl) ?_
            refine nr_calli (va_runVN (As := [.int (nI (S 2 ((d - 1) * 6 + p1))), .int (nI sf)]) (rest := []) ⟨hx, hb, hml, hown, hts⟩ (c_P_breaksRest l D ad ca P a cS ro hP0 hro (S 2 ((d - 1) * 6 + p1)) sf (by omega) (by omega)) ⟨va_cnB 2 hts (gTB q_P_breaksRest) rfl rfl rfl (hN.nw q499 rfl) (htb _ q2) hd_P_breaksRest ⟨Nat.le_of_ble_eq_true rfl, Nat.le_of_ble_eq_true rfl⟩, (htb _ q188), (htb _ sel_P_breaksRest)⟩ ⟨ro_blind, va_recv (hK.sub (tys' := []) [] rfl) hP (ci := 0) (q0 := 0) rfl rfl, ro_pre hN (hP.sub (ws' := (wPS ad ca P a cS ro)) [0, 1, 2, 3, 4, 5, 6, 15] rfl) (hK.sub (tys' := (tPS ca cS)) [0, 1, 2, 3, 4, 5, 13] rfl)⟩ rfl rfl hl.1 rfl (lv_room (Nat.le_of_ble_eq_true rfl)) d_S_keepsRules_148 ⟨Nat.le_of_ble_eq_true rfl, Nat.le_of_ble_eq_true rfl⟩) (fun r_31 hr_31 => ?_)
            subst hr_31
            refine nr_if_ne (tgt := 158) hx hb b01_lt d_S_keepsRules_151 (by decide) (fun c_151 => ?_) (fun c_151 => ?_)
            · refine nr_iconst hx hb 0 d_S_keepsRules_158 (by decide) ?_
              have hfin : krS S p1 d sf = up2 (up2 S 5 (d * 6 + p1) (S 5 ((d - 1) * 6 + p1))) 6 (d * 6 + p1) ((S 6 ((d - 1) * 6 + p1)) + 1) := by unfold krS; rw [hh5, hh6, if_pos c_74, if_pos c_95]
              rw [← hfin] at hP hD
              exact W.zret (v := (nI 0)) hx hb hr rfl (fun t ht hW => ⟨⟨_, (), rfl, by rw [krB, hh5, hh6, hh2, if_pos c_74, if_pos c_95, decide_eq_false (fun h => absurd h.2.2 (by rw [b01_nz c_151]; decide))]; rfl, by rw [ht]; exact hP, hD⟩, hS.F ht⟩) hS.2.2 d_S_keepsRules_159
            · refine nr_iconst hx hb 1 d_S_keepsRules_154 (by decide) ?_
              refine lv_goto (tgt := 159) hx hb d_S_keepsRules_155 (by decide) ?_
              have hfin : krS S p1 d sf = up2 (up2 S 5 (d * 6 + p1) (S 5 ((d - 1) * 6 + p1))) 6 (d * 6 + p1) ((S 6 ((d - 1) * 6 + p1)) + 1) := by unfold krS; rw [hh5, hh6, if_pos c_74, if_pos c_95]
              rw [← hfin] at hP hD
              exact W.zret (v := (nI 1)) hx hb hr rfl (fun t ht hW => ⟨⟨_, (), rfl, by rw [krB, hh5, hh6, hh2, if_pos c_74, if_pos c_95, decide_eq_true (⟨c_121, c_138, b01_f c_151⟩)]; rfl, by rw [ht]; exact hP, hD⟩, hS.F ht⟩) hS.2.2 d_S_keepsRules_159
set_option maxHeartbeats 4000000 in
set_option maxRecDepth 100000 in
theorem c_S_unmetBefore (l : Launch) (D : va_G) (ad : Nat → Nat) (ca : Nat → ClassId) (P S : Nat → Nat → Nat) (a : Nat) (cS : ClassId) (ro : Nat → Nat) (hP0 : okP P) (hS0 : okS S) (hro : ∀ k, ro k ≤ 3) (p1 d : Nat) (hp : p1 < P 0 0) (hd : d < 7) : Met l y_S_unmetBefore w_S_unmetBefore { frames := 1, cells := 0, slots := 0, locals := 21 } (ro_P [.ref (ad 2), .int (nI p1), .int (nI d)] D (wSP ad ca P S a cS ro) (tSP ca cS)) (vp_Si (fun r => r = nI (ubef P S p1 d))) 0 0 (fun _ => False) := by
  refine Met.ofW (cc := b_S_unmetBefore) (maxL := 3) (ret := (some .int)) (by decide) rfl ?_
  intro p e s m args below meth c s₁ B hml hv
  obtain ⟨rfl, hN, hP, hK⟩ := hv
  have hx := B.exec
  have hb := B.bytes
  have hr := B.returns
  have hts := atoms_spec (ws := w_S_unmetBefore) B.pre
  have htb : ∀ w ∈ TBG, w.before [.ref (ad 2), .int (nI p1), .int (nI d)].toArray s = true := fun w h => hts w (List.mem_cons_of_mem _ h)
  have hown : s.vm.findClass R_S = some m.cls := findClass_of_methodNamed B.named
  have hlocks := B.notSynchronized
  have hl := lv_entry ([.ref (ad 2), .int (nI p1), .int (nI d)]) (n := 3) (Nat.le_of_ble_eq_true rfl)
  rw [lg_entry_eq]
  generalize (lg_sl ([.ref (ad 2), .int (nI p1), .int (nI d)]) ++ List.replicate (3 - (lg_sl ([.ref (ad 2), .int (nI p1), .int (nI d)])).length) Slot.unset).toArray = ls at hl ⊢
  have hl : lv_has ls 3 [(0, .ref (ad 2)), (1, .int (nI p1)), (2, .int (nI d))] := hl
  obtain ⟨h00, h01, h02, h03, h04, h05, hp1, hp2, hp3, hp4, hp5, hp6⟩ := id hP0
  obtain ⟨g00, g01, g02, g03, g04, g05, g06, hs1, hs2, hs3, hs4, hs5, hs6, hs7⟩ := id hS0
  refine lv_iload_n hx hb d_S_unmetBefore_0 rfl (lv_at hl 1 rfl) ?_
  refine nr_if_le (tgt := 17) hx hb (by omega) d_S_unmetBefore_1 (by decide) (fun c_1 => ?_) (fun c_1 => ?_)
  · refine lv_iload_n hx hb d_S_unmetBefore_17 rfl (lv_at hl 2 rfl) ?_
    refine nr_if_ne (tgt := 25) hx hb (by omega) d_S_unmetBefore_18 (by decide) (fun c_18 => ?_) (fun c_18 => ?_)
    · refine lv_aload_n hx hb d_S_unmetBefore_25 rfl (lv_at hl 0 rfl) ?_
      refine va_get (D := D) (ci := 1) (v := .ref (ad 15)) (C := R_S) (T := F_S) (N := 15) hx hb htb u_S hown hK hP 7 rfl rfl 7 (by decide) (htb _ q91) (fun _ h9 => h9) rfl d_S_unmetBefore_26 ?_
      refine lv_aload_n hx hb d_S_unmetBefore_29 rfl (lv_at hl 0 rfl) ?_
      refine va_get (D := D) (ci := 1) (v := .ref (ad 1)) (C := R_S) (T := F_S) (N := 15) hx hb htb u_S hown hK hP 7 rfl rfl 0 (by decide) (htb _ q83) (fun _ h9 => h9) rfl d_S_unmetBefore_30 ?_
      refine va_getN (D := D) (ci := 0) (v := .int (nI (P 0 0))) (C := R_P) (T := F_P) (N := 12) hx hb htb u_P hown hK hP 0 rfl rfl 0 (by decide) (hN.at q29 rfl rfl) (fun _ h9 => h9) rfl d_S_unmetBefore_33 ?_
      refine nr_iconst hx hb 1 d_S_unmetBefore_36 (by decide) ?_
      refine nr_isub hx hb (by omega) d_S_unmetBefore_37 ?_
      refine lv_iload_n hx hb d_S_unmetBefore_38 rfl (lv_at hl 2 rfl) ?_
      refine nr_iconst hx hb 1 d_S_unmetBefore_39 (by decide) ?_
      refine nr_isub hx hb (by omega) d_S_unmetBefore_40 ?_
      refine nr_calli (va_runSN (As := [.int (nI ((P 0 0) - 1)), .int (nI (d - 1))]) (rest := [.ref (ad 15)]) ⟨hx, hb, hml, hown, hts⟩ (c_R_cell l D ((P 0 0) - 1) (d - 1)) ⟨va_cnB 2 hts (gTB q_R_cell) rfl rfl rfl (hN.nw q489 rfl) (htb _ q1) hd_R_cell ⟨Nat.le_of_ble_eq_true rfl, Nat.le_of_ble_eq_true rfl⟩, (htb _ q174), trivial⟩ ⟨ro_blind, ro_pre hN (hP.sub (ws' := []) [] rfl) (hK.sub (tys' := []) [] rfl)⟩ rfl rfl hl.1 rfl (lv_room (Nat.le_of_ble_eq_true rfl)) d_S_unmetBefore_41 ⟨Nat.le_of_ble_eq_true rfl, Nat.le_of_ble_eq_true rfl⟩) (fun r_1 hr_1 => ?_)
      subst hr_1
      refine nr_iald hx hb hK hP 14 12 rfl rfl (by omega) (by decide) d_S_unmetBefore_44 ?_
      exact W.iret (v := (nI (S 7 ((d - 1) * 6 + ((P 0 0) - 1))))) hx hb hr (fun t ht hW => ⟨_, rfl, by unfold ubef; rw [if_neg (by omega), if_neg c_18], ht⟩) (fun q h => by cases h) d_S_unmetBefore_45
    · refine nr_iconst hx hb 0 d_S_unmetBefore_21 (by decide) ?_
      refine lv_goto (tgt := 45) hx hb d_S_unmetBefore_22 (by decide) ?_
      exact W.iret (v := (nI 0)) hx hb hr (fun t ht hW => ⟨_, rfl, by unfold ubef; rw [if_neg (by omega), if_pos c_18], ht⟩) (fun q h => by cases h) d_S_unmetBefore_45
  · refine lv_aload_n hx hb d_S_unmetBefore_4 rfl (lv_at hl 0 rfl) ?_
    refine va_get (D := D) (ci := 1) (v := .ref (ad 15)) (C := R_S) (T := F_S) (N := 15) hx hb htb u_S hown hK hP 7 rfl rfl 7 (by decide) (htb _ q91) (fun _ h9 => h9) rfl d_S_unmetBefore_5 ?_
    refine lv_iload_n hx hb d_S_unmetBefore_8 rfl (lv_at hl 1 rfl) ?_
    refine nr_iconst hx hb 1 d_S_unmetBefore_9 (by decide) ?_
    refine nr_isub hx hb (by omega) d_S_unmetBefore_10 ?_
    refine lv_iload_n hx hb d_S_unmetBefore_11 rfl (lv_at hl 2 rfl) ?_
    refine nr_calli (va_runSN (As := [.int (nI (p1 - 1)), .int (nI d)]) (rest := [.ref (ad 15)]) ⟨hx, hb, hml, hown, hts⟩ (c_R_cell l D (p1 - 1) d) ⟨va_cnB 2 hts (gTB q_R_cell) rfl rfl rfl (hN.nw q489 rfl) (htb _ q1) hd_R_cell ⟨Nat.le_of_ble_eq_true rfl, Nat.le_of_ble_eq_true rfl⟩, (htb _ q174), trivial⟩ ⟨ro_blind, ro_pre hN (hP.sub (ws' := []) [] rfl) (hK.sub (tys' := []) [] rfl)⟩ rfl rfl hl.1 rfl (lv_room (Nat.le_of_ble_eq_true rfl)) d_S_unmetBefore_12 ⟨Nat.le_of_ble_eq_true rfl, Nat.le_of_ble_eq_true rfl⟩) (fun r_2 hr_2 => ?_)
    subst hr_2
    refine nr_iald hx hb hK hP 14 12 rfl rfl (by omega) (by decide) d_S_unmetBefore_15 ?_
    exact W.iret (v := (nI (S 7 (d * 6 + (p1 - 1))))) hx hb hr (fun t ht hW => ⟨_, rfl, by unfold ubef; rw [if_pos c_1], ht⟩) (fun q h => by cases h) d_S_unmetBefore_16
set_option maxHeartbeats 4000000 in
set_option maxRecDepth 100000 in
theorem c_S_staysBelowBest (l : Launch) (D : va_G) (ad : Nat → Nat) (ca : Nat → ClassId) (P S : Nat → Nat → Nat) (a : Nat) (cS : ClassId) (ro : Nat → Nat) (hP0 : okP P) (hS0 : okS S) (hro : ∀ k, ro k ≤ 3) (p1 d sf : Nat) (hp : p1 < P 0 0) (hd : d < 7) (hsf : sf ≤ 3) (sz : Nat) : Met l y_S_staysBelowBest w_S_staysBelowBest { frames := 2, cells := 0, slots := 0, locals := 43 } (rw_P [.ref (ad 2), .int (nI p1), .int (nI d), .int (nI sf)] D (wSP ad ca P S a cS ro) (tSP ca cS) sz) (rw_Qi (fun (r : Int32) (u : Unit) => r = nI (if sbB P S p1 d sf = true then 1 else 0)) D (wSP ad ca P S a cS ro) (fun u => wSP ad ca P (sbS P S p1 d sf) a cS ro) sz) 0 0 (va_A (wSP ad ca P S a cS ro) sz) := by
  refine Met.ofW (cc := b_S_staysBelowBest) (maxL := 5) (ret := (some .boolean)) (by decide) rfl ?_
  intro p e s m args below meth c s₁ B hml hv
  obtain ⟨rfl, hsz, hN, hP, hK, hD0⟩ := hv
  have hx := B.exec
  have hb := B.bytes
  have hr := B.returns
  have hts := atoms_spec (ws := w_S_staysBelowBest) B.pre
  have htb : ∀ w ∈ TBG, w.before [.ref (ad 2), .int (nI p1), .int (nI d), .int (nI sf)].toArray s = true := fun w h => hts w (List.mem_cons_of_mem _ h)
  have hown : s.vm.findClass R_S = some m.cls := findClass_of_methodNamed B.named
  have hlocks := B.notSynchronized
  subst hsz
  have hD := hD0.self (sz := s.heap.size)
  unfold rw_Qi
  generalize hAe : va_A (wSP ad ca P S a cS ro) s.heap.size = A at hD ⊢
  have hA : ∀ q : Nat, s.heap.size ≤ q → A q := fun q h => by rw [← hAe]; exact Or.inr h
  have hS : va_S A s.heap s.heap [] := va_S.rf
  have hl := lv_entry ([.ref (ad 2), .int (nI p1), .int (nI d), .int (nI sf)]) (n := 5) (Nat.le_of_ble_eq_true rfl)
  rw [lg_entry_eq]
  generalize (lg_sl ([.ref (ad 2), .int (nI p1), .int (nI d), .int (nI sf)]) ++ List.replicate (5 - (lg_sl ([.ref (ad 2), .int (nI p1), .int (nI d), .int (nI sf)])).length) Slot.unset).toArray = ls at hl ⊢
  have hl : lv_has ls 5 [(0, .ref (ad 2)), (1, .int (nI p1)), (2, .int (nI d)), (3, .int (nI sf))] := hl
  refine nr_start hP hS (fun H locs hP hS => ?_)
  obtain ⟨h00, h01, h02, h03, h04, h05, hp1, hp2, hp3, hp4, hp5, hp6⟩ := id hP0
  obtain ⟨g00, g01, g02, g03, g04, g05, g06, hs1, hs2, hs3, hs4, hs5, hs6, hs7⟩ := id hS0
  have hub := ubef_le (P := P) hS0 h00 p1 d hp hd
  refine lv_iload_n hx hb d_S_staysBelowBest_0 rfl (lv_at hl 1 rfl) ?_
  refine lv_iload_n hx hb d_S_staysBelowBest_1 rfl (lv_at hl 2 rfl) ?_
  refine nr_calli (va_runSN (As := [.int (nI p1), .int (nI d)]) (rest := []) ⟨hx, hb, hml, hown, hts⟩ (c_R_cell l D p1 d) ⟨va_cnB 2 hts (gTB q_R_cell) rfl rfl rfl (hN.nw q489 rfl) (htb _ q1) hd_R_cell ⟨Nat.le_of_ble_eq_true rfl, Nat.le_of_ble_eq_true rfl⟩, (htb _ q174), trivial⟩ ⟨ro_blind, ro_pre hN (hP.sub (ws' := []) [] rfl) (hK.sub (tys' := []) [] rfl)⟩ rfl rfl hl.1 rfl (lv_room (Nat.le_of_ble_eq_true rfl)) d_S_staysBelowBest_2 ⟨Nat.le_of_ble_eq_true rfl, Nat.le_of_ble_eq_true rfl⟩) (fun r_1 hr_1 => ?_)
  subst hr_1
  refine lv_istore (lv' := [(4, .int (nI (d * 6 + p1))), (0, .ref (ad 2)), (1, .int (nI p1)), (2, .int (nI d)), (3, .int (nI sf))]) hx hb d_S_staysBelowBest_5 hl (by decide) rfl (fun ls hl => ?_)
  refine lv_aload_n hx hb d_S_staysBelowBest_7 rfl (lv_at hl 1 rfl) ?_
  refine va_get (D := D) (ci := 1) (v := .ref (ad 15)) (C := R_S) (T := F_S) (N := 15) hx hb htb u_S hown hK hP 7 rfl rfl 7 (by decide) (htb _ q91) (fun _ h9 => h9) rfl d_S_staysBelowBest_8 ?_
  refine lv_iload hx hb d_S_staysBelowBest_11 (lv_at hl 0 rfl) ?_
  refine lv_aload_n hx hb d_S_staysBelowBest_13 rfl (lv_at hl 1 rfl) ?_
  refine lv_iload_n hx hb d_S_staysBelowBest_14 rfl (lv_at hl 2 rfl) ?_
  refine lv_iload_n hx hb d_S_staysBelowBest_15 rfl (lv_at hl 3 rfl) ?_
  refine nr_calli (va_runV (As := [.int (nI p1), .int (nI d)]) (rest := [.int (nI (d * 6 + p1)), .ref (ad 15)]) ⟨hx, hb, hml, hown, hts⟩ (c_S_unmetBefore l D ad ca P S a cS ro hP0 hS0 hro p1 d (by omega) (by omega)) ⟨callB_of 2 hts (gTB q_S_unmetBefore) rfl rfl rfl (htb _ q3) (htb _ q505) hd_S_unmetBefore ⟨Nat.le_of_ble_eq_true rfl, Nat.le_of_ble_eq_true rfl⟩, (htb _ q507), (htb _ sel_S_unmetBefore)⟩ ⟨ro_blind, va_recv (hK.sub (tys' := []) [] rfl) hP (ci := 1) (q0 := 7) rfl rfl, ro_pre hN (hP.sub (ws' := (wSP ad ca P S a cS ro)) [0, 1, 2, 3, 4, 5, 6, 7, 8, 9, 10, 11, 12, 13, 14, 15] rfl) (hK.sub (tys' := (tSP ca cS)) [0, 1, 2, 3, 4, 5, 6, 7, 8, 9, 10, 11, 12, 13] rfl)⟩ rfl rfl hl.1 rfl (lv_room (Nat.le_of_ble_eq_true rfl)) d_S_staysBelowBest_16 ⟨Nat.le_of_ble_eq_true rfl, Nat.le_of_ble_eq_true rfl⟩) (fun r_2 hr_2 => ?_)
  subst hr_2
  refine lv_aload_n hx hb d_S_staysBelowBest_19 rfl (lv_at hl 1 rfl) ?_
  refine va_get (D := D) (ci := 1) (v := .ref (ad 1)) (C := R_S) (T := F_S) (N := 15) hx hb htb u_S hown hK hP 7 rfl rfl 0 (by decide) (htb _ q83) (fun _ h9 => h9) rfl d_S_staysBelowBest_20 ?_
  refine va_getN (D := D) (ci := 0) (v := .ref (ad 8)) (C := R_P) (T := F_P) (N := 12) hx hb htb u_P hown hK hP 0 rfl rfl 11 (by decide) (hN.at q49 rfl rfl) (fun _ h9 => h9) rfl d_S_staysBelowBest_23 ?_
  refine lv_iload_n hx hb d_S_staysBelowBest_26 rfl (lv_at hl 2 rfl) ?_
  refine lv_iload_n hx hb d_S_staysBelowBest_27 rfl (lv_at hl 3 rfl) ?_
  refine lv_iload_n hx hb d_S_staysBelowBest_28 rfl (lv_at hl 4 rfl) ?_
  refine nr_calli (va_runSN (As := [.int (nI p1), .int (nI d), .int (nI sf)]) (rest := [.ref (ad 8), .int (nI (ubef P S p1 d)), .int (nI (d * 6 + p1)), .ref (ad 15)]) ⟨hx, hb, hml, hown, hts⟩ (c_R_choice l D p1 d sf) ⟨va_cnB 3 hts (gTB q_R_choice) rfl rfl rfl (hN.nw q500 rfl) (htb _ q1) hd_R_choice ⟨Nat.le_of_ble_eq_true rfl, Nat.le_of_ble_eq_true rfl⟩, (htb _ q206), trivial⟩ ⟨ro_blind, ro_pre hN (hP.sub (ws' := []) [] rfl) (hK.sub (tys' := []) [] rfl)⟩ rfl rfl hl.1 rfl (lv_room (Nat.le_of_ble_eq_true rfl)) d_S_staysBelowBest_29 ⟨Nat.le_of_ble_eq_true rfl, Nat.le_of_ble_eq_true rfl⟩) (fun r_3 hr_3 => ?_)
  subst hr_3
  refine nr_iald hx hb hK hP 6 5 rfl rfl (by omega) (by decide) d_S_staysBelowBest_32 ?_
  have hv_4 := hp6 ((d * 6 + p1) * 4 + sf)
  refine nr_iadd hx hb d_S_staysBelowBest_33 ?_
  refine nr_iast hx hb hK hP hD hS 14 12 rfl rfl (by omega) (by decide) d_S_staysBelowBest_34 (fun H locs hP hD hS => ?_)
  have hP : va_P D cls (wSP ad ca P (up2 S 7 (d * 6 + p1) ((ubef P S p1 d) + (P 6 ((d * 6 + p1) * 4 + sf)))) a cS ro) H := hP
  have hD : va_D A (wSP ad ca P (up2 S 7 (d * 6 + p1) ((ubef P S p1 d) + (P 6 ((d * 6 + p1) * 4 + sf)))) a cS ro) := hD
  refine lv_aload_n hx hb d_S_staysBelowBest_35 rfl (lv_at hl 1 rfl) ?_
  refine va_get (D := D) (ci := 1) (v := .ref (ad 15)) (C := R_S) (T := F_S) (N := 15) hx hb htb u_S hown hK hP 7 rfl rfl 7 (by decide) (htb _ q91) (fun _ h9 => h9) rfl d_S_staysBelowBest_36 ?_
  refine lv_iload hx hb d_S_staysBelowBest_39 (lv_at hl 0 rfl) ?_
  refine nr_iald hx hb hK hP 14 12 rfl rfl (by omega) (by decide) d_S_staysBelowBest_41 ?_
  refine nr_top (y := nI ((ubef P S p1 d) + (P 6 ((d * 6 + p1) * 4 + sf)))) (by simp [up2, upr]) ?_
  refine lv_aload_n hx hb d_S_staysBelowBest_42 rfl (lv_at hl 1 rfl) ?_
  refine va_get (D := D) (ci := 1) (v := .int (nI (S 0 4))) (C := R_S) (T := F_S) (N := 15) hx hb htb u_S hown hK hP 7 rfl rfl 12 (by decide) (htb _ q98) (fun _ h9 => h9) rfl d_S_staysBelowBest_43 ?_
  refine nr_icmp_ge (tgt := 53) hx hb (by omega) (by omega) d_S_staysBelowBest_46 (by decide) (fun c_46 => ?_) (fun c_46 => ?_)
  · refine nr_iconst hx hb 0 d_S_staysBelowBest_53 (by decide) ?_
    have hfin : sbS P S p1 d sf = up2 S 7 (d * 6 + p1) ((ubef P S p1 d) + (P 6 ((d * 6 + p1) * 4 + sf))) := rfl
    rw [← hfin] at hP hD
    exact W.zret (v := (nI 0)) hx hb hr rfl (fun t ht hW => ⟨⟨_, (), rfl, by rw [sbB, decide_eq_false (by omega)]; rfl, by rw [ht]; exact hP, hD⟩, hS.F ht⟩) hS.2.2 d_S_staysBelowBest_54
  · refine nr_iconst hx hb 1 d_S_staysBelowBest_49 (by decide) ?_
    refine lv_goto (tgt := 54) hx hb d_S_staysBelowBest_50 (by decide) ?_
    have hfin : sbS P S p1 d sf = up2 S 7 (d * 6 + p1) ((ubef P S p1 d) + (P 6 ((d * 6 + p1) * 4 + sf))) := rfl
    rw [← hfin] at hP hD
    exact W.zret (v := (nI 1)) hx hb hr rfl (fun t ht hW => ⟨⟨_, (), rfl, by rw [sbB, decide_eq_true c_46]; rfl, by rw [ht]; exact hP, hD⟩, hS.F ht⟩) hS.2.2 d_S_staysBelowBest_54
